-- TensorForge$Layer takeForm (III)V
abbrev zr_takeForm_4_3 : Room := { frames := 0, cells := 0, slots := 0, locals := 0 }
def zp_takeForm_4_3 (t : Int) (p0 : Int) (p1 : Int) (p2 : Int) (S0 : zz_S) : zz_S → Prop := fun S => zz_G S ∧ zz_fr [] [] (fun a i => (a = zz_rf 6 t ∧ i = 10) ∨ (a = zz_rf 6 t ∧ i = 11) ∨ (a = zz_rf 6 t ∧ i = 12)) S0 S ∧ (S (zz_rf 6 t) 12 = p2) ∧ (S (zz_rf 6 t) 10 = p0 ∧ S (zz_rf 6 t) 11 = p1)
theorem zc_takeForm_4_3 {g : mm_G} {l : Launch} (t : Int) (p0 : Int) (p1 : Int) (p2 : Int) (S0 : zz_S) (n : Nat) (hn : zz_end ≤ n) (G_S0 : zz_G S0) (ht : 0 ≤ t ∧ t ≤ 23) (hp0 : (-2147483648) ≤ p0 ∧ p0 ≤ 2147483647) (hp1 : (-2147483648) ≤ p1 ∧ p1 ≤ 2147483647) (hp2 : (-2147483648) ≤ p2 ∧ p2 ≤ 2147483647) : mm_Met g l zy_takeForm_4_3 zr_takeForm_4_3 [.ref (zz_rf 6 t), zi p0, zi p1, zi p2] (zz_M S0 n) n (zz_QV n (zp_takeForm_4_3 t p0 p1 p2 S0)) := by
  refine zz_enter (by decide) (Nat.le_of_ble_eq_true rfl) (zz_less (ls1 := [some (.ref (zz_rf 6 t)), some (zi p0), some (zi p1), some (zi p2)]) ⟨rfl, ⟨rfl, ⟨rfl, ⟨rfl, trivial⟩⟩⟩⟩ ?_)
  have F_S0 : zz_fr [] [] (fun a i => (a = zz_rf 6 t ∧ i = 10) ∨ (a = zz_rf 6 t ∧ i = 11) ∨ (a = zz_rf 6 t ∧ i = 12)) S0 S0 := zz_fr.refl
  have b_t := zz_rf6 (z := t) (by omega)
  refine zz_aload_n (x := zz_rf 6 t) rfl zd_4_3_0 ?_
  refine zz_iload_n (x := p0) rfl zd_4_3_1 ?_
  refine zz_puti zd_4_3_2 zf_Layer_54 (zT_k6 (by omega)) rfl (zN_k6 hn (by omega)) (fun S1 qS1 => ?_)
  have G_S1 := zz_G.put G_S0 qS1 (-2147483648) 2147483647 (zR_k6_10 (by omega)) (by omega)
  have F_S1 := zz_fr.putv F_S0 qS1 (Or.inl ⟨rfl, rfl⟩)
  refine zz_aload_n (x := zz_rf 6 t) rfl zd_4_3_5 ?_
  refine zz_iload_n (x := p1) rfl zd_4_3_6 ?_
  refine zz_puti zd_4_3_7 zf_Layer_57 (zT_k6 (by omega)) rfl (zN_k6 hn (by omega)) (fun S2 qS2 => ?_)
  have G_S2 := zz_G.put G_S1 qS2 (-2147483648) 2147483647 (zR_k6_11 (by omega)) (by omega)
  have F_S2 := zz_fr.putv F_S1 qS2 (Or.inr (Or.inl ⟨rfl, rfl⟩))
  refine zz_aload_n (x := zz_rf 6 t) rfl zd_4_3_10 ?_
  refine zz_iload_n (x := p2) rfl zd_4_3_11 ?_
  refine zz_puti zd_4_3_12 zf_Layer_60 (zT_k6 (by omega)) rfl (zN_k6 hn (by omega)) (fun S3 qS3 => ?_)
  have G_S3 := zz_G.put G_S2 qS3 (-2147483648) 2147483647 (zR_k6_12 (by omega)) (by omega)
  have F_S3 := zz_fr.putv F_S2 qS3 (Or.inr (Or.inr (⟨rfl, rfl⟩)))
  have e4 : S3 (zz_rf 6 t) 12 = p2 := (zz_rs qS3)
  have e5 : S3 (zz_rf 6 t) 10 = p0 := (zz_ro qS3 (fun h => absurd h.2 (by decide)) (zz_ro qS2 (fun h => absurd h.2 (by decide)) (zz_rs qS1)))
  have e6 : S3 (zz_rf 6 t) 11 = p1 := (zz_ro qS3 (fun h => absurd h.2 (by decide)) (zz_rs qS2))
  exact zz_vret zd_4_3_15 rfl (Nat.zero_le _) (Nat.zero_le _) ⟨_, rfl, G_S3, F_S3, by omega, by omega⟩
-- TensorForge$Layer reset (III)V
abbrev zr_reset_4_2 : Room := { frames := 1, cells := 0, slots := 0, locals := 15 }
def zp_reset_4_2 (t : Int) (p0 : Int) (p1 : Int) (p2 : Int) (S0 : zz_S) : zz_S → Prop := fun S => zz_G S ∧ zz_fr [] [] (fun a i => (a = zz_rf 6 t ∧ i = 0) ∨ (a = zz_rf 6 t ∧ i = 1) ∨ (a = zz_rf 6 t ∧ i = 10) ∨ (a = zz_rf 6 t ∧ i = 11) ∨ (a = zz_rf 6 t ∧ i = 12) ∨ (a = zz_rf 6 t ∧ i = 13) ∨ (a = zz_rf 6 t ∧ i = 14) ∨ (a = zz_rf 6 t ∧ i = 2) ∨ (a = zz_rf 6 t ∧ i = 3) ∨ (a = zz_rf 6 t ∧ i = 4) ∨ (a = zz_rf 6 t ∧ i = 5) ∨ (a = zz_rf 6 t ∧ i = 6) ∨ (a = zz_rf 6 t ∧ i = 7) ∨ (a = zz_rf 6 t ∧ i = 8) ∨ (a = zz_rf 6 t ∧ i = 9)) S0 S ∧ (S (zz_rf 6 t) 0 = p0 ∧ S (zz_rf 6 t) 3 = 1 ∧ S (zz_rf 6 t) 4 = 1 ∧ S (zz_rf 6 t) 12 = 1) ∧ (S (zz_rf 6 t) 1 = p1 ∧ S (zz_rf 6 t) 2 = p2 ∧ S (zz_rf 6 t) 5 = 1 ∧ S (zz_rf 6 t) 6 = 0 ∧ S (zz_rf 6 t) 7 = 0 ∧ S (zz_rf 6 t) 8 = 0 ∧ S (zz_rf 6 t) 9 = 0 ∧ S (zz_rf 6 t) 10 = 1 ∧ S (zz_rf 6 t) 11 = 1 ∧ S (zz_rf 6 t) 13 = 0)
theorem zc_reset_4_2 {g : mm_G} {l : Launch} (t : Int) (p0 : Int) (p1 : Int) (p2 : Int) (S0 : zz_S) (n : Nat) (hn : zz_end ≤ n) (G_S0 : zz_G S0) (ht : 0 ≤ t ∧ t ≤ 23) (hp0 : (-2147483648) ≤ p0 ∧ p0 ≤ 2147483647) (hp1 : (-2147483648) ≤ p1 ∧ p1 ≤ 2147483647) (hp2 : (-2147483648) ≤ p2 ∧ p2 ≤ 2147483647) : mm_Met g l zy_reset_4_2 zr_reset_4_2 [.ref (zz_rf 6 t), zi p0, zi p1, zi p2] (zz_M S0 n) n (zz_QV n (zp_reset_4_2 t p0 p1 p2 S0)) := by
  refine zz_enter (by decide) (Nat.le_of_ble_eq_true rfl) (zz_less (ls1 := [some (.ref (zz_rf 6 t)), some (zi p0), some (zi p1), some (zi p2)]) ⟨rfl, ⟨rfl, ⟨rfl, ⟨rfl, trivial⟩⟩⟩⟩ ?_)
  have F_S0 : zz_fr [] [] (fun a i => (a = zz_rf 6 t ∧ i = 0) ∨ (a = zz_rf 6 t ∧ i = 1) ∨ (a = zz_rf 6 t ∧ i = 10) ∨ (a = zz_rf 6 t ∧ i = 11) ∨ (a = zz_rf 6 t ∧ i = 12) ∨ (a = zz_rf 6 t ∧ i = 13) ∨ (a = zz_rf 6 t ∧ i = 14) ∨ (a = zz_rf 6 t ∧ i = 2) ∨ (a = zz_rf 6 t ∧ i = 3) ∨ (a = zz_rf 6 t ∧ i = 4) ∨ (a = zz_rf 6 t ∧ i = 5) ∨ (a = zz_rf 6 t ∧ i = 6) ∨ (a = zz_rf 6 t ∧ i = 7) ∨ (a = zz_rf 6 t ∧ i = 8) ∨ (a = zz_rf 6 t ∧ i = 9)) S0 S0 := zz_fr.refl
  have b_t := zz_rf6 (z := t) (by omega)
  refine zz_aload_n (x := zz_rf 6 t) rfl zd_4_2_0 ?_
  refine zz_iload_n (x := p0) rfl zd_4_2_1 ?_
  refine zz_puti zd_4_2_2 zf_Layer_13 (zT_k6 (by omega)) rfl (zN_k6 hn (by omega)) (fun S1 qS1 => ?_)
  have G_S1 := zz_G.put G_S0 qS1 (-2147483648) 2147483647 (zR_k6_0 (by omega)) (by omega)
  have F_S1 := zz_fr.putv F_S0 qS1 (Or.inl ⟨rfl, rfl⟩)
  refine zz_aload_n (x := zz_rf 6 t) rfl zd_4_2_5 ?_
  refine zz_iload_n (x := p1) rfl zd_4_2_6 ?_
  refine zz_puti zd_4_2_7 zf_Layer_17 (zT_k6 (by omega)) rfl (zN_k6 hn (by omega)) (fun S2 qS2 => ?_)
  have G_S2 := zz_G.put G_S1 qS2 (-2147483648) 2147483647 (zR_k6_1 (by omega)) (by omega)
  have F_S2 := zz_fr.putv F_S1 qS2 (Or.inr (Or.inl ⟨rfl, rfl⟩))
  refine zz_aload_n (x := zz_rf 6 t) rfl zd_4_2_10 ?_
  refine zz_iload_n (x := p2) rfl zd_4_2_11 ?_
  refine zz_puti zd_4_2_12 zf_Layer_20 (zT_k6 (by omega)) rfl (zN_k6 hn (by omega)) (fun S3 qS3 => ?_)
  have G_S3 := zz_G.put G_S2 qS3 (-2147483648) 2147483647 (zR_k6_2 (by omega)) (by omega)
  have F_S3 := zz_fr.putv F_S2 qS3 (Or.inr (Or.inr (Or.inr (Or.inr (Or.inr (Or.inr (Or.inr (Or.inl ⟨rfl, rfl⟩))))))))
  refine zz_aload_n (x := zz_rf 6 t) rfl zd_4_2_15 ?_
  refine zz_iconst zd_4_2_16 ?_
  refine zz_puti zd_4_2_17 zf_Layer_23 (zT_k6 (by omega)) rfl (zN_k6 hn (by omega)) (fun S4 qS4 => ?_)
  have G_S4 := zz_G.put G_S3 qS4 (-2147483648) 2147483647 (zR_k6_3 (by omega)) (by omega)
  have F_S4 := zz_fr.putv F_S3 qS4 (Or.inr (Or.inr (Or.inr (Or.inr (Or.inr (Or.inr (Or.inr (Or.inr (Or.inl ⟨rfl, rfl⟩)))))))))
  refine zz_aload_n (x := zz_rf 6 t) rfl zd_4_2_20 ?_
  refine zz_iconst zd_4_2_21 ?_
  refine zz_puti zd_4_2_22 zf_Layer_26 (zT_k6 (by omega)) rfl (zN_k6 hn (by omega)) (fun S5 qS5 => ?_)
  have G_S5 := zz_G.put G_S4 qS5 (-2147483648) 2147483647 (zR_k6_4 (by omega)) (by omega)
  have F_S5 := zz_fr.putv F_S4 qS5 (Or.inr (Or.inr (Or.inr (Or.inr (Or.inr (Or.inr (Or.inr (Or.inr (Or.inr (Or.inl ⟨rfl, rfl⟩))))))))))
  refine zz_aload_n (x := zz_rf 6 t) rfl zd_4_2_25 ?_
  refine zz_iconst zd_4_2_26 ?_
  refine zz_puti zd_4_2_27 zf_Layer_29 (zT_k6 (by omega)) rfl (zN_k6 hn (by omega)) (fun S6 qS6 => ?_)
  have G_S6 := zz_G.put G_S5 qS6 (-2147483648) 2147483647 (zR_k6_5 (by omega)) (by omega)
  have F_S6 := zz_fr.putv F_S5 qS6 (Or.inr (Or.inr (Or.inr (Or.inr (Or.inr (Or.inr (Or.inr (Or.inr (Or.inr (Or.inr (Or.inl ⟨rfl, rfl⟩)))))))))))
  refine zz_aload_n (x := zz_rf 6 t) rfl zd_4_2_30 ?_
  refine zz_iconst zd_4_2_31 ?_
  refine zz_puti zd_4_2_32 zf_Layer_32 (zT_k6 (by omega)) rfl (zN_k6 hn (by omega)) (fun S7 qS7 => ?_)
  have G_S7 := zz_G.put G_S6 qS7 (-2147483648) 2147483647 (zR_k6_6 (by omega)) (by omega)
  have F_S7 := zz_fr.putv F_S6 qS7 (Or.inr (Or.inr (Or.inr (Or.inr (Or.inr (Or.inr (Or.inr (Or.inr (Or.inr (Or.inr (Or.inr (Or.inl ⟨rfl, rfl⟩))))))))))))
  refine zz_aload_n (x := zz_rf 6 t) rfl zd_4_2_35 ?_
  refine zz_iconst zd_4_2_36 ?_
  refine zz_puti zd_4_2_37 zf_Layer_35 (zT_k6 (by omega)) rfl (zN_k6 hn (by omega)) (fun S8 qS8 => ?_)
  have G_S8 := zz_G.put G_S7 qS8 (-2147483648) 2147483647 (zR_k6_7 (by omega)) (by omega)
  have F_S8 := zz_fr.putv F_S7 qS8 (Or.inr (Or.inr (Or.inr (Or.inr (Or.inr (Or.inr (Or.inr (Or.inr (Or.inr (Or.inr (Or.inr (Or.inr (Or.inl ⟨rfl, rfl⟩)))))))))))))
  refine zz_aload_n (x := zz_rf 6 t) rfl zd_4_2_40 ?_
  refine zz_iconst zd_4_2_41 ?_
  refine zz_putz zd_4_2_42 zf_Layer_38 (zT_k6 (by omega)) rfl (zN_k6 hn (by omega)) (by omega) (fun S9 qS9 => ?_)
  have G_S9 := zz_G.put G_S8 qS9 0 1 (zR_k6_8 (by omega)) (by omega)
  have F_S9 := zz_fr.putv F_S8 qS9 (Or.inr (Or.inr (Or.inr (Or.inr (Or.inr (Or.inr (Or.inr (Or.inr (Or.inr (Or.inr (Or.inr (Or.inr (Or.inr (Or.inl ⟨rfl, rfl⟩))))))))))))))
  refine zz_aload_n (x := zz_rf 6 t) rfl zd_4_2_45 ?_
  refine zz_iconst zd_4_2_46 ?_
  refine zz_puti zd_4_2_47 zf_Layer_42 (zT_k6 (by omega)) rfl (zN_k6 hn (by omega)) (fun S10 qS10 => ?_)
  have G_S10 := zz_G.put G_S9 qS10 (-2147483648) 2147483647 (zR_k6_9 (by omega)) (by omega)
  have F_S10 := zz_fr.putv F_S9 qS10 (Or.inr (Or.inr (Or.inr (Or.inr (Or.inr (Or.inr (Or.inr (Or.inr (Or.inr (Or.inr (Or.inr (Or.inr (Or.inr (Or.inr (⟨rfl, rfl⟩)))))))))))))))
  refine zz_aload_n (x := zz_rf 6 t) rfl zd_4_2_50 ?_
  refine zz_iconst zd_4_2_51 ?_
  refine zz_iconst zd_4_2_52 ?_
  refine zz_iconst zd_4_2_53 ?_
  refine zz_callVV [zi 1, zi 1, zi 1] zd_4_2_54 zk_Layer_45 (zT_k6 (by omega)) (zN_k6 hn (by omega)) rfl rfl ⟨Nat.le_of_ble_eq_true rfl, Nat.le_of_ble_eq_true rfl⟩ ⟨rfl, rfl⟩ (Nat.zero_le _) (Nat.zero_le _) (zc_takeForm_4_3 t 1 1 1 S10 n hn G_S10 (by omega) (by omega) (by omega) (by omega)) (fun S11 hP => ?_)
  obtain ⟨G_S11, fS11, o13, o14⟩ := hP
  have F_S11 := zz_fr.trans F_S10 fS11 rfl (fun a i h => by rcases h with h | h | h; exact Or.inr (Or.inr (Or.inr (Or.inr (Or.inl h)))); exact Or.inr (Or.inr (Or.inr (Or.inr (Or.inr (Or.inl h))))); exact Or.inr (Or.inr (Or.inr (Or.inr (Or.inr (Or.inr (Or.inl h)))))))
  have b15 := zz_rf6 (z := t) (by omega)
  refine zz_aload_n (x := zz_rf 6 t) rfl zd_4_2_57 ?_
  refine zz_iconst zd_4_2_58 ?_
  refine zz_puti zd_4_2_59 zf_Layer_48 (zT_k6 (by omega)) rfl (zN_k6 hn (by omega)) (fun S16 qS16 => ?_)
  have G_S16 := zz_G.put G_S11 qS16 (-2147483648) 2147483647 (zR_k6_13 (by omega)) (by omega)
  have F_S16 := zz_fr.putv F_S11 qS16 (Or.inr (Or.inr (Or.inr (Or.inr (Or.inr (Or.inl ⟨rfl, rfl⟩))))))
  refine zz_aload_n (x := zz_rf 6 t) rfl zd_4_2_62 ?_
  refine zz_iconst zd_4_2_63 ?_
  refine zz_puti zd_4_2_64 zf_Layer_51 (zT_k6 (by omega)) rfl (zN_k6 hn (by omega)) (fun S17 qS17 => ?_)
  have G_S17 := zz_G.put G_S16 qS17 (-2147483648) 2147483647 (zR_k6_14 (by omega)) (by omega)
  have F_S17 := zz_fr.putv F_S16 qS17 (Or.inr (Or.inr (Or.inr (Or.inr (Or.inr (Or.inr (Or.inl ⟨rfl, rfl⟩)))))))
  have e18 : S17 (zz_rf 6 t) 0 = p0 := (zz_ro qS17 (fun h => absurd h.2 (by decide)) (zz_ro qS16 (fun h => absurd h.2 (by decide)) (zz_rc fS11 (zP_k6 (by omega) rfl) (zQ_k6 (by omega) rfl) (by have hz_ := zz_rf6 (z := t) (by omega); omega) (zz_ro qS10 (fun h => absurd h.2 (by decide)) (zz_ro qS9 (fun h => absurd h.2 (by decide)) (zz_ro qS8 (fun h => absurd h.2 (by decide)) (zz_ro qS7 (fun h => absurd h.2 (by decide)) (zz_ro qS6 (fun h => absurd h.2 (by decide)) (zz_ro qS5 (fun h => absurd h.2 (by decide)) (zz_ro qS4 (fun h => absurd h.2 (by decide)) (zz_ro qS3 (fun h => absurd h.2 (by decide)) (zz_ro qS2 (fun h => absurd h.2 (by decide)) (zz_rs qS1)))))))))))))
  have e19 : S17 (zz_rf 6 t) 12 = S11 (zz_rf 6 t) 12 := (zz_ro qS17 (fun h => absurd h.2 (by decide)) (zz_ro qS16 (fun h => absurd h.2 (by decide)) rfl))
  have e20 : S17 (zz_rf 6 t) 3 = 1 := (zz_ro qS17 (fun h => absurd h.2 (by decide)) (zz_ro qS16 (fun h => absurd h.2 (by decide)) (zz_rc fS11 (zP_k6 (by omega) rfl) (zQ_k6 (by omega) rfl) (by have hz_ := zz_rf6 (z := t) (by omega); omega) (zz_ro qS10 (fun h => absurd h.2 (by decide)) (zz_ro qS9 (fun h => absurd h.2 (by decide)) (zz_ro qS8 (fun h => absurd h.2 (by decide)) (zz_ro qS7 (fun h => absurd h.2 (by decide)) (zz_ro qS6 (fun h => absurd h.2 (by decide)) (zz_ro qS5 (fun h => absurd h.2 (by decide)) (zz_rs qS4))))))))))
  have e21 : S17 (zz_rf 6 t) 4 = 1 := (zz_ro qS17 (fun h => absurd h.2 (by decide)) (zz_ro qS16 (fun h => absurd h.2 (by decide)) (zz_rc fS11 (zP_k6 (by omega) rfl) (zQ_k6 (by omega) rfl) (by have hz_ := zz_rf6 (z := t) (by omega); omega) (zz_ro qS10 (fun h => absurd h.2 (by decide)) (zz_ro qS9 (fun h => absurd h.2 (by decide)) (zz_ro qS8 (fun h => absurd h.2 (by decide)) (zz_ro qS7 (fun h => absurd h.2 (by decide)) (zz_ro qS6 (fun h => absurd h.2 (by decide)) (zz_rs qS5)))))))))
  have e22 : S17 (zz_rf 6 t) 1 = p1 := (zz_ro qS17 (fun h => absurd h.2 (by decide)) (zz_ro qS16 (fun h => absurd h.2 (by decide)) (zz_rc fS11 (zP_k6 (by omega) rfl) (zQ_k6 (by omega) rfl) (by have hz_ := zz_rf6 (z := t) (by omega); omega) (zz_ro qS10 (fun h => absurd h.2 (by decide)) (zz_ro qS9 (fun h => absurd h.2 (by decide)) (zz_ro qS8 (fun h => absurd h.2 (by decide)) (zz_ro qS7 (fun h => absurd h.2 (by decide)) (zz_ro qS6 (fun h => absurd h.2 (by decide)) (zz_ro qS5 (fun h => absurd h.2 (by decide)) (zz_ro qS4 (fun h => absurd h.2 (by decide)) (zz_ro qS3 (fun h => absurd h.2 (by decide)) (zz_rs qS2))))))))))))
  have e23 : S17 (zz_rf 6 t) 10 = S11 (zz_rf 6 t) 10 := (zz_ro qS17 (fun h => absurd h.2 (by decide)) (zz_ro qS16 (fun h => absurd h.2 (by decide)) rfl))
  have e24 : S17 (zz_rf 6 t) 11 = S11 (zz_rf 6 t) 11 := (zz_ro qS17 (fun h => absurd h.2 (by decide)) (zz_ro qS16 (fun h => absurd h.2 (by decide)) rfl))
  have e25 : S17 (zz_rf 6 t) 13 = 0 := (zz_ro qS17 (fun h => absurd h.2 (by decide)) (zz_rs qS16))
  have e26 : S17 (zz_rf 6 t) 2 = p2 := (zz_ro qS17 (fun h => absurd h.2 (by decide)) (zz_ro qS16 (fun h => absurd h.2 (by decide)) (zz_rc fS11 (zP_k6 (by omega) rfl) (zQ_k6 (by omega) rfl) (by have hz_ := zz_rf6 (z := t) (by omega); omega) (zz_ro qS10 (fun h => absurd h.2 (by decide)) (zz_ro qS9 (fun h => absurd h.2 (by decide)) (zz_ro qS8 (fun h => absurd h.2 (by decide)) (zz_ro qS7 (fun h => absurd h.2 (by decide)) (zz_ro qS6 (fun h => absurd h.2 (by decide)) (zz_ro qS5 (fun h => absurd h.2 (by decide)) (zz_ro qS4 (fun h => absurd h.2 (by decide)) (zz_rs qS3)))))))))))
  have e27 : S17 (zz_rf 6 t) 5 = 1 := (zz_ro qS17 (fun h => absurd h.2 (by decide)) (zz_ro qS16 (fun h => absurd h.2 (by decide)) (zz_rc fS11 (zP_k6 (by omega) rfl) (zQ_k6 (by omega) rfl) (by have hz_ := zz_rf6 (z := t) (by omega); omega) (zz_ro qS10 (fun h => absurd h.2 (by decide)) (zz_ro qS9 (fun h => absurd h.2 (by decide)) (zz_ro qS8 (fun h => absurd h.2 (by decide)) (zz_ro qS7 (fun h => absurd h.2 (by decide)) (zz_rs qS6))))))))
  have e28 : S17 (zz_rf 6 t) 6 = 0 := (zz_ro qS17 (fun h => absurd h.2 (by decide)) (zz_ro qS16 (fun h => absurd h.2 (by decide)) (zz_rc fS11 (zP_k6 (by omega) rfl) (zQ_k6 (by omega) rfl) (by have hz_ := zz_rf6 (z := t) (by omega); omega) (zz_ro qS10 (fun h => absurd h.2 (by decide)) (zz_ro qS9 (fun h => absurd h.2 (by decide)) (zz_ro qS8 (fun h => absurd h.2 (by decide)) (zz_rs qS7)))))))
  have e29 : S17 (zz_rf 6 t) 7 = 0 := (zz_ro qS17 (fun h => absurd h.2 (by decide)) (zz_ro qS16 (fun h => absurd h.2 (by decide)) (zz_rc fS11 (zP_k6 (by omega) rfl) (zQ_k6 (by omega) rfl) (by have hz_ := zz_rf6 (z := t) (by omega); omega) (zz_ro qS10 (fun h => absurd h.2 (by decide)) (zz_ro qS9 (fun h => absurd h.2 (by decide)) (zz_rs qS8))))))
  have e30 : S17 (zz_rf 6 t) 8 = 0 := (zz_ro qS17 (fun h => absurd h.2 (by decide)) (zz_ro qS16 (fun h => absurd h.2 (by decide)) (zz_rc fS11 (zP_k6 (by omega) rfl) (zQ_k6 (by omega) rfl) (by have hz_ := zz_rf6 (z := t) (by omega); omega) (zz_ro qS10 (fun h => absurd h.2 (by decide)) (zz_rs qS9)))))
  have e31 : S17 (zz_rf 6 t) 9 = 0 := (zz_ro qS17 (fun h => absurd h.2 (by decide)) (zz_ro qS16 (fun h => absurd h.2 (by decide)) (zz_rc fS11 (zP_k6 (by omega) rfl) (zQ_k6 (by omega) rfl) (by have hz_ := zz_rf6 (z := t) (by omega); omega) (zz_rs qS10))))
  exact zz_vret zd_4_2_67 rfl (Nat.zero_le _) (Nat.zero_le _) ⟨_, rfl, G_S17, F_S17, by omega, by omega⟩
theorem zk_Network_27 : mm_Vl "TensorForge$Network" 27 2 3 zy_reset_4_2 := ⟨zyw_reset_4_2, (R_Layer, F_Layer, 15), rfl, mm_tb_1 1034 (by decide +kernel) rfl, mm_tb_1 50 (by decide +kernel) rfl, mm_tb_1 51 (by decide +kernel) rfl⟩
theorem zk_Network_31 : mm_Vl "TensorForge$Network" 31 2 3 zy_takeForm_4_3 := ⟨zyw_takeForm_4_3, (R_Layer, F_Layer, 15), rfl, mm_tb_1 1035 (by decide +kernel) rfl, mm_tb_1 54 (by decide +kernel) rfl, mm_tb_1 55 (by decide +kernel) rfl⟩
theorem zg_7_3_16 : zq_at zy_beginWith_7_3.2.1 16 42 ∧ zq_at zy_beginWith_7_3.2.1 17 180 ∧ zq_at zy_beginWith_7_3.2.1 18 0 ∧ zq_at zy_beginWith_7_3.2.1 19 11 ∧ zq_at zy_beginWith_7_3.2.1 20 3 ∧ zq_at zy_beginWith_7_3.2.1 21 50 ∧ zq_at zy_beginWith_7_3.2.1 22 27 ∧ zq_at zy_beginWith_7_3.2.1 23 28 ∧ zq_at zy_beginWith_7_3.2.1 24 29 ∧ zq_at zy_beginWith_7_3.2.1 25 182 ∧ zq_at zy_beginWith_7_3.2.1 26 0 ∧ zq_at zy_beginWith_7_3.2.1 27 31 ∧ zq_at zy_beginWith_7_3.2.1 28 177 := by decide +kernel
theorem zd_7_3_16 : zz_D zy_beginWith_7_3 16 (.aload_n 0) 1 17 := ⟨zq_42 zg_7_3_16.1, rfl⟩
theorem zd_7_3_17 : zz_D zy_beginWith_7_3 17 (.getfield 11) 3 20 := ⟨zq_180 zg_7_3_16.2.1 zg_7_3_16.2.2.1 zg_7_3_16.2.2.2.1 rfl, rfl⟩
theorem zd_7_3_20 : zz_D zy_beginWith_7_3 20 (.iconst 0) 1 21 := ⟨zq_3 zg_7_3_16.2.2.2.2.1, rfl⟩
theorem zd_7_3_21 : zz_D zy_beginWith_7_3 21 (.aaload) 1 22 := ⟨zq_50 zg_7_3_16.2.2.2.2.2.1, rfl⟩
theorem zd_7_3_22 : zz_D zy_beginWith_7_3 22 (.iload_n 1) 1 23 := ⟨zq_27 zg_7_3_16.2.2.2.2.2.2.1, rfl⟩
theorem zd_7_3_23 : zz_D zy_beginWith_7_3 23 (.iload_n 2) 1 24 := ⟨zq_28 zg_7_3_16.2.2.2.2.2.2.2.1, rfl⟩
theorem zd_7_3_24 : zz_D zy_beginWith_7_3 24 (.iload_n 3) 1 25 := ⟨zq_29 zg_7_3_16.2.2.2.2.2.2.2.2.1, rfl⟩
theorem zd_7_3_25 : zz_D zy_beginWith_7_3 25 (.invokevirtual 31) 3 28 := ⟨zq_182 zg_7_3_16.2.2.2.2.2.2.2.2.2.1 zg_7_3_16.2.2.2.2.2.2.2.2.2.2.1 zg_7_3_16.2.2.2.2.2.2.2.2.2.2.2.1 rfl, rfl⟩
theorem zd_7_3_28 : zz_D zy_beginWith_7_3 28 (.return_) 1 29 := ⟨zq_177 zg_7_3_16.2.2.2.2.2.2.2.2.2.2.2.2, rfl⟩
-- TensorForge$Network beginWith (III)V
abbrev zr_beginWith_7_3 : Room := { frames := 2, cells := 0, slots := 0, locals := 30 }
def zp_beginWith_7_3 (t : Int) (p0 : Int) (p1 : Int) (p2 : Int) (S0 : zz_S) : zz_S → Prop := fun S => zz_G S ∧ zz_fr [] [] (fun a i => (a = zz_rf 3 t ∧ i = 1) ∨ (a = zz_rf 6 (12 * t + 0) ∧ i = 0) ∨ (a = zz_rf 6 (12 * t + 0) ∧ i = 1) ∨ (a = zz_rf 6 (12 * t + 0) ∧ i = 10) ∨ (a = zz_rf 6 (12 * t + 0) ∧ i = 11) ∨ (a = zz_rf 6 (12 * t + 0) ∧ i = 12) ∨ (a = zz_rf 6 (12 * t + 0) ∧ i = 13) ∨ (a = zz_rf 6 (12 * t + 0) ∧ i = 14) ∨ (a = zz_rf 6 (12 * t + 0) ∧ i = 2) ∨ (a = zz_rf 6 (12 * t + 0) ∧ i = 3) ∨ (a = zz_rf 6 (12 * t + 0) ∧ i = 4) ∨ (a = zz_rf 6 (12 * t + 0) ∧ i = 5) ∨ (a = zz_rf 6 (12 * t + 0) ∧ i = 6) ∨ (a = zz_rf 6 (12 * t + 0) ∧ i = 7) ∨ (a = zz_rf 6 (12 * t + 0) ∧ i = 8) ∨ (a = zz_rf 6 (12 * t + 0) ∧ i = 9)) S0 S ∧ (S (zz_rf 3 t) 1 = 1) ∧ (0 ≤ S (zz_rf 6 (12 * t + 0)) 3 ∧ S (zz_rf 6 (12 * t + 0)) 0 = 0 ∧ S (zz_rf 6 (12 * t + 0)) 4 = 1 ∧ S (zz_rf 6 (12 * t + 0)) 12 ≤ 63 ∧ S (zz_rf 6 (12 * t + 0)) 3 = 1) ∧ (∀ nm : Int, zn_C S t (zn_ip p0 p1 p2 nm)) ∧ (zz_Hc S)
theorem zc_beginWith_7_3 {g : mm_G} {l : Launch} (t : Int) (p0 : Int) (p1 : Int) (p2 : Int) (S0 : zz_S) (n : Nat) (hn : zz_end ≤ n) (G_S0 : zz_G S0) (ht : 0 ≤ t ∧ t ≤ 1) (hp0 : (-2147483648) ≤ p0 ∧ p0 ≤ 2147483647) (hp1 : (-2147483648) ≤ p1 ∧ p1 ≤ 2147483647) (hp2 : 1 ≤ p2 ∧ p2 ≤ 63) (H_S0 : zz_Hc S0) : mm_Met g l zy_beginWith_7_3 zr_beginWith_7_3 [.ref (zz_rf 3 t), zi p0, zi p1, zi p2] (zz_M S0 n) n (zz_QV n (zp_beginWith_7_3 t p0 p1 p2 S0)) := by
  refine zz_enter (by decide) (Nat.le_of_ble_eq_true rfl) (zz_less (ls1 := [some (.ref (zz_rf 3 t)), some (zi p0), some (zi p1), some (zi p2)]) ⟨rfl, ⟨rfl, ⟨rfl, ⟨rfl, trivial⟩⟩⟩⟩ ?_)
  have F_S0 : zz_fr [] [] (fun a i => (a = zz_rf 3 t ∧ i = 1) ∨ (a = zz_rf 6 (12 * t + 0) ∧ i = 0) ∨ (a = zz_rf 6 (12 * t + 0) ∧ i = 1) ∨ (a = zz_rf 6 (12 * t + 0) ∧ i = 10) ∨ (a = zz_rf 6 (12 * t + 0) ∧ i = 11) ∨ (a = zz_rf 6 (12 * t + 0) ∧ i = 12) ∨ (a = zz_rf 6 (12 * t + 0) ∧ i = 13) ∨ (a = zz_rf 6 (12 * t + 0) ∧ i = 14) ∨ (a = zz_rf 6 (12 * t + 0) ∧ i = 2) ∨ (a = zz_rf 6 (12 * t + 0) ∧ i = 3) ∨ (a = zz_rf 6 (12 * t + 0) ∧ i = 4) ∨ (a = zz_rf 6 (12 * t + 0) ∧ i = 5) ∨ (a = zz_rf 6 (12 * t + 0) ∧ i = 6) ∨ (a = zz_rf 6 (12 * t + 0) ∧ i = 7) ∨ (a = zz_rf 6 (12 * t + 0) ∧ i = 8) ∨ (a = zz_rf 6 (12 * t + 0) ∧ i = 9)) S0 S0 := zz_fr.refl
  have b_t := zz_rf3 (z := t) (by omega)
  refine zz_aload_n (x := zz_rf 3 t) rfl zd_7_3_0 ?_
  refine zz_callVV [] zd_7_3_1 zk_Network_24 (zT_k3 (by omega)) (zN_k3 hn (by omega)) rfl rfl ⟨Nat.le_of_ble_eq_true rfl, Nat.le_of_ble_eq_true rfl⟩ ⟨rfl, rfl⟩ (Nat.zero_le _) (Nat.zero_le _) (zc_dropLayers_7_4 t S0 n hn G_S0 (by omega) H_S0) (fun S1 hP => ?_)
  obtain ⟨G_S1, fS1, o3, o4⟩ := hP
  have F_S1 := zz_fr.trans F_S0 fS1 rfl (fun a i h => Or.inr (Or.inr (Or.inl h)))
  have b5 := zz_rf3 (z := t) (by omega)
  refine zz_aload_n (x := zz_rf 3 t) rfl zd_7_3_4 ?_
  refine zz_getr (kd := 0) (z := ((zz_rf 3 t + 1 : Nat) : Int)) zd_7_3_5 zf_Network_11 (zT_k3 (by omega)) rfl (zN_k3 hn (by omega)) (zE_k3a G_S1 (by omega)) (Int.natCast_nonneg _) (zz_rf 3 t + 1) (Int.toNat_natCast _) ?_
  refine zz_iconst zd_7_3_8 ?_
  refine zz_aald (kd := 4) (z := 12 * t + 0) zd_7_3_9 (zT_k3a (by omega)) rfl (zN_k3a hn (by omega)) (by decide) (by omega) (zE_lay G_S1 (by omega) (by omega)) (by omega) (zz_rf 6 (12 * t + 0)) rfl ?_
  refine zz_iconst zd_7_3_10 ?_
  refine zz_iconst zd_7_3_11 ?_
  refine zz_iconst zd_7_3_12 ?_
  refine zz_callVV [zi 0, zi 0, zi 0] zd_7_3_13 zk_Network_27 (zT_k6 (by omega)) (zN_k6 hn (by omega)) rfl rfl ⟨Nat.le_of_ble_eq_true rfl, Nat.le_of_ble_eq_true rfl⟩ ⟨rfl, rfl⟩ (Nat.zero_le _) (Nat.zero_le _) (zc_reset_4_2 (12 * t + 0) 0 0 0 S1 n hn G_S1 (by omega) (by omega) (by omega) (by omega)) (fun S6 hP => ?_)
  obtain ⟨G_S6, fS6, o8, o9⟩ := hP
  have F_S6 := zz_fr.trans F_S1 fS6 rfl (fun a i h => by rcases h with h | h | h | h | h | h | h | h | h | h | h | h | h | h | h; exact Or.inr (Or.inr (Or.inr (Or.inl h))); exact Or.inr (Or.inr (Or.inr (Or.inr (Or.inl h)))); exact Or.inr (Or.inr (Or.inr (Or.inr (Or.inr (Or.inl h))))); exact Or.inr (Or.inr (Or.inr (Or.inr (Or.inr (Or.inr (Or.inl h)))))); exact Or.inr (Or.inr (Or.inr (Or.inr (Or.inr (Or.inr (Or.inr (Or.inl h))))))); exact Or.inr (Or.inr (Or.inr (Or.inr (Or.inr (Or.inr (Or.inr (Or.inr (Or.inl h)))))))); exact Or.inr (Or.inr (Or.inr (Or.inr (Or.inr (Or.inr (Or.inr (Or.inr (Or.inr (Or.inl h))))))))); exact Or.inr (Or.inr (Or.inr (Or.inr (Or.inr (Or.inr (Or.inr (Or.inr (Or.inr (Or.inr (Or.inl h)))))))))); exact Or.inr (Or.inr (Or.inr (Or.inr (Or.inr (Or.inr (Or.inr (Or.inr (Or.inr (Or.inr (Or.inr (Or.inl h))))))))))); exact Or.inr (Or.inr (Or.inr (Or.inr (Or.inr (Or.inr (Or.inr (Or.inr (Or.inr (Or.inr (Or.inr (Or.inr (Or.inl h)))))))))))); exact Or.inr (Or.inr (Or.inr (Or.inr (Or.inr (Or.inr (Or.inr (Or.inr (Or.inr (Or.inr (Or.inr (Or.inr (Or.inr (Or.inl h))))))))))))); exact Or.inr (Or.inr (Or.inr (Or.inr (Or.inr (Or.inr (Or.inr (Or.inr (Or.inr (Or.inr (Or.inr (Or.inr (Or.inr (Or.inr (Or.inl h)))))))))))))); exact Or.inr (Or.inr (Or.inr (Or.inr (Or.inr (Or.inr (Or.inr (Or.inr (Or.inr (Or.inr (Or.inr (Or.inr (Or.inr (Or.inr (Or.inr (Or.inl h))))))))))))))); exact Or.inr (Or.inr (Or.inr (Or.inr (Or.inr (Or.inr (Or.inr (Or.inr (Or.inr (Or.inr (Or.inr (Or.inr (Or.inr (Or.inr (Or.inr (Or.inr (Or.inl h)))))))))))))))); exact Or.inr (Or.inr (Or.inr (Or.inr (Or.inr (Or.inr (Or.inr (Or.inr (Or.inr (Or.inr (Or.inr (Or.inr (Or.inr (Or.inr (Or.inr (Or.inr (Or.inr (h))))))))))))))))))
  have b10 := zz_rf6 (z := (12 * t + 0)) (by omega)
  refine zz_aload_n (x := zz_rf 3 t) rfl zd_7_3_16 ?_
  refine zz_getr (kd := 0) (z := ((zz_rf 3 t + 1 : Nat) : Int)) zd_7_3_17 zf_Network_11 (zT_k3 (by omega)) rfl (zN_k3 hn (by omega)) (zE_k3a G_S6 (by omega)) (Int.natCast_nonneg _) (zz_rf 3 t + 1) (Int.toNat_natCast _) ?_
  refine zz_iconst zd_7_3_20 ?_
  refine zz_aald (kd := 4) (z := 12 * t + 0) zd_7_3_21 (zT_k3a (by omega)) rfl (zN_k3a hn (by omega)) (by decide) (by omega) (zE_lay G_S6 (by omega) (by omega)) (by omega) (zz_rf 6 (12 * t + 0)) rfl ?_
  refine zz_iload_n (x := p0) rfl zd_7_3_22 ?_
  refine zz_iload_n (x := p1) rfl zd_7_3_23 ?_
  refine zz_iload_n (x := p2) rfl zd_7_3_24 ?_
  refine zz_callVV [zi p0, zi p1, zi p2] zd_7_3_25 zk_Network_31 (zT_k6 (by omega)) (zN_k6 hn (by omega)) rfl rfl ⟨Nat.le_of_ble_eq_true rfl, Nat.le_of_ble_eq_true rfl⟩ ⟨rfl, rfl⟩ (Nat.zero_le _) (Nat.zero_le _) (zc_takeForm_4_3 (12 * t + 0) p0 p1 p2 S6 n hn G_S6 (by omega) (by omega) (by omega) (by omega)) (fun S11 hP => ?_)
  obtain ⟨G_S11, fS11, o13, o14⟩ := hP
  have F_S11 := zz_fr.trans F_S6 fS11 rfl (fun a i h => by rcases h with h | h | h; exact Or.inr (Or.inr (Or.inr (Or.inr (Or.inr (Or.inl h))))); exact Or.inr (Or.inr (Or.inr (Or.inr (Or.inr (Or.inr (Or.inl h)))))); exact Or.inr (Or.inr (Or.inr (Or.inr (Or.inr (Or.inr (Or.inr (Or.inl h))))))))
  have e15 : S11 (zz_rf 3 t) 1 = S1 (zz_rf 3 t) 1 := (zz_rc fS11 (zP_k3 (by omega) rfl) (zQ_k3 (by omega) rfl) (by have hz_ := zz_rf3 (z := t) (by omega); omega) (zz_rc fS6 (zP_k3 (by omega) rfl) (zQ_k3 (by omega) rfl) (by have hz_ := zz_rf3 (z := t) (by omega); omega) rfl))
  have e16 : S11 (zz_rf 6 (12 * t + 0)) 0 = S6 (zz_rf 6 (12 * t + 0)) 0 := (zz_rc fS11 (zP_k6 (by omega) rfl) (zQ_k6 (by omega) rfl) (by have hz_ := zz_rf6 (z := 12 * t + 0) (by omega); omega) rfl)
  have e17 : S11 (zz_rf 6 (12 * t + 0)) 3 = S6 (zz_rf 6 (12 * t + 0)) 3 := (zz_rc fS11 (zP_k6 (by omega) rfl) (zQ_k6 (by omega) rfl) (by have hz_ := zz_rf6 (z := 12 * t + 0) (by omega); omega) rfl)
  have e18 : S11 (zz_rf 6 (12 * t + 0)) 4 = S6 (zz_rf 6 (12 * t + 0)) 4 := (zz_rc fS11 (zP_k6 (by omega) rfl) (zQ_k6 (by omega) rfl) (by have hz_ := zz_rf6 (z := 12 * t + 0) (by omega); omega) rfl)
  have e19 : S11 (zz_rf 6 (12 * t + 0)) 1 = S6 (zz_rf 6 (12 * t + 0)) 1 := (zz_rc fS11 (zP_k6 (by omega) rfl) (zQ_k6 (by omega) rfl) (by have hz_ := zz_rf6 (z := 12 * t + 0) (by omega); omega) rfl)
  have e20 : S11 (zz_rf 6 (12 * t + 0)) 13 = S6 (zz_rf 6 (12 * t + 0)) 13 := (zz_rc fS11 (zP_k6 (by omega) rfl) (zQ_k6 (by omega) rfl) (by have hz_ := zz_rf6 (z := 12 * t + 0) (by omega); omega) rfl)
  have e21 : S11 (zz_rf 6 (12 * t + 0)) 2 = S6 (zz_rf 6 (12 * t + 0)) 2 := (zz_rc fS11 (zP_k6 (by omega) rfl) (zQ_k6 (by omega) rfl) (by have hz_ := zz_rf6 (z := 12 * t + 0) (by omega); omega) rfl)
  have e22 : S11 (zz_rf 6 (12 * t + 0)) 5 = S6 (zz_rf 6 (12 * t + 0)) 5 := (zz_rc fS11 (zP_k6 (by omega) rfl) (zQ_k6 (by omega) rfl) (by have hz_ := zz_rf6 (z := 12 * t + 0) (by omega); omega) rfl)
  have e23 : S11 (zz_rf 6 (12 * t + 0)) 6 = S6 (zz_rf 6 (12 * t + 0)) 6 := (zz_rc fS11 (zP_k6 (by omega) rfl) (zQ_k6 (by omega) rfl) (by have hz_ := zz_rf6 (z := 12 * t + 0) (by omega); omega) rfl)
  have e24 : S11 (zz_rf 6 (12 * t + 0)) 7 = S6 (zz_rf 6 (12 * t + 0)) 7 := (zz_rc fS11 (zP_k6 (by omega) rfl) (zQ_k6 (by omega) rfl) (by have hz_ := zz_rf6 (z := 12 * t + 0) (by omega); omega) rfl)
  have e25 : S11 (zz_rf 6 (12 * t + 0)) 8 = S6 (zz_rf 6 (12 * t + 0)) 8 := (zz_rc fS11 (zP_k6 (by omega) rfl) (zQ_k6 (by omega) rfl) (by have hz_ := zz_rf6 (z := 12 * t + 0) (by omega); omega) rfl)
  have e26 : S11 (zz_rf 6 (12 * t + 0)) 9 = S6 (zz_rf 6 (12 * t + 0)) 9 := (zz_rc fS11 (zP_k6 (by omega) rfl) (zQ_k6 (by omega) rfl) (by have hz_ := zz_rf6 (z := 12 * t + 0) (by omega); omega) rfl)
  exact zz_vret zd_7_3_28 rfl (Nat.zero_le _) (Nat.zero_le _) ⟨_, rfl, G_S11, F_S11, by omega, by omega, (fun nm => zn_C.ip (by omega) (by omega) (by omega) (by omega) (by omega) (by omega) (by omega) (by omega) (by omega) (by omega) (by omega) (by omega) (by omega) (by omega) (by omega)), (zz_Hc.one (q := t) (z := 12 * t + 0) F_S11 rfl rfl G_S0 (by omega) (by omega) (fun a i h => by omega) (by omega) (by unfold zz_ly; omega) H_S0)⟩
theorem zk_TF_216 : mm_Vl "TensorForge" 216 1 3 zy_beginWith_7_3 := ⟨zyw_beginWith_7_3, (R_Network, F_Network, 2), rfl, mm_tb_1 1352 (by decide +kernel) rfl, mm_tb_1 1027 (by decide +kernel) rfl, mm_tb_1 1028 (by decide +kernel) rfl⟩
theorem zg_1_18_29 : zq_at zy_input_1_18.2.1 29 177 := by decide +kernel
theorem zd_1_18_29 : zz_D zy_input_1_18 29 (.return_) 1 30 := ⟨zq_177 zg_1_18_29, rfl⟩
-- TensorForge input (III)V
abbrev zr_input_1_18 : Room := { frames := 6, cells := 1, slots := 6, locals := 82 }
def zp_input_1_18 (p0 : Int) (p1 : Int) (p2 : Int) (S0 : zz_S) : zz_S → Prop := fun S => zz_G S ∧ zz_fr [] [] (fun a i => (a = zz_rf 3 (S0 1000 7) ∧ i = 1) ∨ (a = zz_rf 6 (12 * (S0 1000 7) + 0) ∧ i = 0) ∨ (a = zz_rf 6 (12 * (S0 1000 7) + 0) ∧ i = 1) ∨ (a = zz_rf 6 (12 * (S0 1000 7) + 0) ∧ i = 10) ∨ (a = zz_rf 6 (12 * (S0 1000 7) + 0) ∧ i = 11) ∨ (a = zz_rf 6 (12 * (S0 1000 7) + 0) ∧ i = 12) ∨ (a = zz_rf 6 (12 * (S0 1000 7) + 0) ∧ i = 13) ∨ (a = zz_rf 6 (12 * (S0 1000 7) + 0) ∧ i = 14) ∨ (a = zz_rf 6 (12 * (S0 1000 7) + 0) ∧ i = 2) ∨ (a = zz_rf 6 (12 * (S0 1000 7) + 0) ∧ i = 3) ∨ (a = zz_rf 6 (12 * (S0 1000 7) + 0) ∧ i = 4) ∨ (a = zz_rf 6 (12 * (S0 1000 7) + 0) ∧ i = 5) ∨ (a = zz_rf 6 (12 * (S0 1000 7) + 0) ∧ i = 6) ∨ (a = zz_rf 6 (12 * (S0 1000 7) + 0) ∧ i = 7) ∨ (a = zz_rf 6 (12 * (S0 1000 7) + 0) ∧ i = 8) ∨ (a = zz_rf 6 (12 * (S0 1000 7) + 0) ∧ i = 9)) S0 S ∧ (1 ≤ p0 ∧ p0 ≤ 63 ∧ 1 ≤ p1 ∧ p1 ≤ 63 ∧ 1 ≤ p2 ∧ p2 ≤ 63 ∧ (p0 * p1) * p2 ≤ 2048) ∧ (∀ nm : Int, zn_C S (S0 1000 7) (zn_ip p0 p1 p2 nm)) ∧ (zz_Hc S)
def zx_input_1_18 (p0 : Int) (p1 : Int) (p2 : Int) (S0 : zz_S) : Nat → zz_S → Prop := fun i S => zz_G S ∧ zz_fr [] [] (fun a i => (a = zz_rf 3 (S0 1000 7) ∧ i = 1) ∨ (a = zz_rf 6 (12 * (S0 1000 7) + 0) ∧ i = 0) ∨ (a = zz_rf 6 (12 * (S0 1000 7) + 0) ∧ i = 1) ∨ (a = zz_rf 6 (12 * (S0 1000 7) + 0) ∧ i = 10) ∨ (a = zz_rf 6 (12 * (S0 1000 7) + 0) ∧ i = 11) ∨ (a = zz_rf 6 (12 * (S0 1000 7) + 0) ∧ i = 12) ∨ (a = zz_rf 6 (12 * (S0 1000 7) + 0) ∧ i = 13) ∨ (a = zz_rf 6 (12 * (S0 1000 7) + 0) ∧ i = 14) ∨ (a = zz_rf 6 (12 * (S0 1000 7) + 0) ∧ i = 2) ∨ (a = zz_rf 6 (12 * (S0 1000 7) + 0) ∧ i = 3) ∨ (a = zz_rf 6 (12 * (S0 1000 7) + 0) ∧ i = 4) ∨ (a = zz_rf 6 (12 * (S0 1000 7) + 0) ∧ i = 5) ∨ (a = zz_rf 6 (12 * (S0 1000 7) + 0) ∧ i = 6) ∨ (a = zz_rf 6 (12 * (S0 1000 7) + 0) ∧ i = 7) ∨ (a = zz_rf 6 (12 * (S0 1000 7) + 0) ∧ i = 8) ∨ (a = zz_rf 6 (12 * (S0 1000 7) + 0) ∧ i = 9)) S0 S ∧ (i < 4) ∧ (i = 0 ∧ (p0 < 1 ∨ 63 < p0 ∨ p1 < 1 ∨ 63 < p1 ∨ p2 < 1 ∨ 63 < p2 ∨ 2048 < (p0 * p1) * p2)) ∧ (∀ v : zn_T, zn_C S0 (S0 1000 7) v → zn_C S (S0 1000 7) v) ∧ (zz_Hc S)
theorem zc_input_1_18 {g : mm_G} {l : Launch} (p0 : Int) (p1 : Int) (p2 : Int) (S0 : zz_S) (n : Nat) (hn : zz_end ≤ n) (hfl : l.flags = flags0) (G_S0 : zz_G S0) (hp0 : (-2147483648) ≤ p0 ∧ p0 ≤ 2147483647) (hp1 : (-2147483648) ≤ p1 ∧ p1 ≤ 2147483647) (hp2 : (-2147483648) ≤ p2 ∧ p2 ≤ 2147483647) (H_S0 : zz_Hc S0) : mm_Met g l zy_input_1_18 zr_input_1_18 [.ref 1000, zi p0, zi p1, zi p2] (zz_M S0 n) n (zz_XV n (zp_input_1_18 p0 p1 p2 S0) (zx_input_1_18 p0 p1 p2 S0)) := by
  refine zz_enter (by decide) (Nat.le_of_ble_eq_true rfl) (zz_less (ls1 := [some (.ref 1000), some (zi p0), some (zi p1), some (zi p2)]) ⟨rfl, ⟨rfl, ⟨rfl, ⟨rfl, trivial⟩⟩⟩⟩ ?_)
  have F_S0 : zz_fr [] [] (fun a i => (a = zz_rf 3 (S0 1000 7) ∧ i = 1) ∨ (a = zz_rf 6 (12 * (S0 1000 7) + 0) ∧ i = 0) ∨ (a = zz_rf 6 (12 * (S0 1000 7) + 0) ∧ i = 1) ∨ (a = zz_rf 6 (12 * (S0 1000 7) + 0) ∧ i = 10) ∨ (a = zz_rf 6 (12 * (S0 1000 7) + 0) ∧ i = 11) ∨ (a = zz_rf 6 (12 * (S0 1000 7) + 0) ∧ i = 12) ∨ (a = zz_rf 6 (12 * (S0 1000 7) + 0) ∧ i = 13) ∨ (a = zz_rf 6 (12 * (S0 1000 7) + 0) ∧ i = 14) ∨ (a = zz_rf 6 (12 * (S0 1000 7) + 0) ∧ i = 2) ∨ (a = zz_rf 6 (12 * (S0 1000 7) + 0) ∧ i = 3) ∨ (a = zz_rf 6 (12 * (S0 1000 7) + 0) ∧ i = 4) ∨ (a = zz_rf 6 (12 * (S0 1000 7) + 0) ∧ i = 5) ∨ (a = zz_rf 6 (12 * (S0 1000 7) + 0) ∧ i = 6) ∨ (a = zz_rf 6 (12 * (S0 1000 7) + 0) ∧ i = 7) ∨ (a = zz_rf 6 (12 * (S0 1000 7) + 0) ∧ i = 8) ∨ (a = zz_rf 6 (12 * (S0 1000 7) + 0) ∧ i = 9)) S0 S0 := zz_fr.refl
  refine zz_iload_n (x := p0) rfl zd_1_18_0 ?_
  refine zz_iload_n (x := p1) rfl zd_1_18_1 ?_
  refine zz_iload_n (x := p2) rfl zd_1_18_2 ?_
  refine zz_callSI [zi p0, zi p1, zi p2] zd_1_18_3 zk_TF_210 rfl rfl ⟨Nat.le_of_ble_eq_true rfl, Nat.le_of_ble_eq_true rfl⟩ ⟨rfl, rfl⟩ (Nat.zero_le _) (Nat.zero_le _) (zc_inputFits_7_2 p0 p1 p2 S0 n hn G_S0 (by omega) (by omega) (by omega)) (fun v2 S1 hP => ?_)
  obtain ⟨rfl, o3, o4⟩ := hP
  rcases (by omega : v2 = 0 ∨ v2 = 1) with rfl | rfl
  · refine zz_if_ne (by omega) zd_1_18_6 (fun c5 => ?_) (fun c5 => ?_)
    · exfalso; omega
    · exact zz_throw (i := 0) hfl hn zt_1_18_9 zyw_input_1_18 zxl_TF_87_214_91 (Nat.le_of_ble_eq_true rfl) (Nat.le_of_ble_eq_true rfl) ⟨Nat.le_of_ble_eq_true rfl, Nat.le_of_ble_eq_true rfl⟩ (Or.inr ⟨_, _, rfl, G_S0, F_S0, by omega, by omega, fun v h => h, H_S0⟩)
  · refine zz_if_ne (by omega) zd_1_18_6 (fun c6 => ?_) (fun c6 => ?_)
    · refine zz_aload_n (x := 1000) rfl zd_1_18_19 ?_
      have g7 := zz_G.r G_S0 1000 7 0 1 rfl rfl
      refine zz_getr (kd := 1) (z := S0 1000 7) zd_1_18_20 zf_TF_10 zT_1000 rfl (zz_ltn hn rfl) rfl (by omega) (zz_rf 3 (S0 1000 7)) rfl ?_
      refine zz_iload_n (x := p0) rfl zd_1_18_23 ?_
      refine zz_iload_n (x := p1) rfl zd_1_18_24 ?_
      refine zz_iload_n (x := p2) rfl zd_1_18_25 ?_
      refine zz_callVV [zi p0, zi p1, zi p2] zd_1_18_26 zk_TF_216 (zT_k3 (by omega)) (zN_k3 hn (by omega)) rfl rfl ⟨Nat.le_of_ble_eq_true rfl, Nat.le_of_ble_eq_true rfl⟩ ⟨rfl, rfl⟩ (Nat.zero_le _) (Nat.zero_le _) (zc_beginWith_7_3 (S0 1000 7) p0 p1 p2 S0 n hn G_S0 (by omega) (by omega) (by omega) (by omega) H_S0) (fun S8 hP => ?_)
      obtain ⟨G_S8, fS8, o10, o11, o12, o13⟩ := hP
      have g14 := zz_G.r G_S0 1000 7 0 1 rfl rfl
      have F_S8 := zz_fr.trans F_S0 fS8 rfl (fun a i h => by rcases h with h | h | h | h | h | h | h | h | h | h | h | h | h | h | h | h; exact Or.inr (Or.inr (Or.inl h)); exact Or.inr (Or.inr (Or.inr (Or.inl h))); exact Or.inr (Or.inr (Or.inr (Or.inr (Or.inl h)))); exact Or.inr (Or.inr (Or.inr (Or.inr (Or.inr (Or.inl h))))); exact Or.inr (Or.inr (Or.inr (Or.inr (Or.inr (Or.inr (Or.inl h)))))); exact Or.inr (Or.inr (Or.inr (Or.inr (Or.inr (Or.inr (Or.inr (Or.inl h))))))); exact Or.inr (Or.inr (Or.inr (Or.inr (Or.inr (Or.inr (Or.inr (Or.inr (Or.inl h)))))))); exact Or.inr (Or.inr (Or.inr (Or.inr (Or.inr (Or.inr (Or.inr (Or.inr (Or.inr (Or.inl h))))))))); exact Or.inr (Or.inr (Or.inr (Or.inr (Or.inr (Or.inr (Or.inr (Or.inr (Or.inr (Or.inr (Or.inl h)))))))))); exact Or.inr (Or.inr (Or.inr (Or.inr (Or.inr (Or.inr (Or.inr (Or.inr (Or.inr (Or.inr (Or.inr (Or.inl h))))))))))); exact Or.inr (Or.inr (Or.inr (Or.inr (Or.inr (Or.inr (Or.inr (Or.inr (Or.inr (Or.inr (Or.inr (Or.inr (Or.inl h)))))))))))); exact Or.inr (Or.inr (Or.inr (Or.inr (Or.inr (Or.inr (Or.inr (Or.inr (Or.inr (Or.inr (Or.inr (Or.inr (Or.inr (Or.inl h))))))))))))); exact Or.inr (Or.inr (Or.inr (Or.inr (Or.inr (Or.inr (Or.inr (Or.inr (Or.inr (Or.inr (Or.inr (Or.inr (Or.inr (Or.inr (Or.inl h)))))))))))))); exact Or.inr (Or.inr (Or.inr (Or.inr (Or.inr (Or.inr (Or.inr (Or.inr (Or.inr (Or.inr (Or.inr (Or.inr (Or.inr (Or.inr (Or.inr (Or.inl h))))))))))))))); exact Or.inr (Or.inr (Or.inr (Or.inr (Or.inr (Or.inr (Or.inr (Or.inr (Or.inr (Or.inr (Or.inr (Or.inr (Or.inr (Or.inr (Or.inr (Or.inr (Or.inl h)))))))))))))))); exact Or.inr (Or.inr (Or.inr (Or.inr (Or.inr (Or.inr (Or.inr (Or.inr (Or.inr (Or.inr (Or.inr (Or.inr (Or.inr (Or.inr (Or.inr (Or.inr (Or.inr (h))))))))))))))))))
      have b15 := zz_rf3 (z := (S0 1000 7)) (by omega)
      have b16 := zz_rf6 (z := (12 * (S0 1000 7) + 0)) (by omega)
      have H_S8 : zz_Hc S8 := o13
      exact zz_vret zd_1_18_29 rfl (Nat.le_of_ble_eq_true rfl) (Nat.le_of_ble_eq_true rfl) (Or.inl ⟨_, rfl, G_S8, F_S8, by omega, o12, H_S8⟩)
    · exfalso; omega
abbrev zy_convolution_1_19 : mm_Y := (⟨"TensorForge", "convolution", "(IIIIII)I"⟩, prog_1_method_19_code, 8, (some .int))
theorem zyw_convolution_1_19 : mm_Yw zy_convolution_1_19 6 := ⟨mm_tb_1 1359 (by decide +kernel) rfl, mm_tb_1 1 (by decide +kernel) rfl, ⟨by decide, by decide⟩, by decide +kernel⟩
abbrev zy_draft_7_6 : mm_Y := (⟨"TensorForge$Network", "draft", "()LTensorForge$Layer;"⟩, prog_7_method_6_code, 1, (some (.object "TensorForge$Layer")))
theorem zyw_draft_7_6 : mm_Yw zy_draft_7_6 0 := ⟨mm_tb_1 943 (by decide +kernel) rfl, mm_tb_1 2 (by decide +kernel) rfl, ⟨by decide, by decide⟩, by decide +kernel⟩
theorem zg_1_19_0 : zq_at zy_convolution_1_19.2.1 0 42 ∧ zq_at zy_convolution_1_19.2.1 1 180 ∧ zq_at zy_convolution_1_19.2.1 2 0 ∧ zq_at zy_convolution_1_19.2.1 3 10 ∧ zq_at zy_convolution_1_19.2.1 4 182 ∧ zq_at zy_convolution_1_19.2.1 5 0 ∧ zq_at zy_convolution_1_19.2.1 6 220 := by decide +kernel
theorem zd_1_19_0 : zz_D zy_convolution_1_19 0 (.aload_n 0) 1 1 := ⟨zq_42 zg_1_19_0.1, rfl⟩
theorem zd_1_19_1 : zz_D zy_convolution_1_19 1 (.getfield 10) 3 4 := ⟨zq_180 zg_1_19_0.2.1 zg_1_19_0.2.2.1 zg_1_19_0.2.2.2.1 rfl, rfl⟩
theorem zd_1_19_4 : zz_D zy_convolution_1_19 4 (.invokevirtual 220) 3 7 := ⟨zq_182 zg_1_19_0.2.2.2.2.1 zg_1_19_0.2.2.2.2.2.1 zg_1_19_0.2.2.2.2.2.2 rfl, rfl⟩
theorem zg_7_6_0 : zq_at zy_draft_7_6.2.1 0 42 ∧ zq_at zy_draft_7_6.2.1 1 180 ∧ zq_at zy_draft_7_6.2.1 2 0 ∧ zq_at zy_draft_7_6.2.1 3 11 ∧ zq_at zy_draft_7_6.2.1 4 42 ∧ zq_at zy_draft_7_6.2.1 5 180 ∧ zq_at zy_draft_7_6.2.1 6 0 ∧ zq_at zy_draft_7_6.2.1 7 16 ∧ zq_at zy_draft_7_6.2.1 8 50 ∧ zq_at zy_draft_7_6.2.1 9 176 := by decide +kernel
theorem zd_7_6_0 : zz_D zy_draft_7_6 0 (.aload_n 0) 1 1 := ⟨zq_42 zg_7_6_0.1, rfl⟩
theorem zd_7_6_1 : zz_D zy_draft_7_6 1 (.getfield 11) 3 4 := ⟨zq_180 zg_7_6_0.2.1 zg_7_6_0.2.2.1 zg_7_6_0.2.2.2.1 rfl, rfl⟩
theorem zd_7_6_4 : zz_D zy_draft_7_6 4 (.aload_n 0) 1 5 := ⟨zq_42 zg_7_6_0.2.2.2.2.1, rfl⟩
theorem zd_7_6_5 : zz_D zy_draft_7_6 5 (.getfield 16) 3 8 := ⟨zq_180 zg_7_6_0.2.2.2.2.2.1 zg_7_6_0.2.2.2.2.2.2.1 zg_7_6_0.2.2.2.2.2.2.2.1 rfl, rfl⟩
theorem zd_7_6_8 : zz_D zy_draft_7_6 8 (.aaload) 1 9 := ⟨zq_50 zg_7_6_0.2.2.2.2.2.2.2.2.1, rfl⟩
theorem zd_7_6_9 : zz_D zy_draft_7_6 9 (.areturn) 1 10 := ⟨zq_176 zg_7_6_0.2.2.2.2.2.2.2.2.2, rfl⟩
-- TensorForge$Network draft ()LTensorForge$Layer;
abbrev zr_draft_7_6 : Room := { frames := 0, cells := 0, slots := 0, locals := 0 }
def zp_draft_7_6 (t : Int) (S0 : zz_S) : Nat → zz_S → Prop := fun r S => S0 = S ∧ (r = zz_rf 6 (12 * t + S0 (zz_rf 3 t) 1)) ∧ (1 ≤ S0 (zz_rf 3 t) 1 ∧ S0 (zz_rf 3 t) 1 ≤ 11)
theorem zc_draft_7_6 {g : mm_G} {l : Launch} (t : Int) (S0 : zz_S) (n : Nat) (hn : zz_end ≤ n) (G_S0 : zz_G S0) (ht : 0 ≤ t ∧ t ≤ 1) : mm_Met g l zy_draft_7_6 zr_draft_7_6 [.ref (zz_rf 3 t)] (zz_M S0 n) n (zz_QA n (zp_draft_7_6 t S0)) := by
  refine zz_enter (by decide) (Nat.le_of_ble_eq_true rfl) (zz_less (ls1 := [some (.ref (zz_rf 3 t))]) ⟨rfl, trivial⟩ ?_)
  have b_t := zz_rf3 (z := t) (by omega)
  refine zz_aload_n (x := zz_rf 3 t) rfl zd_7_6_0 ?_
  refine zz_getr (kd := 0) (z := ((zz_rf 3 t + 1 : Nat) : Int)) zd_7_6_1 zf_Network_11 (zT_k3 (by omega)) rfl (zN_k3 hn (by omega)) (zE_k3a G_S0 (by omega)) (Int.natCast_nonneg _) (zz_rf 3 t + 1) (Int.toNat_natCast _) ?_
  refine zz_aload_n (x := zz_rf 3 t) rfl zd_7_6_4 ?_
  have g1 := zz_G.r G_S0 (zz_rf 3 t) 1 1 11 (zR_k3_1 (by omega)) (zB_k3 (by omega))
  refine zz_geti (z := S0 (zz_rf 3 t) 1) zd_7_6_5 zf_Network_16 (zT_k3 (by omega)) rfl (zN_k3 hn (by omega)) rfl ?_
  refine zz_aald (kd := 4) (z := 12 * t + (S0 (zz_rf 3 t) 1)) zd_7_6_8 (zT_k3a (by omega)) rfl (zN_k3a hn (by omega)) (by decide) (by omega) (zE_lay G_S0 (by omega) (by omega)) (by omega) (zz_rf 6 (12 * t + (S0 (zz_rf 3 t) 1))) rfl ?_
  exact zz_aret zd_7_6_9 rfl (Nat.zero_le _) (Nat.zero_le _) ⟨_, _, rfl, rfl, rfl, by omega⟩
theorem zk_TF_220 : mm_Vl "TensorForge" 220 1 0 zy_draft_7_6 := ⟨zyw_draft_7_6, (R_Network, F_Network, 2), rfl, mm_tb_1 1360 (by decide +kernel) rfl, mm_tb_1 941 (by decide +kernel) rfl, mm_tb_1 942 (by decide +kernel) rfl⟩
theorem zk_TF_226 : mm_Vl "TensorForge" 226 2 3 zy_reset_4_2 := ⟨zyw_reset_4_2, (R_Layer, F_Layer, 15), rfl, mm_tb_1 1361 (by decide +kernel) rfl, mm_tb_1 50 (by decide +kernel) rfl, mm_tb_1 51 (by decide +kernel) rfl⟩
abbrev zy_takeKernel_4_4 : mm_Y := (⟨"TensorForge$Layer", "takeKernel", "(II)V"⟩, prog_4_method_4_code, 3, none)
theorem zyw_takeKernel_4_4 : mm_Yw zy_takeKernel_4_4 2 := ⟨mm_tb_1 988 (by decide +kernel) rfl, mm_tb_1 3 (by decide +kernel) rfl, ⟨by decide, by decide⟩, by decide +kernel⟩
theorem zg_1_19_7 : zq_at zy_convolution_1_19.2.1 7 58 ∧ zq_at zy_convolution_1_19.2.1 8 7 ∧ zq_at zy_convolution_1_19.2.1 9 25 ∧ zq_at zy_convolution_1_19.2.1 10 7 ∧ zq_at zy_convolution_1_19.2.1 11 4 ∧ zq_at zy_convolution_1_19.2.1 12 27 ∧ zq_at zy_convolution_1_19.2.1 13 27 ∧ zq_at zy_convolution_1_19.2.1 14 182 ∧ zq_at zy_convolution_1_19.2.1 15 0 ∧ zq_at zy_convolution_1_19.2.1 16 226 ∧ zq_at zy_convolution_1_19.2.1 17 25 ∧ zq_at zy_convolution_1_19.2.1 18 7 ∧ zq_at zy_convolution_1_19.2.1 19 28 ∧ zq_at zy_convolution_1_19.2.1 20 16 ∧ zq_at zy_convolution_1_19.2.1 21 10 ∧ zq_at zy_convolution_1_19.2.1 22 108 ∧ zq_at zy_convolution_1_19.2.1 23 28 ∧ zq_at zy_convolution_1_19.2.1 24 16 ∧ zq_at zy_convolution_1_19.2.1 25 10 ∧ zq_at zy_convolution_1_19.2.1 26 112 ∧ zq_at zy_convolution_1_19.2.1 27 182 ∧ zq_at zy_convolution_1_19.2.1 28 0 ∧ zq_at zy_convolution_1_19.2.1 29 229 := by decide +kernel
theorem zd_1_19_7 : zz_D zy_convolution_1_19 7 (.astore 7) 2 9 := ⟨zq_58 zg_1_19_7.1 zg_1_19_7.2.1, rfl⟩
theorem zd_1_19_9 : zz_D zy_convolution_1_19 9 (.aload 7) 2 11 := ⟨zq_25 zg_1_19_7.2.2.1 zg_1_19_7.2.2.2.1, rfl⟩
theorem zd_1_19_11 : zz_D zy_convolution_1_19 11 (.iconst 1) 1 12 := ⟨zq_4 zg_1_19_7.2.2.2.2.1, rfl⟩
theorem zd_1_19_12 : zz_D zy_convolution_1_19 12 (.iload_n 1) 1 13 := ⟨zq_27 zg_1_19_7.2.2.2.2.2.1, rfl⟩
theorem zd_1_19_13 : zz_D zy_convolution_1_19 13 (.iload_n 1) 1 14 := ⟨zq_27 zg_1_19_7.2.2.2.2.2.2.1, rfl⟩
theorem zd_1_19_14 : zz_D zy_convolution_1_19 14 (.invokevirtual 226) 3 17 := ⟨zq_182 zg_1_19_7.2.2.2.2.2.2.2.1 zg_1_19_7.2.2.2.2.2.2.2.2.1 zg_1_19_7.2.2.2.2.2.2.2.2.2.1 rfl, rfl⟩
theorem zd_1_19_17 : zz_D zy_convolution_1_19 17 (.aload 7) 2 19 := ⟨zq_25 zg_1_19_7.2.2.2.2.2.2.2.2.2.2.1 zg_1_19_7.2.2.2.2.2.2.2.2.2.2.2.1, rfl⟩
theorem zd_1_19_19 : zz_D zy_convolution_1_19 19 (.iload_n 2) 1 20 := ⟨zq_28 zg_1_19_7.2.2.2.2.2.2.2.2.2.2.2.2.1, rfl⟩
theorem zd_1_19_20 : zz_D zy_convolution_1_19 20 (.bipush 10) 2 22 := ⟨zq_16 zg_1_19_7.2.2.2.2.2.2.2.2.2.2.2.2.2.1 zg_1_19_7.2.2.2.2.2.2.2.2.2.2.2.2.2.2.1 (by decide), rfl⟩
theorem zd_1_19_22 : zz_D zy_convolution_1_19 22 (.idiv) 1 23 := ⟨zq_108 zg_1_19_7.2.2.2.2.2.2.2.2.2.2.2.2.2.2.2.1, rfl⟩
theorem zd_1_19_23 : zz_D zy_convolution_1_19 23 (.iload_n 2) 1 24 := ⟨zq_28 zg_1_19_7.2.2.2.2.2.2.2.2.2.2.2.2.2.2.2.2.1, rfl⟩
theorem zd_1_19_24 : zz_D zy_convolution_1_19 24 (.bipush 10) 2 26 := ⟨zq_16 zg_1_19_7.2.2.2.2.2.2.2.2.2.2.2.2.2.2.2.2.2.1 zg_1_19_7.2.2.2.2.2.2.2.2.2.2.2.2.2.2.2.2.2.2.1 (by decide), rfl⟩
theorem zd_1_19_26 : zz_D zy_convolution_1_19 26 (.irem) 1 27 := ⟨zq_112 zg_1_19_7.2.2.2.2.2.2.2.2.2.2.2.2.2.2.2.2.2.2.2.1, rfl⟩
theorem zd_1_19_27 : zz_D zy_convolution_1_19 27 (.invokevirtual 229) 3 30 := ⟨zq_182 zg_1_19_7.2.2.2.2.2.2.2.2.2.2.2.2.2.2.2.2.2.2.2.2.1 zg_1_19_7.2.2.2.2.2.2.2.2.2.2.2.2.2.2.2.2.2.2.2.2.2.1 zg_1_19_7.2.2.2.2.2.2.2.2.2.2.2.2.2.2.2.2.2.2.2.2.2.2 rfl, rfl⟩
theorem zg_4_4_0 : zq_at zy_takeKernel_4_4.2.1 0 42 ∧ zq_at zy_takeKernel_4_4.2.1 1 27 ∧ zq_at zy_takeKernel_4_4.2.1 2 181 ∧ zq_at zy_takeKernel_4_4.2.1 3 0 ∧ zq_at zy_takeKernel_4_4.2.1 4 23 ∧ zq_at zy_takeKernel_4_4.2.1 5 42 ∧ zq_at zy_takeKernel_4_4.2.1 6 28 ∧ zq_at zy_takeKernel_4_4.2.1 7 181 ∧ zq_at zy_takeKernel_4_4.2.1 8 0 ∧ zq_at zy_takeKernel_4_4.2.1 9 26 ∧ zq_at zy_takeKernel_4_4.2.1 10 177 := by decide +kernel
theorem zd_4_4_0 : zz_D zy_takeKernel_4_4 0 (.aload_n 0) 1 1 := ⟨zq_42 zg_4_4_0.1, rfl⟩
theorem zd_4_4_1 : zz_D zy_takeKernel_4_4 1 (.iload_n 1) 1 2 := ⟨zq_27 zg_4_4_0.2.1, rfl⟩
theorem zd_4_4_2 : zz_D zy_takeKernel_4_4 2 (.putfield 23) 3 5 := ⟨zq_181 zg_4_4_0.2.2.1 zg_4_4_0.2.2.2.1 zg_4_4_0.2.2.2.2.1 rfl, rfl⟩
theorem zd_4_4_5 : zz_D zy_takeKernel_4_4 5 (.aload_n 0) 1 6 := ⟨zq_42 zg_4_4_0.2.2.2.2.2.1, rfl⟩
theorem zd_4_4_6 : zz_D zy_takeKernel_4_4 6 (.iload_n 2) 1 7 := ⟨zq_28 zg_4_4_0.2.2.2.2.2.2.1, rfl⟩
theorem zd_4_4_7 : zz_D zy_takeKernel_4_4 7 (.putfield 26) 3 10 := ⟨zq_181 zg_4_4_0.2.2.2.2.2.2.2.1 zg_4_4_0.2.2.2.2.2.2.2.2.1 zg_4_4_0.2.2.2.2.2.2.2.2.2.1 rfl, rfl⟩
theorem zd_4_4_10 : zz_D zy_takeKernel_4_4 10 (.return_) 1 11 := ⟨zq_177 zg_4_4_0.2.2.2.2.2.2.2.2.2.2, rfl⟩
-- TensorForge$Layer takeKernel (II)V
abbrev zr_takeKernel_4_4 : Room := { frames := 0, cells := 0, slots := 0, locals := 0 }
def zp_takeKernel_4_4 (t : Int) (p0 : Int) (p1 : Int) (S0 : zz_S) : zz_S → Prop := fun S => zz_G S ∧ zz_fr [] [] (fun a i => (a = zz_rf 6 t ∧ i = 3) ∨ (a = zz_rf 6 t ∧ i = 4)) S0 S ∧ (S (zz_rf 6 t) 3 = p0 ∧ S (zz_rf 6 t) 4 = p1)
theorem zc_takeKernel_4_4 {g : mm_G} {l : Launch} (t : Int) (p0 : Int) (p1 : Int) (S0 : zz_S) (n : Nat) (hn : zz_end ≤ n) (G_S0 : zz_G S0) (ht : 0 ≤ t ∧ t ≤ 23) (hp0 : (-2147483648) ≤ p0 ∧ p0 ≤ 2147483647) (hp1 : (-2147483648) ≤ p1 ∧ p1 ≤ 2147483647) : mm_Met g l zy_takeKernel_4_4 zr_takeKernel_4_4 [.ref (zz_rf 6 t), zi p0, zi p1] (zz_M S0 n) n (zz_QV n (zp_takeKernel_4_4 t p0 p1 S0)) := by
  refine zz_enter (by decide) (Nat.le_of_ble_eq_true rfl) (zz_less (ls1 := [some (.ref (zz_rf 6 t)), some (zi p0), some (zi p1)]) ⟨rfl, ⟨rfl, ⟨rfl, trivial⟩⟩⟩ ?_)
  have F_S0 : zz_fr [] [] (fun a i => (a = zz_rf 6 t ∧ i = 3) ∨ (a = zz_rf 6 t ∧ i = 4)) S0 S0 := zz_fr.refl
  have b_t := zz_rf6 (z := t) (by omega)
  refine zz_aload_n (x := zz_rf 6 t) rfl zd_4_4_0 ?_
  refine zz_iload_n (x := p0) rfl zd_4_4_1 ?_
  refine zz_puti zd_4_4_2 zf_Layer_23 (zT_k6 (by omega)) rfl (zN_k6 hn (by omega)) (fun S1 qS1 => ?_)
  have G_S1 := zz_G.put G_S0 qS1 (-2147483648) 2147483647 (zR_k6_3 (by omega)) (by omega)
  have F_S1 := zz_fr.putv F_S0 qS1 (Or.inl ⟨rfl, rfl⟩)
  refine zz_aload_n (x := zz_rf 6 t) rfl zd_4_4_5 ?_
  refine zz_iload_n (x := p1) rfl zd_4_4_6 ?_
  refine zz_puti zd_4_4_7 zf_Layer_26 (zT_k6 (by omega)) rfl (zN_k6 hn (by omega)) (fun S2 qS2 => ?_)
  have G_S2 := zz_G.put G_S1 qS2 (-2147483648) 2147483647 (zR_k6_4 (by omega)) (by omega)
  have F_S2 := zz_fr.putv F_S1 qS2 (Or.inr (⟨rfl, rfl⟩))
  have e3 : S2 (zz_rf 6 t) 3 = p0 := (zz_ro qS2 (fun h => absurd h.2 (by decide)) (zz_rs qS1))
  have e4 : S2 (zz_rf 6 t) 4 = p1 := (zz_rs qS2)
  exact zz_vret zd_4_4_10 rfl (Nat.zero_le _) (Nat.zero_le _) ⟨_, rfl, G_S2, F_S2, by omega⟩
theorem zk_TF_229 : mm_Vl "TensorForge" 229 2 2 zy_takeKernel_4_4 := ⟨zyw_takeKernel_4_4, (R_Layer, F_Layer, 15), rfl, mm_tb_1 1362 (by decide +kernel) rfl, mm_tb_1 986 (by decide +kernel) rfl, mm_tb_1 987 (by decide +kernel) rfl⟩
theorem zf_TF_232 : mm_Fl "TensorForge" 232 2 5 .int false := ⟨R_Layer, F_Layer, 15, t_Layer, rfl, i_Layer, by decide, mm_tb_1 78 (by decide +kernel) rfl, rfl, t_Layer_ok, n_Layer, rfl, by decide +kernel⟩
theorem zf_TF_235 : mm_Fl "TensorForge" 235 2 6 .int false := ⟨R_Layer, F_Layer, 15, t_Layer, rfl, i_Layer, by decide, mm_tb_1 83 (by decide +kernel) rfl, rfl, t_Layer_ok, n_Layer, rfl, by decide +kernel⟩
abbrev zy_takeNarrowing_4_5 : mm_Y := (⟨"TensorForge$Layer", "takeNarrowing", "(I)V"⟩, prog_4_method_5_code, 2, none)
theorem zyw_takeNarrowing_4_5 : mm_Yw zy_takeNarrowing_4_5 1 := ⟨mm_tb_1 1366 (by decide +kernel) rfl, mm_tb_1 3 (by decide +kernel) rfl, ⟨by decide, by decide⟩, by decide +kernel⟩
theorem zg_1_19_30 : zq_at zy_convolution_1_19.2.1 30 25 ∧ zq_at zy_convolution_1_19.2.1 31 7 ∧ zq_at zy_convolution_1_19.2.1 32 21 ∧ zq_at zy_convolution_1_19.2.1 33 4 ∧ zq_at zy_convolution_1_19.2.1 34 16 ∧ zq_at zy_convolution_1_19.2.1 35 10 ∧ zq_at zy_convolution_1_19.2.1 36 108 ∧ zq_at zy_convolution_1_19.2.1 37 181 ∧ zq_at zy_convolution_1_19.2.1 38 0 ∧ zq_at zy_convolution_1_19.2.1 39 232 ∧ zq_at zy_convolution_1_19.2.1 40 25 ∧ zq_at zy_convolution_1_19.2.1 41 7 ∧ zq_at zy_convolution_1_19.2.1 42 21 ∧ zq_at zy_convolution_1_19.2.1 43 4 ∧ zq_at zy_convolution_1_19.2.1 44 16 ∧ zq_at zy_convolution_1_19.2.1 45 10 ∧ zq_at zy_convolution_1_19.2.1 46 112 ∧ zq_at zy_convolution_1_19.2.1 47 181 ∧ zq_at zy_convolution_1_19.2.1 48 0 ∧ zq_at zy_convolution_1_19.2.1 49 235 ∧ zq_at zy_convolution_1_19.2.1 50 25 ∧ zq_at zy_convolution_1_19.2.1 51 7 ∧ zq_at zy_convolution_1_19.2.1 52 21 ∧ zq_at zy_convolution_1_19.2.1 53 5 := by decide +kernel
theorem zd_1_19_30 : zz_D zy_convolution_1_19 30 (.aload 7) 2 32 := ⟨zq_25 zg_1_19_30.1 zg_1_19_30.2.1, rfl⟩
theorem zd_1_19_32 : zz_D zy_convolution_1_19 32 (.iload 4) 2 34 := ⟨zq_21 zg_1_19_30.2.2.1 zg_1_19_30.2.2.2.1, rfl⟩
theorem zd_1_19_34 : zz_D zy_convolution_1_19 34 (.bipush 10) 2 36 := ⟨zq_16 zg_1_19_30.2.2.2.2.1 zg_1_19_30.2.2.2.2.2.1 (by decide), rfl⟩
theorem zd_1_19_36 : zz_D zy_convolution_1_19 36 (.idiv) 1 37 := ⟨zq_108 zg_1_19_30.2.2.2.2.2.2.1, rfl⟩
theorem zd_1_19_37 : zz_D zy_convolution_1_19 37 (.putfield 232) 3 40 := ⟨zq_181 zg_1_19_30.2.2.2.2.2.2.2.1 zg_1_19_30.2.2.2.2.2.2.2.2.1 zg_1_19_30.2.2.2.2.2.2.2.2.2.1 rfl, rfl⟩
theorem zd_1_19_40 : zz_D zy_convolution_1_19 40 (.aload 7) 2 42 := ⟨zq_25 zg_1_19_30.2.2.2.2.2.2.2.2.2.2.1 zg_1_19_30.2.2.2.2.2.2.2.2.2.2.2.1, rfl⟩
theorem zd_1_19_42 : zz_D zy_convolution_1_19 42 (.iload 4) 2 44 := ⟨zq_21 zg_1_19_30.2.2.2.2.2.2.2.2.2.2.2.2.1 zg_1_19_30.2.2.2.2.2.2.2.2.2.2.2.2.2.1, rfl⟩
theorem zd_1_19_44 : zz_D zy_convolution_1_19 44 (.bipush 10) 2 46 := ⟨zq_16 zg_1_19_30.2.2.2.2.2.2.2.2.2.2.2.2.2.2.1 zg_1_19_30.2.2.2.2.2.2.2.2.2.2.2.2.2.2.2.1 (by decide), rfl⟩
theorem zd_1_19_46 : zz_D zy_convolution_1_19 46 (.irem) 1 47 := ⟨zq_112 zg_1_19_30.2.2.2.2.2.2.2.2.2.2.2.2.2.2.2.2.1, rfl⟩
theorem zd_1_19_47 : zz_D zy_convolution_1_19 47 (.putfield 235) 3 50 := ⟨zq_181 zg_1_19_30.2.2.2.2.2.2.2.2.2.2.2.2.2.2.2.2.2.1 zg_1_19_30.2.2.2.2.2.2.2.2.2.2.2.2.2.2.2.2.2.2.1 zg_1_19_30.2.2.2.2.2.2.2.2.2.2.2.2.2.2.2.2.2.2.2.1 rfl, rfl⟩
theorem zd_1_19_50 : zz_D zy_convolution_1_19 50 (.aload 7) 2 52 := ⟨zq_25 zg_1_19_30.2.2.2.2.2.2.2.2.2.2.2.2.2.2.2.2.2.2.2.2.1 zg_1_19_30.2.2.2.2.2.2.2.2.2.2.2.2.2.2.2.2.2.2.2.2.2.1, rfl⟩
theorem zd_1_19_52 : zz_D zy_convolution_1_19 52 (.iload 5) 2 54 := ⟨zq_21 zg_1_19_30.2.2.2.2.2.2.2.2.2.2.2.2.2.2.2.2.2.2.2.2.2.2.1 zg_1_19_30.2.2.2.2.2.2.2.2.2.2.2.2.2.2.2.2.2.2.2.2.2.2.2, rfl⟩
theorem zg_1_19_54 : zq_at zy_convolution_1_19.2.1 54 182 ∧ zq_at zy_convolution_1_19.2.1 55 0 ∧ zq_at zy_convolution_1_19.2.1 56 238 := by decide +kernel
theorem zd_1_19_54 : zz_D zy_convolution_1_19 54 (.invokevirtual 238) 3 57 := ⟨zq_182 zg_1_19_54.1 zg_1_19_54.2.1 zg_1_19_54.2.2 rfl, rfl⟩
theorem zg_4_5_0 : zq_at zy_takeNarrowing_4_5.2.1 0 42 ∧ zq_at zy_takeNarrowing_4_5.2.1 1 27 ∧ zq_at zy_takeNarrowing_4_5.2.1 2 16 ∧ zq_at zy_takeNarrowing_4_5.2.1 3 16 ∧ zq_at zy_takeNarrowing_4_5.2.1 4 161 ∧ zq_at zy_takeNarrowing_4_5.2.1 5 0 ∧ zq_at zy_takeNarrowing_4_5.2.1 6 7 ∧ zq_at zy_takeNarrowing_4_5.2.1 11 3 ∧ zq_at zy_takeNarrowing_4_5.2.1 12 181 ∧ zq_at zy_takeNarrowing_4_5.2.1 13 0 ∧ zq_at zy_takeNarrowing_4_5.2.1 14 38 ∧ zq_at zy_takeNarrowing_4_5.2.1 15 42 ∧ zq_at zy_takeNarrowing_4_5.2.1 16 42 ∧ zq_at zy_takeNarrowing_4_5.2.1 17 180 ∧ zq_at zy_takeNarrowing_4_5.2.1 18 0 ∧ zq_at zy_takeNarrowing_4_5.2.1 19 38 ∧ zq_at zy_takeNarrowing_4_5.2.1 20 153 ∧ zq_at zy_takeNarrowing_4_5.2.1 21 0 ∧ zq_at zy_takeNarrowing_4_5.2.1 22 10 ∧ zq_at zy_takeNarrowing_4_5.2.1 30 27 ∧ zq_at zy_takeNarrowing_4_5.2.1 31 181 ∧ zq_at zy_takeNarrowing_4_5.2.1 32 0 ∧ zq_at zy_takeNarrowing_4_5.2.1 33 35 ∧ zq_at zy_takeNarrowing_4_5.2.1 34 177 := by decide +kernel
theorem zd_4_5_0 : zz_D zy_takeNarrowing_4_5 0 (.aload_n 0) 1 1 := ⟨zq_42 zg_4_5_0.1, rfl⟩
theorem zd_4_5_1 : zz_D zy_takeNarrowing_4_5 1 (.iload_n 1) 1 2 := ⟨zq_27 zg_4_5_0.2.1, rfl⟩
theorem zd_4_5_2 : zz_D zy_takeNarrowing_4_5 2 (.bipush 16) 2 4 := ⟨zq_16 zg_4_5_0.2.2.1 zg_4_5_0.2.2.2.1 (by decide), rfl⟩
theorem zd_4_5_4 : zz_B zy_takeNarrowing_4_5 4 (Instr.if_icmp .lt) 11 7 := ⟨7, zq_161 zg_4_5_0.2.2.2.2.1 zg_4_5_0.2.2.2.2.2.1 zg_4_5_0.2.2.2.2.2.2.1 (by decide), rfl, rfl⟩
theorem zd_4_5_11 : zz_D zy_takeNarrowing_4_5 11 (.iconst 0) 1 12 := ⟨zq_3 zg_4_5_0.2.2.2.2.2.2.2.1, rfl⟩
theorem zd_4_5_12 : zz_D zy_takeNarrowing_4_5 12 (.putfield 38) 3 15 := ⟨zq_181 zg_4_5_0.2.2.2.2.2.2.2.2.1 zg_4_5_0.2.2.2.2.2.2.2.2.2.1 zg_4_5_0.2.2.2.2.2.2.2.2.2.2.1 rfl, rfl⟩
theorem zd_4_5_15 : zz_D zy_takeNarrowing_4_5 15 (.aload_n 0) 1 16 := ⟨zq_42 zg_4_5_0.2.2.2.2.2.2.2.2.2.2.2.1, rfl⟩
theorem zd_4_5_16 : zz_D zy_takeNarrowing_4_5 16 (.aload_n 0) 1 17 := ⟨zq_42 zg_4_5_0.2.2.2.2.2.2.2.2.2.2.2.2.1, rfl⟩
theorem zd_4_5_17 : zz_D zy_takeNarrowing_4_5 17 (.getfield 38) 3 20 := ⟨zq_180 zg_4_5_0.2.2.2.2.2.2.2.2.2.2.2.2.2.1 zg_4_5_0.2.2.2.2.2.2.2.2.2.2.2.2.2.2.1 zg_4_5_0.2.2.2.2.2.2.2.2.2.2.2.2.2.2.2.1 rfl, rfl⟩
theorem zd_4_5_20 : zz_B zy_takeNarrowing_4_5 20 (Instr.ifCond .eq) 30 23 := ⟨10, zq_153 zg_4_5_0.2.2.2.2.2.2.2.2.2.2.2.2.2.2.2.2.1 zg_4_5_0.2.2.2.2.2.2.2.2.2.2.2.2.2.2.2.2.2.1 zg_4_5_0.2.2.2.2.2.2.2.2.2.2.2.2.2.2.2.2.2.2.1 (by decide), rfl, rfl⟩
theorem zd_4_5_30 : zz_D zy_takeNarrowing_4_5 30 (.iload_n 1) 1 31 := ⟨zq_27 zg_4_5_0.2.2.2.2.2.2.2.2.2.2.2.2.2.2.2.2.2.2.2.1, rfl⟩
theorem zd_4_5_31 : zz_D zy_takeNarrowing_4_5 31 (.putfield 35) 3 34 := ⟨zq_181 zg_4_5_0.2.2.2.2.2.2.2.2.2.2.2.2.2.2.2.2.2.2.2.2.1 zg_4_5_0.2.2.2.2.2.2.2.2.2.2.2.2.2.2.2.2.2.2.2.2.2.1 zg_4_5_0.2.2.2.2.2.2.2.2.2.2.2.2.2.2.2.2.2.2.2.2.2.2.1 rfl, rfl⟩
theorem zd_4_5_34 : zz_D zy_takeNarrowing_4_5 34 (.return_) 1 35 := ⟨zq_177 zg_4_5_0.2.2.2.2.2.2.2.2.2.2.2.2.2.2.2.2.2.2.2.2.2.2.2, rfl⟩
theorem zg_4_5_7 : zq_at zy_takeNarrowing_4_5.2.1 7 4 ∧ zq_at zy_takeNarrowing_4_5.2.1 8 167 ∧ zq_at zy_takeNarrowing_4_5.2.1 9 0 ∧ zq_at zy_takeNarrowing_4_5.2.1 10 4 ∧ zq_at zy_takeNarrowing_4_5.2.1 23 27 ∧ zq_at zy_takeNarrowing_4_5.2.1 24 16 ∧ zq_at zy_takeNarrowing_4_5.2.1 25 16 ∧ zq_at zy_takeNarrowing_4_5.2.1 26 100 ∧ zq_at zy_takeNarrowing_4_5.2.1 27 167 ∧ zq_at zy_takeNarrowing_4_5.2.1 28 0 ∧ zq_at zy_takeNarrowing_4_5.2.1 29 4 := by decide +kernel
theorem zd_4_5_7 : zz_D zy_takeNarrowing_4_5 7 (.iconst 1) 1 8 := ⟨zq_4 zg_4_5_7.1, rfl⟩
theorem zd_4_5_8 : zz_B zy_takeNarrowing_4_5 8 Instr.goto 12 11 := ⟨4, zq_167 zg_4_5_7.2.1 zg_4_5_7.2.2.1 zg_4_5_7.2.2.2.1 (by decide), rfl, rfl⟩
theorem zd_4_5_23 : zz_D zy_takeNarrowing_4_5 23 (.iload_n 1) 1 24 := ⟨zq_27 zg_4_5_7.2.2.2.2.1, rfl⟩
theorem zd_4_5_24 : zz_D zy_takeNarrowing_4_5 24 (.bipush 16) 2 26 := ⟨zq_16 zg_4_5_7.2.2.2.2.2.1 zg_4_5_7.2.2.2.2.2.2.1 (by decide), rfl⟩
theorem zd_4_5_26 : zz_D zy_takeNarrowing_4_5 26 (.isub) 1 27 := ⟨zq_100 zg_4_5_7.2.2.2.2.2.2.2.1, rfl⟩
theorem zd_4_5_27 : zz_B zy_takeNarrowing_4_5 27 Instr.goto 31 30 := ⟨4, zq_167 zg_4_5_7.2.2.2.2.2.2.2.2.1 zg_4_5_7.2.2.2.2.2.2.2.2.2.1 zg_4_5_7.2.2.2.2.2.2.2.2.2.2 (by decide), rfl, rfl⟩
-- TensorForge$Layer takeNarrowing (I)V
abbrev zr_takeNarrowing_4_5 : Room := { frames := 0, cells := 0, slots := 0, locals := 0 }
def zp_takeNarrowing_4_5 (t : Int) (p0 : Int) (S0 : zz_S) : zz_S → Prop := fun S => zz_G S ∧ zz_fr [] [] (fun a i => (a = zz_rf 6 t ∧ i = 7) ∨ (a = zz_rf 6 t ∧ i = 8)) S0 S ∧ ((16 ≤ p0 ∧ S (zz_rf 6 t) 8 = 1 ∧ S (zz_rf 6 t) 7 = p0 - 16) ∨ (p0 < 16 ∧ S (zz_rf 6 t) 8 = 0 ∧ S (zz_rf 6 t) 7 = p0))
theorem zc_takeNarrowing_4_5 {g : mm_G} {l : Launch} (t : Int) (p0 : Int) (S0 : zz_S) (n : Nat) (hn : zz_end ≤ n) (G_S0 : zz_G S0) (ht : 0 ≤ t ∧ t ≤ 23) (hp0 : (-2147483648) ≤ p0 ∧ p0 ≤ 2147483647) : mm_Met g l zy_takeNarrowing_4_5 zr_takeNarrowing_4_5 [.ref (zz_rf 6 t), zi p0] (zz_M S0 n) n (zz_QV n (zp_takeNarrowing_4_5 t p0 S0)) := by
  refine zz_enter (by decide) (Nat.le_of_ble_eq_true rfl) (zz_less (ls1 := [some (.ref (zz_rf 6 t)), some (zi p0)]) ⟨rfl, ⟨rfl, trivial⟩⟩ ?_)
  have F_S0 : zz_fr [] [] (fun a i => (a = zz_rf 6 t ∧ i = 7) ∨ (a = zz_rf 6 t ∧ i = 8)) S0 S0 := zz_fr.refl
  have b_t := zz_rf6 (z := t) (by omega)
  refine zz_aload_n (x := zz_rf 6 t) rfl zd_4_5_0 ?_
  refine zz_iload_n (x := p0) rfl zd_4_5_1 ?_
  refine zz_bipush (by decide) zd_4_5_2 ?_
  refine zz_icmp_lt (by omega) (by omega) zd_4_5_4 (fun c1 => ?_) (fun c1 => ?_)
  · refine zz_iconst zd_4_5_11 ?_
    refine zz_putz zd_4_5_12 zf_Layer_38 (zT_k6 (by omega)) rfl (zN_k6 hn (by omega)) (by omega) (fun S2 qS2 => ?_)
    have G_S2 := zz_G.put G_S0 qS2 0 1 (zR_k6_8 (by omega)) (by omega)
    have F_S2 := zz_fr.putv F_S0 qS2 (Or.inr (⟨rfl, rfl⟩))
    refine zz_aload_n (x := zz_rf 6 t) rfl zd_4_5_15 ?_
    refine zz_aload_n (x := zz_rf 6 t) rfl zd_4_5_16 ?_
    refine zz_geti (z := 0) zd_4_5_17 zf_Layer_38 (zT_k6 (by omega)) rfl (zN_k6 hn (by omega)) (zz_rs qS2) ?_
    refine zz_if_eq (by omega) zd_4_5_20 (fun c3 => ?_) (fun c3 => ?_)
    · refine zz_iload_n (x := p0) rfl zd_4_5_30 ?_
      refine zz_puti zd_4_5_31 zf_Layer_35 (zT_k6 (by omega)) rfl (zN_k6 hn (by omega)) (fun S4 qS4 => ?_)
      have G_S4 := zz_G.put G_S2 qS4 (-2147483648) 2147483647 (zR_k6_7 (by omega)) (by omega)
      have F_S4 := zz_fr.putv F_S2 qS4 (Or.inl ⟨rfl, rfl⟩)
      have e5 : S4 (zz_rf 6 t) 7 = p0 := (zz_rs qS4)
      have e6 : S4 (zz_rf 6 t) 8 = 0 := (zz_ro qS4 (fun h => absurd h.2 (by decide)) (zz_rs qS2))
      exact zz_vret zd_4_5_34 rfl (Nat.zero_le _) (Nat.zero_le _) ⟨_, rfl, G_S4, F_S4, by omega⟩
    · exfalso; omega
  · refine zz_iconst zd_4_5_7 ?_
    refine zz_goto zd_4_5_8 ?_
    refine zz_putz zd_4_5_12 zf_Layer_38 (zT_k6 (by omega)) rfl (zN_k6 hn (by omega)) (by omega) (fun S7 qS7 => ?_)
    have G_S7 := zz_G.put G_S0 qS7 0 1 (zR_k6_8 (by omega)) (by omega)
    have F_S7 := zz_fr.putv F_S0 qS7 (Or.inr (⟨rfl, rfl⟩))
    refine zz_aload_n (x := zz_rf 6 t) rfl zd_4_5_15 ?_
    refine zz_aload_n (x := zz_rf 6 t) rfl zd_4_5_16 ?_
    refine zz_geti (z := 1) zd_4_5_17 zf_Layer_38 (zT_k6 (by omega)) rfl (zN_k6 hn (by omega)) (zz_rs qS7) ?_
    refine zz_if_eq (by omega) zd_4_5_20 (fun c8 => ?_) (fun c8 => ?_)
    · exfalso; omega
    · refine zz_iload_n (x := p0) rfl zd_4_5_23 ?_
      refine zz_bipush (by decide) zd_4_5_24 ?_
      refine zz_isub zd_4_5_26 ?_
      refine zz_goto zd_4_5_27 ?_
      refine zz_puti zd_4_5_31 zf_Layer_35 (zT_k6 (by omega)) rfl (zN_k6 hn (by omega)) (fun S9 qS9 => ?_)
      have G_S9 := zz_G.put G_S7 qS9 (-2147483648) 2147483647 (zR_k6_7 (by omega)) (by omega)
      have F_S9 := zz_fr.putv F_S7 qS9 (Or.inl ⟨rfl, rfl⟩)
      have e10 : S9 (zz_rf 6 t) 7 = p0 - 16 := (zz_rs qS9)
      have e11 : S9 (zz_rf 6 t) 8 = 1 := (zz_ro qS9 (fun h => absurd h.2 (by decide)) (zz_rs qS7))
      exact zz_vret zd_4_5_34 rfl (Nat.zero_le _) (Nat.zero_le _) ⟨_, rfl, G_S9, F_S9, by omega⟩
theorem zk_TF_238 : mm_Vl "TensorForge" 238 2 1 zy_takeNarrowing_4_5 := ⟨zyw_takeNarrowing_4_5, (R_Layer, F_Layer, 15), rfl, mm_tb_1 1363 (by decide +kernel) rfl, mm_tb_1 1364 (by decide +kernel) rfl, mm_tb_1 1365 (by decide +kernel) rfl⟩
theorem zf_TF_241 : mm_Fl "TensorForge" 241 2 12 .int false := ⟨R_Layer, F_Layer, 15, t_Layer, rfl, i_Layer, by decide, mm_tb_1 106 (by decide +kernel) rfl, rfl, t_Layer_ok, n_Layer, rfl, by decide +kernel⟩
theorem zf_TF_244 : mm_Fl "TensorForge" 244 2 9 .int false := ⟨R_Layer, F_Layer, 15, t_Layer, rfl, i_Layer, by decide, mm_tb_1 93 (by decide +kernel) rfl, rfl, t_Layer_ok, n_Layer, rfl, by decide +kernel⟩
abbrev zy_added_1_31 : mm_Y := (⟨"TensorForge", "added", "()I"⟩, prog_1_method_31_code, 2, (some .int))
theorem zyw_added_1_31 : mm_Yw zy_added_1_31 0 := ⟨mm_tb_1 1370 (by decide +kernel) rfl, mm_tb_1 1 (by decide +kernel) rfl, ⟨by decide, by decide⟩, by decide +kernel⟩
abbrev zy_offer_7_7 : mm_Y := (⟨"TensorForge$Network", "offer", "()I"⟩, prog_7_method_7_code, 3, (some .int))
theorem zyw_offer_7_7 : mm_Yw zy_offer_7_7 0 := ⟨mm_tb_1 992 (by decide +kernel) rfl, mm_tb_1 2 (by decide +kernel) rfl, ⟨by decide, by decide⟩, by decide +kernel⟩
theorem zk_Network_34 : mm_Vl "TensorForge$Network" 34 1 0 zy_draft_7_6 := ⟨zyw_draft_7_6, (R_Network, F_Network, 2), rfl, mm_tb_1 993 (by decide +kernel) rfl, mm_tb_1 941 (by decide +kernel) rfl, mm_tb_1 942 (by decide +kernel) rfl⟩
theorem zf_Network_38 : mm_Fl "TensorForge$Network" 38 2 1 .int false := ⟨R_Layer, F_Layer, 15, t_Layer, rfl, i_Layer, by decide, mm_tb_1 63 (by decide +kernel) rfl, rfl, t_Layer_ok, n_Layer, rfl, by decide +kernel⟩
abbrev zy_has_7_5 : mm_Y := (⟨"TensorForge$Network", "has", "(I)Z"⟩, prog_7_method_5_code, 2, (some .boolean))
theorem zyw_has_7_5 : mm_Yw zy_has_7_5 1 := ⟨mm_tb_1 861 (by decide +kernel) rfl, mm_tb_1 2 (by decide +kernel) rfl, ⟨by decide, by decide⟩, by decide +kernel⟩
theorem zg_1_19_57 : zq_at zy_convolution_1_19.2.1 57 25 ∧ zq_at zy_convolution_1_19.2.1 58 7 ∧ zq_at zy_convolution_1_19.2.1 59 29 ∧ zq_at zy_convolution_1_19.2.1 60 181 ∧ zq_at zy_convolution_1_19.2.1 61 0 ∧ zq_at zy_convolution_1_19.2.1 62 241 ∧ zq_at zy_convolution_1_19.2.1 63 25 ∧ zq_at zy_convolution_1_19.2.1 64 7 ∧ zq_at zy_convolution_1_19.2.1 65 21 ∧ zq_at zy_convolution_1_19.2.1 66 6 ∧ zq_at zy_convolution_1_19.2.1 67 181 ∧ zq_at zy_convolution_1_19.2.1 68 0 ∧ zq_at zy_convolution_1_19.2.1 69 244 ∧ zq_at zy_convolution_1_19.2.1 70 42 ∧ zq_at zy_convolution_1_19.2.1 71 182 ∧ zq_at zy_convolution_1_19.2.1 72 0 ∧ zq_at zy_convolution_1_19.2.1 73 247 := by decide +kernel
theorem zd_1_19_57 : zz_D zy_convolution_1_19 57 (.aload 7) 2 59 := ⟨zq_25 zg_1_19_57.1 zg_1_19_57.2.1, rfl⟩
theorem zd_1_19_59 : zz_D zy_convolution_1_19 59 (.iload_n 3) 1 60 := ⟨zq_29 zg_1_19_57.2.2.1, rfl⟩
theorem zd_1_19_60 : zz_D zy_convolution_1_19 60 (.putfield 241) 3 63 := ⟨zq_181 zg_1_19_57.2.2.2.1 zg_1_19_57.2.2.2.2.1 zg_1_19_57.2.2.2.2.2.1 rfl, rfl⟩
theorem zd_1_19_63 : zz_D zy_convolution_1_19 63 (.aload 7) 2 65 := ⟨zq_25 zg_1_19_57.2.2.2.2.2.2.1 zg_1_19_57.2.2.2.2.2.2.2.1, rfl⟩
theorem zd_1_19_65 : zz_D zy_convolution_1_19 65 (.iload 6) 2 67 := ⟨zq_21 zg_1_19_57.2.2.2.2.2.2.2.2.1 zg_1_19_57.2.2.2.2.2.2.2.2.2.1, rfl⟩
theorem zd_1_19_67 : zz_D zy_convolution_1_19 67 (.putfield 244) 3 70 := ⟨zq_181 zg_1_19_57.2.2.2.2.2.2.2.2.2.2.1 zg_1_19_57.2.2.2.2.2.2.2.2.2.2.2.1 zg_1_19_57.2.2.2.2.2.2.2.2.2.2.2.2.1 rfl, rfl⟩
theorem zd_1_19_70 : zz_D zy_convolution_1_19 70 (.aload_n 0) 1 71 := ⟨zq_42 zg_1_19_57.2.2.2.2.2.2.2.2.2.2.2.2.2.1, rfl⟩
theorem zd_1_19_71 : zz_D zy_convolution_1_19 71 (.invokevirtual 247) 3 74 := ⟨zq_182 zg_1_19_57.2.2.2.2.2.2.2.2.2.2.2.2.2.2.1 zg_1_19_57.2.2.2.2.2.2.2.2.2.2.2.2.2.2.2.1 zg_1_19_57.2.2.2.2.2.2.2.2.2.2.2.2.2.2.2.2 rfl, rfl⟩
theorem zg_1_31_0 : zq_at zy_added_1_31.2.1 0 42 ∧ zq_at zy_added_1_31.2.1 1 180 ∧ zq_at zy_added_1_31.2.1 2 0 ∧ zq_at zy_added_1_31.2.1 3 10 ∧ zq_at zy_added_1_31.2.1 4 182 ∧ zq_at zy_added_1_31.2.1 5 1 ∧ zq_at zy_added_1_31.2.1 6 70 := by decide +kernel
theorem zd_1_31_0 : zz_D zy_added_1_31 0 (.aload_n 0) 1 1 := ⟨zq_42 zg_1_31_0.1, rfl⟩
theorem zd_1_31_1 : zz_D zy_added_1_31 1 (.getfield 10) 3 4 := ⟨zq_180 zg_1_31_0.2.1 zg_1_31_0.2.2.1 zg_1_31_0.2.2.2.1 rfl, rfl⟩
theorem zd_1_31_4 : zz_D zy_added_1_31 4 (.invokevirtual 326) 3 7 := ⟨zq_182 zg_1_31_0.2.2.2.2.1 zg_1_31_0.2.2.2.2.2.1 zg_1_31_0.2.2.2.2.2.2 rfl, rfl⟩
theorem zg_7_7_0 : zq_at zy_offer_7_7.2.1 0 42 ∧ zq_at zy_offer_7_7.2.1 1 182 ∧ zq_at zy_offer_7_7.2.1 2 0 ∧ zq_at zy_offer_7_7.2.1 3 34 ∧ zq_at zy_offer_7_7.2.1 4 76 ∧ zq_at zy_offer_7_7.2.1 5 42 ∧ zq_at zy_offer_7_7.2.1 6 43 ∧ zq_at zy_offer_7_7.2.1 7 180 ∧ zq_at zy_offer_7_7.2.1 8 0 ∧ zq_at zy_offer_7_7.2.1 9 38 ∧ zq_at zy_offer_7_7.2.1 10 182 ∧ zq_at zy_offer_7_7.2.1 11 0 ∧ zq_at zy_offer_7_7.2.1 12 41 := by decide +kernel
theorem zd_7_7_0 : zz_D zy_offer_7_7 0 (.aload_n 0) 1 1 := ⟨zq_42 zg_7_7_0.1, rfl⟩
theorem zd_7_7_1 : zz_D zy_offer_7_7 1 (.invokevirtual 34) 3 4 := ⟨zq_182 zg_7_7_0.2.1 zg_7_7_0.2.2.1 zg_7_7_0.2.2.2.1 rfl, rfl⟩
theorem zd_7_7_4 : zz_D zy_offer_7_7 4 (.astore_n 1) 1 5 := ⟨zq_76 zg_7_7_0.2.2.2.2.1, rfl⟩
theorem zd_7_7_5 : zz_D zy_offer_7_7 5 (.aload_n 0) 1 6 := ⟨zq_42 zg_7_7_0.2.2.2.2.2.1, rfl⟩
theorem zd_7_7_6 : zz_D zy_offer_7_7 6 (.aload_n 1) 1 7 := ⟨zq_43 zg_7_7_0.2.2.2.2.2.2.1, rfl⟩
theorem zd_7_7_7 : zz_D zy_offer_7_7 7 (.getfield 38) 3 10 := ⟨zq_180 zg_7_7_0.2.2.2.2.2.2.2.1 zg_7_7_0.2.2.2.2.2.2.2.2.1 zg_7_7_0.2.2.2.2.2.2.2.2.2.1 rfl, rfl⟩
theorem zd_7_7_10 : zz_D zy_offer_7_7 10 (.invokevirtual 41) 3 13 := ⟨zq_182 zg_7_7_0.2.2.2.2.2.2.2.2.2.2.1 zg_7_7_0.2.2.2.2.2.2.2.2.2.2.2.1 zg_7_7_0.2.2.2.2.2.2.2.2.2.2.2.2 rfl, rfl⟩
theorem zg_7_5_0 : zq_at zy_has_7_5.2.1 0 27 ∧ zq_at zy_has_7_5.2.1 1 155 ∧ zq_at zy_has_7_5.2.1 2 0 ∧ zq_at zy_has_7_5.2.1 3 15 ∧ zq_at zy_has_7_5.2.1 16 3 ∧ zq_at zy_has_7_5.2.1 17 172 ∧ zq_at zy_has_7_5.2.1 4 27 ∧ zq_at zy_has_7_5.2.1 5 42 ∧ zq_at zy_has_7_5.2.1 6 180 ∧ zq_at zy_has_7_5.2.1 7 0 ∧ zq_at zy_has_7_5.2.1 8 16 ∧ zq_at zy_has_7_5.2.1 9 162 ∧ zq_at zy_has_7_5.2.1 10 0 ∧ zq_at zy_has_7_5.2.1 11 7 ∧ zq_at zy_has_7_5.2.1 12 4 ∧ zq_at zy_has_7_5.2.1 13 167 ∧ zq_at zy_has_7_5.2.1 14 0 ∧ zq_at zy_has_7_5.2.1 15 4 := by decide +kernel
theorem zd_7_5_0 : zz_D zy_has_7_5 0 (.iload_n 1) 1 1 := ⟨zq_27 zg_7_5_0.1, rfl⟩
theorem zd_7_5_1 : zz_B zy_has_7_5 1 (Instr.ifCond .lt) 16 4 := ⟨15, zq_155 zg_7_5_0.2.1 zg_7_5_0.2.2.1 zg_7_5_0.2.2.2.1 (by decide), rfl, rfl⟩
theorem zd_7_5_16 : zz_D zy_has_7_5 16 (.iconst 0) 1 17 := ⟨zq_3 zg_7_5_0.2.2.2.2.1, rfl⟩
theorem zd_7_5_17 : zz_D zy_has_7_5 17 (.ireturn) 1 18 := ⟨zq_172 zg_7_5_0.2.2.2.2.2.1, rfl⟩
theorem zd_7_5_4 : zz_D zy_has_7_5 4 (.iload_n 1) 1 5 := ⟨zq_27 zg_7_5_0.2.2.2.2.2.2.1, rfl⟩
theorem zd_7_5_5 : zz_D zy_has_7_5 5 (.aload_n 0) 1 6 := ⟨zq_42 zg_7_5_0.2.2.2.2.2.2.2.1, rfl⟩
theorem zd_7_5_6 : zz_D zy_has_7_5 6 (.getfield 16) 3 9 := ⟨zq_180 zg_7_5_0.2.2.2.2.2.2.2.2.1 zg_7_5_0.2.2.2.2.2.2.2.2.2.1 zg_7_5_0.2.2.2.2.2.2.2.2.2.2.1 rfl, rfl⟩
theorem zd_7_5_9 : zz_B zy_has_7_5 9 (Instr.if_icmp .ge) 16 12 := ⟨7, zq_162 zg_7_5_0.2.2.2.2.2.2.2.2.2.2.2.1 zg_7_5_0.2.2.2.2.2.2.2.2.2.2.2.2.1 zg_7_5_0.2.2.2.2.2.2.2.2.2.2.2.2.2.1 (by decide), rfl, rfl⟩
theorem zd_7_5_12 : zz_D zy_has_7_5 12 (.iconst 1) 1 13 := ⟨zq_4 zg_7_5_0.2.2.2.2.2.2.2.2.2.2.2.2.2.2.1, rfl⟩
theorem zd_7_5_13 : zz_B zy_has_7_5 13 Instr.goto 17 16 := ⟨4, zq_167 zg_7_5_0.2.2.2.2.2.2.2.2.2.2.2.2.2.2.2.1 zg_7_5_0.2.2.2.2.2.2.2.2.2.2.2.2.2.2.2.2.1 zg_7_5_0.2.2.2.2.2.2.2.2.2.2.2.2.2.2.2.2.2 (by decide), rfl, rfl⟩
-- TensorForge$Network has (I)Z
abbrev zr_has_7_5 : Room := { frames := 0, cells := 0, slots := 0, locals := 0 }
def zp_has_7_5 (t : Int) (p0 : Int) (S0 : zz_S) : Int → zz_S → Prop := fun r S => S0 = S ∧ (0 ≤ r ∧ r ≤ 1) ∧ ((r = 1 ∧ 0 ≤ p0 ∧ p0 < S0 (zz_rf 3 t) 1) ∨ (r = 0 ∧ (p0 < 0 ∨ p0 ≥ S0 (zz_rf 3 t) 1)))
theorem zc_has_7_5 {g : mm_G} {l : Launch} (t : Int) (p0 : Int) (S0 : zz_S) (n : Nat) (hn : zz_end ≤ n) (G_S0 : zz_G S0) (ht : 0 ≤ t ∧ t ≤ 1) (hp0 : (-2147483648) ≤ p0 ∧ p0 ≤ 2147483647) : mm_Met g l zy_has_7_5 zr_has_7_5 [.ref (zz_rf 3 t), zi p0] (zz_M S0 n) n (zz_QI n (zp_has_7_5 t p0 S0)) := by
  refine zz_enter (by decide) (Nat.le_of_ble_eq_true rfl) (zz_less (ls1 := [some (.ref (zz_rf 3 t)), some (zi p0)]) ⟨rfl, ⟨rfl, trivial⟩⟩ ?_)
  have b_t := zz_rf3 (z := t) (by omega)
  refine zz_iload_n (x := p0) rfl zd_7_5_0 ?_
  refine zz_if_lt (by omega) zd_7_5_1 (fun c1 => ?_) (fun c1 => ?_)
  · refine zz_iconst zd_7_5_16 ?_
    exact zz_zret zd_7_5_17 rfl (by omega) (Nat.zero_le _) (Nat.zero_le _) ⟨_, _, rfl, rfl, by omega, by omega⟩
  · refine zz_iload_n (x := p0) rfl zd_7_5_4 ?_
    refine zz_aload_n (x := zz_rf 3 t) rfl zd_7_5_5 ?_
    have g2 := zz_G.r G_S0 (zz_rf 3 t) 1 1 11 (zR_k3_1 (by omega)) (zB_k3 (by omega))
    refine zz_geti (z := S0 (zz_rf 3 t) 1) zd_7_5_6 zf_Network_16 (zT_k3 (by omega)) rfl (zN_k3 hn (by omega)) rfl ?_
    refine zz_icmp_ge (by omega) (by omega) zd_7_5_9 (fun c3 => ?_) (fun c3 => ?_)
    · refine zz_iconst zd_7_5_16 ?_
      exact zz_zret zd_7_5_17 rfl (by omega) (Nat.zero_le _) (Nat.zero_le _) ⟨_, _, rfl, rfl, by omega, by omega⟩
    · refine zz_iconst zd_7_5_12 ?_
      refine zz_goto zd_7_5_13 ?_
      exact zz_zret zd_7_5_17 rfl (by omega) (Nat.zero_le _) (Nat.zero_le _) ⟨_, _, rfl, rfl, by omega, by omega⟩
theorem zk_Network_41 : mm_Vl "TensorForge$Network" 41 1 1 zy_has_7_5 := ⟨zyw_has_7_5, (R_Network, F_Network, 2), rfl, mm_tb_1 858 (by decide +kernel) rfl, mm_tb_1 859 (by decide +kernel) rfl, mm_tb_1 860 (by decide +kernel) rfl⟩
theorem zf_Network_45 : mm_Fl "TensorForge$Network" 45 2 2 .int false := ⟨R_Layer, F_Layer, 15, t_Layer, rfl, i_Layer, by decide, mm_tb_1 67 (by decide +kernel) rfl, rfl, t_Layer_ok, n_Layer, rfl, by decide +kernel⟩
abbrev zy_numbersFit_4_10 : mm_Y := (⟨"TensorForge$Layer", "numbersFit", "()Z"⟩, prog_4_method_10_code, 1, (some .boolean))
theorem zyw_numbersFit_4_10 : mm_Yw zy_numbersFit_4_10 0 := ⟨mm_tb_1 997 (by decide +kernel) rfl, mm_tb_1 3 (by decide +kernel) rfl, ⟨by decide, by decide⟩, by decide +kernel⟩
theorem zk_Layer_63 : mm_Sl "TensorForge$Layer" 63 3 zy_isWithin_4_9 := ⟨zyw_isWithin_4_9, mm_tb_1 998 (by decide +kernel) rfl, mm_tb_1 999 (by decide +kernel) rfl⟩
theorem zg_7_7_13 : zq_at zy_offer_7_7.2.1 13 153 ∧ zq_at zy_offer_7_7.2.1 14 0 ∧ zq_at zy_offer_7_7.2.1 15 14 ∧ zq_at zy_offer_7_7.2.1 27 4 ∧ zq_at zy_offer_7_7.2.1 28 172 ∧ zq_at zy_offer_7_7.2.1 16 42 ∧ zq_at zy_offer_7_7.2.1 17 43 ∧ zq_at zy_offer_7_7.2.1 18 180 ∧ zq_at zy_offer_7_7.2.1 19 0 ∧ zq_at zy_offer_7_7.2.1 20 45 ∧ zq_at zy_offer_7_7.2.1 21 182 ∧ zq_at zy_offer_7_7.2.1 22 0 ∧ zq_at zy_offer_7_7.2.1 23 41 ∧ zq_at zy_offer_7_7.2.1 24 154 ∧ zq_at zy_offer_7_7.2.1 25 0 ∧ zq_at zy_offer_7_7.2.1 26 5 ∧ zq_at zy_offer_7_7.2.1 29 43 ∧ zq_at zy_offer_7_7.2.1 30 182 ∧ zq_at zy_offer_7_7.2.1 31 0 ∧ zq_at zy_offer_7_7.2.1 32 48 := by decide +kernel
theorem zd_7_7_13 : zz_B zy_offer_7_7 13 (Instr.ifCond .eq) 27 16 := ⟨14, zq_153 zg_7_7_13.1 zg_7_7_13.2.1 zg_7_7_13.2.2.1 (by decide), rfl, rfl⟩
theorem zd_7_7_27 : zz_D zy_offer_7_7 27 (.iconst 1) 1 28 := ⟨zq_4 zg_7_7_13.2.2.2.1, rfl⟩
theorem zd_7_7_28 : zz_D zy_offer_7_7 28 (.ireturn) 1 29 := ⟨zq_172 zg_7_7_13.2.2.2.2.1, rfl⟩
theorem zd_7_7_16 : zz_D zy_offer_7_7 16 (.aload_n 0) 1 17 := ⟨zq_42 zg_7_7_13.2.2.2.2.2.1, rfl⟩
theorem zd_7_7_17 : zz_D zy_offer_7_7 17 (.aload_n 1) 1 18 := ⟨zq_43 zg_7_7_13.2.2.2.2.2.2.1, rfl⟩
theorem zd_7_7_18 : zz_D zy_offer_7_7 18 (.getfield 45) 3 21 := ⟨zq_180 zg_7_7_13.2.2.2.2.2.2.2.1 zg_7_7_13.2.2.2.2.2.2.2.2.1 zg_7_7_13.2.2.2.2.2.2.2.2.2.1 rfl, rfl⟩
theorem zd_7_7_21 : zz_D zy_offer_7_7 21 (.invokevirtual 41) 3 24 := ⟨zq_182 zg_7_7_13.2.2.2.2.2.2.2.2.2.2.1 zg_7_7_13.2.2.2.2.2.2.2.2.2.2.2.1 zg_7_7_13.2.2.2.2.2.2.2.2.2.2.2.2.1 rfl, rfl⟩
theorem zd_7_7_24 : zz_B zy_offer_7_7 24 (Instr.ifCond .ne) 29 27 := ⟨5, zq_154 zg_7_7_13.2.2.2.2.2.2.2.2.2.2.2.2.2.1 zg_7_7_13.2.2.2.2.2.2.2.2.2.2.2.2.2.2.1 zg_7_7_13.2.2.2.2.2.2.2.2.2.2.2.2.2.2.2.1 (by decide), rfl, rfl⟩
theorem zd_7_7_29 : zz_D zy_offer_7_7 29 (.aload_n 1) 1 30 := ⟨zq_43 zg_7_7_13.2.2.2.2.2.2.2.2.2.2.2.2.2.2.2.2.1, rfl⟩
theorem zd_7_7_30 : zz_D zy_offer_7_7 30 (.invokevirtual 48) 3 33 := ⟨zq_182 zg_7_7_13.2.2.2.2.2.2.2.2.2.2.2.2.2.2.2.2.2.1 zg_7_7_13.2.2.2.2.2.2.2.2.2.2.2.2.2.2.2.2.2.2.1 zg_7_7_13.2.2.2.2.2.2.2.2.2.2.2.2.2.2.2.2.2.2.2 rfl, rfl⟩
theorem zg_4_10_0 : zq_at zy_numbersFit_4_10.2.1 0 42 ∧ zq_at zy_numbersFit_4_10.2.1 1 180 ∧ zq_at zy_numbersFit_4_10.2.1 2 0 ∧ zq_at zy_numbersFit_4_10.2.1 3 13 ∧ zq_at zy_numbersFit_4_10.2.1 4 6 ∧ zq_at zy_numbersFit_4_10.2.1 5 160 ∧ zq_at zy_numbersFit_4_10.2.1 6 0 ∧ zq_at zy_numbersFit_4_10.2.1 7 14 ∧ zq_at zy_numbersFit_4_10.2.1 19 42 ∧ zq_at zy_numbersFit_4_10.2.1 20 180 ∧ zq_at zy_numbersFit_4_10.2.1 21 0 ∧ zq_at zy_numbersFit_4_10.2.1 22 23 ∧ zq_at zy_numbersFit_4_10.2.1 23 4 ∧ zq_at zy_numbersFit_4_10.2.1 24 6 ∧ zq_at zy_numbersFit_4_10.2.1 25 184 ∧ zq_at zy_numbersFit_4_10.2.1 26 0 ∧ zq_at zy_numbersFit_4_10.2.1 27 63 ∧ zq_at zy_numbersFit_4_10.2.1 28 153 ∧ zq_at zy_numbersFit_4_10.2.1 29 0 ∧ zq_at zy_numbersFit_4_10.2.1 30 15 ∧ zq_at zy_numbersFit_4_10.2.1 43 3 ∧ zq_at zy_numbersFit_4_10.2.1 44 172 ∧ zq_at zy_numbersFit_4_10.2.1 31 42 := by decide +kernel
theorem zd_4_10_0 : zz_D zy_numbersFit_4_10 0 (.aload_n 0) 1 1 := ⟨zq_42 zg_4_10_0.1, rfl⟩
theorem zd_4_10_1 : zz_D zy_numbersFit_4_10 1 (.getfield 13) 3 4 := ⟨zq_180 zg_4_10_0.2.1 zg_4_10_0.2.2.1 zg_4_10_0.2.2.2.1 rfl, rfl⟩
theorem zd_4_10_4 : zz_D zy_numbersFit_4_10 4 (.iconst 3) 1 5 := ⟨zq_6 zg_4_10_0.2.2.2.2.1, rfl⟩
theorem zd_4_10_5 : zz_B zy_numbersFit_4_10 5 (Instr.if_icmp .ne) 19 8 := ⟨14, zq_160 zg_4_10_0.2.2.2.2.2.1 zg_4_10_0.2.2.2.2.2.2.1 zg_4_10_0.2.2.2.2.2.2.2.1 (by decide), rfl, rfl⟩
theorem zd_4_10_19 : zz_D zy_numbersFit_4_10 19 (.aload_n 0) 1 20 := ⟨zq_42 zg_4_10_0.2.2.2.2.2.2.2.2.1, rfl⟩
theorem zd_4_10_20 : zz_D zy_numbersFit_4_10 20 (.getfield 23) 3 23 := ⟨zq_180 zg_4_10_0.2.2.2.2.2.2.2.2.2.1 zg_4_10_0.2.2.2.2.2.2.2.2.2.2.1 zg_4_10_0.2.2.2.2.2.2.2.2.2.2.2.1 rfl, rfl⟩
theorem zd_4_10_23 : zz_D zy_numbersFit_4_10 23 (.iconst 1) 1 24 := ⟨zq_4 zg_4_10_0.2.2.2.2.2.2.2.2.2.2.2.2.1, rfl⟩
theorem zd_4_10_24 : zz_D zy_numbersFit_4_10 24 (.iconst 3) 1 25 := ⟨zq_6 zg_4_10_0.2.2.2.2.2.2.2.2.2.2.2.2.2.1, rfl⟩
theorem zd_4_10_25 : zz_D zy_numbersFit_4_10 25 (.invokestatic 63) 3 28 := ⟨zq_184 zg_4_10_0.2.2.2.2.2.2.2.2.2.2.2.2.2.2.1 zg_4_10_0.2.2.2.2.2.2.2.2.2.2.2.2.2.2.2.1 zg_4_10_0.2.2.2.2.2.2.2.2.2.2.2.2.2.2.2.2.1 rfl, rfl⟩
theorem zd_4_10_28 : zz_B zy_numbersFit_4_10 28 (Instr.ifCond .eq) 43 31 := ⟨15, zq_153 zg_4_10_0.2.2.2.2.2.2.2.2.2.2.2.2.2.2.2.2.2.1 zg_4_10_0.2.2.2.2.2.2.2.2.2.2.2.2.2.2.2.2.2.2.1 zg_4_10_0.2.2.2.2.2.2.2.2.2.2.2.2.2.2.2.2.2.2.2.1 (by decide), rfl, rfl⟩
theorem zd_4_10_43 : zz_D zy_numbersFit_4_10 43 (.iconst 0) 1 44 := ⟨zq_3 zg_4_10_0.2.2.2.2.2.2.2.2.2.2.2.2.2.2.2.2.2.2.2.2.1, rfl⟩
theorem zd_4_10_44 : zz_D zy_numbersFit_4_10 44 (.ireturn) 1 45 := ⟨zq_172 zg_4_10_0.2.2.2.2.2.2.2.2.2.2.2.2.2.2.2.2.2.2.2.2.2.1, rfl⟩
theorem zd_4_10_31 : zz_D zy_numbersFit_4_10 31 (.aload_n 0) 1 32 := ⟨zq_42 zg_4_10_0.2.2.2.2.2.2.2.2.2.2.2.2.2.2.2.2.2.2.2.2.2.2, rfl⟩
theorem zg_4_10_32 : zq_at zy_numbersFit_4_10.2.1 32 180 ∧ zq_at zy_numbersFit_4_10.2.1 33 0 ∧ zq_at zy_numbersFit_4_10.2.1 34 26 ∧ zq_at zy_numbersFit_4_10.2.1 35 4 ∧ zq_at zy_numbersFit_4_10.2.1 36 6 ∧ zq_at zy_numbersFit_4_10.2.1 37 184 ∧ zq_at zy_numbersFit_4_10.2.1 38 0 ∧ zq_at zy_numbersFit_4_10.2.1 39 63 ∧ zq_at zy_numbersFit_4_10.2.1 40 154 ∧ zq_at zy_numbersFit_4_10.2.1 41 0 ∧ zq_at zy_numbersFit_4_10.2.1 42 5 ∧ zq_at zy_numbersFit_4_10.2.1 45 42 ∧ zq_at zy_numbersFit_4_10.2.1 46 180 ∧ zq_at zy_numbersFit_4_10.2.1 47 0 ∧ zq_at zy_numbersFit_4_10.2.1 48 13 ∧ zq_at zy_numbersFit_4_10.2.1 49 5 ∧ zq_at zy_numbersFit_4_10.2.1 50 160 ∧ zq_at zy_numbersFit_4_10.2.1 51 0 ∧ zq_at zy_numbersFit_4_10.2.1 52 13 ∧ zq_at zy_numbersFit_4_10.2.1 63 42 ∧ zq_at zy_numbersFit_4_10.2.1 64 180 ∧ zq_at zy_numbersFit_4_10.2.1 65 0 ∧ zq_at zy_numbersFit_4_10.2.1 66 29 ∧ zq_at zy_numbersFit_4_10.2.1 67 4 := by decide +kernel
theorem zd_4_10_32 : zz_D zy_numbersFit_4_10 32 (.getfield 26) 3 35 := ⟨zq_180 zg_4_10_32.1 zg_4_10_32.2.1 zg_4_10_32.2.2.1 rfl, rfl⟩
theorem zd_4_10_35 : zz_D zy_numbersFit_4_10 35 (.iconst 1) 1 36 := ⟨zq_4 zg_4_10_32.2.2.2.1, rfl⟩
theorem zd_4_10_36 : zz_D zy_numbersFit_4_10 36 (.iconst 3) 1 37 := ⟨zq_6 zg_4_10_32.2.2.2.2.1, rfl⟩
theorem zd_4_10_37 : zz_D zy_numbersFit_4_10 37 (.invokestatic 63) 3 40 := ⟨zq_184 zg_4_10_32.2.2.2.2.2.1 zg_4_10_32.2.2.2.2.2.2.1 zg_4_10_32.2.2.2.2.2.2.2.1 rfl, rfl⟩
theorem zd_4_10_40 : zz_B zy_numbersFit_4_10 40 (Instr.ifCond .ne) 45 43 := ⟨5, zq_154 zg_4_10_32.2.2.2.2.2.2.2.2.1 zg_4_10_32.2.2.2.2.2.2.2.2.2.1 zg_4_10_32.2.2.2.2.2.2.2.2.2.2.1 (by decide), rfl, rfl⟩
theorem zd_4_10_45 : zz_D zy_numbersFit_4_10 45 (.aload_n 0) 1 46 := ⟨zq_42 zg_4_10_32.2.2.2.2.2.2.2.2.2.2.2.1, rfl⟩
theorem zd_4_10_46 : zz_D zy_numbersFit_4_10 46 (.getfield 13) 3 49 := ⟨zq_180 zg_4_10_32.2.2.2.2.2.2.2.2.2.2.2.2.1 zg_4_10_32.2.2.2.2.2.2.2.2.2.2.2.2.2.1 zg_4_10_32.2.2.2.2.2.2.2.2.2.2.2.2.2.2.1 rfl, rfl⟩
theorem zd_4_10_49 : zz_D zy_numbersFit_4_10 49 (.iconst 2) 1 50 := ⟨zq_5 zg_4_10_32.2.2.2.2.2.2.2.2.2.2.2.2.2.2.2.1, rfl⟩
theorem zd_4_10_50 : zz_B zy_numbersFit_4_10 50 (Instr.if_icmp .ne) 63 53 := ⟨13, zq_160 zg_4_10_32.2.2.2.2.2.2.2.2.2.2.2.2.2.2.2.2.1 zg_4_10_32.2.2.2.2.2.2.2.2.2.2.2.2.2.2.2.2.2.1 zg_4_10_32.2.2.2.2.2.2.2.2.2.2.2.2.2.2.2.2.2.2.1 (by decide), rfl, rfl⟩
theorem zd_4_10_63 : zz_D zy_numbersFit_4_10 63 (.aload_n 0) 1 64 := ⟨zq_42 zg_4_10_32.2.2.2.2.2.2.2.2.2.2.2.2.2.2.2.2.2.2.2.1, rfl⟩
theorem zd_4_10_64 : zz_D zy_numbersFit_4_10 64 (.getfield 29) 3 67 := ⟨zq_180 zg_4_10_32.2.2.2.2.2.2.2.2.2.2.2.2.2.2.2.2.2.2.2.2.1 zg_4_10_32.2.2.2.2.2.2.2.2.2.2.2.2.2.2.2.2.2.2.2.2.2.1 zg_4_10_32.2.2.2.2.2.2.2.2.2.2.2.2.2.2.2.2.2.2.2.2.2.2.1 rfl, rfl⟩
theorem zd_4_10_67 : zz_D zy_numbersFit_4_10 67 (.iconst 1) 1 68 := ⟨zq_4 zg_4_10_32.2.2.2.2.2.2.2.2.2.2.2.2.2.2.2.2.2.2.2.2.2.2.2, rfl⟩
theorem zg_4_10_68 : zq_at zy_numbersFit_4_10.2.1 68 5 ∧ zq_at zy_numbersFit_4_10.2.1 69 184 ∧ zq_at zy_numbersFit_4_10.2.1 70 0 ∧ zq_at zy_numbersFit_4_10.2.1 71 63 ∧ zq_at zy_numbersFit_4_10.2.1 72 153 ∧ zq_at zy_numbersFit_4_10.2.1 73 0 ∧ zq_at zy_numbersFit_4_10.2.1 74 45 ∧ zq_at zy_numbersFit_4_10.2.1 117 3 ∧ zq_at zy_numbersFit_4_10.2.1 118 172 ∧ zq_at zy_numbersFit_4_10.2.1 75 42 ∧ zq_at zy_numbersFit_4_10.2.1 76 180 ∧ zq_at zy_numbersFit_4_10.2.1 77 0 ∧ zq_at zy_numbersFit_4_10.2.1 78 32 ∧ zq_at zy_numbersFit_4_10.2.1 79 3 ∧ zq_at zy_numbersFit_4_10.2.1 80 4 ∧ zq_at zy_numbersFit_4_10.2.1 81 184 ∧ zq_at zy_numbersFit_4_10.2.1 82 0 ∧ zq_at zy_numbersFit_4_10.2.1 83 63 ∧ zq_at zy_numbersFit_4_10.2.1 84 153 ∧ zq_at zy_numbersFit_4_10.2.1 85 0 ∧ zq_at zy_numbersFit_4_10.2.1 86 33 ∧ zq_at zy_numbersFit_4_10.2.1 87 42 := by decide +kernel
theorem zd_4_10_68 : zz_D zy_numbersFit_4_10 68 (.iconst 2) 1 69 := ⟨zq_5 zg_4_10_68.1, rfl⟩
theorem zd_4_10_69 : zz_D zy_numbersFit_4_10 69 (.invokestatic 63) 3 72 := ⟨zq_184 zg_4_10_68.2.1 zg_4_10_68.2.2.1 zg_4_10_68.2.2.2.1 rfl, rfl⟩
theorem zd_4_10_72 : zz_B zy_numbersFit_4_10 72 (Instr.ifCond .eq) 117 75 := ⟨45, zq_153 zg_4_10_68.2.2.2.2.1 zg_4_10_68.2.2.2.2.2.1 zg_4_10_68.2.2.2.2.2.2.1 (by decide), rfl, rfl⟩
theorem zd_4_10_117 : zz_D zy_numbersFit_4_10 117 (.iconst 0) 1 118 := ⟨zq_3 zg_4_10_68.2.2.2.2.2.2.2.1, rfl⟩
theorem zd_4_10_118 : zz_D zy_numbersFit_4_10 118 (.ireturn) 1 119 := ⟨zq_172 zg_4_10_68.2.2.2.2.2.2.2.2.1, rfl⟩
theorem zd_4_10_75 : zz_D zy_numbersFit_4_10 75 (.aload_n 0) 1 76 := ⟨zq_42 zg_4_10_68.2.2.2.2.2.2.2.2.2.1, rfl⟩
theorem zd_4_10_76 : zz_D zy_numbersFit_4_10 76 (.getfield 32) 3 79 := ⟨zq_180 zg_4_10_68.2.2.2.2.2.2.2.2.2.2.1 zg_4_10_68.2.2.2.2.2.2.2.2.2.2.2.1 zg_4_10_68.2.2.2.2.2.2.2.2.2.2.2.2.1 rfl, rfl⟩
theorem zd_4_10_79 : zz_D zy_numbersFit_4_10 79 (.iconst 0) 1 80 := ⟨zq_3 zg_4_10_68.2.2.2.2.2.2.2.2.2.2.2.2.2.1, rfl⟩
theorem zd_4_10_80 : zz_D zy_numbersFit_4_10 80 (.iconst 1) 1 81 := ⟨zq_4 zg_4_10_68.2.2.2.2.2.2.2.2.2.2.2.2.2.2.1, rfl⟩
theorem zd_4_10_81 : zz_D zy_numbersFit_4_10 81 (.invokestatic 63) 3 84 := ⟨zq_184 zg_4_10_68.2.2.2.2.2.2.2.2.2.2.2.2.2.2.2.1 zg_4_10_68.2.2.2.2.2.2.2.2.2.2.2.2.2.2.2.2.1 zg_4_10_68.2.2.2.2.2.2.2.2.2.2.2.2.2.2.2.2.2.1 rfl, rfl⟩
theorem zd_4_10_84 : zz_B zy_numbersFit_4_10 84 (Instr.ifCond .eq) 117 87 := ⟨33, zq_153 zg_4_10_68.2.2.2.2.2.2.2.2.2.2.2.2.2.2.2.2.2.2.1 zg_4_10_68.2.2.2.2.2.2.2.2.2.2.2.2.2.2.2.2.2.2.2.1 zg_4_10_68.2.2.2.2.2.2.2.2.2.2.2.2.2.2.2.2.2.2.2.2.1 (by decide), rfl, rfl⟩
theorem zd_4_10_87 : zz_D zy_numbersFit_4_10 87 (.aload_n 0) 1 88 := ⟨zq_42 zg_4_10_68.2.2.2.2.2.2.2.2.2.2.2.2.2.2.2.2.2.2.2.2.2, rfl⟩
theorem zg_4_10_88 : zq_at zy_numbersFit_4_10.2.1 88 180 ∧ zq_at zy_numbersFit_4_10.2.1 89 0 ∧ zq_at zy_numbersFit_4_10.2.1 90 35 ∧ zq_at zy_numbersFit_4_10.2.1 91 3 ∧ zq_at zy_numbersFit_4_10.2.1 92 16 ∧ zq_at zy_numbersFit_4_10.2.1 93 15 ∧ zq_at zy_numbersFit_4_10.2.1 94 184 ∧ zq_at zy_numbersFit_4_10.2.1 95 0 ∧ zq_at zy_numbersFit_4_10.2.1 96 63 ∧ zq_at zy_numbersFit_4_10.2.1 97 153 ∧ zq_at zy_numbersFit_4_10.2.1 98 0 ∧ zq_at zy_numbersFit_4_10.2.1 99 20 ∧ zq_at zy_numbersFit_4_10.2.1 100 42 ∧ zq_at zy_numbersFit_4_10.2.1 101 180 ∧ zq_at zy_numbersFit_4_10.2.1 102 0 ∧ zq_at zy_numbersFit_4_10.2.1 103 60 ∧ zq_at zy_numbersFit_4_10.2.1 104 4 ∧ zq_at zy_numbersFit_4_10.2.1 105 16 ∧ zq_at zy_numbersFit_4_10.2.1 106 16 ∧ zq_at zy_numbersFit_4_10.2.1 107 184 ∧ zq_at zy_numbersFit_4_10.2.1 108 0 ∧ zq_at zy_numbersFit_4_10.2.1 109 63 := by decide +kernel
theorem zd_4_10_88 : zz_D zy_numbersFit_4_10 88 (.getfield 35) 3 91 := ⟨zq_180 zg_4_10_88.1 zg_4_10_88.2.1 zg_4_10_88.2.2.1 rfl, rfl⟩
theorem zd_4_10_91 : zz_D zy_numbersFit_4_10 91 (.iconst 0) 1 92 := ⟨zq_3 zg_4_10_88.2.2.2.1, rfl⟩
theorem zd_4_10_92 : zz_D zy_numbersFit_4_10 92 (.bipush 15) 2 94 := ⟨zq_16 zg_4_10_88.2.2.2.2.1 zg_4_10_88.2.2.2.2.2.1 (by decide), rfl⟩
theorem zd_4_10_94 : zz_D zy_numbersFit_4_10 94 (.invokestatic 63) 3 97 := ⟨zq_184 zg_4_10_88.2.2.2.2.2.2.1 zg_4_10_88.2.2.2.2.2.2.2.1 zg_4_10_88.2.2.2.2.2.2.2.2.1 rfl, rfl⟩
theorem zd_4_10_97 : zz_B zy_numbersFit_4_10 97 (Instr.ifCond .eq) 117 100 := ⟨20, zq_153 zg_4_10_88.2.2.2.2.2.2.2.2.2.1 zg_4_10_88.2.2.2.2.2.2.2.2.2.2.1 zg_4_10_88.2.2.2.2.2.2.2.2.2.2.2.1 (by decide), rfl, rfl⟩
theorem zd_4_10_100 : zz_D zy_numbersFit_4_10 100 (.aload_n 0) 1 101 := ⟨zq_42 zg_4_10_88.2.2.2.2.2.2.2.2.2.2.2.2.1, rfl⟩
theorem zd_4_10_101 : zz_D zy_numbersFit_4_10 101 (.getfield 60) 3 104 := ⟨zq_180 zg_4_10_88.2.2.2.2.2.2.2.2.2.2.2.2.2.1 zg_4_10_88.2.2.2.2.2.2.2.2.2.2.2.2.2.2.1 zg_4_10_88.2.2.2.2.2.2.2.2.2.2.2.2.2.2.2.1 rfl, rfl⟩
theorem zd_4_10_104 : zz_D zy_numbersFit_4_10 104 (.iconst 1) 1 105 := ⟨zq_4 zg_4_10_88.2.2.2.2.2.2.2.2.2.2.2.2.2.2.2.2.1, rfl⟩
theorem zd_4_10_105 : zz_D zy_numbersFit_4_10 105 (.bipush 16) 2 107 := ⟨zq_16 zg_4_10_88.2.2.2.2.2.2.2.2.2.2.2.2.2.2.2.2.2.1 zg_4_10_88.2.2.2.2.2.2.2.2.2.2.2.2.2.2.2.2.2.2.1 (by decide), rfl⟩
theorem zd_4_10_107 : zz_D zy_numbersFit_4_10 107 (.invokestatic 63) 3 110 := ⟨zq_184 zg_4_10_88.2.2.2.2.2.2.2.2.2.2.2.2.2.2.2.2.2.2.2.1 zg_4_10_88.2.2.2.2.2.2.2.2.2.2.2.2.2.2.2.2.2.2.2.2.1 zg_4_10_88.2.2.2.2.2.2.2.2.2.2.2.2.2.2.2.2.2.2.2.2.2 rfl, rfl⟩
theorem zg_4_10_110 : zq_at zy_numbersFit_4_10.2.1 110 153 ∧ zq_at zy_numbersFit_4_10.2.1 111 0 ∧ zq_at zy_numbersFit_4_10.2.1 112 7 ∧ zq_at zy_numbersFit_4_10.2.1 113 4 ∧ zq_at zy_numbersFit_4_10.2.1 114 167 ∧ zq_at zy_numbersFit_4_10.2.1 115 0 ∧ zq_at zy_numbersFit_4_10.2.1 116 4 ∧ zq_at zy_numbersFit_4_10.2.1 53 42 ∧ zq_at zy_numbersFit_4_10.2.1 54 180 ∧ zq_at zy_numbersFit_4_10.2.1 55 0 ∧ zq_at zy_numbersFit_4_10.2.1 56 29 ∧ zq_at zy_numbersFit_4_10.2.1 57 4 ∧ zq_at zy_numbersFit_4_10.2.1 58 6 ∧ zq_at zy_numbersFit_4_10.2.1 59 184 ∧ zq_at zy_numbersFit_4_10.2.1 60 0 ∧ zq_at zy_numbersFit_4_10.2.1 61 63 ∧ zq_at zy_numbersFit_4_10.2.1 62 172 ∧ zq_at zy_numbersFit_4_10.2.1 8 42 ∧ zq_at zy_numbersFit_4_10.2.1 9 180 ∧ zq_at zy_numbersFit_4_10.2.1 10 0 ∧ zq_at zy_numbersFit_4_10.2.1 11 35 ∧ zq_at zy_numbersFit_4_10.2.1 12 3 ∧ zq_at zy_numbersFit_4_10.2.1 13 16 ∧ zq_at zy_numbersFit_4_10.2.1 14 15 := by decide +kernel
theorem zd_4_10_110 : zz_B zy_numbersFit_4_10 110 (Instr.ifCond .eq) 117 113 := ⟨7, zq_153 zg_4_10_110.1 zg_4_10_110.2.1 zg_4_10_110.2.2.1 (by decide), rfl, rfl⟩
theorem zd_4_10_113 : zz_D zy_numbersFit_4_10 113 (.iconst 1) 1 114 := ⟨zq_4 zg_4_10_110.2.2.2.1, rfl⟩
theorem zd_4_10_114 : zz_B zy_numbersFit_4_10 114 Instr.goto 118 117 := ⟨4, zq_167 zg_4_10_110.2.2.2.2.1 zg_4_10_110.2.2.2.2.2.1 zg_4_10_110.2.2.2.2.2.2.1 (by decide), rfl, rfl⟩
theorem zd_4_10_53 : zz_D zy_numbersFit_4_10 53 (.aload_n 0) 1 54 := ⟨zq_42 zg_4_10_110.2.2.2.2.2.2.2.1, rfl⟩
theorem zd_4_10_54 : zz_D zy_numbersFit_4_10 54 (.getfield 29) 3 57 := ⟨zq_180 zg_4_10_110.2.2.2.2.2.2.2.2.1 zg_4_10_110.2.2.2.2.2.2.2.2.2.1 zg_4_10_110.2.2.2.2.2.2.2.2.2.2.1 rfl, rfl⟩
theorem zd_4_10_57 : zz_D zy_numbersFit_4_10 57 (.iconst 1) 1 58 := ⟨zq_4 zg_4_10_110.2.2.2.2.2.2.2.2.2.2.2.1, rfl⟩
theorem zd_4_10_58 : zz_D zy_numbersFit_4_10 58 (.iconst 3) 1 59 := ⟨zq_6 zg_4_10_110.2.2.2.2.2.2.2.2.2.2.2.2.1, rfl⟩
theorem zd_4_10_59 : zz_D zy_numbersFit_4_10 59 (.invokestatic 63) 3 62 := ⟨zq_184 zg_4_10_110.2.2.2.2.2.2.2.2.2.2.2.2.2.1 zg_4_10_110.2.2.2.2.2.2.2.2.2.2.2.2.2.2.1 zg_4_10_110.2.2.2.2.2.2.2.2.2.2.2.2.2.2.2.1 rfl, rfl⟩
theorem zd_4_10_62 : zz_D zy_numbersFit_4_10 62 (.ireturn) 1 63 := ⟨zq_172 zg_4_10_110.2.2.2.2.2.2.2.2.2.2.2.2.2.2.2.2.1, rfl⟩
theorem zd_4_10_8 : zz_D zy_numbersFit_4_10 8 (.aload_n 0) 1 9 := ⟨zq_42 zg_4_10_110.2.2.2.2.2.2.2.2.2.2.2.2.2.2.2.2.2.1, rfl⟩
theorem zd_4_10_9 : zz_D zy_numbersFit_4_10 9 (.getfield 35) 3 12 := ⟨zq_180 zg_4_10_110.2.2.2.2.2.2.2.2.2.2.2.2.2.2.2.2.2.2.1 zg_4_10_110.2.2.2.2.2.2.2.2.2.2.2.2.2.2.2.2.2.2.2.1 zg_4_10_110.2.2.2.2.2.2.2.2.2.2.2.2.2.2.2.2.2.2.2.2.1 rfl, rfl⟩
theorem zd_4_10_12 : zz_D zy_numbersFit_4_10 12 (.iconst 0) 1 13 := ⟨zq_3 zg_4_10_110.2.2.2.2.2.2.2.2.2.2.2.2.2.2.2.2.2.2.2.2.2.1, rfl⟩
theorem zd_4_10_13 : zz_D zy_numbersFit_4_10 13 (.bipush 15) 2 15 := ⟨zq_16 zg_4_10_110.2.2.2.2.2.2.2.2.2.2.2.2.2.2.2.2.2.2.2.2.2.2.1 zg_4_10_110.2.2.2.2.2.2.2.2.2.2.2.2.2.2.2.2.2.2.2.2.2.2.2 (by decide), rfl⟩
theorem zg_4_10_15 : zq_at zy_numbersFit_4_10.2.1 15 184 ∧ zq_at zy_numbersFit_4_10.2.1 16 0 ∧ zq_at zy_numbersFit_4_10.2.1 17 63 ∧ zq_at zy_numbersFit_4_10.2.1 18 172 := by decide +kernel
theorem zd_4_10_15 : zz_D zy_numbersFit_4_10 15 (.invokestatic 63) 3 18 := ⟨zq_184 zg_4_10_15.1 zg_4_10_15.2.1 zg_4_10_15.2.2.1 rfl, rfl⟩
theorem zd_4_10_18 : zz_D zy_numbersFit_4_10 18 (.ireturn) 1 19 := ⟨zq_172 zg_4_10_15.2.2.2, rfl⟩
-- TensorForge$Layer numbersFit ()Z
abbrev zr_numbersFit_4_10 : Room := { frames := 1, cells := 0, slots := 0, locals := 14 }
def zp_numbersFit_4_10 (t : Int) (S0 : zz_S) : Int → zz_S → Prop := fun r S => S0 = S ∧ (0 ≤ r ∧ r ≤ 1) ∧ (r = 1 → (S0 (zz_rf 6 t) 0 = 3 ∨ (S0 (zz_rf 6 t) 3 ≤ 3 ∧ S0 (zz_rf 6 t) 4 ≤ 3)) ∧ (S0 (zz_rf 6 t) 0 = 3 ∨ S0 (zz_rf 6 t) 0 = 2 ∨ S0 (zz_rf 6 t) 12 ≤ 16)) ∧ ((r = 1 ∧ zn_fit (S0 (zz_rf 6 t) 0) (S0 (zz_rf 6 t) 3) (S0 (zz_rf 6 t) 4) (S0 (zz_rf 6 t) 5) (S0 (zz_rf 6 t) 6) (S0 (zz_rf 6 t) 7) (S0 (zz_rf 6 t) 12)) ∨ (r = 0 ∧ ¬ zn_fit (S0 (zz_rf 6 t) 0) (S0 (zz_rf 6 t) 3) (S0 (zz_rf 6 t) 4) (S0 (zz_rf 6 t) 5) (S0 (zz_rf 6 t) 6) (S0 (zz_rf 6 t) 7) (S0 (zz_rf 6 t) 12)))
theorem zc_numbersFit_4_10 {g : mm_G} {l : Launch} (t : Int) (S0 : zz_S) (n : Nat) (hn : zz_end ≤ n) (G_S0 : zz_G S0) (ht : 0 ≤ t ∧ t ≤ 23) : mm_Met g l zy_numbersFit_4_10 zr_numbersFit_4_10 [.ref (zz_rf 6 t)] (zz_M S0 n) n (zz_QI n (zp_numbersFit_4_10 t S0)) := by
  refine zz_enter (by decide) (Nat.le_of_ble_eq_true rfl) (zz_less (ls1 := [some (.ref (zz_rf 6 t))]) ⟨rfl, trivial⟩ ?_)
  have b_t := zz_rf6 (z := t) (by omega)
  refine zz_aload_n (x := zz_rf 6 t) rfl zd_4_10_0 ?_
  have g1 := zz_G.r G_S0 (zz_rf 6 t) 0 (-2147483648) 2147483647 (zR_k6_0 (by omega)) (zB_k6 (by omega))
  refine zz_geti (z := S0 (zz_rf 6 t) 0) zd_4_10_1 zf_Layer_13 (zT_k6 (by omega)) rfl (zN_k6 hn (by omega)) rfl ?_
  refine zz_iconst zd_4_10_4 ?_
  refine zz_icmp_ne (by omega) (by omega) zd_4_10_5 (fun c2 => ?_) (fun c2 => ?_)
  · refine zz_aload_n (x := zz_rf 6 t) rfl zd_4_10_19 ?_
    have g3 := zz_G.r G_S0 (zz_rf 6 t) 3 (-2147483648) 2147483647 (zR_k6_3 (by omega)) (zB_k6 (by omega))
    refine zz_geti (z := S0 (zz_rf 6 t) 3) zd_4_10_20 zf_Layer_23 (zT_k6 (by omega)) rfl (zN_k6 hn (by omega)) rfl ?_
    refine zz_iconst zd_4_10_23 ?_
    refine zz_iconst zd_4_10_24 ?_
    refine zz_callSI [zi (S0 (zz_rf 6 t) 3), zi 1, zi 3] zd_4_10_25 zk_Layer_63 rfl rfl ⟨Nat.le_of_ble_eq_true rfl, Nat.le_of_ble_eq_true rfl⟩ ⟨rfl, rfl⟩ (Nat.zero_le _) (Nat.zero_le _) (zc_isWithin_4_9 (S0 (zz_rf 6 t) 3) 1 3 S0 n hn G_S0 (by omega) (by omega) (by omega)) (fun v5 S4 hP => ?_)
    obtain ⟨rfl, o6, o7⟩ := hP
    rcases (by omega : v5 = 0 ∨ v5 = 1) with rfl | rfl
    · refine zz_if_eq (by omega) zd_4_10_28 (fun c8 => ?_) (fun c8 => ?_)
      · refine zz_iconst zd_4_10_43 ?_
        exact zz_zret zd_4_10_44 rfl (by omega) (Nat.zero_le _) (Nat.zero_le _) ⟨_, _, rfl, rfl, by omega, by omega, (Or.inr ⟨rfl, by unfold zn_fit; omega⟩)⟩
      · exfalso; omega
    · refine zz_if_eq (by omega) zd_4_10_28 (fun c9 => ?_) (fun c9 => ?_)
      · exfalso; omega
      · refine zz_aload_n (x := zz_rf 6 t) rfl zd_4_10_31 ?_
        have g10 := zz_G.r G_S0 (zz_rf 6 t) 4 (-2147483648) 2147483647 (zR_k6_4 (by omega)) (zB_k6 (by omega))
        refine zz_geti (z := S0 (zz_rf 6 t) 4) zd_4_10_32 zf_Layer_26 (zT_k6 (by omega)) rfl (zN_k6 hn (by omega)) rfl ?_
        refine zz_iconst zd_4_10_35 ?_
        refine zz_iconst zd_4_10_36 ?_
        refine zz_callSI [zi (S0 (zz_rf 6 t) 4), zi 1, zi 3] zd_4_10_37 zk_Layer_63 rfl rfl ⟨Nat.le_of_ble_eq_true rfl, Nat.le_of_ble_eq_true rfl⟩ ⟨rfl, rfl⟩ (Nat.zero_le _) (Nat.zero_le _) (zc_isWithin_4_9 (S0 (zz_rf 6 t) 4) 1 3 S0 n hn G_S0 (by omega) (by omega) (by omega)) (fun v12 S11 hP => ?_)
        obtain ⟨rfl, o13, o14⟩ := hP
        rcases (by omega : v12 = 0 ∨ v12 = 1) with rfl | rfl
        · refine zz_if_ne (by omega) zd_4_10_40 (fun c15 => ?_) (fun c15 => ?_)
          · exfalso; omega
          · refine zz_iconst zd_4_10_43 ?_
            exact zz_zret zd_4_10_44 rfl (by omega) (Nat.zero_le _) (Nat.zero_le _) ⟨_, _, rfl, rfl, by omega, by omega, (Or.inr ⟨rfl, by unfold zn_fit; omega⟩)⟩
        · refine zz_if_ne (by omega) zd_4_10_40 (fun c16 => ?_) (fun c16 => ?_)
          · refine zz_aload_n (x := zz_rf 6 t) rfl zd_4_10_45 ?_
            refine zz_geti (z := S0 (zz_rf 6 t) 0) zd_4_10_46 zf_Layer_13 (zT_k6 (by omega)) rfl (zN_k6 hn (by omega)) rfl ?_
            refine zz_iconst zd_4_10_49 ?_
            refine zz_icmp_ne (by omega) (by omega) zd_4_10_50 (fun c17 => ?_) (fun c17 => ?_)
            · refine zz_aload_n (x := zz_rf 6 t) rfl zd_4_10_63 ?_
              have g18 := zz_G.r G_S0 (zz_rf 6 t) 5 (-2147483648) 2147483647 (zR_k6_5 (by omega)) (zB_k6 (by omega))
              refine zz_geti (z := S0 (zz_rf 6 t) 5) zd_4_10_64 zf_Layer_29 (zT_k6 (by omega)) rfl (zN_k6 hn (by omega)) rfl ?_
              refine zz_iconst zd_4_10_67 ?_
              refine zz_iconst zd_4_10_68 ?_
              refine zz_callSI [zi (S0 (zz_rf 6 t) 5), zi 1, zi 2] zd_4_10_69 zk_Layer_63 rfl rfl ⟨Nat.le_of_ble_eq_true rfl, Nat.le_of_ble_eq_true rfl⟩ ⟨rfl, rfl⟩ (Nat.zero_le _) (Nat.zero_le _) (zc_isWithin_4_9 (S0 (zz_rf 6 t) 5) 1 2 S0 n hn G_S0 (by omega) (by omega) (by omega)) (fun v20 S19 hP => ?_)
              obtain ⟨rfl, o21, o22⟩ := hP
              rcases (by omega : v20 = 0 ∨ v20 = 1) with rfl | rfl
              · refine zz_if_eq (by omega) zd_4_10_72 (fun c23 => ?_) (fun c23 => ?_)
                · refine zz_iconst zd_4_10_117 ?_
                  exact zz_zret zd_4_10_118 rfl (by omega) (Nat.zero_le _) (Nat.zero_le _) ⟨_, _, rfl, rfl, by omega, by omega, (Or.inr ⟨rfl, by unfold zn_fit; omega⟩)⟩
                · exfalso; omega
              · refine zz_if_eq (by omega) zd_4_10_72 (fun c24 => ?_) (fun c24 => ?_)
                · exfalso; omega
                · refine zz_aload_n (x := zz_rf 6 t) rfl zd_4_10_75 ?_
                  have g25 := zz_G.r G_S0 (zz_rf 6 t) 6 (-2147483648) 2147483647 (zR_k6_6 (by omega)) (zB_k6 (by omega))
                  refine zz_geti (z := S0 (zz_rf 6 t) 6) zd_4_10_76 zf_Layer_32 (zT_k6 (by omega)) rfl (zN_k6 hn (by omega)) rfl ?_
                  refine zz_iconst zd_4_10_79 ?_
                  refine zz_iconst zd_4_10_80 ?_
                  refine zz_callSI [zi (S0 (zz_rf 6 t) 6), zi 0, zi 1] zd_4_10_81 zk_Layer_63 rfl rfl ⟨Nat.le_of_ble_eq_true rfl, Nat.le_of_ble_eq_true rfl⟩ ⟨rfl, rfl⟩ (Nat.zero_le _) (Nat.zero_le _) (zc_isWithin_4_9 (S0 (zz_rf 6 t) 6) 0 1 S0 n hn G_S0 (by omega) (by omega) (by omega)) (fun v27 S26 hP => ?_)
                  obtain ⟨rfl, o28, o29⟩ := hP
                  rcases (by omega : v27 = 0 ∨ v27 = 1) with rfl | rfl
                  · refine zz_if_eq (by omega) zd_4_10_84 (fun c30 => ?_) (fun c30 => ?_)
                    · refine zz_iconst zd_4_10_117 ?_
                      exact zz_zret zd_4_10_118 rfl (by omega) (Nat.zero_le _) (Nat.zero_le _) ⟨_, _, rfl, rfl, by omega, by omega, (Or.inr ⟨rfl, by unfold zn_fit; omega⟩)⟩
                    · exfalso; omega
                  · refine zz_if_eq (by omega) zd_4_10_84 (fun c31 => ?_) (fun c31 => ?_)
                    · exfalso; omega
                    · refine zz_aload_n (x := zz_rf 6 t) rfl zd_4_10_87 ?_
                      have g32 := zz_G.r G_S0 (zz_rf 6 t) 7 (-2147483648) 2147483647 (zR_k6_7 (by omega)) (zB_k6 (by omega))
                      refine zz_geti (z := S0 (zz_rf 6 t) 7) zd_4_10_88 zf_Layer_35 (zT_k6 (by omega)) rfl (zN_k6 hn (by omega)) rfl ?_
                      refine zz_iconst zd_4_10_91 ?_
                      refine zz_bipush (by decide) zd_4_10_92 ?_
                      refine zz_callSI [zi (S0 (zz_rf 6 t) 7), zi 0, zi 15] zd_4_10_94 zk_Layer_63 rfl rfl ⟨Nat.le_of_ble_eq_true rfl, Nat.le_of_ble_eq_true rfl⟩ ⟨rfl, rfl⟩ (Nat.zero_le _) (Nat.zero_le _) (zc_isWithin_4_9 (S0 (zz_rf 6 t) 7) 0 15 S0 n hn G_S0 (by omega) (by omega) (by omega)) (fun v34 S33 hP => ?_)
                      obtain ⟨rfl, o35, o36⟩ := hP
                      rcases (by omega : v34 = 0 ∨ v34 = 1) with rfl | rfl
                      · refine zz_if_eq (by omega) zd_4_10_97 (fun c37 => ?_) (fun c37 => ?_)
                        · refine zz_iconst zd_4_10_117 ?_
                          exact zz_zret zd_4_10_118 rfl (by omega) (Nat.zero_le _) (Nat.zero_le _) ⟨_, _, rfl, rfl, by omega, by omega, (Or.inr ⟨rfl, by unfold zn_fit; omega⟩)⟩
                        · exfalso; omega
                      · refine zz_if_eq (by omega) zd_4_10_97 (fun c38 => ?_) (fun c38 => ?_)
                        · exfalso; omega
                        · refine zz_aload_n (x := zz_rf 6 t) rfl zd_4_10_100 ?_
                          have g39 := zz_G.r G_S0 (zz_rf 6 t) 12 (-2147483648) 2147483647 (zR_k6_12 (by omega)) (zB_k6 (by omega))
                          refine zz_geti (z := S0 (zz_rf 6 t) 12) zd_4_10_101 zf_Layer_60 (zT_k6 (by omega)) rfl (zN_k6 hn (by omega)) rfl ?_
                          refine zz_iconst zd_4_10_104 ?_
                          refine zz_bipush (by decide) zd_4_10_105 ?_
                          refine zz_callSI [zi (S0 (zz_rf 6 t) 12), zi 1, zi 16] zd_4_10_107 zk_Layer_63 rfl rfl ⟨Nat.le_of_ble_eq_true rfl, Nat.le_of_ble_eq_true rfl⟩ ⟨rfl, rfl⟩ (Nat.zero_le _) (Nat.zero_le _) (zc_isWithin_4_9 (S0 (zz_rf 6 t) 12) 1 16 S0 n hn G_S0 (by omega) (by omega) (by omega)) (fun v41 S40 hP => ?_)
                          obtain ⟨rfl, o42, o43⟩ := hP
                          rcases (by omega : v41 = 0 ∨ v41 = 1) with rfl | rfl
                          · refine zz_if_eq (by omega) zd_4_10_110 (fun c44 => ?_) (fun c44 => ?_)
                            · refine zz_iconst zd_4_10_117 ?_
                              exact zz_zret zd_4_10_118 rfl (by omega) (Nat.zero_le _) (Nat.zero_le _) ⟨_, _, rfl, rfl, by omega, by omega, (Or.inr ⟨rfl, by unfold zn_fit; omega⟩)⟩
                            · exfalso; omega
                          · refine zz_if_eq (by omega) zd_4_10_110 (fun c45 => ?_) (fun c45 => ?_)
                            · exfalso; omega
                            · refine zz_iconst zd_4_10_113 ?_
                              refine zz_goto zd_4_10_114 ?_
                              exact zz_zret zd_4_10_118 rfl (by omega) (Nat.zero_le _) (Nat.zero_le _) ⟨_, _, rfl, rfl, by omega, by omega, (Or.inl ⟨rfl, by unfold zn_fit; omega⟩)⟩
            · refine zz_aload_n (x := zz_rf 6 t) rfl zd_4_10_53 ?_
              have g46 := zz_G.r G_S0 (zz_rf 6 t) 5 (-2147483648) 2147483647 (zR_k6_5 (by omega)) (zB_k6 (by omega))
              refine zz_geti (z := S0 (zz_rf 6 t) 5) zd_4_10_54 zf_Layer_29 (zT_k6 (by omega)) rfl (zN_k6 hn (by omega)) rfl ?_
              refine zz_iconst zd_4_10_57 ?_
              refine zz_iconst zd_4_10_58 ?_
              refine zz_callSI [zi (S0 (zz_rf 6 t) 5), zi 1, zi 3] zd_4_10_59 zk_Layer_63 rfl rfl ⟨Nat.le_of_ble_eq_true rfl, Nat.le_of_ble_eq_true rfl⟩ ⟨rfl, rfl⟩ (Nat.zero_le _) (Nat.zero_le _) (zc_isWithin_4_9 (S0 (zz_rf 6 t) 5) 1 3 S0 n hn G_S0 (by omega) (by omega) (by omega)) (fun v48 S47 hP => ?_)
              obtain ⟨rfl, o49, o50⟩ := hP
              rcases (by omega : v48 = 0 ∨ v48 = 1) with rfl | rfl
              · exact zz_zret zd_4_10_62 rfl (by omega) (Nat.zero_le _) (Nat.zero_le _) ⟨_, _, rfl, rfl, by omega, by omega, (Or.inr ⟨rfl, by unfold zn_fit; omega⟩)⟩
              · exact zz_zret zd_4_10_62 rfl (by omega) (Nat.zero_le _) (Nat.zero_le _) ⟨_, _, rfl, rfl, by omega, by omega, (Or.inl ⟨rfl, by unfold zn_fit; omega⟩)⟩
          · exfalso; omega
  · refine zz_aload_n (x := zz_rf 6 t) rfl zd_4_10_8 ?_
    have g51 := zz_G.r G_S0 (zz_rf 6 t) 7 (-2147483648) 2147483647 (zR_k6_7 (by omega)) (zB_k6 (by omega))
    refine zz_geti (z := S0 (zz_rf 6 t) 7) zd_4_10_9 zf_Layer_35 (zT_k6 (by omega)) rfl (zN_k6 hn (by omega)) rfl ?_
    refine zz_iconst zd_4_10_12 ?_
    refine zz_bipush (by decide) zd_4_10_13 ?_
    refine zz_callSI [zi (S0 (zz_rf 6 t) 7), zi 0, zi 15] zd_4_10_15 zk_Layer_63 rfl rfl ⟨Nat.le_of_ble_eq_true rfl, Nat.le_of_ble_eq_true rfl⟩ ⟨rfl, rfl⟩ (Nat.zero_le _) (Nat.zero_le _) (zc_isWithin_4_9 (S0 (zz_rf 6 t) 7) 0 15 S0 n hn G_S0 (by omega) (by omega) (by omega)) (fun v53 S52 hP => ?_)
    obtain ⟨rfl, o54, o55⟩ := hP
    rcases (by omega : v53 = 0 ∨ v53 = 1) with rfl | rfl
    · exact zz_zret zd_4_10_18 rfl (by omega) (Nat.zero_le _) (Nat.zero_le _) ⟨_, _, rfl, rfl, by omega, by omega, (Or.inr ⟨rfl, by unfold zn_fit; omega⟩)⟩
    · exact zz_zret zd_4_10_18 rfl (by omega) (Nat.zero_le _) (Nat.zero_le _) ⟨_, _, rfl, rfl, by omega, by omega, (Or.inl ⟨rfl, by unfold zn_fit; omega⟩)⟩
theorem zk_Network_48 : mm_Vl "TensorForge$Network" 48 2 0 zy_numbersFit_4_10 := ⟨zyw_numbersFit_4_10, (R_Layer, F_Layer, 15), rfl, mm_tb_1 994 (by decide +kernel) rfl, mm_tb_1 995 (by decide +kernel) rfl, mm_tb_1 996 (by decide +kernel) rfl⟩
abbrev zy_takeResult_4_11 : mm_Y := (⟨"TensorForge$Layer", "takeResult", "(LTensorForge$Layer;LTensorForge$Layer;)Z"⟩, prog_4_method_11_code, 5, (some .boolean))
theorem zyw_takeResult_4_11 : mm_Yw zy_takeResult_4_11 2 := ⟨mm_tb_1 1004 (by decide +kernel) rfl, mm_tb_1 3 (by decide +kernel) rfl, ⟨by decide, by decide⟩, by decide +kernel⟩
abbrev zy_parametersSize_4_12 : mm_Y := (⟨"TensorForge$Layer", "parametersSize", "(LTensorForge$Layer;)I"⟩, prog_4_method_12_code, 2, (some .int))
theorem zyw_parametersSize_4_12 : mm_Yw zy_parametersSize_4_12 1 := ⟨mm_tb_1 1008 (by decide +kernel) rfl, mm_tb_1 3 (by decide +kernel) rfl, ⟨by decide, by decide⟩, by decide +kernel⟩
theorem zg_7_7_33 : zq_at zy_offer_7_7.2.1 33 153 ∧ zq_at zy_offer_7_7.2.1 34 0 ∧ zq_at zy_offer_7_7.2.1 35 28 ∧ zq_at zy_offer_7_7.2.1 61 5 ∧ zq_at zy_offer_7_7.2.1 62 172 ∧ zq_at zy_offer_7_7.2.1 36 43 ∧ zq_at zy_offer_7_7.2.1 37 42 ∧ zq_at zy_offer_7_7.2.1 38 180 ∧ zq_at zy_offer_7_7.2.1 39 0 ∧ zq_at zy_offer_7_7.2.1 40 11 ∧ zq_at zy_offer_7_7.2.1 41 43 ∧ zq_at zy_offer_7_7.2.1 42 180 ∧ zq_at zy_offer_7_7.2.1 43 0 ∧ zq_at zy_offer_7_7.2.1 44 38 ∧ zq_at zy_offer_7_7.2.1 45 50 ∧ zq_at zy_offer_7_7.2.1 46 42 ∧ zq_at zy_offer_7_7.2.1 47 180 ∧ zq_at zy_offer_7_7.2.1 48 0 ∧ zq_at zy_offer_7_7.2.1 49 11 ∧ zq_at zy_offer_7_7.2.1 50 43 ∧ zq_at zy_offer_7_7.2.1 51 180 ∧ zq_at zy_offer_7_7.2.1 52 0 ∧ zq_at zy_offer_7_7.2.1 53 45 ∧ zq_at zy_offer_7_7.2.1 54 50 := by decide +kernel
theorem zd_7_7_33 : zz_B zy_offer_7_7 33 (Instr.ifCond .eq) 61 36 := ⟨28, zq_153 zg_7_7_33.1 zg_7_7_33.2.1 zg_7_7_33.2.2.1 (by decide), rfl, rfl⟩
theorem zd_7_7_61 : zz_D zy_offer_7_7 61 (.iconst 2) 1 62 := ⟨zq_5 zg_7_7_33.2.2.2.1, rfl⟩
theorem zd_7_7_62 : zz_D zy_offer_7_7 62 (.ireturn) 1 63 := ⟨zq_172 zg_7_7_33.2.2.2.2.1, rfl⟩
theorem zd_7_7_36 : zz_D zy_offer_7_7 36 (.aload_n 1) 1 37 := ⟨zq_43 zg_7_7_33.2.2.2.2.2.1, rfl⟩
theorem zd_7_7_37 : zz_D zy_offer_7_7 37 (.aload_n 0) 1 38 := ⟨zq_42 zg_7_7_33.2.2.2.2.2.2.1, rfl⟩
theorem zd_7_7_38 : zz_D zy_offer_7_7 38 (.getfield 11) 3 41 := ⟨zq_180 zg_7_7_33.2.2.2.2.2.2.2.1 zg_7_7_33.2.2.2.2.2.2.2.2.1 zg_7_7_33.2.2.2.2.2.2.2.2.2.1 rfl, rfl⟩
theorem zd_7_7_41 : zz_D zy_offer_7_7 41 (.aload_n 1) 1 42 := ⟨zq_43 zg_7_7_33.2.2.2.2.2.2.2.2.2.2.1, rfl⟩
theorem zd_7_7_42 : zz_D zy_offer_7_7 42 (.getfield 38) 3 45 := ⟨zq_180 zg_7_7_33.2.2.2.2.2.2.2.2.2.2.2.1 zg_7_7_33.2.2.2.2.2.2.2.2.2.2.2.2.1 zg_7_7_33.2.2.2.2.2.2.2.2.2.2.2.2.2.1 rfl, rfl⟩
theorem zd_7_7_45 : zz_D zy_offer_7_7 45 (.aaload) 1 46 := ⟨zq_50 zg_7_7_33.2.2.2.2.2.2.2.2.2.2.2.2.2.2.1, rfl⟩
theorem zd_7_7_46 : zz_D zy_offer_7_7 46 (.aload_n 0) 1 47 := ⟨zq_42 zg_7_7_33.2.2.2.2.2.2.2.2.2.2.2.2.2.2.2.1, rfl⟩
theorem zd_7_7_47 : zz_D zy_offer_7_7 47 (.getfield 11) 3 50 := ⟨zq_180 zg_7_7_33.2.2.2.2.2.2.2.2.2.2.2.2.2.2.2.2.1 zg_7_7_33.2.2.2.2.2.2.2.2.2.2.2.2.2.2.2.2.2.1 zg_7_7_33.2.2.2.2.2.2.2.2.2.2.2.2.2.2.2.2.2.2.1 rfl, rfl⟩
theorem zd_7_7_50 : zz_D zy_offer_7_7 50 (.aload_n 1) 1 51 := ⟨zq_43 zg_7_7_33.2.2.2.2.2.2.2.2.2.2.2.2.2.2.2.2.2.2.2.1, rfl⟩
theorem zd_7_7_51 : zz_D zy_offer_7_7 51 (.getfield 45) 3 54 := ⟨zq_180 zg_7_7_33.2.2.2.2.2.2.2.2.2.2.2.2.2.2.2.2.2.2.2.2.1 zg_7_7_33.2.2.2.2.2.2.2.2.2.2.2.2.2.2.2.2.2.2.2.2.2.1 zg_7_7_33.2.2.2.2.2.2.2.2.2.2.2.2.2.2.2.2.2.2.2.2.2.2.1 rfl, rfl⟩
theorem zd_7_7_54 : zz_D zy_offer_7_7 54 (.aaload) 1 55 := ⟨zq_50 zg_7_7_33.2.2.2.2.2.2.2.2.2.2.2.2.2.2.2.2.2.2.2.2.2.2.2, rfl⟩
theorem zg_7_7_55 : zq_at zy_offer_7_7.2.1 55 182 ∧ zq_at zy_offer_7_7.2.1 56 0 ∧ zq_at zy_offer_7_7.2.1 57 52 := by decide +kernel
theorem zd_7_7_55 : zz_D zy_offer_7_7 55 (.invokevirtual 52) 3 58 := ⟨zq_182 zg_7_7_55.1 zg_7_7_55.2.1 zg_7_7_55.2.2 rfl, rfl⟩
theorem zg_4_11_0 : zq_at zy_takeResult_4_11.2.1 0 42 ∧ zq_at zy_takeResult_4_11.2.1 1 180 ∧ zq_at zy_takeResult_4_11.2.1 2 0 ∧ zq_at zy_takeResult_4_11.2.1 3 13 ∧ zq_at zy_takeResult_4_11.2.1 4 6 ∧ zq_at zy_takeResult_4_11.2.1 5 160 ∧ zq_at zy_takeResult_4_11.2.1 6 0 ∧ zq_at zy_takeResult_4_11.2.1 7 58 ∧ zq_at zy_takeResult_4_11.2.1 63 43 ∧ zq_at zy_takeResult_4_11.2.1 64 180 ∧ zq_at zy_takeResult_4_11.2.1 65 0 ∧ zq_at zy_takeResult_4_11.2.1 66 54 ∧ zq_at zy_takeResult_4_11.2.1 67 5 ∧ zq_at zy_takeResult_4_11.2.1 68 42 ∧ zq_at zy_takeResult_4_11.2.1 69 180 ∧ zq_at zy_takeResult_4_11.2.1 70 0 ∧ zq_at zy_takeResult_4_11.2.1 71 32 ∧ zq_at zy_takeResult_4_11.2.1 72 104 ∧ zq_at zy_takeResult_4_11.2.1 73 96 ∧ zq_at zy_takeResult_4_11.2.1 74 42 ∧ zq_at zy_takeResult_4_11.2.1 75 180 ∧ zq_at zy_takeResult_4_11.2.1 76 0 ∧ zq_at zy_takeResult_4_11.2.1 77 23 ∧ zq_at zy_takeResult_4_11.2.1 78 100 := by decide +kernel
theorem zd_4_11_0 : zz_D zy_takeResult_4_11 0 (.aload_n 0) 1 1 := ⟨zq_42 zg_4_11_0.1, rfl⟩
theorem zd_4_11_1 : zz_D zy_takeResult_4_11 1 (.getfield 13) 3 4 := ⟨zq_180 zg_4_11_0.2.1 zg_4_11_0.2.2.1 zg_4_11_0.2.2.2.1 rfl, rfl⟩
theorem zd_4_11_4 : zz_D zy_takeResult_4_11 4 (.iconst 3) 1 5 := ⟨zq_6 zg_4_11_0.2.2.2.2.1, rfl⟩
theorem zd_4_11_5 : zz_B zy_takeResult_4_11 5 (Instr.if_icmp .ne) 63 8 := ⟨58, zq_160 zg_4_11_0.2.2.2.2.2.1 zg_4_11_0.2.2.2.2.2.2.1 zg_4_11_0.2.2.2.2.2.2.2.1 (by decide), rfl, rfl⟩
theorem zd_4_11_63 : zz_D zy_takeResult_4_11 63 (.aload_n 1) 1 64 := ⟨zq_43 zg_4_11_0.2.2.2.2.2.2.2.2.1, rfl⟩
theorem zd_4_11_64 : zz_D zy_takeResult_4_11 64 (.getfield 54) 3 67 := ⟨zq_180 zg_4_11_0.2.2.2.2.2.2.2.2.2.1 zg_4_11_0.2.2.2.2.2.2.2.2.2.2.1 zg_4_11_0.2.2.2.2.2.2.2.2.2.2.2.1 rfl, rfl⟩
theorem zd_4_11_67 : zz_D zy_takeResult_4_11 67 (.iconst 2) 1 68 := ⟨zq_5 zg_4_11_0.2.2.2.2.2.2.2.2.2.2.2.2.1, rfl⟩
theorem zd_4_11_68 : zz_D zy_takeResult_4_11 68 (.aload_n 0) 1 69 := ⟨zq_42 zg_4_11_0.2.2.2.2.2.2.2.2.2.2.2.2.2.1, rfl⟩
theorem zd_4_11_69 : zz_D zy_takeResult_4_11 69 (.getfield 32) 3 72 := ⟨zq_180 zg_4_11_0.2.2.2.2.2.2.2.2.2.2.2.2.2.2.1 zg_4_11_0.2.2.2.2.2.2.2.2.2.2.2.2.2.2.2.1 zg_4_11_0.2.2.2.2.2.2.2.2.2.2.2.2.2.2.2.2.1 rfl, rfl⟩
theorem zd_4_11_72 : zz_D zy_takeResult_4_11 72 (.imul) 1 73 := ⟨zq_104 zg_4_11_0.2.2.2.2.2.2.2.2.2.2.2.2.2.2.2.2.2.1, rfl⟩
theorem zd_4_11_73 : zz_D zy_takeResult_4_11 73 (.iadd) 1 74 := ⟨zq_96 zg_4_11_0.2.2.2.2.2.2.2.2.2.2.2.2.2.2.2.2.2.2.1, rfl⟩
theorem zd_4_11_74 : zz_D zy_takeResult_4_11 74 (.aload_n 0) 1 75 := ⟨zq_42 zg_4_11_0.2.2.2.2.2.2.2.2.2.2.2.2.2.2.2.2.2.2.2.1, rfl⟩
theorem zd_4_11_75 : zz_D zy_takeResult_4_11 75 (.getfield 23) 3 78 := ⟨zq_180 zg_4_11_0.2.2.2.2.2.2.2.2.2.2.2.2.2.2.2.2.2.2.2.2.1 zg_4_11_0.2.2.2.2.2.2.2.2.2.2.2.2.2.2.2.2.2.2.2.2.2.1 zg_4_11_0.2.2.2.2.2.2.2.2.2.2.2.2.2.2.2.2.2.2.2.2.2.2.1 rfl, rfl⟩
theorem zd_4_11_78 : zz_D zy_takeResult_4_11 78 (.isub) 1 79 := ⟨zq_100 zg_4_11_0.2.2.2.2.2.2.2.2.2.2.2.2.2.2.2.2.2.2.2.2.2.2.2, rfl⟩
theorem zg_4_11_79 : zq_at zy_takeResult_4_11.2.1 79 62 ∧ zq_at zy_takeResult_4_11.2.1 80 43 ∧ zq_at zy_takeResult_4_11.2.1 81 180 ∧ zq_at zy_takeResult_4_11.2.1 82 0 ∧ zq_at zy_takeResult_4_11.2.1 83 57 ∧ zq_at zy_takeResult_4_11.2.1 84 5 ∧ zq_at zy_takeResult_4_11.2.1 85 42 ∧ zq_at zy_takeResult_4_11.2.1 86 180 ∧ zq_at zy_takeResult_4_11.2.1 87 0 ∧ zq_at zy_takeResult_4_11.2.1 88 32 ∧ zq_at zy_takeResult_4_11.2.1 89 104 ∧ zq_at zy_takeResult_4_11.2.1 90 96 ∧ zq_at zy_takeResult_4_11.2.1 91 42 ∧ zq_at zy_takeResult_4_11.2.1 92 180 ∧ zq_at zy_takeResult_4_11.2.1 93 0 ∧ zq_at zy_takeResult_4_11.2.1 94 26 ∧ zq_at zy_takeResult_4_11.2.1 95 100 ∧ zq_at zy_takeResult_4_11.2.1 96 54 ∧ zq_at zy_takeResult_4_11.2.1 97 4 ∧ zq_at zy_takeResult_4_11.2.1 98 29 ∧ zq_at zy_takeResult_4_11.2.1 99 155 ∧ zq_at zy_takeResult_4_11.2.1 100 0 ∧ zq_at zy_takeResult_4_11.2.1 101 16 ∧ zq_at zy_takeResult_4_11.2.1 115 3 := by decide +kernel
theorem zd_4_11_79 : zz_D zy_takeResult_4_11 79 (.istore_n 3) 1 80 := ⟨zq_62 zg_4_11_79.1, rfl⟩
theorem zd_4_11_80 : zz_D zy_takeResult_4_11 80 (.aload_n 1) 1 81 := ⟨zq_43 zg_4_11_79.2.1, rfl⟩
theorem zd_4_11_81 : zz_D zy_takeResult_4_11 81 (.getfield 57) 3 84 := ⟨zq_180 zg_4_11_79.2.2.1 zg_4_11_79.2.2.2.1 zg_4_11_79.2.2.2.2.1 rfl, rfl⟩
theorem zd_4_11_84 : zz_D zy_takeResult_4_11 84 (.iconst 2) 1 85 := ⟨zq_5 zg_4_11_79.2.2.2.2.2.1, rfl⟩
theorem zd_4_11_85 : zz_D zy_takeResult_4_11 85 (.aload_n 0) 1 86 := ⟨zq_42 zg_4_11_79.2.2.2.2.2.2.1, rfl⟩
theorem zd_4_11_86 : zz_D zy_takeResult_4_11 86 (.getfield 32) 3 89 := ⟨zq_180 zg_4_11_79.2.2.2.2.2.2.2.1 zg_4_11_79.2.2.2.2.2.2.2.2.1 zg_4_11_79.2.2.2.2.2.2.2.2.2.1 rfl, rfl⟩
theorem zd_4_11_89 : zz_D zy_takeResult_4_11 89 (.imul) 1 90 := ⟨zq_104 zg_4_11_79.2.2.2.2.2.2.2.2.2.2.1, rfl⟩
theorem zd_4_11_90 : zz_D zy_takeResult_4_11 90 (.iadd) 1 91 := ⟨zq_96 zg_4_11_79.2.2.2.2.2.2.2.2.2.2.2.1, rfl⟩
theorem zd_4_11_91 : zz_D zy_takeResult_4_11 91 (.aload_n 0) 1 92 := ⟨zq_42 zg_4_11_79.2.2.2.2.2.2.2.2.2.2.2.2.1, rfl⟩
theorem zd_4_11_92 : zz_D zy_takeResult_4_11 92 (.getfield 26) 3 95 := ⟨zq_180 zg_4_11_79.2.2.2.2.2.2.2.2.2.2.2.2.2.1 zg_4_11_79.2.2.2.2.2.2.2.2.2.2.2.2.2.2.1 zg_4_11_79.2.2.2.2.2.2.2.2.2.2.2.2.2.2.2.1 rfl, rfl⟩
theorem zd_4_11_95 : zz_D zy_takeResult_4_11 95 (.isub) 1 96 := ⟨zq_100 zg_4_11_79.2.2.2.2.2.2.2.2.2.2.2.2.2.2.2.2.1, rfl⟩
theorem zd_4_11_96 : zz_D zy_takeResult_4_11 96 (.istore 4) 2 98 := ⟨zq_54 zg_4_11_79.2.2.2.2.2.2.2.2.2.2.2.2.2.2.2.2.2.1 zg_4_11_79.2.2.2.2.2.2.2.2.2.2.2.2.2.2.2.2.2.2.1, rfl⟩
theorem zd_4_11_98 : zz_D zy_takeResult_4_11 98 (.iload_n 3) 1 99 := ⟨zq_29 zg_4_11_79.2.2.2.2.2.2.2.2.2.2.2.2.2.2.2.2.2.2.2.1, rfl⟩
theorem zd_4_11_99 : zz_B zy_takeResult_4_11 99 (Instr.ifCond .lt) 115 102 := ⟨16, zq_155 zg_4_11_79.2.2.2.2.2.2.2.2.2.2.2.2.2.2.2.2.2.2.2.2.1 zg_4_11_79.2.2.2.2.2.2.2.2.2.2.2.2.2.2.2.2.2.2.2.2.2.1 zg_4_11_79.2.2.2.2.2.2.2.2.2.2.2.2.2.2.2.2.2.2.2.2.2.2.1 (by decide), rfl, rfl⟩
theorem zd_4_11_115 : zz_D zy_takeResult_4_11 115 (.iconst 0) 1 116 := ⟨zq_3 zg_4_11_79.2.2.2.2.2.2.2.2.2.2.2.2.2.2.2.2.2.2.2.2.2.2.2, rfl⟩
theorem zg_4_11_116 : zq_at zy_takeResult_4_11.2.1 116 172 ∧ zq_at zy_takeResult_4_11.2.1 102 21 ∧ zq_at zy_takeResult_4_11.2.1 103 4 ∧ zq_at zy_takeResult_4_11.2.1 104 155 ∧ zq_at zy_takeResult_4_11.2.1 105 0 ∧ zq_at zy_takeResult_4_11.2.1 106 11 ∧ zq_at zy_takeResult_4_11.2.1 107 42 ∧ zq_at zy_takeResult_4_11.2.1 108 180 ∧ zq_at zy_takeResult_4_11.2.1 109 0 ∧ zq_at zy_takeResult_4_11.2.1 110 29 ∧ zq_at zy_takeResult_4_11.2.1 111 4 ∧ zq_at zy_takeResult_4_11.2.1 112 162 ∧ zq_at zy_takeResult_4_11.2.1 113 0 ∧ zq_at zy_takeResult_4_11.2.1 114 5 ∧ zq_at zy_takeResult_4_11.2.1 117 42 ∧ zq_at zy_takeResult_4_11.2.1 118 29 ∧ zq_at zy_takeResult_4_11.2.1 119 42 ∧ zq_at zy_takeResult_4_11.2.1 120 180 ∧ zq_at zy_takeResult_4_11.2.1 121 0 ∧ zq_at zy_takeResult_4_11.2.1 122 29 ∧ zq_at zy_takeResult_4_11.2.1 123 108 ∧ zq_at zy_takeResult_4_11.2.1 124 4 ∧ zq_at zy_takeResult_4_11.2.1 125 96 := by decide +kernel
theorem zd_4_11_116 : zz_D zy_takeResult_4_11 116 (.ireturn) 1 117 := ⟨zq_172 zg_4_11_116.1, rfl⟩
theorem zd_4_11_102 : zz_D zy_takeResult_4_11 102 (.iload 4) 2 104 := ⟨zq_21 zg_4_11_116.2.1 zg_4_11_116.2.2.1, rfl⟩
theorem zd_4_11_104 : zz_B zy_takeResult_4_11 104 (Instr.ifCond .lt) 115 107 := ⟨11, zq_155 zg_4_11_116.2.2.2.1 zg_4_11_116.2.2.2.2.1 zg_4_11_116.2.2.2.2.2.1 (by decide), rfl, rfl⟩
theorem zd_4_11_107 : zz_D zy_takeResult_4_11 107 (.aload_n 0) 1 108 := ⟨zq_42 zg_4_11_116.2.2.2.2.2.2.1, rfl⟩
theorem zd_4_11_108 : zz_D zy_takeResult_4_11 108 (.getfield 29) 3 111 := ⟨zq_180 zg_4_11_116.2.2.2.2.2.2.2.1 zg_4_11_116.2.2.2.2.2.2.2.2.1 zg_4_11_116.2.2.2.2.2.2.2.2.2.1 rfl, rfl⟩
theorem zd_4_11_111 : zz_D zy_takeResult_4_11 111 (.iconst 1) 1 112 := ⟨zq_4 zg_4_11_116.2.2.2.2.2.2.2.2.2.2.1, rfl⟩
theorem zd_4_11_112 : zz_B zy_takeResult_4_11 112 (Instr.if_icmp .ge) 117 115 := ⟨5, zq_162 zg_4_11_116.2.2.2.2.2.2.2.2.2.2.2.1 zg_4_11_116.2.2.2.2.2.2.2.2.2.2.2.2.1 zg_4_11_116.2.2.2.2.2.2.2.2.2.2.2.2.2.1 (by decide), rfl, rfl⟩
theorem zd_4_11_117 : zz_D zy_takeResult_4_11 117 (.aload_n 0) 1 118 := ⟨zq_42 zg_4_11_116.2.2.2.2.2.2.2.2.2.2.2.2.2.2.1, rfl⟩
theorem zd_4_11_118 : zz_D zy_takeResult_4_11 118 (.iload_n 3) 1 119 := ⟨zq_29 zg_4_11_116.2.2.2.2.2.2.2.2.2.2.2.2.2.2.2.1, rfl⟩
theorem zd_4_11_119 : zz_D zy_takeResult_4_11 119 (.aload_n 0) 1 120 := ⟨zq_42 zg_4_11_116.2.2.2.2.2.2.2.2.2.2.2.2.2.2.2.2.1, rfl⟩
theorem zd_4_11_120 : zz_D zy_takeResult_4_11 120 (.getfield 29) 3 123 := ⟨zq_180 zg_4_11_116.2.2.2.2.2.2.2.2.2.2.2.2.2.2.2.2.2.1 zg_4_11_116.2.2.2.2.2.2.2.2.2.2.2.2.2.2.2.2.2.2.1 zg_4_11_116.2.2.2.2.2.2.2.2.2.2.2.2.2.2.2.2.2.2.2.1 rfl, rfl⟩
theorem zd_4_11_123 : zz_D zy_takeResult_4_11 123 (.idiv) 1 124 := ⟨zq_108 zg_4_11_116.2.2.2.2.2.2.2.2.2.2.2.2.2.2.2.2.2.2.2.2.1, rfl⟩
theorem zd_4_11_124 : zz_D zy_takeResult_4_11 124 (.iconst 1) 1 125 := ⟨zq_4 zg_4_11_116.2.2.2.2.2.2.2.2.2.2.2.2.2.2.2.2.2.2.2.2.2.1, rfl⟩
theorem zd_4_11_125 : zz_D zy_takeResult_4_11 125 (.iadd) 1 126 := ⟨zq_96 zg_4_11_116.2.2.2.2.2.2.2.2.2.2.2.2.2.2.2.2.2.2.2.2.2.2, rfl⟩
theorem zg_4_11_126 : zq_at zy_takeResult_4_11.2.1 126 181 ∧ zq_at zy_takeResult_4_11.2.1 127 0 ∧ zq_at zy_takeResult_4_11.2.1 128 54 ∧ zq_at zy_takeResult_4_11.2.1 129 42 ∧ zq_at zy_takeResult_4_11.2.1 130 21 ∧ zq_at zy_takeResult_4_11.2.1 131 4 ∧ zq_at zy_takeResult_4_11.2.1 132 42 ∧ zq_at zy_takeResult_4_11.2.1 133 180 ∧ zq_at zy_takeResult_4_11.2.1 134 0 ∧ zq_at zy_takeResult_4_11.2.1 135 29 ∧ zq_at zy_takeResult_4_11.2.1 136 108 ∧ zq_at zy_takeResult_4_11.2.1 137 4 ∧ zq_at zy_takeResult_4_11.2.1 138 96 ∧ zq_at zy_takeResult_4_11.2.1 139 181 ∧ zq_at zy_takeResult_4_11.2.1 140 0 ∧ zq_at zy_takeResult_4_11.2.1 141 57 ∧ zq_at zy_takeResult_4_11.2.1 142 42 ∧ zq_at zy_takeResult_4_11.2.1 143 180 ∧ zq_at zy_takeResult_4_11.2.1 144 0 ∧ zq_at zy_takeResult_4_11.2.1 145 13 ∧ zq_at zy_takeResult_4_11.2.1 146 5 ∧ zq_at zy_takeResult_4_11.2.1 147 160 ∧ zq_at zy_takeResult_4_11.2.1 148 0 ∧ zq_at zy_takeResult_4_11.2.1 149 14 := by decide +kernel
theorem zd_4_11_126 : zz_D zy_takeResult_4_11 126 (.putfield 54) 3 129 := ⟨zq_181 zg_4_11_126.1 zg_4_11_126.2.1 zg_4_11_126.2.2.1 rfl, rfl⟩
theorem zd_4_11_129 : zz_D zy_takeResult_4_11 129 (.aload_n 0) 1 130 := ⟨zq_42 zg_4_11_126.2.2.2.1, rfl⟩
theorem zd_4_11_130 : zz_D zy_takeResult_4_11 130 (.iload 4) 2 132 := ⟨zq_21 zg_4_11_126.2.2.2.2.1 zg_4_11_126.2.2.2.2.2.1, rfl⟩
theorem zd_4_11_132 : zz_D zy_takeResult_4_11 132 (.aload_n 0) 1 133 := ⟨zq_42 zg_4_11_126.2.2.2.2.2.2.1, rfl⟩
theorem zd_4_11_133 : zz_D zy_takeResult_4_11 133 (.getfield 29) 3 136 := ⟨zq_180 zg_4_11_126.2.2.2.2.2.2.2.1 zg_4_11_126.2.2.2.2.2.2.2.2.1 zg_4_11_126.2.2.2.2.2.2.2.2.2.1 rfl, rfl⟩
theorem zd_4_11_136 : zz_D zy_takeResult_4_11 136 (.idiv) 1 137 := ⟨zq_108 zg_4_11_126.2.2.2.2.2.2.2.2.2.2.1, rfl⟩
theorem zd_4_11_137 : zz_D zy_takeResult_4_11 137 (.iconst 1) 1 138 := ⟨zq_4 zg_4_11_126.2.2.2.2.2.2.2.2.2.2.2.1, rfl⟩
theorem zd_4_11_138 : zz_D zy_takeResult_4_11 138 (.iadd) 1 139 := ⟨zq_96 zg_4_11_126.2.2.2.2.2.2.2.2.2.2.2.2.1, rfl⟩
theorem zd_4_11_139 : zz_D zy_takeResult_4_11 139 (.putfield 57) 3 142 := ⟨zq_181 zg_4_11_126.2.2.2.2.2.2.2.2.2.2.2.2.2.1 zg_4_11_126.2.2.2.2.2.2.2.2.2.2.2.2.2.2.1 zg_4_11_126.2.2.2.2.2.2.2.2.2.2.2.2.2.2.2.1 rfl, rfl⟩
theorem zd_4_11_142 : zz_D zy_takeResult_4_11 142 (.aload_n 0) 1 143 := ⟨zq_42 zg_4_11_126.2.2.2.2.2.2.2.2.2.2.2.2.2.2.2.2.1, rfl⟩
theorem zd_4_11_143 : zz_D zy_takeResult_4_11 143 (.getfield 13) 3 146 := ⟨zq_180 zg_4_11_126.2.2.2.2.2.2.2.2.2.2.2.2.2.2.2.2.2.1 zg_4_11_126.2.2.2.2.2.2.2.2.2.2.2.2.2.2.2.2.2.2.1 zg_4_11_126.2.2.2.2.2.2.2.2.2.2.2.2.2.2.2.2.2.2.2.1 rfl, rfl⟩
theorem zd_4_11_146 : zz_D zy_takeResult_4_11 146 (.iconst 2) 1 147 := ⟨zq_5 zg_4_11_126.2.2.2.2.2.2.2.2.2.2.2.2.2.2.2.2.2.2.2.2.1, rfl⟩
theorem zd_4_11_147 : zz_B zy_takeResult_4_11 147 (Instr.if_icmp .ne) 161 150 := ⟨14, zq_160 zg_4_11_126.2.2.2.2.2.2.2.2.2.2.2.2.2.2.2.2.2.2.2.2.2.1 zg_4_11_126.2.2.2.2.2.2.2.2.2.2.2.2.2.2.2.2.2.2.2.2.2.2.1 zg_4_11_126.2.2.2.2.2.2.2.2.2.2.2.2.2.2.2.2.2.2.2.2.2.2.2 (by decide), rfl, rfl⟩
theorem zg_4_11_161 : zq_at zy_takeResult_4_11.2.1 161 42 ∧ zq_at zy_takeResult_4_11.2.1 162 180 ∧ zq_at zy_takeResult_4_11.2.1 163 0 ∧ zq_at zy_takeResult_4_11.2.1 164 42 ∧ zq_at zy_takeResult_4_11.2.1 165 155 ∧ zq_at zy_takeResult_4_11.2.1 166 0 ∧ zq_at zy_takeResult_4_11.2.1 167 19 ∧ zq_at zy_takeResult_4_11.2.1 184 3 ∧ zq_at zy_takeResult_4_11.2.1 185 172 ∧ zq_at zy_takeResult_4_11.2.1 168 42 ∧ zq_at zy_takeResult_4_11.2.1 169 180 ∧ zq_at zy_takeResult_4_11.2.1 170 0 ∧ zq_at zy_takeResult_4_11.2.1 171 42 ∧ zq_at zy_takeResult_4_11.2.1 172 17 ∧ zq_at zy_takeResult_4_11.2.1 173 16 ∧ zq_at zy_takeResult_4_11.2.1 174 0 ∧ zq_at zy_takeResult_4_11.2.1 175 42 ∧ zq_at zy_takeResult_4_11.2.1 176 43 ∧ zq_at zy_takeResult_4_11.2.1 177 182 ∧ zq_at zy_takeResult_4_11.2.1 178 0 ∧ zq_at zy_takeResult_4_11.2.1 179 69 := by decide +kernel
theorem zd_4_11_161 : zz_D zy_takeResult_4_11 161 (.aload_n 0) 1 162 := ⟨zq_42 zg_4_11_161.1, rfl⟩
theorem zd_4_11_162 : zz_D zy_takeResult_4_11 162 (.getfield 42) 3 165 := ⟨zq_180 zg_4_11_161.2.1 zg_4_11_161.2.2.1 zg_4_11_161.2.2.2.1 rfl, rfl⟩
theorem zd_4_11_165 : zz_B zy_takeResult_4_11 165 (Instr.ifCond .lt) 184 168 := ⟨19, zq_155 zg_4_11_161.2.2.2.2.1 zg_4_11_161.2.2.2.2.2.1 zg_4_11_161.2.2.2.2.2.2.1 (by decide), rfl, rfl⟩
theorem zd_4_11_184 : zz_D zy_takeResult_4_11 184 (.iconst 0) 1 185 := ⟨zq_3 zg_4_11_161.2.2.2.2.2.2.2.1, rfl⟩
theorem zd_4_11_185 : zz_D zy_takeResult_4_11 185 (.ireturn) 1 186 := ⟨zq_172 zg_4_11_161.2.2.2.2.2.2.2.2.1, rfl⟩
theorem zd_4_11_168 : zz_D zy_takeResult_4_11 168 (.aload_n 0) 1 169 := ⟨zq_42 zg_4_11_161.2.2.2.2.2.2.2.2.2.1, rfl⟩
theorem zd_4_11_169 : zz_D zy_takeResult_4_11 169 (.getfield 42) 3 172 := ⟨zq_180 zg_4_11_161.2.2.2.2.2.2.2.2.2.2.1 zg_4_11_161.2.2.2.2.2.2.2.2.2.2.2.1 zg_4_11_161.2.2.2.2.2.2.2.2.2.2.2.2.1 rfl, rfl⟩
theorem zd_4_11_172 : zz_D zy_takeResult_4_11 172 (.sipush 4096) 3 175 := ⟨zq_17 zg_4_11_161.2.2.2.2.2.2.2.2.2.2.2.2.2.1 zg_4_11_161.2.2.2.2.2.2.2.2.2.2.2.2.2.2.1 zg_4_11_161.2.2.2.2.2.2.2.2.2.2.2.2.2.2.2.1 (by decide), rfl⟩
theorem zd_4_11_175 : zz_D zy_takeResult_4_11 175 (.aload_n 0) 1 176 := ⟨zq_42 zg_4_11_161.2.2.2.2.2.2.2.2.2.2.2.2.2.2.2.2.1, rfl⟩
theorem zd_4_11_176 : zz_D zy_takeResult_4_11 176 (.aload_n 1) 1 177 := ⟨zq_43 zg_4_11_161.2.2.2.2.2.2.2.2.2.2.2.2.2.2.2.2.2.1, rfl⟩
theorem zd_4_11_177 : zz_D zy_takeResult_4_11 177 (.invokevirtual 69) 3 180 := ⟨zq_182 zg_4_11_161.2.2.2.2.2.2.2.2.2.2.2.2.2.2.2.2.2.2.1 zg_4_11_161.2.2.2.2.2.2.2.2.2.2.2.2.2.2.2.2.2.2.2.1 zg_4_11_161.2.2.2.2.2.2.2.2.2.2.2.2.2.2.2.2.2.2.2.2 rfl, rfl⟩
theorem zg_4_12_0 : zq_at zy_parametersSize_4_12.2.1 0 42 ∧ zq_at zy_parametersSize_4_12.2.1 1 180 ∧ zq_at zy_parametersSize_4_12.2.1 2 0 ∧ zq_at zy_parametersSize_4_12.2.1 3 60 ∧ zq_at zy_parametersSize_4_12.2.1 4 7 ∧ zq_at zy_parametersSize_4_12.2.1 5 42 ∧ zq_at zy_parametersSize_4_12.2.1 6 180 ∧ zq_at zy_parametersSize_4_12.2.1 7 0 ∧ zq_at zy_parametersSize_4_12.2.1 8 23 ∧ zq_at zy_parametersSize_4_12.2.1 9 42 ∧ zq_at zy_parametersSize_4_12.2.1 10 180 ∧ zq_at zy_parametersSize_4_12.2.1 11 0 ∧ zq_at zy_parametersSize_4_12.2.1 12 26 ∧ zq_at zy_parametersSize_4_12.2.1 13 104 ∧ zq_at zy_parametersSize_4_12.2.1 14 43 ∧ zq_at zy_parametersSize_4_12.2.1 15 180 ∧ zq_at zy_parametersSize_4_12.2.1 16 0 ∧ zq_at zy_parametersSize_4_12.2.1 17 60 ∧ zq_at zy_parametersSize_4_12.2.1 18 104 ∧ zq_at zy_parametersSize_4_12.2.1 19 96 ∧ zq_at zy_parametersSize_4_12.2.1 20 104 ∧ zq_at zy_parametersSize_4_12.2.1 21 172 := by decide +kernel
theorem zd_4_12_0 : zz_D zy_parametersSize_4_12 0 (.aload_n 0) 1 1 := ⟨zq_42 zg_4_12_0.1, rfl⟩
theorem zd_4_12_1 : zz_D zy_parametersSize_4_12 1 (.getfield 60) 3 4 := ⟨zq_180 zg_4_12_0.2.1 zg_4_12_0.2.2.1 zg_4_12_0.2.2.2.1 rfl, rfl⟩
theorem zd_4_12_4 : zz_D zy_parametersSize_4_12 4 (.iconst 4) 1 5 := ⟨zq_7 zg_4_12_0.2.2.2.2.1, rfl⟩
theorem zd_4_12_5 : zz_D zy_parametersSize_4_12 5 (.aload_n 0) 1 6 := ⟨zq_42 zg_4_12_0.2.2.2.2.2.1, rfl⟩
theorem zd_4_12_6 : zz_D zy_parametersSize_4_12 6 (.getfield 23) 3 9 := ⟨zq_180 zg_4_12_0.2.2.2.2.2.2.1 zg_4_12_0.2.2.2.2.2.2.2.1 zg_4_12_0.2.2.2.2.2.2.2.2.1 rfl, rfl⟩
theorem zd_4_12_9 : zz_D zy_parametersSize_4_12 9 (.aload_n 0) 1 10 := ⟨zq_42 zg_4_12_0.2.2.2.2.2.2.2.2.2.1, rfl⟩
theorem zd_4_12_10 : zz_D zy_parametersSize_4_12 10 (.getfield 26) 3 13 := ⟨zq_180 zg_4_12_0.2.2.2.2.2.2.2.2.2.2.1 zg_4_12_0.2.2.2.2.2.2.2.2.2.2.2.1 zg_4_12_0.2.2.2.2.2.2.2.2.2.2.2.2.1 rfl, rfl⟩
theorem zd_4_12_13 : zz_D zy_parametersSize_4_12 13 (.imul) 1 14 := ⟨zq_104 zg_4_12_0.2.2.2.2.2.2.2.2.2.2.2.2.2.1, rfl⟩
theorem zd_4_12_14 : zz_D zy_parametersSize_4_12 14 (.aload_n 1) 1 15 := ⟨zq_43 zg_4_12_0.2.2.2.2.2.2.2.2.2.2.2.2.2.2.1, rfl⟩
theorem zd_4_12_15 : zz_D zy_parametersSize_4_12 15 (.getfield 60) 3 18 := ⟨zq_180 zg_4_12_0.2.2.2.2.2.2.2.2.2.2.2.2.2.2.2.1 zg_4_12_0.2.2.2.2.2.2.2.2.2.2.2.2.2.2.2.2.1 zg_4_12_0.2.2.2.2.2.2.2.2.2.2.2.2.2.2.2.2.2.1 rfl, rfl⟩
theorem zd_4_12_18 : zz_D zy_parametersSize_4_12 18 (.imul) 1 19 := ⟨zq_104 zg_4_12_0.2.2.2.2.2.2.2.2.2.2.2.2.2.2.2.2.2.2.1, rfl⟩
theorem zd_4_12_19 : zz_D zy_parametersSize_4_12 19 (.iadd) 1 20 := ⟨zq_96 zg_4_12_0.2.2.2.2.2.2.2.2.2.2.2.2.2.2.2.2.2.2.2.1, rfl⟩
theorem zd_4_12_20 : zz_D zy_parametersSize_4_12 20 (.imul) 1 21 := ⟨zq_104 zg_4_12_0.2.2.2.2.2.2.2.2.2.2.2.2.2.2.2.2.2.2.2.2.1, rfl⟩
theorem zd_4_12_21 : zz_D zy_parametersSize_4_12 21 (.ireturn) 1 22 := ⟨zq_172 zg_4_12_0.2.2.2.2.2.2.2.2.2.2.2.2.2.2.2.2.2.2.2.2.2, rfl⟩

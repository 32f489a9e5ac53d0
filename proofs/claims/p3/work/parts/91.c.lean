-- TensorForge$Compiler makeLayer (LTensorForge$Network;I)V
abbrev zr_makeLayer_3_3 : Room := { frames := 5, cells := 0, slots := 0, locals := 86 }
def zp_makeLayer_3_3 (p0 : Int) (p1 : Int) (S0 : zz_S) : zz_S → Prop := fun S => zz_G S ∧ zz_fr [(1076, 1), (1076, 3), (1076, 4), (1076, 5), (1076, 6), (1076, 7), (1076, 8), (1076, 9), (1076, 10), (1076, 11), (1076, 12), (1076, 13), (1076, 14), (1076, 15), (1076, 16)] [1029, 1030] (fun _ _ => False) S0 S ∧ (S 1076 1 ≤ S0 1076 1 + 5 ∨ S 1076 1 ≤ 3300)
theorem zb_makeLayer_3_3_178 {g : mm_G} {l : Launch} (p0 : Int) (p1 : Int) (S0 : zz_S) (n : Nat) (hn : zz_end ≤ n) (G_S0 : zz_G S0) (hp0 : 0 ≤ p0 ∧ p0 ≤ 1) (hp1 : (-2147483648) ≤ p1 ∧ p1 ≤ 2147483647) (H_S0 : zz_Hc S0) (hq : S0 1076 1 ≤ 4000) (x4 : Int) (x5 : Int) (x6 : Int) (S : zz_S) (G_S : zz_G S) (F_S : zz_fr [(1076, 1), (1076, 3), (1076, 4), (1076, 5), (1076, 6), (1076, 7), (1076, 8), (1076, 9), (1076, 10), (1076, 11), (1076, 12), (1076, 13), (1076, 14), (1076, 15), (1076, 16)] [1029, 1030] (fun _ _ => False) S0 S) (i178_0 : (-2147483648) ≤ x4 ∧ x4 ≤ 2147483647) (i178_1 : (-2147483648) ≤ x5 ∧ x5 ≤ 2147483647) (i178_2 : 16 ≤ x6 ∧ x6 ≤ 63) (i178_3 : (1 = 1 ∧ 0 ≤ (S0 (zz_rf 6 (12 * p0 + p1)) 1) ∧ (S0 (zz_rf 6 (12 * p0 + p1)) 1) < S0 (zz_rf 3 p0) 1) ∨ (1 = 0 ∧ ((S0 (zz_rf 6 (12 * p0 + p1)) 1) < 0 ∨ (S0 (zz_rf 6 (12 * p0 + p1)) 1) ≥ S0 (zz_rf 3 p0) 1))) (i178_4 : (1 = 1 ∧ 0 ≤ (S0 (zz_rf 6 (12 * p0 + p1)) 2) ∧ (S0 (zz_rf 6 (12 * p0 + p1)) 2) < S0 (zz_rf 3 p0) 1) ∨ (1 = 0 ∧ ((S0 (zz_rf 6 (12 * p0 + p1)) 2) < 0 ∨ (S0 (zz_rf 6 (12 * p0 + p1)) 2) ≥ S0 (zz_rf 3 p0) 1))) (i178_5 : (1 = 1 ∧ 0 ≤ p1 ∧ p1 < S0 (zz_rf 3 p0) 1) ∨ (1 = 0 ∧ (p1 < 0 ∨ p1 ≥ S0 (zz_rf 3 p0) 1))) (i178_6 : S 1076 3 = 12 * p0 + p1) (i178_7 : S 1076 4 = 12 * p0 + (S0 (zz_rf 6 (12 * p0 + p1)) 1)) (i178_8 : S 1076 5 = 12 * p0 + (S0 (zz_rf 6 (12 * p0 + p1)) 2)) (i178_9 : S0 1076 1 ≤ S 1076 1) (i178_10 : S 1076 1 ≤ S0 1076 1 ∨ S 1076 1 ≤ 3250) (i178_11 : 0 ≤ S 1076 7 ∧ S 1076 7 ≤ 80) (R : Nat) (hR : (51539607552 + (S0 (zz_rf 6 (12 * p0 + p1)) 12 - S 1076 7).toNat) * 1208925819614629174706176 + 1208925819614629174706175 = R) (k220 : ∀ (x4 : Int) (x5 : Int) (x6 : Int) (S : zz_S), zz_G S → zz_fr [(1076, 1), (1076, 3), (1076, 4), (1076, 5), (1076, 6), (1076, 7), (1076, 8), (1076, 9), (1076, 10), (1076, 11), (1076, 12), (1076, 13), (1076, 14), (1076, 15), (1076, 16)] [1029, 1030] (fun _ _ => False) S0 S → ((-2147483648) ≤ x4 ∧ x4 ≤ 2147483647) → ((-2147483648) ≤ x5 ∧ x5 ≤ 2147483647) → (16 ≤ x6 ∧ x6 ≤ 63) → ((1 = 1 ∧ 0 ≤ (S0 (zz_rf 6 (12 * p0 + p1)) 1) ∧ (S0 (zz_rf 6 (12 * p0 + p1)) 1) < S0 (zz_rf 3 p0) 1) ∨ (1 = 0 ∧ ((S0 (zz_rf 6 (12 * p0 + p1)) 1) < 0 ∨ (S0 (zz_rf 6 (12 * p0 + p1)) 1) ≥ S0 (zz_rf 3 p0) 1))) → ((1 = 1 ∧ 0 ≤ (S0 (zz_rf 6 (12 * p0 + p1)) 2) ∧ (S0 (zz_rf 6 (12 * p0 + p1)) 2) < S0 (zz_rf 3 p0) 1) ∨ (1 = 0 ∧ ((S0 (zz_rf 6 (12 * p0 + p1)) 2) < 0 ∨ (S0 (zz_rf 6 (12 * p0 + p1)) 2) ≥ S0 (zz_rf 3 p0) 1))) → ((1 = 1 ∧ 0 ≤ p1 ∧ p1 < S0 (zz_rf 3 p0) 1) ∨ (1 = 0 ∧ (p1 < 0 ∨ p1 ≥ S0 (zz_rf 3 p0) 1))) → (S0 (zz_rf 6 (12 * p0 + p1)) 0 ≠ 3) → (S 1076 3 = 12 * p0 + p1) → (S 1076 4 = 12 * p0 + (S0 (zz_rf 6 (12 * p0 + p1)) 1)) → (S 1076 5 = 12 * p0 + (S0 (zz_rf 6 (12 * p0 + p1)) 2)) → (S0 1076 1 ≤ S 1076 1) → (S 1076 1 ≤ S0 1076 1 ∨ S 1076 1 ≤ 3250) → (0 ≤ S 1076 7 ∧ S 1076 7 ≤ 62) → (S 1076 7 < S0 (zz_rf 6 (12 * p0 + p1)) 12) → (0 ≤ S 1076 9) → (51539607552 + (S0 (zz_rf 6 (12 * p0 + p1)) 12 - S 1076 7).toNat) * 1208925819614629174706176 + (34359738368 + (x4 - S 1076 9).toNat) * 1099511627776 + 1099511627775 < R → zz_E g l zy_makeLayer_3_3 zr_makeLayer_3_3 (zz_QV n (zp_makeLayer_3_3 p0 p1 S0)) S n 220 [some (.ref 1076), none, none, none, some (zi x4), some (zi x5), some (zi x6)] [] 0 0) : zz_E g l zy_makeLayer_3_3 zr_makeLayer_3_3 (zz_QV n (zp_makeLayer_3_3 p0 p1 S0)) S n 178 [some (.ref 1076), none, none, none, some (zi x4), some (zi x5), some (zi x6)] [] 0 0 := by
  have b_p0 := zz_rf3 (z := p0) (by omega)
  have hy8 := H_S0 p0 (by omega) p1 (by omega) (by omega)
  have hy9 := H_S0 p0 (by omega) (S0 (zz_rf 6 (12 * p0 + p1)) 1) (by omega) (by omega)
  have hy7 := hy8.2
  refine zz_aload_n (x := 1076) rfl zd_3_3_178 ?_
  have g64 := zz_G.r G_S 1076 7 (-2147483648) 2147483647 rfl rfl
  refine zz_geti (z := S 1076 7) zd_3_3_179 zf_Compiler_76 zT_1076 rfl (zz_ltn hn rfl) rfl ?_
  refine zz_aload_n (x := 1076) rfl zd_3_3_182 ?_
  have g65 := zz_G.r G_S 1076 3 (-1) 23 rfl rfl
  refine zz_getr (kd := 4) (z := 12 * p0 + p1) zd_3_3_183 zf_Compiler_51 zT_1076 rfl (zz_ltn hn rfl) (by omega) (by omega) (zz_rf 6 (12 * p0 + p1)) rfl ?_
  have g66 := zz_G.r G_S0 (zz_rf 6 (12 * p0 + p1)) 12 (-2147483648) 2147483647 (zR_k6_12 (by omega)) (zB_k6 (by omega))
  refine zz_geti (z := S0 (zz_rf 6 (12 * p0 + p1)) 12) zd_3_3_186 zf_Compiler_79 (zT_k6 (by omega)) rfl (zN_k6 hn (by omega)) (zz_rc F_S (zP_k6 (by omega) rfl) (zQ_k6 (by omega) rfl) (fun h => h) rfl) ?_
  refine zz_icmp_ge (by omega) (by omega) zd_3_3_189 (fun c67 => ?_) (fun c67 => ?_)
  · refine zz_aload_n (x := 1076) rfl zd_3_3_317 ?_
    have g68 := zz_G.r G_S 1076 1 0 1000000 rfl rfl
    refine zz_callVV [] zd_3_3_318 zk_Compiler_97 zT_1076 (zz_ltn hn rfl) rfl rfl ⟨Nat.le_of_ble_eq_true rfl, Nat.le_of_ble_eq_true rfl⟩ ⟨rfl, rfl⟩ (Nat.zero_le _) (Nat.zero_le _) (zc_makeWaits_3_12  S n hn G_S (by omega)) (fun S69 hP => ?_)
    obtain ⟨G_S69, fS69, o71⟩ := hP
    have g72 := zz_G.r G_S 1076 0 0 1 rfl rfl
    have F_S69 := zz_fr.trans F_S fS69 rfl (fun a i h => Or.inr (Or.inl (h ▸ zM_k4 (z := (S 1076 0)) (by omega) rfl)))
    have b73 := zz_rf4 (z := (S 1076 0)) (by omega)
    have g74 := zz_G.r G_S69 1076 1 0 1000000 rfl rfl
    exact zz_vret zd_3_3_321 rfl (Nat.zero_le _) (Nat.zero_le _) ⟨_, rfl, G_S69, F_S69, by omega⟩
  · refine zz_aload_n (x := 1076) rfl zd_3_3_192 ?_
    refine zz_aload_n (x := 1076) rfl zd_3_3_193 ?_
    have g75 := zz_G.r G_S0 1076 2 2 8 rfl rfl
    refine zz_geti (z := S0 1076 2) zd_3_3_194 zf_Compiler_21 zT_1076 rfl (zz_ltn hn rfl) (zz_rc F_S rfl rfl (fun h => h) rfl) ?_
    refine zz_aload_n (x := 1076) rfl zd_3_3_197 ?_
    refine zz_getr (kd := 4) (z := 12 * p0 + p1) zd_3_3_198 zf_Compiler_51 zT_1076 rfl (zz_ltn hn rfl) (by omega) (by omega) (zz_rf 6 (12 * p0 + p1)) rfl ?_
    refine zz_geti (z := S0 (zz_rf 6 (12 * p0 + p1)) 12) zd_3_3_201 zf_Compiler_79 (zT_k6 (by omega)) rfl (zN_k6 hn (by omega)) (zz_rc F_S (zP_k6 (by omega) rfl) (zQ_k6 (by omega) rfl) (fun h => h) rfl) ?_
    refine zz_aload_n (x := 1076) rfl zd_3_3_204 ?_
    refine zz_geti (z := S 1076 7) zd_3_3_205 zf_Compiler_76 zT_1076 rfl (zz_ltn hn rfl) rfl ?_
    refine zz_isub zd_3_3_208 ?_
    refine zz_nrm (fun v76 hv76 ev76 => ?_)
    refine zz_mmin (by omega) (by omega) zd_3_3_209 zm_Compiler_24 ⟨Nat.le_of_ble_eq_true rfl, Nat.le_of_ble_eq_true rfl⟩ (Nat.zero_le _) (Nat.zero_le _) (fun v77 hv77 => ?_)
    refine zz_puti zd_3_3_212 zf_Compiler_82 zT_1076 rfl (zz_ltn hn rfl) (fun S78 qS78 => ?_)
    have G_S78 := zz_G.put G_S qS78 (-2147483648) 2147483647 rfl (by omega)
    have F_S78 := zz_fr.puts F_S qS78 rfl
    refine zz_aload_n (x := 1076) rfl zd_3_3_215 ?_
    refine zz_iconst zd_3_3_216 ?_
    refine zz_puti zd_3_3_217 zf_Compiler_85 zT_1076 rfl (zz_ltn hn rfl) (fun S79 qS79 => ?_)
    have G_S79 := zz_G.put G_S78 qS79 (-2147483648) 2147483647 rfl (by omega)
    have F_S79 := zz_fr.puts F_S78 qS79 rfl
    have e80 : S79 1076 3 = S 1076 3 := (zz_ro qS79 (fun h => absurd h.2 (by decide)) (zz_ro qS78 (fun h => absurd h.2 (by decide)) rfl))
    have g81 := zz_G.r G_S 1076 4 (-1) 23 rfl rfl
    have e82 : S79 1076 4 = S 1076 4 := (zz_ro qS79 (fun h => absurd h.2 (by decide)) (zz_ro qS78 (fun h => absurd h.2 (by decide)) rfl))
    have g83 := zz_G.r G_S 1076 5 (-1) 23 rfl rfl
    have e84 : S79 1076 5 = S 1076 5 := (zz_ro qS79 (fun h => absurd h.2 (by decide)) (zz_ro qS78 (fun h => absurd h.2 (by decide)) rfl))
    have g85 := zz_G.r G_S 1076 1 0 1000000 rfl rfl
    have e86 : S79 1076 1 = S 1076 1 := (zz_ro qS79 (fun h => absurd h.2 (by decide)) (zz_ro qS78 (fun h => absurd h.2 (by decide)) rfl))
    have e87 : S79 1076 7 = S 1076 7 := (zz_ro qS79 (fun h => absurd h.2 (by decide)) (zz_ro qS78 (fun h => absurd h.2 (by decide)) rfl))
    have e88 : S79 1076 9 = 0 := (zz_rs qS79)
    exact k220 x4 x5 x6 S79 G_S79 F_S79 (by omega) (by omega) (by omega) (by omega) (by omega) (by omega) (by omega) (by omega) (by omega) (by omega) (by omega) (by omega) (by omega) (by omega) (by omega) (by omega)
theorem zb_makeLayer_3_3_220 {g : mm_G} {l : Launch} (p0 : Int) (p1 : Int) (S0 : zz_S) (n : Nat) (hn : zz_end ≤ n) (G_S0 : zz_G S0) (hp0 : 0 ≤ p0 ∧ p0 ≤ 1) (hp1 : (-2147483648) ≤ p1 ∧ p1 ≤ 2147483647) (H_S0 : zz_Hc S0) (hq : S0 1076 1 ≤ 4000) (x4 : Int) (x5 : Int) (x6 : Int) (S : zz_S) (G_S : zz_G S) (F_S : zz_fr [(1076, 1), (1076, 3), (1076, 4), (1076, 5), (1076, 6), (1076, 7), (1076, 8), (1076, 9), (1076, 10), (1076, 11), (1076, 12), (1076, 13), (1076, 14), (1076, 15), (1076, 16)] [1029, 1030] (fun _ _ => False) S0 S) (i220_0 : (-2147483648) ≤ x4 ∧ x4 ≤ 2147483647) (i220_1 : (-2147483648) ≤ x5 ∧ x5 ≤ 2147483647) (i220_2 : 16 ≤ x6 ∧ x6 ≤ 63) (i220_3 : (1 = 1 ∧ 0 ≤ (S0 (zz_rf 6 (12 * p0 + p1)) 1) ∧ (S0 (zz_rf 6 (12 * p0 + p1)) 1) < S0 (zz_rf 3 p0) 1) ∨ (1 = 0 ∧ ((S0 (zz_rf 6 (12 * p0 + p1)) 1) < 0 ∨ (S0 (zz_rf 6 (12 * p0 + p1)) 1) ≥ S0 (zz_rf 3 p0) 1))) (i220_4 : (1 = 1 ∧ 0 ≤ (S0 (zz_rf 6 (12 * p0 + p1)) 2) ∧ (S0 (zz_rf 6 (12 * p0 + p1)) 2) < S0 (zz_rf 3 p0) 1) ∨ (1 = 0 ∧ ((S0 (zz_rf 6 (12 * p0 + p1)) 2) < 0 ∨ (S0 (zz_rf 6 (12 * p0 + p1)) 2) ≥ S0 (zz_rf 3 p0) 1))) (i220_5 : (1 = 1 ∧ 0 ≤ p1 ∧ p1 < S0 (zz_rf 3 p0) 1) ∨ (1 = 0 ∧ (p1 < 0 ∨ p1 ≥ S0 (zz_rf 3 p0) 1))) (i220_6 : S0 (zz_rf 6 (12 * p0 + p1)) 0 ≠ 3) (i220_7 : S 1076 3 = 12 * p0 + p1) (i220_8 : S 1076 4 = 12 * p0 + (S0 (zz_rf 6 (12 * p0 + p1)) 1)) (i220_9 : S 1076 5 = 12 * p0 + (S0 (zz_rf 6 (12 * p0 + p1)) 2)) (i220_10 : S0 1076 1 ≤ S 1076 1) (i220_11 : S 1076 1 ≤ S0 1076 1 ∨ S 1076 1 ≤ 3250) (i220_12 : 0 ≤ S 1076 7 ∧ S 1076 7 ≤ 62) (i220_13 : S 1076 7 < S0 (zz_rf 6 (12 * p0 + p1)) 12) (i220_14 : 0 ≤ S 1076 9) (R : Nat) (hR : (51539607552 + (S0 (zz_rf 6 (12 * p0 + p1)) 12 - S 1076 7).toNat) * 1208925819614629174706176 + (34359738368 + (x4 - S 1076 9).toNat) * 1099511627776 + 1099511627775 = R) (k178 : ∀ (x4 : Int) (x5 : Int) (x6 : Int) (S : zz_S), zz_G S → zz_fr [(1076, 1), (1076, 3), (1076, 4), (1076, 5), (1076, 6), (1076, 7), (1076, 8), (1076, 9), (1076, 10), (1076, 11), (1076, 12), (1076, 13), (1076, 14), (1076, 15), (1076, 16)] [1029, 1030] (fun _ _ => False) S0 S → ((-2147483648) ≤ x4 ∧ x4 ≤ 2147483647) → ((-2147483648) ≤ x5 ∧ x5 ≤ 2147483647) → (16 ≤ x6 ∧ x6 ≤ 63) → ((1 = 1 ∧ 0 ≤ (S0 (zz_rf 6 (12 * p0 + p1)) 1) ∧ (S0 (zz_rf 6 (12 * p0 + p1)) 1) < S0 (zz_rf 3 p0) 1) ∨ (1 = 0 ∧ ((S0 (zz_rf 6 (12 * p0 + p1)) 1) < 0 ∨ (S0 (zz_rf 6 (12 * p0 + p1)) 1) ≥ S0 (zz_rf 3 p0) 1))) → ((1 = 1 ∧ 0 ≤ (S0 (zz_rf 6 (12 * p0 + p1)) 2) ∧ (S0 (zz_rf 6 (12 * p0 + p1)) 2) < S0 (zz_rf 3 p0) 1) ∨ (1 = 0 ∧ ((S0 (zz_rf 6 (12 * p0 + p1)) 2) < 0 ∨ (S0 (zz_rf 6 (12 * p0 + p1)) 2) ≥ S0 (zz_rf 3 p0) 1))) → ((1 = 1 ∧ 0 ≤ p1 ∧ p1 < S0 (zz_rf 3 p0) 1) ∨ (1 = 0 ∧ (p1 < 0 ∨ p1 ≥ S0 (zz_rf 3 p0) 1))) → (S 1076 3 = 12 * p0 + p1) → (S 1076 4 = 12 * p0 + (S0 (zz_rf 6 (12 * p0 + p1)) 1)) → (S 1076 5 = 12 * p0 + (S0 (zz_rf 6 (12 * p0 + p1)) 2)) → (S0 1076 1 ≤ S 1076 1) → (S 1076 1 ≤ S0 1076 1 ∨ S 1076 1 ≤ 3250) → (0 ≤ S 1076 7 ∧ S 1076 7 ≤ 80) → (51539607552 + (S0 (zz_rf 6 (12 * p0 + p1)) 12 - S 1076 7).toNat) * 1208925819614629174706176 + 1208925819614629174706175 < R → zz_E g l zy_makeLayer_3_3 zr_makeLayer_3_3 (zz_QV n (zp_makeLayer_3_3 p0 p1 S0)) S n 178 [some (.ref 1076), none, none, none, some (zi x4), some (zi x5), some (zi x6)] [] 0 0) (k234 : ∀ (x4 : Int) (x5 : Int) (x6 : Int) (S : zz_S), zz_G S → zz_fr [(1076, 1), (1076, 3), (1076, 4), (1076, 5), (1076, 6), (1076, 7), (1076, 8), (1076, 9), (1076, 10), (1076, 11), (1076, 12), (1076, 13), (1076, 14), (1076, 15), (1076, 16)] [1029, 1030] (fun _ _ => False) S0 S → ((-2147483647) ≤ x4 ∧ x4 ≤ 2147483647) → ((-2147483648) ≤ x5 ∧ x5 ≤ 2147483647) → (16 ≤ x6 ∧ x6 ≤ 63) → ((1 = 1 ∧ 0 ≤ (S0 (zz_rf 6 (12 * p0 + p1)) 1) ∧ (S0 (zz_rf 6 (12 * p0 + p1)) 1) < S0 (zz_rf 3 p0) 1) ∨ (1 = 0 ∧ ((S0 (zz_rf 6 (12 * p0 + p1)) 1) < 0 ∨ (S0 (zz_rf 6 (12 * p0 + p1)) 1) ≥ S0 (zz_rf 3 p0) 1))) → ((1 = 1 ∧ 0 ≤ (S0 (zz_rf 6 (12 * p0 + p1)) 2) ∧ (S0 (zz_rf 6 (12 * p0 + p1)) 2) < S0 (zz_rf 3 p0) 1) ∨ (1 = 0 ∧ ((S0 (zz_rf 6 (12 * p0 + p1)) 2) < 0 ∨ (S0 (zz_rf 6 (12 * p0 + p1)) 2) ≥ S0 (zz_rf 3 p0) 1))) → ((1 = 1 ∧ 0 ≤ p1 ∧ p1 < S0 (zz_rf 3 p0) 1) ∨ (1 = 0 ∧ (p1 < 0 ∨ p1 ≥ S0 (zz_rf 3 p0) 1))) → (S0 (zz_rf 6 (12 * p0 + p1)) 0 ≠ 3) → (S 1076 3 = 12 * p0 + p1) → (S 1076 4 = 12 * p0 + (S0 (zz_rf 6 (12 * p0 + p1)) 1)) → (S 1076 5 = 12 * p0 + (S0 (zz_rf 6 (12 * p0 + p1)) 2)) → (S0 1076 1 ≤ S 1076 1) → (S 1076 1 ≤ S0 1076 1 ∨ S 1076 1 ≤ 3250) → (0 ≤ S 1076 7 ∧ S 1076 7 ≤ 62) → (S 1076 7 < S0 (zz_rf 6 (12 * p0 + p1)) 12) → (0 ≤ S 1076 9) → (S 1076 9 < x4) → (51539607552 + (S0 (zz_rf 6 (12 * p0 + p1)) 12 - S 1076 7).toNat) * 1208925819614629174706176 + (34359738368 + (x4 - S 1076 9).toNat) * 1099511627776 + (17179869184 + (5000 - S 1076 1).toNat) < R → zz_E g l zy_makeLayer_3_3 zr_makeLayer_3_3 (zz_QV n (zp_makeLayer_3_3 p0 p1 S0)) S n 234 [some (.ref 1076), none, none, none, some (zi x4), some (zi x5), some (zi x6)] [] 0 0) : zz_E g l zy_makeLayer_3_3 zr_makeLayer_3_3 (zz_QV n (zp_makeLayer_3_3 p0 p1 S0)) S n 220 [some (.ref 1076), none, none, none, some (zi x4), some (zi x5), some (zi x6)] [] 0 0 := by
  have b_p0 := zz_rf3 (z := p0) (by omega)
  have hy8 := H_S0 p0 (by omega) p1 (by omega) (by omega)
  have hy9 := H_S0 p0 (by omega) (S0 (zz_rf 6 (12 * p0 + p1)) 1) (by omega) (by omega)
  have hy7 := hy8.2
  refine zz_aload_n (x := 1076) rfl zd_3_3_220 ?_
  have g89 := zz_G.r G_S 1076 9 (-2147483648) 2147483647 rfl rfl
  refine zz_geti (z := S 1076 9) zd_3_3_221 zf_Compiler_85 zT_1076 rfl (zz_ltn hn rfl) rfl ?_
  refine zz_iload (x := x4) rfl zd_3_3_224 ?_
  refine zz_icmp_ge (by omega) (by omega) zd_3_3_226 (fun c90 => ?_) (fun c90 => ?_)
  · refine zz_aload_n (x := 1076) rfl zd_3_3_301 ?_
    refine zz_dup rfl zd_3_3_302 ?_
    have g91 := zz_G.r G_S 1076 7 (-2147483648) 2147483647 rfl rfl
    refine zz_geti (z := S 1076 7) zd_3_3_303 zf_Compiler_76 zT_1076 rfl (zz_ltn hn rfl) rfl ?_
    refine zz_aload_n (x := 1076) rfl zd_3_3_306 ?_
    have g92 := zz_G.r G_S0 1076 2 2 8 rfl rfl
    refine zz_geti (z := S0 1076 2) zd_3_3_307 zf_Compiler_21 zT_1076 rfl (zz_ltn hn rfl) (zz_rc F_S rfl rfl (fun h => h) rfl) ?_
    refine zz_iadd zd_3_3_310 ?_
    refine zz_nrm (fun v93 hv93 ev93 => ?_)
    refine zz_puti zd_3_3_311 zf_Compiler_76 zT_1076 rfl (zz_ltn hn rfl) (fun S94 qS94 => ?_)
    have G_S94 := zz_G.put G_S qS94 (-2147483648) 2147483647 rfl (by omega)
    have F_S94 := zz_fr.puts F_S qS94 rfl
    refine zz_goto zd_3_3_314 ?_
    have g95 := zz_G.r G_S 1076 3 (-1) 23 rfl rfl
    have e96 : S94 1076 3 = S 1076 3 := (zz_ro qS94 (fun h => absurd h.2 (by decide)) rfl)
    have g97 := zz_G.r G_S 1076 4 (-1) 23 rfl rfl
    have e98 : S94 1076 4 = S 1076 4 := (zz_ro qS94 (fun h => absurd h.2 (by decide)) rfl)
    have g99 := zz_G.r G_S 1076 5 (-1) 23 rfl rfl
    have e100 : S94 1076 5 = S 1076 5 := (zz_ro qS94 (fun h => absurd h.2 (by decide)) rfl)
    have g101 := zz_G.r G_S 1076 1 0 1000000 rfl rfl
    have e102 : S94 1076 1 = S 1076 1 := (zz_ro qS94 (fun h => absurd h.2 (by decide)) rfl)
    have e103 : S94 1076 7 = v93 := (zz_rs qS94)
    exact k178 x4 x5 x6 S94 G_S94 F_S94 (by omega) (by omega) (by omega) (by omega) (by omega) (by omega) (by omega) (by omega) (by omega) (by omega) (by omega) (by omega) (by omega)
  · refine zz_aload_n (x := 1076) rfl zd_3_3_229 ?_
    refine zz_iconst zd_3_3_230 ?_
    refine zz_puti zd_3_3_231 zf_Compiler_88 zT_1076 rfl (zz_ltn hn rfl) (fun S104 qS104 => ?_)
    have G_S104 := zz_G.put G_S qS104 (-2147483648) 2147483647 rfl (by omega)
    have F_S104 := zz_fr.puts F_S qS104 rfl
    have g105 := zz_G.r G_S 1076 3 (-1) 23 rfl rfl
    have e106 : S104 1076 3 = S 1076 3 := (zz_ro qS104 (fun h => absurd h.2 (by decide)) rfl)
    have g107 := zz_G.r G_S 1076 4 (-1) 23 rfl rfl
    have e108 : S104 1076 4 = S 1076 4 := (zz_ro qS104 (fun h => absurd h.2 (by decide)) rfl)
    have g109 := zz_G.r G_S 1076 5 (-1) 23 rfl rfl
    have e110 : S104 1076 5 = S 1076 5 := (zz_ro qS104 (fun h => absurd h.2 (by decide)) rfl)
    have g111 := zz_G.r G_S 1076 1 0 1000000 rfl rfl
    have e112 : S104 1076 1 = S 1076 1 := (zz_ro qS104 (fun h => absurd h.2 (by decide)) rfl)
    have g113 := zz_G.r G_S 1076 7 (-2147483648) 2147483647 rfl rfl
    have e114 : S104 1076 7 = S 1076 7 := (zz_ro qS104 (fun h => absurd h.2 (by decide)) rfl)
    have e115 : S104 1076 9 = S 1076 9 := (zz_ro qS104 (fun h => absurd h.2 (by decide)) rfl)
    exact k234 x4 x5 x6 S104 G_S104 F_S104 (by omega) (by omega) (by omega) (by omega) (by omega) (by omega) (by omega) (by omega) (by omega) (by omega) (by omega) (by omega) (by omega) (by omega) (by omega) (by omega) (by omega)
theorem zb_makeLayer_3_3_234 {g : mm_G} {l : Launch} (p0 : Int) (p1 : Int) (S0 : zz_S) (n : Nat) (hn : zz_end ≤ n) (G_S0 : zz_G S0) (hp0 : 0 ≤ p0 ∧ p0 ≤ 1) (hp1 : (-2147483648) ≤ p1 ∧ p1 ≤ 2147483647) (H_S0 : zz_Hc S0) (hq : S0 1076 1 ≤ 4000) (x4 : Int) (x5 : Int) (x6 : Int) (S : zz_S) (G_S : zz_G S) (F_S : zz_fr [(1076, 1), (1076, 3), (1076, 4), (1076, 5), (1076, 6), (1076, 7), (1076, 8), (1076, 9), (1076, 10), (1076, 11), (1076, 12), (1076, 13), (1076, 14), (1076, 15), (1076, 16)] [1029, 1030] (fun _ _ => False) S0 S) (i234_0 : (-2147483647) ≤ x4 ∧ x4 ≤ 2147483647) (i234_1 : (-2147483648) ≤ x5 ∧ x5 ≤ 2147483647) (i234_2 : 16 ≤ x6 ∧ x6 ≤ 63) (i234_3 : (1 = 1 ∧ 0 ≤ (S0 (zz_rf 6 (12 * p0 + p1)) 1) ∧ (S0 (zz_rf 6 (12 * p0 + p1)) 1) < S0 (zz_rf 3 p0) 1) ∨ (1 = 0 ∧ ((S0 (zz_rf 6 (12 * p0 + p1)) 1) < 0 ∨ (S0 (zz_rf 6 (12 * p0 + p1)) 1) ≥ S0 (zz_rf 3 p0) 1))) (i234_4 : (1 = 1 ∧ 0 ≤ (S0 (zz_rf 6 (12 * p0 + p1)) 2) ∧ (S0 (zz_rf 6 (12 * p0 + p1)) 2) < S0 (zz_rf 3 p0) 1) ∨ (1 = 0 ∧ ((S0 (zz_rf 6 (12 * p0 + p1)) 2) < 0 ∨ (S0 (zz_rf 6 (12 * p0 + p1)) 2) ≥ S0 (zz_rf 3 p0) 1))) (i234_5 : (1 = 1 ∧ 0 ≤ p1 ∧ p1 < S0 (zz_rf 3 p0) 1) ∨ (1 = 0 ∧ (p1 < 0 ∨ p1 ≥ S0 (zz_rf 3 p0) 1))) (i234_6 : S0 (zz_rf 6 (12 * p0 + p1)) 0 ≠ 3) (i234_7 : S 1076 3 = 12 * p0 + p1) (i234_8 : S 1076 4 = 12 * p0 + (S0 (zz_rf 6 (12 * p0 + p1)) 1)) (i234_9 : S 1076 5 = 12 * p0 + (S0 (zz_rf 6 (12 * p0 + p1)) 2)) (i234_10 : S0 1076 1 ≤ S 1076 1) (i234_11 : S 1076 1 ≤ S0 1076 1 ∨ S 1076 1 ≤ 3250) (i234_12 : 0 ≤ S 1076 7 ∧ S 1076 7 ≤ 62) (i234_13 : S 1076 7 < S0 (zz_rf 6 (12 * p0 + p1)) 12) (i234_14 : 0 ≤ S 1076 9) (i234_15 : S 1076 9 < x4) (R : Nat) (hR : (51539607552 + (S0 (zz_rf 6 (12 * p0 + p1)) 12 - S 1076 7).toNat) * 1208925819614629174706176 + (34359738368 + (x4 - S 1076 9).toNat) * 1099511627776 + (17179869184 + (5000 - S 1076 1).toNat) = R) (k220 : ∀ (x4 : Int) (x5 : Int) (x6 : Int) (S : zz_S), zz_G S → zz_fr [(1076, 1), (1076, 3), (1076, 4), (1076, 5), (1076, 6), (1076, 7), (1076, 8), (1076, 9), (1076, 10), (1076, 11), (1076, 12), (1076, 13), (1076, 14), (1076, 15), (1076, 16)] [1029, 1030] (fun _ _ => False) S0 S → ((-2147483648) ≤ x4 ∧ x4 ≤ 2147483647) → ((-2147483648) ≤ x5 ∧ x5 ≤ 2147483647) → (16 ≤ x6 ∧ x6 ≤ 63) → ((1 = 1 ∧ 0 ≤ (S0 (zz_rf 6 (12 * p0 + p1)) 1) ∧ (S0 (zz_rf 6 (12 * p0 + p1)) 1) < S0 (zz_rf 3 p0) 1) ∨ (1 = 0 ∧ ((S0 (zz_rf 6 (12 * p0 + p1)) 1) < 0 ∨ (S0 (zz_rf 6 (12 * p0 + p1)) 1) ≥ S0 (zz_rf 3 p0) 1))) → ((1 = 1 ∧ 0 ≤ (S0 (zz_rf 6 (12 * p0 + p1)) 2) ∧ (S0 (zz_rf 6 (12 * p0 + p1)) 2) < S0 (zz_rf 3 p0) 1) ∨ (1 = 0 ∧ ((S0 (zz_rf 6 (12 * p0 + p1)) 2) < 0 ∨ (S0 (zz_rf 6 (12 * p0 + p1)) 2) ≥ S0 (zz_rf 3 p0) 1))) → ((1 = 1 ∧ 0 ≤ p1 ∧ p1 < S0 (zz_rf 3 p0) 1) ∨ (1 = 0 ∧ (p1 < 0 ∨ p1 ≥ S0 (zz_rf 3 p0) 1))) → (S0 (zz_rf 6 (12 * p0 + p1)) 0 ≠ 3) → (S 1076 3 = 12 * p0 + p1) → (S 1076 4 = 12 * p0 + (S0 (zz_rf 6 (12 * p0 + p1)) 1)) → (S 1076 5 = 12 * p0 + (S0 (zz_rf 6 (12 * p0 + p1)) 2)) → (S0 1076 1 ≤ S 1076 1) → (S 1076 1 ≤ S0 1076 1 ∨ S 1076 1 ≤ 3250) → (0 ≤ S 1076 7 ∧ S 1076 7 ≤ 62) → (S 1076 7 < S0 (zz_rf 6 (12 * p0 + p1)) 12) → (0 ≤ S 1076 9) → (51539607552 + (S0 (zz_rf 6 (12 * p0 + p1)) 12 - S 1076 7).toNat) * 1208925819614629174706176 + (34359738368 + (x4 - S 1076 9).toNat) * 1099511627776 + 1099511627775 < R → zz_E g l zy_makeLayer_3_3 zr_makeLayer_3_3 (zz_QV n (zp_makeLayer_3_3 p0 p1 S0)) S n 220 [some (.ref 1076), none, none, none, some (zi x4), some (zi x5), some (zi x6)] [] 0 0) (k234 : ∀ (x4 : Int) (x5 : Int) (x6 : Int) (S : zz_S), zz_G S → zz_fr [(1076, 1), (1076, 3), (1076, 4), (1076, 5), (1076, 6), (1076, 7), (1076, 8), (1076, 9), (1076, 10), (1076, 11), (1076, 12), (1076, 13), (1076, 14), (1076, 15), (1076, 16)] [1029, 1030] (fun _ _ => False) S0 S → ((-2147483647) ≤ x4 ∧ x4 ≤ 2147483647) → ((-2147483648) ≤ x5 ∧ x5 ≤ 2147483647) → (16 ≤ x6 ∧ x6 ≤ 63) → ((1 = 1 ∧ 0 ≤ (S0 (zz_rf 6 (12 * p0 + p1)) 1) ∧ (S0 (zz_rf 6 (12 * p0 + p1)) 1) < S0 (zz_rf 3 p0) 1) ∨ (1 = 0 ∧ ((S0 (zz_rf 6 (12 * p0 + p1)) 1) < 0 ∨ (S0 (zz_rf 6 (12 * p0 + p1)) 1) ≥ S0 (zz_rf 3 p0) 1))) → ((1 = 1 ∧ 0 ≤ (S0 (zz_rf 6 (12 * p0 + p1)) 2) ∧ (S0 (zz_rf 6 (12 * p0 + p1)) 2) < S0 (zz_rf 3 p0) 1) ∨ (1 = 0 ∧ ((S0 (zz_rf 6 (12 * p0 + p1)) 2) < 0 ∨ (S0 (zz_rf 6 (12 * p0 + p1)) 2) ≥ S0 (zz_rf 3 p0) 1))) → ((1 = 1 ∧ 0 ≤ p1 ∧ p1 < S0 (zz_rf 3 p0) 1) ∨ (1 = 0 ∧ (p1 < 0 ∨ p1 ≥ S0 (zz_rf 3 p0) 1))) → (S0 (zz_rf 6 (12 * p0 + p1)) 0 ≠ 3) → (S 1076 3 = 12 * p0 + p1) → (S 1076 4 = 12 * p0 + (S0 (zz_rf 6 (12 * p0 + p1)) 1)) → (S 1076 5 = 12 * p0 + (S0 (zz_rf 6 (12 * p0 + p1)) 2)) → (S0 1076 1 ≤ S 1076 1) → (S 1076 1 ≤ S0 1076 1 ∨ S 1076 1 ≤ 3250) → (0 ≤ S 1076 7 ∧ S 1076 7 ≤ 62) → (S 1076 7 < S0 (zz_rf 6 (12 * p0 + p1)) 12) → (0 ≤ S 1076 9) → (S 1076 9 < x4) → (51539607552 + (S0 (zz_rf 6 (12 * p0 + p1)) 12 - S 1076 7).toNat) * 1208925819614629174706176 + (34359738368 + (x4 - S 1076 9).toNat) * 1099511627776 + (17179869184 + (5000 - S 1076 1).toNat) < R → zz_E g l zy_makeLayer_3_3 zr_makeLayer_3_3 (zz_QV n (zp_makeLayer_3_3 p0 p1 S0)) S n 234 [some (.ref 1076), none, none, none, some (zi x4), some (zi x5), some (zi x6)] [] 0 0) : zz_E g l zy_makeLayer_3_3 zr_makeLayer_3_3 (zz_QV n (zp_makeLayer_3_3 p0 p1 S0)) S n 234 [some (.ref 1076), none, none, none, some (zi x4), some (zi x5), some (zi x6)] [] 0 0 := by
  have b_p0 := zz_rf3 (z := p0) (by omega)
  have hy8 := H_S0 p0 (by omega) p1 (by omega) (by omega)
  have hy9 := H_S0 p0 (by omega) (S0 (zz_rf 6 (12 * p0 + p1)) 1) (by omega) (by omega)
  have hy7 := hy8.2
  refine zz_aload_n (x := 1076) rfl zd_3_3_234 ?_
  have g116 := zz_G.r G_S 1076 10 (-2147483648) 2147483647 rfl rfl
  refine zz_geti (z := S 1076 10) zd_3_3_235 zf_Compiler_88 zT_1076 rfl (zz_ltn hn rfl) rfl ?_
  refine zz_iload (x := x5) rfl zd_3_3_238 ?_
  refine zz_icmp_ge (by omega) (by omega) zd_3_3_240 (fun c117 => ?_) (fun c117 => ?_)
  · refine zz_aload_n (x := 1076) rfl zd_3_3_288 ?_
    refine zz_dup rfl zd_3_3_289 ?_
    have g118 := zz_G.r G_S 1076 9 (-2147483648) 2147483647 rfl rfl
    refine zz_geti (z := S 1076 9) zd_3_3_290 zf_Compiler_85 zT_1076 rfl (zz_ltn hn rfl) rfl ?_
    refine zz_iconst zd_3_3_293 ?_
    refine zz_iadd zd_3_3_294 ?_
    refine zz_nrm (fun v119 hv119 ev119 => ?_)
    refine zz_puti zd_3_3_295 zf_Compiler_85 zT_1076 rfl (zz_ltn hn rfl) (fun S120 qS120 => ?_)
    have G_S120 := zz_G.put G_S qS120 (-2147483648) 2147483647 rfl (by omega)
    have F_S120 := zz_fr.puts F_S qS120 rfl
    refine zz_goto zd_3_3_298 ?_
    have g121 := zz_G.r G_S 1076 3 (-1) 23 rfl rfl
    have e122 : S120 1076 3 = S 1076 3 := (zz_ro qS120 (fun h => absurd h.2 (by decide)) rfl)
    have g123 := zz_G.r G_S 1076 4 (-1) 23 rfl rfl
    have e124 : S120 1076 4 = S 1076 4 := (zz_ro qS120 (fun h => absurd h.2 (by decide)) rfl)
    have g125 := zz_G.r G_S 1076 5 (-1) 23 rfl rfl
    have e126 : S120 1076 5 = S 1076 5 := (zz_ro qS120 (fun h => absurd h.2 (by decide)) rfl)
    have g127 := zz_G.r G_S 1076 1 0 1000000 rfl rfl
    have e128 : S120 1076 1 = S 1076 1 := (zz_ro qS120 (fun h => absurd h.2 (by decide)) rfl)
    have g129 := zz_G.r G_S 1076 7 (-2147483648) 2147483647 rfl rfl
    have e130 : S120 1076 7 = S 1076 7 := (zz_ro qS120 (fun h => absurd h.2 (by decide)) rfl)
    have e131 : S120 1076 9 = v119 := (zz_rs qS120)
    exact k220 x4 x5 x6 S120 G_S120 F_S120 (by omega) (by omega) (by omega) (by omega) (by omega) (by omega) (by omega) (by omega) (by omega) (by omega) (by omega) (by omega) (by omega) (by omega) (by omega) (by omega)
  · refine zz_aload_n (x := 1076) rfl zd_3_3_243 ?_
    have g132 := zz_G.r G_S 1076 1 0 1000000 rfl rfl
    refine zz_geti (z := S 1076 1) zd_3_3_244 zf_Compiler_15 zT_1076 rfl (zz_ltn hn rfl) rfl ?_
    refine zz_sipush (by decide) zd_3_3_247 ?_
    refine zz_icmp_le (by omega) (by omega) zd_3_3_250 (fun c133 => ?_) (fun c133 => ?_)
    · refine zz_aload_n (x := 1076) rfl zd_3_3_254 ?_
      refine zz_iload (x := x6) rfl zd_3_3_255 ?_
      refine zz_iload (x := x5) rfl zd_3_3_257 ?_
      refine zz_aload_n (x := 1076) rfl zd_3_3_259 ?_
      refine zz_geti (z := S 1076 10) zd_3_3_260 zf_Compiler_88 zT_1076 rfl (zz_ltn hn rfl) rfl ?_
      refine zz_isub zd_3_3_263 ?_
      refine zz_nrm (fun v134 hv134 ev134 => ?_)
      refine zz_mmin (by omega) (by omega) zd_3_3_264 zm_Compiler_24 ⟨Nat.le_of_ble_eq_true rfl, Nat.le_of_ble_eq_true rfl⟩ (Nat.zero_le _) (Nat.zero_le _) (fun v135 hv135 => ?_)
      refine zz_puti zd_3_3_267 zf_Compiler_91 zT_1076 rfl (zz_ltn hn rfl) (fun S136 qS136 => ?_)
      have G_S136 := zz_G.put G_S qS136 (-2147483648) 2147483647 rfl (by omega)
      have F_S136 := zz_fr.puts F_S qS136 rfl
      refine zz_aload_n (x := 1076) rfl zd_3_3_270 ?_
      have e137 : S136 1076 1 = S 1076 1 := (zz_ro qS136 (fun h => absurd h.2 (by decide)) rfl)
      have g138 := zz_G.r G_S 1076 3 (-1) 23 rfl rfl
      have e139 : S136 1076 3 = S 1076 3 := (zz_ro qS136 (fun h => absurd h.2 (by decide)) rfl)
      have g140 := zz_G.r G_S 1076 4 (-1) 23 rfl rfl
      have e141 : S136 1076 4 = S 1076 4 := (zz_ro qS136 (fun h => absurd h.2 (by decide)) rfl)
      have g142 := zz_G.r G_S 1076 5 (-1) 23 rfl rfl
      have e143 : S136 1076 5 = S 1076 5 := (zz_ro qS136 (fun h => absurd h.2 (by decide)) rfl)
      have e144 : S136 (zz_rf 6 (S136 1076 4)) 12 = S0 (zz_rf 6 (S136 1076 4)) 12 := (zz_ro qS136 (fun h => absurd h.2 (by decide)) (zz_rc F_S (zP_k6 (by omega) rfl) (zQ_k6 (by omega) rfl) (fun h => h) rfl))
      refine zz_callVV [] zd_3_3_271 zk_Compiler_94 zT_1076 (zz_ltn hn rfl) rfl rfl ⟨Nat.le_of_ble_eq_true rfl, Nat.le_of_ble_eq_true rfl⟩ ⟨rfl, rfl⟩ (Nat.zero_le _) (Nat.zero_le _) (zc_makeTile_3_4  S136 n hn G_S136 (by omega) (by omega) (by rw [show S136 1076 3 = 12 * p0 + p1 by omega, show S136 1076 4 = 12 * p0 + (S0 (zz_rf 6 (12 * p0 + p1)) 1) by omega]; exact ⟨zz_ly.same (fun i => (F_S136 (zz_rf 6 (12 * p0 + p1)) _ (zP_k6 (by omega) rfl) (zQ_k6 (by omega) rfl) (fun h => h))) hy8, by rw [show S136 (zz_rf 6 (12 * p0 + (S0 (zz_rf 6 (12 * p0 + p1)) 1))) 12 = S0 (zz_rf 6 (12 * p0 + (S0 (zz_rf 6 (12 * p0 + p1)) 1))) 12 from (F_S136 (zz_rf 6 (12 * p0 + (S0 (zz_rf 6 (12 * p0 + p1)) 1))) _ (zP_k6 (by omega) rfl) (zQ_k6 (by omega) rfl) (fun h => h))]; exact hy9.2⟩)) (fun S145 hP => ?_)
      obtain ⟨G_S145, fS145, o147⟩ := hP
      have F_S145 := zz_fr.trans F_S136 fS145 rfl zz_nv
      refine zz_aload_n (x := 1076) rfl zd_3_3_274 ?_
      refine zz_dup rfl zd_3_3_275 ?_
      refine zz_geti (z := S 1076 10) zd_3_3_276 zf_Compiler_88 zT_1076 rfl (zz_ltn hn rfl) (zz_rc fS145 rfl rfl (fun h => h) (zz_ro qS136 (fun h => absurd h.2 (by decide)) rfl)) ?_
      refine zz_iload (x := x6) rfl zd_3_3_279 ?_
      refine zz_iadd zd_3_3_281 ?_
      refine zz_nrm (fun v148 hv148 ev148 => ?_)
      refine zz_puti zd_3_3_282 zf_Compiler_88 zT_1076 rfl (zz_ltn hn rfl) (fun S149 qS149 => ?_)
      have G_S149 := zz_G.put G_S145 qS149 (-2147483648) 2147483647 rfl (by omega)
      have F_S149 := zz_fr.puts F_S145 qS149 rfl
      refine zz_goto zd_3_3_285 ?_
      have e150 : S149 1076 3 = S 1076 3 := (zz_ro qS149 (fun h => absurd h.2 (by decide)) (zz_rc fS145 rfl rfl (fun h => h) (zz_ro qS136 (fun h => absurd h.2 (by decide)) rfl)))
      have e151 : S149 1076 4 = S 1076 4 := (zz_ro qS149 (fun h => absurd h.2 (by decide)) (zz_rc fS145 rfl rfl (fun h => h) (zz_ro qS136 (fun h => absurd h.2 (by decide)) rfl)))
      have e152 : S149 1076 5 = S 1076 5 := (zz_ro qS149 (fun h => absurd h.2 (by decide)) (zz_rc fS145 rfl rfl (fun h => h) (zz_ro qS136 (fun h => absurd h.2 (by decide)) rfl)))
      have g153 := zz_G.r G_S145 1076 1 0 1000000 rfl rfl
      have e154 : S149 1076 1 = S145 1076 1 := (zz_ro qS149 (fun h => absurd h.2 (by decide)) rfl)
      have g155 := zz_G.r G_S 1076 7 (-2147483648) 2147483647 rfl rfl
      have e156 : S149 1076 7 = S 1076 7 := (zz_ro qS149 (fun h => absurd h.2 (by decide)) (zz_rc fS145 rfl rfl (fun h => h) (zz_ro qS136 (fun h => absurd h.2 (by decide)) rfl)))
      have g157 := zz_G.r G_S 1076 9 (-2147483648) 2147483647 rfl rfl
      have e158 : S149 1076 9 = S 1076 9 := (zz_ro qS149 (fun h => absurd h.2 (by decide)) (zz_rc fS145 rfl rfl (fun h => h) (zz_ro qS136 (fun h => absurd h.2 (by decide)) rfl)))
      exact k234 x4 x5 x6 S149 G_S149 F_S149 (by omega) (by omega) (by omega) (by omega) (by omega) (by omega) (by omega) (by omega) (by omega) (by omega) (by omega) (by omega) (by omega) (by omega) (by omega) (by omega) (by omega)
    · exact zz_vret zd_3_3_253 rfl (Nat.zero_le _) (Nat.zero_le _) ⟨_, rfl, G_S, F_S, by omega⟩
theorem zi_makeLayer_3_3 {g : mm_G} {l : Launch} (p0 : Int) (p1 : Int) (S0 : zz_S) (n : Nat) (hn : zz_end ≤ n) (G_S0 : zz_G S0) (hp0 : 0 ≤ p0 ∧ p0 ≤ 1) (hp1 : (-2147483648) ≤ p1 ∧ p1 ≤ 2147483647) (H_S0 : zz_Hc S0) (hq : S0 1076 1 ≤ 4000) : ∀ N : Nat, (∀ (x4 : Int) (x5 : Int) (x6 : Int) (S : zz_S), zz_G S → zz_fr [(1076, 1), (1076, 3), (1076, 4), (1076, 5), (1076, 6), (1076, 7), (1076, 8), (1076, 9), (1076, 10), (1076, 11), (1076, 12), (1076, 13), (1076, 14), (1076, 15), (1076, 16)] [1029, 1030] (fun _ _ => False) S0 S → ((-2147483648) ≤ x4 ∧ x4 ≤ 2147483647) → ((-2147483648) ≤ x5 ∧ x5 ≤ 2147483647) → (16 ≤ x6 ∧ x6 ≤ 63) → ((1 = 1 ∧ 0 ≤ (S0 (zz_rf 6 (12 * p0 + p1)) 1) ∧ (S0 (zz_rf 6 (12 * p0 + p1)) 1) < S0 (zz_rf 3 p0) 1) ∨ (1 = 0 ∧ ((S0 (zz_rf 6 (12 * p0 + p1)) 1) < 0 ∨ (S0 (zz_rf 6 (12 * p0 + p1)) 1) ≥ S0 (zz_rf 3 p0) 1))) → ((1 = 1 ∧ 0 ≤ (S0 (zz_rf 6 (12 * p0 + p1)) 2) ∧ (S0 (zz_rf 6 (12 * p0 + p1)) 2) < S0 (zz_rf 3 p0) 1) ∨ (1 = 0 ∧ ((S0 (zz_rf 6 (12 * p0 + p1)) 2) < 0 ∨ (S0 (zz_rf 6 (12 * p0 + p1)) 2) ≥ S0 (zz_rf 3 p0) 1))) → ((1 = 1 ∧ 0 ≤ p1 ∧ p1 < S0 (zz_rf 3 p0) 1) ∨ (1 = 0 ∧ (p1 < 0 ∨ p1 ≥ S0 (zz_rf 3 p0) 1))) → (S 1076 3 = 12 * p0 + p1) → (S 1076 4 = 12 * p0 + (S0 (zz_rf 6 (12 * p0 + p1)) 1)) → (S 1076 5 = 12 * p0 + (S0 (zz_rf 6 (12 * p0 + p1)) 2)) → (S0 1076 1 ≤ S 1076 1) → (S 1076 1 ≤ S0 1076 1 ∨ S 1076 1 ≤ 3250) → (0 ≤ S 1076 7 ∧ S 1076 7 ≤ 80) → (51539607552 + (S0 (zz_rf 6 (12 * p0 + p1)) 12 - S 1076 7).toNat) * 1208925819614629174706176 + 1208925819614629174706175 < N → zz_E g l zy_makeLayer_3_3 zr_makeLayer_3_3 (zz_QV n (zp_makeLayer_3_3 p0 p1 S0)) S n 178 [some (.ref 1076), none, none, none, some (zi x4), some (zi x5), some (zi x6)] [] 0 0) ∧ (∀ (x4 : Int) (x5 : Int) (x6 : Int) (S : zz_S), zz_G S → zz_fr [(1076, 1), (1076, 3), (1076, 4), (1076, 5), (1076, 6), (1076, 7), (1076, 8), (1076, 9), (1076, 10), (1076, 11), (1076, 12), (1076, 13), (1076, 14), (1076, 15), (1076, 16)] [1029, 1030] (fun _ _ => False) S0 S → ((-2147483648) ≤ x4 ∧ x4 ≤ 2147483647) → ((-2147483648) ≤ x5 ∧ x5 ≤ 2147483647) → (16 ≤ x6 ∧ x6 ≤ 63) → ((1 = 1 ∧ 0 ≤ (S0 (zz_rf 6 (12 * p0 + p1)) 1) ∧ (S0 (zz_rf 6 (12 * p0 + p1)) 1) < S0 (zz_rf 3 p0) 1) ∨ (1 = 0 ∧ ((S0 (zz_rf 6 (12 * p0 + p1)) 1) < 0 ∨ (S0 (zz_rf 6 (12 * p0 + p1)) 1) ≥ S0 (zz_rf 3 p0) 1))) → ((1 = 1 ∧ 0 ≤ (S0 (zz_rf 6 (12 * p0 + p1)) 2) ∧ (S0 (zz_rf 6 (12 * p0 + p1)) 2) < S0 (zz_rf 3 p0) 1) ∨ (1 = 0 ∧ ((S0 (zz_rf 6 (12 * p0 + p1)) 2) < 0 ∨ (S0 (zz_rf 6 (12 * p0 + p1)) 2) ≥ S0 (zz_rf 3 p0) 1))) → ((1 = 1 ∧ 0 ≤ p1 ∧ p1 < S0 (zz_rf 3 p0) 1) ∨ (1 = 0 ∧ (p1 < 0 ∨ p1 ≥ S0 (zz_rf 3 p0) 1))) → (S0 (zz_rf 6 (12 * p0 + p1)) 0 ≠ 3) → (S 1076 3 = 12 * p0 + p1) → (S 1076 4 = 12 * p0 + (S0 (zz_rf 6 (12 * p0 + p1)) 1)) → (S 1076 5 = 12 * p0 + (S0 (zz_rf 6 (12 * p0 + p1)) 2)) → (S0 1076 1 ≤ S 1076 1) → (S 1076 1 ≤ S0 1076 1 ∨ S 1076 1 ≤ 3250) → (0 ≤ S 1076 7 ∧ S 1076 7 ≤ 62) → (S 1076 7 < S0 (zz_rf 6 (12 * p0 + p1)) 12) → (0 ≤ S 1076 9) → (51539607552 + (S0 (zz_rf 6 (12 * p0 + p1)) 12 - S 1076 7).toNat) * 1208925819614629174706176 + (34359738368 + (x4 - S 1076 9).toNat) * 1099511627776 + 1099511627775 < N → zz_E g l zy_makeLayer_3_3 zr_makeLayer_3_3 (zz_QV n (zp_makeLayer_3_3 p0 p1 S0)) S n 220 [some (.ref 1076), none, none, none, some (zi x4), some (zi x5), some (zi x6)] [] 0 0) ∧ (∀ (x4 : Int) (x5 : Int) (x6 : Int) (S : zz_S), zz_G S → zz_fr [(1076, 1), (1076, 3), (1076, 4), (1076, 5), (1076, 6), (1076, 7), (1076, 8), (1076, 9), (1076, 10), (1076, 11), (1076, 12), (1076, 13), (1076, 14), (1076, 15), (1076, 16)] [1029, 1030] (fun _ _ => False) S0 S → ((-2147483647) ≤ x4 ∧ x4 ≤ 2147483647) → ((-2147483648) ≤ x5 ∧ x5 ≤ 2147483647) → (16 ≤ x6 ∧ x6 ≤ 63) → ((1 = 1 ∧ 0 ≤ (S0 (zz_rf 6 (12 * p0 + p1)) 1) ∧ (S0 (zz_rf 6 (12 * p0 + p1)) 1) < S0 (zz_rf 3 p0) 1) ∨ (1 = 0 ∧ ((S0 (zz_rf 6 (12 * p0 + p1)) 1) < 0 ∨ (S0 (zz_rf 6 (12 * p0 + p1)) 1) ≥ S0 (zz_rf 3 p0) 1))) → ((1 = 1 ∧ 0 ≤ (S0 (zz_rf 6 (12 * p0 + p1)) 2) ∧ (S0 (zz_rf 6 (12 * p0 + p1)) 2) < S0 (zz_rf 3 p0) 1) ∨ (1 = 0 ∧ ((S0 (zz_rf 6 (12 * p0 + p1)) 2) < 0 ∨ (S0 (zz_rf 6 (12 * p0 + p1)) 2) ≥ S0 (zz_rf 3 p0) 1))) → ((1 = 1 ∧ 0 ≤ p1 ∧ p1 < S0 (zz_rf 3 p0) 1) ∨ (1 = 0 ∧ (p1 < 0 ∨ p1 ≥ S0 (zz_rf 3 p0) 1))) → (S0 (zz_rf 6 (12 * p0 + p1)) 0 ≠ 3) → (S 1076 3 = 12 * p0 + p1) → (S 1076 4 = 12 * p0 + (S0 (zz_rf 6 (12 * p0 + p1)) 1)) → (S 1076 5 = 12 * p0 + (S0 (zz_rf 6 (12 * p0 + p1)) 2)) → (S0 1076 1 ≤ S 1076 1) → (S 1076 1 ≤ S0 1076 1 ∨ S 1076 1 ≤ 3250) → (0 ≤ S 1076 7 ∧ S 1076 7 ≤ 62) → (S 1076 7 < S0 (zz_rf 6 (12 * p0 + p1)) 12) → (0 ≤ S 1076 9) → (S 1076 9 < x4) → (51539607552 + (S0 (zz_rf 6 (12 * p0 + p1)) 12 - S 1076 7).toNat) * 1208925819614629174706176 + (34359738368 + (x4 - S 1076 9).toNat) * 1099511627776 + (17179869184 + (5000 - S 1076 1).toNat) < N → zz_E g l zy_makeLayer_3_3 zr_makeLayer_3_3 (zz_QV n (zp_makeLayer_3_3 p0 p1 S0)) S n 234 [some (.ref 1076), none, none, none, some (zi x4), some (zi x5), some (zi x6)] [] 0 0) := by
  intro N
  induction N with
  | zero => exact ⟨fun x4 x5 x6 S _ _ _ _ _ _ _ _ _ _ _ _ _ _ h => absurd h (Nat.not_lt_zero _), fun x4 x5 x6 S _ _ _ _ _ _ _ _ _ _ _ _ _ _ _ _ _ h => absurd h (Nat.not_lt_zero _), fun x4 x5 x6 S _ _ _ _ _ _ _ _ _ _ _ _ _ _ _ _ _ _ h => absurd h (Nat.not_lt_zero _)⟩
  | succ N ih =>
    exact ⟨fun x4 x5 x6 S a b j0 j1 j2 j3 j4 j5 j6 j7 j8 j9 j10 j11 hR => zb_makeLayer_3_3_178 p0 p1 S0 n hn G_S0 hp0 hp1 H_S0 hq x4 x5 x6 S a b j0 j1 j2 j3 j4 j5 j6 j7 j8 j9 j10 j11 _ rfl (fun x4 x5 x6 S a b j0 j1 j2 j3 j4 j5 j6 j7 j8 j9 j10 j11 j12 j13 j14 h => ih.2.1 x4 x5 x6 S a b j0 j1 j2 j3 j4 j5 j6 j7 j8 j9 j10 j11 j12 j13 j14 (Nat.lt_of_lt_of_le h (Nat.le_of_lt_succ hR))),
      fun x4 x5 x6 S a b j0 j1 j2 j3 j4 j5 j6 j7 j8 j9 j10 j11 j12 j13 j14 hR => zb_makeLayer_3_3_220 p0 p1 S0 n hn G_S0 hp0 hp1 H_S0 hq x4 x5 x6 S a b j0 j1 j2 j3 j4 j5 j6 j7 j8 j9 j10 j11 j12 j13 j14 _ rfl (fun x4 x5 x6 S a b j0 j1 j2 j3 j4 j5 j6 j7 j8 j9 j10 j11 h => ih.1 x4 x5 x6 S a b j0 j1 j2 j3 j4 j5 j6 j7 j8 j9 j10 j11 (Nat.lt_of_lt_of_le h (Nat.le_of_lt_succ hR))) (fun x4 x5 x6 S a b j0 j1 j2 j3 j4 j5 j6 j7 j8 j9 j10 j11 j12 j13 j14 j15 h => ih.2.2 x4 x5 x6 S a b j0 j1 j2 j3 j4 j5 j6 j7 j8 j9 j10 j11 j12 j13 j14 j15 (Nat.lt_of_lt_of_le h (Nat.le_of_lt_succ hR))),
      fun x4 x5 x6 S a b j0 j1 j2 j3 j4 j5 j6 j7 j8 j9 j10 j11 j12 j13 j14 j15 hR => zb_makeLayer_3_3_234 p0 p1 S0 n hn G_S0 hp0 hp1 H_S0 hq x4 x5 x6 S a b j0 j1 j2 j3 j4 j5 j6 j7 j8 j9 j10 j11 j12 j13 j14 j15 _ rfl (fun x4 x5 x6 S a b j0 j1 j2 j3 j4 j5 j6 j7 j8 j9 j10 j11 j12 j13 j14 h => ih.2.1 x4 x5 x6 S a b j0 j1 j2 j3 j4 j5 j6 j7 j8 j9 j10 j11 j12 j13 j14 (Nat.lt_of_lt_of_le h (Nat.le_of_lt_succ hR))) (fun x4 x5 x6 S a b j0 j1 j2 j3 j4 j5 j6 j7 j8 j9 j10 j11 j12 j13 j14 j15 h => ih.2.2 x4 x5 x6 S a b j0 j1 j2 j3 j4 j5 j6 j7 j8 j9 j10 j11 j12 j13 j14 j15 (Nat.lt_of_lt_of_le h (Nat.le_of_lt_succ hR)))⟩
theorem zc_makeLayer_3_3 {g : mm_G} {l : Launch} (p0 : Int) (p1 : Int) (S0 : zz_S) (n : Nat) (hn : zz_end ≤ n) (G_S0 : zz_G S0) (hp0 : 0 ≤ p0 ∧ p0 ≤ 1) (hp1 : (-2147483648) ≤ p1 ∧ p1 ≤ 2147483647) (H_S0 : zz_Hc S0) (hq : S0 1076 1 ≤ 4000) : mm_Met g l zy_makeLayer_3_3 zr_makeLayer_3_3 [.ref 1076, .ref (zz_rf 3 p0), zi p1] (zz_M S0 n) n (zz_QV n (zp_makeLayer_3_3 p0 p1 S0)) := by
  refine zz_enter (by decide) (Nat.le_of_ble_eq_true rfl) (zz_less (ls1 := [some (.ref 1076), some (.ref (zz_rf 3 p0)), some (zi p1)]) ⟨rfl, ⟨rfl, ⟨rfl, trivial⟩⟩⟩ ?_)
  have F_S0 : zz_fr [(1076, 1), (1076, 3), (1076, 4), (1076, 5), (1076, 6), (1076, 7), (1076, 8), (1076, 9), (1076, 10), (1076, 11), (1076, 12), (1076, 13), (1076, 14), (1076, 15), (1076, 16)] [1029, 1030] (fun _ _ => False) S0 S0 := zz_fr.refl
  have k178 : ∀ (x4 : Int) (x5 : Int) (x6 : Int) (S : zz_S), zz_G S → zz_fr [(1076, 1), (1076, 3), (1076, 4), (1076, 5), (1076, 6), (1076, 7), (1076, 8), (1076, 9), (1076, 10), (1076, 11), (1076, 12), (1076, 13), (1076, 14), (1076, 15), (1076, 16)] [1029, 1030] (fun _ _ => False) S0 S → ((-2147483648) ≤ x4 ∧ x4 ≤ 2147483647) → ((-2147483648) ≤ x5 ∧ x5 ≤ 2147483647) → (16 ≤ x6 ∧ x6 ≤ 63) → ((1 = 1 ∧ 0 ≤ (S0 (zz_rf 6 (12 * p0 + p1)) 1) ∧ (S0 (zz_rf 6 (12 * p0 + p1)) 1) < S0 (zz_rf 3 p0) 1) ∨ (1 = 0 ∧ ((S0 (zz_rf 6 (12 * p0 + p1)) 1) < 0 ∨ (S0 (zz_rf 6 (12 * p0 + p1)) 1) ≥ S0 (zz_rf 3 p0) 1))) → ((1 = 1 ∧ 0 ≤ (S0 (zz_rf 6 (12 * p0 + p1)) 2) ∧ (S0 (zz_rf 6 (12 * p0 + p1)) 2) < S0 (zz_rf 3 p0) 1) ∨ (1 = 0 ∧ ((S0 (zz_rf 6 (12 * p0 + p1)) 2) < 0 ∨ (S0 (zz_rf 6 (12 * p0 + p1)) 2) ≥ S0 (zz_rf 3 p0) 1))) → ((1 = 1 ∧ 0 ≤ p1 ∧ p1 < S0 (zz_rf 3 p0) 1) ∨ (1 = 0 ∧ (p1 < 0 ∨ p1 ≥ S0 (zz_rf 3 p0) 1))) → (S 1076 3 = 12 * p0 + p1) → (S 1076 4 = 12 * p0 + (S0 (zz_rf 6 (12 * p0 + p1)) 1)) → (S 1076 5 = 12 * p0 + (S0 (zz_rf 6 (12 * p0 + p1)) 2)) → (S0 1076 1 ≤ S 1076 1) → (S 1076 1 ≤ S0 1076 1 ∨ S 1076 1 ≤ 3250) → (0 ≤ S 1076 7 ∧ S 1076 7 ≤ 80) → zz_E g l zy_makeLayer_3_3 zr_makeLayer_3_3 (zz_QV n (zp_makeLayer_3_3 p0 p1 S0)) S n 178 [some (.ref 1076), none, none, none, some (zi x4), some (zi x5), some (zi x6)] [] 0 0 := fun x4 x5 x6 S a b j0 j1 j2 j3 j4 j5 j6 j7 j8 j9 j10 j11 => (zi_makeLayer_3_3 (g := g) (l := l) p0 p1 S0 n hn G_S0 hp0 hp1 H_S0 hq _).1 x4 x5 x6 S a b j0 j1 j2 j3 j4 j5 j6 j7 j8 j9 j10 j11 (Nat.lt_succ_self _)
  have b_p0 := zz_rf3 (z := p0) (by omega)
  refine zz_aload_n (x := zz_rf 3 p0) rfl zd_3_3_0 ?_
  refine zz_iload_n (x := p1) rfl zd_3_3_1 ?_
  refine zz_callVI [zi p1] zd_3_3_2 zk_Compiler_33 (zT_k3 (by omega)) (zN_k3 hn (by omega)) rfl rfl ⟨Nat.le_of_ble_eq_true rfl, Nat.le_of_ble_eq_true rfl⟩ ⟨rfl, rfl⟩ (Nat.zero_le _) (Nat.zero_le _) (zc_has_7_5 p0 p1 S0 n hn G_S0 (by omega) (by omega)) (fun v2 S1 hP => ?_)
  obtain ⟨rfl, o3, o4⟩ := hP
  rcases (by omega : v2 = 0 ∨ v2 = 1) with rfl | rfl
  · refine zz_if_eq (by omega) zd_3_3_5 (fun c5 => ?_) (fun c5 => ?_)
    · have g6 := zz_G.r G_S0 1076 1 0 1000000 rfl rfl
      exact zz_vret zd_3_3_40 rfl (Nat.zero_le _) (Nat.zero_le _) ⟨_, rfl, G_S0, F_S0, by omega⟩
    · exfalso; omega
  · refine zz_if_eq (by omega) zd_3_3_5 (fun c7 => ?_) (fun c7 => ?_)
    · exfalso; omega
    · refine zz_aload_n (x := zz_rf 3 p0) rfl zd_3_3_8 ?_
      refine zz_aload_n (x := zz_rf 3 p0) rfl zd_3_3_9 ?_
      refine zz_getr (kd := 0) (z := ((zz_rf 3 p0 + 1 : Nat) : Int)) zd_3_3_10 zf_Compiler_39 (zT_k3 (by omega)) rfl (zN_k3 hn (by omega)) (zE_k3a G_S0 (by omega)) (Int.natCast_nonneg _) (zz_rf 3 p0 + 1) (Int.toNat_natCast _) ?_
      refine zz_iload_n (x := p1) rfl zd_3_3_13 ?_
      refine zz_aald (kd := 4) (z := 12 * p0 + p1) zd_3_3_14 (zT_k3a (by omega)) rfl (zN_k3a hn (by omega)) (by decide) (by omega) (zE_lay G_S0 (by omega) (by omega)) (by omega) (zz_rf 6 (12 * p0 + p1)) rfl ?_
      have g8 := zz_G.r G_S0 (zz_rf 6 (12 * p0 + p1)) 1 (-2147483648) 2147483647 (zR_k6_1 (by omega)) (zB_k6 (by omega))
      refine zz_geti (z := S0 (zz_rf 6 (12 * p0 + p1)) 1) zd_3_3_15 zf_Compiler_43 (zT_k6 (by omega)) rfl (zN_k6 hn (by omega)) rfl ?_
      refine zz_callVI [zi (S0 (zz_rf 6 (12 * p0 + p1)) 1)] zd_3_3_18 zk_Compiler_33 (zT_k3 (by omega)) (zN_k3 hn (by omega)) rfl rfl ⟨Nat.le_of_ble_eq_true rfl, Nat.le_of_ble_eq_true rfl⟩ ⟨rfl, rfl⟩ (Nat.zero_le _) (Nat.zero_le _) (zc_has_7_5 p0 (S0 (zz_rf 6 (12 * p0 + p1)) 1) S0 n hn G_S0 (by omega) (by omega)) (fun v10 S9 hP => ?_)
      obtain ⟨rfl, o11, o12⟩ := hP
      rcases (by omega : v10 = 0 ∨ v10 = 1) with rfl | rfl
      · refine zz_if_eq (by omega) zd_3_3_21 (fun c13 => ?_) (fun c13 => ?_)
        · have g14 := zz_G.r G_S0 1076 1 0 1000000 rfl rfl
          exact zz_vret zd_3_3_40 rfl (Nat.zero_le _) (Nat.zero_le _) ⟨_, rfl, G_S0, F_S0, by omega⟩
        · exfalso; omega
      · refine zz_if_eq (by omega) zd_3_3_21 (fun c15 => ?_) (fun c15 => ?_)
        · exfalso; omega
        · refine zz_aload_n (x := zz_rf 3 p0) rfl zd_3_3_24 ?_
          refine zz_aload_n (x := zz_rf 3 p0) rfl zd_3_3_25 ?_
          refine zz_getr (kd := 0) (z := ((zz_rf 3 p0 + 1 : Nat) : Int)) zd_3_3_26 zf_Compiler_39 (zT_k3 (by omega)) rfl (zN_k3 hn (by omega)) (zE_k3a G_S0 (by omega)) (Int.natCast_nonneg _) (zz_rf 3 p0 + 1) (Int.toNat_natCast _) ?_
          refine zz_iload_n (x := p1) rfl zd_3_3_29 ?_
          refine zz_aald (kd := 4) (z := 12 * p0 + p1) zd_3_3_30 (zT_k3a (by omega)) rfl (zN_k3a hn (by omega)) (by decide) (by omega) (zE_lay G_S0 (by omega) (by omega)) (by omega) (zz_rf 6 (12 * p0 + p1)) rfl ?_
          have g16 := zz_G.r G_S0 (zz_rf 6 (12 * p0 + p1)) 2 (-2147483648) 2147483647 (zR_k6_2 (by omega)) (zB_k6 (by omega))
          refine zz_geti (z := S0 (zz_rf 6 (12 * p0 + p1)) 2) zd_3_3_31 zf_Compiler_48 (zT_k6 (by omega)) rfl (zN_k6 hn (by omega)) rfl ?_
          refine zz_callVI [zi (S0 (zz_rf 6 (12 * p0 + p1)) 2)] zd_3_3_34 zk_Compiler_33 (zT_k3 (by omega)) (zN_k3 hn (by omega)) rfl rfl ⟨Nat.le_of_ble_eq_true rfl, Nat.le_of_ble_eq_true rfl⟩ ⟨rfl, rfl⟩ (Nat.zero_le _) (Nat.zero_le _) (zc_has_7_5 p0 (S0 (zz_rf 6 (12 * p0 + p1)) 2) S0 n hn G_S0 (by omega) (by omega)) (fun v18 S17 hP => ?_)
          obtain ⟨rfl, o19, o20⟩ := hP
          rcases (by omega : v18 = 0 ∨ v18 = 1) with rfl | rfl
          · refine zz_if_ne (by omega) zd_3_3_37 (fun c21 => ?_) (fun c21 => ?_)
            · exfalso; omega
            · have g22 := zz_G.r G_S0 1076 1 0 1000000 rfl rfl
              exact zz_vret zd_3_3_40 rfl (Nat.zero_le _) (Nat.zero_le _) ⟨_, rfl, G_S0, F_S0, by omega⟩
          · refine zz_if_ne (by omega) zd_3_3_37 (fun c23 => ?_) (fun c23 => ?_)
            · refine zz_aload_n (x := 1076) rfl zd_3_3_41 ?_
              refine zz_aload_n (x := zz_rf 3 p0) rfl zd_3_3_42 ?_
              refine zz_getr (kd := 0) (z := ((zz_rf 3 p0 + 1 : Nat) : Int)) zd_3_3_43 zf_Compiler_39 (zT_k3 (by omega)) rfl (zN_k3 hn (by omega)) (zE_k3a G_S0 (by omega)) (Int.natCast_nonneg _) (zz_rf 3 p0 + 1) (Int.toNat_natCast _) ?_
              refine zz_iload_n (x := p1) rfl zd_3_3_46 ?_
              refine zz_aald (kd := 4) (z := 12 * p0 + p1) zd_3_3_47 (zT_k3a (by omega)) rfl (zN_k3a hn (by omega)) (by decide) (by omega) (zE_lay G_S0 (by omega) (by omega)) (by omega) (zz_rf 6 (12 * p0 + p1)) rfl ?_
              refine zz_putr (kd := 4) (12 * p0 + p1) zd_3_3_48 zf_Compiler_51 zT_1076 rfl (zz_ltn hn rfl) (by omega) rfl (fun _ => rfl) (fun _ => rfl) (fun S24 qS24 => ?_)
              have G_S24 := zz_G.put G_S0 qS24 (-1) 23 rfl (by omega)
              have F_S24 := zz_fr.puts F_S0 qS24 rfl
              refine zz_aload_n (x := 1076) rfl zd_3_3_51 ?_
              refine zz_aload_n (x := zz_rf 3 p0) rfl zd_3_3_52 ?_
              refine zz_getr (kd := 0) (z := ((zz_rf 3 p0 + 1 : Nat) : Int)) zd_3_3_53 zf_Compiler_39 (zT_k3 (by omega)) rfl (zN_k3 hn (by omega)) (zE_k3a G_S24 (by omega)) (Int.natCast_nonneg _) (zz_rf 3 p0 + 1) (Int.toNat_natCast _) ?_
              refine zz_aload_n (x := 1076) rfl zd_3_3_56 ?_
              refine zz_getr (kd := 4) (z := 12 * p0 + p1) zd_3_3_57 zf_Compiler_51 zT_1076 rfl (zz_ltn hn rfl) (zz_rs qS24) (by omega) (zz_rf 6 (12 * p0 + p1)) rfl ?_
              refine zz_geti (z := S0 (zz_rf 6 (12 * p0 + p1)) 1) zd_3_3_60 zf_Compiler_43 (zT_k6 (by omega)) rfl (zN_k6 hn (by omega)) (zz_ro qS24 (fun h => absurd h.2 (by decide)) rfl) ?_
              refine zz_aald (kd := 4) (z := 12 * p0 + (S0 (zz_rf 6 (12 * p0 + p1)) 1)) zd_3_3_63 (zT_k3a (by omega)) rfl (zN_k3a hn (by omega)) (by decide) (by omega) (zE_lay G_S24 (by omega) (by omega)) (by omega) (zz_rf 6 (12 * p0 + (S0 (zz_rf 6 (12 * p0 + p1)) 1))) rfl ?_
              refine zz_putr (kd := 4) (12 * p0 + (S0 (zz_rf 6 (12 * p0 + p1)) 1)) zd_3_3_64 zf_Compiler_55 zT_1076 rfl (zz_ltn hn rfl) (by omega) rfl (fun _ => rfl) (fun _ => rfl) (fun S25 qS25 => ?_)
              have G_S25 := zz_G.put G_S24 qS25 (-1) 23 rfl (by omega)
              have F_S25 := zz_fr.puts F_S24 qS25 rfl
              refine zz_aload_n (x := 1076) rfl zd_3_3_67 ?_
              refine zz_aload_n (x := zz_rf 3 p0) rfl zd_3_3_68 ?_
              refine zz_getr (kd := 0) (z := ((zz_rf 3 p0 + 1 : Nat) : Int)) zd_3_3_69 zf_Compiler_39 (zT_k3 (by omega)) rfl (zN_k3 hn (by omega)) (zE_k3a G_S25 (by omega)) (Int.natCast_nonneg _) (zz_rf 3 p0 + 1) (Int.toNat_natCast _) ?_
              refine zz_aload_n (x := 1076) rfl zd_3_3_72 ?_
              refine zz_getr (kd := 4) (z := 12 * p0 + p1) zd_3_3_73 zf_Compiler_51 zT_1076 rfl (zz_ltn hn rfl) (zz_ro qS25 (fun h => absurd h.2 (by decide)) (zz_rs qS24)) (by omega) (zz_rf 6 (12 * p0 + p1)) rfl ?_
              refine zz_geti (z := S0 (zz_rf 6 (12 * p0 + p1)) 2) zd_3_3_76 zf_Compiler_48 (zT_k6 (by omega)) rfl (zN_k6 hn (by omega)) (zz_ro qS25 (fun h => absurd h.2 (by decide)) (zz_ro qS24 (fun h => absurd h.2 (by decide)) rfl)) ?_
              refine zz_aald (kd := 4) (z := 12 * p0 + (S0 (zz_rf 6 (12 * p0 + p1)) 2)) zd_3_3_79 (zT_k3a (by omega)) rfl (zN_k3a hn (by omega)) (by decide) (by omega) (zE_lay G_S25 (by omega) (by omega)) (by omega) (zz_rf 6 (12 * p0 + (S0 (zz_rf 6 (12 * p0 + p1)) 2))) rfl ?_
              refine zz_putr (kd := 4) (12 * p0 + (S0 (zz_rf 6 (12 * p0 + p1)) 2)) zd_3_3_80 zf_Compiler_58 zT_1076 rfl (zz_ltn hn rfl) (by omega) rfl (fun _ => rfl) (fun _ => rfl) (fun S26 qS26 => ?_)
              have G_S26 := zz_G.put G_S25 qS26 (-1) 23 rfl (by omega)
              have F_S26 := zz_fr.puts F_S25 qS26 rfl
              refine zz_aload_n (x := 1076) rfl zd_3_3_83 ?_
              refine zz_getr (kd := 4) (z := 12 * p0 + p1) zd_3_3_84 zf_Compiler_51 zT_1076 rfl (zz_ltn hn rfl) (zz_ro qS26 (fun h => absurd h.2 (by decide)) (zz_ro qS25 (fun h => absurd h.2 (by decide)) (zz_rs qS24))) (by omega) (zz_rf 6 (12 * p0 + p1)) rfl ?_
              have g27 := zz_G.r G_S0 (zz_rf 6 (12 * p0 + p1)) 0 (-2147483648) 2147483647 (zR_k6_0 (by omega)) (zB_k6 (by omega))
              refine zz_geti (z := S0 (zz_rf 6 (12 * p0 + p1)) 0) zd_3_3_87 zf_Compiler_61 (zT_k6 (by omega)) rfl (zN_k6 hn (by omega)) (zz_ro qS26 (fun h => absurd h.2 (by decide)) (zz_ro qS25 (fun h => absurd h.2 (by decide)) (zz_ro qS24 (fun h => absurd h.2 (by decide)) rfl))) ?_
              refine zz_iconst zd_3_3_90 ?_
              refine zz_icmp_ne (by omega) (by omega) zd_3_3_91 (fun c28 => ?_) (fun c28 => ?_)
              · refine zz_iconst zd_3_3_98 ?_
                refine zz_istore_n [some (.ref 1076), some (.ref (zz_rf 3 p0)), some (zi p1), some (zi 0)] zd_3_3_99 (by decide) rfl ?_
                refine zz_iload_n (x := 0) rfl zd_3_3_100 ?_
                refine zz_if_eq (by omega) zd_3_3_101 (fun c29 => ?_) (fun c29 => ?_)
                · refine zz_aload_n (x := 1076) rfl zd_3_3_108 ?_
                  refine zz_getr (kd := 4) (z := 12 * p0 + p1) zd_3_3_109 zf_Compiler_51 zT_1076 rfl (zz_ltn hn rfl) (zz_ro qS26 (fun h => absurd h.2 (by decide)) (zz_ro qS25 (fun h => absurd h.2 (by decide)) (zz_rs qS24))) (by omega) (zz_rf 6 (12 * p0 + p1)) rfl ?_
                  have g30 := zz_G.r G_S0 (zz_rf 6 (12 * p0 + p1)) 10 (-2147483648) 2147483647 (zR_k6_10 (by omega)) (zB_k6 (by omega))
                  refine zz_geti (z := S0 (zz_rf 6 (12 * p0 + p1)) 10) zd_3_3_112 zf_Compiler_64 (zT_k6 (by omega)) rfl (zN_k6 hn (by omega)) (zz_ro qS26 (fun h => absurd h.2 (by decide)) (zz_ro qS25 (fun h => absurd h.2 (by decide)) (zz_ro qS24 (fun h => absurd h.2 (by decide)) rfl))) ?_
                  refine zz_istore [some (.ref 1076), some (.ref (zz_rf 3 p0)), some (zi p1), some (zi 0), some (zi (S0 (zz_rf 6 (12 * p0 + p1)) 10))] zd_3_3_115 (by decide) rfl ?_
                  refine zz_iload_n (x := 0) rfl zd_3_3_117 ?_
                  refine zz_if_eq (by omega) zd_3_3_118 (fun c31 => ?_) (fun c31 => ?_)
                  · refine zz_aload_n (x := 1076) rfl zd_3_3_139 ?_
                    refine zz_getr (kd := 4) (z := 12 * p0 + p1) zd_3_3_140 zf_Compiler_51 zT_1076 rfl (zz_ltn hn rfl) (zz_ro qS26 (fun h => absurd h.2 (by decide)) (zz_ro qS25 (fun h => absurd h.2 (by decide)) (zz_rs qS24))) (by omega) (zz_rf 6 (12 * p0 + p1)) rfl ?_
                    have g32 := zz_G.r G_S0 (zz_rf 6 (12 * p0 + p1)) 11 (-2147483648) 2147483647 (zR_k6_11 (by omega)) (zB_k6 (by omega))
                    refine zz_geti (z := S0 (zz_rf 6 (12 * p0 + p1)) 11) zd_3_3_143 zf_Compiler_67 (zT_k6 (by omega)) rfl (zN_k6 hn (by omega)) (zz_ro qS26 (fun h => absurd h.2 (by decide)) (zz_ro qS25 (fun h => absurd h.2 (by decide)) (zz_ro qS24 (fun h => absurd h.2 (by decide)) rfl))) ?_
                    refine zz_istore [some (.ref 1076), some (.ref (zz_rf 3 p0)), some (zi p1), some (zi 0), some (zi (S0 (zz_rf 6 (12 * p0 + p1)) 10)), some (zi (S0 (zz_rf 6 (12 * p0 + p1)) 11))] zd_3_3_146 (by decide) rfl ?_
                    refine zz_sipush (by decide) zd_3_3_148 ?_
                    refine zz_aload_n (x := 1076) rfl zd_3_3_151 ?_
                    have g33 := zz_G.r G_S0 1076 2 2 8 rfl rfl
                    refine zz_geti (z := S0 1076 2) zd_3_3_152 zf_Compiler_21 zT_1076 rfl (zz_ltn hn rfl) (zz_ro qS26 (fun h => absurd h.2 (by decide)) (zz_ro qS25 (fun h => absurd h.2 (by decide)) (zz_ro qS24 (fun h => absurd h.2 (by decide)) rfl))) ?_
                    refine zz_idiv (by omega) (by omega) zd_3_3_155 (fun v34 hv34 av34 bv34 cv34 => ?_)
                    have m35 := zz_divb (by omega) (by omega) av34
                    refine zz_bipush (by decide) zd_3_3_156 ?_
                    refine zz_mmin (by omega) (by omega) zd_3_3_158 zm_Compiler_24 ⟨Nat.le_of_ble_eq_true rfl, Nat.le_of_ble_eq_true rfl⟩ (Nat.zero_le _) (Nat.zero_le _) (fun v36 hv36 => ?_)
                    refine zz_istore [some (.ref 1076), some (.ref (zz_rf 3 p0)), some (zi p1), some (zi 0), some (zi (S0 (zz_rf 6 (12 * p0 + p1)) 10)), some (zi (S0 (zz_rf 6 (12 * p0 + p1)) 11)), some (zi v36)] zd_3_3_161 (by decide) rfl ?_
                    refine zz_aload_n (x := 1076) rfl zd_3_3_163 ?_
                    refine zz_iconst zd_3_3_164 ?_
                    refine zz_puti zd_3_3_165 zf_Compiler_70 zT_1076 rfl (zz_ltn hn rfl) (fun S37 qS37 => ?_)
                    have G_S37 := zz_G.put G_S26 qS37 (-2147483648) 2147483647 rfl (by omega)
                    have F_S37 := zz_fr.puts F_S26 qS37 rfl
                    refine zz_aload_n (x := 1076) rfl zd_3_3_168 ?_
                    refine zz_iconst zd_3_3_169 ?_
                    refine zz_puti zd_3_3_170 zf_Compiler_73 zT_1076 rfl (zz_ltn hn rfl) (fun S38 qS38 => ?_)
                    have G_S38 := zz_G.put G_S37 qS38 (-2147483648) 2147483647 rfl (by omega)
                    have F_S38 := zz_fr.puts F_S37 qS38 rfl
                    refine zz_aload_n (x := 1076) rfl zd_3_3_173 ?_
                    refine zz_iconst zd_3_3_174 ?_
                    refine zz_puti zd_3_3_175 zf_Compiler_76 zT_1076 rfl (zz_ltn hn rfl) (fun S39 qS39 => ?_)
                    have G_S39 := zz_G.put G_S38 qS39 (-2147483648) 2147483647 rfl (by omega)
                    have F_S39 := zz_fr.puts F_S38 qS39 rfl
                    have e40 : S39 1076 3 = 12 * p0 + p1 := (zz_ro qS39 (fun h => absurd h.2 (by decide)) (zz_ro qS38 (fun h => absurd h.2 (by decide)) (zz_ro qS37 (fun h => absurd h.2 (by decide)) (zz_ro qS26 (fun h => absurd h.2 (by decide)) (zz_ro qS25 (fun h => absurd h.2 (by decide)) (zz_rs qS24))))))
                    have e41 : S39 1076 4 = 12 * p0 + (S0 (zz_rf 6 (12 * p0 + p1)) 1) := (zz_ro qS39 (fun h => absurd h.2 (by decide)) (zz_ro qS38 (fun h => absurd h.2 (by decide)) (zz_ro qS37 (fun h => absurd h.2 (by decide)) (zz_ro qS26 (fun h => absurd h.2 (by decide)) (zz_rs qS25)))))
                    have e42 : S39 1076 5 = 12 * p0 + (S0 (zz_rf 6 (12 * p0 + p1)) 2) := (zz_ro qS39 (fun h => absurd h.2 (by decide)) (zz_ro qS38 (fun h => absurd h.2 (by decide)) (zz_ro qS37 (fun h => absurd h.2 (by decide)) (zz_rs qS26))))
                    have g43 := zz_G.r G_S0 1076 1 0 1000000 rfl rfl
                    have e44 : S39 1076 1 = S0 1076 1 := (zz_ro qS39 (fun h => absurd h.2 (by decide)) (zz_ro qS38 (fun h => absurd h.2 (by decide)) (zz_ro qS37 (fun h => absurd h.2 (by decide)) (zz_ro qS26 (fun h => absurd h.2 (by decide)) (zz_ro qS25 (fun h => absurd h.2 (by decide)) (zz_ro qS24 (fun h => absurd h.2 (by decide)) rfl))))))
                    have e45 : S39 1076 7 = 0 := (zz_rs qS39)
                    refine zz_less (ls1 := [some (.ref 1076), none, none, none, some (zi (S0 (zz_rf 6 (12 * p0 + p1)) 10)), some (zi (S0 (zz_rf 6 (12 * p0 + p1)) 11)), some (zi v36)]) ⟨rfl, ⟨rfl, ⟨rfl, ⟨rfl, trivial⟩⟩⟩⟩ ?_
                    exact k178 (S0 (zz_rf 6 (12 * p0 + p1)) 10) (S0 (zz_rf 6 (12 * p0 + p1)) 11) v36 S39 G_S39 F_S39 (by omega) (by omega) (by omega) (by omega) (by omega) (by omega) (by omega) (by omega) (by omega) (by omega) (by omega) (by omega)
                  · exfalso; omega
                · exfalso; omega
              · refine zz_iconst zd_3_3_94 ?_
                refine zz_goto zd_3_3_95 ?_
                refine zz_istore_n [some (.ref 1076), some (.ref (zz_rf 3 p0)), some (zi p1), some (zi 1)] zd_3_3_99 (by decide) rfl ?_
                refine zz_iload_n (x := 1) rfl zd_3_3_100 ?_
                refine zz_if_eq (by omega) zd_3_3_101 (fun c46 => ?_) (fun c46 => ?_)
                · exfalso; omega
                · refine zz_iconst zd_3_3_104 ?_
                  refine zz_goto zd_3_3_105 ?_
                  refine zz_istore [some (.ref 1076), some (.ref (zz_rf 3 p0)), some (zi p1), some (zi 1), some (zi 1)] zd_3_3_115 (by decide) rfl ?_
                  refine zz_iload_n (x := 1) rfl zd_3_3_117 ?_
                  refine zz_if_eq (by omega) zd_3_3_118 (fun c47 => ?_) (fun c47 => ?_)
                  · exfalso; omega
                  · refine zz_aload_n (x := 1076) rfl zd_3_3_121 ?_
                    refine zz_getr (kd := 4) (z := 12 * p0 + p1) zd_3_3_122 zf_Compiler_51 zT_1076 rfl (zz_ltn hn rfl) (zz_ro qS26 (fun h => absurd h.2 (by decide)) (zz_ro qS25 (fun h => absurd h.2 (by decide)) (zz_rs qS24))) (by omega) (zz_rf 6 (12 * p0 + p1)) rfl ?_
                    have g48 := zz_G.r G_S0 (zz_rf 6 (12 * p0 + p1)) 10 (-2147483648) 2147483647 (zR_k6_10 (by omega)) (zB_k6 (by omega))
                    refine zz_geti (z := S0 (zz_rf 6 (12 * p0 + p1)) 10) zd_3_3_125 zf_Compiler_64 (zT_k6 (by omega)) rfl (zN_k6 hn (by omega)) (zz_ro qS26 (fun h => absurd h.2 (by decide)) (zz_ro qS25 (fun h => absurd h.2 (by decide)) (zz_ro qS24 (fun h => absurd h.2 (by decide)) rfl))) ?_
                    refine zz_aload_n (x := 1076) rfl zd_3_3_128 ?_
                    refine zz_getr (kd := 4) (z := 12 * p0 + p1) zd_3_3_129 zf_Compiler_51 zT_1076 rfl (zz_ltn hn rfl) (zz_ro qS26 (fun h => absurd h.2 (by decide)) (zz_ro qS25 (fun h => absurd h.2 (by decide)) (zz_rs qS24))) (by omega) (zz_rf 6 (12 * p0 + p1)) rfl ?_
                    have g49 := zz_G.r G_S0 (zz_rf 6 (12 * p0 + p1)) 11 (-2147483648) 2147483647 (zR_k6_11 (by omega)) (zB_k6 (by omega))
                    refine zz_geti (z := S0 (zz_rf 6 (12 * p0 + p1)) 11) zd_3_3_132 zf_Compiler_67 (zT_k6 (by omega)) rfl (zN_k6 hn (by omega)) (zz_ro qS26 (fun h => absurd h.2 (by decide)) (zz_ro qS25 (fun h => absurd h.2 (by decide)) (zz_ro qS24 (fun h => absurd h.2 (by decide)) rfl))) ?_
                    refine zz_imul zd_3_3_135 ?_
                    refine zz_nrm (fun v50 hv50 ev50 => ?_)
                    refine zz_goto zd_3_3_136 ?_
                    refine zz_istore [some (.ref 1076), some (.ref (zz_rf 3 p0)), some (zi p1), some (zi 1), some (zi 1), some (zi v50)] zd_3_3_146 (by decide) rfl ?_
                    refine zz_sipush (by decide) zd_3_3_148 ?_
                    refine zz_aload_n (x := 1076) rfl zd_3_3_151 ?_
                    have g51 := zz_G.r G_S0 1076 2 2 8 rfl rfl
                    refine zz_geti (z := S0 1076 2) zd_3_3_152 zf_Compiler_21 zT_1076 rfl (zz_ltn hn rfl) (zz_ro qS26 (fun h => absurd h.2 (by decide)) (zz_ro qS25 (fun h => absurd h.2 (by decide)) (zz_ro qS24 (fun h => absurd h.2 (by decide)) rfl))) ?_
                    refine zz_idiv (by omega) (by omega) zd_3_3_155 (fun v52 hv52 av52 bv52 cv52 => ?_)
                    have m53 := zz_divb (by omega) (by omega) av52
                    refine zz_bipush (by decide) zd_3_3_156 ?_
                    refine zz_mmin (by omega) (by omega) zd_3_3_158 zm_Compiler_24 ⟨Nat.le_of_ble_eq_true rfl, Nat.le_of_ble_eq_true rfl⟩ (Nat.zero_le _) (Nat.zero_le _) (fun v54 hv54 => ?_)
                    refine zz_istore [some (.ref 1076), some (.ref (zz_rf 3 p0)), some (zi p1), some (zi 1), some (zi 1), some (zi v50), some (zi v54)] zd_3_3_161 (by decide) rfl ?_
                    refine zz_aload_n (x := 1076) rfl zd_3_3_163 ?_
                    refine zz_iconst zd_3_3_164 ?_
                    refine zz_puti zd_3_3_165 zf_Compiler_70 zT_1076 rfl (zz_ltn hn rfl) (fun S55 qS55 => ?_)
                    have G_S55 := zz_G.put G_S26 qS55 (-2147483648) 2147483647 rfl (by omega)
                    have F_S55 := zz_fr.puts F_S26 qS55 rfl
                    refine zz_aload_n (x := 1076) rfl zd_3_3_168 ?_
                    refine zz_iconst zd_3_3_169 ?_
                    refine zz_puti zd_3_3_170 zf_Compiler_73 zT_1076 rfl (zz_ltn hn rfl) (fun S56 qS56 => ?_)
                    have G_S56 := zz_G.put G_S55 qS56 (-2147483648) 2147483647 rfl (by omega)
                    have F_S56 := zz_fr.puts F_S55 qS56 rfl
                    refine zz_aload_n (x := 1076) rfl zd_3_3_173 ?_
                    refine zz_iconst zd_3_3_174 ?_
                    refine zz_puti zd_3_3_175 zf_Compiler_76 zT_1076 rfl (zz_ltn hn rfl) (fun S57 qS57 => ?_)
                    have G_S57 := zz_G.put G_S56 qS57 (-2147483648) 2147483647 rfl (by omega)
                    have F_S57 := zz_fr.puts F_S56 qS57 rfl
                    have e58 : S57 1076 3 = 12 * p0 + p1 := (zz_ro qS57 (fun h => absurd h.2 (by decide)) (zz_ro qS56 (fun h => absurd h.2 (by decide)) (zz_ro qS55 (fun h => absurd h.2 (by decide)) (zz_ro qS26 (fun h => absurd h.2 (by decide)) (zz_ro qS25 (fun h => absurd h.2 (by decide)) (zz_rs qS24))))))
                    have e59 : S57 1076 4 = 12 * p0 + (S0 (zz_rf 6 (12 * p0 + p1)) 1) := (zz_ro qS57 (fun h => absurd h.2 (by decide)) (zz_ro qS56 (fun h => absurd h.2 (by decide)) (zz_ro qS55 (fun h => absurd h.2 (by decide)) (zz_ro qS26 (fun h => absurd h.2 (by decide)) (zz_rs qS25)))))
                    have e60 : S57 1076 5 = 12 * p0 + (S0 (zz_rf 6 (12 * p0 + p1)) 2) := (zz_ro qS57 (fun h => absurd h.2 (by decide)) (zz_ro qS56 (fun h => absurd h.2 (by decide)) (zz_ro qS55 (fun h => absurd h.2 (by decide)) (zz_rs qS26))))
                    have g61 := zz_G.r G_S0 1076 1 0 1000000 rfl rfl
                    have e62 : S57 1076 1 = S0 1076 1 := (zz_ro qS57 (fun h => absurd h.2 (by decide)) (zz_ro qS56 (fun h => absurd h.2 (by decide)) (zz_ro qS55 (fun h => absurd h.2 (by decide)) (zz_ro qS26 (fun h => absurd h.2 (by decide)) (zz_ro qS25 (fun h => absurd h.2 (by decide)) (zz_ro qS24 (fun h => absurd h.2 (by decide)) rfl))))))
                    have e63 : S57 1076 7 = 0 := (zz_rs qS57)
                    refine zz_less (ls1 := [some (.ref 1076), none, none, none, some (zi 1), some (zi v50), some (zi v54)]) ⟨rfl, ⟨rfl, ⟨rfl, ⟨rfl, trivial⟩⟩⟩⟩ ?_
                    exact k178 1 v50 v54 S57 G_S57 F_S57 (by omega) (by omega) (by omega) (by omega) (by omega) (by omega) (by omega) (by omega) (by omega) (by omega) (by omega) (by omega)
            · exfalso; omega
theorem zk_TF_281 : mm_Vl "TensorForge" 281 9 2 zy_makeLayer_3_3 := ⟨zyw_makeLayer_3_3, (R_Compiler, F_Compiler, 17), rfl, mm_tb_1 1411 (by decide +kernel) rfl, mm_tb_1 1412 (by decide +kernel) rfl, mm_tb_1 1413 (by decide +kernel) rfl⟩
theorem zd_1_23_43 : zz_D zy_compile_1_23 43 (.iinc 1 1) 3 46 := ⟨by decide +kernel, rfl⟩
theorem zd_1_23_46 : zz_B zy_compile_1_23 46 Instr.goto 20 49 := ⟨(-26), by decide +kernel, rfl, rfl⟩
-- TensorForge compile ()I
abbrev zr_compile_1_23 : Room := { frames := 6, cells := 1, slots := 6, locals := 104 }
def zp_compile_1_23  (S0 : zz_S) : Int → zz_S → Prop := fun r S => zz_G S ∧ zz_fr [(1000, 9), (1000, 10), (1000, 11), (1076, 0), (1076, 1), (1076, 2), (1076, 3), (1076, 4), (1076, 5), (1076, 6), (1076, 7), (1076, 8), (1076, 9), (1076, 10), (1076, 11), (1076, 12), (1076, 13), (1076, 14), (1076, 15), (1076, 16)] [1029, 1030] (fun _ _ => False) S0 S ∧ ((-2147483648) ≤ r ∧ r ≤ 2147483647) ∧ (zz_Hc S)
def zx_compile_1_23  (S0 : zz_S) : Nat → zz_S → Prop := fun i S => zz_G S ∧ zz_fr [(1000, 9), (1000, 10), (1000, 11), (1076, 0), (1076, 1), (1076, 2), (1076, 3), (1076, 4), (1076, 5), (1076, 6), (1076, 7), (1076, 8), (1076, 9), (1076, 10), (1076, 11), (1076, 12), (1076, 13), (1076, 14), (1076, 15), (1076, 16)] [1029, 1030] (fun _ _ => False) S0 S ∧ (i < 4) ∧ (i = 2) ∧ (zz_Hc S)
theorem zb_compile_1_23_20 {g : mm_G} {l : Launch}  (S0 : zz_S) (n : Nat) (hn : zz_end ≤ n) (hfl : l.flags = flags0) (G_S0 : zz_G S0) (H_S0 : zz_Hc S0) (x1 : Int) (S : zz_S) (G_S : zz_G S) (F_S : zz_fr [(1000, 9), (1000, 10), (1000, 11), (1076, 0), (1076, 1), (1076, 2), (1076, 3), (1076, 4), (1076, 5), (1076, 6), (1076, 7), (1076, 8), (1076, 9), (1076, 10), (1076, 11), (1076, 12), (1076, 13), (1076, 14), (1076, 15), (1076, 16)] [1029, 1030] (fun _ _ => False) S0 S) (i20_0 : 1 ≤ x1 ∧ x1 ≤ 11) (i20_1 : S 1076 1 ≤ 3300 + 5 * x1) (i20_2 : 0 ≤ S 1076 1) (i20_3 : zz_Hc S) (R : Nat) (hR : (2147483647 - x1).toNat = R) (k20 : ∀ (x1 : Int) (S : zz_S), zz_G S → zz_fr [(1000, 9), (1000, 10), (1000, 11), (1076, 0), (1076, 1), (1076, 2), (1076, 3), (1076, 4), (1076, 5), (1076, 6), (1076, 7), (1076, 8), (1076, 9), (1076, 10), (1076, 11), (1076, 12), (1076, 13), (1076, 14), (1076, 15), (1076, 16)] [1029, 1030] (fun _ _ => False) S0 S → (1 ≤ x1 ∧ x1 ≤ 11) → (S 1076 1 ≤ 3300 + 5 * x1) → (0 ≤ S 1076 1) → (zz_Hc S) → (2147483647 - x1).toNat < R → zz_E g l zy_compile_1_23 zr_compile_1_23 (zz_XI n (zp_compile_1_23  S0) (zx_compile_1_23  S0)) S n 20 [some (.ref 1000), some (zi x1)] [] 0 0) : zz_E g l zy_compile_1_23 zr_compile_1_23 (zz_XI n (zp_compile_1_23  S0) (zx_compile_1_23  S0)) S n 20 [some (.ref 1000), some (zi x1)] [] 0 0 := by
  have H_S := i20_3
  refine zz_iload_n (x := x1) rfl zd_1_23_20 ?_
  refine zz_aload_n (x := 1000) rfl zd_1_23_21 ?_
  have g6 := zz_G.r G_S0 1000 7 0 1 rfl rfl
  refine zz_getr (kd := 1) (z := S0 1000 7) zd_1_23_22 zf_TF_10 zT_1000 rfl (zz_ltn hn rfl) (zz_rc F_S rfl rfl (fun h => h) rfl) (by omega) (zz_rf 3 (S0 1000 7)) rfl ?_
  have g7 := zz_G.r G_S0 (zz_rf 3 (S0 1000 7)) 1 1 11 (zR_k3_1 (by omega)) (zB_k3 (by omega))
  refine zz_geti (z := S0 (zz_rf 3 (S0 1000 7)) 1) zd_1_23_25 zf_TF_278 (zT_k3 (by omega)) rfl (zN_k3 hn (by omega)) (zz_rc F_S (zP_k3 (by omega) rfl) (zQ_k3 (by omega) rfl) (fun h => h) rfl) ?_
  refine zz_icmp_ge (by omega) (by omega) zd_1_23_28 (fun c8 => ?_) (fun c8 => ?_)
  · refine zz_aload_n (x := 1000) rfl zd_1_23_49 ?_
    refine zz_getr (kd := 0) (z := 1076) zd_1_23_50 zf_TF_76 zT_1000 rfl (zz_ltn hn rfl) (zz_G.eq G_S 1000 5 1076 rfl rfl) (by decide) 1076 rfl ?_
    have g9 := zz_G.r G_S 1076 1 0 1000000 rfl rfl
    refine zz_geti (z := S 1076 1) zd_1_23_53 zf_TF_285 zT_1076 rfl (zz_ltn hn rfl) rfl ?_
    refine zz_sipush (by decide) zd_1_23_56 ?_
    refine zz_icmp_le (by omega) (by omega) zd_1_23_59 (fun c10 => ?_) (fun c10 => ?_)
    · refine zz_aload_n (x := 1000) rfl zd_1_23_73 ?_
      refine zz_aload_n (x := 1000) rfl zd_1_23_74 ?_
      refine zz_getr (kd := 0) (z := 1076) zd_1_23_75 zf_TF_76 zT_1000 rfl (zz_ltn hn rfl) (zz_G.eq G_S 1000 5 1076 rfl rfl) (by decide) 1076 rfl ?_
      refine zz_geti (z := S 1076 1) zd_1_23_78 zf_TF_285 zT_1076 rfl (zz_ltn hn rfl) rfl ?_
      refine zz_callVV [zi (S 1076 1)] zd_1_23_81 zk_TF_169 zT_1000 (zz_ltn hn rfl) rfl rfl ⟨Nat.le_of_ble_eq_true rfl, Nat.le_of_ble_eq_true rfl⟩ ⟨rfl, rfl⟩ (Nat.zero_le _) (Nat.zero_le _) (zc_takeSpareWords_1_30 (S 1076 1) S n hn G_S (by omega)) (fun S11 hP => ?_)
      obtain ⟨G_S11, fS11⟩ := hP
      have F_S11 := zz_fr.trans F_S fS11 rfl zz_nv
      have H_S11 : zz_Hc S11 := zz_Hc.fr (q := 0) fS11 rfl rfl G_S (by decide) rfl (fun b j h => h.elim) H_S
      refine zz_aload_n (x := 1000) rfl zd_1_23_84 ?_
      have g13 := zz_G.r G_S11 1000 11 0 600 rfl rfl
      refine zz_geti (z := S11 1000 11) zd_1_23_85 zf_TF_26 zT_1000 rfl (zz_ltn hn rfl) rfl ?_
      exact zz_iret zd_1_23_88 rfl (Nat.le_of_ble_eq_true rfl) (Nat.le_of_ble_eq_true rfl) (Or.inl ⟨_, _, rfl, G_S11, F_S11, by omega, H_S11⟩)
    · exact zz_throwW (i := 2) hfl hn zt_1_23_62 zyw_compile_1_23 zxl_TF_126_286_130 (Nat.le_of_ble_eq_true rfl) (Nat.le_of_ble_eq_true rfl) ⟨Nat.le_of_ble_eq_true rfl, Nat.le_of_ble_eq_true rfl⟩ (Or.inr ⟨_, _, rfl, G_S, F_S, by omega, by omega, H_S⟩)
  · refine zz_aload_n (x := 1000) rfl zd_1_23_31 ?_
    refine zz_getr (kd := 0) (z := 1076) zd_1_23_32 zf_TF_76 zT_1000 rfl (zz_ltn hn rfl) (zz_G.eq G_S 1000 5 1076 rfl rfl) (by decide) 1076 rfl ?_
    refine zz_aload_n (x := 1000) rfl zd_1_23_35 ?_
    refine zz_getr (kd := 1) (z := S0 1000 7) zd_1_23_36 zf_TF_10 zT_1000 rfl (zz_ltn hn rfl) (zz_rc F_S rfl rfl (fun h => h) rfl) (by omega) (zz_rf 3 (S0 1000 7)) rfl ?_
    refine zz_iload_n (x := x1) rfl zd_1_23_39 ?_
    have g14 := zz_G.r G_S 1076 1 0 1000000 rfl rfl
    refine zz_callVV [.ref (zz_rf 3 (S0 1000 7)), zi x1] zd_1_23_40 zk_TF_281 zT_1076 (zz_ltn hn rfl) rfl rfl ⟨Nat.le_of_ble_eq_true rfl, Nat.le_of_ble_eq_true rfl⟩ ⟨rfl, rfl⟩ (Nat.zero_le _) (Nat.zero_le _) (zc_makeLayer_3_3 (S0 1000 7) x1 S n hn G_S (by omega) (by omega) H_S (by omega)) (fun S15 hP => ?_)
    obtain ⟨G_S15, fS15, o17⟩ := hP
    have F_S15 := zz_fr.trans F_S fS15 rfl zz_nv
    have H_S15 : zz_Hc S15 := zz_Hc.fr (q := 0) fS15 rfl rfl G_S (by decide) rfl (fun b j h => h.elim) H_S
    refine zz_iinc [some (.ref 1000), some (zi (x1 + 1))] zd_1_23_43 rfl rfl ?_
    refine zz_goto zd_1_23_46 ?_
    have g18 := zz_G.r G_S15 1076 1 0 1000000 rfl rfl
    refine zz_less (ls1 := [some (.ref 1000), some (zi (x1 + 1))]) ⟨rfl, ⟨rfl, trivial⟩⟩ ?_
    exact k20 (x1 + 1) S15 G_S15 F_S15 (by omega) (by omega) (by omega) H_S15 (by omega)
theorem zi_compile_1_23 {g : mm_G} {l : Launch}  (S0 : zz_S) (n : Nat) (hn : zz_end ≤ n) (hfl : l.flags = flags0) (G_S0 : zz_G S0) (H_S0 : zz_Hc S0) : ∀ N : Nat, (∀ (x1 : Int) (S : zz_S), zz_G S → zz_fr [(1000, 9), (1000, 10), (1000, 11), (1076, 0), (1076, 1), (1076, 2), (1076, 3), (1076, 4), (1076, 5), (1076, 6), (1076, 7), (1076, 8), (1076, 9), (1076, 10), (1076, 11), (1076, 12), (1076, 13), (1076, 14), (1076, 15), (1076, 16)] [1029, 1030] (fun _ _ => False) S0 S → (1 ≤ x1 ∧ x1 ≤ 11) → (S 1076 1 ≤ 3300 + 5 * x1) → (0 ≤ S 1076 1) → (zz_Hc S) → (2147483647 - x1).toNat < N → zz_E g l zy_compile_1_23 zr_compile_1_23 (zz_XI n (zp_compile_1_23  S0) (zx_compile_1_23  S0)) S n 20 [some (.ref 1000), some (zi x1)] [] 0 0) := by
  intro N
  induction N with
  | zero => exact fun x1 S _ _ _ _ _ _ h => absurd h (Nat.not_lt_zero _)
  | succ N ih =>
    exact fun x1 S a b j0 j1 j2 j3 hR => zb_compile_1_23_20  S0 n hn hfl G_S0 H_S0 x1 S a b j0 j1 j2 j3 _ rfl (fun x1 S a b j0 j1 j2 j3 h => ih x1 S a b j0 j1 j2 j3 (Nat.lt_of_lt_of_le h (Nat.le_of_lt_succ hR)))
theorem zc_compile_1_23 {g : mm_G} {l : Launch}  (S0 : zz_S) (n : Nat) (hn : zz_end ≤ n) (hfl : l.flags = flags0) (G_S0 : zz_G S0) (H_S0 : zz_Hc S0) : mm_Met g l zy_compile_1_23 zr_compile_1_23 [.ref 1000] (zz_M S0 n) n (zz_XI n (zp_compile_1_23  S0) (zx_compile_1_23  S0)) := by
  refine zz_enter (by decide) (Nat.le_of_ble_eq_true rfl) (zz_less (ls1 := [some (.ref 1000)]) ⟨rfl, trivial⟩ ?_)
  have F_S0 : zz_fr [(1000, 9), (1000, 10), (1000, 11), (1076, 0), (1076, 1), (1076, 2), (1076, 3), (1076, 4), (1076, 5), (1076, 6), (1076, 7), (1076, 8), (1076, 9), (1076, 10), (1076, 11), (1076, 12), (1076, 13), (1076, 14), (1076, 15), (1076, 16)] [1029, 1030] (fun _ _ => False) S0 S0 := zz_fr.refl
  have k20 : ∀ (x1 : Int) (S : zz_S), zz_G S → zz_fr [(1000, 9), (1000, 10), (1000, 11), (1076, 0), (1076, 1), (1076, 2), (1076, 3), (1076, 4), (1076, 5), (1076, 6), (1076, 7), (1076, 8), (1076, 9), (1076, 10), (1076, 11), (1076, 12), (1076, 13), (1076, 14), (1076, 15), (1076, 16)] [1029, 1030] (fun _ _ => False) S0 S → (1 ≤ x1 ∧ x1 ≤ 11) → (S 1076 1 ≤ 3300 + 5 * x1) → (0 ≤ S 1076 1) → (zz_Hc S) → zz_E g l zy_compile_1_23 zr_compile_1_23 (zz_XI n (zp_compile_1_23  S0) (zx_compile_1_23  S0)) S n 20 [some (.ref 1000), some (zi x1)] [] 0 0 := fun x1 S a b j0 j1 j2 j3 => (zi_compile_1_23 (g := g) (l := l)  S0 n hn hfl G_S0 H_S0 _) x1 S a b j0 j1 j2 j3 (Nat.lt_succ_self _)
  refine zz_aload_n (x := 1000) rfl zd_1_23_0 ?_
  refine zz_getr (kd := 0) (z := 1076) zd_1_23_1 zf_TF_76 zT_1000 rfl (zz_ltn hn rfl) (zz_G.eq G_S0 1000 5 1076 rfl rfl) (by decide) 1076 rfl ?_
  refine zz_aload_n (x := 1000) rfl zd_1_23_4 ?_
  refine zz_getr (kd := 0) (z := 1031) zd_1_23_5 zf_TF_33 zT_1000 rfl (zz_ltn hn rfl) (zz_G.eq G_S0 1000 0 1031 rfl rfl) (by decide) 1031 rfl ?_
  have g1 := zz_G.r G_S0 1031 6 2 8 rfl rfl
  refine zz_geti (z := S0 1031 6) zd_1_23_8 zf_TF_271 zT_1031 rfl (zz_ltn hn rfl) rfl ?_
  refine zz_aload_n (x := 1000) rfl zd_1_23_11 ?_
  have g2 := zz_G.r G_S0 1000 10 0 1 rfl rfl
  refine zz_getr (kd := 2) (z := S0 1000 10) zd_1_23_12 zf_TF_23 zT_1000 rfl (zz_ltn hn rfl) rfl (by omega) (zz_rf 4 (S0 1000 10)) rfl ?_
  refine zz_callVV [zi (S0 1031 6), .ref (zz_rf 4 (S0 1000 10))] zd_1_23_15 zk_TF_274 zT_1076 (zz_ltn hn rfl) rfl rfl ⟨Nat.le_of_ble_eq_true rfl, Nat.le_of_ble_eq_true rfl⟩ ⟨rfl, rfl⟩ (Nat.zero_le _) (Nat.zero_le _) (zc_open_3_2 (S0 1031 6) (S0 1000 10) S0 n hn G_S0 (by omega) (by omega)) (fun S3 hP => ?_)
  obtain ⟨G_S3, fS3⟩ := hP
  have F_S3 := zz_fr.trans F_S0 fS3 rfl zz_nv
  have H_S3 : zz_Hc S3 := zz_Hc.fr (q := 0) fS3 rfl rfl G_S0 (by decide) rfl (fun b j h => h.elim) H_S0
  refine zz_iconst zd_1_23_18 ?_
  refine zz_istore_n [some (.ref 1000), some (zi 1)] zd_1_23_19 (by decide) rfl ?_
  have g5 := zz_G.r G_S3 1076 1 0 1000000 rfl rfl
  refine zz_less (ls1 := [some (.ref 1000), some (zi 1)]) ⟨rfl, ⟨rfl, trivial⟩⟩ ?_
  exact k20 1 S3 G_S3 F_S3 (by omega) (by omega) (by omega) H_S3
abbrev zy_reckon_1_24 : mm_Y := (⟨"TensorForge", "reckon", "()V"⟩, prog_1_method_24_code, 1, none)
theorem zyw_reckon_1_24 : mm_Yw zy_reckon_1_24 0 := ⟨mm_tb_1 853 (by decide +kernel) rfl, mm_tb_1 1 (by decide +kernel) rfl, ⟨by decide, by decide⟩, by decide +kernel⟩
theorem zd_1_24_0 : zz_D zy_reckon_1_24 0 (.aload_n 0) 1 1 := ⟨by decide +kernel, rfl⟩
theorem zd_1_24_1 : zz_D zy_reckon_1_24 1 (.getfield 10) 3 4 := ⟨by decide +kernel, rfl⟩
theorem zd_1_24_4 : zz_D zy_reckon_1_24 4 (.aload_n 0) 1 5 := ⟨by decide +kernel, rfl⟩
theorem zd_1_24_5 : zz_D zy_reckon_1_24 5 (.getfield 33) 3 8 := ⟨by decide +kernel, rfl⟩
theorem zd_1_24_8 : zz_D zy_reckon_1_24 8 (.getfield 288) 3 11 := ⟨by decide +kernel, rfl⟩
theorem zf_TF_288 : mm_Fl "TensorForge" 288 3 0 (.array .byte) true := ⟨R_Machine, F_Machine, 14, t_Machine, rfl, i_Machine, by decide, mm_tb_1 185 (by decide +kernel) rfl, rfl, t_Machine_ok, n_Machine, rfl, by decide +kernel⟩
theorem zd_1_24_11 : zz_D zy_reckon_1_24 11 (.invokevirtual 292) 3 14 := ⟨by decide +kernel, rfl⟩
abbrev zy_settle_7_9 : mm_Y := (⟨"TensorForge$Network", "settle", "([B)V"⟩, prog_7_method_9_code, 4, none)
theorem zyw_settle_7_9 : mm_Yw zy_settle_7_9 1 := ⟨mm_tb_1 857 (by decide +kernel) rfl, mm_tb_1 2 (by decide +kernel) rfl, ⟨by decide, by decide⟩, by decide +kernel⟩
theorem zd_7_9_0 : zz_D zy_settle_7_9 0 (.iconst 1) 1 1 := ⟨by decide +kernel, rfl⟩
theorem zd_7_9_1 : zz_D zy_settle_7_9 1 (.istore_n 2) 1 2 := ⟨by decide +kernel, rfl⟩
theorem zd_7_9_2 : zz_D zy_settle_7_9 2 (.iload_n 2) 1 3 := ⟨by decide +kernel, rfl⟩
theorem zd_7_9_3 : zz_D zy_settle_7_9 3 (.aload_n 0) 1 4 := ⟨by decide +kernel, rfl⟩
theorem zd_7_9_4 : zz_D zy_settle_7_9 4 (.getfield 16) 3 7 := ⟨by decide +kernel, rfl⟩
theorem zd_7_9_7 : zz_B zy_settle_7_9 7 (Instr.if_icmp .ge) 68 10 := ⟨61, by decide +kernel, rfl, rfl⟩
theorem zd_7_9_68 : zz_D zy_settle_7_9 68 (.return_) 1 69 := ⟨by decide +kernel, rfl⟩
theorem zd_7_9_10 : zz_D zy_settle_7_9 10 (.aload_n 0) 1 11 := ⟨by decide +kernel, rfl⟩
theorem zd_7_9_11 : zz_D zy_settle_7_9 11 (.getfield 11) 3 14 := ⟨by decide +kernel, rfl⟩
theorem zd_7_9_14 : zz_D zy_settle_7_9 14 (.iload_n 2) 1 15 := ⟨by decide +kernel, rfl⟩
theorem zd_7_9_15 : zz_D zy_settle_7_9 15 (.aaload) 1 16 := ⟨by decide +kernel, rfl⟩
theorem zd_7_9_16 : zz_D zy_settle_7_9 16 (.astore_n 3) 1 17 := ⟨by decide +kernel, rfl⟩
theorem zd_7_9_17 : zz_D zy_settle_7_9 17 (.aload_n 0) 1 18 := ⟨by decide +kernel, rfl⟩
theorem zd_7_9_18 : zz_D zy_settle_7_9 18 (.aload_n 3) 1 19 := ⟨by decide +kernel, rfl⟩
theorem zd_7_9_19 : zz_D zy_settle_7_9 19 (.getfield 38) 3 22 := ⟨by decide +kernel, rfl⟩
theorem zd_7_9_22 : zz_D zy_settle_7_9 22 (.invokevirtual 41) 3 25 := ⟨by decide +kernel, rfl⟩
theorem zd_7_9_25 : zz_B zy_settle_7_9 25 (Instr.ifCond .eq) 62 28 := ⟨37, by decide +kernel, rfl, rfl⟩
theorem zd_7_9_62 : zz_D zy_settle_7_9 62 (.iinc 2 1) 3 65 := ⟨by decide +kernel, rfl⟩
theorem zd_7_9_65 : zz_B zy_settle_7_9 65 Instr.goto 2 68 := ⟨(-63), by decide +kernel, rfl, rfl⟩
theorem zd_7_9_28 : zz_D zy_settle_7_9 28 (.aload_n 0) 1 29 := ⟨by decide +kernel, rfl⟩
theorem zd_7_9_29 : zz_D zy_settle_7_9 29 (.aload_n 3) 1 30 := ⟨by decide +kernel, rfl⟩
theorem zd_7_9_30 : zz_D zy_settle_7_9 30 (.getfield 45) 3 33 := ⟨by decide +kernel, rfl⟩
theorem zd_7_9_33 : zz_D zy_settle_7_9 33 (.invokevirtual 41) 3 36 := ⟨by decide +kernel, rfl⟩
theorem zd_7_9_36 : zz_B zy_settle_7_9 36 (Instr.ifCond .eq) 62 39 := ⟨26, by decide +kernel, rfl, rfl⟩
theorem zd_7_9_39 : zz_D zy_settle_7_9 39 (.aload_n 3) 1 40 := ⟨by decide +kernel, rfl⟩
theorem zd_7_9_40 : zz_D zy_settle_7_9 40 (.aload_n 1) 1 41 := ⟨by decide +kernel, rfl⟩
theorem zd_7_9_41 : zz_D zy_settle_7_9 41 (.aload_n 0) 1 42 := ⟨by decide +kernel, rfl⟩
theorem zd_7_9_42 : zz_D zy_settle_7_9 42 (.getfield 11) 3 45 := ⟨by decide +kernel, rfl⟩
theorem zd_7_9_45 : zz_D zy_settle_7_9 45 (.aload_n 3) 1 46 := ⟨by decide +kernel, rfl⟩
theorem zd_7_9_46 : zz_D zy_settle_7_9 46 (.getfield 38) 3 49 := ⟨by decide +kernel, rfl⟩
theorem zd_7_9_49 : zz_D zy_settle_7_9 49 (.aaload) 1 50 := ⟨by decide +kernel, rfl⟩
theorem zd_7_9_50 : zz_D zy_settle_7_9 50 (.aload_n 0) 1 51 := ⟨by decide +kernel, rfl⟩
theorem zd_7_9_51 : zz_D zy_settle_7_9 51 (.getfield 11) 3 54 := ⟨by decide +kernel, rfl⟩
theorem zd_7_9_54 : zz_D zy_settle_7_9 54 (.aload_n 3) 1 55 := ⟨by decide +kernel, rfl⟩
theorem zd_7_9_55 : zz_D zy_settle_7_9 55 (.getfield 45) 3 58 := ⟨by decide +kernel, rfl⟩
theorem zd_7_9_58 : zz_D zy_settle_7_9 58 (.aaload) 1 59 := ⟨by decide +kernel, rfl⟩
theorem zd_7_9_59 : zz_D zy_settle_7_9 59 (.invokevirtual 72) 3 62 := ⟨by decide +kernel, rfl⟩
abbrev zy_fillCells_4_18 : mm_Y := (⟨"TensorForge$Layer", "fillCells", "([BLTensorForge$Layer;LTensorForge$Layer;)V"⟩, prog_4_method_18_code, 8, none)
theorem zyw_fillCells_4_18 : mm_Yw zy_fillCells_4_18 3 := ⟨mm_tb_1 865 (by decide +kernel) rfl, mm_tb_1 3 (by decide +kernel) rfl, ⟨by decide, by decide⟩, by decide +kernel⟩
theorem zd_4_18_0 : zz_D zy_fillCells_4_18 0 (.iconst 0) 1 1 := ⟨by decide +kernel, rfl⟩
theorem zd_4_18_1 : zz_D zy_fillCells_4_18 1 (.istore 4) 2 3 := ⟨by decide +kernel, rfl⟩
theorem zd_4_18_3 : zz_D zy_fillCells_4_18 3 (.iload 4) 2 5 := ⟨by decide +kernel, rfl⟩
theorem zd_4_18_5 : zz_D zy_fillCells_4_18 5 (.aload_n 0) 1 6 := ⟨by decide +kernel, rfl⟩
theorem zd_4_18_6 : zz_D zy_fillCells_4_18 6 (.getfield 54) 3 9 := ⟨by decide +kernel, rfl⟩
theorem zd_4_18_9 : zz_B zy_fillCells_4_18 9 (Instr.if_icmp .ge) 102 12 := ⟨93, by decide +kernel, rfl, rfl⟩
theorem zd_4_18_102 : zz_D zy_fillCells_4_18 102 (.return_) 1 103 := ⟨by decide +kernel, rfl⟩
theorem zd_4_18_12 : zz_D zy_fillCells_4_18 12 (.iconst 0) 1 13 := ⟨by decide +kernel, rfl⟩
theorem zd_4_18_13 : zz_D zy_fillCells_4_18 13 (.istore 5) 2 15 := ⟨by decide +kernel, rfl⟩
theorem zd_4_18_15 : zz_D zy_fillCells_4_18 15 (.iload 5) 2 17 := ⟨by decide +kernel, rfl⟩
theorem zd_4_18_17 : zz_D zy_fillCells_4_18 17 (.aload_n 0) 1 18 := ⟨by decide +kernel, rfl⟩
theorem zd_4_18_18 : zz_D zy_fillCells_4_18 18 (.getfield 57) 3 21 := ⟨by decide +kernel, rfl⟩
theorem zd_4_18_21 : zz_B zy_fillCells_4_18 21 (Instr.if_icmp .ge) 96 24 := ⟨75, by decide +kernel, rfl, rfl⟩
theorem zd_4_18_96 : zz_D zy_fillCells_4_18 96 (.iinc 4 1) 3 99 := ⟨by decide +kernel, rfl⟩
theorem zd_4_18_99 : zz_B zy_fillCells_4_18 99 Instr.goto 3 102 := ⟨(-96), by decide +kernel, rfl, rfl⟩
theorem zd_4_18_24 : zz_D zy_fillCells_4_18 24 (.iconst 0) 1 25 := ⟨by decide +kernel, rfl⟩
theorem zd_4_18_25 : zz_D zy_fillCells_4_18 25 (.istore 6) 2 27 := ⟨by decide +kernel, rfl⟩
theorem zd_4_18_27 : zz_D zy_fillCells_4_18 27 (.iload 6) 2 29 := ⟨by decide +kernel, rfl⟩
theorem zd_4_18_29 : zz_D zy_fillCells_4_18 29 (.aload_n 0) 1 30 := ⟨by decide +kernel, rfl⟩
theorem zd_4_18_30 : zz_D zy_fillCells_4_18 30 (.getfield 60) 3 33 := ⟨by decide +kernel, rfl⟩
theorem zd_4_18_33 : zz_B zy_fillCells_4_18 33 (Instr.if_icmp .ge) 90 36 := ⟨57, by decide +kernel, rfl, rfl⟩
theorem zd_4_18_90 : zz_D zy_fillCells_4_18 90 (.iinc 5 1) 3 93 := ⟨by decide +kernel, rfl⟩
theorem zd_4_18_93 : zz_B zy_fillCells_4_18 93 Instr.goto 15 96 := ⟨(-78), by decide +kernel, rfl, rfl⟩
theorem zd_4_18_36 : zz_D zy_fillCells_4_18 36 (.aload_n 0) 1 37 := ⟨by decide +kernel, rfl⟩
theorem zd_4_18_37 : zz_D zy_fillCells_4_18 37 (.iload 4) 2 39 := ⟨by decide +kernel, rfl⟩
theorem zd_4_18_39 : zz_D zy_fillCells_4_18 39 (.iload 5) 2 41 := ⟨by decide +kernel, rfl⟩
theorem zd_4_18_41 : zz_D zy_fillCells_4_18 41 (.iload 6) 2 43 := ⟨by decide +kernel, rfl⟩
theorem zd_4_18_43 : zz_D zy_fillCells_4_18 43 (.invokevirtual 75) 3 46 := ⟨by decide +kernel, rfl⟩
theorem zk_Layer_75 : mm_Vl "TensorForge$Layer" 75 2 3 zy_cellAt_4_15 := ⟨zyw_cellAt_4_15, (R_Layer, F_Layer, 15), rfl, mm_tb_1 866 (by decide +kernel) rfl, mm_tb_1 867 (by decide +kernel) rfl, mm_tb_1 868 (by decide +kernel) rfl⟩
theorem zd_4_18_46 : zz_D zy_fillCells_4_18 46 (.istore 7) 2 48 := ⟨by decide +kernel, rfl⟩
theorem zd_4_18_48 : zz_D zy_fillCells_4_18 48 (.iload 7) 2 50 := ⟨by decide +kernel, rfl⟩
theorem zd_4_18_50 : zz_B zy_fillCells_4_18 50 (Instr.ifCond .lt) 84 53 := ⟨34, by decide +kernel, rfl, rfl⟩
theorem zd_4_18_84 : zz_D zy_fillCells_4_18 84 (.iinc 6 1) 3 87 := ⟨by decide +kernel, rfl⟩
theorem zd_4_18_87 : zz_B zy_fillCells_4_18 87 Instr.goto 27 90 := ⟨(-60), by decide +kernel, rfl, rfl⟩
theorem zd_4_18_53 : zz_D zy_fillCells_4_18 53 (.iload 7) 2 55 := ⟨by decide +kernel, rfl⟩
theorem zd_4_18_55 : zz_D zy_fillCells_4_18 55 (.aload_n 1) 1 56 := ⟨by decide +kernel, rfl⟩
theorem zd_4_18_56 : zz_D zy_fillCells_4_18 56 (.arraylength) 1 57 := ⟨by decide +kernel, rfl⟩
theorem zd_4_18_57 : zz_B zy_fillCells_4_18 57 (Instr.if_icmp .ge) 84 60 := ⟨27, by decide +kernel, rfl, rfl⟩
theorem zd_4_18_60 : zz_D zy_fillCells_4_18 60 (.aload_n 1) 1 61 := ⟨by decide +kernel, rfl⟩
theorem zd_4_18_61 : zz_D zy_fillCells_4_18 61 (.iload 7) 2 63 := ⟨by decide +kernel, rfl⟩
theorem zd_4_18_63 : zz_D zy_fillCells_4_18 63 (.aload_n 0) 1 64 := ⟨by decide +kernel, rfl⟩
theorem zd_4_18_64 : zz_D zy_fillCells_4_18 64 (.aload_n 1) 1 65 := ⟨by decide +kernel, rfl⟩
theorem zd_4_18_65 : zz_D zy_fillCells_4_18 65 (.aload_n 2) 1 66 := ⟨by decide +kernel, rfl⟩
theorem zd_4_18_66 : zz_D zy_fillCells_4_18 66 (.aload_n 3) 1 67 := ⟨by decide +kernel, rfl⟩
theorem zd_4_18_67 : zz_D zy_fillCells_4_18 67 (.iload 4) 2 69 := ⟨by decide +kernel, rfl⟩
theorem zd_4_18_69 : zz_D zy_fillCells_4_18 69 (.iload 5) 2 71 := ⟨by decide +kernel, rfl⟩
theorem zd_4_18_71 : zz_D zy_fillCells_4_18 71 (.iload 6) 2 73 := ⟨by decide +kernel, rfl⟩
theorem zd_4_18_73 : zz_D zy_fillCells_4_18 73 (.invokevirtual 79) 3 76 := ⟨by decide +kernel, rfl⟩
abbrev zy_sumOf_4_19 : mm_Y := (⟨"TensorForge$Layer", "sumOf", "([BLTensorForge$Layer;LTensorForge$Layer;III)I"⟩, prog_4_method_19_code, 7, (some .int))
theorem zyw_sumOf_4_19 : mm_Yw zy_sumOf_4_19 6 := ⟨mm_tb_1 873 (by decide +kernel) rfl, mm_tb_1 3 (by decide +kernel) rfl, ⟨by decide, by decide⟩, by decide +kernel⟩
theorem zd_4_19_0 : zz_D zy_sumOf_4_19 0 (.aload_n 0) 1 1 := ⟨by decide +kernel, rfl⟩
theorem zd_4_19_1 : zz_D zy_sumOf_4_19 1 (.getfield 13) 3 4 := ⟨by decide +kernel, rfl⟩
theorem zd_4_19_4 : zz_D zy_sumOf_4_19 4 (.iconst 1) 1 5 := ⟨by decide +kernel, rfl⟩
theorem zd_4_19_5 : zz_B zy_sumOf_4_19 5 (Instr.if_icmp .ne) 21 8 := ⟨16, by decide +kernel, rfl, rfl⟩
theorem zd_4_19_21 : zz_D zy_sumOf_4_19 21 (.aload_n 0) 1 22 := ⟨by decide +kernel, rfl⟩
theorem zd_4_19_22 : zz_D zy_sumOf_4_19 22 (.getfield 13) 3 25 := ⟨by decide +kernel, rfl⟩
theorem zd_4_19_25 : zz_D zy_sumOf_4_19 25 (.iconst 2) 1 26 := ⟨by decide +kernel, rfl⟩
theorem zd_4_19_26 : zz_B zy_sumOf_4_19 26 (Instr.if_icmp .ne) 42 29 := ⟨16, by decide +kernel, rfl, rfl⟩
theorem zd_4_19_42 : zz_D zy_sumOf_4_19 42 (.aload_n 1) 1 43 := ⟨by decide +kernel, rfl⟩
theorem zd_4_19_43 : zz_D zy_sumOf_4_19 43 (.aload_n 2) 1 44 := ⟨by decide +kernel, rfl⟩
theorem zd_4_19_44 : zz_D zy_sumOf_4_19 44 (.iload 4) 2 46 := ⟨by decide +kernel, rfl⟩
theorem zd_4_19_46 : zz_D zy_sumOf_4_19 46 (.iload 5) 2 48 := ⟨by decide +kernel, rfl⟩
theorem zd_4_19_48 : zz_D zy_sumOf_4_19 48 (.iload 6) 2 50 := ⟨by decide +kernel, rfl⟩
theorem zd_4_19_50 : zz_D zy_sumOf_4_19 50 (.invokevirtual 75) 3 53 := ⟨by decide +kernel, rfl⟩
theorem zd_4_19_53 : zz_D zy_sumOf_4_19 53 (.invokestatic 98) 3 56 := ⟨by decide +kernel, rfl⟩
abbrev zy_byteAt_4_17 : mm_Y := (⟨"TensorForge$Layer", "byteAt", "([BI)I"⟩, prog_4_method_17_code, 2, (some .int))
theorem zyw_byteAt_4_17 : mm_Yw zy_byteAt_4_17 2 := ⟨mm_tb_1 897 (by decide +kernel) rfl, mm_tb_1 3 (by decide +kernel) rfl, ⟨by decide, by decide⟩, by decide +kernel⟩
theorem zd_4_17_0 : zz_D zy_byteAt_4_17 0 (.iload_n 1) 1 1 := ⟨by decide +kernel, rfl⟩
theorem zd_4_17_1 : zz_B zy_byteAt_4_17 1 (Instr.ifCond .lt) 10 4 := ⟨9, by decide +kernel, rfl, rfl⟩
theorem zd_4_17_10 : zz_D zy_byteAt_4_17 10 (.iconst 0) 1 11 := ⟨by decide +kernel, rfl⟩
theorem zd_4_17_11 : zz_B zy_byteAt_4_17 11 Instr.goto 17 14 := ⟨6, by decide +kernel, rfl, rfl⟩
theorem zd_4_17_17 : zz_D zy_byteAt_4_17 17 (.ireturn) 1 18 := ⟨by decide +kernel, rfl⟩
theorem zd_4_17_4 : zz_D zy_byteAt_4_17 4 (.iload_n 1) 1 5 := ⟨by decide +kernel, rfl⟩
theorem zd_4_17_5 : zz_D zy_byteAt_4_17 5 (.aload_n 0) 1 6 := ⟨by decide +kernel, rfl⟩
theorem zd_4_17_6 : zz_D zy_byteAt_4_17 6 (.arraylength) 1 7 := ⟨by decide +kernel, rfl⟩
theorem zd_4_17_7 : zz_B zy_byteAt_4_17 7 (Instr.if_icmp .lt) 14 10 := ⟨7, by decide +kernel, rfl, rfl⟩
theorem zd_4_17_14 : zz_D zy_byteAt_4_17 14 (.aload_n 0) 1 15 := ⟨by decide +kernel, rfl⟩
theorem zd_4_17_15 : zz_D zy_byteAt_4_17 15 (.iload_n 1) 1 16 := ⟨by decide +kernel, rfl⟩
theorem zd_4_17_16 : zz_D zy_byteAt_4_17 16 (.baload) 1 17 := ⟨by decide +kernel, rfl⟩
-- TensorForge$Layer byteAt ([BI)I
abbrev zr_byteAt_4_17 : Room := { frames := 0, cells := 0, slots := 0, locals := 0 }
def zp_byteAt_4_17 (p1 : Int) (S0 : zz_S) : Int → zz_S → Prop := fun r S => S0 = S ∧ ((-2147483648) ≤ r ∧ r ≤ 2147483647)
theorem zc_byteAt_4_17 {g : mm_G} {l : Launch} (p1 : Int) (S0 : zz_S) (n : Nat) (hn : zz_end ≤ n) (G_S0 : zz_G S0) (hp1 : (-2147483648) ≤ p1 ∧ p1 ≤ 2147483647) : mm_Met g l zy_byteAt_4_17 zr_byteAt_4_17 [.ref 1032, zi p1] (zz_M S0 n) n (zz_QI n (zp_byteAt_4_17 p1 S0)) := by
  refine zz_enter (by decide) (Nat.le_of_ble_eq_true rfl) (zz_less (ls1 := [some (.ref 1032), some (zi p1)]) ⟨rfl, ⟨rfl, trivial⟩⟩ ?_)
  refine zz_iload_n (x := p1) rfl zd_4_17_0 ?_
  refine zz_if_lt (by omega) zd_4_17_1 (fun c1 => ?_) (fun c1 => ?_)
  · refine zz_iconst zd_4_17_10 ?_
    refine zz_goto zd_4_17_11 ?_
    exact zz_iret zd_4_17_17 rfl (Nat.zero_le _) (Nat.zero_le _) ⟨_, _, rfl, rfl, by omega⟩
  · refine zz_iload_n (x := p1) rfl zd_4_17_4 ?_
    refine zz_aload_n (x := 1032) rfl zd_4_17_5 ?_
    refine zz_alen zd_4_17_6 zT_1032 rfl (zz_ltn hn rfl) ?_
    refine zz_icmp_lt (by omega) (by omega) zd_4_17_7 (fun c2 => ?_) (fun c2 => ?_)
    · refine zz_aload_n (x := 1032) rfl zd_4_17_14 ?_
      refine zz_iload_n (x := p1) rfl zd_4_17_15 ?_
      have g3 := zz_G.r G_S0 1032 p1.toNat (-128) 127 rfl rfl
      refine zz_bald (z := S0 1032 p1.toNat) zd_4_17_16 zT_1032 rfl (zz_ltn hn rfl) (by decide) (by omega) rfl ?_
      exact zz_iret zd_4_17_17 rfl (Nat.zero_le _) (Nat.zero_le _) ⟨_, _, rfl, rfl, by omega⟩
    · refine zz_iconst zd_4_17_10 ?_
      refine zz_goto zd_4_17_11 ?_
      exact zz_iret zd_4_17_17 rfl (Nat.zero_le _) (Nat.zero_le _) ⟨_, _, rfl, rfl, by omega⟩
theorem zk_Layer_98 : mm_Sl "TensorForge$Layer" 98 2 zy_byteAt_4_17 := ⟨zyw_byteAt_4_17, mm_tb_1 895 (by decide +kernel) rfl, mm_tb_1 896 (by decide +kernel) rfl⟩
theorem zd_4_19_56 : zz_D zy_sumOf_4_19 56 (.aload_n 1) 1 57 := ⟨by decide +kernel, rfl⟩
theorem zd_4_19_57 : zz_D zy_sumOf_4_19 57 (.aload_n 3) 1 58 := ⟨by decide +kernel, rfl⟩
theorem zd_4_19_58 : zz_D zy_sumOf_4_19 58 (.iload 4) 2 60 := ⟨by decide +kernel, rfl⟩
theorem zd_4_19_60 : zz_D zy_sumOf_4_19 60 (.iload 5) 2 62 := ⟨by decide +kernel, rfl⟩
theorem zd_4_19_62 : zz_D zy_sumOf_4_19 62 (.iload 6) 2 64 := ⟨by decide +kernel, rfl⟩
theorem zd_4_19_64 : zz_D zy_sumOf_4_19 64 (.invokevirtual 75) 3 67 := ⟨by decide +kernel, rfl⟩
theorem zd_4_19_67 : zz_D zy_sumOf_4_19 67 (.invokestatic 98) 3 70 := ⟨by decide +kernel, rfl⟩
theorem zd_4_19_70 : zz_D zy_sumOf_4_19 70 (.iadd) 1 71 := ⟨by decide +kernel, rfl⟩
theorem zd_4_19_71 : zz_D zy_sumOf_4_19 71 (.ireturn) 1 72 := ⟨by decide +kernel, rfl⟩
theorem zd_4_19_29 : zz_D zy_sumOf_4_19 29 (.aload_n 0) 1 30 := ⟨by decide +kernel, rfl⟩
theorem zd_4_19_30 : zz_D zy_sumOf_4_19 30 (.aload_n 1) 1 31 := ⟨by decide +kernel, rfl⟩
theorem zd_4_19_31 : zz_D zy_sumOf_4_19 31 (.aload_n 2) 1 32 := ⟨by decide +kernel, rfl⟩
theorem zd_4_19_32 : zz_D zy_sumOf_4_19 32 (.iload 4) 2 34 := ⟨by decide +kernel, rfl⟩
theorem zd_4_19_34 : zz_D zy_sumOf_4_19 34 (.iload 5) 2 36 := ⟨by decide +kernel, rfl⟩
theorem zd_4_19_36 : zz_D zy_sumOf_4_19 36 (.iload 6) 2 38 := ⟨by decide +kernel, rfl⟩
theorem zd_4_19_38 : zz_D zy_sumOf_4_19 38 (.invokevirtual 95) 3 41 := ⟨by decide +kernel, rfl⟩
abbrev zy_greatest_4_22 : mm_Y := (⟨"TensorForge$Layer", "greatest", "([BLTensorForge$Layer;III)I"⟩, prog_4_method_22_code, 9, (some .int))
theorem zyw_greatest_4_22 : mm_Yw zy_greatest_4_22 5 := ⟨mm_tb_1 901 (by decide +kernel) rfl, mm_tb_1 3 (by decide +kernel) rfl, ⟨by decide, by decide⟩, by decide +kernel⟩
theorem zd_4_22_0 : zz_D zy_greatest_4_22 0 (.bipush (-128)) 2 2 := ⟨by decide +kernel, rfl⟩
theorem zd_4_22_2 : zz_D zy_greatest_4_22 2 (.istore 6) 2 4 := ⟨by decide +kernel, rfl⟩
theorem zd_4_22_4 : zz_D zy_greatest_4_22 4 (.iconst 0) 1 5 := ⟨by decide +kernel, rfl⟩
theorem zd_4_22_5 : zz_D zy_greatest_4_22 5 (.istore 7) 2 7 := ⟨by decide +kernel, rfl⟩
theorem zd_4_22_7 : zz_D zy_greatest_4_22 7 (.iload 7) 2 9 := ⟨by decide +kernel, rfl⟩
theorem zd_4_22_9 : zz_D zy_greatest_4_22 9 (.aload_n 0) 1 10 := ⟨by decide +kernel, rfl⟩
theorem zd_4_22_10 : zz_D zy_greatest_4_22 10 (.getfield 23) 3 13 := ⟨by decide +kernel, rfl⟩
theorem zd_4_22_13 : zz_B zy_greatest_4_22 13 (Instr.if_icmp .ge) 76 16 := ⟨63, by decide +kernel, rfl, rfl⟩
theorem zd_4_22_76 : zz_D zy_greatest_4_22 76 (.iload 6) 2 78 := ⟨by decide +kernel, rfl⟩
theorem zd_4_22_78 : zz_D zy_greatest_4_22 78 (.ireturn) 1 79 := ⟨by decide +kernel, rfl⟩
theorem zd_4_22_16 : zz_D zy_greatest_4_22 16 (.iconst 0) 1 17 := ⟨by decide +kernel, rfl⟩
theorem zd_4_22_17 : zz_D zy_greatest_4_22 17 (.istore 8) 2 19 := ⟨by decide +kernel, rfl⟩
theorem zd_4_22_19 : zz_D zy_greatest_4_22 19 (.iload 8) 2 21 := ⟨by decide +kernel, rfl⟩
theorem zd_4_22_21 : zz_D zy_greatest_4_22 21 (.aload_n 0) 1 22 := ⟨by decide +kernel, rfl⟩
theorem zd_4_22_22 : zz_D zy_greatest_4_22 22 (.getfield 26) 3 25 := ⟨by decide +kernel, rfl⟩
theorem zd_4_22_25 : zz_B zy_greatest_4_22 25 (Instr.if_icmp .ge) 70 28 := ⟨45, by decide +kernel, rfl, rfl⟩
theorem zd_4_22_70 : zz_D zy_greatest_4_22 70 (.iinc 7 1) 3 73 := ⟨by decide +kernel, rfl⟩
theorem zd_4_22_73 : zz_B zy_greatest_4_22 73 Instr.goto 7 76 := ⟨(-66), by decide +kernel, rfl, rfl⟩
theorem zd_4_22_28 : zz_D zy_greatest_4_22 28 (.iload 6) 2 30 := ⟨by decide +kernel, rfl⟩
theorem zd_4_22_30 : zz_D zy_greatest_4_22 30 (.aload_n 1) 1 31 := ⟨by decide +kernel, rfl⟩
theorem zd_4_22_31 : zz_D zy_greatest_4_22 31 (.aload_n 2) 1 32 := ⟨by decide +kernel, rfl⟩
theorem zd_4_22_32 : zz_D zy_greatest_4_22 32 (.aload_n 0) 1 33 := ⟨by decide +kernel, rfl⟩
theorem zd_4_22_33 : zz_D zy_greatest_4_22 33 (.getfield 29) 3 36 := ⟨by decide +kernel, rfl⟩
theorem zd_4_22_36 : zz_D zy_greatest_4_22 36 (.iload_n 3) 1 37 := ⟨by decide +kernel, rfl⟩
theorem zd_4_22_37 : zz_D zy_greatest_4_22 37 (.imul) 1 38 := ⟨by decide +kernel, rfl⟩
theorem zd_4_22_38 : zz_D zy_greatest_4_22 38 (.iload 7) 2 40 := ⟨by decide +kernel, rfl⟩
theorem zd_4_22_40 : zz_D zy_greatest_4_22 40 (.iadd) 1 41 := ⟨by decide +kernel, rfl⟩
theorem zd_4_22_41 : zz_D zy_greatest_4_22 41 (.aload_n 0) 1 42 := ⟨by decide +kernel, rfl⟩
theorem zd_4_22_42 : zz_D zy_greatest_4_22 42 (.getfield 29) 3 45 := ⟨by decide +kernel, rfl⟩
theorem zd_4_22_45 : zz_D zy_greatest_4_22 45 (.iload 4) 2 47 := ⟨by decide +kernel, rfl⟩
theorem zd_4_22_47 : zz_D zy_greatest_4_22 47 (.imul) 1 48 := ⟨by decide +kernel, rfl⟩
theorem zd_4_22_48 : zz_D zy_greatest_4_22 48 (.iload 8) 2 50 := ⟨by decide +kernel, rfl⟩
theorem zd_4_22_50 : zz_D zy_greatest_4_22 50 (.iadd) 1 51 := ⟨by decide +kernel, rfl⟩
theorem zd_4_22_51 : zz_D zy_greatest_4_22 51 (.iload 5) 2 53 := ⟨by decide +kernel, rfl⟩
theorem zd_4_22_53 : zz_D zy_greatest_4_22 53 (.invokevirtual 75) 3 56 := ⟨by decide +kernel, rfl⟩
theorem zd_4_22_56 : zz_D zy_greatest_4_22 56 (.invokestatic 98) 3 59 := ⟨by decide +kernel, rfl⟩
theorem zd_4_22_59 : zz_D zy_greatest_4_22 59 (.invokestatic 121) 3 62 := ⟨by decide +kernel, rfl⟩
theorem zm_Layer_121 : Cond.methodLink "TensorForge$Layer" 121 Lib.Math.max.name ∈ mm_tb ∧ Cond.static Lib.Math.max.name ∈ mm_tb ∧ Cond.initialized "java/lang/Math" ∈ mm_tb ∧ Cond.code Lib.Math.max.name Lib.Math.max.code 2 (some .int) ∈ mm_tb := ⟨mm_tb_1 902 (by decide +kernel) rfl, mm_tb_1 709 (by decide +kernel) rfl, mm_tb_1 25 (by decide +kernel) rfl, mm_tb_1 710 (by decide +kernel) rfl⟩
theorem zd_4_22_62 : zz_D zy_greatest_4_22 62 (.istore 6) 2 64 := ⟨by decide +kernel, rfl⟩
theorem zd_4_22_64 : zz_D zy_greatest_4_22 64 (.iinc 8 1) 3 67 := ⟨by decide +kernel, rfl⟩
theorem zd_4_22_67 : zz_B zy_greatest_4_22 67 Instr.goto 19 70 := ⟨(-48), by decide +kernel, rfl, rfl⟩
-- TensorForge$Layer greatest ([BLTensorForge$Layer;III)I
abbrev zr_greatest_4_22 : Room := { frames := 1, cells := 0, slots := 0, locals := 17 }
def zp_greatest_4_22 (t : Int) (p1 : Int) (p2 : Int) (p3 : Int) (p4 : Int) (S0 : zz_S) : Int → zz_S → Prop := fun r S => S0 = S ∧ ((-2147483648) ≤ r ∧ r ≤ 2147483647)
theorem zb_greatest_4_22_7 {g : mm_G} {l : Launch} (t : Int) (p1 : Int) (p2 : Int) (p3 : Int) (p4 : Int) (S0 : zz_S) (n : Nat) (hn : zz_end ≤ n) (G_S0 : zz_G S0) (ht : 0 ≤ t ∧ t ≤ 23) (hp1 : 0 ≤ p1 ∧ p1 ≤ 23) (hp2 : (-2147483648) ≤ p2 ∧ p2 ≤ 2147483647) (hp3 : (-2147483648) ≤ p3 ∧ p3 ≤ 2147483647) (hp4 : (-2147483648) ≤ p4 ∧ p4 ≤ 2147483647) (x6 : Int) (x7 : Int) (S : zz_S) (G_S : zz_G S) (F_S : zz_fr [] [] (fun _ _ => False) S0 S) (i7_0 : (-128) ≤ x6 ∧ x6 ≤ 2147483647) (i7_1 : (-2147483648) ≤ x7 ∧ x7 ≤ 2147483647) (R : Nat) (hR : (34359738368 + (S (zz_rf 6 t) 3 - x7).toNat) * 1099511627776 + 1099511627775 = R) (k19 : ∀ (x6 : Int) (x7 : Int) (x8 : Int) (S : zz_S), zz_G S → zz_fr [] [] (fun _ _ => False) S0 S → ((-128) ≤ x6 ∧ x6 ≤ 2147483647) → ((-2147483648) ≤ x7 ∧ x7 ≤ 2147483647) → (0 ≤ x8 ∧ x8 ≤ 2147483647) → (34359738368 + (S (zz_rf 6 t) 3 - x7).toNat) * 1099511627776 + (17179869184 + (S (zz_rf 6 t) 4 - x8).toNat) < R → zz_E g l zy_greatest_4_22 zr_greatest_4_22 (zz_QI n (zp_greatest_4_22 t p1 p2 p3 p4 S0)) S n 19 [some (.ref (zz_rf 6 t)), some (.ref 1032), some (.ref (zz_rf 6 p1)), some (zi p2), some (zi p3), some (zi p4), some (zi x6), some (zi x7), some (zi x8)] [] 0 0) : zz_E g l zy_greatest_4_22 zr_greatest_4_22 (zz_QI n (zp_greatest_4_22 t p1 p2 p3 p4 S0)) S n 7 [some (.ref (zz_rf 6 t)), some (.ref 1032), some (.ref (zz_rf 6 p1)), some (zi p2), some (zi p3), some (zi p4), some (zi x6), some (zi x7)] [] 0 0 := by
  have b_p1 := zz_rf6 (z := p1) (by omega)
  have b_t := zz_rf6 (z := t) (by omega)
  refine zz_iload (x := x7) rfl zd_4_22_7 ?_
  refine zz_aload_n (x := zz_rf 6 t) rfl zd_4_22_9 ?_
  have g1 := zz_G.r G_S0 (zz_rf 6 t) 3 (-2147483648) 2147483647 (zR_k6_3 (by omega)) (zB_k6 (by omega))
  refine zz_geti (z := S0 (zz_rf 6 t) 3) zd_4_22_10 zf_Layer_23 (zT_k6 (by omega)) rfl (zN_k6 hn (by omega)) (zz_rc F_S (zP_k6 (by omega) rfl) (zQ_k6 (by omega) rfl) (fun h => h) rfl) ?_
  refine zz_icmp_ge (by omega) (by omega) zd_4_22_13 (fun c2 => ?_) (fun c2 => ?_)
  · refine zz_iload (x := x6) rfl zd_4_22_76 ?_
    exact zz_iret zd_4_22_78 rfl (Nat.zero_le _) (Nat.zero_le _) ⟨_, _, rfl, zz_fr.eq F_S, by omega⟩
  · refine zz_iconst zd_4_22_16 ?_
    refine zz_istore [some (.ref (zz_rf 6 t)), some (.ref 1032), some (.ref (zz_rf 6 p1)), some (zi p2), some (zi p3), some (zi p4), some (zi x6), some (zi x7), some (zi 0)] zd_4_22_17 (by decide) rfl ?_
    have e3 : S (zz_rf 6 t) 3 = S0 (zz_rf 6 t) 3 := (zz_rc F_S (zP_k6 (by omega) rfl) (zQ_k6 (by omega) rfl) (fun h => h) rfl)
    have e4 : S (zz_rf 6 t) 4 = S0 (zz_rf 6 t) 4 := (zz_rc F_S (zP_k6 (by omega) rfl) (zQ_k6 (by omega) rfl) (fun h => h) rfl)
    refine zz_less (ls1 := [some (.ref (zz_rf 6 t)), some (.ref 1032), some (.ref (zz_rf 6 p1)), some (zi p2), some (zi p3), some (zi p4), some (zi x6), some (zi x7), some (zi 0)]) ⟨rfl, ⟨rfl, ⟨rfl, ⟨rfl, ⟨rfl, ⟨rfl, ⟨rfl, ⟨rfl, ⟨rfl, trivial⟩⟩⟩⟩⟩⟩⟩⟩⟩ ?_
    exact k19 x6 x7 0 S G_S F_S (by omega) (by omega) (by omega) (by omega)
theorem zb_greatest_4_22_19 {g : mm_G} {l : Launch} (t : Int) (p1 : Int) (p2 : Int) (p3 : Int) (p4 : Int) (S0 : zz_S) (n : Nat) (hn : zz_end ≤ n) (G_S0 : zz_G S0) (ht : 0 ≤ t ∧ t ≤ 23) (hp1 : 0 ≤ p1 ∧ p1 ≤ 23) (hp2 : (-2147483648) ≤ p2 ∧ p2 ≤ 2147483647) (hp3 : (-2147483648) ≤ p3 ∧ p3 ≤ 2147483647) (hp4 : (-2147483648) ≤ p4 ∧ p4 ≤ 2147483647) (x6 : Int) (x7 : Int) (x8 : Int) (S : zz_S) (G_S : zz_G S) (F_S : zz_fr [] [] (fun _ _ => False) S0 S) (i19_0 : (-128) ≤ x6 ∧ x6 ≤ 2147483647) (i19_1 : (-2147483648) ≤ x7 ∧ x7 ≤ 2147483647) (i19_2 : 0 ≤ x8 ∧ x8 ≤ 2147483647) (R : Nat) (hR : (34359738368 + (S (zz_rf 6 t) 3 - x7).toNat) * 1099511627776 + (17179869184 + (S (zz_rf 6 t) 4 - x8).toNat) = R) (k7 : ∀ (x6 : Int) (x7 : Int) (S : zz_S), zz_G S → zz_fr [] [] (fun _ _ => False) S0 S → ((-128) ≤ x6 ∧ x6 ≤ 2147483647) → ((-2147483648) ≤ x7 ∧ x7 ≤ 2147483647) → (34359738368 + (S (zz_rf 6 t) 3 - x7).toNat) * 1099511627776 + 1099511627775 < R → zz_E g l zy_greatest_4_22 zr_greatest_4_22 (zz_QI n (zp_greatest_4_22 t p1 p2 p3 p4 S0)) S n 7 [some (.ref (zz_rf 6 t)), some (.ref 1032), some (.ref (zz_rf 6 p1)), some (zi p2), some (zi p3), some (zi p4), some (zi x6), some (zi x7)] [] 0 0) (k19 : ∀ (x6 : Int) (x7 : Int) (x8 : Int) (S : zz_S), zz_G S → zz_fr [] [] (fun _ _ => False) S0 S → ((-128) ≤ x6 ∧ x6 ≤ 2147483647) → ((-2147483648) ≤ x7 ∧ x7 ≤ 2147483647) → (0 ≤ x8 ∧ x8 ≤ 2147483647) → (34359738368 + (S (zz_rf 6 t) 3 - x7).toNat) * 1099511627776 + (17179869184 + (S (zz_rf 6 t) 4 - x8).toNat) < R → zz_E g l zy_greatest_4_22 zr_greatest_4_22 (zz_QI n (zp_greatest_4_22 t p1 p2 p3 p4 S0)) S n 19 [some (.ref (zz_rf 6 t)), some (.ref 1032), some (.ref (zz_rf 6 p1)), some (zi p2), some (zi p3), some (zi p4), some (zi x6), some (zi x7), some (zi x8)] [] 0 0) : zz_E g l zy_greatest_4_22 zr_greatest_4_22 (zz_QI n (zp_greatest_4_22 t p1 p2 p3 p4 S0)) S n 19 [some (.ref (zz_rf 6 t)), some (.ref 1032), some (.ref (zz_rf 6 p1)), some (zi p2), some (zi p3), some (zi p4), some (zi x6), some (zi x7), some (zi x8)] [] 0 0 := by
  have b_p1 := zz_rf6 (z := p1) (by omega)
  have b_t := zz_rf6 (z := t) (by omega)
  refine zz_iload (x := x8) rfl zd_4_22_19 ?_
  refine zz_aload_n (x := zz_rf 6 t) rfl zd_4_22_21 ?_
  have g5 := zz_G.r G_S0 (zz_rf 6 t) 4 (-2147483648) 2147483647 (zR_k6_4 (by omega)) (zB_k6 (by omega))
  refine zz_geti (z := S0 (zz_rf 6 t) 4) zd_4_22_22 zf_Layer_26 (zT_k6 (by omega)) rfl (zN_k6 hn (by omega)) (zz_rc F_S (zP_k6 (by omega) rfl) (zQ_k6 (by omega) rfl) (fun h => h) rfl) ?_
  refine zz_icmp_ge (by omega) (by omega) zd_4_22_25 (fun c6 => ?_) (fun c6 => ?_)
  · refine zz_iincN (fun v7 => [some (.ref (zz_rf 6 t)), some (.ref 1032), some (.ref (zz_rf 6 p1)), some (zi p2), some (zi p3), some (zi p4), some (zi x6), some (zi v7), some (zi x8)]) zd_4_22_70 rfl (fun _ => rfl) (fun v7 hv7 ev7 => ?_)
    refine zz_goto zd_4_22_73 ?_
    have e8 : S (zz_rf 6 t) 3 = S0 (zz_rf 6 t) 3 := (zz_rc F_S (zP_k6 (by omega) rfl) (zQ_k6 (by omega) rfl) (fun h => h) rfl)
    refine zz_less (ls1 := [some (.ref (zz_rf 6 t)), some (.ref 1032), some (.ref (zz_rf 6 p1)), some (zi p2), some (zi p3), some (zi p4), some (zi x6), some (zi v7)]) ⟨rfl, ⟨rfl, ⟨rfl, ⟨rfl, ⟨rfl, ⟨rfl, ⟨rfl, ⟨rfl, trivial⟩⟩⟩⟩⟩⟩⟩⟩ ?_
    exact k7 x6 v7 S G_S F_S (by omega) (by omega) (by omega)
  · refine zz_iload (x := x6) rfl zd_4_22_28 ?_
    refine zz_aload_n (x := 1032) rfl zd_4_22_30 ?_
    refine zz_aload_n (x := zz_rf 6 p1) rfl zd_4_22_31 ?_
    refine zz_aload_n (x := zz_rf 6 t) rfl zd_4_22_32 ?_
    have g9 := zz_G.r G_S0 (zz_rf 6 t) 5 (-2147483648) 2147483647 (zR_k6_5 (by omega)) (zB_k6 (by omega))
    refine zz_geti (z := S0 (zz_rf 6 t) 5) zd_4_22_33 zf_Layer_29 (zT_k6 (by omega)) rfl (zN_k6 hn (by omega)) (zz_rc F_S (zP_k6 (by omega) rfl) (zQ_k6 (by omega) rfl) (fun h => h) rfl) ?_
    refine zz_iload_n (x := p2) rfl zd_4_22_36 ?_
    refine zz_imul zd_4_22_37 ?_
    refine zz_nrm (fun v10 hv10 ev10 => ?_)
    refine zz_iload (x := x7) rfl zd_4_22_38 ?_
    refine zz_iadd zd_4_22_40 ?_
    refine zz_nrm (fun v11 hv11 ev11 => ?_)
    refine zz_aload_n (x := zz_rf 6 t) rfl zd_4_22_41 ?_
    refine zz_geti (z := S0 (zz_rf 6 t) 5) zd_4_22_42 zf_Layer_29 (zT_k6 (by omega)) rfl (zN_k6 hn (by omega)) (zz_rc F_S (zP_k6 (by omega) rfl) (zQ_k6 (by omega) rfl) (fun h => h) rfl) ?_
    refine zz_iload (x := p3) rfl zd_4_22_45 ?_
    refine zz_imul zd_4_22_47 ?_
    refine zz_nrm (fun v12 hv12 ev12 => ?_)
    refine zz_iload (x := x8) rfl zd_4_22_48 ?_
    refine zz_iadd zd_4_22_50 ?_
    refine zz_nrm (fun v13 hv13 ev13 => ?_)
    refine zz_iload (x := p4) rfl zd_4_22_51 ?_
    refine zz_callVI [zi v11, zi v13, zi p4] zd_4_22_53 zk_Layer_75 (zT_k6 (by omega)) (zN_k6 hn (by omega)) rfl rfl ⟨Nat.le_of_ble_eq_true rfl, Nat.le_of_ble_eq_true rfl⟩ ⟨rfl, rfl⟩ (Nat.zero_le _) (Nat.zero_le _) (zc_cellAt_4_15 p1 v11 v13 p4 S n hn G_S (by omega) (by omega) (by omega) (by omega)) (fun v15 S14 hP => ?_)
    obtain ⟨rfl, o16⟩ := hP
    refine zz_callSI [.ref 1032, zi v15] zd_4_22_56 zk_Layer_98 rfl rfl ⟨Nat.le_of_ble_eq_true rfl, Nat.le_of_ble_eq_true rfl⟩ ⟨rfl, rfl⟩ (Nat.zero_le _) (Nat.zero_le _) (zc_byteAt_4_17 v15 S n hn G_S (by omega)) (fun v18 S17 hP => ?_)
    obtain ⟨rfl, o19⟩ := hP
    refine zz_mmax (by omega) (by omega) zd_4_22_59 zm_Layer_121 ⟨Nat.le_of_ble_eq_true rfl, Nat.le_of_ble_eq_true rfl⟩ (Nat.zero_le _) (Nat.zero_le _) (fun v20 hv20 => ?_)
    refine zz_istore [some (.ref (zz_rf 6 t)), some (.ref 1032), some (.ref (zz_rf 6 p1)), some (zi p2), some (zi p3), some (zi p4), some (zi v20), some (zi x7), some (zi x8)] zd_4_22_62 (by decide) rfl ?_
    refine zz_iinc [some (.ref (zz_rf 6 t)), some (.ref 1032), some (.ref (zz_rf 6 p1)), some (zi p2), some (zi p3), some (zi p4), some (zi v20), some (zi x7), some (zi (x8 + 1))] zd_4_22_64 rfl rfl ?_
    refine zz_goto zd_4_22_67 ?_
    have e21 : S (zz_rf 6 t) 3 = S0 (zz_rf 6 t) 3 := (zz_rc F_S (zP_k6 (by omega) rfl) (zQ_k6 (by omega) rfl) (fun h => h) rfl)
    have e22 : S (zz_rf 6 t) 4 = S0 (zz_rf 6 t) 4 := (zz_rc F_S (zP_k6 (by omega) rfl) (zQ_k6 (by omega) rfl) (fun h => h) rfl)
    refine zz_less (ls1 := [some (.ref (zz_rf 6 t)), some (.ref 1032), some (.ref (zz_rf 6 p1)), some (zi p2), some (zi p3), some (zi p4), some (zi v20), some (zi x7), some (zi (x8 + 1))]) ⟨rfl, ⟨rfl, ⟨rfl, ⟨rfl, ⟨rfl, ⟨rfl, ⟨rfl, ⟨rfl, ⟨rfl, trivial⟩⟩⟩⟩⟩⟩⟩⟩⟩ ?_
    exact k19 v20 x7 (x8 + 1) S G_S F_S (by omega) (by omega) (by omega) (by omega)
theorem zi_greatest_4_22 {g : mm_G} {l : Launch} (t : Int) (p1 : Int) (p2 : Int) (p3 : Int) (p4 : Int) (S0 : zz_S) (n : Nat) (hn : zz_end ≤ n) (G_S0 : zz_G S0) (ht : 0 ≤ t ∧ t ≤ 23) (hp1 : 0 ≤ p1 ∧ p1 ≤ 23) (hp2 : (-2147483648) ≤ p2 ∧ p2 ≤ 2147483647) (hp3 : (-2147483648) ≤ p3 ∧ p3 ≤ 2147483647) (hp4 : (-2147483648) ≤ p4 ∧ p4 ≤ 2147483647) : ∀ N : Nat, (∀ (x6 : Int) (x7 : Int) (S : zz_S), zz_G S → zz_fr [] [] (fun _ _ => False) S0 S → ((-128) ≤ x6 ∧ x6 ≤ 2147483647) → ((-2147483648) ≤ x7 ∧ x7 ≤ 2147483647) → (34359738368 + (S (zz_rf 6 t) 3 - x7).toNat) * 1099511627776 + 1099511627775 < N → zz_E g l zy_greatest_4_22 zr_greatest_4_22 (zz_QI n (zp_greatest_4_22 t p1 p2 p3 p4 S0)) S n 7 [some (.ref (zz_rf 6 t)), some (.ref 1032), some (.ref (zz_rf 6 p1)), some (zi p2), some (zi p3), some (zi p4), some (zi x6), some (zi x7)] [] 0 0) ∧ (∀ (x6 : Int) (x7 : Int) (x8 : Int) (S : zz_S), zz_G S → zz_fr [] [] (fun _ _ => False) S0 S → ((-128) ≤ x6 ∧ x6 ≤ 2147483647) → ((-2147483648) ≤ x7 ∧ x7 ≤ 2147483647) → (0 ≤ x8 ∧ x8 ≤ 2147483647) → (34359738368 + (S (zz_rf 6 t) 3 - x7).toNat) * 1099511627776 + (17179869184 + (S (zz_rf 6 t) 4 - x8).toNat) < N → zz_E g l zy_greatest_4_22 zr_greatest_4_22 (zz_QI n (zp_greatest_4_22 t p1 p2 p3 p4 S0)) S n 19 [some (.ref (zz_rf 6 t)), some (.ref 1032), some (.ref (zz_rf 6 p1)), some (zi p2), some (zi p3), some (zi p4), some (zi x6), some (zi x7), some (zi x8)] [] 0 0) := by
  intro N
  induction N with
  | zero => exact ⟨fun x6 x7 S _ _ _ _ h => absurd h (Nat.not_lt_zero _), fun x6 x7 x8 S _ _ _ _ _ h => absurd h (Nat.not_lt_zero _)⟩
  | succ N ih =>
    exact ⟨fun x6 x7 S a b j0 j1 hR => zb_greatest_4_22_7 t p1 p2 p3 p4 S0 n hn G_S0 ht hp1 hp2 hp3 hp4 x6 x7 S a b j0 j1 _ rfl (fun x6 x7 x8 S a b j0 j1 j2 h => ih.2 x6 x7 x8 S a b j0 j1 j2 (Nat.lt_of_lt_of_le h (Nat.le_of_lt_succ hR))),
      fun x6 x7 x8 S a b j0 j1 j2 hR => zb_greatest_4_22_19 t p1 p2 p3 p4 S0 n hn G_S0 ht hp1 hp2 hp3 hp4 x6 x7 x8 S a b j0 j1 j2 _ rfl (fun x6 x7 S a b j0 j1 h => ih.1 x6 x7 S a b j0 j1 (Nat.lt_of_lt_of_le h (Nat.le_of_lt_succ hR))) (fun x6 x7 x8 S a b j0 j1 j2 h => ih.2 x6 x7 x8 S a b j0 j1 j2 (Nat.lt_of_lt_of_le h (Nat.le_of_lt_succ hR)))⟩
theorem zc_greatest_4_22 {g : mm_G} {l : Launch} (t : Int) (p1 : Int) (p2 : Int) (p3 : Int) (p4 : Int) (S0 : zz_S) (n : Nat) (hn : zz_end ≤ n) (G_S0 : zz_G S0) (ht : 0 ≤ t ∧ t ≤ 23) (hp1 : 0 ≤ p1 ∧ p1 ≤ 23) (hp2 : (-2147483648) ≤ p2 ∧ p2 ≤ 2147483647) (hp3 : (-2147483648) ≤ p3 ∧ p3 ≤ 2147483647) (hp4 : (-2147483648) ≤ p4 ∧ p4 ≤ 2147483647) : mm_Met g l zy_greatest_4_22 zr_greatest_4_22 [.ref (zz_rf 6 t), .ref 1032, .ref (zz_rf 6 p1), zi p2, zi p3, zi p4] (zz_M S0 n) n (zz_QI n (zp_greatest_4_22 t p1 p2 p3 p4 S0)) := by
  refine zz_enter (by decide) (Nat.le_of_ble_eq_true rfl) (zz_less (ls1 := [some (.ref (zz_rf 6 t)), some (.ref 1032), some (.ref (zz_rf 6 p1)), some (zi p2), some (zi p3), some (zi p4)]) ⟨rfl, ⟨rfl, ⟨rfl, ⟨rfl, ⟨rfl, ⟨rfl, trivial⟩⟩⟩⟩⟩⟩ ?_)
  have F_S0 : zz_fr [] [] (fun _ _ => False) S0 S0 := zz_fr.refl
  have k7 : ∀ (x6 : Int) (x7 : Int) (S : zz_S), zz_G S → zz_fr [] [] (fun _ _ => False) S0 S → ((-128) ≤ x6 ∧ x6 ≤ 2147483647) → ((-2147483648) ≤ x7 ∧ x7 ≤ 2147483647) → zz_E g l zy_greatest_4_22 zr_greatest_4_22 (zz_QI n (zp_greatest_4_22 t p1 p2 p3 p4 S0)) S n 7 [some (.ref (zz_rf 6 t)), some (.ref 1032), some (.ref (zz_rf 6 p1)), some (zi p2), some (zi p3), some (zi p4), some (zi x6), some (zi x7)] [] 0 0 := fun x6 x7 S a b j0 j1 => (zi_greatest_4_22 (g := g) (l := l) t p1 p2 p3 p4 S0 n hn G_S0 ht hp1 hp2 hp3 hp4 _).1 x6 x7 S a b j0 j1 (Nat.lt_succ_self _)
  have b_p1 := zz_rf6 (z := p1) (by omega)
  have b_t := zz_rf6 (z := t) (by omega)
  refine zz_bipush (by decide) zd_4_22_0 ?_
  refine zz_istore [some (.ref (zz_rf 6 t)), some (.ref 1032), some (.ref (zz_rf 6 p1)), some (zi p2), some (zi p3), some (zi p4), some (zi (-128))] zd_4_22_2 (by decide) rfl ?_
  refine zz_iconst zd_4_22_4 ?_
  refine zz_istore [some (.ref (zz_rf 6 t)), some (.ref 1032), some (.ref (zz_rf 6 p1)), some (zi p2), some (zi p3), some (zi p4), some (zi (-128)), some (zi 0)] zd_4_22_5 (by decide) rfl ?_
  refine zz_less (ls1 := [some (.ref (zz_rf 6 t)), some (.ref 1032), some (.ref (zz_rf 6 p1)), some (zi p2), some (zi p3), some (zi p4), some (zi (-128)), some (zi 0)]) ⟨rfl, ⟨rfl, ⟨rfl, ⟨rfl, ⟨rfl, ⟨rfl, ⟨rfl, ⟨rfl, trivial⟩⟩⟩⟩⟩⟩⟩⟩ ?_
  exact k7 (-128) 0 S0 G_S0 F_S0 (by omega) (by omega)
theorem zk_Layer_95 : mm_Vl "TensorForge$Layer" 95 2 5 zy_greatest_4_22 := ⟨zyw_greatest_4_22, (R_Layer, F_Layer, 15), rfl, mm_tb_1 898 (by decide +kernel) rfl, mm_tb_1 900 (by decide +kernel) rfl, mm_tb_s 40 (by decide +kernel) rfl⟩
theorem zd_4_19_41 : zz_D zy_sumOf_4_19 41 (.ireturn) 1 42 := ⟨by decide +kernel, rfl⟩
theorem zd_4_19_8 : zz_D zy_sumOf_4_19 8 (.aload_n 0) 1 9 := ⟨by decide +kernel, rfl⟩
theorem zd_4_19_9 : zz_D zy_sumOf_4_19 9 (.aload_n 1) 1 10 := ⟨by decide +kernel, rfl⟩
theorem zd_4_19_10 : zz_D zy_sumOf_4_19 10 (.aload_n 2) 1 11 := ⟨by decide +kernel, rfl⟩
theorem zd_4_19_11 : zz_D zy_sumOf_4_19 11 (.iload 4) 2 13 := ⟨by decide +kernel, rfl⟩
theorem zd_4_19_13 : zz_D zy_sumOf_4_19 13 (.iload 5) 2 15 := ⟨by decide +kernel, rfl⟩
theorem zd_4_19_15 : zz_D zy_sumOf_4_19 15 (.iload 6) 2 17 := ⟨by decide +kernel, rfl⟩
theorem zd_4_19_17 : zz_D zy_sumOf_4_19 17 (.invokevirtual 91) 3 20 := ⟨by decide +kernel, rfl⟩
abbrev zy_convolved_4_20 : mm_Y := (⟨"TensorForge$Layer", "convolved", "([BLTensorForge$Layer;III)I"⟩, prog_4_method_20_code, 12, (some .int))
theorem zyw_convolved_4_20 : mm_Yw zy_convolved_4_20 5 := ⟨mm_tb_1 877 (by decide +kernel) rfl, mm_tb_1 3 (by decide +kernel) rfl, ⟨by decide, by decide⟩, by decide +kernel⟩
theorem zd_4_20_0 : zz_D zy_convolved_4_20 0 (.aload_n 1) 1 1 := ⟨by decide +kernel, rfl⟩
theorem zd_4_20_1 : zz_D zy_convolved_4_20 1 (.aload_n 0) 1 2 := ⟨by decide +kernel, rfl⟩
theorem zd_4_20_2 : zz_D zy_convolved_4_20 2 (.iload 5) 2 4 := ⟨by decide +kernel, rfl⟩
theorem zd_4_20_4 : zz_D zy_convolved_4_20 4 (.invokevirtual 102) 3 7 := ⟨by decide +kernel, rfl⟩
theorem zk_Layer_102 : mm_Vl "TensorForge$Layer" 102 2 1 zy_biasAt_4_13 := ⟨zyw_biasAt_4_13, (R_Layer, F_Layer, 15), rfl, mm_tb_1 878 (by decide +kernel) rfl, mm_tb_1 879 (by decide +kernel) rfl, mm_tb_1 880 (by decide +kernel) rfl⟩
theorem zd_4_20_7 : zz_D zy_convolved_4_20 7 (.invokestatic 106) 3 10 := ⟨by decide +kernel, rfl⟩
theorem zk_Layer_106 : mm_Sl "TensorForge$Layer" 106 2 zy_intAt_6_4 := ⟨zyw_intAt_6_4, mm_tb_1 882 (by decide +kernel) rfl, mm_tb_1 811 (by decide +kernel) rfl⟩
theorem zd_4_20_10 : zz_D zy_convolved_4_20 10 (.istore 6) 2 12 := ⟨by decide +kernel, rfl⟩
theorem zd_4_20_12 : zz_D zy_convolved_4_20 12 (.iconst 0) 1 13 := ⟨by decide +kernel, rfl⟩
theorem zd_4_20_13 : zz_D zy_convolved_4_20 13 (.istore 7) 2 15 := ⟨by decide +kernel, rfl⟩
theorem zd_4_20_15 : zz_D zy_convolved_4_20 15 (.iload 7) 2 17 := ⟨by decide +kernel, rfl⟩
theorem zd_4_20_17 : zz_D zy_convolved_4_20 17 (.aload_n 0) 1 18 := ⟨by decide +kernel, rfl⟩
theorem zd_4_20_18 : zz_D zy_convolved_4_20 18 (.getfield 23) 3 21 := ⟨by decide +kernel, rfl⟩
theorem zd_4_20_21 : zz_B zy_convolved_4_20 21 (Instr.if_icmp .ge) 128 24 := ⟨107, by decide +kernel, rfl, rfl⟩
theorem zd_4_20_128 : zz_D zy_convolved_4_20 128 (.iload 6) 2 130 := ⟨by decide +kernel, rfl⟩
theorem zd_4_20_130 : zz_D zy_convolved_4_20 130 (.ireturn) 1 131 := ⟨by decide +kernel, rfl⟩
theorem zd_4_20_24 : zz_D zy_convolved_4_20 24 (.iconst 0) 1 25 := ⟨by decide +kernel, rfl⟩
theorem zd_4_20_25 : zz_D zy_convolved_4_20 25 (.istore 8) 2 27 := ⟨by decide +kernel, rfl⟩
theorem zd_4_20_27 : zz_D zy_convolved_4_20 27 (.iload 8) 2 29 := ⟨by decide +kernel, rfl⟩
theorem zd_4_20_29 : zz_D zy_convolved_4_20 29 (.aload_n 0) 1 30 := ⟨by decide +kernel, rfl⟩
theorem zd_4_20_30 : zz_D zy_convolved_4_20 30 (.getfield 26) 3 33 := ⟨by decide +kernel, rfl⟩
theorem zd_4_20_33 : zz_B zy_convolved_4_20 33 (Instr.if_icmp .ge) 122 36 := ⟨89, by decide +kernel, rfl, rfl⟩
theorem zd_4_20_122 : zz_D zy_convolved_4_20 122 (.iinc 7 1) 3 125 := ⟨by decide +kernel, rfl⟩
theorem zd_4_20_125 : zz_B zy_convolved_4_20 125 Instr.goto 15 128 := ⟨(-110), by decide +kernel, rfl, rfl⟩
theorem zd_4_20_36 : zz_D zy_convolved_4_20 36 (.aload_n 0) 1 37 := ⟨by decide +kernel, rfl⟩
theorem zd_4_20_37 : zz_D zy_convolved_4_20 37 (.getfield 29) 3 40 := ⟨by decide +kernel, rfl⟩
theorem zd_4_20_40 : zz_D zy_convolved_4_20 40 (.iload_n 3) 1 41 := ⟨by decide +kernel, rfl⟩
theorem zd_4_20_41 : zz_D zy_convolved_4_20 41 (.imul) 1 42 := ⟨by decide +kernel, rfl⟩
theorem zd_4_20_42 : zz_D zy_convolved_4_20 42 (.iload 7) 2 44 := ⟨by decide +kernel, rfl⟩
theorem zd_4_20_44 : zz_D zy_convolved_4_20 44 (.iadd) 1 45 := ⟨by decide +kernel, rfl⟩
theorem zd_4_20_45 : zz_D zy_convolved_4_20 45 (.aload_n 0) 1 46 := ⟨by decide +kernel, rfl⟩
theorem zd_4_20_46 : zz_D zy_convolved_4_20 46 (.getfield 32) 3 49 := ⟨by decide +kernel, rfl⟩
theorem zd_4_20_49 : zz_D zy_convolved_4_20 49 (.isub) 1 50 := ⟨by decide +kernel, rfl⟩
theorem zd_4_20_50 : zz_D zy_convolved_4_20 50 (.istore 9) 2 52 := ⟨by decide +kernel, rfl⟩
theorem zd_4_20_52 : zz_D zy_convolved_4_20 52 (.aload_n 0) 1 53 := ⟨by decide +kernel, rfl⟩
theorem zd_4_20_53 : zz_D zy_convolved_4_20 53 (.getfield 29) 3 56 := ⟨by decide +kernel, rfl⟩
theorem zd_4_20_56 : zz_D zy_convolved_4_20 56 (.iload 4) 2 58 := ⟨by decide +kernel, rfl⟩
theorem zd_4_20_58 : zz_D zy_convolved_4_20 58 (.imul) 1 59 := ⟨by decide +kernel, rfl⟩
theorem zd_4_20_59 : zz_D zy_convolved_4_20 59 (.iload 8) 2 61 := ⟨by decide +kernel, rfl⟩
theorem zd_4_20_61 : zz_D zy_convolved_4_20 61 (.iadd) 1 62 := ⟨by decide +kernel, rfl⟩
theorem zd_4_20_62 : zz_D zy_convolved_4_20 62 (.aload_n 0) 1 63 := ⟨by decide +kernel, rfl⟩
theorem zd_4_20_63 : zz_D zy_convolved_4_20 63 (.getfield 32) 3 66 := ⟨by decide +kernel, rfl⟩
theorem zd_4_20_66 : zz_D zy_convolved_4_20 66 (.isub) 1 67 := ⟨by decide +kernel, rfl⟩
theorem zd_4_20_67 : zz_D zy_convolved_4_20 67 (.istore 10) 2 69 := ⟨by decide +kernel, rfl⟩
theorem zd_4_20_69 : zz_D zy_convolved_4_20 69 (.aload_n 2) 1 70 := ⟨by decide +kernel, rfl⟩
theorem zd_4_20_70 : zz_D zy_convolved_4_20 70 (.iload 9) 2 72 := ⟨by decide +kernel, rfl⟩
theorem zd_4_20_72 : zz_D zy_convolved_4_20 72 (.iload 10) 2 74 := ⟨by decide +kernel, rfl⟩
theorem zd_4_20_74 : zz_D zy_convolved_4_20 74 (.invokevirtual 109) 3 77 := ⟨by decide +kernel, rfl⟩
abbrev zy_hasPlace_4_16 : mm_Y := (⟨"TensorForge$Layer", "hasPlace", "(II)Z"⟩, prog_4_method_16_code, 3, (some .boolean))
theorem zyw_hasPlace_4_16 : mm_Yw zy_hasPlace_4_16 2 := ⟨mm_tb_1 886 (by decide +kernel) rfl, mm_tb_1 3 (by decide +kernel) rfl, ⟨by decide, by decide⟩, by decide +kernel⟩
theorem zd_4_16_0 : zz_D zy_hasPlace_4_16 0 (.iload_n 1) 1 1 := ⟨by decide +kernel, rfl⟩
theorem zd_4_16_1 : zz_B zy_hasPlace_4_16 1 (Instr.ifCond .lt) 28 4 := ⟨27, by decide +kernel, rfl, rfl⟩
theorem zd_4_16_28 : zz_D zy_hasPlace_4_16 28 (.iconst 0) 1 29 := ⟨by decide +kernel, rfl⟩
theorem zd_4_16_29 : zz_D zy_hasPlace_4_16 29 (.ireturn) 1 30 := ⟨by decide +kernel, rfl⟩
theorem zd_4_16_4 : zz_D zy_hasPlace_4_16 4 (.iload_n 1) 1 5 := ⟨by decide +kernel, rfl⟩
theorem zd_4_16_5 : zz_D zy_hasPlace_4_16 5 (.aload_n 0) 1 6 := ⟨by decide +kernel, rfl⟩
theorem zd_4_16_6 : zz_D zy_hasPlace_4_16 6 (.getfield 54) 3 9 := ⟨by decide +kernel, rfl⟩
theorem zd_4_16_9 : zz_B zy_hasPlace_4_16 9 (Instr.if_icmp .ge) 28 12 := ⟨19, by decide +kernel, rfl, rfl⟩
theorem zd_4_16_12 : zz_D zy_hasPlace_4_16 12 (.iload_n 2) 1 13 := ⟨by decide +kernel, rfl⟩
theorem zd_4_16_13 : zz_B zy_hasPlace_4_16 13 (Instr.ifCond .lt) 28 16 := ⟨15, by decide +kernel, rfl, rfl⟩
theorem zd_4_16_16 : zz_D zy_hasPlace_4_16 16 (.iload_n 2) 1 17 := ⟨by decide +kernel, rfl⟩
theorem zd_4_16_17 : zz_D zy_hasPlace_4_16 17 (.aload_n 0) 1 18 := ⟨by decide +kernel, rfl⟩
theorem zd_4_16_18 : zz_D zy_hasPlace_4_16 18 (.getfield 57) 3 21 := ⟨by decide +kernel, rfl⟩
theorem zd_4_16_21 : zz_B zy_hasPlace_4_16 21 (Instr.if_icmp .ge) 28 24 := ⟨7, by decide +kernel, rfl, rfl⟩
theorem zd_4_16_24 : zz_D zy_hasPlace_4_16 24 (.iconst 1) 1 25 := ⟨by decide +kernel, rfl⟩
theorem zd_4_16_25 : zz_B zy_hasPlace_4_16 25 Instr.goto 29 28 := ⟨4, by decide +kernel, rfl, rfl⟩
-- TensorForge$Layer hasPlace (II)Z
abbrev zr_hasPlace_4_16 : Room := { frames := 0, cells := 0, slots := 0, locals := 0 }
def zp_hasPlace_4_16 (t : Int) (p0 : Int) (p1 : Int) (S0 : zz_S) : Int → zz_S → Prop := fun r S => S0 = S ∧ (0 ≤ r ∧ r ≤ 1)
theorem zc_hasPlace_4_16 {g : mm_G} {l : Launch} (t : Int) (p0 : Int) (p1 : Int) (S0 : zz_S) (n : Nat) (hn : zz_end ≤ n) (G_S0 : zz_G S0) (ht : 0 ≤ t ∧ t ≤ 23) (hp0 : (-2147483648) ≤ p0 ∧ p0 ≤ 2147483647) (hp1 : (-2147483648) ≤ p1 ∧ p1 ≤ 2147483647) : mm_Met g l zy_hasPlace_4_16 zr_hasPlace_4_16 [.ref (zz_rf 6 t), zi p0, zi p1] (zz_M S0 n) n (zz_QI n (zp_hasPlace_4_16 t p0 p1 S0)) := by
  refine zz_enter (by decide) (Nat.le_of_ble_eq_true rfl) (zz_less (ls1 := [some (.ref (zz_rf 6 t)), some (zi p0), some (zi p1)]) ⟨rfl, ⟨rfl, ⟨rfl, trivial⟩⟩⟩ ?_)
  have b_t := zz_rf6 (z := t) (by omega)
  refine zz_iload_n (x := p0) rfl zd_4_16_0 ?_
  refine zz_if_lt (by omega) zd_4_16_1 (fun c1 => ?_) (fun c1 => ?_)
  · refine zz_iconst zd_4_16_28 ?_
    exact zz_zret zd_4_16_29 rfl (by omega) (Nat.zero_le _) (Nat.zero_le _) ⟨_, _, rfl, rfl, by omega⟩
  · refine zz_iload_n (x := p0) rfl zd_4_16_4 ?_
    refine zz_aload_n (x := zz_rf 6 t) rfl zd_4_16_5 ?_
    have g2 := zz_G.r G_S0 (zz_rf 6 t) 10 (-2147483648) 2147483647 (zR_k6_10 (by omega)) (zB_k6 (by omega))
    refine zz_geti (z := S0 (zz_rf 6 t) 10) zd_4_16_6 zf_Layer_54 (zT_k6 (by omega)) rfl (zN_k6 hn (by omega)) rfl ?_
    refine zz_icmp_ge (by omega) (by omega) zd_4_16_9 (fun c3 => ?_) (fun c3 => ?_)
    · refine zz_iconst zd_4_16_28 ?_
      exact zz_zret zd_4_16_29 rfl (by omega) (Nat.zero_le _) (Nat.zero_le _) ⟨_, _, rfl, rfl, by omega⟩
    · refine zz_iload_n (x := p1) rfl zd_4_16_12 ?_
      refine zz_if_lt (by omega) zd_4_16_13 (fun c4 => ?_) (fun c4 => ?_)
      · refine zz_iconst zd_4_16_28 ?_
        exact zz_zret zd_4_16_29 rfl (by omega) (Nat.zero_le _) (Nat.zero_le _) ⟨_, _, rfl, rfl, by omega⟩
      · refine zz_iload_n (x := p1) rfl zd_4_16_16 ?_
        refine zz_aload_n (x := zz_rf 6 t) rfl zd_4_16_17 ?_
        have g5 := zz_G.r G_S0 (zz_rf 6 t) 11 (-2147483648) 2147483647 (zR_k6_11 (by omega)) (zB_k6 (by omega))
        refine zz_geti (z := S0 (zz_rf 6 t) 11) zd_4_16_18 zf_Layer_57 (zT_k6 (by omega)) rfl (zN_k6 hn (by omega)) rfl ?_
        refine zz_icmp_ge (by omega) (by omega) zd_4_16_21 (fun c6 => ?_) (fun c6 => ?_)
        · refine zz_iconst zd_4_16_28 ?_
          exact zz_zret zd_4_16_29 rfl (by omega) (Nat.zero_le _) (Nat.zero_le _) ⟨_, _, rfl, rfl, by omega⟩
        · refine zz_iconst zd_4_16_24 ?_
          refine zz_goto zd_4_16_25 ?_
          exact zz_zret zd_4_16_29 rfl (by omega) (Nat.zero_le _) (Nat.zero_le _) ⟨_, _, rfl, rfl, by omega⟩
theorem zk_Layer_109 : mm_Vl "TensorForge$Layer" 109 2 2 zy_hasPlace_4_16 := ⟨zyw_hasPlace_4_16, (R_Layer, F_Layer, 15), rfl, mm_tb_1 883 (by decide +kernel) rfl, mm_tb_1 884 (by decide +kernel) rfl, mm_tb_1 885 (by decide +kernel) rfl⟩
theorem zd_4_20_77 : zz_B zy_convolved_4_20 77 (Instr.ifCond .eq) 116 80 := ⟨39, by decide +kernel, rfl, rfl⟩
theorem zd_4_20_116 : zz_D zy_convolved_4_20 116 (.iinc 8 1) 3 119 := ⟨by decide +kernel, rfl⟩
theorem zd_4_20_119 : zz_B zy_convolved_4_20 119 Instr.goto 27 122 := ⟨(-92), by decide +kernel, rfl, rfl⟩
theorem zd_4_20_80 : zz_D zy_convolved_4_20 80 (.aload_n 2) 1 81 := ⟨by decide +kernel, rfl⟩
theorem zd_4_20_81 : zz_D zy_convolved_4_20 81 (.iload 9) 2 83 := ⟨by decide +kernel, rfl⟩
theorem zd_4_20_83 : zz_D zy_convolved_4_20 83 (.iload 10) 2 85 := ⟨by decide +kernel, rfl⟩
theorem zd_4_20_85 : zz_D zy_convolved_4_20 85 (.iconst 0) 1 86 := ⟨by decide +kernel, rfl⟩
theorem zd_4_20_86 : zz_D zy_convolved_4_20 86 (.invokevirtual 75) 3 89 := ⟨by decide +kernel, rfl⟩
theorem zd_4_20_89 : zz_D zy_convolved_4_20 89 (.istore 11) 2 91 := ⟨by decide +kernel, rfl⟩
theorem zd_4_20_91 : zz_D zy_convolved_4_20 91 (.iload 6) 2 93 := ⟨by decide +kernel, rfl⟩
theorem zd_4_20_93 : zz_D zy_convolved_4_20 93 (.aload_n 0) 1 94 := ⟨by decide +kernel, rfl⟩
theorem zd_4_20_94 : zz_D zy_convolved_4_20 94 (.aload_n 1) 1 95 := ⟨by decide +kernel, rfl⟩
theorem zd_4_20_95 : zz_D zy_convolved_4_20 95 (.aload_n 2) 1 96 := ⟨by decide +kernel, rfl⟩
theorem zd_4_20_96 : zz_D zy_convolved_4_20 96 (.iload 11) 2 98 := ⟨by decide +kernel, rfl⟩
theorem zd_4_20_98 : zz_D zy_convolved_4_20 98 (.aload_n 0) 1 99 := ⟨by decide +kernel, rfl⟩
theorem zd_4_20_99 : zz_D zy_convolved_4_20 99 (.aload_n 2) 1 100 := ⟨by decide +kernel, rfl⟩
theorem zd_4_20_100 : zz_D zy_convolved_4_20 100 (.iload 7) 2 102 := ⟨by decide +kernel, rfl⟩
theorem zd_4_20_102 : zz_D zy_convolved_4_20 102 (.iload 8) 2 104 := ⟨by decide +kernel, rfl⟩
theorem zd_4_20_104 : zz_D zy_convolved_4_20 104 (.iconst 0) 1 105 := ⟨by decide +kernel, rfl⟩
theorem zd_4_20_105 : zz_D zy_convolved_4_20 105 (.iload 5) 2 107 := ⟨by decide +kernel, rfl⟩
theorem zd_4_20_107 : zz_D zy_convolved_4_20 107 (.invokevirtual 113) 3 110 := ⟨by decide +kernel, rfl⟩
theorem zk_Layer_113 : mm_Vl "TensorForge$Layer" 113 2 5 zy_weightAt_4_14 := ⟨zyw_weightAt_4_14, (R_Layer, F_Layer, 15), rfl, mm_tb_1 887 (by decide +kernel) rfl, mm_tb_1 888 (by decide +kernel) rfl, mm_tb_1 889 (by decide +kernel) rfl⟩
theorem zd_4_20_110 : zz_D zy_convolved_4_20 110 (.invokevirtual 117) 3 113 := ⟨by decide +kernel, rfl⟩
abbrev zy_product_4_21 : mm_Y := (⟨"TensorForge$Layer", "product", "([BLTensorForge$Layer;II)I"⟩, prog_4_method_21_code, 7, (some .int))
theorem zyw_product_4_21 : mm_Yw zy_product_4_21 4 := ⟨mm_tb_1 894 (by decide +kernel) rfl, mm_tb_1 3 (by decide +kernel) rfl, ⟨by decide, by decide⟩, by decide +kernel⟩
theorem zd_4_21_0 : zz_D zy_product_4_21 0 (.iconst 0) 1 1 := ⟨by decide +kernel, rfl⟩
theorem zd_4_21_1 : zz_D zy_product_4_21 1 (.istore 5) 2 3 := ⟨by decide +kernel, rfl⟩
theorem zd_4_21_3 : zz_D zy_product_4_21 3 (.iconst 0) 1 4 := ⟨by decide +kernel, rfl⟩
theorem zd_4_21_4 : zz_D zy_product_4_21 4 (.istore 6) 2 6 := ⟨by decide +kernel, rfl⟩
theorem zd_4_21_6 : zz_D zy_product_4_21 6 (.iload 6) 2 8 := ⟨by decide +kernel, rfl⟩
theorem zd_4_21_8 : zz_D zy_product_4_21 8 (.aload_n 2) 1 9 := ⟨by decide +kernel, rfl⟩
theorem zd_4_21_9 : zz_D zy_product_4_21 9 (.getfield 60) 3 12 := ⟨by decide +kernel, rfl⟩
theorem zd_4_21_12 : zz_B zy_product_4_21 12 (Instr.if_icmp .ge) 49 15 := ⟨37, by decide +kernel, rfl, rfl⟩
theorem zd_4_21_49 : zz_D zy_product_4_21 49 (.iload 5) 2 51 := ⟨by decide +kernel, rfl⟩
theorem zd_4_21_51 : zz_D zy_product_4_21 51 (.ireturn) 1 52 := ⟨by decide +kernel, rfl⟩
theorem zd_4_21_15 : zz_D zy_product_4_21 15 (.iload 5) 2 17 := ⟨by decide +kernel, rfl⟩
theorem zd_4_21_17 : zz_D zy_product_4_21 17 (.aload_n 1) 1 18 := ⟨by decide +kernel, rfl⟩
theorem zd_4_21_18 : zz_D zy_product_4_21 18 (.iload_n 3) 1 19 := ⟨by decide +kernel, rfl⟩
theorem zd_4_21_19 : zz_D zy_product_4_21 19 (.iload 6) 2 21 := ⟨by decide +kernel, rfl⟩
theorem zd_4_21_21 : zz_D zy_product_4_21 21 (.iadd) 1 22 := ⟨by decide +kernel, rfl⟩
theorem zd_4_21_22 : zz_D zy_product_4_21 22 (.invokestatic 98) 3 25 := ⟨by decide +kernel, rfl⟩
theorem zd_4_21_25 : zz_D zy_product_4_21 25 (.aload_n 1) 1 26 := ⟨by decide +kernel, rfl⟩
theorem zd_4_21_26 : zz_D zy_product_4_21 26 (.iload 4) 2 28 := ⟨by decide +kernel, rfl⟩
theorem zd_4_21_28 : zz_D zy_product_4_21 28 (.iload 6) 2 30 := ⟨by decide +kernel, rfl⟩
theorem zd_4_21_30 : zz_D zy_product_4_21 30 (.aload_n 0) 1 31 := ⟨by decide +kernel, rfl⟩
theorem zd_4_21_31 : zz_D zy_product_4_21 31 (.getfield 60) 3 34 := ⟨by decide +kernel, rfl⟩
theorem zd_4_21_34 : zz_D zy_product_4_21 34 (.imul) 1 35 := ⟨by decide +kernel, rfl⟩
theorem zd_4_21_35 : zz_D zy_product_4_21 35 (.iadd) 1 36 := ⟨by decide +kernel, rfl⟩
theorem zd_4_21_36 : zz_D zy_product_4_21 36 (.invokestatic 98) 3 39 := ⟨by decide +kernel, rfl⟩
theorem zd_4_21_39 : zz_D zy_product_4_21 39 (.imul) 1 40 := ⟨by decide +kernel, rfl⟩
theorem zd_4_21_40 : zz_D zy_product_4_21 40 (.iadd) 1 41 := ⟨by decide +kernel, rfl⟩
theorem zd_4_21_41 : zz_D zy_product_4_21 41 (.istore 5) 2 43 := ⟨by decide +kernel, rfl⟩
theorem zd_4_21_43 : zz_D zy_product_4_21 43 (.iinc 6 1) 3 46 := ⟨by decide +kernel, rfl⟩
theorem zd_4_21_46 : zz_B zy_product_4_21 46 Instr.goto 6 49 := ⟨(-40), by decide +kernel, rfl, rfl⟩
-- TensorForge$Layer product ([BLTensorForge$Layer;II)I
abbrev zr_product_4_21 : Room := { frames := 1, cells := 0, slots := 0, locals := 15 }
def zp_product_4_21 (t : Int) (p1 : Int) (p2 : Int) (p3 : Int) (S0 : zz_S) : Int → zz_S → Prop := fun r S => S0 = S ∧ ((-2147483648) ≤ r ∧ r ≤ 2147483647)
theorem zb_product_4_21_6 {g : mm_G} {l : Launch} (t : Int) (p1 : Int) (p2 : Int) (p3 : Int) (S0 : zz_S) (n : Nat) (hn : zz_end ≤ n) (G_S0 : zz_G S0) (ht : 0 ≤ t ∧ t ≤ 23) (hp1 : 0 ≤ p1 ∧ p1 ≤ 23) (hp2 : (-2147483648) ≤ p2 ∧ p2 ≤ 2147483647) (hp3 : (-2147483648) ≤ p3 ∧ p3 ≤ 2147483647) (x5 : Int) (x6 : Int) (S : zz_S) (G_S : zz_G S) (F_S : zz_fr [] [] (fun _ _ => False) S0 S) (i6_0 : (-2147483648) ≤ x5 ∧ x5 ≤ 2147483647) (i6_1 : 0 ≤ x6 ∧ x6 ≤ 2147483647) (R : Nat) (hR : (2147483647 - x6).toNat = R) (k6 : ∀ (x5 : Int) (x6 : Int) (S : zz_S), zz_G S → zz_fr [] [] (fun _ _ => False) S0 S → ((-2147483648) ≤ x5 ∧ x5 ≤ 2147483647) → (0 ≤ x6 ∧ x6 ≤ 2147483647) → (2147483647 - x6).toNat < R → zz_E g l zy_product_4_21 zr_product_4_21 (zz_QI n (zp_product_4_21 t p1 p2 p3 S0)) S n 6 [some (.ref (zz_rf 6 t)), some (.ref 1032), some (.ref (zz_rf 6 p1)), some (zi p2), some (zi p3), some (zi x5), some (zi x6)] [] 0 0) : zz_E g l zy_product_4_21 zr_product_4_21 (zz_QI n (zp_product_4_21 t p1 p2 p3 S0)) S n 6 [some (.ref (zz_rf 6 t)), some (.ref 1032), some (.ref (zz_rf 6 p1)), some (zi p2), some (zi p3), some (zi x5), some (zi x6)] [] 0 0 := by
  have b_p1 := zz_rf6 (z := p1) (by omega)
  have b_t := zz_rf6 (z := t) (by omega)
  refine zz_iload (x := x6) rfl zd_4_21_6 ?_
  refine zz_aload_n (x := zz_rf 6 p1) rfl zd_4_21_8 ?_
  have g1 := zz_G.r G_S0 (zz_rf 6 p1) 12 (-2147483648) 2147483647 (zR_k6_12 (by omega)) (zB_k6 (by omega))
  refine zz_geti (z := S0 (zz_rf 6 p1) 12) zd_4_21_9 zf_Layer_60 (zT_k6 (by omega)) rfl (zN_k6 hn (by omega)) (zz_rc F_S (zP_k6 (by omega) rfl) (zQ_k6 (by omega) rfl) (fun h => h) rfl) ?_
  refine zz_icmp_ge (by omega) (by omega) zd_4_21_12 (fun c2 => ?_) (fun c2 => ?_)
  · refine zz_iload (x := x5) rfl zd_4_21_49 ?_
    exact zz_iret zd_4_21_51 rfl (Nat.zero_le _) (Nat.zero_le _) ⟨_, _, rfl, zz_fr.eq F_S, by omega⟩
  · refine zz_iload (x := x5) rfl zd_4_21_15 ?_
    refine zz_aload_n (x := 1032) rfl zd_4_21_17 ?_
    refine zz_iload_n (x := p2) rfl zd_4_21_18 ?_
    refine zz_iload (x := x6) rfl zd_4_21_19 ?_
    refine zz_iadd zd_4_21_21 ?_
    refine zz_nrm (fun v3 hv3 ev3 => ?_)
    refine zz_callSI [.ref 1032, zi v3] zd_4_21_22 zk_Layer_98 rfl rfl ⟨Nat.le_of_ble_eq_true rfl, Nat.le_of_ble_eq_true rfl⟩ ⟨rfl, rfl⟩ (Nat.zero_le _) (Nat.zero_le _) (zc_byteAt_4_17 v3 S n hn G_S (by omega)) (fun v5 S4 hP => ?_)
    obtain ⟨rfl, o6⟩ := hP
    refine zz_aload_n (x := 1032) rfl zd_4_21_25 ?_
    refine zz_iload (x := p3) rfl zd_4_21_26 ?_
    refine zz_iload (x := x6) rfl zd_4_21_28 ?_
    refine zz_aload_n (x := zz_rf 6 t) rfl zd_4_21_30 ?_
    have g7 := zz_G.r G_S0 (zz_rf 6 t) 12 (-2147483648) 2147483647 (zR_k6_12 (by omega)) (zB_k6 (by omega))
    refine zz_geti (z := S0 (zz_rf 6 t) 12) zd_4_21_31 zf_Layer_60 (zT_k6 (by omega)) rfl (zN_k6 hn (by omega)) (zz_rc F_S (zP_k6 (by omega) rfl) (zQ_k6 (by omega) rfl) (fun h => h) rfl) ?_
    refine zz_imul zd_4_21_34 ?_
    refine zz_nrm (fun v8 hv8 ev8 => ?_)
    refine zz_iadd zd_4_21_35 ?_
    refine zz_nrm (fun v9 hv9 ev9 => ?_)
    refine zz_callSI [.ref 1032, zi v9] zd_4_21_36 zk_Layer_98 rfl rfl ⟨Nat.le_of_ble_eq_true rfl, Nat.le_of_ble_eq_true rfl⟩ ⟨rfl, rfl⟩ (Nat.zero_le _) (Nat.zero_le _) (zc_byteAt_4_17 v9 S n hn G_S (by omega)) (fun v11 S10 hP => ?_)
    obtain ⟨rfl, o12⟩ := hP
    refine zz_imul zd_4_21_39 ?_
    refine zz_nrm (fun v13 hv13 ev13 => ?_)
    refine zz_iadd zd_4_21_40 ?_
    refine zz_nrm (fun v14 hv14 ev14 => ?_)
    refine zz_istore [some (.ref (zz_rf 6 t)), some (.ref 1032), some (.ref (zz_rf 6 p1)), some (zi p2), some (zi p3), some (zi v14), some (zi x6)] zd_4_21_41 (by decide) rfl ?_
    refine zz_iinc [some (.ref (zz_rf 6 t)), some (.ref 1032), some (.ref (zz_rf 6 p1)), some (zi p2), some (zi p3), some (zi v14), some (zi (x6 + 1))] zd_4_21_43 rfl rfl ?_
    refine zz_goto zd_4_21_46 ?_
    refine zz_less (ls1 := [some (.ref (zz_rf 6 t)), some (.ref 1032), some (.ref (zz_rf 6 p1)), some (zi p2), some (zi p3), some (zi v14), some (zi (x6 + 1))]) ⟨rfl, ⟨rfl, ⟨rfl, ⟨rfl, ⟨rfl, ⟨rfl, ⟨rfl, trivial⟩⟩⟩⟩⟩⟩⟩ ?_
    exact k6 v14 (x6 + 1) S G_S F_S (by omega) (by omega) (by omega)
theorem zi_product_4_21 {g : mm_G} {l : Launch} (t : Int) (p1 : Int) (p2 : Int) (p3 : Int) (S0 : zz_S) (n : Nat) (hn : zz_end ≤ n) (G_S0 : zz_G S0) (ht : 0 ≤ t ∧ t ≤ 23) (hp1 : 0 ≤ p1 ∧ p1 ≤ 23) (hp2 : (-2147483648) ≤ p2 ∧ p2 ≤ 2147483647) (hp3 : (-2147483648) ≤ p3 ∧ p3 ≤ 2147483647) : ∀ N : Nat, (∀ (x5 : Int) (x6 : Int) (S : zz_S), zz_G S → zz_fr [] [] (fun _ _ => False) S0 S → ((-2147483648) ≤ x5 ∧ x5 ≤ 2147483647) → (0 ≤ x6 ∧ x6 ≤ 2147483647) → (2147483647 - x6).toNat < N → zz_E g l zy_product_4_21 zr_product_4_21 (zz_QI n (zp_product_4_21 t p1 p2 p3 S0)) S n 6 [some (.ref (zz_rf 6 t)), some (.ref 1032), some (.ref (zz_rf 6 p1)), some (zi p2), some (zi p3), some (zi x5), some (zi x6)] [] 0 0) := by
  intro N
  induction N with
  | zero => exact fun x5 x6 S _ _ _ _ h => absurd h (Nat.not_lt_zero _)
  | succ N ih =>
    exact fun x5 x6 S a b j0 j1 hR => zb_product_4_21_6 t p1 p2 p3 S0 n hn G_S0 ht hp1 hp2 hp3 x5 x6 S a b j0 j1 _ rfl (fun x5 x6 S a b j0 j1 h => ih x5 x6 S a b j0 j1 (Nat.lt_of_lt_of_le h (Nat.le_of_lt_succ hR)))
theorem zc_product_4_21 {g : mm_G} {l : Launch} (t : Int) (p1 : Int) (p2 : Int) (p3 : Int) (S0 : zz_S) (n : Nat) (hn : zz_end ≤ n) (G_S0 : zz_G S0) (ht : 0 ≤ t ∧ t ≤ 23) (hp1 : 0 ≤ p1 ∧ p1 ≤ 23) (hp2 : (-2147483648) ≤ p2 ∧ p2 ≤ 2147483647) (hp3 : (-2147483648) ≤ p3 ∧ p3 ≤ 2147483647) : mm_Met g l zy_product_4_21 zr_product_4_21 [.ref (zz_rf 6 t), .ref 1032, .ref (zz_rf 6 p1), zi p2, zi p3] (zz_M S0 n) n (zz_QI n (zp_product_4_21 t p1 p2 p3 S0)) := by
  refine zz_enter (by decide) (Nat.le_of_ble_eq_true rfl) (zz_less (ls1 := [some (.ref (zz_rf 6 t)), some (.ref 1032), some (.ref (zz_rf 6 p1)), some (zi p2), some (zi p3)]) ⟨rfl, ⟨rfl, ⟨rfl, ⟨rfl, ⟨rfl, trivial⟩⟩⟩⟩⟩ ?_)
  have F_S0 : zz_fr [] [] (fun _ _ => False) S0 S0 := zz_fr.refl
  have k6 : ∀ (x5 : Int) (x6 : Int) (S : zz_S), zz_G S → zz_fr [] [] (fun _ _ => False) S0 S → ((-2147483648) ≤ x5 ∧ x5 ≤ 2147483647) → (0 ≤ x6 ∧ x6 ≤ 2147483647) → zz_E g l zy_product_4_21 zr_product_4_21 (zz_QI n (zp_product_4_21 t p1 p2 p3 S0)) S n 6 [some (.ref (zz_rf 6 t)), some (.ref 1032), some (.ref (zz_rf 6 p1)), some (zi p2), some (zi p3), some (zi x5), some (zi x6)] [] 0 0 := fun x5 x6 S a b j0 j1 => (zi_product_4_21 (g := g) (l := l) t p1 p2 p3 S0 n hn G_S0 ht hp1 hp2 hp3 _) x5 x6 S a b j0 j1 (Nat.lt_succ_self _)
  have b_p1 := zz_rf6 (z := p1) (by omega)
  have b_t := zz_rf6 (z := t) (by omega)
  refine zz_iconst zd_4_21_0 ?_
  refine zz_istore [some (.ref (zz_rf 6 t)), some (.ref 1032), some (.ref (zz_rf 6 p1)), some (zi p2), some (zi p3), some (zi 0)] zd_4_21_1 (by decide) rfl ?_
  refine zz_iconst zd_4_21_3 ?_
  refine zz_istore [some (.ref (zz_rf 6 t)), some (.ref 1032), some (.ref (zz_rf 6 p1)), some (zi p2), some (zi p3), some (zi 0), some (zi 0)] zd_4_21_4 (by decide) rfl ?_
  refine zz_less (ls1 := [some (.ref (zz_rf 6 t)), some (.ref 1032), some (.ref (zz_rf 6 p1)), some (zi p2), some (zi p3), some (zi 0), some (zi 0)]) ⟨rfl, ⟨rfl, ⟨rfl, ⟨rfl, ⟨rfl, ⟨rfl, ⟨rfl, trivial⟩⟩⟩⟩⟩⟩⟩ ?_
  exact k6 0 0 S0 G_S0 F_S0 (by omega) (by omega)
theorem zk_Layer_117 : mm_Vl "TensorForge$Layer" 117 2 4 zy_product_4_21 := ⟨zyw_product_4_21, (R_Layer, F_Layer, 15), rfl, mm_tb_1 891 (by decide +kernel) rfl, mm_tb_1 893 (by decide +kernel) rfl, mm_tb_s 39 (by decide +kernel) rfl⟩
theorem zd_4_20_113 : zz_D zy_convolved_4_20 113 (.iadd) 1 114 := ⟨by decide +kernel, rfl⟩
theorem zd_4_20_114 : zz_D zy_convolved_4_20 114 (.istore 6) 2 116 := ⟨by decide +kernel, rfl⟩
-- TensorForge$Layer convolved ([BLTensorForge$Layer;III)I
abbrev zr_convolved_4_20 : Room := { frames := 2, cells := 0, slots := 0, locals := 34 }
def zp_convolved_4_20 (t : Int) (p1 : Int) (p2 : Int) (p3 : Int) (p4 : Int) (S0 : zz_S) : Int → zz_S → Prop := fun r S => S0 = S ∧ ((-2147483648) ≤ r ∧ r ≤ 2147483647)
theorem zb_convolved_4_20_15 {g : mm_G} {l : Launch} (t : Int) (p1 : Int) (p2 : Int) (p3 : Int) (p4 : Int) (S0 : zz_S) (n : Nat) (hn : zz_end ≤ n) (G_S0 : zz_G S0) (ht : 0 ≤ t ∧ t ≤ 23) (hp1 : 0 ≤ p1 ∧ p1 ≤ 23) (hp2 : (-2147483648) ≤ p2 ∧ p2 ≤ 2147483647) (hp3 : (-2147483648) ≤ p3 ∧ p3 ≤ 2147483647) (hp4 : (-2147483648) ≤ p4 ∧ p4 ≤ 2147483647) (x6 : Int) (x7 : Int) (S : zz_S) (G_S : zz_G S) (F_S : zz_fr [] [] (fun _ _ => False) S0 S) (i15_0 : (-2147483648) ≤ x6 ∧ x6 ≤ 2147483647) (i15_1 : (-2147483648) ≤ x7 ∧ x7 ≤ 2147483647) (R : Nat) (hR : (34359738368 + (S (zz_rf 6 t) 3 - x7).toNat) * 1099511627776 + 1099511627775 = R) (k27 : ∀ (x6 : Int) (x7 : Int) (x8 : Int) (S : zz_S), zz_G S → zz_fr [] [] (fun _ _ => False) S0 S → ((-2147483648) ≤ x6 ∧ x6 ≤ 2147483647) → ((-2147483648) ≤ x7 ∧ x7 ≤ 2147483647) → (0 ≤ x8 ∧ x8 ≤ 2147483647) → (34359738368 + (S (zz_rf 6 t) 3 - x7).toNat) * 1099511627776 + (17179869184 + (S (zz_rf 6 t) 4 - x8).toNat) < R → zz_E g l zy_convolved_4_20 zr_convolved_4_20 (zz_QI n (zp_convolved_4_20 t p1 p2 p3 p4 S0)) S n 27 [some (.ref (zz_rf 6 t)), some (.ref 1032), some (.ref (zz_rf 6 p1)), some (zi p2), some (zi p3), some (zi p4), some (zi x6), some (zi x7), some (zi x8)] [] 0 0) : zz_E g l zy_convolved_4_20 zr_convolved_4_20 (zz_QI n (zp_convolved_4_20 t p1 p2 p3 p4 S0)) S n 15 [some (.ref (zz_rf 6 t)), some (.ref 1032), some (.ref (zz_rf 6 p1)), some (zi p2), some (zi p3), some (zi p4), some (zi x6), some (zi x7)] [] 0 0 := by
  have b_p1 := zz_rf6 (z := p1) (by omega)
  have b_t := zz_rf6 (z := t) (by omega)
  refine zz_iload (x := x7) rfl zd_4_20_15 ?_
  refine zz_aload_n (x := zz_rf 6 t) rfl zd_4_20_17 ?_
  have g7 := zz_G.r G_S0 (zz_rf 6 t) 3 (-2147483648) 2147483647 (zR_k6_3 (by omega)) (zB_k6 (by omega))
  refine zz_geti (z := S0 (zz_rf 6 t) 3) zd_4_20_18 zf_Layer_23 (zT_k6 (by omega)) rfl (zN_k6 hn (by omega)) (zz_rc F_S (zP_k6 (by omega) rfl) (zQ_k6 (by omega) rfl) (fun h => h) rfl) ?_
  refine zz_icmp_ge (by omega) (by omega) zd_4_20_21 (fun c8 => ?_) (fun c8 => ?_)
  · refine zz_iload (x := x6) rfl zd_4_20_128 ?_
    exact zz_iret zd_4_20_130 rfl (Nat.zero_le _) (Nat.zero_le _) ⟨_, _, rfl, zz_fr.eq F_S, by omega⟩
  · refine zz_iconst zd_4_20_24 ?_
    refine zz_istore [some (.ref (zz_rf 6 t)), some (.ref 1032), some (.ref (zz_rf 6 p1)), some (zi p2), some (zi p3), some (zi p4), some (zi x6), some (zi x7), some (zi 0)] zd_4_20_25 (by decide) rfl ?_
    have e9 : S (zz_rf 6 t) 3 = S0 (zz_rf 6 t) 3 := (zz_rc F_S (zP_k6 (by omega) rfl) (zQ_k6 (by omega) rfl) (fun h => h) rfl)
    have e10 : S (zz_rf 6 t) 4 = S0 (zz_rf 6 t) 4 := (zz_rc F_S (zP_k6 (by omega) rfl) (zQ_k6 (by omega) rfl) (fun h => h) rfl)
    refine zz_less (ls1 := [some (.ref (zz_rf 6 t)), some (.ref 1032), some (.ref (zz_rf 6 p1)), some (zi p2), some (zi p3), some (zi p4), some (zi x6), some (zi x7), some (zi 0)]) ⟨rfl, ⟨rfl, ⟨rfl, ⟨rfl, ⟨rfl, ⟨rfl, ⟨rfl, ⟨rfl, ⟨rfl, trivial⟩⟩⟩⟩⟩⟩⟩⟩⟩ ?_
    exact k27 x6 x7 0 S G_S F_S (by omega) (by omega) (by omega) (by omega)
theorem zb_convolved_4_20_27 {g : mm_G} {l : Launch} (t : Int) (p1 : Int) (p2 : Int) (p3 : Int) (p4 : Int) (S0 : zz_S) (n : Nat) (hn : zz_end ≤ n) (G_S0 : zz_G S0) (ht : 0 ≤ t ∧ t ≤ 23) (hp1 : 0 ≤ p1 ∧ p1 ≤ 23) (hp2 : (-2147483648) ≤ p2 ∧ p2 ≤ 2147483647) (hp3 : (-2147483648) ≤ p3 ∧ p3 ≤ 2147483647) (hp4 : (-2147483648) ≤ p4 ∧ p4 ≤ 2147483647) (x6 : Int) (x7 : Int) (x8 : Int) (S : zz_S) (G_S : zz_G S) (F_S : zz_fr [] [] (fun _ _ => False) S0 S) (i27_0 : (-2147483648) ≤ x6 ∧ x6 ≤ 2147483647) (i27_1 : (-2147483648) ≤ x7 ∧ x7 ≤ 2147483647) (i27_2 : 0 ≤ x8 ∧ x8 ≤ 2147483647) (R : Nat) (hR : (34359738368 + (S (zz_rf 6 t) 3 - x7).toNat) * 1099511627776 + (17179869184 + (S (zz_rf 6 t) 4 - x8).toNat) = R) (k15 : ∀ (x6 : Int) (x7 : Int) (S : zz_S), zz_G S → zz_fr [] [] (fun _ _ => False) S0 S → ((-2147483648) ≤ x6 ∧ x6 ≤ 2147483647) → ((-2147483648) ≤ x7 ∧ x7 ≤ 2147483647) → (34359738368 + (S (zz_rf 6 t) 3 - x7).toNat) * 1099511627776 + 1099511627775 < R → zz_E g l zy_convolved_4_20 zr_convolved_4_20 (zz_QI n (zp_convolved_4_20 t p1 p2 p3 p4 S0)) S n 15 [some (.ref (zz_rf 6 t)), some (.ref 1032), some (.ref (zz_rf 6 p1)), some (zi p2), some (zi p3), some (zi p4), some (zi x6), some (zi x7)] [] 0 0) (k27 : ∀ (x6 : Int) (x7 : Int) (x8 : Int) (S : zz_S), zz_G S → zz_fr [] [] (fun _ _ => False) S0 S → ((-2147483648) ≤ x6 ∧ x6 ≤ 2147483647) → ((-2147483648) ≤ x7 ∧ x7 ≤ 2147483647) → (0 ≤ x8 ∧ x8 ≤ 2147483647) → (34359738368 + (S (zz_rf 6 t) 3 - x7).toNat) * 1099511627776 + (17179869184 + (S (zz_rf 6 t) 4 - x8).toNat) < R → zz_E g l zy_convolved_4_20 zr_convolved_4_20 (zz_QI n (zp_convolved_4_20 t p1 p2 p3 p4 S0)) S n 27 [some (.ref (zz_rf 6 t)), some (.ref 1032), some (.ref (zz_rf 6 p1)), some (zi p2), some (zi p3), some (zi p4), some (zi x6), some (zi x7), some (zi x8)] [] 0 0) : zz_E g l zy_convolved_4_20 zr_convolved_4_20 (zz_QI n (zp_convolved_4_20 t p1 p2 p3 p4 S0)) S n 27 [some (.ref (zz_rf 6 t)), some (.ref 1032), some (.ref (zz_rf 6 p1)), some (zi p2), some (zi p3), some (zi p4), some (zi x6), some (zi x7), some (zi x8)] [] 0 0 := by
  have b_p1 := zz_rf6 (z := p1) (by omega)
  have b_t := zz_rf6 (z := t) (by omega)
  refine zz_iload (x := x8) rfl zd_4_20_27 ?_
  refine zz_aload_n (x := zz_rf 6 t) rfl zd_4_20_29 ?_
  have g11 := zz_G.r G_S0 (zz_rf 6 t) 4 (-2147483648) 2147483647 (zR_k6_4 (by omega)) (zB_k6 (by omega))
  refine zz_geti (z := S0 (zz_rf 6 t) 4) zd_4_20_30 zf_Layer_26 (zT_k6 (by omega)) rfl (zN_k6 hn (by omega)) (zz_rc F_S (zP_k6 (by omega) rfl) (zQ_k6 (by omega) rfl) (fun h => h) rfl) ?_
  refine zz_icmp_ge (by omega) (by omega) zd_4_20_33 (fun c12 => ?_) (fun c12 => ?_)
  · refine zz_iincN (fun v13 => [some (.ref (zz_rf 6 t)), some (.ref 1032), some (.ref (zz_rf 6 p1)), some (zi p2), some (zi p3), some (zi p4), some (zi x6), some (zi v13), some (zi x8)]) zd_4_20_122 rfl (fun _ => rfl) (fun v13 hv13 ev13 => ?_)
    refine zz_goto zd_4_20_125 ?_
    have e14 : S (zz_rf 6 t) 3 = S0 (zz_rf 6 t) 3 := (zz_rc F_S (zP_k6 (by omega) rfl) (zQ_k6 (by omega) rfl) (fun h => h) rfl)
    refine zz_less (ls1 := [some (.ref (zz_rf 6 t)), some (.ref 1032), some (.ref (zz_rf 6 p1)), some (zi p2), some (zi p3), some (zi p4), some (zi x6), some (zi v13)]) ⟨rfl, ⟨rfl, ⟨rfl, ⟨rfl, ⟨rfl, ⟨rfl, ⟨rfl, ⟨rfl, trivial⟩⟩⟩⟩⟩⟩⟩⟩ ?_
    exact k15 x6 v13 S G_S F_S (by omega) (by omega) (by omega)
  · refine zz_aload_n (x := zz_rf 6 t) rfl zd_4_20_36 ?_
    have g15 := zz_G.r G_S0 (zz_rf 6 t) 5 (-2147483648) 2147483647 (zR_k6_5 (by omega)) (zB_k6 (by omega))
    refine zz_geti (z := S0 (zz_rf 6 t) 5) zd_4_20_37 zf_Layer_29 (zT_k6 (by omega)) rfl (zN_k6 hn (by omega)) (zz_rc F_S (zP_k6 (by omega) rfl) (zQ_k6 (by omega) rfl) (fun h => h) rfl) ?_
    refine zz_iload_n (x := p2) rfl zd_4_20_40 ?_
    refine zz_imul zd_4_20_41 ?_
    refine zz_nrm (fun v16 hv16 ev16 => ?_)
    refine zz_iload (x := x7) rfl zd_4_20_42 ?_
    refine zz_iadd zd_4_20_44 ?_
    refine zz_nrm (fun v17 hv17 ev17 => ?_)
    refine zz_aload_n (x := zz_rf 6 t) rfl zd_4_20_45 ?_
    have g18 := zz_G.r G_S0 (zz_rf 6 t) 6 (-2147483648) 2147483647 (zR_k6_6 (by omega)) (zB_k6 (by omega))
    refine zz_geti (z := S0 (zz_rf 6 t) 6) zd_4_20_46 zf_Layer_32 (zT_k6 (by omega)) rfl (zN_k6 hn (by omega)) (zz_rc F_S (zP_k6 (by omega) rfl) (zQ_k6 (by omega) rfl) (fun h => h) rfl) ?_
    refine zz_isub zd_4_20_49 ?_
    refine zz_nrm (fun v19 hv19 ev19 => ?_)
    refine zz_istore [some (.ref (zz_rf 6 t)), some (.ref 1032), some (.ref (zz_rf 6 p1)), some (zi p2), some (zi p3), some (zi p4), some (zi x6), some (zi x7), some (zi x8), some (zi v19)] zd_4_20_50 (by decide) rfl ?_
    refine zz_aload_n (x := zz_rf 6 t) rfl zd_4_20_52 ?_
    refine zz_geti (z := S0 (zz_rf 6 t) 5) zd_4_20_53 zf_Layer_29 (zT_k6 (by omega)) rfl (zN_k6 hn (by omega)) (zz_rc F_S (zP_k6 (by omega) rfl) (zQ_k6 (by omega) rfl) (fun h => h) rfl) ?_
    refine zz_iload (x := p3) rfl zd_4_20_56 ?_
    refine zz_imul zd_4_20_58 ?_
    refine zz_nrm (fun v20 hv20 ev20 => ?_)
    refine zz_iload (x := x8) rfl zd_4_20_59 ?_
    refine zz_iadd zd_4_20_61 ?_
    refine zz_nrm (fun v21 hv21 ev21 => ?_)
    refine zz_aload_n (x := zz_rf 6 t) rfl zd_4_20_62 ?_
    refine zz_geti (z := S0 (zz_rf 6 t) 6) zd_4_20_63 zf_Layer_32 (zT_k6 (by omega)) rfl (zN_k6 hn (by omega)) (zz_rc F_S (zP_k6 (by omega) rfl) (zQ_k6 (by omega) rfl) (fun h => h) rfl) ?_
    refine zz_isub zd_4_20_66 ?_
    refine zz_nrm (fun v22 hv22 ev22 => ?_)
    refine zz_istore [some (.ref (zz_rf 6 t)), some (.ref 1032), some (.ref (zz_rf 6 p1)), some (zi p2), some (zi p3), some (zi p4), some (zi x6), some (zi x7), some (zi x8), some (zi v19), some (zi v22)] zd_4_20_67 (by decide) rfl ?_
    refine zz_aload_n (x := zz_rf 6 p1) rfl zd_4_20_69 ?_
    refine zz_iload (x := v19) rfl zd_4_20_70 ?_
    refine zz_iload (x := v22) rfl zd_4_20_72 ?_
    refine zz_callVI [zi v19, zi v22] zd_4_20_74 zk_Layer_109 (zT_k6 (by omega)) (zN_k6 hn (by omega)) rfl rfl ⟨Nat.le_of_ble_eq_true rfl, Nat.le_of_ble_eq_true rfl⟩ ⟨rfl, rfl⟩ (Nat.zero_le _) (Nat.zero_le _) (zc_hasPlace_4_16 p1 v19 v22 S n hn G_S (by omega) (by omega) (by omega)) (fun v24 S23 hP => ?_)
    obtain ⟨rfl, o25⟩ := hP
    rcases (by omega : v24 = 0 ∨ v24 = 1) with rfl | rfl
    · refine zz_if_eq (by omega) zd_4_20_77 (fun c26 => ?_) (fun c26 => ?_)
      · refine zz_iinc [some (.ref (zz_rf 6 t)), some (.ref 1032), some (.ref (zz_rf 6 p1)), some (zi p2), some (zi p3), some (zi p4), some (zi x6), some (zi x7), some (zi (x8 + 1)), some (zi v19), some (zi v22)] zd_4_20_116 rfl rfl ?_
        refine zz_goto zd_4_20_119 ?_
        have e27 : S (zz_rf 6 t) 3 = S0 (zz_rf 6 t) 3 := (zz_rc F_S (zP_k6 (by omega) rfl) (zQ_k6 (by omega) rfl) (fun h => h) rfl)
        have e28 : S (zz_rf 6 t) 4 = S0 (zz_rf 6 t) 4 := (zz_rc F_S (zP_k6 (by omega) rfl) (zQ_k6 (by omega) rfl) (fun h => h) rfl)
        refine zz_less (ls1 := [some (.ref (zz_rf 6 t)), some (.ref 1032), some (.ref (zz_rf 6 p1)), some (zi p2), some (zi p3), some (zi p4), some (zi x6), some (zi x7), some (zi (x8 + 1))]) ⟨rfl, ⟨rfl, ⟨rfl, ⟨rfl, ⟨rfl, ⟨rfl, ⟨rfl, ⟨rfl, ⟨rfl, trivial⟩⟩⟩⟩⟩⟩⟩⟩⟩ ?_
        exact k27 x6 x7 (x8 + 1) S G_S F_S (by omega) (by omega) (by omega) (by omega)
      · exfalso; omega
    · refine zz_if_eq (by omega) zd_4_20_77 (fun c29 => ?_) (fun c29 => ?_)
      · exfalso; omega
      · refine zz_aload_n (x := zz_rf 6 p1) rfl zd_4_20_80 ?_
        refine zz_iload (x := v19) rfl zd_4_20_81 ?_
        refine zz_iload (x := v22) rfl zd_4_20_83 ?_
        refine zz_iconst zd_4_20_85 ?_
        refine zz_callVI [zi v19, zi v22, zi 0] zd_4_20_86 zk_Layer_75 (zT_k6 (by omega)) (zN_k6 hn (by omega)) rfl rfl ⟨Nat.le_of_ble_eq_true rfl, Nat.le_of_ble_eq_true rfl⟩ ⟨rfl, rfl⟩ (Nat.zero_le _) (Nat.zero_le _) (zc_cellAt_4_15 p1 v19 v22 0 S n hn G_S (by omega) (by omega) (by omega) (by omega)) (fun v31 S30 hP => ?_)
        obtain ⟨rfl, o32⟩ := hP
        refine zz_istore [some (.ref (zz_rf 6 t)), some (.ref 1032), some (.ref (zz_rf 6 p1)), some (zi p2), some (zi p3), some (zi p4), some (zi x6), some (zi x7), some (zi x8), some (zi v19), some (zi v22), some (zi v31)] zd_4_20_89 (by decide) rfl ?_
        refine zz_iload (x := x6) rfl zd_4_20_91 ?_
        refine zz_aload_n (x := zz_rf 6 t) rfl zd_4_20_93 ?_
        refine zz_aload_n (x := 1032) rfl zd_4_20_94 ?_
        refine zz_aload_n (x := zz_rf 6 p1) rfl zd_4_20_95 ?_
        refine zz_iload (x := v31) rfl zd_4_20_96 ?_
        refine zz_aload_n (x := zz_rf 6 t) rfl zd_4_20_98 ?_
        refine zz_aload_n (x := zz_rf 6 p1) rfl zd_4_20_99 ?_
        refine zz_iload (x := x7) rfl zd_4_20_100 ?_
        refine zz_iload (x := x8) rfl zd_4_20_102 ?_
        refine zz_iconst zd_4_20_104 ?_
        refine zz_iload (x := p4) rfl zd_4_20_105 ?_
        refine zz_callVI [.ref (zz_rf 6 p1), zi x7, zi x8, zi 0, zi p4] zd_4_20_107 zk_Layer_113 (zT_k6 (by omega)) (zN_k6 hn (by omega)) rfl rfl ⟨Nat.le_of_ble_eq_true rfl, Nat.le_of_ble_eq_true rfl⟩ ⟨rfl, rfl⟩ (Nat.zero_le _) (Nat.zero_le _) (zc_weightAt_4_14 t p1 x7 x8 0 p4 S n hn G_S (by omega) (by omega) (by omega) (by omega) (by omega) (by omega)) (fun v34 S33 hP => ?_)
        obtain ⟨rfl, o35⟩ := hP
        refine zz_callVI [.ref 1032, .ref (zz_rf 6 p1), zi v31, zi v34] zd_4_20_110 zk_Layer_117 (zT_k6 (by omega)) (zN_k6 hn (by omega)) rfl rfl ⟨Nat.le_of_ble_eq_true rfl, Nat.le_of_ble_eq_true rfl⟩ ⟨rfl, rfl⟩ (Nat.zero_le _) (Nat.zero_le _) (zc_product_4_21 t p1 v31 v34 S n hn G_S (by omega) (by omega) (by omega) (by omega)) (fun v37 S36 hP => ?_)
        obtain ⟨rfl, o38⟩ := hP
        refine zz_iadd zd_4_20_113 ?_
        refine zz_nrm (fun v39 hv39 ev39 => ?_)
        refine zz_istore [some (.ref (zz_rf 6 t)), some (.ref 1032), some (.ref (zz_rf 6 p1)), some (zi p2), some (zi p3), some (zi p4), some (zi v39), some (zi x7), some (zi x8), some (zi v19), some (zi v22), some (zi v31)] zd_4_20_114 (by decide) rfl ?_
        refine zz_iinc [some (.ref (zz_rf 6 t)), some (.ref 1032), some (.ref (zz_rf 6 p1)), some (zi p2), some (zi p3), some (zi p4), some (zi v39), some (zi x7), some (zi (x8 + 1)), some (zi v19), some (zi v22), some (zi v31)] zd_4_20_116 rfl rfl ?_
        refine zz_goto zd_4_20_119 ?_
        have e40 : S (zz_rf 6 t) 3 = S0 (zz_rf 6 t) 3 := (zz_rc F_S (zP_k6 (by omega) rfl) (zQ_k6 (by omega) rfl) (fun h => h) rfl)
        have e41 : S (zz_rf 6 t) 4 = S0 (zz_rf 6 t) 4 := (zz_rc F_S (zP_k6 (by omega) rfl) (zQ_k6 (by omega) rfl) (fun h => h) rfl)
        refine zz_less (ls1 := [some (.ref (zz_rf 6 t)), some (.ref 1032), some (.ref (zz_rf 6 p1)), some (zi p2), some (zi p3), some (zi p4), some (zi v39), some (zi x7), some (zi (x8 + 1))]) ⟨rfl, ⟨rfl, ⟨rfl, ⟨rfl, ⟨rfl, ⟨rfl, ⟨rfl, ⟨rfl, ⟨rfl, trivial⟩⟩⟩⟩⟩⟩⟩⟩⟩ ?_
        exact k27 v39 x7 (x8 + 1) S G_S F_S (by omega) (by omega) (by omega) (by omega)
theorem zi_convolved_4_20 {g : mm_G} {l : Launch} (t : Int) (p1 : Int) (p2 : Int) (p3 : Int) (p4 : Int) (S0 : zz_S) (n : Nat) (hn : zz_end ≤ n) (G_S0 : zz_G S0) (ht : 0 ≤ t ∧ t ≤ 23) (hp1 : 0 ≤ p1 ∧ p1 ≤ 23) (hp2 : (-2147483648) ≤ p2 ∧ p2 ≤ 2147483647) (hp3 : (-2147483648) ≤ p3 ∧ p3 ≤ 2147483647) (hp4 : (-2147483648) ≤ p4 ∧ p4 ≤ 2147483647) : ∀ N : Nat, (∀ (x6 : Int) (x7 : Int) (S : zz_S), zz_G S → zz_fr [] [] (fun _ _ => False) S0 S → ((-2147483648) ≤ x6 ∧ x6 ≤ 2147483647) → ((-2147483648) ≤ x7 ∧ x7 ≤ 2147483647) → (34359738368 + (S (zz_rf 6 t) 3 - x7).toNat) * 1099511627776 + 1099511627775 < N → zz_E g l zy_convolved_4_20 zr_convolved_4_20 (zz_QI n (zp_convolved_4_20 t p1 p2 p3 p4 S0)) S n 15 [some (.ref (zz_rf 6 t)), some (.ref 1032), some (.ref (zz_rf 6 p1)), some (zi p2), some (zi p3), some (zi p4), some (zi x6), some (zi x7)] [] 0 0) ∧ (∀ (x6 : Int) (x7 : Int) (x8 : Int) (S : zz_S), zz_G S → zz_fr [] [] (fun _ _ => False) S0 S → ((-2147483648) ≤ x6 ∧ x6 ≤ 2147483647) → ((-2147483648) ≤ x7 ∧ x7 ≤ 2147483647) → (0 ≤ x8 ∧ x8 ≤ 2147483647) → (34359738368 + (S (zz_rf 6 t) 3 - x7).toNat) * 1099511627776 + (17179869184 + (S (zz_rf 6 t) 4 - x8).toNat) < N → zz_E g l zy_convolved_4_20 zr_convolved_4_20 (zz_QI n (zp_convolved_4_20 t p1 p2 p3 p4 S0)) S n 27 [some (.ref (zz_rf 6 t)), some (.ref 1032), some (.ref (zz_rf 6 p1)), some (zi p2), some (zi p3), some (zi p4), some (zi x6), some (zi x7), some (zi x8)] [] 0 0) := by
  intro N
  induction N with
  | zero => exact ⟨fun x6 x7 S _ _ _ _ h => absurd h (Nat.not_lt_zero _), fun x6 x7 x8 S _ _ _ _ _ h => absurd h (Nat.not_lt_zero _)⟩
  | succ N ih =>
    exact ⟨fun x6 x7 S a b j0 j1 hR => zb_convolved_4_20_15 t p1 p2 p3 p4 S0 n hn G_S0 ht hp1 hp2 hp3 hp4 x6 x7 S a b j0 j1 _ rfl (fun x6 x7 x8 S a b j0 j1 j2 h => ih.2 x6 x7 x8 S a b j0 j1 j2 (Nat.lt_of_lt_of_le h (Nat.le_of_lt_succ hR))),
      fun x6 x7 x8 S a b j0 j1 j2 hR => zb_convolved_4_20_27 t p1 p2 p3 p4 S0 n hn G_S0 ht hp1 hp2 hp3 hp4 x6 x7 x8 S a b j0 j1 j2 _ rfl (fun x6 x7 S a b j0 j1 h => ih.1 x6 x7 S a b j0 j1 (Nat.lt_of_lt_of_le h (Nat.le_of_lt_succ hR))) (fun x6 x7 x8 S a b j0 j1 j2 h => ih.2 x6 x7 x8 S a b j0 j1 j2 (Nat.lt_of_lt_of_le h (Nat.le_of_lt_succ hR)))⟩
theorem zc_convolved_4_20 {g : mm_G} {l : Launch} (t : Int) (p1 : Int) (p2 : Int) (p3 : Int) (p4 : Int) (S0 : zz_S) (n : Nat) (hn : zz_end ≤ n) (G_S0 : zz_G S0) (ht : 0 ≤ t ∧ t ≤ 23) (hp1 : 0 ≤ p1 ∧ p1 ≤ 23) (hp2 : (-2147483648) ≤ p2 ∧ p2 ≤ 2147483647) (hp3 : (-2147483648) ≤ p3 ∧ p3 ≤ 2147483647) (hp4 : (-2147483648) ≤ p4 ∧ p4 ≤ 2147483647) : mm_Met g l zy_convolved_4_20 zr_convolved_4_20 [.ref (zz_rf 6 t), .ref 1032, .ref (zz_rf 6 p1), zi p2, zi p3, zi p4] (zz_M S0 n) n (zz_QI n (zp_convolved_4_20 t p1 p2 p3 p4 S0)) := by
  refine zz_enter (by decide) (Nat.le_of_ble_eq_true rfl) (zz_less (ls1 := [some (.ref (zz_rf 6 t)), some (.ref 1032), some (.ref (zz_rf 6 p1)), some (zi p2), some (zi p3), some (zi p4)]) ⟨rfl, ⟨rfl, ⟨rfl, ⟨rfl, ⟨rfl, ⟨rfl, trivial⟩⟩⟩⟩⟩⟩ ?_)
  have F_S0 : zz_fr [] [] (fun _ _ => False) S0 S0 := zz_fr.refl
  have k15 : ∀ (x6 : Int) (x7 : Int) (S : zz_S), zz_G S → zz_fr [] [] (fun _ _ => False) S0 S → ((-2147483648) ≤ x6 ∧ x6 ≤ 2147483647) → ((-2147483648) ≤ x7 ∧ x7 ≤ 2147483647) → zz_E g l zy_convolved_4_20 zr_convolved_4_20 (zz_QI n (zp_convolved_4_20 t p1 p2 p3 p4 S0)) S n 15 [some (.ref (zz_rf 6 t)), some (.ref 1032), some (.ref (zz_rf 6 p1)), some (zi p2), some (zi p3), some (zi p4), some (zi x6), some (zi x7)] [] 0 0 := fun x6 x7 S a b j0 j1 => (zi_convolved_4_20 (g := g) (l := l) t p1 p2 p3 p4 S0 n hn G_S0 ht hp1 hp2 hp3 hp4 _).1 x6 x7 S a b j0 j1 (Nat.lt_succ_self _)
  have b_p1 := zz_rf6 (z := p1) (by omega)
  have b_t := zz_rf6 (z := t) (by omega)
  refine zz_aload_n (x := 1032) rfl zd_4_20_0 ?_
  refine zz_aload_n (x := zz_rf 6 t) rfl zd_4_20_1 ?_
  refine zz_iload (x := p4) rfl zd_4_20_2 ?_
  refine zz_callVI [zi p4] zd_4_20_4 zk_Layer_102 (zT_k6 (by omega)) (zN_k6 hn (by omega)) rfl rfl ⟨Nat.le_of_ble_eq_true rfl, Nat.le_of_ble_eq_true rfl⟩ ⟨rfl, rfl⟩ (Nat.zero_le _) (Nat.zero_le _) (zc_biasAt_4_13 t p4 S0 n hn G_S0 (by omega) (by omega)) (fun v2 S1 hP => ?_)
  obtain ⟨rfl, o3⟩ := hP
  refine zz_callSI [.ref 1032, zi v2] zd_4_20_7 zk_Layer_106 rfl rfl ⟨Nat.le_of_ble_eq_true rfl, Nat.le_of_ble_eq_true rfl⟩ ⟨rfl, rfl⟩ (Nat.zero_le _) (Nat.zero_le _) (zc_intAt_6_4 v2 S0 n hn G_S0 (by omega)) (fun v5 S4 hP => ?_)
  obtain ⟨rfl, o6⟩ := hP
  refine zz_istore [some (.ref (zz_rf 6 t)), some (.ref 1032), some (.ref (zz_rf 6 p1)), some (zi p2), some (zi p3), some (zi p4), some (zi v5)] zd_4_20_10 (by decide) rfl ?_
  refine zz_iconst zd_4_20_12 ?_
  refine zz_istore [some (.ref (zz_rf 6 t)), some (.ref 1032), some (.ref (zz_rf 6 p1)), some (zi p2), some (zi p3), some (zi p4), some (zi v5), some (zi 0)] zd_4_20_13 (by decide) rfl ?_
  refine zz_less (ls1 := [some (.ref (zz_rf 6 t)), some (.ref 1032), some (.ref (zz_rf 6 p1)), some (zi p2), some (zi p3), some (zi p4), some (zi v5), some (zi 0)]) ⟨rfl, ⟨rfl, ⟨rfl, ⟨rfl, ⟨rfl, ⟨rfl, ⟨rfl, ⟨rfl, trivial⟩⟩⟩⟩⟩⟩⟩⟩ ?_
  exact k15 v5 0 S0 G_S0 F_S0 (by omega) (by omega)
theorem zk_Layer_91 : mm_Vl "TensorForge$Layer" 91 2 5 zy_convolved_4_20 := ⟨zyw_convolved_4_20, (R_Layer, F_Layer, 15), rfl, mm_tb_1 874 (by decide +kernel) rfl, mm_tb_1 876 (by decide +kernel) rfl, mm_tb_s 38 (by decide +kernel) rfl⟩
theorem zd_4_19_20 : zz_D zy_sumOf_4_19 20 (.ireturn) 1 21 := ⟨by decide +kernel, rfl⟩
-- TensorForge$Layer sumOf ([BLTensorForge$Layer;LTensorForge$Layer;III)I
abbrev zr_sumOf_4_19 : Room := { frames := 3, cells := 0, slots := 0, locals := 57 }
def zp_sumOf_4_19 (t : Int) (p1 : Int) (p2 : Int) (p3 : Int) (p4 : Int) (p5 : Int) (S0 : zz_S) : Int → zz_S → Prop := fun r S => S0 = S ∧ ((-2147483648) ≤ r ∧ r ≤ 2147483647)
theorem zc_sumOf_4_19 {g : mm_G} {l : Launch} (t : Int) (p1 : Int) (p2 : Int) (p3 : Int) (p4 : Int) (p5 : Int) (S0 : zz_S) (n : Nat) (hn : zz_end ≤ n) (G_S0 : zz_G S0) (ht : 0 ≤ t ∧ t ≤ 23) (hp1 : 0 ≤ p1 ∧ p1 ≤ 23) (hp2 : 0 ≤ p2 ∧ p2 ≤ 23) (hp3 : (-2147483648) ≤ p3 ∧ p3 ≤ 2147483647) (hp4 : (-2147483648) ≤ p4 ∧ p4 ≤ 2147483647) (hp5 : (-2147483648) ≤ p5 ∧ p5 ≤ 2147483647) : mm_Met g l zy_sumOf_4_19 zr_sumOf_4_19 [.ref (zz_rf 6 t), .ref 1032, .ref (zz_rf 6 p1), .ref (zz_rf 6 p2), zi p3, zi p4, zi p5] (zz_M S0 n) n (zz_QI n (zp_sumOf_4_19 t p1 p2 p3 p4 p5 S0)) := by
  refine zz_enter (by decide) (Nat.le_of_ble_eq_true rfl) (zz_less (ls1 := [some (.ref (zz_rf 6 t)), some (.ref 1032), some (.ref (zz_rf 6 p1)), some (.ref (zz_rf 6 p2)), some (zi p3), some (zi p4), some (zi p5)]) ⟨rfl, ⟨rfl, ⟨rfl, ⟨rfl, ⟨rfl, ⟨rfl, ⟨rfl, trivial⟩⟩⟩⟩⟩⟩⟩ ?_)
  have b_p1 := zz_rf6 (z := p1) (by omega)
  have b_p2 := zz_rf6 (z := p2) (by omega)
  have b_t := zz_rf6 (z := t) (by omega)
  refine zz_aload_n (x := zz_rf 6 t) rfl zd_4_19_0 ?_
  have g1 := zz_G.r G_S0 (zz_rf 6 t) 0 (-2147483648) 2147483647 (zR_k6_0 (by omega)) (zB_k6 (by omega))
  refine zz_geti (z := S0 (zz_rf 6 t) 0) zd_4_19_1 zf_Layer_13 (zT_k6 (by omega)) rfl (zN_k6 hn (by omega)) rfl ?_
  refine zz_iconst zd_4_19_4 ?_
  refine zz_icmp_ne (by omega) (by omega) zd_4_19_5 (fun c2 => ?_) (fun c2 => ?_)
  · refine zz_aload_n (x := zz_rf 6 t) rfl zd_4_19_21 ?_
    refine zz_geti (z := S0 (zz_rf 6 t) 0) zd_4_19_22 zf_Layer_13 (zT_k6 (by omega)) rfl (zN_k6 hn (by omega)) rfl ?_
    refine zz_iconst zd_4_19_25 ?_
    refine zz_icmp_ne (by omega) (by omega) zd_4_19_26 (fun c3 => ?_) (fun c3 => ?_)
    · refine zz_aload_n (x := 1032) rfl zd_4_19_42 ?_
      refine zz_aload_n (x := zz_rf 6 p1) rfl zd_4_19_43 ?_
      refine zz_iload (x := p3) rfl zd_4_19_44 ?_
      refine zz_iload (x := p4) rfl zd_4_19_46 ?_
      refine zz_iload (x := p5) rfl zd_4_19_48 ?_
      refine zz_callVI [zi p3, zi p4, zi p5] zd_4_19_50 zk_Layer_75 (zT_k6 (by omega)) (zN_k6 hn (by omega)) rfl rfl ⟨Nat.le_of_ble_eq_true rfl, Nat.le_of_ble_eq_true rfl⟩ ⟨rfl, rfl⟩ (Nat.zero_le _) (Nat.zero_le _) (zc_cellAt_4_15 p1 p3 p4 p5 S0 n hn G_S0 (by omega) (by omega) (by omega) (by omega)) (fun v5 S4 hP => ?_)
      obtain ⟨rfl, o6⟩ := hP
      refine zz_callSI [.ref 1032, zi v5] zd_4_19_53 zk_Layer_98 rfl rfl ⟨Nat.le_of_ble_eq_true rfl, Nat.le_of_ble_eq_true rfl⟩ ⟨rfl, rfl⟩ (Nat.zero_le _) (Nat.zero_le _) (zc_byteAt_4_17 v5 S0 n hn G_S0 (by omega)) (fun v8 S7 hP => ?_)
      obtain ⟨rfl, o9⟩ := hP
      refine zz_aload_n (x := 1032) rfl zd_4_19_56 ?_
      refine zz_aload_n (x := zz_rf 6 p2) rfl zd_4_19_57 ?_
      refine zz_iload (x := p3) rfl zd_4_19_58 ?_
      refine zz_iload (x := p4) rfl zd_4_19_60 ?_
      refine zz_iload (x := p5) rfl zd_4_19_62 ?_
      refine zz_callVI [zi p3, zi p4, zi p5] zd_4_19_64 zk_Layer_75 (zT_k6 (by omega)) (zN_k6 hn (by omega)) rfl rfl ⟨Nat.le_of_ble_eq_true rfl, Nat.le_of_ble_eq_true rfl⟩ ⟨rfl, rfl⟩ (Nat.zero_le _) (Nat.zero_le _) (zc_cellAt_4_15 p2 p3 p4 p5 S0 n hn G_S0 (by omega) (by omega) (by omega) (by omega)) (fun v11 S10 hP => ?_)
      obtain ⟨rfl, o12⟩ := hP
      refine zz_callSI [.ref 1032, zi v11] zd_4_19_67 zk_Layer_98 rfl rfl ⟨Nat.le_of_ble_eq_true rfl, Nat.le_of_ble_eq_true rfl⟩ ⟨rfl, rfl⟩ (Nat.zero_le _) (Nat.zero_le _) (zc_byteAt_4_17 v11 S0 n hn G_S0 (by omega)) (fun v14 S13 hP => ?_)
      obtain ⟨rfl, o15⟩ := hP
      refine zz_iadd zd_4_19_70 ?_
      refine zz_nrm (fun v16 hv16 ev16 => ?_)
      exact zz_iret zd_4_19_71 rfl (Nat.zero_le _) (Nat.zero_le _) ⟨_, _, rfl, rfl, by omega⟩
    · refine zz_aload_n (x := zz_rf 6 t) rfl zd_4_19_29 ?_
      refine zz_aload_n (x := 1032) rfl zd_4_19_30 ?_
      refine zz_aload_n (x := zz_rf 6 p1) rfl zd_4_19_31 ?_
      refine zz_iload (x := p3) rfl zd_4_19_32 ?_
      refine zz_iload (x := p4) rfl zd_4_19_34 ?_
      refine zz_iload (x := p5) rfl zd_4_19_36 ?_
      refine zz_callVI [.ref 1032, .ref (zz_rf 6 p1), zi p3, zi p4, zi p5] zd_4_19_38 zk_Layer_95 (zT_k6 (by omega)) (zN_k6 hn (by omega)) rfl rfl ⟨Nat.le_of_ble_eq_true rfl, Nat.le_of_ble_eq_true rfl⟩ ⟨rfl, rfl⟩ (Nat.zero_le _) (Nat.zero_le _) (zc_greatest_4_22 t p1 p3 p4 p5 S0 n hn G_S0 (by omega) (by omega) (by omega) (by omega) (by omega)) (fun v18 S17 hP => ?_)
      obtain ⟨rfl, o19⟩ := hP
      exact zz_iret zd_4_19_41 rfl (Nat.zero_le _) (Nat.zero_le _) ⟨_, _, rfl, rfl, by omega⟩
  · refine zz_aload_n (x := zz_rf 6 t) rfl zd_4_19_8 ?_
    refine zz_aload_n (x := 1032) rfl zd_4_19_9 ?_
    refine zz_aload_n (x := zz_rf 6 p1) rfl zd_4_19_10 ?_
    refine zz_iload (x := p3) rfl zd_4_19_11 ?_
    refine zz_iload (x := p4) rfl zd_4_19_13 ?_
    refine zz_iload (x := p5) rfl zd_4_19_15 ?_
    refine zz_callVI [.ref 1032, .ref (zz_rf 6 p1), zi p3, zi p4, zi p5] zd_4_19_17 zk_Layer_91 (zT_k6 (by omega)) (zN_k6 hn (by omega)) rfl rfl ⟨Nat.le_of_ble_eq_true rfl, Nat.le_of_ble_eq_true rfl⟩ ⟨rfl, rfl⟩ (Nat.zero_le _) (Nat.zero_le _) (zc_convolved_4_20 t p1 p3 p4 p5 S0 n hn G_S0 (by omega) (by omega) (by omega) (by omega) (by omega)) (fun v21 S20 hP => ?_)
    obtain ⟨rfl, o22⟩ := hP
    exact zz_iret zd_4_19_20 rfl (Nat.zero_le _) (Nat.zero_le _) ⟨_, _, rfl, rfl, by omega⟩
theorem zk_Layer_79 : mm_Vl "TensorForge$Layer" 79 2 6 zy_sumOf_4_19 := ⟨zyw_sumOf_4_19, (R_Layer, F_Layer, 15), rfl, mm_tb_1 870 (by decide +kernel) rfl, mm_tb_1 872 (by decide +kernel) rfl, mm_tb_s 37 (by decide +kernel) rfl⟩
theorem zd_4_18_76 : zz_D zy_fillCells_4_18 76 (.aload_n 0) 1 77 := ⟨by decide +kernel, rfl⟩
theorem zd_4_18_77 : zz_D zy_fillCells_4_18 77 (.invokevirtual 83) 3 80 := ⟨by decide +kernel, rfl⟩
theorem zk_Layer_83 : mm_Vl "TensorForge$Layer" 83 2 0 zy_narrowing_4_6 := ⟨zyw_narrowing_4_6, (R_Layer, F_Layer, 15), rfl, mm_tb_1 903 (by decide +kernel) rfl, mm_tb_1 904 (by decide +kernel) rfl, mm_tb_1 905 (by decide +kernel) rfl⟩
theorem zd_4_18_80 : zz_D zy_fillCells_4_18 80 (.invokestatic 87) 3 83 := ⟨by decide +kernel, rfl⟩
theorem zk_Layer_87 : mm_Sl "TensorForge$Layer" 87 2 zy_narrowed_6_19 := ⟨zyw_narrowed_6_19, mm_tb_1 907 (by decide +kernel) rfl, mm_tb_1 827 (by decide +kernel) rfl⟩
theorem zd_4_18_83 : zz_D zy_fillCells_4_18 83 (.bastore) 1 84 := ⟨by decide +kernel, rfl⟩
-- TensorForge$Layer fillCells ([BLTensorForge$Layer;LTensorForge$Layer;)V
abbrev zr_fillCells_4_18 : Room := { frames := 4, cells := 0, slots := 0, locals := 77 }
def zp_fillCells_4_18 (t : Int) (p1 : Int) (p2 : Int) (S0 : zz_S) : zz_S → Prop := fun S => zz_G S ∧ zz_fr [] [1032] (fun _ _ => False) S0 S
theorem zb_fillCells_4_18_3 {g : mm_G} {l : Launch} (t : Int) (p1 : Int) (p2 : Int) (S0 : zz_S) (n : Nat) (hn : zz_end ≤ n) (G_S0 : zz_G S0) (ht : 0 ≤ t ∧ t ≤ 23) (hp1 : 0 ≤ p1 ∧ p1 ≤ 23) (hp2 : 0 ≤ p2 ∧ p2 ≤ 23) (x4 : Int) (S : zz_S) (G_S : zz_G S) (F_S : zz_fr [] [1032] (fun _ _ => False) S0 S) (i3_0 : (-2147483648) ≤ x4 ∧ x4 ≤ 2147483647) (R : Nat) (hR : (51539607552 + (S (zz_rf 6 t) 10 - x4).toNat) * 1208925819614629174706176 + 1208925819614629174706175 = R) (k15 : ∀ (x4 : Int) (x5 : Int) (S : zz_S), zz_G S → zz_fr [] [1032] (fun _ _ => False) S0 S → ((-2147483648) ≤ x4 ∧ x4 ≤ 2147483647) → ((-2147483648) ≤ x5 ∧ x5 ≤ 2147483647) → (51539607552 + (S (zz_rf 6 t) 10 - x4).toNat) * 1208925819614629174706176 + (34359738368 + (S (zz_rf 6 t) 11 - x5).toNat) * 1099511627776 + 1099511627775 < R → zz_E g l zy_fillCells_4_18 zr_fillCells_4_18 (zz_QV n (zp_fillCells_4_18 t p1 p2 S0)) S n 15 [some (.ref (zz_rf 6 t)), some (.ref 1032), some (.ref (zz_rf 6 p1)), some (.ref (zz_rf 6 p2)), some (zi x4), some (zi x5)] [] 0 0) : zz_E g l zy_fillCells_4_18 zr_fillCells_4_18 (zz_QV n (zp_fillCells_4_18 t p1 p2 S0)) S n 3 [some (.ref (zz_rf 6 t)), some (.ref 1032), some (.ref (zz_rf 6 p1)), some (.ref (zz_rf 6 p2)), some (zi x4)] [] 0 0 := by
  have b_p1 := zz_rf6 (z := p1) (by omega)
  have b_p2 := zz_rf6 (z := p2) (by omega)
  have b_t := zz_rf6 (z := t) (by omega)
  refine zz_iload (x := x4) rfl zd_4_18_3 ?_
  refine zz_aload_n (x := zz_rf 6 t) rfl zd_4_18_5 ?_
  have g1 := zz_G.r G_S0 (zz_rf 6 t) 10 (-2147483648) 2147483647 (zR_k6_10 (by omega)) (zB_k6 (by omega))
  refine zz_geti (z := S0 (zz_rf 6 t) 10) zd_4_18_6 zf_Layer_54 (zT_k6 (by omega)) rfl (zN_k6 hn (by omega)) (zz_rc F_S (zP_k6 (by omega) rfl) (zQ_k6 (by omega) rfl) (fun h => h) rfl) ?_
  refine zz_icmp_ge (by omega) (by omega) zd_4_18_9 (fun c2 => ?_) (fun c2 => ?_)
  · exact zz_vret zd_4_18_102 rfl (Nat.zero_le _) (Nat.zero_le _) ⟨_, rfl, G_S, F_S⟩
  · refine zz_iconst zd_4_18_12 ?_
    refine zz_istore [some (.ref (zz_rf 6 t)), some (.ref 1032), some (.ref (zz_rf 6 p1)), some (.ref (zz_rf 6 p2)), some (zi x4), some (zi 0)] zd_4_18_13 (by decide) rfl ?_
    have e3 : S (zz_rf 6 t) 10 = S0 (zz_rf 6 t) 10 := (zz_rc F_S (zP_k6 (by omega) rfl) (zQ_k6 (by omega) rfl) (fun h => h) rfl)
    have e4 : S (zz_rf 6 t) 11 = S0 (zz_rf 6 t) 11 := (zz_rc F_S (zP_k6 (by omega) rfl) (zQ_k6 (by omega) rfl) (fun h => h) rfl)
    refine zz_less (ls1 := [some (.ref (zz_rf 6 t)), some (.ref 1032), some (.ref (zz_rf 6 p1)), some (.ref (zz_rf 6 p2)), some (zi x4), some (zi 0)]) ⟨rfl, ⟨rfl, ⟨rfl, ⟨rfl, ⟨rfl, ⟨rfl, trivial⟩⟩⟩⟩⟩⟩ ?_
    exact k15 x4 0 S G_S F_S (by omega) (by omega) (by omega)
theorem zb_fillCells_4_18_15 {g : mm_G} {l : Launch} (t : Int) (p1 : Int) (p2 : Int) (S0 : zz_S) (n : Nat) (hn : zz_end ≤ n) (G_S0 : zz_G S0) (ht : 0 ≤ t ∧ t ≤ 23) (hp1 : 0 ≤ p1 ∧ p1 ≤ 23) (hp2 : 0 ≤ p2 ∧ p2 ≤ 23) (x4 : Int) (x5 : Int) (S : zz_S) (G_S : zz_G S) (F_S : zz_fr [] [1032] (fun _ _ => False) S0 S) (i15_0 : (-2147483648) ≤ x4 ∧ x4 ≤ 2147483647) (i15_1 : (-2147483648) ≤ x5 ∧ x5 ≤ 2147483647) (R : Nat) (hR : (51539607552 + (S (zz_rf 6 t) 10 - x4).toNat) * 1208925819614629174706176 + (34359738368 + (S (zz_rf 6 t) 11 - x5).toNat) * 1099511627776 + 1099511627775 = R) (k3 : ∀ (x4 : Int) (S : zz_S), zz_G S → zz_fr [] [1032] (fun _ _ => False) S0 S → ((-2147483648) ≤ x4 ∧ x4 ≤ 2147483647) → (51539607552 + (S (zz_rf 6 t) 10 - x4).toNat) * 1208925819614629174706176 + 1208925819614629174706175 < R → zz_E g l zy_fillCells_4_18 zr_fillCells_4_18 (zz_QV n (zp_fillCells_4_18 t p1 p2 S0)) S n 3 [some (.ref (zz_rf 6 t)), some (.ref 1032), some (.ref (zz_rf 6 p1)), some (.ref (zz_rf 6 p2)), some (zi x4)] [] 0 0) (k27 : ∀ (x4 : Int) (x5 : Int) (x6 : Int) (S : zz_S), zz_G S → zz_fr [] [1032] (fun _ _ => False) S0 S → ((-2147483648) ≤ x4 ∧ x4 ≤ 2147483647) → ((-2147483648) ≤ x5 ∧ x5 ≤ 2147483647) → (0 ≤ x6 ∧ x6 ≤ 2147483647) → (51539607552 + (S (zz_rf 6 t) 10 - x4).toNat) * 1208925819614629174706176 + (34359738368 + (S (zz_rf 6 t) 11 - x5).toNat) * 1099511627776 + (17179869184 + (S (zz_rf 6 t) 12 - x6).toNat) < R → zz_E g l zy_fillCells_4_18 zr_fillCells_4_18 (zz_QV n (zp_fillCells_4_18 t p1 p2 S0)) S n 27 [some (.ref (zz_rf 6 t)), some (.ref 1032), some (.ref (zz_rf 6 p1)), some (.ref (zz_rf 6 p2)), some (zi x4), some (zi x5), some (zi x6)] [] 0 0) : zz_E g l zy_fillCells_4_18 zr_fillCells_4_18 (zz_QV n (zp_fillCells_4_18 t p1 p2 S0)) S n 15 [some (.ref (zz_rf 6 t)), some (.ref 1032), some (.ref (zz_rf 6 p1)), some (.ref (zz_rf 6 p2)), some (zi x4), some (zi x5)] [] 0 0 := by
  have b_p1 := zz_rf6 (z := p1) (by omega)
  have b_p2 := zz_rf6 (z := p2) (by omega)
  have b_t := zz_rf6 (z := t) (by omega)
  refine zz_iload (x := x5) rfl zd_4_18_15 ?_
  refine zz_aload_n (x := zz_rf 6 t) rfl zd_4_18_17 ?_
  have g5 := zz_G.r G_S0 (zz_rf 6 t) 11 (-2147483648) 2147483647 (zR_k6_11 (by omega)) (zB_k6 (by omega))
  refine zz_geti (z := S0 (zz_rf 6 t) 11) zd_4_18_18 zf_Layer_57 (zT_k6 (by omega)) rfl (zN_k6 hn (by omega)) (zz_rc F_S (zP_k6 (by omega) rfl) (zQ_k6 (by omega) rfl) (fun h => h) rfl) ?_
  refine zz_icmp_ge (by omega) (by omega) zd_4_18_21 (fun c6 => ?_) (fun c6 => ?_)
  · refine zz_iincN (fun v7 => [some (.ref (zz_rf 6 t)), some (.ref 1032), some (.ref (zz_rf 6 p1)), some (.ref (zz_rf 6 p2)), some (zi v7), some (zi x5)]) zd_4_18_96 rfl (fun _ => rfl) (fun v7 hv7 ev7 => ?_)
    refine zz_goto zd_4_18_99 ?_
    have e8 : S (zz_rf 6 t) 10 = S0 (zz_rf 6 t) 10 := (zz_rc F_S (zP_k6 (by omega) rfl) (zQ_k6 (by omega) rfl) (fun h => h) rfl)
    refine zz_less (ls1 := [some (.ref (zz_rf 6 t)), some (.ref 1032), some (.ref (zz_rf 6 p1)), some (.ref (zz_rf 6 p2)), some (zi v7)]) ⟨rfl, ⟨rfl, ⟨rfl, ⟨rfl, ⟨rfl, trivial⟩⟩⟩⟩⟩ ?_
    exact k3 v7 S G_S F_S (by omega) (by omega)
  · refine zz_iconst zd_4_18_24 ?_
    refine zz_istore [some (.ref (zz_rf 6 t)), some (.ref 1032), some (.ref (zz_rf 6 p1)), some (.ref (zz_rf 6 p2)), some (zi x4), some (zi x5), some (zi 0)] zd_4_18_25 (by decide) rfl ?_
    have e9 : S (zz_rf 6 t) 10 = S0 (zz_rf 6 t) 10 := (zz_rc F_S (zP_k6 (by omega) rfl) (zQ_k6 (by omega) rfl) (fun h => h) rfl)
    have e10 : S (zz_rf 6 t) 11 = S0 (zz_rf 6 t) 11 := (zz_rc F_S (zP_k6 (by omega) rfl) (zQ_k6 (by omega) rfl) (fun h => h) rfl)
    have e11 : S (zz_rf 6 t) 12 = S0 (zz_rf 6 t) 12 := (zz_rc F_S (zP_k6 (by omega) rfl) (zQ_k6 (by omega) rfl) (fun h => h) rfl)
    refine zz_less (ls1 := [some (.ref (zz_rf 6 t)), some (.ref 1032), some (.ref (zz_rf 6 p1)), some (.ref (zz_rf 6 p2)), some (zi x4), some (zi x5), some (zi 0)]) ⟨rfl, ⟨rfl, ⟨rfl, ⟨rfl, ⟨rfl, ⟨rfl, ⟨rfl, trivial⟩⟩⟩⟩⟩⟩⟩ ?_
    exact k27 x4 x5 0 S G_S F_S (by omega) (by omega) (by omega) (by omega)
theorem zb_fillCells_4_18_27 {g : mm_G} {l : Launch} (t : Int) (p1 : Int) (p2 : Int) (S0 : zz_S) (n : Nat) (hn : zz_end ≤ n) (G_S0 : zz_G S0) (ht : 0 ≤ t ∧ t ≤ 23) (hp1 : 0 ≤ p1 ∧ p1 ≤ 23) (hp2 : 0 ≤ p2 ∧ p2 ≤ 23) (x4 : Int) (x5 : Int) (x6 : Int) (S : zz_S) (G_S : zz_G S) (F_S : zz_fr [] [1032] (fun _ _ => False) S0 S) (i27_0 : (-2147483648) ≤ x4 ∧ x4 ≤ 2147483647) (i27_1 : (-2147483648) ≤ x5 ∧ x5 ≤ 2147483647) (i27_2 : 0 ≤ x6 ∧ x6 ≤ 2147483647) (R : Nat) (hR : (51539607552 + (S (zz_rf 6 t) 10 - x4).toNat) * 1208925819614629174706176 + (34359738368 + (S (zz_rf 6 t) 11 - x5).toNat) * 1099511627776 + (17179869184 + (S (zz_rf 6 t) 12 - x6).toNat) = R) (k15 : ∀ (x4 : Int) (x5 : Int) (S : zz_S), zz_G S → zz_fr [] [1032] (fun _ _ => False) S0 S → ((-2147483648) ≤ x4 ∧ x4 ≤ 2147483647) → ((-2147483648) ≤ x5 ∧ x5 ≤ 2147483647) → (51539607552 + (S (zz_rf 6 t) 10 - x4).toNat) * 1208925819614629174706176 + (34359738368 + (S (zz_rf 6 t) 11 - x5).toNat) * 1099511627776 + 1099511627775 < R → zz_E g l zy_fillCells_4_18 zr_fillCells_4_18 (zz_QV n (zp_fillCells_4_18 t p1 p2 S0)) S n 15 [some (.ref (zz_rf 6 t)), some (.ref 1032), some (.ref (zz_rf 6 p1)), some (.ref (zz_rf 6 p2)), some (zi x4), some (zi x5)] [] 0 0) (k27 : ∀ (x4 : Int) (x5 : Int) (x6 : Int) (S : zz_S), zz_G S → zz_fr [] [1032] (fun _ _ => False) S0 S → ((-2147483648) ≤ x4 ∧ x4 ≤ 2147483647) → ((-2147483648) ≤ x5 ∧ x5 ≤ 2147483647) → (0 ≤ x6 ∧ x6 ≤ 2147483647) → (51539607552 + (S (zz_rf 6 t) 10 - x4).toNat) * 1208925819614629174706176 + (34359738368 + (S (zz_rf 6 t) 11 - x5).toNat) * 1099511627776 + (17179869184 + (S (zz_rf 6 t) 12 - x6).toNat) < R → zz_E g l zy_fillCells_4_18 zr_fillCells_4_18 (zz_QV n (zp_fillCells_4_18 t p1 p2 S0)) S n 27 [some (.ref (zz_rf 6 t)), some (.ref 1032), some (.ref (zz_rf 6 p1)), some (.ref (zz_rf 6 p2)), some (zi x4), some (zi x5), some (zi x6)] [] 0 0) : zz_E g l zy_fillCells_4_18 zr_fillCells_4_18 (zz_QV n (zp_fillCells_4_18 t p1 p2 S0)) S n 27 [some (.ref (zz_rf 6 t)), some (.ref 1032), some (.ref (zz_rf 6 p1)), some (.ref (zz_rf 6 p2)), some (zi x4), some (zi x5), some (zi x6)] [] 0 0 := by
  have b_p1 := zz_rf6 (z := p1) (by omega)
  have b_p2 := zz_rf6 (z := p2) (by omega)
  have b_t := zz_rf6 (z := t) (by omega)
  refine zz_iload (x := x6) rfl zd_4_18_27 ?_
  refine zz_aload_n (x := zz_rf 6 t) rfl zd_4_18_29 ?_
  have g12 := zz_G.r G_S0 (zz_rf 6 t) 12 (-2147483648) 2147483647 (zR_k6_12 (by omega)) (zB_k6 (by omega))
  refine zz_geti (z := S0 (zz_rf 6 t) 12) zd_4_18_30 zf_Layer_60 (zT_k6 (by omega)) rfl (zN_k6 hn (by omega)) (zz_rc F_S (zP_k6 (by omega) rfl) (zQ_k6 (by omega) rfl) (fun h => h) rfl) ?_
  refine zz_icmp_ge (by omega) (by omega) zd_4_18_33 (fun c13 => ?_) (fun c13 => ?_)
  · refine zz_iincN (fun v14 => [some (.ref (zz_rf 6 t)), some (.ref 1032), some (.ref (zz_rf 6 p1)), some (.ref (zz_rf 6 p2)), some (zi x4), some (zi v14), some (zi x6)]) zd_4_18_90 rfl (fun _ => rfl) (fun v14 hv14 ev14 => ?_)
    refine zz_goto zd_4_18_93 ?_
    have e15 : S (zz_rf 6 t) 10 = S0 (zz_rf 6 t) 10 := (zz_rc F_S (zP_k6 (by omega) rfl) (zQ_k6 (by omega) rfl) (fun h => h) rfl)
    have e16 : S (zz_rf 6 t) 11 = S0 (zz_rf 6 t) 11 := (zz_rc F_S (zP_k6 (by omega) rfl) (zQ_k6 (by omega) rfl) (fun h => h) rfl)
    refine zz_less (ls1 := [some (.ref (zz_rf 6 t)), some (.ref 1032), some (.ref (zz_rf 6 p1)), some (.ref (zz_rf 6 p2)), some (zi x4), some (zi v14)]) ⟨rfl, ⟨rfl, ⟨rfl, ⟨rfl, ⟨rfl, ⟨rfl, trivial⟩⟩⟩⟩⟩⟩ ?_
    exact k15 x4 v14 S G_S F_S (by omega) (by omega) (by omega)
  · refine zz_aload_n (x := zz_rf 6 t) rfl zd_4_18_36 ?_
    refine zz_iload (x := x4) rfl zd_4_18_37 ?_
    refine zz_iload (x := x5) rfl zd_4_18_39 ?_
    refine zz_iload (x := x6) rfl zd_4_18_41 ?_
    refine zz_callVI [zi x4, zi x5, zi x6] zd_4_18_43 zk_Layer_75 (zT_k6 (by omega)) (zN_k6 hn (by omega)) rfl rfl ⟨Nat.le_of_ble_eq_true rfl, Nat.le_of_ble_eq_true rfl⟩ ⟨rfl, rfl⟩ (Nat.zero_le _) (Nat.zero_le _) (zc_cellAt_4_15 t x4 x5 x6 S n hn G_S (by omega) (by omega) (by omega) (by omega)) (fun v18 S17 hP => ?_)
    obtain ⟨rfl, o19⟩ := hP
    refine zz_istore [some (.ref (zz_rf 6 t)), some (.ref 1032), some (.ref (zz_rf 6 p1)), some (.ref (zz_rf 6 p2)), some (zi x4), some (zi x5), some (zi x6), some (zi v18)] zd_4_18_46 (by decide) rfl ?_
    refine zz_iload (x := v18) rfl zd_4_18_48 ?_
    refine zz_if_lt (by omega) zd_4_18_50 (fun c20 => ?_) (fun c20 => ?_)
    · refine zz_iinc [some (.ref (zz_rf 6 t)), some (.ref 1032), some (.ref (zz_rf 6 p1)), some (.ref (zz_rf 6 p2)), some (zi x4), some (zi x5), some (zi (x6 + 1)), some (zi v18)] zd_4_18_84 rfl rfl ?_
      refine zz_goto zd_4_18_87 ?_
      have e21 : S (zz_rf 6 t) 10 = S0 (zz_rf 6 t) 10 := (zz_rc F_S (zP_k6 (by omega) rfl) (zQ_k6 (by omega) rfl) (fun h => h) rfl)
      have e22 : S (zz_rf 6 t) 11 = S0 (zz_rf 6 t) 11 := (zz_rc F_S (zP_k6 (by omega) rfl) (zQ_k6 (by omega) rfl) (fun h => h) rfl)
      have e23 : S (zz_rf 6 t) 12 = S0 (zz_rf 6 t) 12 := (zz_rc F_S (zP_k6 (by omega) rfl) (zQ_k6 (by omega) rfl) (fun h => h) rfl)
      refine zz_less (ls1 := [some (.ref (zz_rf 6 t)), some (.ref 1032), some (.ref (zz_rf 6 p1)), some (.ref (zz_rf 6 p2)), some (zi x4), some (zi x5), some (zi (x6 + 1))]) ⟨rfl, ⟨rfl, ⟨rfl, ⟨rfl, ⟨rfl, ⟨rfl, ⟨rfl, trivial⟩⟩⟩⟩⟩⟩⟩ ?_
      exact k27 x4 x5 (x6 + 1) S G_S F_S (by omega) (by omega) (by omega) (by omega)
    · refine zz_iload (x := v18) rfl zd_4_18_53 ?_
      refine zz_aload_n (x := 1032) rfl zd_4_18_55 ?_
      refine zz_alen zd_4_18_56 zT_1032 rfl (zz_ltn hn rfl) ?_
      refine zz_icmp_ge (by omega) (by omega) zd_4_18_57 (fun c24 => ?_) (fun c24 => ?_)
      · refine zz_iinc [some (.ref (zz_rf 6 t)), some (.ref 1032), some (.ref (zz_rf 6 p1)), some (.ref (zz_rf 6 p2)), some (zi x4), some (zi x5), some (zi (x6 + 1)), some (zi v18)] zd_4_18_84 rfl rfl ?_
        refine zz_goto zd_4_18_87 ?_
        have e25 : S (zz_rf 6 t) 10 = S0 (zz_rf 6 t) 10 := (zz_rc F_S (zP_k6 (by omega) rfl) (zQ_k6 (by omega) rfl) (fun h => h) rfl)
        have e26 : S (zz_rf 6 t) 11 = S0 (zz_rf 6 t) 11 := (zz_rc F_S (zP_k6 (by omega) rfl) (zQ_k6 (by omega) rfl) (fun h => h) rfl)
        have e27 : S (zz_rf 6 t) 12 = S0 (zz_rf 6 t) 12 := (zz_rc F_S (zP_k6 (by omega) rfl) (zQ_k6 (by omega) rfl) (fun h => h) rfl)
        refine zz_less (ls1 := [some (.ref (zz_rf 6 t)), some (.ref 1032), some (.ref (zz_rf 6 p1)), some (.ref (zz_rf 6 p2)), some (zi x4), some (zi x5), some (zi (x6 + 1))]) ⟨rfl, ⟨rfl, ⟨rfl, ⟨rfl, ⟨rfl, ⟨rfl, ⟨rfl, trivial⟩⟩⟩⟩⟩⟩⟩ ?_
        exact k27 x4 x5 (x6 + 1) S G_S F_S (by omega) (by omega) (by omega) (by omega)
      · refine zz_aload_n (x := 1032) rfl zd_4_18_60 ?_
        refine zz_iload (x := v18) rfl zd_4_18_61 ?_
        refine zz_aload_n (x := zz_rf 6 t) rfl zd_4_18_63 ?_
        refine zz_aload_n (x := 1032) rfl zd_4_18_64 ?_
        refine zz_aload_n (x := zz_rf 6 p1) rfl zd_4_18_65 ?_
        refine zz_aload_n (x := zz_rf 6 p2) rfl zd_4_18_66 ?_
        refine zz_iload (x := x4) rfl zd_4_18_67 ?_
        refine zz_iload (x := x5) rfl zd_4_18_69 ?_
        refine zz_iload (x := x6) rfl zd_4_18_71 ?_
        refine zz_callVI [.ref 1032, .ref (zz_rf 6 p1), .ref (zz_rf 6 p2), zi x4, zi x5, zi x6] zd_4_18_73 zk_Layer_79 (zT_k6 (by omega)) (zN_k6 hn (by omega)) rfl rfl ⟨Nat.le_of_ble_eq_true rfl, Nat.le_of_ble_eq_true rfl⟩ ⟨rfl, rfl⟩ (Nat.zero_le _) (Nat.zero_le _) (zc_sumOf_4_19 t p1 p2 x4 x5 x6 S n hn G_S (by omega) (by omega) (by omega) (by omega) (by omega) (by omega)) (fun v29 S28 hP => ?_)
        obtain ⟨rfl, o30⟩ := hP
        refine zz_aload_n (x := zz_rf 6 t) rfl zd_4_18_76 ?_
        refine zz_callVI [] zd_4_18_77 zk_Layer_83 (zT_k6 (by omega)) (zN_k6 hn (by omega)) rfl rfl ⟨Nat.le_of_ble_eq_true rfl, Nat.le_of_ble_eq_true rfl⟩ ⟨rfl, rfl⟩ (Nat.zero_le _) (Nat.zero_le _) (zc_narrowing_4_6 t S n hn G_S (by omega)) (fun v32 S31 hP => ?_)
        obtain ⟨rfl, o33⟩ := hP
        refine zz_callSI [zi v29, zi v32] zd_4_18_80 zk_Layer_87 rfl rfl ⟨Nat.le_of_ble_eq_true rfl, Nat.le_of_ble_eq_true rfl⟩ ⟨rfl, rfl⟩ (Nat.zero_le _) (Nat.zero_le _) (zc_narrowed_6_19 v29 v32 S n hn G_S (by omega) (by omega)) (fun v35 S34 hP => ?_)
        obtain ⟨rfl, o36⟩ := hP
        refine zz_bast zd_4_18_83 zT_1032 rfl (zz_ltn hn rfl) (by decide) (by omega) (by omega) (fun S37 qS37 => ?_)
        have G_S37 := zz_G.put G_S qS37 (-128) 127 rfl (by omega)
        have F_S37 := zz_fr.putc F_S qS37 rfl
        refine zz_iinc [some (.ref (zz_rf 6 t)), some (.ref 1032), some (.ref (zz_rf 6 p1)), some (.ref (zz_rf 6 p2)), some (zi x4), some (zi x5), some (zi (x6 + 1)), some (zi v18)] zd_4_18_84 rfl rfl ?_
        refine zz_goto zd_4_18_87 ?_
        have e38 : S37 (zz_rf 6 t) 10 = S0 (zz_rf 6 t) 10 := (zz_ro qS37 (fun h => absurd h.1 (by have := zz_rf6 (z := t) (by omega); omega)) (zz_rc F_S (zP_k6 (by omega) rfl) (zQ_k6 (by omega) rfl) (fun h => h) rfl))
        have e39 : S37 (zz_rf 6 t) 11 = S0 (zz_rf 6 t) 11 := (zz_ro qS37 (fun h => absurd h.1 (by have := zz_rf6 (z := t) (by omega); omega)) (zz_rc F_S (zP_k6 (by omega) rfl) (zQ_k6 (by omega) rfl) (fun h => h) rfl))
        have e40 : S37 (zz_rf 6 t) 12 = S0 (zz_rf 6 t) 12 := (zz_ro qS37 (fun h => absurd h.1 (by have := zz_rf6 (z := t) (by omega); omega)) (zz_rc F_S (zP_k6 (by omega) rfl) (zQ_k6 (by omega) rfl) (fun h => h) rfl))
        refine zz_less (ls1 := [some (.ref (zz_rf 6 t)), some (.ref 1032), some (.ref (zz_rf 6 p1)), some (.ref (zz_rf 6 p2)), some (zi x4), some (zi x5), some (zi (x6 + 1))]) ⟨rfl, ⟨rfl, ⟨rfl, ⟨rfl, ⟨rfl, ⟨rfl, ⟨rfl, trivial⟩⟩⟩⟩⟩⟩⟩ ?_
        exact k27 x4 x5 (x6 + 1) S37 G_S37 F_S37 (by omega) (by omega) (by omega) (by omega)
theorem zi_fillCells_4_18 {g : mm_G} {l : Launch} (t : Int) (p1 : Int) (p2 : Int) (S0 : zz_S) (n : Nat) (hn : zz_end ≤ n) (G_S0 : zz_G S0) (ht : 0 ≤ t ∧ t ≤ 23) (hp1 : 0 ≤ p1 ∧ p1 ≤ 23) (hp2 : 0 ≤ p2 ∧ p2 ≤ 23) : ∀ N : Nat, (∀ (x4 : Int) (S : zz_S), zz_G S → zz_fr [] [1032] (fun _ _ => False) S0 S → ((-2147483648) ≤ x4 ∧ x4 ≤ 2147483647) → (51539607552 + (S (zz_rf 6 t) 10 - x4).toNat) * 1208925819614629174706176 + 1208925819614629174706175 < N → zz_E g l zy_fillCells_4_18 zr_fillCells_4_18 (zz_QV n (zp_fillCells_4_18 t p1 p2 S0)) S n 3 [some (.ref (zz_rf 6 t)), some (.ref 1032), some (.ref (zz_rf 6 p1)), some (.ref (zz_rf 6 p2)), some (zi x4)] [] 0 0) ∧ (∀ (x4 : Int) (x5 : Int) (S : zz_S), zz_G S → zz_fr [] [1032] (fun _ _ => False) S0 S → ((-2147483648) ≤ x4 ∧ x4 ≤ 2147483647) → ((-2147483648) ≤ x5 ∧ x5 ≤ 2147483647) → (51539607552 + (S (zz_rf 6 t) 10 - x4).toNat) * 1208925819614629174706176 + (34359738368 + (S (zz_rf 6 t) 11 - x5).toNat) * 1099511627776 + 1099511627775 < N → zz_E g l zy_fillCells_4_18 zr_fillCells_4_18 (zz_QV n (zp_fillCells_4_18 t p1 p2 S0)) S n 15 [some (.ref (zz_rf 6 t)), some (.ref 1032), some (.ref (zz_rf 6 p1)), some (.ref (zz_rf 6 p2)), some (zi x4), some (zi x5)] [] 0 0) ∧ (∀ (x4 : Int) (x5 : Int) (x6 : Int) (S : zz_S), zz_G S → zz_fr [] [1032] (fun _ _ => False) S0 S → ((-2147483648) ≤ x4 ∧ x4 ≤ 2147483647) → ((-2147483648) ≤ x5 ∧ x5 ≤ 2147483647) → (0 ≤ x6 ∧ x6 ≤ 2147483647) → (51539607552 + (S (zz_rf 6 t) 10 - x4).toNat) * 1208925819614629174706176 + (34359738368 + (S (zz_rf 6 t) 11 - x5).toNat) * 1099511627776 + (17179869184 + (S (zz_rf 6 t) 12 - x6).toNat) < N → zz_E g l zy_fillCells_4_18 zr_fillCells_4_18 (zz_QV n (zp_fillCells_4_18 t p1 p2 S0)) S n 27 [some (.ref (zz_rf 6 t)), some (.ref 1032), some (.ref (zz_rf 6 p1)), some (.ref (zz_rf 6 p2)), some (zi x4), some (zi x5), some (zi x6)] [] 0 0) := by
  intro N
  induction N with
  | zero => exact ⟨fun x4 S _ _ _ h => absurd h (Nat.not_lt_zero _), fun x4 x5 S _ _ _ _ h => absurd h (Nat.not_lt_zero _), fun x4 x5 x6 S _ _ _ _ _ h => absurd h (Nat.not_lt_zero _)⟩
  | succ N ih =>
    exact ⟨fun x4 S a b j0 hR => zb_fillCells_4_18_3 t p1 p2 S0 n hn G_S0 ht hp1 hp2 x4 S a b j0 _ rfl (fun x4 x5 S a b j0 j1 h => ih.2.1 x4 x5 S a b j0 j1 (Nat.lt_of_lt_of_le h (Nat.le_of_lt_succ hR))),
      fun x4 x5 S a b j0 j1 hR => zb_fillCells_4_18_15 t p1 p2 S0 n hn G_S0 ht hp1 hp2 x4 x5 S a b j0 j1 _ rfl (fun x4 S a b j0 h => ih.1 x4 S a b j0 (Nat.lt_of_lt_of_le h (Nat.le_of_lt_succ hR))) (fun x4 x5 x6 S a b j0 j1 j2 h => ih.2.2 x4 x5 x6 S a b j0 j1 j2 (Nat.lt_of_lt_of_le h (Nat.le_of_lt_succ hR))),
      fun x4 x5 x6 S a b j0 j1 j2 hR => zb_fillCells_4_18_27 t p1 p2 S0 n hn G_S0 ht hp1 hp2 x4 x5 x6 S a b j0 j1 j2 _ rfl (fun x4 x5 S a b j0 j1 h => ih.2.1 x4 x5 S a b j0 j1 (Nat.lt_of_lt_of_le h (Nat.le_of_lt_succ hR))) (fun x4 x5 x6 S a b j0 j1 j2 h => ih.2.2 x4 x5 x6 S a b j0 j1 j2 (Nat.lt_of_lt_of_le h (Nat.le_of_lt_succ hR)))⟩
theorem zc_fillCells_4_18 {g : mm_G} {l : Launch} (t : Int) (p1 : Int) (p2 : Int) (S0 : zz_S) (n : Nat) (hn : zz_end ≤ n) (G_S0 : zz_G S0) (ht : 0 ≤ t ∧ t ≤ 23) (hp1 : 0 ≤ p1 ∧ p1 ≤ 23) (hp2 : 0 ≤ p2 ∧ p2 ≤ 23) : mm_Met g l zy_fillCells_4_18 zr_fillCells_4_18 [.ref (zz_rf 6 t), .ref 1032, .ref (zz_rf 6 p1), .ref (zz_rf 6 p2)] (zz_M S0 n) n (zz_QV n (zp_fillCells_4_18 t p1 p2 S0)) := by
  refine zz_enter (by decide) (Nat.le_of_ble_eq_true rfl) (zz_less (ls1 := [some (.ref (zz_rf 6 t)), some (.ref 1032), some (.ref (zz_rf 6 p1)), some (.ref (zz_rf 6 p2))]) ⟨rfl, ⟨rfl, ⟨rfl, ⟨rfl, trivial⟩⟩⟩⟩ ?_)
  have F_S0 : zz_fr [] [1032] (fun _ _ => False) S0 S0 := zz_fr.refl
  have k3 : ∀ (x4 : Int) (S : zz_S), zz_G S → zz_fr [] [1032] (fun _ _ => False) S0 S → ((-2147483648) ≤ x4 ∧ x4 ≤ 2147483647) → zz_E g l zy_fillCells_4_18 zr_fillCells_4_18 (zz_QV n (zp_fillCells_4_18 t p1 p2 S0)) S n 3 [some (.ref (zz_rf 6 t)), some (.ref 1032), some (.ref (zz_rf 6 p1)), some (.ref (zz_rf 6 p2)), some (zi x4)] [] 0 0 := fun x4 S a b j0 => (zi_fillCells_4_18 (g := g) (l := l) t p1 p2 S0 n hn G_S0 ht hp1 hp2 _).1 x4 S a b j0 (Nat.lt_succ_self _)
  have b_p1 := zz_rf6 (z := p1) (by omega)
  have b_p2 := zz_rf6 (z := p2) (by omega)
  have b_t := zz_rf6 (z := t) (by omega)
  refine zz_iconst zd_4_18_0 ?_
  refine zz_istore [some (.ref (zz_rf 6 t)), some (.ref 1032), some (.ref (zz_rf 6 p1)), some (.ref (zz_rf 6 p2)), some (zi 0)] zd_4_18_1 (by decide) rfl ?_
  refine zz_less (ls1 := [some (.ref (zz_rf 6 t)), some (.ref 1032), some (.ref (zz_rf 6 p1)), some (.ref (zz_rf 6 p2)), some (zi 0)]) ⟨rfl, ⟨rfl, ⟨rfl, ⟨rfl, ⟨rfl, trivial⟩⟩⟩⟩⟩ ?_
  exact k3 0 S0 G_S0 F_S0 (by omega)
theorem zk_Network_72 : mm_Vl "TensorForge$Network" 72 2 3 zy_fillCells_4_18 := ⟨zyw_fillCells_4_18, (R_Layer, F_Layer, 15), rfl, mm_tb_1 862 (by decide +kernel) rfl, mm_tb_1 863 (by decide +kernel) rfl, mm_tb_1 864 (by decide +kernel) rfl⟩
-- TensorForge$Network settle ([B)V
abbrev zr_settle_7_9 : Room := { frames := 5, cells := 0, slots := 0, locals := 96 }
def zp_settle_7_9 (t : Int) (S0 : zz_S) : zz_S → Prop := fun S => zz_G S ∧ zz_fr [] [1032] (fun _ _ => False) S0 S
theorem zb_settle_7_9_2 {g : mm_G} {l : Launch} (t : Int) (S0 : zz_S) (n : Nat) (hn : zz_end ≤ n) (G_S0 : zz_G S0) (ht : 0 ≤ t ∧ t ≤ 1) (x2 : Int) (S : zz_S) (G_S : zz_G S) (F_S : zz_fr [] [1032] (fun _ _ => False) S0 S) (i2_0 : 1 ≤ x2 ∧ x2 ≤ 11) (R : Nat) (hR : (S (zz_rf 3 t) 1 - x2).toNat = R) (k2 : ∀ (x2 : Int) (S : zz_S), zz_G S → zz_fr [] [1032] (fun _ _ => False) S0 S → (1 ≤ x2 ∧ x2 ≤ 11) → (S (zz_rf 3 t) 1 - x2).toNat < R → zz_E g l zy_settle_7_9 zr_settle_7_9 (zz_QV n (zp_settle_7_9 t S0)) S n 2 [some (.ref (zz_rf 3 t)), some (.ref 1032), some (zi x2)] [] 0 0) : zz_E g l zy_settle_7_9 zr_settle_7_9 (zz_QV n (zp_settle_7_9 t S0)) S n 2 [some (.ref (zz_rf 3 t)), some (.ref 1032), some (zi x2)] [] 0 0 := by
  have b_t := zz_rf3 (z := t) (by omega)
  refine zz_iload_n (x := x2) rfl zd_7_9_2 ?_
  refine zz_aload_n (x := zz_rf 3 t) rfl zd_7_9_3 ?_
  have g1 := zz_G.r G_S0 (zz_rf 3 t) 1 1 11 (zR_k3_1 (by omega)) (zB_k3 (by omega))
  refine zz_geti (z := S0 (zz_rf 3 t) 1) zd_7_9_4 zf_Network_16 (zT_k3 (by omega)) rfl (zN_k3 hn (by omega)) (zz_rc F_S (zP_k3 (by omega) rfl) (zQ_k3 (by omega) rfl) (fun h => h) rfl) ?_
  refine zz_icmp_ge (by omega) (by omega) zd_7_9_7 (fun c2 => ?_) (fun c2 => ?_)
  · exact zz_vret zd_7_9_68 rfl (Nat.zero_le _) (Nat.zero_le _) ⟨_, rfl, G_S, F_S⟩
  · refine zz_aload_n (x := zz_rf 3 t) rfl zd_7_9_10 ?_
    refine zz_getr (kd := 0) (z := ((zz_rf 3 t + 1 : Nat) : Int)) zd_7_9_11 zf_Network_11 (zT_k3 (by omega)) rfl (zN_k3 hn (by omega)) (zE_k3a G_S (by omega)) (Int.natCast_nonneg _) (zz_rf 3 t + 1) (Int.toNat_natCast _) ?_
    refine zz_iload_n (x := x2) rfl zd_7_9_14 ?_
    refine zz_aald (kd := 4) (z := 12 * t + x2) zd_7_9_15 (zT_k3a (by omega)) rfl (zN_k3a hn (by omega)) (by decide) (by omega) (zE_lay G_S (by omega) (by omega)) (by omega) (zz_rf 6 (12 * t + x2)) rfl ?_
    refine zz_astore_n [some (.ref (zz_rf 3 t)), some (.ref 1032), some (zi x2), some (.ref (zz_rf 6 (12 * t + x2)))] zd_7_9_16 (by decide) rfl ?_
    refine zz_aload_n (x := zz_rf 3 t) rfl zd_7_9_17 ?_
    refine zz_aload_n (x := zz_rf 6 (12 * t + x2)) rfl zd_7_9_18 ?_
    have g3 := zz_G.r G_S0 (zz_rf 6 (12 * t + x2)) 1 (-2147483648) 2147483647 (zR_k6_1 (by omega)) (zB_k6 (by omega))
    refine zz_geti (z := S0 (zz_rf 6 (12 * t + x2)) 1) zd_7_9_19 zf_Network_38 (zT_k6 (by omega)) rfl (zN_k6 hn (by omega)) (zz_rc F_S (zP_k6 (by omega) rfl) (zQ_k6 (by omega) rfl) (fun h => h) rfl) ?_
    have e4 : S (zz_rf 3 t) 1 = S0 (zz_rf 3 t) 1 := (zz_rc F_S (zP_k3 (by omega) rfl) (zQ_k3 (by omega) rfl) (fun h => h) rfl)
    refine zz_callVI [zi (S0 (zz_rf 6 (12 * t + x2)) 1)] zd_7_9_22 zk_Network_41 (zT_k3 (by omega)) (zN_k3 hn (by omega)) rfl rfl ⟨Nat.le_of_ble_eq_true rfl, Nat.le_of_ble_eq_true rfl⟩ ⟨rfl, rfl⟩ (Nat.zero_le _) (Nat.zero_le _) (zc_has_7_5 t (S0 (zz_rf 6 (12 * t + x2)) 1) S n hn G_S (by omega) (by omega)) (fun v6 S5 hP => ?_)
    obtain ⟨rfl, o7, o8⟩ := hP
    rcases (by omega : v6 = 0 ∨ v6 = 1) with rfl | rfl
    · refine zz_if_eq (by omega) zd_7_9_25 (fun c9 => ?_) (fun c9 => ?_)
      · refine zz_iinc [some (.ref (zz_rf 3 t)), some (.ref 1032), some (zi (x2 + 1)), some (.ref (zz_rf 6 (12 * t + x2)))] zd_7_9_62 rfl rfl ?_
        refine zz_goto zd_7_9_65 ?_
        refine zz_less (ls1 := [some (.ref (zz_rf 3 t)), some (.ref 1032), some (zi (x2 + 1))]) ⟨rfl, ⟨rfl, ⟨rfl, trivial⟩⟩⟩ ?_
        exact k2 (x2 + 1) S G_S F_S (by omega) (by omega)
      · exfalso; omega
    · refine zz_if_eq (by omega) zd_7_9_25 (fun c10 => ?_) (fun c10 => ?_)
      · exfalso; omega
      · refine zz_aload_n (x := zz_rf 3 t) rfl zd_7_9_28 ?_
        refine zz_aload_n (x := zz_rf 6 (12 * t + x2)) rfl zd_7_9_29 ?_
        have g11 := zz_G.r G_S0 (zz_rf 6 (12 * t + x2)) 2 (-2147483648) 2147483647 (zR_k6_2 (by omega)) (zB_k6 (by omega))
        refine zz_geti (z := S0 (zz_rf 6 (12 * t + x2)) 2) zd_7_9_30 zf_Network_45 (zT_k6 (by omega)) rfl (zN_k6 hn (by omega)) (zz_rc F_S (zP_k6 (by omega) rfl) (zQ_k6 (by omega) rfl) (fun h => h) rfl) ?_
        refine zz_callVI [zi (S0 (zz_rf 6 (12 * t + x2)) 2)] zd_7_9_33 zk_Network_41 (zT_k3 (by omega)) (zN_k3 hn (by omega)) rfl rfl ⟨Nat.le_of_ble_eq_true rfl, Nat.le_of_ble_eq_true rfl⟩ ⟨rfl, rfl⟩ (Nat.zero_le _) (Nat.zero_le _) (zc_has_7_5 t (S0 (zz_rf 6 (12 * t + x2)) 2) S n hn G_S (by omega) (by omega)) (fun v13 S12 hP => ?_)
        obtain ⟨rfl, o14, o15⟩ := hP
        rcases (by omega : v13 = 0 ∨ v13 = 1) with rfl | rfl
        · refine zz_if_eq (by omega) zd_7_9_36 (fun c16 => ?_) (fun c16 => ?_)
          · refine zz_iinc [some (.ref (zz_rf 3 t)), some (.ref 1032), some (zi (x2 + 1)), some (.ref (zz_rf 6 (12 * t + x2)))] zd_7_9_62 rfl rfl ?_
            refine zz_goto zd_7_9_65 ?_
            refine zz_less (ls1 := [some (.ref (zz_rf 3 t)), some (.ref 1032), some (zi (x2 + 1))]) ⟨rfl, ⟨rfl, ⟨rfl, trivial⟩⟩⟩ ?_
            exact k2 (x2 + 1) S G_S F_S (by omega) (by omega)
          · exfalso; omega
        · refine zz_if_eq (by omega) zd_7_9_36 (fun c17 => ?_) (fun c17 => ?_)
          · exfalso; omega
          · refine zz_aload_n (x := zz_rf 6 (12 * t + x2)) rfl zd_7_9_39 ?_
            refine zz_aload_n (x := 1032) rfl zd_7_9_40 ?_
            refine zz_aload_n (x := zz_rf 3 t) rfl zd_7_9_41 ?_
            refine zz_getr (kd := 0) (z := ((zz_rf 3 t + 1 : Nat) : Int)) zd_7_9_42 zf_Network_11 (zT_k3 (by omega)) rfl (zN_k3 hn (by omega)) (zE_k3a G_S (by omega)) (Int.natCast_nonneg _) (zz_rf 3 t + 1) (Int.toNat_natCast _) ?_
            refine zz_aload_n (x := zz_rf 6 (12 * t + x2)) rfl zd_7_9_45 ?_
            refine zz_geti (z := S0 (zz_rf 6 (12 * t + x2)) 1) zd_7_9_46 zf_Network_38 (zT_k6 (by omega)) rfl (zN_k6 hn (by omega)) (zz_rc F_S (zP_k6 (by omega) rfl) (zQ_k6 (by omega) rfl) (fun h => h) rfl) ?_
            refine zz_aald (kd := 4) (z := 12 * t + (S0 (zz_rf 6 (12 * t + x2)) 1)) zd_7_9_49 (zT_k3a (by omega)) rfl (zN_k3a hn (by omega)) (by decide) (by omega) (zE_lay G_S (by omega) (by omega)) (by omega) (zz_rf 6 (12 * t + (S0 (zz_rf 6 (12 * t + x2)) 1))) rfl ?_
            refine zz_aload_n (x := zz_rf 3 t) rfl zd_7_9_50 ?_
            refine zz_getr (kd := 0) (z := ((zz_rf 3 t + 1 : Nat) : Int)) zd_7_9_51 zf_Network_11 (zT_k3 (by omega)) rfl (zN_k3 hn (by omega)) (zE_k3a G_S (by omega)) (Int.natCast_nonneg _) (zz_rf 3 t + 1) (Int.toNat_natCast _) ?_
            refine zz_aload_n (x := zz_rf 6 (12 * t + x2)) rfl zd_7_9_54 ?_
            refine zz_geti (z := S0 (zz_rf 6 (12 * t + x2)) 2) zd_7_9_55 zf_Network_45 (zT_k6 (by omega)) rfl (zN_k6 hn (by omega)) (zz_rc F_S (zP_k6 (by omega) rfl) (zQ_k6 (by omega) rfl) (fun h => h) rfl) ?_
            refine zz_aald (kd := 4) (z := 12 * t + (S0 (zz_rf 6 (12 * t + x2)) 2)) zd_7_9_58 (zT_k3a (by omega)) rfl (zN_k3a hn (by omega)) (by decide) (by omega) (zE_lay G_S (by omega) (by omega)) (by omega) (zz_rf 6 (12 * t + (S0 (zz_rf 6 (12 * t + x2)) 2))) rfl ?_
            refine zz_callVV [.ref 1032, .ref (zz_rf 6 (12 * t + (S0 (zz_rf 6 (12 * t + x2)) 1))), .ref (zz_rf 6 (12 * t + (S0 (zz_rf 6 (12 * t + x2)) 2)))] zd_7_9_59 zk_Network_72 (zT_k6 (by omega)) (zN_k6 hn (by omega)) rfl rfl ⟨Nat.le_of_ble_eq_true rfl, Nat.le_of_ble_eq_true rfl⟩ ⟨rfl, rfl⟩ (Nat.zero_le _) (Nat.zero_le _) (zc_fillCells_4_18 (12 * t + x2) (12 * t + (S0 (zz_rf 6 (12 * t + x2)) 1)) (12 * t + (S0 (zz_rf 6 (12 * t + x2)) 2)) S n hn G_S (by omega) (by omega) (by omega)) (fun S18 hP => ?_)
            obtain ⟨G_S18, fS18⟩ := hP
            have F_S18 := zz_fr.trans F_S fS18 rfl zz_nv
            refine zz_iinc [some (.ref (zz_rf 3 t)), some (.ref 1032), some (zi (x2 + 1)), some (.ref (zz_rf 6 (12 * t + x2)))] zd_7_9_62 rfl rfl ?_
            refine zz_goto zd_7_9_65 ?_
            have e20 : S18 (zz_rf 3 t) 1 = S0 (zz_rf 3 t) 1 := (zz_rc fS18 (zP_k3 (by omega) rfl) (zQ_k3 (by omega) rfl) (fun h => h) (zz_rc F_S (zP_k3 (by omega) rfl) (zQ_k3 (by omega) rfl) (fun h => h) rfl))
            refine zz_less (ls1 := [some (.ref (zz_rf 3 t)), some (.ref 1032), some (zi (x2 + 1))]) ⟨rfl, ⟨rfl, ⟨rfl, trivial⟩⟩⟩ ?_
            exact k2 (x2 + 1) S18 G_S18 F_S18 (by omega) (by omega)
theorem zi_settle_7_9 {g : mm_G} {l : Launch} (t : Int) (S0 : zz_S) (n : Nat) (hn : zz_end ≤ n) (G_S0 : zz_G S0) (ht : 0 ≤ t ∧ t ≤ 1) : ∀ N : Nat, (∀ (x2 : Int) (S : zz_S), zz_G S → zz_fr [] [1032] (fun _ _ => False) S0 S → (1 ≤ x2 ∧ x2 ≤ 11) → (S (zz_rf 3 t) 1 - x2).toNat < N → zz_E g l zy_settle_7_9 zr_settle_7_9 (zz_QV n (zp_settle_7_9 t S0)) S n 2 [some (.ref (zz_rf 3 t)), some (.ref 1032), some (zi x2)] [] 0 0) := by
  intro N
  induction N with
  | zero => exact fun x2 S _ _ _ h => absurd h (Nat.not_lt_zero _)
  | succ N ih =>
    exact fun x2 S a b j0 hR => zb_settle_7_9_2 t S0 n hn G_S0 ht x2 S a b j0 _ rfl (fun x2 S a b j0 h => ih x2 S a b j0 (Nat.lt_of_lt_of_le h (Nat.le_of_lt_succ hR)))
theorem zc_settle_7_9 {g : mm_G} {l : Launch} (t : Int) (S0 : zz_S) (n : Nat) (hn : zz_end ≤ n) (G_S0 : zz_G S0) (ht : 0 ≤ t ∧ t ≤ 1) : mm_Met g l zy_settle_7_9 zr_settle_7_9 [.ref (zz_rf 3 t), .ref 1032] (zz_M S0 n) n (zz_QV n (zp_settle_7_9 t S0)) := by
  refine zz_enter (by decide) (Nat.le_of_ble_eq_true rfl) (zz_less (ls1 := [some (.ref (zz_rf 3 t)), some (.ref 1032)]) ⟨rfl, ⟨rfl, trivial⟩⟩ ?_)
  have F_S0 : zz_fr [] [1032] (fun _ _ => False) S0 S0 := zz_fr.refl
  have k2 : ∀ (x2 : Int) (S : zz_S), zz_G S → zz_fr [] [1032] (fun _ _ => False) S0 S → (1 ≤ x2 ∧ x2 ≤ 11) → zz_E g l zy_settle_7_9 zr_settle_7_9 (zz_QV n (zp_settle_7_9 t S0)) S n 2 [some (.ref (zz_rf 3 t)), some (.ref 1032), some (zi x2)] [] 0 0 := fun x2 S a b j0 => (zi_settle_7_9 (g := g) (l := l) t S0 n hn G_S0 ht _) x2 S a b j0 (Nat.lt_succ_self _)
  have b_t := zz_rf3 (z := t) (by omega)
  refine zz_iconst zd_7_9_0 ?_
  refine zz_istore_n [some (.ref (zz_rf 3 t)), some (.ref 1032), some (zi 1)] zd_7_9_1 (by decide) rfl ?_
  refine zz_less (ls1 := [some (.ref (zz_rf 3 t)), some (.ref 1032), some (zi 1)]) ⟨rfl, ⟨rfl, ⟨rfl, trivial⟩⟩⟩ ?_
  exact k2 1 S0 G_S0 F_S0 (by omega)
theorem zk_TF_292 : mm_Vl "TensorForge" 292 1 1 zy_settle_7_9 := ⟨zyw_settle_7_9, (R_Network, F_Network, 2), rfl, mm_tb_1 854 (by decide +kernel) rfl, mm_tb_1 855 (by decide +kernel) rfl, mm_tb_1 856 (by decide +kernel) rfl⟩
theorem zd_1_24_14 : zz_D zy_reckon_1_24 14 (.return_) 1 15 := ⟨by decide +kernel, rfl⟩
-- TensorForge reckon ()V
abbrev zr_reckon_1_24 : Room := { frames := 6, cells := 0, slots := 0, locals := 111 }
def zp_reckon_1_24  (S0 : zz_S) : zz_S → Prop := fun S => zz_G S ∧ zz_fr [] [1032] (fun _ _ => False) S0 S
theorem zc_reckon_1_24 {g : mm_G} {l : Launch}  (S0 : zz_S) (n : Nat) (hn : zz_end ≤ n) (G_S0 : zz_G S0)  : mm_Met g l zy_reckon_1_24 zr_reckon_1_24 [.ref 1000] (zz_M S0 n) n (zz_QV n (zp_reckon_1_24  S0)) := by
  refine zz_enter (by decide) (Nat.le_of_ble_eq_true rfl) (zz_less (ls1 := [some (.ref 1000)]) ⟨rfl, trivial⟩ ?_)
  have F_S0 : zz_fr [] [1032] (fun _ _ => False) S0 S0 := zz_fr.refl
  refine zz_aload_n (x := 1000) rfl zd_1_24_0 ?_
  have g1 := zz_G.r G_S0 1000 7 0 1 rfl rfl
  refine zz_getr (kd := 1) (z := S0 1000 7) zd_1_24_1 zf_TF_10 zT_1000 rfl (zz_ltn hn rfl) rfl (by omega) (zz_rf 3 (S0 1000 7)) rfl ?_
  refine zz_aload_n (x := 1000) rfl zd_1_24_4 ?_
  refine zz_getr (kd := 0) (z := 1031) zd_1_24_5 zf_TF_33 zT_1000 rfl (zz_ltn hn rfl) (zz_G.eq G_S0 1000 0 1031 rfl rfl) (by decide) 1031 rfl ?_
  refine zz_getr (kd := 0) (z := 1032) zd_1_24_8 zf_TF_288 zT_1031 rfl (zz_ltn hn rfl) (zz_G.eq G_S0 1031 0 1032 rfl rfl) (by decide) 1032 rfl ?_
  refine zz_callVV [.ref 1032] zd_1_24_11 zk_TF_292 (zT_k3 (by omega)) (zN_k3 hn (by omega)) rfl rfl ⟨Nat.le_of_ble_eq_true rfl, Nat.le_of_ble_eq_true rfl⟩ ⟨rfl, rfl⟩ (Nat.zero_le _) (Nat.zero_le _) (zc_settle_7_9 (S0 1000 7) S0 n hn G_S0 (by omega)) (fun S2 hP => ?_)
  obtain ⟨G_S2, fS2⟩ := hP
  have F_S2 := zz_fr.trans F_S0 fS2 rfl zz_nv
  exact zz_vret zd_1_24_14 rfl (Nat.zero_le _) (Nat.zero_le _) ⟨_, rfl, G_S2, F_S2⟩
abbrev zy_network_1_25 : mm_Y := (⟨"TensorForge", "network", "()I"⟩, prog_1_method_25_code, 3, (some .int))
theorem zyw_network_1_25 : mm_Yw zy_network_1_25 0 := ⟨mm_tb_1 911 (by decide +kernel) rfl, mm_tb_1 1 (by decide +kernel) rfl, ⟨by decide, by decide⟩, by decide +kernel⟩
theorem zd_1_25_0 : zz_D zy_network_1_25 0 (.aload_n 0) 1 1 := ⟨by decide +kernel, rfl⟩
theorem zd_1_25_1 : zz_D zy_network_1_25 1 (.getfield 67) 3 4 := ⟨by decide +kernel, rfl⟩
theorem zd_1_25_4 : zz_D zy_network_1_25 4 (.aload_n 0) 1 5 := ⟨by decide +kernel, rfl⟩
theorem zd_1_25_5 : zz_D zy_network_1_25 5 (.getfield 16) 3 8 := ⟨by decide +kernel, rfl⟩
theorem zd_1_25_8 : zz_D zy_network_1_25 8 (.invokevirtual 296) 3 11 := ⟨by decide +kernel, rfl⟩
abbrev zy_readInto_8_2 : mm_Y := (⟨"TensorForge$NetworkReader", "readInto", "(LTensorForge$Network;)I"⟩, prog_8_method_2_code, 5, (some .int))
theorem zyw_readInto_8_2 : mm_Yw zy_readInto_8_2 1 := ⟨mm_tb_1 915 (by decide +kernel) rfl, mm_tb_1 9 (by decide +kernel) rfl, ⟨by decide, by decide⟩, by decide +kernel⟩
theorem zd_8_2_0 : zz_D zy_readInto_8_2 0 (.aload_n 0) 1 1 := ⟨by decide +kernel, rfl⟩
theorem zd_8_2_1 : zz_D zy_readInto_8_2 1 (.aload_n 1) 1 2 := ⟨by decide +kernel, rfl⟩
theorem zd_8_2_2 : zz_D zy_readInto_8_2 2 (.putfield 15) 3 5 := ⟨by decide +kernel, rfl⟩
theorem zd_8_2_5 : zz_D zy_readInto_8_2 5 (.iconst 0) 1 6 := ⟨by decide +kernel, rfl⟩
theorem zd_8_2_6 : zz_D zy_readInto_8_2 6 (.istore_n 2) 1 7 := ⟨by decide +kernel, rfl⟩
theorem zd_8_2_7 : zz_D zy_readInto_8_2 7 (.iconst 0) 1 8 := ⟨by decide +kernel, rfl⟩
theorem zd_8_2_8 : zz_D zy_readInto_8_2 8 (.istore_n 3) 1 9 := ⟨by decide +kernel, rfl⟩
theorem zd_8_2_9 : zz_D zy_readInto_8_2 9 (.aload_n 0) 1 10 := ⟨by decide +kernel, rfl⟩
theorem zd_8_2_10 : zz_D zy_readInto_8_2 10 (.getfield 25) 3 13 := ⟨by decide +kernel, rfl⟩
theorem zd_8_2_13 : zz_D zy_readInto_8_2 13 (.iconst 0) 1 14 := ⟨by decide +kernel, rfl⟩
theorem zd_8_2_14 : zz_D zy_readInto_8_2 14 (.invokestatic 44) 3 17 := ⟨by decide +kernel, rfl⟩
-- java/util/Arrays fill ([II)V
abbrev zr_fill_27_103_1075 : Room := { frames := 0, cells := 0, slots := 0, locals := 0 }
def zp_fill_27_103_1075 (p1 : Int) (S0 : zz_S) : zz_S → Prop := fun S => zz_G S ∧ zz_fr [] [1075] (fun _ _ => False) S0 S
theorem zb_fill_27_103_1075_5 {g : mm_G} {l : Launch} (p1 : Int) (S0 : zz_S) (n : Nat) (hn : zz_end ≤ n) (G_S0 : zz_G S0) (hp1 : (-1500) ≤ p1 ∧ p1 ≤ 1500) (x2 : Int) (S : zz_S) (G_S : zz_G S) (F_S : zz_fr [] [1075] (fun _ _ => False) S0 S) (i5_0 : 0 ≤ x2 ∧ x2 ≤ 11) (R : Nat) (hR : (11 - x2).toNat = R) (k5 : ∀ (x2 : Int) (S : zz_S), zz_G S → zz_fr [] [1075] (fun _ _ => False) S0 S → (0 ≤ x2 ∧ x2 ≤ 11) → (11 - x2).toNat < R → zz_E g l zy_fill_27_103 zr_fill_27_103_1075 (zz_QV n (zp_fill_27_103_1075 p1 S0)) S n 5 [some (.ref 1075), some (zi p1), some (zi x2), some (zi 11)] [] 0 0) : zz_E g l zy_fill_27_103 zr_fill_27_103_1075 (zz_QV n (zp_fill_27_103_1075 p1 S0)) S n 5 [some (.ref 1075), some (zi p1), some (zi x2), some (zi 11)] [] 0 0 := by
  refine zz_iload_n (x := x2) rfl zd_27_103_5 ?_
  refine zz_iload_n (x := 11) rfl zd_27_103_6 ?_
  refine zz_icmp_ge (by omega) (by omega) zd_27_103_7 (fun c1 => ?_) (fun c1 => ?_)
  · exact zz_vret zd_27_103_20 rfl (Nat.zero_le _) (Nat.zero_le _) ⟨_, rfl, G_S, F_S⟩
  · refine zz_aload_n (x := 1075) rfl zd_27_103_10 ?_
    refine zz_iload_n (x := x2) rfl zd_27_103_11 ?_
    refine zz_iload_n (x := p1) rfl zd_27_103_12 ?_
    refine zz_iast zd_27_103_13 zT_1075 rfl (zz_ltn hn rfl) (by decide) (by omega) (fun S2 qS2 => ?_)
    have G_S2 := zz_G.put G_S qS2 (-1500) 1500 rfl (by omega)
    have F_S2 := zz_fr.putc F_S qS2 rfl
    refine zz_iinc [some (.ref 1075), some (zi p1), some (zi (x2 + 1)), some (zi 11)] zd_27_103_14 rfl rfl ?_
    refine zz_goto zd_27_103_17 ?_
    refine zz_less (ls1 := [some (.ref 1075), some (zi p1), some (zi (x2 + 1)), some (zi 11)]) ⟨rfl, ⟨rfl, ⟨rfl, ⟨rfl, trivial⟩⟩⟩⟩ ?_
    exact k5 (x2 + 1) S2 G_S2 F_S2 (by omega) (by omega)
theorem zi_fill_27_103_1075 {g : mm_G} {l : Launch} (p1 : Int) (S0 : zz_S) (n : Nat) (hn : zz_end ≤ n) (G_S0 : zz_G S0) (hp1 : (-1500) ≤ p1 ∧ p1 ≤ 1500) : ∀ N : Nat, (∀ (x2 : Int) (S : zz_S), zz_G S → zz_fr [] [1075] (fun _ _ => False) S0 S → (0 ≤ x2 ∧ x2 ≤ 11) → (11 - x2).toNat < N → zz_E g l zy_fill_27_103 zr_fill_27_103_1075 (zz_QV n (zp_fill_27_103_1075 p1 S0)) S n 5 [some (.ref 1075), some (zi p1), some (zi x2), some (zi 11)] [] 0 0) := by
  intro N
  induction N with
  | zero => exact fun x2 S _ _ _ h => absurd h (Nat.not_lt_zero _)
  | succ N ih =>
    exact fun x2 S a b j0 hR => zb_fill_27_103_1075_5 p1 S0 n hn G_S0 hp1 x2 S a b j0 _ rfl (fun x2 S a b j0 h => ih x2 S a b j0 (Nat.lt_of_lt_of_le h (Nat.le_of_lt_succ hR)))
theorem zc_fill_27_103_1075 {g : mm_G} {l : Launch} (p1 : Int) (S0 : zz_S) (n : Nat) (hn : zz_end ≤ n) (G_S0 : zz_G S0) (hp1 : (-1500) ≤ p1 ∧ p1 ≤ 1500) : mm_Met g l zy_fill_27_103 zr_fill_27_103_1075 [.ref 1075, zi p1] (zz_M S0 n) n (zz_QV n (zp_fill_27_103_1075 p1 S0)) := by
  refine zz_enter (by decide) (Nat.le_of_ble_eq_true rfl) (zz_less (ls1 := [some (.ref 1075), some (zi p1)]) ⟨rfl, ⟨rfl, trivial⟩⟩ ?_)
  have F_S0 : zz_fr [] [1075] (fun _ _ => False) S0 S0 := zz_fr.refl
  have k5 : ∀ (x2 : Int) (S : zz_S), zz_G S → zz_fr [] [1075] (fun _ _ => False) S0 S → (0 ≤ x2 ∧ x2 ≤ 11) → zz_E g l zy_fill_27_103 zr_fill_27_103_1075 (zz_QV n (zp_fill_27_103_1075 p1 S0)) S n 5 [some (.ref 1075), some (zi p1), some (zi x2), some (zi 11)] [] 0 0 := fun x2 S a b j0 => (zi_fill_27_103_1075 (g := g) (l := l) p1 S0 n hn G_S0 hp1 _) x2 S a b j0 (Nat.lt_succ_self _)
  refine zz_iconst zd_27_103_0 ?_
  refine zz_istore_n [some (.ref 1075), some (zi p1), some (zi 0)] zd_27_103_1 (by decide) rfl ?_
  refine zz_aload_n (x := 1075) rfl zd_27_103_2 ?_
  refine zz_alen zd_27_103_3 zT_1075 rfl (zz_ltn hn rfl) ?_
  refine zz_istore_n [some (.ref 1075), some (zi p1), some (zi 0), some (zi 11)] zd_27_103_4 (by decide) rfl ?_
  refine zz_less (ls1 := [some (.ref 1075), some (zi p1), some (zi 0), some (zi 11)]) ⟨rfl, ⟨rfl, ⟨rfl, ⟨rfl, trivial⟩⟩⟩⟩ ?_
  exact k5 0 S0 G_S0 F_S0 (by omega)
theorem zk_NetworkReader_44 : mm_Sl "TensorForge$NetworkReader" 44 2 zy_fill_27_103 := ⟨zyw_fill_27_103, mm_tb_1 916 (by decide +kernel) rfl, mm_tb_1 532 (by decide +kernel) rfl⟩
theorem zd_8_2_17 : zz_D zy_readInto_8_2 17 (.aload_n 0) 1 18 := ⟨by decide +kernel, rfl⟩
theorem zd_8_2_18 : zz_D zy_readInto_8_2 18 (.getfield 9) 3 21 := ⟨by decide +kernel, rfl⟩
theorem zd_8_2_21 : zz_D zy_readInto_8_2 21 (.invokevirtual 50) 3 24 := ⟨by decide +kernel, rfl⟩
theorem zk_NetworkReader_50 : mm_Vl "TensorForge$NetworkReader" 50 6 0 zy_rewind_11_5 := ⟨zyw_rewind_11_5, (R_Text, F_Text, 7), rfl, mm_tb_1 917 (by decide +kernel) rfl, mm_tb_1 282 (by decide +kernel) rfl, mm_tb_1 283 (by decide +kernel) rfl⟩
theorem zd_8_2_24 : zz_D zy_readInto_8_2 24 (.iload_n 3) 1 25 := ⟨by decide +kernel, rfl⟩
theorem zd_8_2_25 : zz_D zy_readInto_8_2 25 (.sipush 1500) 3 28 := ⟨by decide +kernel, rfl⟩
theorem zd_8_2_28 : zz_B zy_readInto_8_2 28 (Instr.if_icmp .gt) 143 31 := ⟨115, by decide +kernel, rfl, rfl⟩
theorem zd_8_2_31 : zz_D zy_readInto_8_2 31 (.aload_n 0) 1 32 := ⟨by decide +kernel, rfl⟩
theorem zd_8_2_32 : zz_D zy_readInto_8_2 32 (.getfield 9) 3 35 := ⟨by decide +kernel, rfl⟩
theorem zd_8_2_35 : zz_D zy_readInto_8_2 35 (.invokevirtual 55) 3 38 := ⟨by decide +kernel, rfl⟩
theorem zk_NetworkReader_55 : mm_Vl "TensorForge$NetworkReader" 55 6 0 zy_nextLine_11_6 := ⟨zyw_nextLine_11_6, (R_Text, F_Text, 7), rfl, mm_tb_1 918 (by decide +kernel) rfl, mm_tb_1 566 (by decide +kernel) rfl, mm_tb_1 567 (by decide +kernel) rfl⟩
theorem zd_8_2_38 : zz_B zy_readInto_8_2 38 (Instr.ifCond .eq) 143 41 := ⟨105, by decide +kernel, rfl, rfl⟩
theorem zd_8_2_143 : zz_D zy_readInto_8_2 143 (.iload_n 2) 1 144 := ⟨by decide +kernel, rfl⟩
theorem zd_8_2_144 : zz_B zy_readInto_8_2 144 (Instr.ifCond .eq) 151 147 := ⟨7, by decide +kernel, rfl, rfl⟩
theorem zd_8_2_151 : zz_D zy_readInto_8_2 151 (.iload_n 3) 1 152 := ⟨by decide +kernel, rfl⟩
theorem zd_8_2_152 : zz_D zy_readInto_8_2 152 (.ireturn) 1 153 := ⟨by decide +kernel, rfl⟩
theorem zd_8_2_41 : zz_D zy_readInto_8_2 41 (.aload_n 0) 1 42 := ⟨by decide +kernel, rfl⟩
theorem zd_8_2_42 : zz_D zy_readInto_8_2 42 (.getfield 9) 3 45 := ⟨by decide +kernel, rfl⟩
theorem zd_8_2_45 : zz_D zy_readInto_8_2 45 (.invokevirtual 59) 3 48 := ⟨by decide +kernel, rfl⟩
theorem zk_NetworkReader_59 : mm_Vl "TensorForge$NetworkReader" 59 6 0 zy_nextToken_11_7 := ⟨zyw_nextToken_11_7, (R_Text, F_Text, 7), rfl, mm_tb_1 919 (by decide +kernel) rfl, mm_tb_1 570 (by decide +kernel) rfl, mm_tb_1 571 (by decide +kernel) rfl⟩
theorem zd_8_2_48 : zz_D zy_readInto_8_2 48 (.aload_n 0) 1 49 := ⟨by decide +kernel, rfl⟩
theorem zd_8_2_49 : zz_D zy_readInto_8_2 49 (.getfield 9) 3 52 := ⟨by decide +kernel, rfl⟩
theorem zd_8_2_52 : zz_D zy_readInto_8_2 52 (.getfield 62) 3 55 := ⟨by decide +kernel, rfl⟩
theorem zf_NetworkReader_62 : mm_Fl "TensorForge$NetworkReader" 62 6 4 .int false := ⟨R_Text, F_Text, 7, t_Text, rfl, i_Text, by decide, mm_tb_1 291 (by decide +kernel) rfl, rfl, t_Text_ok, n_Text, rfl, by decide +kernel⟩
theorem zd_8_2_55 : zz_B zy_readInto_8_2 55 (Instr.ifCond .eq) 137 58 := ⟨82, by decide +kernel, rfl, rfl⟩
theorem zd_8_2_137 : zz_D zy_readInto_8_2 137 (.iinc 3 1) 3 140 := ⟨by decide +kernel, rfl⟩
theorem zd_8_2_140 : zz_B zy_readInto_8_2 140 Instr.goto 24 143 := ⟨(-116), by decide +kernel, rfl, rfl⟩
theorem zd_8_2_58 : zz_D zy_readInto_8_2 58 (.iload_n 2) 1 59 := ⟨by decide +kernel, rfl⟩
theorem zd_8_2_59 : zz_B zy_readInto_8_2 59 (Instr.ifCond .eq) 94 62 := ⟨35, by decide +kernel, rfl, rfl⟩
theorem zd_8_2_94 : zz_D zy_readInto_8_2 94 (.aload_n 0) 1 95 := ⟨by decide +kernel, rfl⟩
theorem zd_8_2_95 : zz_D zy_readInto_8_2 95 (.invokevirtual 75) 3 98 := ⟨by decide +kernel, rfl⟩
abbrev zy_readInput_8_3 : mm_Y := (⟨"TensorForge$NetworkReader", "readInput", "()Z"⟩, prog_8_method_3_code, 4, (some .boolean))
theorem zyw_readInput_8_3 : mm_Yw zy_readInput_8_3 0 := ⟨mm_tb_1 1021 (by decide +kernel) rfl, mm_tb_1 9 (by decide +kernel) rfl, ⟨by decide, by decide⟩, by decide +kernel⟩
theorem zd_8_3_0 : zz_D zy_readInput_8_3 0 (.aload_n 0) 1 1 := ⟨by decide +kernel, rfl⟩
theorem zd_8_3_1 : zz_D zy_readInput_8_3 1 (.getfield 9) 3 4 := ⟨by decide +kernel, rfl⟩
theorem zd_8_3_4 : zz_D zy_readInput_8_3 4 (.ldc 85) 2 6 := ⟨by decide +kernel, rfl⟩
theorem zd_8_3_6 : zz_D zy_readInput_8_3 6 (.invokevirtual 87) 3 9 := ⟨by decide +kernel, rfl⟩
theorem zk_NetworkReader_87 : mm_Vl "TensorForge$NetworkReader" 87 6 1 zy_isWord_11_9 := ⟨zyw_isWord_11_9, (R_Text, F_Text, 7), rfl, mm_tb_1 925 (by decide +kernel) rfl, mm_tb_1 595 (by decide +kernel) rfl, mm_tb_1 596 (by decide +kernel) rfl⟩
theorem zd_8_3_9 : zz_B zy_readInput_8_3 9 (Instr.ifCond .eq) 22 12 := ⟨13, by decide +kernel, rfl, rfl⟩
theorem zd_8_3_22 : zz_D zy_readInput_8_3 22 (.iconst 0) 1 23 := ⟨by decide +kernel, rfl⟩
theorem zd_8_3_23 : zz_D zy_readInput_8_3 23 (.ireturn) 1 24 := ⟨by decide +kernel, rfl⟩
theorem zd_8_3_12 : zz_D zy_readInput_8_3 12 (.aload_n 0) 1 13 := ⟨by decide +kernel, rfl⟩
theorem zd_8_3_13 : zz_D zy_readInput_8_3 13 (.getfield 9) 3 16 := ⟨by decide +kernel, rfl⟩
theorem zd_8_3_16 : zz_D zy_readInput_8_3 16 (.invokevirtual 91) 3 19 := ⟨by decide +kernel, rfl⟩
theorem zk_NetworkReader_91 : mm_Vl "TensorForge$NetworkReader" 91 6 0 zy_nextIsNumber_11_11 := ⟨zyw_nextIsNumber_11_11, (R_Text, F_Text, 7), rfl, mm_tb_1 979 (by decide +kernel) rfl, mm_tb_1 659 (by decide +kernel) rfl, mm_tb_1 660 (by decide +kernel) rfl⟩
theorem zd_8_3_19 : zz_B zy_readInput_8_3 19 (Instr.ifCond .ne) 24 22 := ⟨5, by decide +kernel, rfl, rfl⟩
theorem zd_8_3_24 : zz_D zy_readInput_8_3 24 (.aload_n 0) 1 25 := ⟨by decide +kernel, rfl⟩
theorem zd_8_3_25 : zz_D zy_readInput_8_3 25 (.getfield 9) 3 28 := ⟨by decide +kernel, rfl⟩
theorem zd_8_3_28 : zz_D zy_readInput_8_3 28 (.getfield 94) 3 31 := ⟨by decide +kernel, rfl⟩
theorem zf_NetworkReader_94 : mm_Fl "TensorForge$NetworkReader" 94 6 6 .int false := ⟨R_Text, F_Text, 7, t_Text, rfl, i_Text, by decide, mm_tb_1 295 (by decide +kernel) rfl, rfl, t_Text_ok, n_Text, rfl, by decide +kernel⟩
theorem zd_8_3_31 : zz_D zy_readInput_8_3 31 (.istore_n 1) 1 32 := ⟨by decide +kernel, rfl⟩
theorem zd_8_3_32 : zz_D zy_readInput_8_3 32 (.aload_n 0) 1 33 := ⟨by decide +kernel, rfl⟩
theorem zd_8_3_33 : zz_D zy_readInput_8_3 33 (.getfield 9) 3 36 := ⟨by decide +kernel, rfl⟩
theorem zd_8_3_36 : zz_D zy_readInput_8_3 36 (.ldc 97) 2 38 := ⟨by decide +kernel, rfl⟩
theorem zd_8_3_38 : zz_D zy_readInput_8_3 38 (.invokevirtual 99) 3 41 := ⟨by decide +kernel, rfl⟩
theorem zk_NetworkReader_99 : mm_Vl "TensorForge$NetworkReader" 99 6 1 zy_nextIsWord_11_10 := ⟨zyw_nextIsWord_11_10, (R_Text, F_Text, 7), rfl, mm_tb_1 984 (by decide +kernel) rfl, mm_tb_1 673 (by decide +kernel) rfl, mm_tb_1 674 (by decide +kernel) rfl⟩
theorem zd_8_3_41 : zz_B zy_readInput_8_3 41 (Instr.ifCond .eq) 54 44 := ⟨13, by decide +kernel, rfl, rfl⟩
theorem zd_8_3_54 : zz_D zy_readInput_8_3 54 (.iconst 0) 1 55 := ⟨by decide +kernel, rfl⟩
theorem zd_8_3_55 : zz_D zy_readInput_8_3 55 (.ireturn) 1 56 := ⟨by decide +kernel, rfl⟩
theorem zd_8_3_44 : zz_D zy_readInput_8_3 44 (.aload_n 0) 1 45 := ⟨by decide +kernel, rfl⟩
theorem zd_8_3_45 : zz_D zy_readInput_8_3 45 (.getfield 9) 3 48 := ⟨by decide +kernel, rfl⟩
theorem zd_8_3_48 : zz_D zy_readInput_8_3 48 (.invokevirtual 91) 3 51 := ⟨by decide +kernel, rfl⟩
theorem zd_8_3_51 : zz_B zy_readInput_8_3 51 (Instr.ifCond .ne) 56 54 := ⟨5, by decide +kernel, rfl, rfl⟩
theorem zd_8_3_56 : zz_D zy_readInput_8_3 56 (.aload_n 0) 1 57 := ⟨by decide +kernel, rfl⟩
theorem zd_8_3_57 : zz_D zy_readInput_8_3 57 (.getfield 9) 3 60 := ⟨by decide +kernel, rfl⟩
theorem zd_8_3_60 : zz_D zy_readInput_8_3 60 (.getfield 94) 3 63 := ⟨by decide +kernel, rfl⟩
theorem zd_8_3_63 : zz_D zy_readInput_8_3 63 (.istore_n 2) 1 64 := ⟨by decide +kernel, rfl⟩
theorem zd_8_3_64 : zz_D zy_readInput_8_3 64 (.aload_n 0) 1 65 := ⟨by decide +kernel, rfl⟩
theorem zd_8_3_65 : zz_D zy_readInput_8_3 65 (.getfield 9) 3 68 := ⟨by decide +kernel, rfl⟩
theorem zd_8_3_68 : zz_D zy_readInput_8_3 68 (.ldc 97) 2 70 := ⟨by decide +kernel, rfl⟩
theorem zd_8_3_70 : zz_D zy_readInput_8_3 70 (.invokevirtual 99) 3 73 := ⟨by decide +kernel, rfl⟩
theorem zd_8_3_73 : zz_B zy_readInput_8_3 73 (Instr.ifCond .eq) 86 76 := ⟨13, by decide +kernel, rfl, rfl⟩
theorem zd_8_3_86 : zz_D zy_readInput_8_3 86 (.iconst 0) 1 87 := ⟨by decide +kernel, rfl⟩
theorem zd_8_3_87 : zz_D zy_readInput_8_3 87 (.ireturn) 1 88 := ⟨by decide +kernel, rfl⟩
theorem zd_8_3_76 : zz_D zy_readInput_8_3 76 (.aload_n 0) 1 77 := ⟨by decide +kernel, rfl⟩
theorem zd_8_3_77 : zz_D zy_readInput_8_3 77 (.getfield 9) 3 80 := ⟨by decide +kernel, rfl⟩
theorem zd_8_3_80 : zz_D zy_readInput_8_3 80 (.invokevirtual 91) 3 83 := ⟨by decide +kernel, rfl⟩
theorem zd_8_3_83 : zz_B zy_readInput_8_3 83 (Instr.ifCond .ne) 88 86 := ⟨5, by decide +kernel, rfl, rfl⟩
theorem zd_8_3_88 : zz_D zy_readInput_8_3 88 (.aload_n 0) 1 89 := ⟨by decide +kernel, rfl⟩
theorem zd_8_3_89 : zz_D zy_readInput_8_3 89 (.getfield 9) 3 92 := ⟨by decide +kernel, rfl⟩
theorem zd_8_3_92 : zz_D zy_readInput_8_3 92 (.getfield 94) 3 95 := ⟨by decide +kernel, rfl⟩
theorem zd_8_3_95 : zz_D zy_readInput_8_3 95 (.istore_n 3) 1 96 := ⟨by decide +kernel, rfl⟩
theorem zd_8_3_96 : zz_D zy_readInput_8_3 96 (.iload_n 1) 1 97 := ⟨by decide +kernel, rfl⟩
theorem zd_8_3_97 : zz_D zy_readInput_8_3 97 (.iload_n 2) 1 98 := ⟨by decide +kernel, rfl⟩
theorem zd_8_3_98 : zz_D zy_readInput_8_3 98 (.iload_n 3) 1 99 := ⟨by decide +kernel, rfl⟩
theorem zd_8_3_99 : zz_D zy_readInput_8_3 99 (.invokestatic 102) 3 102 := ⟨by decide +kernel, rfl⟩
theorem zk_NetworkReader_102 : mm_Sl "TensorForge$NetworkReader" 102 3 zy_inputFits_7_2 := ⟨zyw_inputFits_7_2, mm_tb_1 1022 (by decide +kernel) rfl, mm_tb_1 1023 (by decide +kernel) rfl⟩
theorem zd_8_3_102 : zz_B zy_readInput_8_3 102 (Instr.ifCond .ne) 107 105 := ⟨5, by decide +kernel, rfl, rfl⟩
theorem zd_8_3_105 : zz_D zy_readInput_8_3 105 (.iconst 0) 1 106 := ⟨by decide +kernel, rfl⟩
theorem zd_8_3_106 : zz_D zy_readInput_8_3 106 (.ireturn) 1 107 := ⟨by decide +kernel, rfl⟩
theorem zd_8_3_107 : zz_D zy_readInput_8_3 107 (.aload_n 0) 1 108 := ⟨by decide +kernel, rfl⟩
theorem zd_8_3_108 : zz_D zy_readInput_8_3 108 (.getfield 15) 3 111 := ⟨by decide +kernel, rfl⟩
theorem zd_8_3_111 : zz_D zy_readInput_8_3 111 (.iload_n 1) 1 112 := ⟨by decide +kernel, rfl⟩
theorem zd_8_3_112 : zz_D zy_readInput_8_3 112 (.iload_n 2) 1 113 := ⟨by decide +kernel, rfl⟩
theorem zd_8_3_113 : zz_D zy_readInput_8_3 113 (.iload_n 3) 1 114 := ⟨by decide +kernel, rfl⟩
theorem zd_8_3_114 : zz_D zy_readInput_8_3 114 (.invokevirtual 106) 3 117 := ⟨by decide +kernel, rfl⟩
theorem zk_NetworkReader_106 : mm_Vl "TensorForge$NetworkReader" 106 1 3 zy_beginWith_7_3 := ⟨zyw_beginWith_7_3, (R_Network, F_Network, 2), rfl, mm_tb_1 1026 (by decide +kernel) rfl, mm_tb_1 1027 (by decide +kernel) rfl, mm_tb_1 1028 (by decide +kernel) rfl⟩
theorem zd_8_3_117 : zz_D zy_readInput_8_3 117 (.aload_n 0) 1 118 := ⟨by decide +kernel, rfl⟩
theorem zd_8_3_118 : zz_D zy_readInput_8_3 118 (.sipush 128) 3 121 := ⟨by decide +kernel, rfl⟩
theorem zd_8_3_121 : zz_D zy_readInput_8_3 121 (.putfield 35) 3 124 := ⟨by decide +kernel, rfl⟩
theorem zd_8_3_124 : zz_D zy_readInput_8_3 124 (.aload_n 0) 1 125 := ⟨by decide +kernel, rfl⟩
theorem zd_8_3_125 : zz_D zy_readInput_8_3 125 (.iconst 0) 1 126 := ⟨by decide +kernel, rfl⟩
theorem zd_8_3_126 : zz_D zy_readInput_8_3 126 (.putfield 38) 3 129 := ⟨by decide +kernel, rfl⟩
theorem zd_8_3_129 : zz_D zy_readInput_8_3 129 (.iconst 1) 1 130 := ⟨by decide +kernel, rfl⟩
theorem zd_8_3_130 : zz_D zy_readInput_8_3 130 (.ireturn) 1 131 := ⟨by decide +kernel, rfl⟩

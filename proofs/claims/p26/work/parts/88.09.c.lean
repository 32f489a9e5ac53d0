-- TensorForge$Compiler makeLayer (LTensorForge$Network;I)V
abbrev zr_makeLayer_3_3 : Room := { frames := 5, cells := 0, slots := 0, locals := 86 }
def zp_makeLayer_3_3 (p0 : Int) (p1 : Int) (S0 : zz_S) : zz_S → Prop := fun S => zz_G S ∧ zz_fr [(1076, 1), (1076, 3), (1076, 4), (1076, 5), (1076, 6), (1076, 7), (1076, 8), (1076, 9), (1076, 10), (1076, 11), (1076, 12), (1076, 13), (1076, 14), (1076, 15), (1076, 16)] [1029, 1030] (fun _ _ => False) S0 S ∧ (S 1076 1 ≤ S0 1076 1 + 5 ∨ S 1076 1 ≤ 3300)
theorem zb_makeLayer_3_3_178 {g : mm_G} {l : Launch} (p0 : Int) (p1 : Int) (S0 : zz_S) (n : Nat) (hn : zz_end ≤ n) (G_S0 : zz_G S0) (hp0 : 0 ≤ p0 ∧ p0 ≤ 1) (hp1 : (-2147483648) ≤ p1 ∧ p1 ≤ 2147483647) (H_S0 : zz_Hc S0) (hq : S0 1076 1 ≤ 4000) (x4 : Int) (x5 : Int) (x6 : Int) (S : zz_S) (G_S : zz_G S) (F_S : zz_fr [(1076, 1), (1076, 3), (1076, 4), (1076, 5), (1076, 6), (1076, 7), (1076, 8), (1076, 9), (1076, 10), (1076, 11), (1076, 12), (1076, 13), (1076, 14), (1076, 15), (1076, 16)] [1029, 1030] (fun _ _ => False) S0 S) (i178_0 : (-2147483648) ≤ x4 ∧ x4 ≤ 2147483647) (i178_1 : (-2147483648) ≤ x5 ∧ x5 ≤ 2147483647) (i178_2 : 16 ≤ x6 ∧ x6 ≤ 63) (i178_3 : (1 = 1 ∧ 0 ≤ (S0 (zz_rf 6 (12 * p0 + p1)) 1) ∧ (S0 (zz_rf 6 (12 * p0 + p1)) 1) < S0 (zz_rf 3 p0) 1) ∨ (1 = 0 ∧ ((S0 (zz_rf 6 (12 * p0 + p1)) 1) < 0 ∨ (S0 (zz_rf 6 (12 * p0 + p1)) 1) ≥ S0 (zz_rf 3 p0) 1))) (i178_4 : (1 = 1 ∧ 0 ≤ (S0 (zz_rf 6 (12 * p0 + p1)) 2) ∧ (S0 (zz_rf 6 (12 * p0 + p1)) 2) < S0 (zz_rf 3 p0) 1) ∨ (1 = 0 ∧ ((S0 (zz_rf 6 (12 * p0 + p1)) 2) < 0 ∨ (S0 (zz_rf 6 (12 * p0 + p1)) 2) ≥ S0 (zz_rf 3 p0) 1))) (i178_5 : (1 = 1 ∧ 0 ≤ p1 ∧ p1 < S0 (zz_rf 3 p0) 1) ∨ (1 = 0 ∧ (p1 < 0 ∨ p1 ≥ S0 (zz_rf 3 p0) 1))) (i178_6 : S 1076 3 = 12 * p0 + p1) (i178_7 : S 1076 4 = 12 * p0 + (S0 (zz_rf 6 (12 * p0 + p1)) 1)) (i178_8 : S 1076 5 = 12 * p0 + (S0 (zz_rf 6 (12 * p0 + p1)) 2)) (i178_9 : S0 1076 1 ≤ S 1076 1) (i178_10 : S 1076 1 ≤ S0 1076 1 ∨ S 1076 1 ≤ 3250) (i178_11 : 0 ≤ S 1076 7 ∧ S 1076 7 ≤ 80) (R : Nat) (hR : (51539607552 + (S0 (zz_rf 6 (12 * p0 + p1)) 12 - S 1076 7).toNat) * 1208925819614629174706176 + 1208925819614629174706175 = R) (k220 : ∀ (x4 : Int) (x5 : Int) (x6 : Int) (S : zz_S), zz_G S → zz_fr [(1076, 1), (1076, 3), (1076, 4), (1076, 5), (1076, 6), (1076, 7), (1076, 8), (1076, 9), (1076, 10), (1076, 11), (1076, 12), (1076, 13), (1076, 14), (1076, 15), (1076, 16)] [1029, 1030] (fun _ _ => False) S0 S → ((-2147483648) ≤ x4 ∧ x4 ≤ 2147483647) → ((-2147483648) ≤ x5 ∧ x5 ≤ 2147483647) → (16 ≤ x6 ∧ x6 ≤ 63) → ((1 = 1 ∧ 0 ≤ (S0 (zz_rf 6 (12 * p0 + p1)) 1) ∧ (S0 (zz_rf 6 (12 * p0 + p1)) 1) < S0 (zz_rf 3 p0) 1) ∨ (1 = 0 ∧ ((S0 (zz_rf 6 (12 * p0 + p1)) 1) < 0 ∨ (S0 (zz_rf 6 (12 * p0 + p1)) 1) ≥ S0 (zz_rf 3 p0) 1))) → ((1 = 1 ∧ 0 ≤ (S0 (zz_rf 6 (12 * p0 + p1)) 2) ∧ (S0 (zz_rf 6 (12 * p0 + p1)) 2) < S0 (zz_rf 3 p0) 1) ∨ (1 = 0 ∧ ((S0 (zz_rf 6 (12 * p0 + p1)) 2) < 0 ∨ (S0 (zz_rf 6 (12 * p0 + p1)) 2) ≥ S0 (zz_rf 3 p0) 1))) → ((1 = 1 ∧ 0 ≤ p1 ∧ p1 < S0 (zz_rf 3 p0) 1) ∨ (1 = 0 ∧ (p1 < 0 ∨ p1 ≥ S0 (zz_rf 3 p0) 1))) → (S 1076 3 = 12 * p0 + p1) → (S 1076 4 = 12 * p0 + (S0 (zz_rf 6 (12 * p0 + p1)) 1)) → (S 1076 5 = 12 * p0 + (S0 (zz_rf 6 (12 * p0 + p1)) 2)) → (S0 1076 1 ≤ S 1076 1) → (S 1076 1 ≤ S0 1076 1 ∨ S 1076 1 ≤ 3250) → (0 ≤ S 1076 7 ∧ S 1076 7 ≤ 62) → (S 1076 7 < S0 (zz_rf 6 (12 * p0 + p1)) 12) → (0 ≤ S 1076 9) → (51539607552 + (S0 (zz_rf 6 (12 * p0 + p1)) 12 - S 1076 7).toNat) * 1208925819614629174706176 + (34359738368 + (x4 - S 1076 9).toNat) * 1099511627776 + 1099511627775 < R → zz_E g l zy_makeLayer_3_3 zr_makeLayer_3_3 (zz_QV n (zp_makeLayer_3_3 p0 p1 S0)) S n 220 [some (.ref 1076), none, none, none, some (zi x4), some (zi x5), some (zi x6)] [] 0 0) : zz_E g l zy_makeLayer_3_3 zr_makeLayer_3_3 (zz_QV n (zp_makeLayer_3_3 p0 p1 S0)) S n 178 [some (.ref 1076), none, none, none, some (zi x4), some (zi x5), some (zi x6)] [] 0 0 := by
  have b_p0 := zz_rf3 (z := p0) (by omega)
  have hy8 := H_S0 p0 (by omega) p1 (by omega) (by omega)
  have hy9 := H_S0 p0 (by omega) (S0 (zz_rf 6 (12 * p0 + p1)) 1) (by omega) (by omega)
  have hy7 := hy8.2
  refine zz_aload_n (x := 1076) rfl zd_3_3_178 ?_
  have g64 := zz_G.r G_S 1076 7 (-2147483648) 2147483647 rfl rfl
  refine zz_geti (z := S 1076 7) zd_3_3_179 zf_Compiler_76 zT_1076 rfl (zz_ltn hn rfl) rfl ?_
  refine zz_aload_n (x := 1076) rfl zd_3_3_182 ?_
  have g65 := zz_G.r G_S 1076 3 (-1) 23 rfl rfl
  refine zz_getr (kd := 4) (z := 12 * p0 + p1) zd_3_3_183 zf_Compiler_51 zT_1076 rfl (zz_ltn hn rfl) (by omega) (by omega) (zz_rf 6 (12 * p0 + p1)) rfl ?_
  have g66 := zz_G.r G_S0 (zz_rf 6 (12 * p0 + p1)) 12 (-2147483648) 2147483647 (zR_k6_12 (by omega)) (zB_k6 (by omega))
  refine zz_geti (z := S0 (zz_rf 6 (12 * p0 + p1)) 12) zd_3_3_186 zf_Compiler_79 (zT_k6 (by omega)) rfl (zN_k6 hn (by omega)) (zz_rc F_S (zP_k6 (by omega) rfl) (zQ_k6 (by omega) rfl) (fun h => h) rfl) ?_
  refine zz_icmp_ge (by omega) (by omega) zd_3_3_189 (fun c67 => ?_) (fun c67 => ?_)
  · refine zz_aload_n (x := 1076) rfl zd_3_3_317 ?_
    have g68 := zz_G.r G_S 1076 1 0 1000000 rfl rfl
    refine zz_callVV [] zd_3_3_318 zk_Compiler_97 zT_1076 (zz_ltn hn rfl) rfl rfl ⟨Nat.le_of_ble_eq_true rfl, Nat.le_of_ble_eq_true rfl⟩ ⟨rfl, rfl⟩ (Nat.zero_le _) (Nat.zero_le _) (zc_makeWaits_3_12  S n hn G_S (by omega)) (fun S69 hP => ?_)
    obtain ⟨G_S69, fS69, o71⟩ := hP
    have F_S69 := zz_fr.trans F_S fS69 rfl zz_nv
    have g72 := zz_G.r G_S69 1076 1 0 1000000 rfl rfl
    exact zz_vret zd_3_3_321 rfl (Nat.zero_le _) (Nat.zero_le _) ⟨_, rfl, G_S69, F_S69, by omega⟩
  · refine zz_aload_n (x := 1076) rfl zd_3_3_192 ?_
    refine zz_aload_n (x := 1076) rfl zd_3_3_193 ?_
    have g73 := zz_G.r G_S0 1076 2 2 8 rfl rfl
    refine zz_geti (z := S0 1076 2) zd_3_3_194 zf_Compiler_21 zT_1076 rfl (zz_ltn hn rfl) (zz_rc F_S rfl rfl (fun h => h) rfl) ?_
    refine zz_aload_n (x := 1076) rfl zd_3_3_197 ?_
    refine zz_getr (kd := 4) (z := 12 * p0 + p1) zd_3_3_198 zf_Compiler_51 zT_1076 rfl (zz_ltn hn rfl) (by omega) (by omega) (zz_rf 6 (12 * p0 + p1)) rfl ?_
    refine zz_geti (z := S0 (zz_rf 6 (12 * p0 + p1)) 12) zd_3_3_201 zf_Compiler_79 (zT_k6 (by omega)) rfl (zN_k6 hn (by omega)) (zz_rc F_S (zP_k6 (by omega) rfl) (zQ_k6 (by omega) rfl) (fun h => h) rfl) ?_
    refine zz_aload_n (x := 1076) rfl zd_3_3_204 ?_
    refine zz_geti (z := S 1076 7) zd_3_3_205 zf_Compiler_76 zT_1076 rfl (zz_ltn hn rfl) rfl ?_
    refine zz_isub zd_3_3_208 ?_
    refine zz_nrm (fun v74 hv74 ev74 => ?_)
    refine zz_mmin (by omega) (by omega) zd_3_3_209 zm_Compiler_24 ⟨Nat.le_of_ble_eq_true rfl, Nat.le_of_ble_eq_true rfl⟩ (Nat.zero_le _) (Nat.zero_le _) (fun v75 hv75 => ?_)
    refine zz_puti zd_3_3_212 zf_Compiler_82 zT_1076 rfl (zz_ltn hn rfl) (fun S76 qS76 => ?_)
    have G_S76 := zz_G.put G_S qS76 (-2147483648) 2147483647 rfl (by omega)
    have F_S76 := zz_fr.puts F_S qS76 rfl
    refine zz_aload_n (x := 1076) rfl zd_3_3_215 ?_
    refine zz_iconst zd_3_3_216 ?_
    refine zz_puti zd_3_3_217 zf_Compiler_85 zT_1076 rfl (zz_ltn hn rfl) (fun S77 qS77 => ?_)
    have G_S77 := zz_G.put G_S76 qS77 (-2147483648) 2147483647 rfl (by omega)
    have F_S77 := zz_fr.puts F_S76 qS77 rfl
    have e78 : S77 1076 3 = S 1076 3 := (zz_ro qS77 (fun h => absurd h.2 (by decide)) (zz_ro qS76 (fun h => absurd h.2 (by decide)) rfl))
    have g79 := zz_G.r G_S 1076 4 (-1) 23 rfl rfl
    have e80 : S77 1076 4 = S 1076 4 := (zz_ro qS77 (fun h => absurd h.2 (by decide)) (zz_ro qS76 (fun h => absurd h.2 (by decide)) rfl))
    have g81 := zz_G.r G_S 1076 5 (-1) 23 rfl rfl
    have e82 : S77 1076 5 = S 1076 5 := (zz_ro qS77 (fun h => absurd h.2 (by decide)) (zz_ro qS76 (fun h => absurd h.2 (by decide)) rfl))
    have g83 := zz_G.r G_S 1076 1 0 1000000 rfl rfl
    have e84 : S77 1076 1 = S 1076 1 := (zz_ro qS77 (fun h => absurd h.2 (by decide)) (zz_ro qS76 (fun h => absurd h.2 (by decide)) rfl))
    have e85 : S77 1076 7 = S 1076 7 := (zz_ro qS77 (fun h => absurd h.2 (by decide)) (zz_ro qS76 (fun h => absurd h.2 (by decide)) rfl))
    have e86 : S77 1076 9 = 0 := (zz_rs qS77)
    exact k220 x4 x5 x6 S77 G_S77 F_S77 (by omega) (by omega) (by omega) (by omega) (by omega) (by omega) (by omega) (by omega) (by omega) (by omega) (by omega) (by omega) (by omega) (by omega) (by omega)
theorem zb_makeLayer_3_3_220 {g : mm_G} {l : Launch} (p0 : Int) (p1 : Int) (S0 : zz_S) (n : Nat) (hn : zz_end ≤ n) (G_S0 : zz_G S0) (hp0 : 0 ≤ p0 ∧ p0 ≤ 1) (hp1 : (-2147483648) ≤ p1 ∧ p1 ≤ 2147483647) (H_S0 : zz_Hc S0) (hq : S0 1076 1 ≤ 4000) (x4 : Int) (x5 : Int) (x6 : Int) (S : zz_S) (G_S : zz_G S) (F_S : zz_fr [(1076, 1), (1076, 3), (1076, 4), (1076, 5), (1076, 6), (1076, 7), (1076, 8), (1076, 9), (1076, 10), (1076, 11), (1076, 12), (1076, 13), (1076, 14), (1076, 15), (1076, 16)] [1029, 1030] (fun _ _ => False) S0 S) (i220_0 : (-2147483648) ≤ x4 ∧ x4 ≤ 2147483647) (i220_1 : (-2147483648) ≤ x5 ∧ x5 ≤ 2147483647) (i220_2 : 16 ≤ x6 ∧ x6 ≤ 63) (i220_3 : (1 = 1 ∧ 0 ≤ (S0 (zz_rf 6 (12 * p0 + p1)) 1) ∧ (S0 (zz_rf 6 (12 * p0 + p1)) 1) < S0 (zz_rf 3 p0) 1) ∨ (1 = 0 ∧ ((S0 (zz_rf 6 (12 * p0 + p1)) 1) < 0 ∨ (S0 (zz_rf 6 (12 * p0 + p1)) 1) ≥ S0 (zz_rf 3 p0) 1))) (i220_4 : (1 = 1 ∧ 0 ≤ (S0 (zz_rf 6 (12 * p0 + p1)) 2) ∧ (S0 (zz_rf 6 (12 * p0 + p1)) 2) < S0 (zz_rf 3 p0) 1) ∨ (1 = 0 ∧ ((S0 (zz_rf 6 (12 * p0 + p1)) 2) < 0 ∨ (S0 (zz_rf 6 (12 * p0 + p1)) 2) ≥ S0 (zz_rf 3 p0) 1))) (i220_5 : (1 = 1 ∧ 0 ≤ p1 ∧ p1 < S0 (zz_rf 3 p0) 1) ∨ (1 = 0 ∧ (p1 < 0 ∨ p1 ≥ S0 (zz_rf 3 p0) 1))) (i220_6 : S 1076 3 = 12 * p0 + p1) (i220_7 : S 1076 4 = 12 * p0 + (S0 (zz_rf 6 (12 * p0 + p1)) 1)) (i220_8 : S 1076 5 = 12 * p0 + (S0 (zz_rf 6 (12 * p0 + p1)) 2)) (i220_9 : S0 1076 1 ≤ S 1076 1) (i220_10 : S 1076 1 ≤ S0 1076 1 ∨ S 1076 1 ≤ 3250) (i220_11 : 0 ≤ S 1076 7 ∧ S 1076 7 ≤ 62) (i220_12 : S 1076 7 < S0 (zz_rf 6 (12 * p0 + p1)) 12) (i220_13 : 0 ≤ S 1076 9) (R : Nat) (hR : (51539607552 + (S0 (zz_rf 6 (12 * p0 + p1)) 12 - S 1076 7).toNat) * 1208925819614629174706176 + (34359738368 + (x4 - S 1076 9).toNat) * 1099511627776 + 1099511627775 = R) (k178 : ∀ (x4 : Int) (x5 : Int) (x6 : Int) (S : zz_S), zz_G S → zz_fr [(1076, 1), (1076, 3), (1076, 4), (1076, 5), (1076, 6), (1076, 7), (1076, 8), (1076, 9), (1076, 10), (1076, 11), (1076, 12), (1076, 13), (1076, 14), (1076, 15), (1076, 16)] [1029, 1030] (fun _ _ => False) S0 S → ((-2147483648) ≤ x4 ∧ x4 ≤ 2147483647) → ((-2147483648) ≤ x5 ∧ x5 ≤ 2147483647) → (16 ≤ x6 ∧ x6 ≤ 63) → ((1 = 1 ∧ 0 ≤ (S0 (zz_rf 6 (12 * p0 + p1)) 1) ∧ (S0 (zz_rf 6 (12 * p0 + p1)) 1) < S0 (zz_rf 3 p0) 1) ∨ (1 = 0 ∧ ((S0 (zz_rf 6 (12 * p0 + p1)) 1) < 0 ∨ (S0 (zz_rf 6 (12 * p0 + p1)) 1) ≥ S0 (zz_rf 3 p0) 1))) → ((1 = 1 ∧ 0 ≤ (S0 (zz_rf 6 (12 * p0 + p1)) 2) ∧ (S0 (zz_rf 6 (12 * p0 + p1)) 2) < S0 (zz_rf 3 p0) 1) ∨ (1 = 0 ∧ ((S0 (zz_rf 6 (12 * p0 + p1)) 2) < 0 ∨ (S0 (zz_rf 6 (12 * p0 + p1)) 2) ≥ S0 (zz_rf 3 p0) 1))) → ((1 = 1 ∧ 0 ≤ p1 ∧ p1 < S0 (zz_rf 3 p0) 1) ∨ (1 = 0 ∧ (p1 < 0 ∨ p1 ≥ S0 (zz_rf 3 p0) 1))) → (S 1076 3 = 12 * p0 + p1) → (S 1076 4 = 12 * p0 + (S0 (zz_rf 6 (12 * p0 + p1)) 1)) → (S 1076 5 = 12 * p0 + (S0 (zz_rf 6 (12 * p0 + p1)) 2)) → (S0 1076 1 ≤ S 1076 1) → (S 1076 1 ≤ S0 1076 1 ∨ S 1076 1 ≤ 3250) → (0 ≤ S 1076 7 ∧ S 1076 7 ≤ 80) → (51539607552 + (S0 (zz_rf 6 (12 * p0 + p1)) 12 - S 1076 7).toNat) * 1208925819614629174706176 + 1208925819614629174706175 < R → zz_E g l zy_makeLayer_3_3 zr_makeLayer_3_3 (zz_QV n (zp_makeLayer_3_3 p0 p1 S0)) S n 178 [some (.ref 1076), none, none, none, some (zi x4), some (zi x5), some (zi x6)] [] 0 0) (k234 : ∀ (x4 : Int) (x5 : Int) (x6 : Int) (S : zz_S), zz_G S → zz_fr [(1076, 1), (1076, 3), (1076, 4), (1076, 5), (1076, 6), (1076, 7), (1076, 8), (1076, 9), (1076, 10), (1076, 11), (1076, 12), (1076, 13), (1076, 14), (1076, 15), (1076, 16)] [1029, 1030] (fun _ _ => False) S0 S → ((-2147483647) ≤ x4 ∧ x4 ≤ 2147483647) → ((-2147483648) ≤ x5 ∧ x5 ≤ 2147483647) → (16 ≤ x6 ∧ x6 ≤ 63) → ((-2147483648) ≤ x4 ∧ x4 ≤ 2147483647) → ((1 = 1 ∧ 0 ≤ (S0 (zz_rf 6 (12 * p0 + p1)) 1) ∧ (S0 (zz_rf 6 (12 * p0 + p1)) 1) < S0 (zz_rf 3 p0) 1) ∨ (1 = 0 ∧ ((S0 (zz_rf 6 (12 * p0 + p1)) 1) < 0 ∨ (S0 (zz_rf 6 (12 * p0 + p1)) 1) ≥ S0 (zz_rf 3 p0) 1))) → ((1 = 1 ∧ 0 ≤ (S0 (zz_rf 6 (12 * p0 + p1)) 2) ∧ (S0 (zz_rf 6 (12 * p0 + p1)) 2) < S0 (zz_rf 3 p0) 1) ∨ (1 = 0 ∧ ((S0 (zz_rf 6 (12 * p0 + p1)) 2) < 0 ∨ (S0 (zz_rf 6 (12 * p0 + p1)) 2) ≥ S0 (zz_rf 3 p0) 1))) → ((1 = 1 ∧ 0 ≤ p1 ∧ p1 < S0 (zz_rf 3 p0) 1) ∨ (1 = 0 ∧ (p1 < 0 ∨ p1 ≥ S0 (zz_rf 3 p0) 1))) → (S 1076 3 = 12 * p0 + p1) → (S 1076 4 = 12 * p0 + (S0 (zz_rf 6 (12 * p0 + p1)) 1)) → (S 1076 5 = 12 * p0 + (S0 (zz_rf 6 (12 * p0 + p1)) 2)) → (S0 1076 1 ≤ S 1076 1) → (S 1076 1 ≤ S0 1076 1 ∨ S 1076 1 ≤ 3250) → (0 ≤ S 1076 7 ∧ S 1076 7 ≤ 62) → (S 1076 7 < S0 (zz_rf 6 (12 * p0 + p1)) 12) → (0 ≤ S 1076 9) → (S 1076 9 < x4) → (51539607552 + (S0 (zz_rf 6 (12 * p0 + p1)) 12 - S 1076 7).toNat) * 1208925819614629174706176 + (34359738368 + (x4 - S 1076 9).toNat) * 1099511627776 + (17179869184 + (5000 - S 1076 1).toNat) < R → zz_E g l zy_makeLayer_3_3 zr_makeLayer_3_3 (zz_QV n (zp_makeLayer_3_3 p0 p1 S0)) S n 234 [some (.ref 1076), none, none, none, some (zi x4), some (zi x5), some (zi x6)] [] 0 0) : zz_E g l zy_makeLayer_3_3 zr_makeLayer_3_3 (zz_QV n (zp_makeLayer_3_3 p0 p1 S0)) S n 220 [some (.ref 1076), none, none, none, some (zi x4), some (zi x5), some (zi x6)] [] 0 0 := by
  have b_p0 := zz_rf3 (z := p0) (by omega)
  have hy8 := H_S0 p0 (by omega) p1 (by omega) (by omega)
  have hy9 := H_S0 p0 (by omega) (S0 (zz_rf 6 (12 * p0 + p1)) 1) (by omega) (by omega)
  have hy7 := hy8.2
  refine zz_aload_n (x := 1076) rfl zd_3_3_220 ?_
  have g87 := zz_G.r G_S 1076 9 (-2147483648) 2147483647 rfl rfl
  refine zz_geti (z := S 1076 9) zd_3_3_221 zf_Compiler_85 zT_1076 rfl (zz_ltn hn rfl) rfl ?_
  refine zz_iload (x := x4) rfl zd_3_3_224 ?_
  refine zz_icmp_ge (by omega) (by omega) zd_3_3_226 (fun c88 => ?_) (fun c88 => ?_)
  · refine zz_aload_n (x := 1076) rfl zd_3_3_301 ?_
    refine zz_dup rfl zd_3_3_302 ?_
    have g89 := zz_G.r G_S 1076 7 (-2147483648) 2147483647 rfl rfl
    refine zz_geti (z := S 1076 7) zd_3_3_303 zf_Compiler_76 zT_1076 rfl (zz_ltn hn rfl) rfl ?_
    refine zz_aload_n (x := 1076) rfl zd_3_3_306 ?_
    have g90 := zz_G.r G_S0 1076 2 2 8 rfl rfl
    refine zz_geti (z := S0 1076 2) zd_3_3_307 zf_Compiler_21 zT_1076 rfl (zz_ltn hn rfl) (zz_rc F_S rfl rfl (fun h => h) rfl) ?_
    refine zz_iadd zd_3_3_310 ?_
    refine zz_nrm (fun v91 hv91 ev91 => ?_)
    refine zz_puti zd_3_3_311 zf_Compiler_76 zT_1076 rfl (zz_ltn hn rfl) (fun S92 qS92 => ?_)
    have G_S92 := zz_G.put G_S qS92 (-2147483648) 2147483647 rfl (by omega)
    have F_S92 := zz_fr.puts F_S qS92 rfl
    refine zz_goto zd_3_3_314 ?_
    have g93 := zz_G.r G_S 1076 3 (-1) 23 rfl rfl
    have e94 : S92 1076 3 = S 1076 3 := (zz_ro qS92 (fun h => absurd h.2 (by decide)) rfl)
    have g95 := zz_G.r G_S 1076 4 (-1) 23 rfl rfl
    have e96 : S92 1076 4 = S 1076 4 := (zz_ro qS92 (fun h => absurd h.2 (by decide)) rfl)
    have g97 := zz_G.r G_S 1076 5 (-1) 23 rfl rfl
    have e98 : S92 1076 5 = S 1076 5 := (zz_ro qS92 (fun h => absurd h.2 (by decide)) rfl)
    have g99 := zz_G.r G_S 1076 1 0 1000000 rfl rfl
    have e100 : S92 1076 1 = S 1076 1 := (zz_ro qS92 (fun h => absurd h.2 (by decide)) rfl)
    have e101 : S92 1076 7 = v91 := (zz_rs qS92)
    exact k178 x4 x5 x6 S92 G_S92 F_S92 (by omega) (by omega) (by omega) (by omega) (by omega) (by omega) (by omega) (by omega) (by omega) (by omega) (by omega) (by omega) (by omega)
  · refine zz_aload_n (x := 1076) rfl zd_3_3_229 ?_
    refine zz_iconst zd_3_3_230 ?_
    refine zz_puti zd_3_3_231 zf_Compiler_88 zT_1076 rfl (zz_ltn hn rfl) (fun S102 qS102 => ?_)
    have G_S102 := zz_G.put G_S qS102 (-2147483648) 2147483647 rfl (by omega)
    have F_S102 := zz_fr.puts F_S qS102 rfl
    have g103 := zz_G.r G_S 1076 3 (-1) 23 rfl rfl
    have e104 : S102 1076 3 = S 1076 3 := (zz_ro qS102 (fun h => absurd h.2 (by decide)) rfl)
    have g105 := zz_G.r G_S 1076 4 (-1) 23 rfl rfl
    have e106 : S102 1076 4 = S 1076 4 := (zz_ro qS102 (fun h => absurd h.2 (by decide)) rfl)
    have g107 := zz_G.r G_S 1076 5 (-1) 23 rfl rfl
    have e108 : S102 1076 5 = S 1076 5 := (zz_ro qS102 (fun h => absurd h.2 (by decide)) rfl)
    have g109 := zz_G.r G_S 1076 1 0 1000000 rfl rfl
    have e110 : S102 1076 1 = S 1076 1 := (zz_ro qS102 (fun h => absurd h.2 (by decide)) rfl)
    have g111 := zz_G.r G_S 1076 7 (-2147483648) 2147483647 rfl rfl
    have e112 : S102 1076 7 = S 1076 7 := (zz_ro qS102 (fun h => absurd h.2 (by decide)) rfl)
    have e113 : S102 1076 9 = S 1076 9 := (zz_ro qS102 (fun h => absurd h.2 (by decide)) rfl)
    exact k234 x4 x5 x6 S102 G_S102 F_S102 (by omega) (by omega) (by omega) (by omega) (by omega) (by omega) (by omega) (by omega) (by omega) (by omega) (by omega) (by omega) (by omega) (by omega) (by omega) (by omega) (by omega)
theorem zb_makeLayer_3_3_234 {g : mm_G} {l : Launch} (p0 : Int) (p1 : Int) (S0 : zz_S) (n : Nat) (hn : zz_end ≤ n) (G_S0 : zz_G S0) (hp0 : 0 ≤ p0 ∧ p0 ≤ 1) (hp1 : (-2147483648) ≤ p1 ∧ p1 ≤ 2147483647) (H_S0 : zz_Hc S0) (hq : S0 1076 1 ≤ 4000) (x4 : Int) (x5 : Int) (x6 : Int) (S : zz_S) (G_S : zz_G S) (F_S : zz_fr [(1076, 1), (1076, 3), (1076, 4), (1076, 5), (1076, 6), (1076, 7), (1076, 8), (1076, 9), (1076, 10), (1076, 11), (1076, 12), (1076, 13), (1076, 14), (1076, 15), (1076, 16)] [1029, 1030] (fun _ _ => False) S0 S) (i234_0 : (-2147483647) ≤ x4 ∧ x4 ≤ 2147483647) (i234_1 : (-2147483648) ≤ x5 ∧ x5 ≤ 2147483647) (i234_2 : 16 ≤ x6 ∧ x6 ≤ 63) (i234_3 : (-2147483648) ≤ x4 ∧ x4 ≤ 2147483647) (i234_4 : (1 = 1 ∧ 0 ≤ (S0 (zz_rf 6 (12 * p0 + p1)) 1) ∧ (S0 (zz_rf 6 (12 * p0 + p1)) 1) < S0 (zz_rf 3 p0) 1) ∨ (1 = 0 ∧ ((S0 (zz_rf 6 (12 * p0 + p1)) 1) < 0 ∨ (S0 (zz_rf 6 (12 * p0 + p1)) 1) ≥ S0 (zz_rf 3 p0) 1))) (i234_5 : (1 = 1 ∧ 0 ≤ (S0 (zz_rf 6 (12 * p0 + p1)) 2) ∧ (S0 (zz_rf 6 (12 * p0 + p1)) 2) < S0 (zz_rf 3 p0) 1) ∨ (1 = 0 ∧ ((S0 (zz_rf 6 (12 * p0 + p1)) 2) < 0 ∨ (S0 (zz_rf 6 (12 * p0 + p1)) 2) ≥ S0 (zz_rf 3 p0) 1))) (i234_6 : (1 = 1 ∧ 0 ≤ p1 ∧ p1 < S0 (zz_rf 3 p0) 1) ∨ (1 = 0 ∧ (p1 < 0 ∨ p1 ≥ S0 (zz_rf 3 p0) 1))) (i234_7 : S 1076 3 = 12 * p0 + p1) (i234_8 : S 1076 4 = 12 * p0 + (S0 (zz_rf 6 (12 * p0 + p1)) 1)) (i234_9 : S 1076 5 = 12 * p0 + (S0 (zz_rf 6 (12 * p0 + p1)) 2)) (i234_10 : S0 1076 1 ≤ S 1076 1) (i234_11 : S 1076 1 ≤ S0 1076 1 ∨ S 1076 1 ≤ 3250) (i234_12 : 0 ≤ S 1076 7 ∧ S 1076 7 ≤ 62) (i234_13 : S 1076 7 < S0 (zz_rf 6 (12 * p0 + p1)) 12) (i234_14 : 0 ≤ S 1076 9) (i234_15 : S 1076 9 < x4) (R : Nat) (hR : (51539607552 + (S0 (zz_rf 6 (12 * p0 + p1)) 12 - S 1076 7).toNat) * 1208925819614629174706176 + (34359738368 + (x4 - S 1076 9).toNat) * 1099511627776 + (17179869184 + (5000 - S 1076 1).toNat) = R) (k220 : ∀ (x4 : Int) (x5 : Int) (x6 : Int) (S : zz_S), zz_G S → zz_fr [(1076, 1), (1076, 3), (1076, 4), (1076, 5), (1076, 6), (1076, 7), (1076, 8), (1076, 9), (1076, 10), (1076, 11), (1076, 12), (1076, 13), (1076, 14), (1076, 15), (1076, 16)] [1029, 1030] (fun _ _ => False) S0 S → ((-2147483648) ≤ x4 ∧ x4 ≤ 2147483647) → ((-2147483648) ≤ x5 ∧ x5 ≤ 2147483647) → (16 ≤ x6 ∧ x6 ≤ 63) → ((1 = 1 ∧ 0 ≤ (S0 (zz_rf 6 (12 * p0 + p1)) 1) ∧ (S0 (zz_rf 6 (12 * p0 + p1)) 1) < S0 (zz_rf 3 p0) 1) ∨ (1 = 0 ∧ ((S0 (zz_rf 6 (12 * p0 + p1)) 1) < 0 ∨ (S0 (zz_rf 6 (12 * p0 + p1)) 1) ≥ S0 (zz_rf 3 p0) 1))) → ((1 = 1 ∧ 0 ≤ (S0 (zz_rf 6 (12 * p0 + p1)) 2) ∧ (S0 (zz_rf 6 (12 * p0 + p1)) 2) < S0 (zz_rf 3 p0) 1) ∨ (1 = 0 ∧ ((S0 (zz_rf 6 (12 * p0 + p1)) 2) < 0 ∨ (S0 (zz_rf 6 (12 * p0 + p1)) 2) ≥ S0 (zz_rf 3 p0) 1))) → ((1 = 1 ∧ 0 ≤ p1 ∧ p1 < S0 (zz_rf 3 p0) 1) ∨ (1 = 0 ∧ (p1 < 0 ∨ p1 ≥ S0 (zz_rf 3 p0) 1))) → (S 1076 3 = 12 * p0 + p1) → (S 1076 4 = 12 * p0 + (S0 (zz_rf 6 (12 * p0 + p1)) 1)) → (S 1076 5 = 12 * p0 + (S0 (zz_rf 6 (12 * p0 + p1)) 2)) → (S0 1076 1 ≤ S 1076 1) → (S 1076 1 ≤ S0 1076 1 ∨ S 1076 1 ≤ 3250) → (0 ≤ S 1076 7 ∧ S 1076 7 ≤ 62) → (S 1076 7 < S0 (zz_rf 6 (12 * p0 + p1)) 12) → (0 ≤ S 1076 9) → (51539607552 + (S0 (zz_rf 6 (12 * p0 + p1)) 12 - S 1076 7).toNat) * 1208925819614629174706176 + (34359738368 + (x4 - S 1076 9).toNat) * 1099511627776 + 1099511627775 < R → zz_E g l zy_makeLayer_3_3 zr_makeLayer_3_3 (zz_QV n (zp_makeLayer_3_3 p0 p1 S0)) S n 220 [some (.ref 1076), none, none, none, some (zi x4), some (zi x5), some (zi x6)] [] 0 0) (k234 : ∀ (x4 : Int) (x5 : Int) (x6 : Int) (S : zz_S), zz_G S → zz_fr [(1076, 1), (1076, 3), (1076, 4), (1076, 5), (1076, 6), (1076, 7), (1076, 8), (1076, 9), (1076, 10), (1076, 11), (1076, 12), (1076, 13), (1076, 14), (1076, 15), (1076, 16)] [1029, 1030] (fun _ _ => False) S0 S → ((-2147483647) ≤ x4 ∧ x4 ≤ 2147483647) → ((-2147483648) ≤ x5 ∧ x5 ≤ 2147483647) → (16 ≤ x6 ∧ x6 ≤ 63) → ((-2147483648) ≤ x4 ∧ x4 ≤ 2147483647) → ((1 = 1 ∧ 0 ≤ (S0 (zz_rf 6 (12 * p0 + p1)) 1) ∧ (S0 (zz_rf 6 (12 * p0 + p1)) 1) < S0 (zz_rf 3 p0) 1) ∨ (1 = 0 ∧ ((S0 (zz_rf 6 (12 * p0 + p1)) 1) < 0 ∨ (S0 (zz_rf 6 (12 * p0 + p1)) 1) ≥ S0 (zz_rf 3 p0) 1))) → ((1 = 1 ∧ 0 ≤ (S0 (zz_rf 6 (12 * p0 + p1)) 2) ∧ (S0 (zz_rf 6 (12 * p0 + p1)) 2) < S0 (zz_rf 3 p0) 1) ∨ (1 = 0 ∧ ((S0 (zz_rf 6 (12 * p0 + p1)) 2) < 0 ∨ (S0 (zz_rf 6 (12 * p0 + p1)) 2) ≥ S0 (zz_rf 3 p0) 1))) → ((1 = 1 ∧ 0 ≤ p1 ∧ p1 < S0 (zz_rf 3 p0) 1) ∨ (1 = 0 ∧ (p1 < 0 ∨ p1 ≥ S0 (zz_rf 3 p0) 1))) → (S 1076 3 = 12 * p0 + p1) → (S 1076 4 = 12 * p0 + (S0 (zz_rf 6 (12 * p0 + p1)) 1)) → (S 1076 5 = 12 * p0 + (S0 (zz_rf 6 (12 * p0 + p1)) 2)) → (S0 1076 1 ≤ S 1076 1) → (S 1076 1 ≤ S0 1076 1 ∨ S 1076 1 ≤ 3250) → (0 ≤ S 1076 7 ∧ S 1076 7 ≤ 62) → (S 1076 7 < S0 (zz_rf 6 (12 * p0 + p1)) 12) → (0 ≤ S 1076 9) → (S 1076 9 < x4) → (51539607552 + (S0 (zz_rf 6 (12 * p0 + p1)) 12 - S 1076 7).toNat) * 1208925819614629174706176 + (34359738368 + (x4 - S 1076 9).toNat) * 1099511627776 + (17179869184 + (5000 - S 1076 1).toNat) < R → zz_E g l zy_makeLayer_3_3 zr_makeLayer_3_3 (zz_QV n (zp_makeLayer_3_3 p0 p1 S0)) S n 234 [some (.ref 1076), none, none, none, some (zi x4), some (zi x5), some (zi x6)] [] 0 0) : zz_E g l zy_makeLayer_3_3 zr_makeLayer_3_3 (zz_QV n (zp_makeLayer_3_3 p0 p1 S0)) S n 234 [some (.ref 1076), none, none, none, some (zi x4), some (zi x5), some (zi x6)] [] 0 0 := by
  have b_p0 := zz_rf3 (z := p0) (by omega)
  have hy8 := H_S0 p0 (by omega) p1 (by omega) (by omega)
  have hy9 := H_S0 p0 (by omega) (S0 (zz_rf 6 (12 * p0 + p1)) 1) (by omega) (by omega)
  have hy7 := hy8.2
  refine zz_aload_n (x := 1076) rfl zd_3_3_234 ?_
  have g114 := zz_G.r G_S 1076 10 (-2147483648) 2147483647 rfl rfl
  refine zz_geti (z := S 1076 10) zd_3_3_235 zf_Compiler_88 zT_1076 rfl (zz_ltn hn rfl) rfl ?_
  refine zz_iload (x := x5) rfl zd_3_3_238 ?_
  refine zz_icmp_ge (by omega) (by omega) zd_3_3_240 (fun c115 => ?_) (fun c115 => ?_)
  · refine zz_aload_n (x := 1076) rfl zd_3_3_288 ?_
    refine zz_dup rfl zd_3_3_289 ?_
    have g116 := zz_G.r G_S 1076 9 (-2147483648) 2147483647 rfl rfl
    refine zz_geti (z := S 1076 9) zd_3_3_290 zf_Compiler_85 zT_1076 rfl (zz_ltn hn rfl) rfl ?_
    refine zz_iconst zd_3_3_293 ?_
    refine zz_iadd zd_3_3_294 ?_
    refine zz_nrm (fun v117 hv117 ev117 => ?_)
    refine zz_puti zd_3_3_295 zf_Compiler_85 zT_1076 rfl (zz_ltn hn rfl) (fun S118 qS118 => ?_)
    have G_S118 := zz_G.put G_S qS118 (-2147483648) 2147483647 rfl (by omega)
    have F_S118 := zz_fr.puts F_S qS118 rfl
    refine zz_goto zd_3_3_298 ?_
    have g119 := zz_G.r G_S 1076 3 (-1) 23 rfl rfl
    have e120 : S118 1076 3 = S 1076 3 := (zz_ro qS118 (fun h => absurd h.2 (by decide)) rfl)
    have g121 := zz_G.r G_S 1076 4 (-1) 23 rfl rfl
    have e122 : S118 1076 4 = S 1076 4 := (zz_ro qS118 (fun h => absurd h.2 (by decide)) rfl)
    have g123 := zz_G.r G_S 1076 5 (-1) 23 rfl rfl
    have e124 : S118 1076 5 = S 1076 5 := (zz_ro qS118 (fun h => absurd h.2 (by decide)) rfl)
    have g125 := zz_G.r G_S 1076 1 0 1000000 rfl rfl
    have e126 : S118 1076 1 = S 1076 1 := (zz_ro qS118 (fun h => absurd h.2 (by decide)) rfl)
    have g127 := zz_G.r G_S 1076 7 (-2147483648) 2147483647 rfl rfl
    have e128 : S118 1076 7 = S 1076 7 := (zz_ro qS118 (fun h => absurd h.2 (by decide)) rfl)
    have e129 : S118 1076 9 = v117 := (zz_rs qS118)
    exact k220 x4 x5 x6 S118 G_S118 F_S118 (by omega) (by omega) (by omega) (by omega) (by omega) (by omega) (by omega) (by omega) (by omega) (by omega) (by omega) (by omega) (by omega) (by omega) (by omega)
  · refine zz_aload_n (x := 1076) rfl zd_3_3_243 ?_
    have g130 := zz_G.r G_S 1076 1 0 1000000 rfl rfl
    refine zz_geti (z := S 1076 1) zd_3_3_244 zf_Compiler_15 zT_1076 rfl (zz_ltn hn rfl) rfl ?_
    refine zz_sipush (by decide) zd_3_3_247 ?_
    refine zz_icmp_le (by omega) (by omega) zd_3_3_250 (fun c131 => ?_) (fun c131 => ?_)
    · refine zz_aload_n (x := 1076) rfl zd_3_3_254 ?_
      refine zz_iload (x := x6) rfl zd_3_3_255 ?_
      refine zz_iload (x := x5) rfl zd_3_3_257 ?_
      refine zz_aload_n (x := 1076) rfl zd_3_3_259 ?_
      refine zz_geti (z := S 1076 10) zd_3_3_260 zf_Compiler_88 zT_1076 rfl (zz_ltn hn rfl) rfl ?_
      refine zz_isub zd_3_3_263 ?_
      refine zz_nrm (fun v132 hv132 ev132 => ?_)
      refine zz_mmin (by omega) (by omega) zd_3_3_264 zm_Compiler_24 ⟨Nat.le_of_ble_eq_true rfl, Nat.le_of_ble_eq_true rfl⟩ (Nat.zero_le _) (Nat.zero_le _) (fun v133 hv133 => ?_)
      refine zz_puti zd_3_3_267 zf_Compiler_91 zT_1076 rfl (zz_ltn hn rfl) (fun S134 qS134 => ?_)
      have G_S134 := zz_G.put G_S qS134 (-2147483648) 2147483647 rfl (by omega)
      have F_S134 := zz_fr.puts F_S qS134 rfl
      refine zz_aload_n (x := 1076) rfl zd_3_3_270 ?_
      have e135 : S134 1076 1 = S 1076 1 := (zz_ro qS134 (fun h => absurd h.2 (by decide)) rfl)
      have g136 := zz_G.r G_S 1076 3 (-1) 23 rfl rfl
      have e137 : S134 1076 3 = S 1076 3 := (zz_ro qS134 (fun h => absurd h.2 (by decide)) rfl)
      have g138 := zz_G.r G_S 1076 4 (-1) 23 rfl rfl
      have e139 : S134 1076 4 = S 1076 4 := (zz_ro qS134 (fun h => absurd h.2 (by decide)) rfl)
      have g140 := zz_G.r G_S 1076 5 (-1) 23 rfl rfl
      have e141 : S134 1076 5 = S 1076 5 := (zz_ro qS134 (fun h => absurd h.2 (by decide)) rfl)
      refine zz_callVV [] zd_3_3_271 zk_Compiler_94 zT_1076 (zz_ltn hn rfl) rfl rfl ⟨Nat.le_of_ble_eq_true rfl, Nat.le_of_ble_eq_true rfl⟩ ⟨rfl, rfl⟩ (Nat.zero_le _) (Nat.zero_le _) (zc_makeTile_3_4  S134 n hn G_S134 (by omega) (by omega) (by rw [show S134 1076 3 = 12 * p0 + p1 by omega, show S134 1076 4 = 12 * p0 + (S0 (zz_rf 6 (12 * p0 + p1)) 1) by omega]; exact ⟨zz_ly.same (fun i => (F_S134 (zz_rf 6 (12 * p0 + p1)) _ (zP_k6 (by omega) rfl) (zQ_k6 (by omega) rfl) (fun h => h))) hy8, by rw [show S134 (zz_rf 6 (12 * p0 + (S0 (zz_rf 6 (12 * p0 + p1)) 1))) 12 = S0 (zz_rf 6 (12 * p0 + (S0 (zz_rf 6 (12 * p0 + p1)) 1))) 12 from (F_S134 (zz_rf 6 (12 * p0 + (S0 (zz_rf 6 (12 * p0 + p1)) 1))) _ (zP_k6 (by omega) rfl) (zQ_k6 (by omega) rfl) (fun h => h))]; exact hy9.2⟩)) (fun S142 hP => ?_)
      obtain ⟨G_S142, fS142, o144⟩ := hP
      have F_S142 := zz_fr.trans F_S134 fS142 rfl zz_nv
      refine zz_aload_n (x := 1076) rfl zd_3_3_274 ?_
      refine zz_dup rfl zd_3_3_275 ?_
      refine zz_geti (z := S 1076 10) zd_3_3_276 zf_Compiler_88 zT_1076 rfl (zz_ltn hn rfl) (zz_rc fS142 rfl rfl (fun h => h) (zz_ro qS134 (fun h => absurd h.2 (by decide)) rfl)) ?_
      refine zz_iload (x := x6) rfl zd_3_3_279 ?_
      refine zz_iadd zd_3_3_281 ?_
      refine zz_nrm (fun v145 hv145 ev145 => ?_)
      refine zz_puti zd_3_3_282 zf_Compiler_88 zT_1076 rfl (zz_ltn hn rfl) (fun S146 qS146 => ?_)
      have G_S146 := zz_G.put G_S142 qS146 (-2147483648) 2147483647 rfl (by omega)
      have F_S146 := zz_fr.puts F_S142 qS146 rfl
      refine zz_goto zd_3_3_285 ?_
      have e147 : S146 1076 3 = S 1076 3 := (zz_ro qS146 (fun h => absurd h.2 (by decide)) (zz_rc fS142 rfl rfl (fun h => h) (zz_ro qS134 (fun h => absurd h.2 (by decide)) rfl)))
      have e148 : S146 1076 4 = S 1076 4 := (zz_ro qS146 (fun h => absurd h.2 (by decide)) (zz_rc fS142 rfl rfl (fun h => h) (zz_ro qS134 (fun h => absurd h.2 (by decide)) rfl)))
      have e149 : S146 1076 5 = S 1076 5 := (zz_ro qS146 (fun h => absurd h.2 (by decide)) (zz_rc fS142 rfl rfl (fun h => h) (zz_ro qS134 (fun h => absurd h.2 (by decide)) rfl)))
      have g150 := zz_G.r G_S142 1076 1 0 1000000 rfl rfl
      have e151 : S146 1076 1 = S142 1076 1 := (zz_ro qS146 (fun h => absurd h.2 (by decide)) rfl)
      have g152 := zz_G.r G_S 1076 7 (-2147483648) 2147483647 rfl rfl
      have e153 : S146 1076 7 = S 1076 7 := (zz_ro qS146 (fun h => absurd h.2 (by decide)) (zz_rc fS142 rfl rfl (fun h => h) (zz_ro qS134 (fun h => absurd h.2 (by decide)) rfl)))
      have g154 := zz_G.r G_S 1076 9 (-2147483648) 2147483647 rfl rfl
      have e155 : S146 1076 9 = S 1076 9 := (zz_ro qS146 (fun h => absurd h.2 (by decide)) (zz_rc fS142 rfl rfl (fun h => h) (zz_ro qS134 (fun h => absurd h.2 (by decide)) rfl)))
      exact k234 x4 x5 x6 S146 G_S146 F_S146 (by omega) (by omega) (by omega) (by omega) (by omega) (by omega) (by omega) (by omega) (by omega) (by omega) (by omega) (by omega) (by omega) (by omega) (by omega) (by omega) (by omega)
    · exact zz_vret zd_3_3_253 rfl (Nat.zero_le _) (Nat.zero_le _) ⟨_, rfl, G_S, F_S, by omega⟩
theorem zi_makeLayer_3_3 {g : mm_G} {l : Launch} (p0 : Int) (p1 : Int) (S0 : zz_S) (n : Nat) (hn : zz_end ≤ n) (G_S0 : zz_G S0) (hp0 : 0 ≤ p0 ∧ p0 ≤ 1) (hp1 : (-2147483648) ≤ p1 ∧ p1 ≤ 2147483647) (H_S0 : zz_Hc S0) (hq : S0 1076 1 ≤ 4000) : ∀ N : Nat, (∀ (x4 : Int) (x5 : Int) (x6 : Int) (S : zz_S), zz_G S → zz_fr [(1076, 1), (1076, 3), (1076, 4), (1076, 5), (1076, 6), (1076, 7), (1076, 8), (1076, 9), (1076, 10), (1076, 11), (1076, 12), (1076, 13), (1076, 14), (1076, 15), (1076, 16)] [1029, 1030] (fun _ _ => False) S0 S → ((-2147483648) ≤ x4 ∧ x4 ≤ 2147483647) → ((-2147483648) ≤ x5 ∧ x5 ≤ 2147483647) → (16 ≤ x6 ∧ x6 ≤ 63) → ((1 = 1 ∧ 0 ≤ (S0 (zz_rf 6 (12 * p0 + p1)) 1) ∧ (S0 (zz_rf 6 (12 * p0 + p1)) 1) < S0 (zz_rf 3 p0) 1) ∨ (1 = 0 ∧ ((S0 (zz_rf 6 (12 * p0 + p1)) 1) < 0 ∨ (S0 (zz_rf 6 (12 * p0 + p1)) 1) ≥ S0 (zz_rf 3 p0) 1))) → ((1 = 1 ∧ 0 ≤ (S0 (zz_rf 6 (12 * p0 + p1)) 2) ∧ (S0 (zz_rf 6 (12 * p0 + p1)) 2) < S0 (zz_rf 3 p0) 1) ∨ (1 = 0 ∧ ((S0 (zz_rf 6 (12 * p0 + p1)) 2) < 0 ∨ (S0 (zz_rf 6 (12 * p0 + p1)) 2) ≥ S0 (zz_rf 3 p0) 1))) → ((1 = 1 ∧ 0 ≤ p1 ∧ p1 < S0 (zz_rf 3 p0) 1) ∨ (1 = 0 ∧ (p1 < 0 ∨ p1 ≥ S0 (zz_rf 3 p0) 1))) → (S 1076 3 = 12 * p0 + p1) → (S 1076 4 = 12 * p0 + (S0 (zz_rf 6 (12 * p0 + p1)) 1)) → (S 1076 5 = 12 * p0 + (S0 (zz_rf 6 (12 * p0 + p1)) 2)) → (S0 1076 1 ≤ S 1076 1) → (S 1076 1 ≤ S0 1076 1 ∨ S 1076 1 ≤ 3250) → (0 ≤ S 1076 7 ∧ S 1076 7 ≤ 80) → (51539607552 + (S0 (zz_rf 6 (12 * p0 + p1)) 12 - S 1076 7).toNat) * 1208925819614629174706176 + 1208925819614629174706175 < N → zz_E g l zy_makeLayer_3_3 zr_makeLayer_3_3 (zz_QV n (zp_makeLayer_3_3 p0 p1 S0)) S n 178 [some (.ref 1076), none, none, none, some (zi x4), some (zi x5), some (zi x6)] [] 0 0) ∧ (∀ (x4 : Int) (x5 : Int) (x6 : Int) (S : zz_S), zz_G S → zz_fr [(1076, 1), (1076, 3), (1076, 4), (1076, 5), (1076, 6), (1076, 7), (1076, 8), (1076, 9), (1076, 10), (1076, 11), (1076, 12), (1076, 13), (1076, 14), (1076, 15), (1076, 16)] [1029, 1030] (fun _ _ => False) S0 S → ((-2147483648) ≤ x4 ∧ x4 ≤ 2147483647) → ((-2147483648) ≤ x5 ∧ x5 ≤ 2147483647) → (16 ≤ x6 ∧ x6 ≤ 63) → ((1 = 1 ∧ 0 ≤ (S0 (zz_rf 6 (12 * p0 + p1)) 1) ∧ (S0 (zz_rf 6 (12 * p0 + p1)) 1) < S0 (zz_rf 3 p0) 1) ∨ (1 = 0 ∧ ((S0 (zz_rf 6 (12 * p0 + p1)) 1) < 0 ∨ (S0 (zz_rf 6 (12 * p0 + p1)) 1) ≥ S0 (zz_rf 3 p0) 1))) → ((1 = 1 ∧ 0 ≤ (S0 (zz_rf 6 (12 * p0 + p1)) 2) ∧ (S0 (zz_rf 6 (12 * p0 + p1)) 2) < S0 (zz_rf 3 p0) 1) ∨ (1 = 0 ∧ ((S0 (zz_rf 6 (12 * p0 + p1)) 2) < 0 ∨ (S0 (zz_rf 6 (12 * p0 + p1)) 2) ≥ S0 (zz_rf 3 p0) 1))) → ((1 = 1 ∧ 0 ≤ p1 ∧ p1 < S0 (zz_rf 3 p0) 1) ∨ (1 = 0 ∧ (p1 < 0 ∨ p1 ≥ S0 (zz_rf 3 p0) 1))) → (S 1076 3 = 12 * p0 + p1) → (S 1076 4 = 12 * p0 + (S0 (zz_rf 6 (12 * p0 + p1)) 1)) → (S 1076 5 = 12 * p0 + (S0 (zz_rf 6 (12 * p0 + p1)) 2)) → (S0 1076 1 ≤ S 1076 1) → (S 1076 1 ≤ S0 1076 1 ∨ S 1076 1 ≤ 3250) → (0 ≤ S 1076 7 ∧ S 1076 7 ≤ 62) → (S 1076 7 < S0 (zz_rf 6 (12 * p0 + p1)) 12) → (0 ≤ S 1076 9) → (51539607552 + (S0 (zz_rf 6 (12 * p0 + p1)) 12 - S 1076 7).toNat) * 1208925819614629174706176 + (34359738368 + (x4 - S 1076 9).toNat) * 1099511627776 + 1099511627775 < N → zz_E g l zy_makeLayer_3_3 zr_makeLayer_3_3 (zz_QV n (zp_makeLayer_3_3 p0 p1 S0)) S n 220 [some (.ref 1076), none, none, none, some (zi x4), some (zi x5), some (zi x6)] [] 0 0) ∧ (∀ (x4 : Int) (x5 : Int) (x6 : Int) (S : zz_S), zz_G S → zz_fr [(1076, 1), (1076, 3), (1076, 4), (1076, 5), (1076, 6), (1076, 7), (1076, 8), (1076, 9), (1076, 10), (1076, 11), (1076, 12), (1076, 13), (1076, 14), (1076, 15), (1076, 16)] [1029, 1030] (fun _ _ => False) S0 S → ((-2147483647) ≤ x4 ∧ x4 ≤ 2147483647) → ((-2147483648) ≤ x5 ∧ x5 ≤ 2147483647) → (16 ≤ x6 ∧ x6 ≤ 63) → ((-2147483648) ≤ x4 ∧ x4 ≤ 2147483647) → ((1 = 1 ∧ 0 ≤ (S0 (zz_rf 6 (12 * p0 + p1)) 1) ∧ (S0 (zz_rf 6 (12 * p0 + p1)) 1) < S0 (zz_rf 3 p0) 1) ∨ (1 = 0 ∧ ((S0 (zz_rf 6 (12 * p0 + p1)) 1) < 0 ∨ (S0 (zz_rf 6 (12 * p0 + p1)) 1) ≥ S0 (zz_rf 3 p0) 1))) → ((1 = 1 ∧ 0 ≤ (S0 (zz_rf 6 (12 * p0 + p1)) 2) ∧ (S0 (zz_rf 6 (12 * p0 + p1)) 2) < S0 (zz_rf 3 p0) 1) ∨ (1 = 0 ∧ ((S0 (zz_rf 6 (12 * p0 + p1)) 2) < 0 ∨ (S0 (zz_rf 6 (12 * p0 + p1)) 2) ≥ S0 (zz_rf 3 p0) 1))) → ((1 = 1 ∧ 0 ≤ p1 ∧ p1 < S0 (zz_rf 3 p0) 1) ∨ (1 = 0 ∧ (p1 < 0 ∨ p1 ≥ S0 (zz_rf 3 p0) 1))) → (S 1076 3 = 12 * p0 + p1) → (S 1076 4 = 12 * p0 + (S0 (zz_rf 6 (12 * p0 + p1)) 1)) → (S 1076 5 = 12 * p0 + (S0 (zz_rf 6 (12 * p0 + p1)) 2)) → (S0 1076 1 ≤ S 1076 1) → (S 1076 1 ≤ S0 1076 1 ∨ S 1076 1 ≤ 3250) → (0 ≤ S 1076 7 ∧ S 1076 7 ≤ 62) → (S 1076 7 < S0 (zz_rf 6 (12 * p0 + p1)) 12) → (0 ≤ S 1076 9) → (S 1076 9 < x4) → (51539607552 + (S0 (zz_rf 6 (12 * p0 + p1)) 12 - S 1076 7).toNat) * 1208925819614629174706176 + (34359738368 + (x4 - S 1076 9).toNat) * 1099511627776 + (17179869184 + (5000 - S 1076 1).toNat) < N → zz_E g l zy_makeLayer_3_3 zr_makeLayer_3_3 (zz_QV n (zp_makeLayer_3_3 p0 p1 S0)) S n 234 [some (.ref 1076), none, none, none, some (zi x4), some (zi x5), some (zi x6)] [] 0 0) := by
  intro N
  induction N with
  | zero => exact ⟨fun x4 x5 x6 S _ _ _ _ _ _ _ _ _ _ _ _ _ _ h => absurd h (Nat.not_lt_zero _), fun x4 x5 x6 S _ _ _ _ _ _ _ _ _ _ _ _ _ _ _ _ h => absurd h (Nat.not_lt_zero _), fun x4 x5 x6 S _ _ _ _ _ _ _ _ _ _ _ _ _ _ _ _ _ _ h => absurd h (Nat.not_lt_zero _)⟩
  | succ N ih =>
    exact ⟨fun x4 x5 x6 S a b j0 j1 j2 j3 j4 j5 j6 j7 j8 j9 j10 j11 hR => zb_makeLayer_3_3_178 p0 p1 S0 n hn G_S0 hp0 hp1 H_S0 hq x4 x5 x6 S a b j0 j1 j2 j3 j4 j5 j6 j7 j8 j9 j10 j11 _ rfl (fun x4 x5 x6 S a b j0 j1 j2 j3 j4 j5 j6 j7 j8 j9 j10 j11 j12 j13 h => ih.2.1 x4 x5 x6 S a b j0 j1 j2 j3 j4 j5 j6 j7 j8 j9 j10 j11 j12 j13 (Nat.lt_of_lt_of_le h (Nat.le_of_lt_succ hR))),
      fun x4 x5 x6 S a b j0 j1 j2 j3 j4 j5 j6 j7 j8 j9 j10 j11 j12 j13 hR => zb_makeLayer_3_3_220 p0 p1 S0 n hn G_S0 hp0 hp1 H_S0 hq x4 x5 x6 S a b j0 j1 j2 j3 j4 j5 j6 j7 j8 j9 j10 j11 j12 j13 _ rfl (fun x4 x5 x6 S a b j0 j1 j2 j3 j4 j5 j6 j7 j8 j9 j10 j11 h => ih.1 x4 x5 x6 S a b j0 j1 j2 j3 j4 j5 j6 j7 j8 j9 j10 j11 (Nat.lt_of_lt_of_le h (Nat.le_of_lt_succ hR))) (fun x4 x5 x6 S a b j0 j1 j2 j3 j4 j5 j6 j7 j8 j9 j10 j11 j12 j13 j14 j15 h => ih.2.2 x4 x5 x6 S a b j0 j1 j2 j3 j4 j5 j6 j7 j8 j9 j10 j11 j12 j13 j14 j15 (Nat.lt_of_lt_of_le h (Nat.le_of_lt_succ hR))),
      fun x4 x5 x6 S a b j0 j1 j2 j3 j4 j5 j6 j7 j8 j9 j10 j11 j12 j13 j14 j15 hR => zb_makeLayer_3_3_234 p0 p1 S0 n hn G_S0 hp0 hp1 H_S0 hq x4 x5 x6 S a b j0 j1 j2 j3 j4 j5 j6 j7 j8 j9 j10 j11 j12 j13 j14 j15 _ rfl (fun x4 x5 x6 S a b j0 j1 j2 j3 j4 j5 j6 j7 j8 j9 j10 j11 j12 j13 h => ih.2.1 x4 x5 x6 S a b j0 j1 j2 j3 j4 j5 j6 j7 j8 j9 j10 j11 j12 j13 (Nat.lt_of_lt_of_le h (Nat.le_of_lt_succ hR))) (fun x4 x5 x6 S a b j0 j1 j2 j3 j4 j5 j6 j7 j8 j9 j10 j11 j12 j13 j14 j15 h => ih.2.2 x4 x5 x6 S a b j0 j1 j2 j3 j4 j5 j6 j7 j8 j9 j10 j11 j12 j13 j14 j15 (Nat.lt_of_lt_of_le h (Nat.le_of_lt_succ hR)))⟩
theorem zc_makeLayer_3_3 {g : mm_G} {l : Launch} (p0 : Int) (p1 : Int) (S0 : zz_S) (n : Nat) (hn : zz_end ≤ n) (G_S0 : zz_G S0) (hp0 : 0 ≤ p0 ∧ p0 ≤ 1) (hp1 : (-2147483648) ≤ p1 ∧ p1 ≤ 2147483647) (H_S0 : zz_Hc S0) (hq : S0 1076 1 ≤ 4000) : mm_Met g l zy_makeLayer_3_3 zr_makeLayer_3_3 [.ref 1076, .ref (zz_rf 3 p0), zi p1] (zz_M S0 n) n (zz_QV n (zp_makeLayer_3_3 p0 p1 S0)) := by
  refine zz_enter (by decide) (Nat.le_of_ble_eq_true rfl) (zz_less (ls1 := [some (.ref 1076), some (.ref (zz_rf 3 p0)), some (zi p1)]) ⟨rfl, ⟨rfl, ⟨rfl, trivial⟩⟩⟩ ?_)
  have F_S0 : zz_fr [(1076, 1), (1076, 3), (1076, 4), (1076, 5), (1076, 6), (1076, 7), (1076, 8), (1076, 9), (1076, 10), (1076, 11), (1076, 12), (1076, 13), (1076, 14), (1076, 15), (1076, 16)] [1029, 1030] (fun _ _ => False) S0 S0 := zz_fr.refl
  have k178 : ∀ (x4 : Int) (x5 : Int) (x6 : Int) (S : zz_S), zz_G S → zz_fr [(1076, 1), (1076, 3), (1076, 4), (1076, 5), (1076, 6), (1076, 7), (1076, 8), (1076, 9), (1076, 10), (1076, 11), (1076, 12), (1076, 13), (1076, 14), (1076, 15), (1076, 16)] [1029, 1030] (fun _ _ => False) S0 S → ((-2147483648) ≤ x4 ∧ x4 ≤ 2147483647) → ((-2147483648) ≤ x5 ∧ x5 ≤ 2147483647) → (16 ≤ x6 ∧ x6 ≤ 63) → ((1 = 1 ∧ 0 ≤ (S0 (zz_rf 6 (12 * p0 + p1)) 1) ∧ (S0 (zz_rf 6 (12 * p0 + p1)) 1) < S0 (zz_rf 3 p0) 1) ∨ (1 = 0 ∧ ((S0 (zz_rf 6 (12 * p0 + p1)) 1) < 0 ∨ (S0 (zz_rf 6 (12 * p0 + p1)) 1) ≥ S0 (zz_rf 3 p0) 1))) → ((1 = 1 ∧ 0 ≤ (S0 (zz_rf 6 (12 * p0 + p1)) 2) ∧ (S0 (zz_rf 6 (12 * p0 + p1)) 2) < S0 (zz_rf 3 p0) 1) ∨ (1 = 0 ∧ ((S0 (zz_rf 6 (12 * p0 + p1)) 2) < 0 ∨ (S0 (zz_rf 6 (12 * p0 + p1)) 2) ≥ S0 (zz_rf 3 p0) 1))) → ((1 = 1 ∧ 0 ≤ p1 ∧ p1 < S0 (zz_rf 3 p0) 1) ∨ (1 = 0 ∧ (p1 < 0 ∨ p1 ≥ S0 (zz_rf 3 p0) 1))) → (S 1076 3 = 12 * p0 + p1) → (S 1076 4 = 12 * p0 + (S0 (zz_rf 6 (12 * p0 + p1)) 1)) → (S 1076 5 = 12 * p0 + (S0 (zz_rf 6 (12 * p0 + p1)) 2)) → (S0 1076 1 ≤ S 1076 1) → (S 1076 1 ≤ S0 1076 1 ∨ S 1076 1 ≤ 3250) → (0 ≤ S 1076 7 ∧ S 1076 7 ≤ 80) → zz_E g l zy_makeLayer_3_3 zr_makeLayer_3_3 (zz_QV n (zp_makeLayer_3_3 p0 p1 S0)) S n 178 [some (.ref 1076), none, none, none, some (zi x4), some (zi x5), some (zi x6)] [] 0 0 := fun x4 x5 x6 S a b j0 j1 j2 j3 j4 j5 j6 j7 j8 j9 j10 j11 => (zi_makeLayer_3_3 (g := g) (l := l) p0 p1 S0 n hn G_S0 hp0 hp1 H_S0 hq _).1 x4 x5 x6 S a b j0 j1 j2 j3 j4 j5 j6 j7 j8 j9 j10 j11 (Nat.lt_succ_self _)
  have b_p0 := zz_rf3 (z := p0) (by omega)
  have ht9 := zz_G.r G_S0 (zz_rf 3 p0) 1 1 11 (zR_k3_1 (by omega)) (zB_k3 (by omega))
  refine zz_aload_n (x := zz_rf 3 p0) rfl zd_3_3_0 ?_
  refine zz_iload_n (x := p1) rfl zd_3_3_1 ?_
  refine zz_callVI [zi p1] zd_3_3_2 zk_Compiler_33 (zT_k3 (by omega)) (zN_k3 hn (by omega)) rfl rfl ⟨Nat.le_of_ble_eq_true rfl, Nat.le_of_ble_eq_true rfl⟩ ⟨rfl, rfl⟩ (Nat.zero_le _) (Nat.zero_le _) (zc_has_7_5 p0 p1 S0 n hn G_S0 (by omega) (by omega)) (fun v2 S1 hP => ?_)
  obtain ⟨rfl, o3, o4⟩ := hP
  rcases (by omega : v2 = 0 ∨ v2 = 1) with rfl | rfl
  · refine zz_if_eq (by omega) zd_3_3_5 (fun c5 => ?_) (fun c5 => ?_)
    · have g6 := zz_G.r G_S0 1076 1 0 1000000 rfl rfl
      exact zz_vret zd_3_3_40 rfl (Nat.zero_le _) (Nat.zero_le _) ⟨_, rfl, G_S0, F_S0, by omega⟩
    · exfalso; omega
  · refine zz_if_eq (by omega) zd_3_3_5 (fun c7 => ?_) (fun c7 => ?_)
    · exfalso; omega
    · refine zz_aload_n (x := zz_rf 3 p0) rfl zd_3_3_8 ?_
      refine zz_aload_n (x := zz_rf 3 p0) rfl zd_3_3_9 ?_
      refine zz_getr (kd := 0) (z := ((zz_rf 3 p0 + 1 : Nat) : Int)) zd_3_3_10 zf_Compiler_39 (zT_k3 (by omega)) rfl (zN_k3 hn (by omega)) (zE_k3a G_S0 (by omega)) (Int.natCast_nonneg _) (zz_rf 3 p0 + 1) (Int.toNat_natCast _) ?_
      refine zz_iload_n (x := p1) rfl zd_3_3_13 ?_
      refine zz_aald (kd := 4) (z := 12 * p0 + p1) zd_3_3_14 (zT_k3a (by omega)) rfl (zN_k3a hn (by omega)) (by decide) (by omega) (zE_lay G_S0 (by omega) (by omega)) (by omega) (zz_rf 6 (12 * p0 + p1)) rfl ?_
      have g8 := zz_G.r G_S0 (zz_rf 6 (12 * p0 + p1)) 1 (-2147483648) 2147483647 (zR_k6_1 (by omega)) (zB_k6 (by omega))
      refine zz_geti (z := S0 (zz_rf 6 (12 * p0 + p1)) 1) zd_3_3_15 zf_Compiler_43 (zT_k6 (by omega)) rfl (zN_k6 hn (by omega)) rfl ?_
      refine zz_callVI [zi (S0 (zz_rf 6 (12 * p0 + p1)) 1)] zd_3_3_18 zk_Compiler_33 (zT_k3 (by omega)) (zN_k3 hn (by omega)) rfl rfl ⟨Nat.le_of_ble_eq_true rfl, Nat.le_of_ble_eq_true rfl⟩ ⟨rfl, rfl⟩ (Nat.zero_le _) (Nat.zero_le _) (zc_has_7_5 p0 (S0 (zz_rf 6 (12 * p0 + p1)) 1) S0 n hn G_S0 (by omega) (by omega)) (fun v10 S9 hP => ?_)
      obtain ⟨rfl, o11, o12⟩ := hP
      rcases (by omega : v10 = 0 ∨ v10 = 1) with rfl | rfl
      · refine zz_if_eq (by omega) zd_3_3_21 (fun c13 => ?_) (fun c13 => ?_)
        · have g14 := zz_G.r G_S0 1076 1 0 1000000 rfl rfl
          exact zz_vret zd_3_3_40 rfl (Nat.zero_le _) (Nat.zero_le _) ⟨_, rfl, G_S0, F_S0, by omega⟩
        · exfalso; omega
      · refine zz_if_eq (by omega) zd_3_3_21 (fun c15 => ?_) (fun c15 => ?_)
        · exfalso; omega
        · refine zz_aload_n (x := zz_rf 3 p0) rfl zd_3_3_24 ?_
          refine zz_aload_n (x := zz_rf 3 p0) rfl zd_3_3_25 ?_
          refine zz_getr (kd := 0) (z := ((zz_rf 3 p0 + 1 : Nat) : Int)) zd_3_3_26 zf_Compiler_39 (zT_k3 (by omega)) rfl (zN_k3 hn (by omega)) (zE_k3a G_S0 (by omega)) (Int.natCast_nonneg _) (zz_rf 3 p0 + 1) (Int.toNat_natCast _) ?_
          refine zz_iload_n (x := p1) rfl zd_3_3_29 ?_
          refine zz_aald (kd := 4) (z := 12 * p0 + p1) zd_3_3_30 (zT_k3a (by omega)) rfl (zN_k3a hn (by omega)) (by decide) (by omega) (zE_lay G_S0 (by omega) (by omega)) (by omega) (zz_rf 6 (12 * p0 + p1)) rfl ?_
          have g16 := zz_G.r G_S0 (zz_rf 6 (12 * p0 + p1)) 2 (-2147483648) 2147483647 (zR_k6_2 (by omega)) (zB_k6 (by omega))
          refine zz_geti (z := S0 (zz_rf 6 (12 * p0 + p1)) 2) zd_3_3_31 zf_Compiler_48 (zT_k6 (by omega)) rfl (zN_k6 hn (by omega)) rfl ?_
          refine zz_callVI [zi (S0 (zz_rf 6 (12 * p0 + p1)) 2)] zd_3_3_34 zk_Compiler_33 (zT_k3 (by omega)) (zN_k3 hn (by omega)) rfl rfl ⟨Nat.le_of_ble_eq_true rfl, Nat.le_of_ble_eq_true rfl⟩ ⟨rfl, rfl⟩ (Nat.zero_le _) (Nat.zero_le _) (zc_has_7_5 p0 (S0 (zz_rf 6 (12 * p0 + p1)) 2) S0 n hn G_S0 (by omega) (by omega)) (fun v18 S17 hP => ?_)
          obtain ⟨rfl, o19, o20⟩ := hP
          rcases (by omega : v18 = 0 ∨ v18 = 1) with rfl | rfl
          · refine zz_if_ne (by omega) zd_3_3_37 (fun c21 => ?_) (fun c21 => ?_)
            · exfalso; omega
            · have g22 := zz_G.r G_S0 1076 1 0 1000000 rfl rfl
              exact zz_vret zd_3_3_40 rfl (Nat.zero_le _) (Nat.zero_le _) ⟨_, rfl, G_S0, F_S0, by omega⟩
          · refine zz_if_ne (by omega) zd_3_3_37 (fun c23 => ?_) (fun c23 => ?_)
            · refine zz_aload_n (x := 1076) rfl zd_3_3_41 ?_
              refine zz_aload_n (x := zz_rf 3 p0) rfl zd_3_3_42 ?_
              refine zz_getr (kd := 0) (z := ((zz_rf 3 p0 + 1 : Nat) : Int)) zd_3_3_43 zf_Compiler_39 (zT_k3 (by omega)) rfl (zN_k3 hn (by omega)) (zE_k3a G_S0 (by omega)) (Int.natCast_nonneg _) (zz_rf 3 p0 + 1) (Int.toNat_natCast _) ?_
              refine zz_iload_n (x := p1) rfl zd_3_3_46 ?_
              refine zz_aald (kd := 4) (z := 12 * p0 + p1) zd_3_3_47 (zT_k3a (by omega)) rfl (zN_k3a hn (by omega)) (by decide) (by omega) (zE_lay G_S0 (by omega) (by omega)) (by omega) (zz_rf 6 (12 * p0 + p1)) rfl ?_
              refine zz_putr (kd := 4) (12 * p0 + p1) zd_3_3_48 zf_Compiler_51 zT_1076 rfl (zz_ltn hn rfl) (by omega) rfl (fun _ => rfl) (fun _ => rfl) (fun S24 qS24 => ?_)
              have G_S24 := zz_G.put G_S0 qS24 (-1) 23 rfl (by omega)
              have F_S24 := zz_fr.puts F_S0 qS24 rfl
              refine zz_aload_n (x := 1076) rfl zd_3_3_51 ?_
              refine zz_aload_n (x := zz_rf 3 p0) rfl zd_3_3_52 ?_
              refine zz_getr (kd := 0) (z := ((zz_rf 3 p0 + 1 : Nat) : Int)) zd_3_3_53 zf_Compiler_39 (zT_k3 (by omega)) rfl (zN_k3 hn (by omega)) (zE_k3a G_S24 (by omega)) (Int.natCast_nonneg _) (zz_rf 3 p0 + 1) (Int.toNat_natCast _) ?_
              refine zz_aload_n (x := 1076) rfl zd_3_3_56 ?_
              refine zz_getr (kd := 4) (z := 12 * p0 + p1) zd_3_3_57 zf_Compiler_51 zT_1076 rfl (zz_ltn hn rfl) (zz_rs qS24) (by omega) (zz_rf 6 (12 * p0 + p1)) rfl ?_
              refine zz_geti (z := S0 (zz_rf 6 (12 * p0 + p1)) 1) zd_3_3_60 zf_Compiler_43 (zT_k6 (by omega)) rfl (zN_k6 hn (by omega)) (zz_ro qS24 (fun h => absurd h.2 (by decide)) rfl) ?_
              refine zz_aald (kd := 4) (z := 12 * p0 + (S0 (zz_rf 6 (12 * p0 + p1)) 1)) zd_3_3_63 (zT_k3a (by omega)) rfl (zN_k3a hn (by omega)) (by decide) (by omega) (zE_lay G_S24 (by omega) (by omega)) (by omega) (zz_rf 6 (12 * p0 + (S0 (zz_rf 6 (12 * p0 + p1)) 1))) rfl ?_
              refine zz_putr (kd := 4) (12 * p0 + (S0 (zz_rf 6 (12 * p0 + p1)) 1)) zd_3_3_64 zf_Compiler_55 zT_1076 rfl (zz_ltn hn rfl) (by omega) rfl (fun _ => rfl) (fun _ => rfl) (fun S25 qS25 => ?_)
              have G_S25 := zz_G.put G_S24 qS25 (-1) 23 rfl (by omega)
              have F_S25 := zz_fr.puts F_S24 qS25 rfl
              refine zz_aload_n (x := 1076) rfl zd_3_3_67 ?_
              refine zz_aload_n (x := zz_rf 3 p0) rfl zd_3_3_68 ?_
              refine zz_getr (kd := 0) (z := ((zz_rf 3 p0 + 1 : Nat) : Int)) zd_3_3_69 zf_Compiler_39 (zT_k3 (by omega)) rfl (zN_k3 hn (by omega)) (zE_k3a G_S25 (by omega)) (Int.natCast_nonneg _) (zz_rf 3 p0 + 1) (Int.toNat_natCast _) ?_
              refine zz_aload_n (x := 1076) rfl zd_3_3_72 ?_
              refine zz_getr (kd := 4) (z := 12 * p0 + p1) zd_3_3_73 zf_Compiler_51 zT_1076 rfl (zz_ltn hn rfl) (zz_ro qS25 (fun h => absurd h.2 (by decide)) (zz_rs qS24)) (by omega) (zz_rf 6 (12 * p0 + p1)) rfl ?_
              refine zz_geti (z := S0 (zz_rf 6 (12 * p0 + p1)) 2) zd_3_3_76 zf_Compiler_48 (zT_k6 (by omega)) rfl (zN_k6 hn (by omega)) (zz_ro qS25 (fun h => absurd h.2 (by decide)) (zz_ro qS24 (fun h => absurd h.2 (by decide)) rfl)) ?_
              refine zz_aald (kd := 4) (z := 12 * p0 + (S0 (zz_rf 6 (12 * p0 + p1)) 2)) zd_3_3_79 (zT_k3a (by omega)) rfl (zN_k3a hn (by omega)) (by decide) (by omega) (zE_lay G_S25 (by omega) (by omega)) (by omega) (zz_rf 6 (12 * p0 + (S0 (zz_rf 6 (12 * p0 + p1)) 2))) rfl ?_
              refine zz_putr (kd := 4) (12 * p0 + (S0 (zz_rf 6 (12 * p0 + p1)) 2)) zd_3_3_80 zf_Compiler_58 zT_1076 rfl (zz_ltn hn rfl) (by omega) rfl (fun _ => rfl) (fun _ => rfl) (fun S26 qS26 => ?_)
              have G_S26 := zz_G.put G_S25 qS26 (-1) 23 rfl (by omega)
              have F_S26 := zz_fr.puts F_S25 qS26 rfl
              refine zz_aload_n (x := 1076) rfl zd_3_3_83 ?_
              refine zz_getr (kd := 4) (z := 12 * p0 + p1) zd_3_3_84 zf_Compiler_51 zT_1076 rfl (zz_ltn hn rfl) (zz_ro qS26 (fun h => absurd h.2 (by decide)) (zz_ro qS25 (fun h => absurd h.2 (by decide)) (zz_rs qS24))) (by omega) (zz_rf 6 (12 * p0 + p1)) rfl ?_
              have g27 := zz_G.r G_S0 (zz_rf 6 (12 * p0 + p1)) 0 (-2147483648) 2147483647 (zR_k6_0 (by omega)) (zB_k6 (by omega))
              refine zz_geti (z := S0 (zz_rf 6 (12 * p0 + p1)) 0) zd_3_3_87 zf_Compiler_61 (zT_k6 (by omega)) rfl (zN_k6 hn (by omega)) (zz_ro qS26 (fun h => absurd h.2 (by decide)) (zz_ro qS25 (fun h => absurd h.2 (by decide)) (zz_ro qS24 (fun h => absurd h.2 (by decide)) rfl))) ?_
              refine zz_iconst zd_3_3_90 ?_
              refine zz_icmp_ne (by omega) (by omega) zd_3_3_91 (fun c28 => ?_) (fun c28 => ?_)
              · refine zz_iconst zd_3_3_98 ?_
                refine zz_istore_n [some (.ref 1076), some (.ref (zz_rf 3 p0)), some (zi p1), some (zi 0)] zd_3_3_99 (by decide) rfl ?_
                refine zz_iload_n (x := 0) rfl zd_3_3_100 ?_
                refine zz_if_eq (by omega) zd_3_3_101 (fun c29 => ?_) (fun c29 => ?_)
                · refine zz_aload_n (x := 1076) rfl zd_3_3_108 ?_
                  refine zz_getr (kd := 4) (z := 12 * p0 + p1) zd_3_3_109 zf_Compiler_51 zT_1076 rfl (zz_ltn hn rfl) (zz_ro qS26 (fun h => absurd h.2 (by decide)) (zz_ro qS25 (fun h => absurd h.2 (by decide)) (zz_rs qS24))) (by omega) (zz_rf 6 (12 * p0 + p1)) rfl ?_
                  have g30 := zz_G.r G_S0 (zz_rf 6 (12 * p0 + p1)) 10 (-2147483648) 2147483647 (zR_k6_10 (by omega)) (zB_k6 (by omega))
                  refine zz_geti (z := S0 (zz_rf 6 (12 * p0 + p1)) 10) zd_3_3_112 zf_Compiler_64 (zT_k6 (by omega)) rfl (zN_k6 hn (by omega)) (zz_ro qS26 (fun h => absurd h.2 (by decide)) (zz_ro qS25 (fun h => absurd h.2 (by decide)) (zz_ro qS24 (fun h => absurd h.2 (by decide)) rfl))) ?_
                  refine zz_istore [some (.ref 1076), some (.ref (zz_rf 3 p0)), some (zi p1), some (zi 0), some (zi (S0 (zz_rf 6 (12 * p0 + p1)) 10))] zd_3_3_115 (by decide) rfl ?_
                  refine zz_iload_n (x := 0) rfl zd_3_3_117 ?_
                  refine zz_if_eq (by omega) zd_3_3_118 (fun c31 => ?_) (fun c31 => ?_)
                  · refine zz_aload_n (x := 1076) rfl zd_3_3_139 ?_
                    refine zz_getr (kd := 4) (z := 12 * p0 + p1) zd_3_3_140 zf_Compiler_51 zT_1076 rfl (zz_ltn hn rfl) (zz_ro qS26 (fun h => absurd h.2 (by decide)) (zz_ro qS25 (fun h => absurd h.2 (by decide)) (zz_rs qS24))) (by omega) (zz_rf 6 (12 * p0 + p1)) rfl ?_
                    have g32 := zz_G.r G_S0 (zz_rf 6 (12 * p0 + p1)) 11 (-2147483648) 2147483647 (zR_k6_11 (by omega)) (zB_k6 (by omega))
                    refine zz_geti (z := S0 (zz_rf 6 (12 * p0 + p1)) 11) zd_3_3_143 zf_Compiler_67 (zT_k6 (by omega)) rfl (zN_k6 hn (by omega)) (zz_ro qS26 (fun h => absurd h.2 (by decide)) (zz_ro qS25 (fun h => absurd h.2 (by decide)) (zz_ro qS24 (fun h => absurd h.2 (by decide)) rfl))) ?_
                    refine zz_istore [some (.ref 1076), some (.ref (zz_rf 3 p0)), some (zi p1), some (zi 0), some (zi (S0 (zz_rf 6 (12 * p0 + p1)) 10)), some (zi (S0 (zz_rf 6 (12 * p0 + p1)) 11))] zd_3_3_146 (by decide) rfl ?_
                    refine zz_sipush (by decide) zd_3_3_148 ?_
                    refine zz_aload_n (x := 1076) rfl zd_3_3_151 ?_
                    have g33 := zz_G.r G_S0 1076 2 2 8 rfl rfl
                    refine zz_geti (z := S0 1076 2) zd_3_3_152 zf_Compiler_21 zT_1076 rfl (zz_ltn hn rfl) (zz_ro qS26 (fun h => absurd h.2 (by decide)) (zz_ro qS25 (fun h => absurd h.2 (by decide)) (zz_ro qS24 (fun h => absurd h.2 (by decide)) rfl))) ?_
                    refine zz_idiv (by omega) (by omega) zd_3_3_155 (fun v34 hv34 av34 bv34 cv34 => ?_)
                    have m35 := zz_divb (by omega) (by omega) av34
                    have dlv34 := zz_divl 128 8 16 (by omega) (by decide) (by omega) (by decide) av34 (by decide)
                    have dcv34 := zz_divc 128 2 64 (by omega) (by omega) (by decide) (by decide) av34 (by decide)
                    refine zz_bipush (by decide) zd_3_3_156 ?_
                    refine zz_mmin (by omega) (by omega) zd_3_3_158 zm_Compiler_24 ⟨Nat.le_of_ble_eq_true rfl, Nat.le_of_ble_eq_true rfl⟩ (Nat.zero_le _) (Nat.zero_le _) (fun v36 hv36 => ?_)
                    refine zz_istore [some (.ref 1076), some (.ref (zz_rf 3 p0)), some (zi p1), some (zi 0), some (zi (S0 (zz_rf 6 (12 * p0 + p1)) 10)), some (zi (S0 (zz_rf 6 (12 * p0 + p1)) 11)), some (zi v36)] zd_3_3_161 (by decide) rfl ?_
                    refine zz_aload_n (x := 1076) rfl zd_3_3_163 ?_
                    refine zz_iconst zd_3_3_164 ?_
                    refine zz_puti zd_3_3_165 zf_Compiler_70 zT_1076 rfl (zz_ltn hn rfl) (fun S37 qS37 => ?_)
                    have G_S37 := zz_G.put G_S26 qS37 (-2147483648) 2147483647 rfl (by omega)
                    have F_S37 := zz_fr.puts F_S26 qS37 rfl
                    refine zz_aload_n (x := 1076) rfl zd_3_3_168 ?_
                    refine zz_iconst zd_3_3_169 ?_
                    refine zz_puti zd_3_3_170 zf_Compiler_73 zT_1076 rfl (zz_ltn hn rfl) (fun S38 qS38 => ?_)
                    have G_S38 := zz_G.put G_S37 qS38 (-2147483648) 2147483647 rfl (by omega)
                    have F_S38 := zz_fr.puts F_S37 qS38 rfl
                    refine zz_aload_n (x := 1076) rfl zd_3_3_173 ?_
                    refine zz_iconst zd_3_3_174 ?_
                    refine zz_puti zd_3_3_175 zf_Compiler_76 zT_1076 rfl (zz_ltn hn rfl) (fun S39 qS39 => ?_)
                    have G_S39 := zz_G.put G_S38 qS39 (-2147483648) 2147483647 rfl (by omega)
                    have F_S39 := zz_fr.puts F_S38 qS39 rfl
                    have e40 : S39 1076 3 = 12 * p0 + p1 := (zz_ro qS39 (fun h => absurd h.2 (by decide)) (zz_ro qS38 (fun h => absurd h.2 (by decide)) (zz_ro qS37 (fun h => absurd h.2 (by decide)) (zz_ro qS26 (fun h => absurd h.2 (by decide)) (zz_ro qS25 (fun h => absurd h.2 (by decide)) (zz_rs qS24))))))
                    have e41 : S39 1076 4 = 12 * p0 + (S0 (zz_rf 6 (12 * p0 + p1)) 1) := (zz_ro qS39 (fun h => absurd h.2 (by decide)) (zz_ro qS38 (fun h => absurd h.2 (by decide)) (zz_ro qS37 (fun h => absurd h.2 (by decide)) (zz_ro qS26 (fun h => absurd h.2 (by decide)) (zz_rs qS25)))))
                    have e42 : S39 1076 5 = 12 * p0 + (S0 (zz_rf 6 (12 * p0 + p1)) 2) := (zz_ro qS39 (fun h => absurd h.2 (by decide)) (zz_ro qS38 (fun h => absurd h.2 (by decide)) (zz_ro qS37 (fun h => absurd h.2 (by decide)) (zz_rs qS26))))
                    have g43 := zz_G.r G_S0 1076 1 0 1000000 rfl rfl
                    have e44 : S39 1076 1 = S0 1076 1 := (zz_ro qS39 (fun h => absurd h.2 (by decide)) (zz_ro qS38 (fun h => absurd h.2 (by decide)) (zz_ro qS37 (fun h => absurd h.2 (by decide)) (zz_ro qS26 (fun h => absurd h.2 (by decide)) (zz_ro qS25 (fun h => absurd h.2 (by decide)) (zz_ro qS24 (fun h => absurd h.2 (by decide)) rfl))))))
                    have e45 : S39 1076 7 = 0 := (zz_rs qS39)
                    refine zz_less (ls1 := [some (.ref 1076), none, none, none, some (zi (S0 (zz_rf 6 (12 * p0 + p1)) 10)), some (zi (S0 (zz_rf 6 (12 * p0 + p1)) 11)), some (zi v36)]) ⟨rfl, ⟨rfl, ⟨rfl, ⟨rfl, trivial⟩⟩⟩⟩ ?_
                    exact k178 (S0 (zz_rf 6 (12 * p0 + p1)) 10) (S0 (zz_rf 6 (12 * p0 + p1)) 11) v36 S39 G_S39 F_S39 (by omega) (by omega) (by omega) (by omega) (by omega) (by omega) (by omega) (by omega) (by omega) (by omega) (by omega) (by omega)
                  · exfalso; omega
                · exfalso; omega
              · refine zz_iconst zd_3_3_94 ?_
                refine zz_goto zd_3_3_95 ?_
                refine zz_istore_n [some (.ref 1076), some (.ref (zz_rf 3 p0)), some (zi p1), some (zi 1)] zd_3_3_99 (by decide) rfl ?_
                refine zz_iload_n (x := 1) rfl zd_3_3_100 ?_
                refine zz_if_eq (by omega) zd_3_3_101 (fun c46 => ?_) (fun c46 => ?_)
                · exfalso; omega
                · refine zz_iconst zd_3_3_104 ?_
                  refine zz_goto zd_3_3_105 ?_
                  refine zz_istore [some (.ref 1076), some (.ref (zz_rf 3 p0)), some (zi p1), some (zi 1), some (zi 1)] zd_3_3_115 (by decide) rfl ?_
                  refine zz_iload_n (x := 1) rfl zd_3_3_117 ?_
                  refine zz_if_eq (by omega) zd_3_3_118 (fun c47 => ?_) (fun c47 => ?_)
                  · exfalso; omega
                  · refine zz_aload_n (x := 1076) rfl zd_3_3_121 ?_
                    refine zz_getr (kd := 4) (z := 12 * p0 + p1) zd_3_3_122 zf_Compiler_51 zT_1076 rfl (zz_ltn hn rfl) (zz_ro qS26 (fun h => absurd h.2 (by decide)) (zz_ro qS25 (fun h => absurd h.2 (by decide)) (zz_rs qS24))) (by omega) (zz_rf 6 (12 * p0 + p1)) rfl ?_
                    have g48 := zz_G.r G_S0 (zz_rf 6 (12 * p0 + p1)) 10 (-2147483648) 2147483647 (zR_k6_10 (by omega)) (zB_k6 (by omega))
                    refine zz_geti (z := S0 (zz_rf 6 (12 * p0 + p1)) 10) zd_3_3_125 zf_Compiler_64 (zT_k6 (by omega)) rfl (zN_k6 hn (by omega)) (zz_ro qS26 (fun h => absurd h.2 (by decide)) (zz_ro qS25 (fun h => absurd h.2 (by decide)) (zz_ro qS24 (fun h => absurd h.2 (by decide)) rfl))) ?_
                    refine zz_aload_n (x := 1076) rfl zd_3_3_128 ?_
                    refine zz_getr (kd := 4) (z := 12 * p0 + p1) zd_3_3_129 zf_Compiler_51 zT_1076 rfl (zz_ltn hn rfl) (zz_ro qS26 (fun h => absurd h.2 (by decide)) (zz_ro qS25 (fun h => absurd h.2 (by decide)) (zz_rs qS24))) (by omega) (zz_rf 6 (12 * p0 + p1)) rfl ?_
                    have g49 := zz_G.r G_S0 (zz_rf 6 (12 * p0 + p1)) 11 (-2147483648) 2147483647 (zR_k6_11 (by omega)) (zB_k6 (by omega))
                    refine zz_geti (z := S0 (zz_rf 6 (12 * p0 + p1)) 11) zd_3_3_132 zf_Compiler_67 (zT_k6 (by omega)) rfl (zN_k6 hn (by omega)) (zz_ro qS26 (fun h => absurd h.2 (by decide)) (zz_ro qS25 (fun h => absurd h.2 (by decide)) (zz_ro qS24 (fun h => absurd h.2 (by decide)) rfl))) ?_
                    refine zz_imul zd_3_3_135 ?_
                    refine zz_nrm (fun v50 hv50 ev50 => ?_)
                    refine zz_goto zd_3_3_136 ?_
                    refine zz_istore [some (.ref 1076), some (.ref (zz_rf 3 p0)), some (zi p1), some (zi 1), some (zi 1), some (zi v50)] zd_3_3_146 (by decide) rfl ?_
                    refine zz_sipush (by decide) zd_3_3_148 ?_
                    refine zz_aload_n (x := 1076) rfl zd_3_3_151 ?_
                    have g51 := zz_G.r G_S0 1076 2 2 8 rfl rfl
                    refine zz_geti (z := S0 1076 2) zd_3_3_152 zf_Compiler_21 zT_1076 rfl (zz_ltn hn rfl) (zz_ro qS26 (fun h => absurd h.2 (by decide)) (zz_ro qS25 (fun h => absurd h.2 (by decide)) (zz_ro qS24 (fun h => absurd h.2 (by decide)) rfl))) ?_
                    refine zz_idiv (by omega) (by omega) zd_3_3_155 (fun v52 hv52 av52 bv52 cv52 => ?_)
                    have m53 := zz_divb (by omega) (by omega) av52
                    have dlv52 := zz_divl 128 8 16 (by omega) (by decide) (by omega) (by decide) av52 (by decide)
                    have dcv52 := zz_divc 128 2 64 (by omega) (by omega) (by decide) (by decide) av52 (by decide)
                    refine zz_bipush (by decide) zd_3_3_156 ?_
                    refine zz_mmin (by omega) (by omega) zd_3_3_158 zm_Compiler_24 ⟨Nat.le_of_ble_eq_true rfl, Nat.le_of_ble_eq_true rfl⟩ (Nat.zero_le _) (Nat.zero_le _) (fun v54 hv54 => ?_)
                    refine zz_istore [some (.ref 1076), some (.ref (zz_rf 3 p0)), some (zi p1), some (zi 1), some (zi 1), some (zi v50), some (zi v54)] zd_3_3_161 (by decide) rfl ?_
                    refine zz_aload_n (x := 1076) rfl zd_3_3_163 ?_
                    refine zz_iconst zd_3_3_164 ?_
                    refine zz_puti zd_3_3_165 zf_Compiler_70 zT_1076 rfl (zz_ltn hn rfl) (fun S55 qS55 => ?_)
                    have G_S55 := zz_G.put G_S26 qS55 (-2147483648) 2147483647 rfl (by omega)
                    have F_S55 := zz_fr.puts F_S26 qS55 rfl
                    refine zz_aload_n (x := 1076) rfl zd_3_3_168 ?_
                    refine zz_iconst zd_3_3_169 ?_
                    refine zz_puti zd_3_3_170 zf_Compiler_73 zT_1076 rfl (zz_ltn hn rfl) (fun S56 qS56 => ?_)
                    have G_S56 := zz_G.put G_S55 qS56 (-2147483648) 2147483647 rfl (by omega)
                    have F_S56 := zz_fr.puts F_S55 qS56 rfl
                    refine zz_aload_n (x := 1076) rfl zd_3_3_173 ?_
                    refine zz_iconst zd_3_3_174 ?_
                    refine zz_puti zd_3_3_175 zf_Compiler_76 zT_1076 rfl (zz_ltn hn rfl) (fun S57 qS57 => ?_)
                    have G_S57 := zz_G.put G_S56 qS57 (-2147483648) 2147483647 rfl (by omega)
                    have F_S57 := zz_fr.puts F_S56 qS57 rfl
                    have e58 : S57 1076 3 = 12 * p0 + p1 := (zz_ro qS57 (fun h => absurd h.2 (by decide)) (zz_ro qS56 (fun h => absurd h.2 (by decide)) (zz_ro qS55 (fun h => absurd h.2 (by decide)) (zz_ro qS26 (fun h => absurd h.2 (by decide)) (zz_ro qS25 (fun h => absurd h.2 (by decide)) (zz_rs qS24))))))
                    have e59 : S57 1076 4 = 12 * p0 + (S0 (zz_rf 6 (12 * p0 + p1)) 1) := (zz_ro qS57 (fun h => absurd h.2 (by decide)) (zz_ro qS56 (fun h => absurd h.2 (by decide)) (zz_ro qS55 (fun h => absurd h.2 (by decide)) (zz_ro qS26 (fun h => absurd h.2 (by decide)) (zz_rs qS25)))))
                    have e60 : S57 1076 5 = 12 * p0 + (S0 (zz_rf 6 (12 * p0 + p1)) 2) := (zz_ro qS57 (fun h => absurd h.2 (by decide)) (zz_ro qS56 (fun h => absurd h.2 (by decide)) (zz_ro qS55 (fun h => absurd h.2 (by decide)) (zz_rs qS26))))
                    have g61 := zz_G.r G_S0 1076 1 0 1000000 rfl rfl
                    have e62 : S57 1076 1 = S0 1076 1 := (zz_ro qS57 (fun h => absurd h.2 (by decide)) (zz_ro qS56 (fun h => absurd h.2 (by decide)) (zz_ro qS55 (fun h => absurd h.2 (by decide)) (zz_ro qS26 (fun h => absurd h.2 (by decide)) (zz_ro qS25 (fun h => absurd h.2 (by decide)) (zz_ro qS24 (fun h => absurd h.2 (by decide)) rfl))))))
                    have e63 : S57 1076 7 = 0 := (zz_rs qS57)
                    refine zz_less (ls1 := [some (.ref 1076), none, none, none, some (zi 1), some (zi v50), some (zi v54)]) ⟨rfl, ⟨rfl, ⟨rfl, ⟨rfl, trivial⟩⟩⟩⟩ ?_
                    exact k178 1 v50 v54 S57 G_S57 F_S57 (by omega) (by omega) (by omega) (by omega) (by omega) (by omega) (by omega) (by omega) (by omega) (by omega) (by omega) (by omega)
            · exfalso; omega
theorem zk_TF_281 : mm_Vl "TensorForge" 281 9 2 zy_makeLayer_3_3 := ⟨zyw_makeLayer_3_3, (R_Compiler, F_Compiler, 17), rfl, mm_tb_1 1411 (by decide +kernel) rfl, mm_tb_1 1412 (by decide +kernel) rfl, mm_tb_1 1413 (by decide +kernel) rfl⟩
theorem zg_1_23_43 : zq_at zy_compile_1_23.2.1 43 132 ∧ zq_at zy_compile_1_23.2.1 44 1 ∧ zq_at zy_compile_1_23.2.1 45 1 ∧ zq_at zy_compile_1_23.2.1 46 167 ∧ zq_at zy_compile_1_23.2.1 47 255 ∧ zq_at zy_compile_1_23.2.1 48 230 := by decide +kernel
theorem zd_1_23_43 : zz_D zy_compile_1_23 43 (.iinc 1 1) 3 46 := ⟨zq_132 zg_1_23_43.1 zg_1_23_43.2.1 zg_1_23_43.2.2.1 (by decide), rfl⟩
theorem zd_1_23_46 : zz_B zy_compile_1_23 46 Instr.goto 20 49 := ⟨(-26), zq_167 zg_1_23_43.2.2.2.1 zg_1_23_43.2.2.2.2.1 zg_1_23_43.2.2.2.2.2 (by decide), rfl, rfl⟩
-- TensorForge compile ()I
abbrev zr_compile_1_23 : Room := { frames := 6, cells := 1, slots := 6, locals := 104 }
def zp_compile_1_23  (S0 : zz_S) : Int → zz_S → Prop := fun r S => zz_G S ∧ zz_fr [(1000, 9), (1000, 10), (1000, 11), (1076, 0), (1076, 1), (1076, 2), (1076, 3), (1076, 4), (1076, 5), (1076, 6), (1076, 7), (1076, 8), (1076, 9), (1076, 10), (1076, 11), (1076, 12), (1076, 13), (1076, 14), (1076, 15), (1076, 16)] [1029, 1030] (fun _ _ => False) S0 S ∧ ((-2147483648) ≤ r ∧ r ≤ 2147483647) ∧ (zz_Hc S)
def zx_compile_1_23  (S0 : zz_S) : Nat → zz_S → Prop := fun i S => zz_G S ∧ zz_fr [(1000, 9), (1000, 10), (1000, 11), (1076, 0), (1076, 1), (1076, 2), (1076, 3), (1076, 4), (1076, 5), (1076, 6), (1076, 7), (1076, 8), (1076, 9), (1076, 10), (1076, 11), (1076, 12), (1076, 13), (1076, 14), (1076, 15), (1076, 16)] [1029, 1030] (fun _ _ => False) S0 S ∧ (i < 4) ∧ (i = 2) ∧ (zz_Hc S)
theorem zb_compile_1_23_20 {g : mm_G} {l : Launch}  (S0 : zz_S) (n : Nat) (hn : zz_end ≤ n) (hfl : l.flags = flags0) (G_S0 : zz_G S0) (H_S0 : zz_Hc S0) (x1 : Int) (S : zz_S) (G_S : zz_G S) (F_S : zz_fr [(1000, 9), (1000, 10), (1000, 11), (1076, 0), (1076, 1), (1076, 2), (1076, 3), (1076, 4), (1076, 5), (1076, 6), (1076, 7), (1076, 8), (1076, 9), (1076, 10), (1076, 11), (1076, 12), (1076, 13), (1076, 14), (1076, 15), (1076, 16)] [1029, 1030] (fun _ _ => False) S0 S) (i20_0 : 1 ≤ x1 ∧ x1 ≤ 11) (i20_1 : S 1076 1 ≤ 3300 + 5 * x1) (i20_2 : 0 ≤ S 1076 1) (i20_3 : zz_Hc S) (R : Nat) (hR : (2147483647 - x1).toNat = R) (k20 : ∀ (x1 : Int) (S : zz_S), zz_G S → zz_fr [(1000, 9), (1000, 10), (1000, 11), (1076, 0), (1076, 1), (1076, 2), (1076, 3), (1076, 4), (1076, 5), (1076, 6), (1076, 7), (1076, 8), (1076, 9), (1076, 10), (1076, 11), (1076, 12), (1076, 13), (1076, 14), (1076, 15), (1076, 16)] [1029, 1030] (fun _ _ => False) S0 S → (1 ≤ x1 ∧ x1 ≤ 11) → (S 1076 1 ≤ 3300 + 5 * x1) → (0 ≤ S 1076 1) → (zz_Hc S) → (2147483647 - x1).toNat < R → zz_E g l zy_compile_1_23 zr_compile_1_23 (zz_XI n (zp_compile_1_23  S0) (zx_compile_1_23  S0)) S n 20 [some (.ref 1000), some (zi x1)] [] 0 0) : zz_E g l zy_compile_1_23 zr_compile_1_23 (zz_XI n (zp_compile_1_23  S0) (zx_compile_1_23  S0)) S n 20 [some (.ref 1000), some (zi x1)] [] 0 0 := by
  have H_S := i20_3
  refine zz_iload_n (x := x1) rfl zd_1_23_20 ?_
  refine zz_aload_n (x := 1000) rfl zd_1_23_21 ?_
  have g7 := zz_G.r G_S0 1000 7 0 1 rfl rfl
  refine zz_getr (kd := 1) (z := S0 1000 7) zd_1_23_22 zf_TF_10 zT_1000 rfl (zz_ltn hn rfl) (zz_rc F_S rfl rfl (fun h => h) rfl) (by omega) (zz_rf 3 (S0 1000 7)) rfl ?_
  have g8 := zz_G.r G_S0 (zz_rf 3 (S0 1000 7)) 1 1 11 (zR_k3_1 (by omega)) (zB_k3 (by omega))
  refine zz_geti (z := S0 (zz_rf 3 (S0 1000 7)) 1) zd_1_23_25 zf_TF_278 (zT_k3 (by omega)) rfl (zN_k3 hn (by omega)) (zz_rc F_S (zP_k3 (by omega) rfl) (zQ_k3 (by omega) rfl) (fun h => h) rfl) ?_
  refine zz_icmp_ge (by omega) (by omega) zd_1_23_28 (fun c9 => ?_) (fun c9 => ?_)
  · refine zz_aload_n (x := 1000) rfl zd_1_23_49 ?_
    refine zz_getr (kd := 0) (z := 1076) zd_1_23_50 zf_TF_76 zT_1000 rfl (zz_ltn hn rfl) (zz_G.eq G_S 1000 5 1076 rfl rfl) (by decide) 1076 rfl ?_
    have g10 := zz_G.r G_S 1076 1 0 1000000 rfl rfl
    refine zz_geti (z := S 1076 1) zd_1_23_53 zf_TF_285 zT_1076 rfl (zz_ltn hn rfl) rfl ?_
    refine zz_sipush (by decide) zd_1_23_56 ?_
    refine zz_icmp_le (by omega) (by omega) zd_1_23_59 (fun c11 => ?_) (fun c11 => ?_)
    · refine zz_aload_n (x := 1000) rfl zd_1_23_73 ?_
      refine zz_aload_n (x := 1000) rfl zd_1_23_74 ?_
      refine zz_getr (kd := 0) (z := 1076) zd_1_23_75 zf_TF_76 zT_1000 rfl (zz_ltn hn rfl) (zz_G.eq G_S 1000 5 1076 rfl rfl) (by decide) 1076 rfl ?_
      refine zz_geti (z := S 1076 1) zd_1_23_78 zf_TF_285 zT_1076 rfl (zz_ltn hn rfl) rfl ?_
      refine zz_callVV [zi (S 1076 1)] zd_1_23_81 zk_TF_169 zT_1000 (zz_ltn hn rfl) rfl rfl ⟨Nat.le_of_ble_eq_true rfl, Nat.le_of_ble_eq_true rfl⟩ ⟨rfl, rfl⟩ (Nat.zero_le _) (Nat.zero_le _) (zc_takeSpareWords_1_30 (S 1076 1) S n hn G_S (by omega)) (fun S12 hP => ?_)
      obtain ⟨G_S12, fS12⟩ := hP
      have F_S12 := zz_fr.trans F_S fS12 rfl zz_nv
      have H_S12 : zz_Hc S12 := zz_Hc.fr (q := 0) fS12 rfl rfl G_S (by decide) rfl (fun b j h => h.elim) H_S
      refine zz_aload_n (x := 1000) rfl zd_1_23_84 ?_
      have g14 := zz_G.r G_S12 1000 11 0 600 rfl rfl
      refine zz_geti (z := S12 1000 11) zd_1_23_85 zf_TF_26 zT_1000 rfl (zz_ltn hn rfl) rfl ?_
      exact zz_iret zd_1_23_88 rfl (Nat.le_of_ble_eq_true rfl) (Nat.le_of_ble_eq_true rfl) (Or.inl ⟨_, _, rfl, G_S12, F_S12, by omega, H_S12⟩)
    · exact zz_throwW (i := 2) hfl hn zt_1_23_62 zyw_compile_1_23 zxl_TF_126_286_130 (Nat.le_of_ble_eq_true rfl) (Nat.le_of_ble_eq_true rfl) ⟨Nat.le_of_ble_eq_true rfl, Nat.le_of_ble_eq_true rfl⟩ (Or.inr ⟨_, _, rfl, G_S, F_S, by omega, by omega, H_S⟩)
  · refine zz_aload_n (x := 1000) rfl zd_1_23_31 ?_
    refine zz_getr (kd := 0) (z := 1076) zd_1_23_32 zf_TF_76 zT_1000 rfl (zz_ltn hn rfl) (zz_G.eq G_S 1000 5 1076 rfl rfl) (by decide) 1076 rfl ?_
    refine zz_aload_n (x := 1000) rfl zd_1_23_35 ?_
    refine zz_getr (kd := 1) (z := S0 1000 7) zd_1_23_36 zf_TF_10 zT_1000 rfl (zz_ltn hn rfl) (zz_rc F_S rfl rfl (fun h => h) rfl) (by omega) (zz_rf 3 (S0 1000 7)) rfl ?_
    refine zz_iload_n (x := x1) rfl zd_1_23_39 ?_
    have g15 := zz_G.r G_S 1076 1 0 1000000 rfl rfl
    refine zz_callVV [.ref (zz_rf 3 (S0 1000 7)), zi x1] zd_1_23_40 zk_TF_281 zT_1076 (zz_ltn hn rfl) rfl rfl ⟨Nat.le_of_ble_eq_true rfl, Nat.le_of_ble_eq_true rfl⟩ ⟨rfl, rfl⟩ (Nat.zero_le _) (Nat.zero_le _) (zc_makeLayer_3_3 (S0 1000 7) x1 S n hn G_S (by omega) (by omega) H_S (by omega)) (fun S16 hP => ?_)
    obtain ⟨G_S16, fS16, o18⟩ := hP
    have F_S16 := zz_fr.trans F_S fS16 rfl zz_nv
    have H_S16 : zz_Hc S16 := zz_Hc.fr (q := 0) fS16 rfl rfl G_S (by decide) rfl (fun b j h => h.elim) H_S
    refine zz_iinc [some (.ref 1000), some (zi (x1 + 1))] zd_1_23_43 rfl rfl ?_
    refine zz_goto zd_1_23_46 ?_
    have g19 := zz_G.r G_S16 1076 1 0 1000000 rfl rfl
    refine zz_less (ls1 := [some (.ref 1000), some (zi (x1 + 1))]) ⟨rfl, ⟨rfl, trivial⟩⟩ ?_
    exact k20 (x1 + 1) S16 G_S16 F_S16 (by omega) (by omega) (by omega) H_S16 (by omega)
theorem zi_compile_1_23 {g : mm_G} {l : Launch}  (S0 : zz_S) (n : Nat) (hn : zz_end ≤ n) (hfl : l.flags = flags0) (G_S0 : zz_G S0) (H_S0 : zz_Hc S0) : ∀ N : Nat, (∀ (x1 : Int) (S : zz_S), zz_G S → zz_fr [(1000, 9), (1000, 10), (1000, 11), (1076, 0), (1076, 1), (1076, 2), (1076, 3), (1076, 4), (1076, 5), (1076, 6), (1076, 7), (1076, 8), (1076, 9), (1076, 10), (1076, 11), (1076, 12), (1076, 13), (1076, 14), (1076, 15), (1076, 16)] [1029, 1030] (fun _ _ => False) S0 S → (1 ≤ x1 ∧ x1 ≤ 11) → (S 1076 1 ≤ 3300 + 5 * x1) → (0 ≤ S 1076 1) → (zz_Hc S) → (2147483647 - x1).toNat < N → zz_E g l zy_compile_1_23 zr_compile_1_23 (zz_XI n (zp_compile_1_23  S0) (zx_compile_1_23  S0)) S n 20 [some (.ref 1000), some (zi x1)] [] 0 0) := by
  intro N
  induction N with
  | zero => exact fun x1 S _ _ _ _ _ _ h => absurd h (Nat.not_lt_zero _)
  | succ N ih =>
    exact fun x1 S a b j0 j1 j2 j3 hR => zb_compile_1_23_20  S0 n hn hfl G_S0 H_S0 x1 S a b j0 j1 j2 j3 _ rfl (fun x1 S a b j0 j1 j2 j3 h => ih x1 S a b j0 j1 j2 j3 (Nat.lt_of_lt_of_le h (Nat.le_of_lt_succ hR)))
theorem zc_compile_1_23 {g : mm_G} {l : Launch}  (S0 : zz_S) (n : Nat) (hn : zz_end ≤ n) (hfl : l.flags = flags0) (G_S0 : zz_G S0) (H_S0 : zz_Hc S0) : mm_Met g l zy_compile_1_23 zr_compile_1_23 [.ref 1000] (zz_M S0 n) n (zz_XI n (zp_compile_1_23  S0) (zx_compile_1_23  S0)) := by
  refine zz_enter (by decide) (Nat.le_of_ble_eq_true rfl) (zz_less (ls1 := [some (.ref 1000)]) ⟨rfl, trivial⟩ ?_)
  have F_S0 : zz_fr [(1000, 9), (1000, 10), (1000, 11), (1076, 0), (1076, 1), (1076, 2), (1076, 3), (1076, 4), (1076, 5), (1076, 6), (1076, 7), (1076, 8), (1076, 9), (1076, 10), (1076, 11), (1076, 12), (1076, 13), (1076, 14), (1076, 15), (1076, 16)] [1029, 1030] (fun _ _ => False) S0 S0 := zz_fr.refl
  have k20 : ∀ (x1 : Int) (S : zz_S), zz_G S → zz_fr [(1000, 9), (1000, 10), (1000, 11), (1076, 0), (1076, 1), (1076, 2), (1076, 3), (1076, 4), (1076, 5), (1076, 6), (1076, 7), (1076, 8), (1076, 9), (1076, 10), (1076, 11), (1076, 12), (1076, 13), (1076, 14), (1076, 15), (1076, 16)] [1029, 1030] (fun _ _ => False) S0 S → (1 ≤ x1 ∧ x1 ≤ 11) → (S 1076 1 ≤ 3300 + 5 * x1) → (0 ≤ S 1076 1) → (zz_Hc S) → zz_E g l zy_compile_1_23 zr_compile_1_23 (zz_XI n (zp_compile_1_23  S0) (zx_compile_1_23  S0)) S n 20 [some (.ref 1000), some (zi x1)] [] 0 0 := fun x1 S a b j0 j1 j2 j3 => (zi_compile_1_23 (g := g) (l := l)  S0 n hn hfl G_S0 H_S0 _) x1 S a b j0 j1 j2 j3 (Nat.lt_succ_self _)
  refine zz_aload_n (x := 1000) rfl zd_1_23_0 ?_
  refine zz_getr (kd := 0) (z := 1076) zd_1_23_1 zf_TF_76 zT_1000 rfl (zz_ltn hn rfl) (zz_G.eq G_S0 1000 5 1076 rfl rfl) (by decide) 1076 rfl ?_
  refine zz_aload_n (x := 1000) rfl zd_1_23_4 ?_
  refine zz_getr (kd := 0) (z := 1031) zd_1_23_5 zf_TF_33 zT_1000 rfl (zz_ltn hn rfl) (zz_G.eq G_S0 1000 0 1031 rfl rfl) (by decide) 1031 rfl ?_
  have g1 := zz_G.r G_S0 1031 6 2 8 rfl rfl
  refine zz_geti (z := S0 1031 6) zd_1_23_8 zf_TF_271 zT_1031 rfl (zz_ltn hn rfl) rfl ?_
  refine zz_aload_n (x := 1000) rfl zd_1_23_11 ?_
  have g2 := zz_G.r G_S0 1000 10 0 1 rfl rfl
  refine zz_getr (kd := 2) (z := S0 1000 10) zd_1_23_12 zf_TF_23 zT_1000 rfl (zz_ltn hn rfl) rfl (by omega) (zz_rf 4 (S0 1000 10)) rfl ?_
  refine zz_callVV [zi (S0 1031 6), .ref (zz_rf 4 (S0 1000 10))] zd_1_23_15 zk_TF_274 zT_1076 (zz_ltn hn rfl) rfl rfl ⟨Nat.le_of_ble_eq_true rfl, Nat.le_of_ble_eq_true rfl⟩ ⟨rfl, rfl⟩ (Nat.zero_le _) (Nat.zero_le _) (zc_open_3_2 (S0 1031 6) (S0 1000 10) S0 n hn G_S0 (by omega) (by omega)) (fun S3 hP => ?_)
  obtain ⟨G_S3, fS3, o5⟩ := hP
  have F_S3 := zz_fr.trans F_S0 fS3 rfl zz_nv
  have H_S3 : zz_Hc S3 := zz_Hc.fr (q := 0) fS3 rfl rfl G_S0 (by decide) rfl (fun b j h => h.elim) H_S0
  refine zz_iconst zd_1_23_18 ?_
  refine zz_istore_n [some (.ref 1000), some (zi 1)] zd_1_23_19 (by decide) rfl ?_
  have g6 := zz_G.r G_S3 1076 1 0 1000000 rfl rfl
  refine zz_less (ls1 := [some (.ref 1000), some (zi 1)]) ⟨rfl, ⟨rfl, trivial⟩⟩ ?_
  exact k20 1 S3 G_S3 F_S3 (by omega) (by omega) (by omega) H_S3
abbrev zy_reckon_1_24 : mm_Y := (⟨"TensorForge", "reckon", "()V"⟩, prog_1_method_24_code, 1, none)
theorem zyw_reckon_1_24 : mm_Yw zy_reckon_1_24 0 := ⟨mm_tb_1 853 (by decide +kernel) rfl, mm_tb_1 1 (by decide +kernel) rfl, ⟨by decide, by decide⟩, by decide +kernel⟩
theorem zf_TF_288 : mm_Fl "TensorForge" 288 3 0 (.array .byte) true := ⟨R_Machine, F_Machine, 14, t_Machine, rfl, i_Machine, by decide, mm_tb_1 185 (by decide +kernel) rfl, rfl, t_Machine_ok, n_Machine, rfl, by decide +kernel⟩
abbrev zy_settle_7_9 : mm_Y := (⟨"TensorForge$Network", "settle", "([B)V"⟩, prog_7_method_9_code, 4, none)
theorem zyw_settle_7_9 : mm_Yw zy_settle_7_9 1 := ⟨mm_tb_1 857 (by decide +kernel) rfl, mm_tb_1 2 (by decide +kernel) rfl, ⟨by decide, by decide⟩, by decide +kernel⟩
abbrev zy_fillCells_4_18 : mm_Y := (⟨"TensorForge$Layer", "fillCells", "([BLTensorForge$Layer;LTensorForge$Layer;)V"⟩, prog_4_method_18_code, 8, none)
theorem zyw_fillCells_4_18 : mm_Yw zy_fillCells_4_18 3 := ⟨mm_tb_1 865 (by decide +kernel) rfl, mm_tb_1 3 (by decide +kernel) rfl, ⟨by decide, by decide⟩, by decide +kernel⟩
theorem zk_Layer_75 : mm_Vl "TensorForge$Layer" 75 2 3 zy_cellAt_4_15 := ⟨zyw_cellAt_4_15, (R_Layer, F_Layer, 15), rfl, mm_tb_1 866 (by decide +kernel) rfl, mm_tb_1 867 (by decide +kernel) rfl, mm_tb_1 868 (by decide +kernel) rfl⟩
abbrev zy_sumOf_4_19 : mm_Y := (⟨"TensorForge$Layer", "sumOf", "([BLTensorForge$Layer;LTensorForge$Layer;III)I"⟩, prog_4_method_19_code, 7, (some .int))
theorem zyw_sumOf_4_19 : mm_Yw zy_sumOf_4_19 6 := ⟨mm_tb_1 873 (by decide +kernel) rfl, mm_tb_1 3 (by decide +kernel) rfl, ⟨by decide, by decide⟩, by decide +kernel⟩
abbrev zy_byteAt_4_17 : mm_Y := (⟨"TensorForge$Layer", "byteAt", "([BI)I"⟩, prog_4_method_17_code, 2, (some .int))
theorem zyw_byteAt_4_17 : mm_Yw zy_byteAt_4_17 2 := ⟨mm_tb_1 897 (by decide +kernel) rfl, mm_tb_1 3 (by decide +kernel) rfl, ⟨by decide, by decide⟩, by decide +kernel⟩
theorem zg_1_24_0 : zq_at zy_reckon_1_24.2.1 0 42 ∧ zq_at zy_reckon_1_24.2.1 1 180 ∧ zq_at zy_reckon_1_24.2.1 2 0 ∧ zq_at zy_reckon_1_24.2.1 3 10 ∧ zq_at zy_reckon_1_24.2.1 4 42 ∧ zq_at zy_reckon_1_24.2.1 5 180 ∧ zq_at zy_reckon_1_24.2.1 6 0 ∧ zq_at zy_reckon_1_24.2.1 7 33 ∧ zq_at zy_reckon_1_24.2.1 8 180 ∧ zq_at zy_reckon_1_24.2.1 9 1 ∧ zq_at zy_reckon_1_24.2.1 10 32 ∧ zq_at zy_reckon_1_24.2.1 11 182 ∧ zq_at zy_reckon_1_24.2.1 12 1 ∧ zq_at zy_reckon_1_24.2.1 13 36 := by decide +kernel
theorem zd_1_24_0 : zz_D zy_reckon_1_24 0 (.aload_n 0) 1 1 := ⟨zq_42 zg_1_24_0.1, rfl⟩
theorem zd_1_24_1 : zz_D zy_reckon_1_24 1 (.getfield 10) 3 4 := ⟨zq_180 zg_1_24_0.2.1 zg_1_24_0.2.2.1 zg_1_24_0.2.2.2.1 rfl, rfl⟩
theorem zd_1_24_4 : zz_D zy_reckon_1_24 4 (.aload_n 0) 1 5 := ⟨zq_42 zg_1_24_0.2.2.2.2.1, rfl⟩
theorem zd_1_24_5 : zz_D zy_reckon_1_24 5 (.getfield 33) 3 8 := ⟨zq_180 zg_1_24_0.2.2.2.2.2.1 zg_1_24_0.2.2.2.2.2.2.1 zg_1_24_0.2.2.2.2.2.2.2.1 rfl, rfl⟩
theorem zd_1_24_8 : zz_D zy_reckon_1_24 8 (.getfield 288) 3 11 := ⟨zq_180 zg_1_24_0.2.2.2.2.2.2.2.2.1 zg_1_24_0.2.2.2.2.2.2.2.2.2.1 zg_1_24_0.2.2.2.2.2.2.2.2.2.2.1 rfl, rfl⟩
theorem zd_1_24_11 : zz_D zy_reckon_1_24 11 (.invokevirtual 292) 3 14 := ⟨zq_182 zg_1_24_0.2.2.2.2.2.2.2.2.2.2.2.1 zg_1_24_0.2.2.2.2.2.2.2.2.2.2.2.2.1 zg_1_24_0.2.2.2.2.2.2.2.2.2.2.2.2.2 rfl, rfl⟩
theorem zg_7_9_0 : zq_at zy_settle_7_9.2.1 0 4 ∧ zq_at zy_settle_7_9.2.1 1 61 ∧ zq_at zy_settle_7_9.2.1 2 28 ∧ zq_at zy_settle_7_9.2.1 3 42 ∧ zq_at zy_settle_7_9.2.1 4 180 ∧ zq_at zy_settle_7_9.2.1 5 0 ∧ zq_at zy_settle_7_9.2.1 6 16 ∧ zq_at zy_settle_7_9.2.1 7 162 ∧ zq_at zy_settle_7_9.2.1 8 0 ∧ zq_at zy_settle_7_9.2.1 9 61 ∧ zq_at zy_settle_7_9.2.1 68 177 ∧ zq_at zy_settle_7_9.2.1 10 42 ∧ zq_at zy_settle_7_9.2.1 11 180 ∧ zq_at zy_settle_7_9.2.1 12 0 ∧ zq_at zy_settle_7_9.2.1 13 11 ∧ zq_at zy_settle_7_9.2.1 14 28 ∧ zq_at zy_settle_7_9.2.1 15 50 ∧ zq_at zy_settle_7_9.2.1 16 78 ∧ zq_at zy_settle_7_9.2.1 17 42 ∧ zq_at zy_settle_7_9.2.1 18 45 ∧ zq_at zy_settle_7_9.2.1 19 180 ∧ zq_at zy_settle_7_9.2.1 20 0 ∧ zq_at zy_settle_7_9.2.1 21 38 := by decide +kernel
theorem zd_7_9_0 : zz_D zy_settle_7_9 0 (.iconst 1) 1 1 := ⟨zq_4 zg_7_9_0.1, rfl⟩
theorem zd_7_9_1 : zz_D zy_settle_7_9 1 (.istore_n 2) 1 2 := ⟨zq_61 zg_7_9_0.2.1, rfl⟩
theorem zd_7_9_2 : zz_D zy_settle_7_9 2 (.iload_n 2) 1 3 := ⟨zq_28 zg_7_9_0.2.2.1, rfl⟩
theorem zd_7_9_3 : zz_D zy_settle_7_9 3 (.aload_n 0) 1 4 := ⟨zq_42 zg_7_9_0.2.2.2.1, rfl⟩
theorem zd_7_9_4 : zz_D zy_settle_7_9 4 (.getfield 16) 3 7 := ⟨zq_180 zg_7_9_0.2.2.2.2.1 zg_7_9_0.2.2.2.2.2.1 zg_7_9_0.2.2.2.2.2.2.1 rfl, rfl⟩
theorem zd_7_9_7 : zz_B zy_settle_7_9 7 (Instr.if_icmp .ge) 68 10 := ⟨61, zq_162 zg_7_9_0.2.2.2.2.2.2.2.1 zg_7_9_0.2.2.2.2.2.2.2.2.1 zg_7_9_0.2.2.2.2.2.2.2.2.2.1 (by decide), rfl, rfl⟩
theorem zd_7_9_68 : zz_D zy_settle_7_9 68 (.return_) 1 69 := ⟨zq_177 zg_7_9_0.2.2.2.2.2.2.2.2.2.2.1, rfl⟩
theorem zd_7_9_10 : zz_D zy_settle_7_9 10 (.aload_n 0) 1 11 := ⟨zq_42 zg_7_9_0.2.2.2.2.2.2.2.2.2.2.2.1, rfl⟩
theorem zd_7_9_11 : zz_D zy_settle_7_9 11 (.getfield 11) 3 14 := ⟨zq_180 zg_7_9_0.2.2.2.2.2.2.2.2.2.2.2.2.1 zg_7_9_0.2.2.2.2.2.2.2.2.2.2.2.2.2.1 zg_7_9_0.2.2.2.2.2.2.2.2.2.2.2.2.2.2.1 rfl, rfl⟩
theorem zd_7_9_14 : zz_D zy_settle_7_9 14 (.iload_n 2) 1 15 := ⟨zq_28 zg_7_9_0.2.2.2.2.2.2.2.2.2.2.2.2.2.2.2.1, rfl⟩
theorem zd_7_9_15 : zz_D zy_settle_7_9 15 (.aaload) 1 16 := ⟨zq_50 zg_7_9_0.2.2.2.2.2.2.2.2.2.2.2.2.2.2.2.2.1, rfl⟩
theorem zd_7_9_16 : zz_D zy_settle_7_9 16 (.astore_n 3) 1 17 := ⟨zq_78 zg_7_9_0.2.2.2.2.2.2.2.2.2.2.2.2.2.2.2.2.2.1, rfl⟩
theorem zd_7_9_17 : zz_D zy_settle_7_9 17 (.aload_n 0) 1 18 := ⟨zq_42 zg_7_9_0.2.2.2.2.2.2.2.2.2.2.2.2.2.2.2.2.2.2.1, rfl⟩
theorem zd_7_9_18 : zz_D zy_settle_7_9 18 (.aload_n 3) 1 19 := ⟨zq_45 zg_7_9_0.2.2.2.2.2.2.2.2.2.2.2.2.2.2.2.2.2.2.2.1, rfl⟩
theorem zd_7_9_19 : zz_D zy_settle_7_9 19 (.getfield 38) 3 22 := ⟨zq_180 zg_7_9_0.2.2.2.2.2.2.2.2.2.2.2.2.2.2.2.2.2.2.2.2.1 zg_7_9_0.2.2.2.2.2.2.2.2.2.2.2.2.2.2.2.2.2.2.2.2.2.1 zg_7_9_0.2.2.2.2.2.2.2.2.2.2.2.2.2.2.2.2.2.2.2.2.2.2 rfl, rfl⟩
theorem zg_7_9_22 : zq_at zy_settle_7_9.2.1 22 182 ∧ zq_at zy_settle_7_9.2.1 23 0 ∧ zq_at zy_settle_7_9.2.1 24 41 ∧ zq_at zy_settle_7_9.2.1 25 153 ∧ zq_at zy_settle_7_9.2.1 26 0 ∧ zq_at zy_settle_7_9.2.1 27 37 ∧ zq_at zy_settle_7_9.2.1 62 132 ∧ zq_at zy_settle_7_9.2.1 63 2 ∧ zq_at zy_settle_7_9.2.1 64 1 ∧ zq_at zy_settle_7_9.2.1 65 167 ∧ zq_at zy_settle_7_9.2.1 66 255 ∧ zq_at zy_settle_7_9.2.1 67 193 ∧ zq_at zy_settle_7_9.2.1 28 42 ∧ zq_at zy_settle_7_9.2.1 29 45 ∧ zq_at zy_settle_7_9.2.1 30 180 ∧ zq_at zy_settle_7_9.2.1 31 0 ∧ zq_at zy_settle_7_9.2.1 32 45 ∧ zq_at zy_settle_7_9.2.1 33 182 ∧ zq_at zy_settle_7_9.2.1 34 0 ∧ zq_at zy_settle_7_9.2.1 35 41 ∧ zq_at zy_settle_7_9.2.1 36 153 ∧ zq_at zy_settle_7_9.2.1 37 0 ∧ zq_at zy_settle_7_9.2.1 38 26 ∧ zq_at zy_settle_7_9.2.1 39 45 := by decide +kernel
theorem zd_7_9_22 : zz_D zy_settle_7_9 22 (.invokevirtual 41) 3 25 := ⟨zq_182 zg_7_9_22.1 zg_7_9_22.2.1 zg_7_9_22.2.2.1 rfl, rfl⟩
theorem zd_7_9_25 : zz_B zy_settle_7_9 25 (Instr.ifCond .eq) 62 28 := ⟨37, zq_153 zg_7_9_22.2.2.2.1 zg_7_9_22.2.2.2.2.1 zg_7_9_22.2.2.2.2.2.1 (by decide), rfl, rfl⟩
theorem zd_7_9_62 : zz_D zy_settle_7_9 62 (.iinc 2 1) 3 65 := ⟨zq_132 zg_7_9_22.2.2.2.2.2.2.1 zg_7_9_22.2.2.2.2.2.2.2.1 zg_7_9_22.2.2.2.2.2.2.2.2.1 (by decide), rfl⟩
theorem zd_7_9_65 : zz_B zy_settle_7_9 65 Instr.goto 2 68 := ⟨(-63), zq_167 zg_7_9_22.2.2.2.2.2.2.2.2.2.1 zg_7_9_22.2.2.2.2.2.2.2.2.2.2.1 zg_7_9_22.2.2.2.2.2.2.2.2.2.2.2.1 (by decide), rfl, rfl⟩
theorem zd_7_9_28 : zz_D zy_settle_7_9 28 (.aload_n 0) 1 29 := ⟨zq_42 zg_7_9_22.2.2.2.2.2.2.2.2.2.2.2.2.1, rfl⟩
theorem zd_7_9_29 : zz_D zy_settle_7_9 29 (.aload_n 3) 1 30 := ⟨zq_45 zg_7_9_22.2.2.2.2.2.2.2.2.2.2.2.2.2.1, rfl⟩
theorem zd_7_9_30 : zz_D zy_settle_7_9 30 (.getfield 45) 3 33 := ⟨zq_180 zg_7_9_22.2.2.2.2.2.2.2.2.2.2.2.2.2.2.1 zg_7_9_22.2.2.2.2.2.2.2.2.2.2.2.2.2.2.2.1 zg_7_9_22.2.2.2.2.2.2.2.2.2.2.2.2.2.2.2.2.1 rfl, rfl⟩
theorem zd_7_9_33 : zz_D zy_settle_7_9 33 (.invokevirtual 41) 3 36 := ⟨zq_182 zg_7_9_22.2.2.2.2.2.2.2.2.2.2.2.2.2.2.2.2.2.1 zg_7_9_22.2.2.2.2.2.2.2.2.2.2.2.2.2.2.2.2.2.2.1 zg_7_9_22.2.2.2.2.2.2.2.2.2.2.2.2.2.2.2.2.2.2.2.1 rfl, rfl⟩
theorem zd_7_9_36 : zz_B zy_settle_7_9 36 (Instr.ifCond .eq) 62 39 := ⟨26, zq_153 zg_7_9_22.2.2.2.2.2.2.2.2.2.2.2.2.2.2.2.2.2.2.2.2.1 zg_7_9_22.2.2.2.2.2.2.2.2.2.2.2.2.2.2.2.2.2.2.2.2.2.1 zg_7_9_22.2.2.2.2.2.2.2.2.2.2.2.2.2.2.2.2.2.2.2.2.2.2.1 (by decide), rfl, rfl⟩
theorem zd_7_9_39 : zz_D zy_settle_7_9 39 (.aload_n 3) 1 40 := ⟨zq_45 zg_7_9_22.2.2.2.2.2.2.2.2.2.2.2.2.2.2.2.2.2.2.2.2.2.2.2, rfl⟩
theorem zg_7_9_40 : zq_at zy_settle_7_9.2.1 40 43 ∧ zq_at zy_settle_7_9.2.1 41 42 ∧ zq_at zy_settle_7_9.2.1 42 180 ∧ zq_at zy_settle_7_9.2.1 43 0 ∧ zq_at zy_settle_7_9.2.1 44 11 ∧ zq_at zy_settle_7_9.2.1 45 45 ∧ zq_at zy_settle_7_9.2.1 46 180 ∧ zq_at zy_settle_7_9.2.1 47 0 ∧ zq_at zy_settle_7_9.2.1 48 38 ∧ zq_at zy_settle_7_9.2.1 49 50 ∧ zq_at zy_settle_7_9.2.1 50 42 ∧ zq_at zy_settle_7_9.2.1 51 180 ∧ zq_at zy_settle_7_9.2.1 52 0 ∧ zq_at zy_settle_7_9.2.1 53 11 ∧ zq_at zy_settle_7_9.2.1 54 45 ∧ zq_at zy_settle_7_9.2.1 55 180 ∧ zq_at zy_settle_7_9.2.1 56 0 ∧ zq_at zy_settle_7_9.2.1 57 45 ∧ zq_at zy_settle_7_9.2.1 58 50 ∧ zq_at zy_settle_7_9.2.1 59 182 ∧ zq_at zy_settle_7_9.2.1 60 0 ∧ zq_at zy_settle_7_9.2.1 61 72 := by decide +kernel
theorem zd_7_9_40 : zz_D zy_settle_7_9 40 (.aload_n 1) 1 41 := ⟨zq_43 zg_7_9_40.1, rfl⟩
theorem zd_7_9_41 : zz_D zy_settle_7_9 41 (.aload_n 0) 1 42 := ⟨zq_42 zg_7_9_40.2.1, rfl⟩
theorem zd_7_9_42 : zz_D zy_settle_7_9 42 (.getfield 11) 3 45 := ⟨zq_180 zg_7_9_40.2.2.1 zg_7_9_40.2.2.2.1 zg_7_9_40.2.2.2.2.1 rfl, rfl⟩
theorem zd_7_9_45 : zz_D zy_settle_7_9 45 (.aload_n 3) 1 46 := ⟨zq_45 zg_7_9_40.2.2.2.2.2.1, rfl⟩
theorem zd_7_9_46 : zz_D zy_settle_7_9 46 (.getfield 38) 3 49 := ⟨zq_180 zg_7_9_40.2.2.2.2.2.2.1 zg_7_9_40.2.2.2.2.2.2.2.1 zg_7_9_40.2.2.2.2.2.2.2.2.1 rfl, rfl⟩
theorem zd_7_9_49 : zz_D zy_settle_7_9 49 (.aaload) 1 50 := ⟨zq_50 zg_7_9_40.2.2.2.2.2.2.2.2.2.1, rfl⟩
theorem zd_7_9_50 : zz_D zy_settle_7_9 50 (.aload_n 0) 1 51 := ⟨zq_42 zg_7_9_40.2.2.2.2.2.2.2.2.2.2.1, rfl⟩
theorem zd_7_9_51 : zz_D zy_settle_7_9 51 (.getfield 11) 3 54 := ⟨zq_180 zg_7_9_40.2.2.2.2.2.2.2.2.2.2.2.1 zg_7_9_40.2.2.2.2.2.2.2.2.2.2.2.2.1 zg_7_9_40.2.2.2.2.2.2.2.2.2.2.2.2.2.1 rfl, rfl⟩
theorem zd_7_9_54 : zz_D zy_settle_7_9 54 (.aload_n 3) 1 55 := ⟨zq_45 zg_7_9_40.2.2.2.2.2.2.2.2.2.2.2.2.2.2.1, rfl⟩
theorem zd_7_9_55 : zz_D zy_settle_7_9 55 (.getfield 45) 3 58 := ⟨zq_180 zg_7_9_40.2.2.2.2.2.2.2.2.2.2.2.2.2.2.2.1 zg_7_9_40.2.2.2.2.2.2.2.2.2.2.2.2.2.2.2.2.1 zg_7_9_40.2.2.2.2.2.2.2.2.2.2.2.2.2.2.2.2.2.1 rfl, rfl⟩
theorem zd_7_9_58 : zz_D zy_settle_7_9 58 (.aaload) 1 59 := ⟨zq_50 zg_7_9_40.2.2.2.2.2.2.2.2.2.2.2.2.2.2.2.2.2.2.1, rfl⟩
theorem zd_7_9_59 : zz_D zy_settle_7_9 59 (.invokevirtual 72) 3 62 := ⟨zq_182 zg_7_9_40.2.2.2.2.2.2.2.2.2.2.2.2.2.2.2.2.2.2.2.1 zg_7_9_40.2.2.2.2.2.2.2.2.2.2.2.2.2.2.2.2.2.2.2.2.1 zg_7_9_40.2.2.2.2.2.2.2.2.2.2.2.2.2.2.2.2.2.2.2.2.2 rfl, rfl⟩
theorem zg_4_18_0 : zq_at zy_fillCells_4_18.2.1 0 3 ∧ zq_at zy_fillCells_4_18.2.1 1 54 ∧ zq_at zy_fillCells_4_18.2.1 2 4 ∧ zq_at zy_fillCells_4_18.2.1 3 21 ∧ zq_at zy_fillCells_4_18.2.1 4 4 ∧ zq_at zy_fillCells_4_18.2.1 5 42 ∧ zq_at zy_fillCells_4_18.2.1 6 180 ∧ zq_at zy_fillCells_4_18.2.1 7 0 ∧ zq_at zy_fillCells_4_18.2.1 8 54 ∧ zq_at zy_fillCells_4_18.2.1 9 162 ∧ zq_at zy_fillCells_4_18.2.1 10 0 ∧ zq_at zy_fillCells_4_18.2.1 11 93 ∧ zq_at zy_fillCells_4_18.2.1 102 177 ∧ zq_at zy_fillCells_4_18.2.1 12 3 ∧ zq_at zy_fillCells_4_18.2.1 13 54 ∧ zq_at zy_fillCells_4_18.2.1 14 5 ∧ zq_at zy_fillCells_4_18.2.1 15 21 ∧ zq_at zy_fillCells_4_18.2.1 16 5 ∧ zq_at zy_fillCells_4_18.2.1 17 42 ∧ zq_at zy_fillCells_4_18.2.1 18 180 ∧ zq_at zy_fillCells_4_18.2.1 19 0 ∧ zq_at zy_fillCells_4_18.2.1 20 57 := by decide +kernel
theorem zd_4_18_0 : zz_D zy_fillCells_4_18 0 (.iconst 0) 1 1 := ⟨zq_3 zg_4_18_0.1, rfl⟩
theorem zd_4_18_1 : zz_D zy_fillCells_4_18 1 (.istore 4) 2 3 := ⟨zq_54 zg_4_18_0.2.1 zg_4_18_0.2.2.1, rfl⟩
theorem zd_4_18_3 : zz_D zy_fillCells_4_18 3 (.iload 4) 2 5 := ⟨zq_21 zg_4_18_0.2.2.2.1 zg_4_18_0.2.2.2.2.1, rfl⟩
theorem zd_4_18_5 : zz_D zy_fillCells_4_18 5 (.aload_n 0) 1 6 := ⟨zq_42 zg_4_18_0.2.2.2.2.2.1, rfl⟩
theorem zd_4_18_6 : zz_D zy_fillCells_4_18 6 (.getfield 54) 3 9 := ⟨zq_180 zg_4_18_0.2.2.2.2.2.2.1 zg_4_18_0.2.2.2.2.2.2.2.1 zg_4_18_0.2.2.2.2.2.2.2.2.1 rfl, rfl⟩
theorem zd_4_18_9 : zz_B zy_fillCells_4_18 9 (Instr.if_icmp .ge) 102 12 := ⟨93, zq_162 zg_4_18_0.2.2.2.2.2.2.2.2.2.1 zg_4_18_0.2.2.2.2.2.2.2.2.2.2.1 zg_4_18_0.2.2.2.2.2.2.2.2.2.2.2.1 (by decide), rfl, rfl⟩
theorem zd_4_18_102 : zz_D zy_fillCells_4_18 102 (.return_) 1 103 := ⟨zq_177 zg_4_18_0.2.2.2.2.2.2.2.2.2.2.2.2.1, rfl⟩
theorem zd_4_18_12 : zz_D zy_fillCells_4_18 12 (.iconst 0) 1 13 := ⟨zq_3 zg_4_18_0.2.2.2.2.2.2.2.2.2.2.2.2.2.1, rfl⟩
theorem zd_4_18_13 : zz_D zy_fillCells_4_18 13 (.istore 5) 2 15 := ⟨zq_54 zg_4_18_0.2.2.2.2.2.2.2.2.2.2.2.2.2.2.1 zg_4_18_0.2.2.2.2.2.2.2.2.2.2.2.2.2.2.2.1, rfl⟩
theorem zd_4_18_15 : zz_D zy_fillCells_4_18 15 (.iload 5) 2 17 := ⟨zq_21 zg_4_18_0.2.2.2.2.2.2.2.2.2.2.2.2.2.2.2.2.1 zg_4_18_0.2.2.2.2.2.2.2.2.2.2.2.2.2.2.2.2.2.1, rfl⟩
theorem zd_4_18_17 : zz_D zy_fillCells_4_18 17 (.aload_n 0) 1 18 := ⟨zq_42 zg_4_18_0.2.2.2.2.2.2.2.2.2.2.2.2.2.2.2.2.2.2.1, rfl⟩
theorem zd_4_18_18 : zz_D zy_fillCells_4_18 18 (.getfield 57) 3 21 := ⟨zq_180 zg_4_18_0.2.2.2.2.2.2.2.2.2.2.2.2.2.2.2.2.2.2.2.1 zg_4_18_0.2.2.2.2.2.2.2.2.2.2.2.2.2.2.2.2.2.2.2.2.1 zg_4_18_0.2.2.2.2.2.2.2.2.2.2.2.2.2.2.2.2.2.2.2.2.2 rfl, rfl⟩
theorem zg_4_18_21 : zq_at zy_fillCells_4_18.2.1 21 162 ∧ zq_at zy_fillCells_4_18.2.1 22 0 ∧ zq_at zy_fillCells_4_18.2.1 23 75 ∧ zq_at zy_fillCells_4_18.2.1 96 132 ∧ zq_at zy_fillCells_4_18.2.1 97 4 ∧ zq_at zy_fillCells_4_18.2.1 98 1 ∧ zq_at zy_fillCells_4_18.2.1 99 167 ∧ zq_at zy_fillCells_4_18.2.1 100 255 ∧ zq_at zy_fillCells_4_18.2.1 101 160 ∧ zq_at zy_fillCells_4_18.2.1 24 3 ∧ zq_at zy_fillCells_4_18.2.1 25 54 ∧ zq_at zy_fillCells_4_18.2.1 26 6 ∧ zq_at zy_fillCells_4_18.2.1 27 21 ∧ zq_at zy_fillCells_4_18.2.1 28 6 ∧ zq_at zy_fillCells_4_18.2.1 29 42 ∧ zq_at zy_fillCells_4_18.2.1 30 180 ∧ zq_at zy_fillCells_4_18.2.1 31 0 ∧ zq_at zy_fillCells_4_18.2.1 32 60 ∧ zq_at zy_fillCells_4_18.2.1 33 162 ∧ zq_at zy_fillCells_4_18.2.1 34 0 ∧ zq_at zy_fillCells_4_18.2.1 35 57 ∧ zq_at zy_fillCells_4_18.2.1 90 132 ∧ zq_at zy_fillCells_4_18.2.1 91 5 ∧ zq_at zy_fillCells_4_18.2.1 92 1 := by decide +kernel
theorem zd_4_18_21 : zz_B zy_fillCells_4_18 21 (Instr.if_icmp .ge) 96 24 := ⟨75, zq_162 zg_4_18_21.1 zg_4_18_21.2.1 zg_4_18_21.2.2.1 (by decide), rfl, rfl⟩
theorem zd_4_18_96 : zz_D zy_fillCells_4_18 96 (.iinc 4 1) 3 99 := ⟨zq_132 zg_4_18_21.2.2.2.1 zg_4_18_21.2.2.2.2.1 zg_4_18_21.2.2.2.2.2.1 (by decide), rfl⟩
theorem zd_4_18_99 : zz_B zy_fillCells_4_18 99 Instr.goto 3 102 := ⟨(-96), zq_167 zg_4_18_21.2.2.2.2.2.2.1 zg_4_18_21.2.2.2.2.2.2.2.1 zg_4_18_21.2.2.2.2.2.2.2.2.1 (by decide), rfl, rfl⟩
theorem zd_4_18_24 : zz_D zy_fillCells_4_18 24 (.iconst 0) 1 25 := ⟨zq_3 zg_4_18_21.2.2.2.2.2.2.2.2.2.1, rfl⟩
theorem zd_4_18_25 : zz_D zy_fillCells_4_18 25 (.istore 6) 2 27 := ⟨zq_54 zg_4_18_21.2.2.2.2.2.2.2.2.2.2.1 zg_4_18_21.2.2.2.2.2.2.2.2.2.2.2.1, rfl⟩
theorem zd_4_18_27 : zz_D zy_fillCells_4_18 27 (.iload 6) 2 29 := ⟨zq_21 zg_4_18_21.2.2.2.2.2.2.2.2.2.2.2.2.1 zg_4_18_21.2.2.2.2.2.2.2.2.2.2.2.2.2.1, rfl⟩
theorem zd_4_18_29 : zz_D zy_fillCells_4_18 29 (.aload_n 0) 1 30 := ⟨zq_42 zg_4_18_21.2.2.2.2.2.2.2.2.2.2.2.2.2.2.1, rfl⟩
theorem zd_4_18_30 : zz_D zy_fillCells_4_18 30 (.getfield 60) 3 33 := ⟨zq_180 zg_4_18_21.2.2.2.2.2.2.2.2.2.2.2.2.2.2.2.1 zg_4_18_21.2.2.2.2.2.2.2.2.2.2.2.2.2.2.2.2.1 zg_4_18_21.2.2.2.2.2.2.2.2.2.2.2.2.2.2.2.2.2.1 rfl, rfl⟩
theorem zd_4_18_33 : zz_B zy_fillCells_4_18 33 (Instr.if_icmp .ge) 90 36 := ⟨57, zq_162 zg_4_18_21.2.2.2.2.2.2.2.2.2.2.2.2.2.2.2.2.2.2.1 zg_4_18_21.2.2.2.2.2.2.2.2.2.2.2.2.2.2.2.2.2.2.2.1 zg_4_18_21.2.2.2.2.2.2.2.2.2.2.2.2.2.2.2.2.2.2.2.2.1 (by decide), rfl, rfl⟩
theorem zd_4_18_90 : zz_D zy_fillCells_4_18 90 (.iinc 5 1) 3 93 := ⟨zq_132 zg_4_18_21.2.2.2.2.2.2.2.2.2.2.2.2.2.2.2.2.2.2.2.2.2.1 zg_4_18_21.2.2.2.2.2.2.2.2.2.2.2.2.2.2.2.2.2.2.2.2.2.2.1 zg_4_18_21.2.2.2.2.2.2.2.2.2.2.2.2.2.2.2.2.2.2.2.2.2.2.2 (by decide), rfl⟩
theorem zg_4_18_93 : zq_at zy_fillCells_4_18.2.1 93 167 ∧ zq_at zy_fillCells_4_18.2.1 94 255 ∧ zq_at zy_fillCells_4_18.2.1 95 178 ∧ zq_at zy_fillCells_4_18.2.1 36 42 ∧ zq_at zy_fillCells_4_18.2.1 37 21 ∧ zq_at zy_fillCells_4_18.2.1 38 4 ∧ zq_at zy_fillCells_4_18.2.1 39 21 ∧ zq_at zy_fillCells_4_18.2.1 40 5 ∧ zq_at zy_fillCells_4_18.2.1 41 21 ∧ zq_at zy_fillCells_4_18.2.1 42 6 ∧ zq_at zy_fillCells_4_18.2.1 43 182 ∧ zq_at zy_fillCells_4_18.2.1 44 0 ∧ zq_at zy_fillCells_4_18.2.1 45 75 ∧ zq_at zy_fillCells_4_18.2.1 46 54 ∧ zq_at zy_fillCells_4_18.2.1 47 7 ∧ zq_at zy_fillCells_4_18.2.1 48 21 ∧ zq_at zy_fillCells_4_18.2.1 49 7 ∧ zq_at zy_fillCells_4_18.2.1 50 155 ∧ zq_at zy_fillCells_4_18.2.1 51 0 ∧ zq_at zy_fillCells_4_18.2.1 52 34 ∧ zq_at zy_fillCells_4_18.2.1 84 132 ∧ zq_at zy_fillCells_4_18.2.1 85 6 ∧ zq_at zy_fillCells_4_18.2.1 86 1 := by decide +kernel
theorem zd_4_18_93 : zz_B zy_fillCells_4_18 93 Instr.goto 15 96 := ⟨(-78), zq_167 zg_4_18_93.1 zg_4_18_93.2.1 zg_4_18_93.2.2.1 (by decide), rfl, rfl⟩
theorem zd_4_18_36 : zz_D zy_fillCells_4_18 36 (.aload_n 0) 1 37 := ⟨zq_42 zg_4_18_93.2.2.2.1, rfl⟩
theorem zd_4_18_37 : zz_D zy_fillCells_4_18 37 (.iload 4) 2 39 := ⟨zq_21 zg_4_18_93.2.2.2.2.1 zg_4_18_93.2.2.2.2.2.1, rfl⟩
theorem zd_4_18_39 : zz_D zy_fillCells_4_18 39 (.iload 5) 2 41 := ⟨zq_21 zg_4_18_93.2.2.2.2.2.2.1 zg_4_18_93.2.2.2.2.2.2.2.1, rfl⟩
theorem zd_4_18_41 : zz_D zy_fillCells_4_18 41 (.iload 6) 2 43 := ⟨zq_21 zg_4_18_93.2.2.2.2.2.2.2.2.1 zg_4_18_93.2.2.2.2.2.2.2.2.2.1, rfl⟩
theorem zd_4_18_43 : zz_D zy_fillCells_4_18 43 (.invokevirtual 75) 3 46 := ⟨zq_182 zg_4_18_93.2.2.2.2.2.2.2.2.2.2.1 zg_4_18_93.2.2.2.2.2.2.2.2.2.2.2.1 zg_4_18_93.2.2.2.2.2.2.2.2.2.2.2.2.1 rfl, rfl⟩
theorem zd_4_18_46 : zz_D zy_fillCells_4_18 46 (.istore 7) 2 48 := ⟨zq_54 zg_4_18_93.2.2.2.2.2.2.2.2.2.2.2.2.2.1 zg_4_18_93.2.2.2.2.2.2.2.2.2.2.2.2.2.2.1, rfl⟩
theorem zd_4_18_48 : zz_D zy_fillCells_4_18 48 (.iload 7) 2 50 := ⟨zq_21 zg_4_18_93.2.2.2.2.2.2.2.2.2.2.2.2.2.2.2.1 zg_4_18_93.2.2.2.2.2.2.2.2.2.2.2.2.2.2.2.2.1, rfl⟩
theorem zd_4_18_50 : zz_B zy_fillCells_4_18 50 (Instr.ifCond .lt) 84 53 := ⟨34, zq_155 zg_4_18_93.2.2.2.2.2.2.2.2.2.2.2.2.2.2.2.2.2.1 zg_4_18_93.2.2.2.2.2.2.2.2.2.2.2.2.2.2.2.2.2.2.1 zg_4_18_93.2.2.2.2.2.2.2.2.2.2.2.2.2.2.2.2.2.2.2.1 (by decide), rfl, rfl⟩
theorem zd_4_18_84 : zz_D zy_fillCells_4_18 84 (.iinc 6 1) 3 87 := ⟨zq_132 zg_4_18_93.2.2.2.2.2.2.2.2.2.2.2.2.2.2.2.2.2.2.2.2.1 zg_4_18_93.2.2.2.2.2.2.2.2.2.2.2.2.2.2.2.2.2.2.2.2.2.1 zg_4_18_93.2.2.2.2.2.2.2.2.2.2.2.2.2.2.2.2.2.2.2.2.2.2 (by decide), rfl⟩
theorem zg_4_18_87 : zq_at zy_fillCells_4_18.2.1 87 167 ∧ zq_at zy_fillCells_4_18.2.1 88 255 ∧ zq_at zy_fillCells_4_18.2.1 89 196 ∧ zq_at zy_fillCells_4_18.2.1 53 21 ∧ zq_at zy_fillCells_4_18.2.1 54 7 ∧ zq_at zy_fillCells_4_18.2.1 55 43 ∧ zq_at zy_fillCells_4_18.2.1 56 190 ∧ zq_at zy_fillCells_4_18.2.1 57 162 ∧ zq_at zy_fillCells_4_18.2.1 58 0 ∧ zq_at zy_fillCells_4_18.2.1 59 27 ∧ zq_at zy_fillCells_4_18.2.1 60 43 ∧ zq_at zy_fillCells_4_18.2.1 61 21 ∧ zq_at zy_fillCells_4_18.2.1 62 7 ∧ zq_at zy_fillCells_4_18.2.1 63 42 ∧ zq_at zy_fillCells_4_18.2.1 64 43 ∧ zq_at zy_fillCells_4_18.2.1 65 44 ∧ zq_at zy_fillCells_4_18.2.1 66 45 ∧ zq_at zy_fillCells_4_18.2.1 67 21 ∧ zq_at zy_fillCells_4_18.2.1 68 4 ∧ zq_at zy_fillCells_4_18.2.1 69 21 ∧ zq_at zy_fillCells_4_18.2.1 70 5 ∧ zq_at zy_fillCells_4_18.2.1 71 21 ∧ zq_at zy_fillCells_4_18.2.1 72 6 := by decide +kernel
theorem zd_4_18_87 : zz_B zy_fillCells_4_18 87 Instr.goto 27 90 := ⟨(-60), zq_167 zg_4_18_87.1 zg_4_18_87.2.1 zg_4_18_87.2.2.1 (by decide), rfl, rfl⟩
theorem zd_4_18_53 : zz_D zy_fillCells_4_18 53 (.iload 7) 2 55 := ⟨zq_21 zg_4_18_87.2.2.2.1 zg_4_18_87.2.2.2.2.1, rfl⟩
theorem zd_4_18_55 : zz_D zy_fillCells_4_18 55 (.aload_n 1) 1 56 := ⟨zq_43 zg_4_18_87.2.2.2.2.2.1, rfl⟩
theorem zd_4_18_56 : zz_D zy_fillCells_4_18 56 (.arraylength) 1 57 := ⟨zq_190 zg_4_18_87.2.2.2.2.2.2.1, rfl⟩
theorem zd_4_18_57 : zz_B zy_fillCells_4_18 57 (Instr.if_icmp .ge) 84 60 := ⟨27, zq_162 zg_4_18_87.2.2.2.2.2.2.2.1 zg_4_18_87.2.2.2.2.2.2.2.2.1 zg_4_18_87.2.2.2.2.2.2.2.2.2.1 (by decide), rfl, rfl⟩
theorem zd_4_18_60 : zz_D zy_fillCells_4_18 60 (.aload_n 1) 1 61 := ⟨zq_43 zg_4_18_87.2.2.2.2.2.2.2.2.2.2.1, rfl⟩
theorem zd_4_18_61 : zz_D zy_fillCells_4_18 61 (.iload 7) 2 63 := ⟨zq_21 zg_4_18_87.2.2.2.2.2.2.2.2.2.2.2.1 zg_4_18_87.2.2.2.2.2.2.2.2.2.2.2.2.1, rfl⟩
theorem zd_4_18_63 : zz_D zy_fillCells_4_18 63 (.aload_n 0) 1 64 := ⟨zq_42 zg_4_18_87.2.2.2.2.2.2.2.2.2.2.2.2.2.1, rfl⟩
theorem zd_4_18_64 : zz_D zy_fillCells_4_18 64 (.aload_n 1) 1 65 := ⟨zq_43 zg_4_18_87.2.2.2.2.2.2.2.2.2.2.2.2.2.2.1, rfl⟩
theorem zd_4_18_65 : zz_D zy_fillCells_4_18 65 (.aload_n 2) 1 66 := ⟨zq_44 zg_4_18_87.2.2.2.2.2.2.2.2.2.2.2.2.2.2.2.1, rfl⟩
theorem zd_4_18_66 : zz_D zy_fillCells_4_18 66 (.aload_n 3) 1 67 := ⟨zq_45 zg_4_18_87.2.2.2.2.2.2.2.2.2.2.2.2.2.2.2.2.1, rfl⟩
theorem zd_4_18_67 : zz_D zy_fillCells_4_18 67 (.iload 4) 2 69 := ⟨zq_21 zg_4_18_87.2.2.2.2.2.2.2.2.2.2.2.2.2.2.2.2.2.1 zg_4_18_87.2.2.2.2.2.2.2.2.2.2.2.2.2.2.2.2.2.2.1, rfl⟩
theorem zd_4_18_69 : zz_D zy_fillCells_4_18 69 (.iload 5) 2 71 := ⟨zq_21 zg_4_18_87.2.2.2.2.2.2.2.2.2.2.2.2.2.2.2.2.2.2.2.1 zg_4_18_87.2.2.2.2.2.2.2.2.2.2.2.2.2.2.2.2.2.2.2.2.1, rfl⟩
theorem zd_4_18_71 : zz_D zy_fillCells_4_18 71 (.iload 6) 2 73 := ⟨zq_21 zg_4_18_87.2.2.2.2.2.2.2.2.2.2.2.2.2.2.2.2.2.2.2.2.2.1 zg_4_18_87.2.2.2.2.2.2.2.2.2.2.2.2.2.2.2.2.2.2.2.2.2.2, rfl⟩
theorem zg_4_18_73 : zq_at zy_fillCells_4_18.2.1 73 182 ∧ zq_at zy_fillCells_4_18.2.1 74 0 ∧ zq_at zy_fillCells_4_18.2.1 75 79 := by decide +kernel
theorem zd_4_18_73 : zz_D zy_fillCells_4_18 73 (.invokevirtual 79) 3 76 := ⟨zq_182 zg_4_18_73.1 zg_4_18_73.2.1 zg_4_18_73.2.2 rfl, rfl⟩
theorem zg_4_19_0 : zq_at zy_sumOf_4_19.2.1 0 42 ∧ zq_at zy_sumOf_4_19.2.1 1 180 ∧ zq_at zy_sumOf_4_19.2.1 2 0 ∧ zq_at zy_sumOf_4_19.2.1 3 13 ∧ zq_at zy_sumOf_4_19.2.1 4 4 ∧ zq_at zy_sumOf_4_19.2.1 5 160 ∧ zq_at zy_sumOf_4_19.2.1 6 0 ∧ zq_at zy_sumOf_4_19.2.1 7 16 ∧ zq_at zy_sumOf_4_19.2.1 21 42 ∧ zq_at zy_sumOf_4_19.2.1 22 180 ∧ zq_at zy_sumOf_4_19.2.1 23 0 ∧ zq_at zy_sumOf_4_19.2.1 24 13 ∧ zq_at zy_sumOf_4_19.2.1 25 5 ∧ zq_at zy_sumOf_4_19.2.1 26 160 ∧ zq_at zy_sumOf_4_19.2.1 27 0 ∧ zq_at zy_sumOf_4_19.2.1 28 16 ∧ zq_at zy_sumOf_4_19.2.1 42 43 ∧ zq_at zy_sumOf_4_19.2.1 43 44 ∧ zq_at zy_sumOf_4_19.2.1 44 21 ∧ zq_at zy_sumOf_4_19.2.1 45 4 ∧ zq_at zy_sumOf_4_19.2.1 46 21 ∧ zq_at zy_sumOf_4_19.2.1 47 5 ∧ zq_at zy_sumOf_4_19.2.1 48 21 ∧ zq_at zy_sumOf_4_19.2.1 49 6 := by decide +kernel
theorem zd_4_19_0 : zz_D zy_sumOf_4_19 0 (.aload_n 0) 1 1 := ⟨zq_42 zg_4_19_0.1, rfl⟩
theorem zd_4_19_1 : zz_D zy_sumOf_4_19 1 (.getfield 13) 3 4 := ⟨zq_180 zg_4_19_0.2.1 zg_4_19_0.2.2.1 zg_4_19_0.2.2.2.1 rfl, rfl⟩
theorem zd_4_19_4 : zz_D zy_sumOf_4_19 4 (.iconst 1) 1 5 := ⟨zq_4 zg_4_19_0.2.2.2.2.1, rfl⟩
theorem zd_4_19_5 : zz_B zy_sumOf_4_19 5 (Instr.if_icmp .ne) 21 8 := ⟨16, zq_160 zg_4_19_0.2.2.2.2.2.1 zg_4_19_0.2.2.2.2.2.2.1 zg_4_19_0.2.2.2.2.2.2.2.1 (by decide), rfl, rfl⟩
theorem zd_4_19_21 : zz_D zy_sumOf_4_19 21 (.aload_n 0) 1 22 := ⟨zq_42 zg_4_19_0.2.2.2.2.2.2.2.2.1, rfl⟩
theorem zd_4_19_22 : zz_D zy_sumOf_4_19 22 (.getfield 13) 3 25 := ⟨zq_180 zg_4_19_0.2.2.2.2.2.2.2.2.2.1 zg_4_19_0.2.2.2.2.2.2.2.2.2.2.1 zg_4_19_0.2.2.2.2.2.2.2.2.2.2.2.1 rfl, rfl⟩
theorem zd_4_19_25 : zz_D zy_sumOf_4_19 25 (.iconst 2) 1 26 := ⟨zq_5 zg_4_19_0.2.2.2.2.2.2.2.2.2.2.2.2.1, rfl⟩
theorem zd_4_19_26 : zz_B zy_sumOf_4_19 26 (Instr.if_icmp .ne) 42 29 := ⟨16, zq_160 zg_4_19_0.2.2.2.2.2.2.2.2.2.2.2.2.2.1 zg_4_19_0.2.2.2.2.2.2.2.2.2.2.2.2.2.2.1 zg_4_19_0.2.2.2.2.2.2.2.2.2.2.2.2.2.2.2.1 (by decide), rfl, rfl⟩
theorem zd_4_19_42 : zz_D zy_sumOf_4_19 42 (.aload_n 1) 1 43 := ⟨zq_43 zg_4_19_0.2.2.2.2.2.2.2.2.2.2.2.2.2.2.2.2.1, rfl⟩
theorem zd_4_19_43 : zz_D zy_sumOf_4_19 43 (.aload_n 2) 1 44 := ⟨zq_44 zg_4_19_0.2.2.2.2.2.2.2.2.2.2.2.2.2.2.2.2.2.1, rfl⟩
theorem zd_4_19_44 : zz_D zy_sumOf_4_19 44 (.iload 4) 2 46 := ⟨zq_21 zg_4_19_0.2.2.2.2.2.2.2.2.2.2.2.2.2.2.2.2.2.2.1 zg_4_19_0.2.2.2.2.2.2.2.2.2.2.2.2.2.2.2.2.2.2.2.1, rfl⟩
theorem zd_4_19_46 : zz_D zy_sumOf_4_19 46 (.iload 5) 2 48 := ⟨zq_21 zg_4_19_0.2.2.2.2.2.2.2.2.2.2.2.2.2.2.2.2.2.2.2.2.1 zg_4_19_0.2.2.2.2.2.2.2.2.2.2.2.2.2.2.2.2.2.2.2.2.2.1, rfl⟩
theorem zd_4_19_48 : zz_D zy_sumOf_4_19 48 (.iload 6) 2 50 := ⟨zq_21 zg_4_19_0.2.2.2.2.2.2.2.2.2.2.2.2.2.2.2.2.2.2.2.2.2.2.1 zg_4_19_0.2.2.2.2.2.2.2.2.2.2.2.2.2.2.2.2.2.2.2.2.2.2.2, rfl⟩
theorem zg_4_19_50 : zq_at zy_sumOf_4_19.2.1 50 182 ∧ zq_at zy_sumOf_4_19.2.1 51 0 ∧ zq_at zy_sumOf_4_19.2.1 52 75 ∧ zq_at zy_sumOf_4_19.2.1 53 184 ∧ zq_at zy_sumOf_4_19.2.1 54 0 ∧ zq_at zy_sumOf_4_19.2.1 55 98 := by decide +kernel
theorem zd_4_19_50 : zz_D zy_sumOf_4_19 50 (.invokevirtual 75) 3 53 := ⟨zq_182 zg_4_19_50.1 zg_4_19_50.2.1 zg_4_19_50.2.2.1 rfl, rfl⟩
theorem zd_4_19_53 : zz_D zy_sumOf_4_19 53 (.invokestatic 98) 3 56 := ⟨zq_184 zg_4_19_50.2.2.2.1 zg_4_19_50.2.2.2.2.1 zg_4_19_50.2.2.2.2.2 rfl, rfl⟩
theorem zg_4_17_0 : zq_at zy_byteAt_4_17.2.1 0 27 ∧ zq_at zy_byteAt_4_17.2.1 1 155 ∧ zq_at zy_byteAt_4_17.2.1 2 0 ∧ zq_at zy_byteAt_4_17.2.1 3 9 ∧ zq_at zy_byteAt_4_17.2.1 10 3 ∧ zq_at zy_byteAt_4_17.2.1 11 167 ∧ zq_at zy_byteAt_4_17.2.1 12 0 ∧ zq_at zy_byteAt_4_17.2.1 13 6 ∧ zq_at zy_byteAt_4_17.2.1 17 172 ∧ zq_at zy_byteAt_4_17.2.1 4 27 ∧ zq_at zy_byteAt_4_17.2.1 5 42 ∧ zq_at zy_byteAt_4_17.2.1 6 190 ∧ zq_at zy_byteAt_4_17.2.1 7 161 ∧ zq_at zy_byteAt_4_17.2.1 8 0 ∧ zq_at zy_byteAt_4_17.2.1 9 7 ∧ zq_at zy_byteAt_4_17.2.1 14 42 ∧ zq_at zy_byteAt_4_17.2.1 15 27 ∧ zq_at zy_byteAt_4_17.2.1 16 51 := by decide +kernel
theorem zd_4_17_0 : zz_D zy_byteAt_4_17 0 (.iload_n 1) 1 1 := ⟨zq_27 zg_4_17_0.1, rfl⟩
theorem zd_4_17_1 : zz_B zy_byteAt_4_17 1 (Instr.ifCond .lt) 10 4 := ⟨9, zq_155 zg_4_17_0.2.1 zg_4_17_0.2.2.1 zg_4_17_0.2.2.2.1 (by decide), rfl, rfl⟩
theorem zd_4_17_10 : zz_D zy_byteAt_4_17 10 (.iconst 0) 1 11 := ⟨zq_3 zg_4_17_0.2.2.2.2.1, rfl⟩
theorem zd_4_17_11 : zz_B zy_byteAt_4_17 11 Instr.goto 17 14 := ⟨6, zq_167 zg_4_17_0.2.2.2.2.2.1 zg_4_17_0.2.2.2.2.2.2.1 zg_4_17_0.2.2.2.2.2.2.2.1 (by decide), rfl, rfl⟩
theorem zd_4_17_17 : zz_D zy_byteAt_4_17 17 (.ireturn) 1 18 := ⟨zq_172 zg_4_17_0.2.2.2.2.2.2.2.2.1, rfl⟩
theorem zd_4_17_4 : zz_D zy_byteAt_4_17 4 (.iload_n 1) 1 5 := ⟨zq_27 zg_4_17_0.2.2.2.2.2.2.2.2.2.1, rfl⟩
theorem zd_4_17_5 : zz_D zy_byteAt_4_17 5 (.aload_n 0) 1 6 := ⟨zq_42 zg_4_17_0.2.2.2.2.2.2.2.2.2.2.1, rfl⟩
theorem zd_4_17_6 : zz_D zy_byteAt_4_17 6 (.arraylength) 1 7 := ⟨zq_190 zg_4_17_0.2.2.2.2.2.2.2.2.2.2.2.1, rfl⟩
theorem zd_4_17_7 : zz_B zy_byteAt_4_17 7 (Instr.if_icmp .lt) 14 10 := ⟨7, zq_161 zg_4_17_0.2.2.2.2.2.2.2.2.2.2.2.2.1 zg_4_17_0.2.2.2.2.2.2.2.2.2.2.2.2.2.1 zg_4_17_0.2.2.2.2.2.2.2.2.2.2.2.2.2.2.1 (by decide), rfl, rfl⟩
theorem zd_4_17_14 : zz_D zy_byteAt_4_17 14 (.aload_n 0) 1 15 := ⟨zq_42 zg_4_17_0.2.2.2.2.2.2.2.2.2.2.2.2.2.2.2.1, rfl⟩
theorem zd_4_17_15 : zz_D zy_byteAt_4_17 15 (.iload_n 1) 1 16 := ⟨zq_27 zg_4_17_0.2.2.2.2.2.2.2.2.2.2.2.2.2.2.2.2.1, rfl⟩
theorem zd_4_17_16 : zz_D zy_byteAt_4_17 16 (.baload) 1 17 := ⟨zq_51 zg_4_17_0.2.2.2.2.2.2.2.2.2.2.2.2.2.2.2.2.2, rfl⟩
-- TensorForge$Layer byteAt ([BI)I
abbrev zr_byteAt_4_17 : Room := { frames := 0, cells := 0, slots := 0, locals := 0 }
def zp_byteAt_4_17 (p1 : Int) (S0 : zz_S) : Int → zz_S → Prop := fun r S => S0 = S ∧ ((-2147483648) ≤ r ∧ r ≤ 2147483647)
theorem zc_byteAt_4_17 {g : mm_G} {l : Launch} (p1 : Int) (S0 : zz_S) (n : Nat) (hn : zz_end ≤ n) (G_S0 : zz_G S0) (hp1 : (-2147483648) ≤ p1 ∧ p1 ≤ 2147483647) : mm_Met g l zy_byteAt_4_17 zr_byteAt_4_17 [.ref 1032, zi p1] (zz_M S0 n) n (zz_QI n (zp_byteAt_4_17 p1 S0)) := by
  refine zz_enter (by decide) (Nat.le_of_ble_eq_true rfl) (zz_less (ls1 := [some (.ref 1032), some (zi p1)]) ⟨rfl, ⟨rfl, trivial⟩⟩ ?_)
  refine zz_iload_n (x := p1) rfl zd_4_17_0 ?_
  refine zz_if_lt (by omega) zd_4_17_1 (fun c1 => ?_) (fun c1 => ?_)
  · refine zz_iconst zd_4_17_10 ?_
    refine zz_goto zd_4_17_11 ?_
    exact zz_iret zd_4_17_17 rfl (Nat.zero_le _) (Nat.zero_le _) ⟨_, _, rfl, rfl, by omega⟩
  · refine zz_iload_n (x := p1) rfl zd_4_17_4 ?_
    refine zz_aload_n (x := 1032) rfl zd_4_17_5 ?_
    refine zz_alen zd_4_17_6 zT_1032 rfl (zz_ltn hn rfl) ?_
    refine zz_icmp_lt (by omega) (by omega) zd_4_17_7 (fun c2 => ?_) (fun c2 => ?_)
    · refine zz_aload_n (x := 1032) rfl zd_4_17_14 ?_
      refine zz_iload_n (x := p1) rfl zd_4_17_15 ?_
      have g3 := zz_G.r G_S0 1032 p1.toNat (-128) 127 rfl rfl
      refine zz_bald (z := S0 1032 p1.toNat) zd_4_17_16 zT_1032 rfl (zz_ltn hn rfl) (by decide) (by omega) rfl ?_
      exact zz_iret zd_4_17_17 rfl (Nat.zero_le _) (Nat.zero_le _) ⟨_, _, rfl, rfl, by omega⟩
    · refine zz_iconst zd_4_17_10 ?_
      refine zz_goto zd_4_17_11 ?_
      exact zz_iret zd_4_17_17 rfl (Nat.zero_le _) (Nat.zero_le _) ⟨_, _, rfl, rfl, by omega⟩
theorem zk_Layer_98 : mm_Sl "TensorForge$Layer" 98 2 zy_byteAt_4_17 := ⟨zyw_byteAt_4_17, mm_tb_1 895 (by decide +kernel) rfl, mm_tb_1 896 (by decide +kernel) rfl⟩
abbrev zy_greatest_4_22 : mm_Y := (⟨"TensorForge$Layer", "greatest", "([BLTensorForge$Layer;III)I"⟩, prog_4_method_22_code, 9, (some .int))
theorem zyw_greatest_4_22 : mm_Yw zy_greatest_4_22 5 := ⟨mm_tb_1 901 (by decide +kernel) rfl, mm_tb_1 3 (by decide +kernel) rfl, ⟨by decide, by decide⟩, by decide +kernel⟩
theorem zm_Layer_121 : Cond.methodLink "TensorForge$Layer" 121 Lib.Math.max.name ∈ mm_tb ∧ Cond.static Lib.Math.max.name ∈ mm_tb ∧ Cond.initialized "java/lang/Math" ∈ mm_tb ∧ Cond.code Lib.Math.max.name Lib.Math.max.code 2 (some .int) ∈ mm_tb := ⟨mm_tb_1 902 (by decide +kernel) rfl, mm_tb_1 709 (by decide +kernel) rfl, mm_tb_1 25 (by decide +kernel) rfl, mm_tb_1 710 (by decide +kernel) rfl⟩
theorem zg_4_19_56 : zq_at zy_sumOf_4_19.2.1 56 43 ∧ zq_at zy_sumOf_4_19.2.1 57 45 ∧ zq_at zy_sumOf_4_19.2.1 58 21 ∧ zq_at zy_sumOf_4_19.2.1 59 4 ∧ zq_at zy_sumOf_4_19.2.1 60 21 ∧ zq_at zy_sumOf_4_19.2.1 61 5 ∧ zq_at zy_sumOf_4_19.2.1 62 21 ∧ zq_at zy_sumOf_4_19.2.1 63 6 ∧ zq_at zy_sumOf_4_19.2.1 64 182 ∧ zq_at zy_sumOf_4_19.2.1 65 0 ∧ zq_at zy_sumOf_4_19.2.1 66 75 ∧ zq_at zy_sumOf_4_19.2.1 67 184 ∧ zq_at zy_sumOf_4_19.2.1 68 0 ∧ zq_at zy_sumOf_4_19.2.1 69 98 ∧ zq_at zy_sumOf_4_19.2.1 70 96 ∧ zq_at zy_sumOf_4_19.2.1 71 172 ∧ zq_at zy_sumOf_4_19.2.1 29 42 ∧ zq_at zy_sumOf_4_19.2.1 30 43 ∧ zq_at zy_sumOf_4_19.2.1 31 44 ∧ zq_at zy_sumOf_4_19.2.1 32 21 ∧ zq_at zy_sumOf_4_19.2.1 33 4 ∧ zq_at zy_sumOf_4_19.2.1 34 21 ∧ zq_at zy_sumOf_4_19.2.1 35 5 := by decide +kernel
theorem zd_4_19_56 : zz_D zy_sumOf_4_19 56 (.aload_n 1) 1 57 := ⟨zq_43 zg_4_19_56.1, rfl⟩
theorem zd_4_19_57 : zz_D zy_sumOf_4_19 57 (.aload_n 3) 1 58 := ⟨zq_45 zg_4_19_56.2.1, rfl⟩
theorem zd_4_19_58 : zz_D zy_sumOf_4_19 58 (.iload 4) 2 60 := ⟨zq_21 zg_4_19_56.2.2.1 zg_4_19_56.2.2.2.1, rfl⟩
theorem zd_4_19_60 : zz_D zy_sumOf_4_19 60 (.iload 5) 2 62 := ⟨zq_21 zg_4_19_56.2.2.2.2.1 zg_4_19_56.2.2.2.2.2.1, rfl⟩
theorem zd_4_19_62 : zz_D zy_sumOf_4_19 62 (.iload 6) 2 64 := ⟨zq_21 zg_4_19_56.2.2.2.2.2.2.1 zg_4_19_56.2.2.2.2.2.2.2.1, rfl⟩
theorem zd_4_19_64 : zz_D zy_sumOf_4_19 64 (.invokevirtual 75) 3 67 := ⟨zq_182 zg_4_19_56.2.2.2.2.2.2.2.2.1 zg_4_19_56.2.2.2.2.2.2.2.2.2.1 zg_4_19_56.2.2.2.2.2.2.2.2.2.2.1 rfl, rfl⟩
theorem zd_4_19_67 : zz_D zy_sumOf_4_19 67 (.invokestatic 98) 3 70 := ⟨zq_184 zg_4_19_56.2.2.2.2.2.2.2.2.2.2.2.1 zg_4_19_56.2.2.2.2.2.2.2.2.2.2.2.2.1 zg_4_19_56.2.2.2.2.2.2.2.2.2.2.2.2.2.1 rfl, rfl⟩
theorem zd_4_19_70 : zz_D zy_sumOf_4_19 70 (.iadd) 1 71 := ⟨zq_96 zg_4_19_56.2.2.2.2.2.2.2.2.2.2.2.2.2.2.1, rfl⟩
theorem zd_4_19_71 : zz_D zy_sumOf_4_19 71 (.ireturn) 1 72 := ⟨zq_172 zg_4_19_56.2.2.2.2.2.2.2.2.2.2.2.2.2.2.2.1, rfl⟩
theorem zd_4_19_29 : zz_D zy_sumOf_4_19 29 (.aload_n 0) 1 30 := ⟨zq_42 zg_4_19_56.2.2.2.2.2.2.2.2.2.2.2.2.2.2.2.2.1, rfl⟩
theorem zd_4_19_30 : zz_D zy_sumOf_4_19 30 (.aload_n 1) 1 31 := ⟨zq_43 zg_4_19_56.2.2.2.2.2.2.2.2.2.2.2.2.2.2.2.2.2.1, rfl⟩
theorem zd_4_19_31 : zz_D zy_sumOf_4_19 31 (.aload_n 2) 1 32 := ⟨zq_44 zg_4_19_56.2.2.2.2.2.2.2.2.2.2.2.2.2.2.2.2.2.2.1, rfl⟩
theorem zd_4_19_32 : zz_D zy_sumOf_4_19 32 (.iload 4) 2 34 := ⟨zq_21 zg_4_19_56.2.2.2.2.2.2.2.2.2.2.2.2.2.2.2.2.2.2.2.1 zg_4_19_56.2.2.2.2.2.2.2.2.2.2.2.2.2.2.2.2.2.2.2.2.1, rfl⟩
theorem zd_4_19_34 : zz_D zy_sumOf_4_19 34 (.iload 5) 2 36 := ⟨zq_21 zg_4_19_56.2.2.2.2.2.2.2.2.2.2.2.2.2.2.2.2.2.2.2.2.2.1 zg_4_19_56.2.2.2.2.2.2.2.2.2.2.2.2.2.2.2.2.2.2.2.2.2.2, rfl⟩
theorem zg_4_19_36 : zq_at zy_sumOf_4_19.2.1 36 21 ∧ zq_at zy_sumOf_4_19.2.1 37 6 ∧ zq_at zy_sumOf_4_19.2.1 38 182 ∧ zq_at zy_sumOf_4_19.2.1 39 0 ∧ zq_at zy_sumOf_4_19.2.1 40 95 := by decide +kernel
theorem zd_4_19_36 : zz_D zy_sumOf_4_19 36 (.iload 6) 2 38 := ⟨zq_21 zg_4_19_36.1 zg_4_19_36.2.1, rfl⟩
theorem zd_4_19_38 : zz_D zy_sumOf_4_19 38 (.invokevirtual 95) 3 41 := ⟨zq_182 zg_4_19_36.2.2.1 zg_4_19_36.2.2.2.1 zg_4_19_36.2.2.2.2 rfl, rfl⟩
theorem zg_4_22_0 : zq_at zy_greatest_4_22.2.1 0 16 ∧ zq_at zy_greatest_4_22.2.1 1 128 ∧ zq_at zy_greatest_4_22.2.1 2 54 ∧ zq_at zy_greatest_4_22.2.1 3 6 ∧ zq_at zy_greatest_4_22.2.1 4 3 ∧ zq_at zy_greatest_4_22.2.1 5 54 ∧ zq_at zy_greatest_4_22.2.1 6 7 ∧ zq_at zy_greatest_4_22.2.1 7 21 ∧ zq_at zy_greatest_4_22.2.1 8 7 ∧ zq_at zy_greatest_4_22.2.1 9 42 ∧ zq_at zy_greatest_4_22.2.1 10 180 ∧ zq_at zy_greatest_4_22.2.1 11 0 ∧ zq_at zy_greatest_4_22.2.1 12 23 ∧ zq_at zy_greatest_4_22.2.1 13 162 ∧ zq_at zy_greatest_4_22.2.1 14 0 ∧ zq_at zy_greatest_4_22.2.1 15 63 ∧ zq_at zy_greatest_4_22.2.1 76 21 ∧ zq_at zy_greatest_4_22.2.1 77 6 ∧ zq_at zy_greatest_4_22.2.1 78 172 ∧ zq_at zy_greatest_4_22.2.1 16 3 ∧ zq_at zy_greatest_4_22.2.1 17 54 ∧ zq_at zy_greatest_4_22.2.1 18 8 ∧ zq_at zy_greatest_4_22.2.1 19 21 ∧ zq_at zy_greatest_4_22.2.1 20 8 := by decide +kernel
theorem zd_4_22_0 : zz_D zy_greatest_4_22 0 (.bipush (-128)) 2 2 := ⟨zq_16 zg_4_22_0.1 zg_4_22_0.2.1 (by decide), rfl⟩
theorem zd_4_22_2 : zz_D zy_greatest_4_22 2 (.istore 6) 2 4 := ⟨zq_54 zg_4_22_0.2.2.1 zg_4_22_0.2.2.2.1, rfl⟩
theorem zd_4_22_4 : zz_D zy_greatest_4_22 4 (.iconst 0) 1 5 := ⟨zq_3 zg_4_22_0.2.2.2.2.1, rfl⟩
theorem zd_4_22_5 : zz_D zy_greatest_4_22 5 (.istore 7) 2 7 := ⟨zq_54 zg_4_22_0.2.2.2.2.2.1 zg_4_22_0.2.2.2.2.2.2.1, rfl⟩
theorem zd_4_22_7 : zz_D zy_greatest_4_22 7 (.iload 7) 2 9 := ⟨zq_21 zg_4_22_0.2.2.2.2.2.2.2.1 zg_4_22_0.2.2.2.2.2.2.2.2.1, rfl⟩
theorem zd_4_22_9 : zz_D zy_greatest_4_22 9 (.aload_n 0) 1 10 := ⟨zq_42 zg_4_22_0.2.2.2.2.2.2.2.2.2.1, rfl⟩
theorem zd_4_22_10 : zz_D zy_greatest_4_22 10 (.getfield 23) 3 13 := ⟨zq_180 zg_4_22_0.2.2.2.2.2.2.2.2.2.2.1 zg_4_22_0.2.2.2.2.2.2.2.2.2.2.2.1 zg_4_22_0.2.2.2.2.2.2.2.2.2.2.2.2.1 rfl, rfl⟩
theorem zd_4_22_13 : zz_B zy_greatest_4_22 13 (Instr.if_icmp .ge) 76 16 := ⟨63, zq_162 zg_4_22_0.2.2.2.2.2.2.2.2.2.2.2.2.2.1 zg_4_22_0.2.2.2.2.2.2.2.2.2.2.2.2.2.2.1 zg_4_22_0.2.2.2.2.2.2.2.2.2.2.2.2.2.2.2.1 (by decide), rfl, rfl⟩
theorem zd_4_22_76 : zz_D zy_greatest_4_22 76 (.iload 6) 2 78 := ⟨zq_21 zg_4_22_0.2.2.2.2.2.2.2.2.2.2.2.2.2.2.2.2.1 zg_4_22_0.2.2.2.2.2.2.2.2.2.2.2.2.2.2.2.2.2.1, rfl⟩
theorem zd_4_22_78 : zz_D zy_greatest_4_22 78 (.ireturn) 1 79 := ⟨zq_172 zg_4_22_0.2.2.2.2.2.2.2.2.2.2.2.2.2.2.2.2.2.2.1, rfl⟩
theorem zd_4_22_16 : zz_D zy_greatest_4_22 16 (.iconst 0) 1 17 := ⟨zq_3 zg_4_22_0.2.2.2.2.2.2.2.2.2.2.2.2.2.2.2.2.2.2.2.1, rfl⟩
theorem zd_4_22_17 : zz_D zy_greatest_4_22 17 (.istore 8) 2 19 := ⟨zq_54 zg_4_22_0.2.2.2.2.2.2.2.2.2.2.2.2.2.2.2.2.2.2.2.2.1 zg_4_22_0.2.2.2.2.2.2.2.2.2.2.2.2.2.2.2.2.2.2.2.2.2.1, rfl⟩
theorem zd_4_22_19 : zz_D zy_greatest_4_22 19 (.iload 8) 2 21 := ⟨zq_21 zg_4_22_0.2.2.2.2.2.2.2.2.2.2.2.2.2.2.2.2.2.2.2.2.2.2.1 zg_4_22_0.2.2.2.2.2.2.2.2.2.2.2.2.2.2.2.2.2.2.2.2.2.2.2, rfl⟩
theorem zg_4_22_21 : zq_at zy_greatest_4_22.2.1 21 42 ∧ zq_at zy_greatest_4_22.2.1 22 180 ∧ zq_at zy_greatest_4_22.2.1 23 0 ∧ zq_at zy_greatest_4_22.2.1 24 26 ∧ zq_at zy_greatest_4_22.2.1 25 162 ∧ zq_at zy_greatest_4_22.2.1 26 0 ∧ zq_at zy_greatest_4_22.2.1 27 45 ∧ zq_at zy_greatest_4_22.2.1 70 132 ∧ zq_at zy_greatest_4_22.2.1 71 7 ∧ zq_at zy_greatest_4_22.2.1 72 1 ∧ zq_at zy_greatest_4_22.2.1 73 167 ∧ zq_at zy_greatest_4_22.2.1 74 255 ∧ zq_at zy_greatest_4_22.2.1 75 190 ∧ zq_at zy_greatest_4_22.2.1 28 21 ∧ zq_at zy_greatest_4_22.2.1 29 6 ∧ zq_at zy_greatest_4_22.2.1 30 43 ∧ zq_at zy_greatest_4_22.2.1 31 44 ∧ zq_at zy_greatest_4_22.2.1 32 42 ∧ zq_at zy_greatest_4_22.2.1 33 180 ∧ zq_at zy_greatest_4_22.2.1 34 0 ∧ zq_at zy_greatest_4_22.2.1 35 29 ∧ zq_at zy_greatest_4_22.2.1 36 29 ∧ zq_at zy_greatest_4_22.2.1 37 104 := by decide +kernel
theorem zd_4_22_21 : zz_D zy_greatest_4_22 21 (.aload_n 0) 1 22 := ⟨zq_42 zg_4_22_21.1, rfl⟩
theorem zd_4_22_22 : zz_D zy_greatest_4_22 22 (.getfield 26) 3 25 := ⟨zq_180 zg_4_22_21.2.1 zg_4_22_21.2.2.1 zg_4_22_21.2.2.2.1 rfl, rfl⟩
theorem zd_4_22_25 : zz_B zy_greatest_4_22 25 (Instr.if_icmp .ge) 70 28 := ⟨45, zq_162 zg_4_22_21.2.2.2.2.1 zg_4_22_21.2.2.2.2.2.1 zg_4_22_21.2.2.2.2.2.2.1 (by decide), rfl, rfl⟩
theorem zd_4_22_70 : zz_D zy_greatest_4_22 70 (.iinc 7 1) 3 73 := ⟨zq_132 zg_4_22_21.2.2.2.2.2.2.2.1 zg_4_22_21.2.2.2.2.2.2.2.2.1 zg_4_22_21.2.2.2.2.2.2.2.2.2.1 (by decide), rfl⟩
theorem zd_4_22_73 : zz_B zy_greatest_4_22 73 Instr.goto 7 76 := ⟨(-66), zq_167 zg_4_22_21.2.2.2.2.2.2.2.2.2.2.1 zg_4_22_21.2.2.2.2.2.2.2.2.2.2.2.1 zg_4_22_21.2.2.2.2.2.2.2.2.2.2.2.2.1 (by decide), rfl, rfl⟩
theorem zd_4_22_28 : zz_D zy_greatest_4_22 28 (.iload 6) 2 30 := ⟨zq_21 zg_4_22_21.2.2.2.2.2.2.2.2.2.2.2.2.2.1 zg_4_22_21.2.2.2.2.2.2.2.2.2.2.2.2.2.2.1, rfl⟩
theorem zd_4_22_30 : zz_D zy_greatest_4_22 30 (.aload_n 1) 1 31 := ⟨zq_43 zg_4_22_21.2.2.2.2.2.2.2.2.2.2.2.2.2.2.2.1, rfl⟩
theorem zd_4_22_31 : zz_D zy_greatest_4_22 31 (.aload_n 2) 1 32 := ⟨zq_44 zg_4_22_21.2.2.2.2.2.2.2.2.2.2.2.2.2.2.2.2.1, rfl⟩
theorem zd_4_22_32 : zz_D zy_greatest_4_22 32 (.aload_n 0) 1 33 := ⟨zq_42 zg_4_22_21.2.2.2.2.2.2.2.2.2.2.2.2.2.2.2.2.2.1, rfl⟩
theorem zd_4_22_33 : zz_D zy_greatest_4_22 33 (.getfield 29) 3 36 := ⟨zq_180 zg_4_22_21.2.2.2.2.2.2.2.2.2.2.2.2.2.2.2.2.2.2.1 zg_4_22_21.2.2.2.2.2.2.2.2.2.2.2.2.2.2.2.2.2.2.2.1 zg_4_22_21.2.2.2.2.2.2.2.2.2.2.2.2.2.2.2.2.2.2.2.2.1 rfl, rfl⟩
theorem zd_4_22_36 : zz_D zy_greatest_4_22 36 (.iload_n 3) 1 37 := ⟨zq_29 zg_4_22_21.2.2.2.2.2.2.2.2.2.2.2.2.2.2.2.2.2.2.2.2.2.1, rfl⟩
theorem zd_4_22_37 : zz_D zy_greatest_4_22 37 (.imul) 1 38 := ⟨zq_104 zg_4_22_21.2.2.2.2.2.2.2.2.2.2.2.2.2.2.2.2.2.2.2.2.2.2, rfl⟩
theorem zg_4_22_38 : zq_at zy_greatest_4_22.2.1 38 21 ∧ zq_at zy_greatest_4_22.2.1 39 7 ∧ zq_at zy_greatest_4_22.2.1 40 96 ∧ zq_at zy_greatest_4_22.2.1 41 42 ∧ zq_at zy_greatest_4_22.2.1 42 180 ∧ zq_at zy_greatest_4_22.2.1 43 0 ∧ zq_at zy_greatest_4_22.2.1 44 29 ∧ zq_at zy_greatest_4_22.2.1 45 21 ∧ zq_at zy_greatest_4_22.2.1 46 4 ∧ zq_at zy_greatest_4_22.2.1 47 104 ∧ zq_at zy_greatest_4_22.2.1 48 21 ∧ zq_at zy_greatest_4_22.2.1 49 8 ∧ zq_at zy_greatest_4_22.2.1 50 96 ∧ zq_at zy_greatest_4_22.2.1 51 21 ∧ zq_at zy_greatest_4_22.2.1 52 5 ∧ zq_at zy_greatest_4_22.2.1 53 182 ∧ zq_at zy_greatest_4_22.2.1 54 0 ∧ zq_at zy_greatest_4_22.2.1 55 75 ∧ zq_at zy_greatest_4_22.2.1 56 184 ∧ zq_at zy_greatest_4_22.2.1 57 0 ∧ zq_at zy_greatest_4_22.2.1 58 98 ∧ zq_at zy_greatest_4_22.2.1 59 184 ∧ zq_at zy_greatest_4_22.2.1 60 0 ∧ zq_at zy_greatest_4_22.2.1 61 121 := by decide +kernel
theorem zd_4_22_38 : zz_D zy_greatest_4_22 38 (.iload 7) 2 40 := ⟨zq_21 zg_4_22_38.1 zg_4_22_38.2.1, rfl⟩
theorem zd_4_22_40 : zz_D zy_greatest_4_22 40 (.iadd) 1 41 := ⟨zq_96 zg_4_22_38.2.2.1, rfl⟩
theorem zd_4_22_41 : zz_D zy_greatest_4_22 41 (.aload_n 0) 1 42 := ⟨zq_42 zg_4_22_38.2.2.2.1, rfl⟩
theorem zd_4_22_42 : zz_D zy_greatest_4_22 42 (.getfield 29) 3 45 := ⟨zq_180 zg_4_22_38.2.2.2.2.1 zg_4_22_38.2.2.2.2.2.1 zg_4_22_38.2.2.2.2.2.2.1 rfl, rfl⟩
theorem zd_4_22_45 : zz_D zy_greatest_4_22 45 (.iload 4) 2 47 := ⟨zq_21 zg_4_22_38.2.2.2.2.2.2.2.1 zg_4_22_38.2.2.2.2.2.2.2.2.1, rfl⟩
theorem zd_4_22_47 : zz_D zy_greatest_4_22 47 (.imul) 1 48 := ⟨zq_104 zg_4_22_38.2.2.2.2.2.2.2.2.2.1, rfl⟩
theorem zd_4_22_48 : zz_D zy_greatest_4_22 48 (.iload 8) 2 50 := ⟨zq_21 zg_4_22_38.2.2.2.2.2.2.2.2.2.2.1 zg_4_22_38.2.2.2.2.2.2.2.2.2.2.2.1, rfl⟩
theorem zd_4_22_50 : zz_D zy_greatest_4_22 50 (.iadd) 1 51 := ⟨zq_96 zg_4_22_38.2.2.2.2.2.2.2.2.2.2.2.2.1, rfl⟩
theorem zd_4_22_51 : zz_D zy_greatest_4_22 51 (.iload 5) 2 53 := ⟨zq_21 zg_4_22_38.2.2.2.2.2.2.2.2.2.2.2.2.2.1 zg_4_22_38.2.2.2.2.2.2.2.2.2.2.2.2.2.2.1, rfl⟩
theorem zd_4_22_53 : zz_D zy_greatest_4_22 53 (.invokevirtual 75) 3 56 := ⟨zq_182 zg_4_22_38.2.2.2.2.2.2.2.2.2.2.2.2.2.2.2.1 zg_4_22_38.2.2.2.2.2.2.2.2.2.2.2.2.2.2.2.2.1 zg_4_22_38.2.2.2.2.2.2.2.2.2.2.2.2.2.2.2.2.2.1 rfl, rfl⟩
theorem zd_4_22_56 : zz_D zy_greatest_4_22 56 (.invokestatic 98) 3 59 := ⟨zq_184 zg_4_22_38.2.2.2.2.2.2.2.2.2.2.2.2.2.2.2.2.2.2.1 zg_4_22_38.2.2.2.2.2.2.2.2.2.2.2.2.2.2.2.2.2.2.2.1 zg_4_22_38.2.2.2.2.2.2.2.2.2.2.2.2.2.2.2.2.2.2.2.2.1 rfl, rfl⟩
theorem zd_4_22_59 : zz_D zy_greatest_4_22 59 (.invokestatic 121) 3 62 := ⟨zq_184 zg_4_22_38.2.2.2.2.2.2.2.2.2.2.2.2.2.2.2.2.2.2.2.2.2.1 zg_4_22_38.2.2.2.2.2.2.2.2.2.2.2.2.2.2.2.2.2.2.2.2.2.2.1 zg_4_22_38.2.2.2.2.2.2.2.2.2.2.2.2.2.2.2.2.2.2.2.2.2.2.2 rfl, rfl⟩
theorem zg_4_22_62 : zq_at zy_greatest_4_22.2.1 62 54 ∧ zq_at zy_greatest_4_22.2.1 63 6 ∧ zq_at zy_greatest_4_22.2.1 64 132 ∧ zq_at zy_greatest_4_22.2.1 65 8 ∧ zq_at zy_greatest_4_22.2.1 66 1 ∧ zq_at zy_greatest_4_22.2.1 67 167 ∧ zq_at zy_greatest_4_22.2.1 68 255 ∧ zq_at zy_greatest_4_22.2.1 69 208 := by decide +kernel
theorem zd_4_22_62 : zz_D zy_greatest_4_22 62 (.istore 6) 2 64 := ⟨zq_54 zg_4_22_62.1 zg_4_22_62.2.1, rfl⟩
theorem zd_4_22_64 : zz_D zy_greatest_4_22 64 (.iinc 8 1) 3 67 := ⟨zq_132 zg_4_22_62.2.2.1 zg_4_22_62.2.2.2.1 zg_4_22_62.2.2.2.2.1 (by decide), rfl⟩
theorem zd_4_22_67 : zz_B zy_greatest_4_22 67 Instr.goto 19 70 := ⟨(-48), zq_167 zg_4_22_62.2.2.2.2.2.1 zg_4_22_62.2.2.2.2.2.2.1 zg_4_22_62.2.2.2.2.2.2.2 (by decide), rfl, rfl⟩

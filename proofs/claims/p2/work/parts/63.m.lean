-- TensorForgeModel layer (I)V
abbrev zr_layer_14_88 : Room := { frames := 7, cells := 0, slots := 0, locals := 125 }
def zp_layer_14_88 (p0 : Int) (S0 : zz_S) : zz_S → Prop := fun S => zz_G S ∧ zz_fr [(1079, 10), (1079, 50), (1079, 51), (1079, 52), (1079, 53), (1079, 54), (1079, 55), (1079, 56), (1079, 57), (1079, 60)] [1086, 1087] (fun _ _ => False) S0 S ∧ (S 1079 10 ≤ 2605 + 5 * p0)
theorem zb_layer_14_88_89 {g : mm_G} {l : Launch} (p0 : Int) (S0 : zz_S) (n : Nat) (hn : zz_end ≤ n) (G_S0 : zz_G S0) (hp0 : 0 ≤ p0 ∧ p0 ≤ 9) (hq : S0 1079 10 ≤ 2600 + 5 * p0) (x3 : Int) (x4 : Int) (x5 : Int) (S : zz_S) (G_S : zz_G S) (F_S : zz_fr [(1079, 10), (1079, 50), (1079, 51), (1079, 52), (1079, 53), (1079, 54), (1079, 55), (1079, 56), (1079, 57), (1079, 60)] [1086, 1087] (fun _ _ => False) S0 S) (i89_0 : 0 ≤ x3 ∧ x3 ≤ 63) (i89_1 : 0 ≤ x4 ∧ x4 ≤ 3969) (i89_2 : 16 ≤ x5 ∧ x5 ≤ 63) (i89_3 : 0 ≤ S 1079 56 ∧ S 1079 56 ≤ 80) (i89_4 : S 1079 10 ≤ 2600 + 5 * p0) (R : Nat) (hR : (85899345920 + (S0 1104 (p0 + 1).toNat - S 1079 56).toNat) * 1208925819614629174706176 + 1208925819614629174706175 = R) (k129 : ∀ (x3 : Int) (x4 : Int) (x5 : Int) (S : zz_S), zz_G S → zz_fr [(1079, 10), (1079, 50), (1079, 51), (1079, 52), (1079, 53), (1079, 54), (1079, 55), (1079, 56), (1079, 57), (1079, 60)] [1086, 1087] (fun _ _ => False) S0 S → (0 ≤ x3 ∧ x3 ≤ 63) → (0 ≤ x4 ∧ x4 ≤ 3969) → (16 ≤ x5 ∧ x5 ≤ 63) → (S0 1106 p0.toNat ≠ 2) → (0 ≤ S 1079 56 ∧ S 1079 56 < S0 1104 (p0 + 1).toNat) → (0 ≤ S 1079 55 ∧ S 1079 55 ≤ 64) → (S 1079 10 ≤ 2600 + 5 * p0) → (85899345920 + (S0 1104 (p0 + 1).toNat - S 1079 56).toNat) * 1208925819614629174706176 + (68719476736 + (x3 - S 1079 55).toNat) * 1099511627776 + 1099511627775 < R → zz_E g l zy_layer_14_88 zr_layer_14_88 (zz_QV n (zp_layer_14_88 p0 S0)) S n 129 [some (.ref 1079), some (zi p0), some (zi (p0 + 1)), some (zi x3), some (zi x4), some (zi x5)] [] 0 0) (k238 : ∀ (x6 : Int) (x7 : Int) (S : zz_S), zz_G S → zz_fr [(1079, 10), (1079, 50), (1079, 51), (1079, 52), (1079, 53), (1079, 54), (1079, 55), (1079, 56), (1079, 57), (1079, 60)] [1086, 1087] (fun _ _ => False) S0 S → ((-2147483648) ≤ x6 ∧ x6 ≤ 2) → (0 ≤ x7 ∧ x7 ≤ 2) → (S0 1106 p0.toNat ≠ 2) → (S 1079 10 ≤ 2600 + 5 * p0 + x7) → (34359738368 + (2 - x7).toNat) * 1208925819614629174706176 + 1208925819614629174706175 < R → zz_E g l zy_layer_14_88 zr_layer_14_88 (zz_QV n (zp_layer_14_88 p0 S0)) S n 238 [some (.ref 1079), none, none, none, none, none, some (zi x6), some (zi x7)] [] 0 0) : zz_E g l zy_layer_14_88 zr_layer_14_88 (zz_QV n (zp_layer_14_88 p0 S0)) S n 89 [some (.ref 1079), some (zi p0), some (zi (p0 + 1)), some (zi x3), some (zi x4), some (zi x5)] [] 0 0 := by
  have hch := zz_G.r G_S0 1104 (p0 + 1).toNat 0 63 rfl rfl
  refine zz_aload_n (x := 1079) rfl zd_14_88_89 ?_
  have g37 := zz_G.r G_S 1079 56 (-2147483648) 2147483647 rfl rfl
  refine zz_geti (z := S 1079 56) zd_14_88_90 zf_Md_466 zT_1079 rfl (zz_ltn hn rfl) rfl ?_
  refine zz_aload_n (x := 1079) rfl zd_14_88_93 ?_
  refine zz_getr (kd := 0) (z := 1104) zd_14_88_94 zf_Md_94 zT_1079 rfl (zz_ltn hn rfl) (zz_G.eq G_S 1079 39 1104 rfl rfl) (by decide) 1104 rfl ?_
  refine zz_iload_n (x := p0 + 1) rfl zd_14_88_97 ?_
  have g38 := zz_G.r G_S0 1104 ((p0 + 1).toNat) 0 63 rfl rfl
  refine zz_iald (z := S0 1104 ((p0 + 1).toNat)) zd_14_88_98 zT_1104 rfl (zz_ltn hn rfl) (by decide) (by omega) (zz_rc F_S (zz_nc1 rfl) rfl (fun h => h) rfl) ?_
  refine zz_icmp_ge (by omega) (by omega) zd_14_88_99 (fun c39 => ?_) (fun c39 => ?_)
  · refine zz_iconst zd_14_88_225 ?_
    refine zz_aload_n (x := 1079) rfl zd_14_88_226 ?_
    have g40 := zz_G.r G_S 1079 50 (-2147483648) 2147483647 rfl rfl
    refine zz_geti (z := S 1079 50) zd_14_88_227 zf_Md_450 zT_1079 rfl (zz_ltn hn rfl) rfl ?_
    refine zz_callSI [zi 2, zi (S 1079 50)] zd_14_88_230 zk_Md_506 rfl rfl ⟨Nat.le_of_ble_eq_true rfl, Nat.le_of_ble_eq_true rfl⟩ ⟨rfl, rfl⟩ (Nat.zero_le _) (Nat.zero_le _) (zc_least_14_85 2 (S 1079 50) S n hn G_S (by omega) (by omega)) (fun v42 S41 hP => ?_)
    obtain ⟨rfl, o43, o44⟩ := hP
    refine zz_istore [some (.ref 1079), some (zi p0), some (zi (p0 + 1)), some (zi x3), some (zi x4), some (zi x5), some (zi v42)] zd_14_88_233 (by decide) rfl ?_
    refine zz_iconst zd_14_88_235 ?_
    refine zz_istore [some (.ref 1079), some (zi p0), some (zi (p0 + 1)), some (zi x3), some (zi x4), some (zi x5), some (zi v42), some (zi 0)] zd_14_88_236 (by decide) rfl ?_
    have g45 := zz_G.r G_S 1079 10 0 1000000 rfl rfl
    refine zz_less (ls1 := [some (.ref 1079), none, none, none, none, none, some (zi v42), some (zi 0)]) ⟨rfl, ⟨rfl, ⟨rfl, trivial⟩⟩⟩ ?_
    exact k238 v42 0 S G_S F_S (by omega) (by omega) (by omega) (by omega) (by omega)
  · refine zz_aload_n (x := 1079) rfl zd_14_88_102 ?_
    refine zz_aload_n (x := 1079) rfl zd_14_88_103 ?_
    have g46 := zz_G.r G_S0 1079 1 2 8 rfl rfl
    refine zz_geti (z := S0 1079 1) zd_14_88_104 zf_Md_7 zT_1079 rfl (zz_ltn hn rfl) (zz_rc F_S rfl rfl (fun h => h) rfl) ?_
    refine zz_aload_n (x := 1079) rfl zd_14_88_107 ?_
    refine zz_getr (kd := 0) (z := 1104) zd_14_88_108 zf_Md_94 zT_1079 rfl (zz_ltn hn rfl) (zz_G.eq G_S 1079 39 1104 rfl rfl) (by decide) 1104 rfl ?_
    refine zz_iload_n (x := p0 + 1) rfl zd_14_88_111 ?_
    refine zz_iald (z := S0 1104 ((p0 + 1).toNat)) zd_14_88_112 zT_1104 rfl (zz_ltn hn rfl) (by decide) (by omega) (zz_rc F_S (zz_nc1 rfl) rfl (fun h => h) rfl) ?_
    refine zz_aload_n (x := 1079) rfl zd_14_88_113 ?_
    refine zz_geti (z := S 1079 56) zd_14_88_114 zf_Md_466 zT_1079 rfl (zz_ltn hn rfl) rfl ?_
    refine zz_isub zd_14_88_117 ?_
    refine zz_nrm (fun v47 hv47 ev47 => ?_)
    refine zz_callSI [zi (S0 1079 1), zi v47] zd_14_88_118 zk_Md_506 rfl rfl ⟨Nat.le_of_ble_eq_true rfl, Nat.le_of_ble_eq_true rfl⟩ ⟨rfl, rfl⟩ (Nat.zero_le _) (Nat.zero_le _) (zc_least_14_85 (S0 1079 1) v47 S n hn G_S (by omega) (by omega)) (fun v49 S48 hP => ?_)
    obtain ⟨rfl, o50, o51⟩ := hP
    refine zz_puti zd_14_88_121 zf_Md_472 zT_1079 rfl (zz_ltn hn rfl) (fun S52 qS52 => ?_)
    have G_S52 := zz_G.put G_S qS52 (-2147483648) 2147483647 rfl (by omega)
    have F_S52 := zz_fr.puts F_S qS52 rfl
    refine zz_aload_n (x := 1079) rfl zd_14_88_124 ?_
    refine zz_iconst zd_14_88_125 ?_
    refine zz_puti zd_14_88_126 zf_Md_495 zT_1079 rfl (zz_ltn hn rfl) (fun S53 qS53 => ?_)
    have G_S53 := zz_G.put G_S52 qS53 (-2147483648) 2147483647 rfl (by omega)
    have F_S53 := zz_fr.puts F_S52 qS53 rfl
    have e54 : S53 1079 56 = S 1079 56 := (zz_ro qS53 (fun h => absurd h.2 (by decide)) (zz_ro qS52 (fun h => absurd h.2 (by decide)) rfl))
    have e55 : S53 1079 55 = 0 := (zz_rs qS53)
    have g56 := zz_G.r G_S 1079 10 0 1000000 rfl rfl
    have e57 : S53 1079 10 = S 1079 10 := (zz_ro qS53 (fun h => absurd h.2 (by decide)) (zz_ro qS52 (fun h => absurd h.2 (by decide)) rfl))
    exact k129 x3 x4 x5 S53 G_S53 F_S53 (by omega) (by omega) (by omega) (by omega) (by omega) (by omega) (by omega) (by omega)
theorem zb_layer_14_88_129 {g : mm_G} {l : Launch} (p0 : Int) (S0 : zz_S) (n : Nat) (hn : zz_end ≤ n) (G_S0 : zz_G S0) (hp0 : 0 ≤ p0 ∧ p0 ≤ 9) (hq : S0 1079 10 ≤ 2600 + 5 * p0) (x3 : Int) (x4 : Int) (x5 : Int) (S : zz_S) (G_S : zz_G S) (F_S : zz_fr [(1079, 10), (1079, 50), (1079, 51), (1079, 52), (1079, 53), (1079, 54), (1079, 55), (1079, 56), (1079, 57), (1079, 60)] [1086, 1087] (fun _ _ => False) S0 S) (i129_0 : 0 ≤ x3 ∧ x3 ≤ 63) (i129_1 : 0 ≤ x4 ∧ x4 ≤ 3969) (i129_2 : 16 ≤ x5 ∧ x5 ≤ 63) (i129_3 : S0 1106 p0.toNat ≠ 2) (i129_4 : 0 ≤ S 1079 56 ∧ S 1079 56 < S0 1104 (p0 + 1).toNat) (i129_5 : 0 ≤ S 1079 55 ∧ S 1079 55 ≤ 64) (i129_6 : S 1079 10 ≤ 2600 + 5 * p0) (R : Nat) (hR : (85899345920 + (S0 1104 (p0 + 1).toNat - S 1079 56).toNat) * 1208925819614629174706176 + (68719476736 + (x3 - S 1079 55).toNat) * 1099511627776 + 1099511627775 = R) (k89 : ∀ (x3 : Int) (x4 : Int) (x5 : Int) (S : zz_S), zz_G S → zz_fr [(1079, 10), (1079, 50), (1079, 51), (1079, 52), (1079, 53), (1079, 54), (1079, 55), (1079, 56), (1079, 57), (1079, 60)] [1086, 1087] (fun _ _ => False) S0 S → (0 ≤ x3 ∧ x3 ≤ 63) → (0 ≤ x4 ∧ x4 ≤ 3969) → (16 ≤ x5 ∧ x5 ≤ 63) → (0 ≤ S 1079 56 ∧ S 1079 56 ≤ 80) → (S 1079 10 ≤ 2600 + 5 * p0) → (85899345920 + (S0 1104 (p0 + 1).toNat - S 1079 56).toNat) * 1208925819614629174706176 + 1208925819614629174706175 < R → zz_E g l zy_layer_14_88 zr_layer_14_88 (zz_QV n (zp_layer_14_88 p0 S0)) S n 89 [some (.ref 1079), some (zi p0), some (zi (p0 + 1)), some (zi x3), some (zi x4), some (zi x5)] [] 0 0) (k142 : ∀ (x3 : Int) (x4 : Int) (x5 : Int) (S : zz_S), zz_G S → zz_fr [(1079, 10), (1079, 50), (1079, 51), (1079, 52), (1079, 53), (1079, 54), (1079, 55), (1079, 56), (1079, 57), (1079, 60)] [1086, 1087] (fun _ _ => False) S0 S → (0 ≤ x3 ∧ x3 ≤ 63) → (0 ≤ x4 ∧ x4 ≤ 3969) → (16 ≤ x5 ∧ x5 ≤ 63) → (S0 1106 p0.toNat ≠ 2) → (0 ≤ S 1079 56 ∧ S 1079 56 < S0 1104 (p0 + 1).toNat) → (0 ≤ S 1079 55 ∧ S 1079 55 < x3) → (0 ≤ S 1079 54 ∧ S 1079 54 ≤ 4100) → (S 1079 10 ≤ 2600 + 5 * p0) → (85899345920 + (S0 1104 (p0 + 1).toNat - S 1079 56).toNat) * 1208925819614629174706176 + (68719476736 + (x3 - S 1079 55).toNat) * 1099511627776 + (51539607552 + (x4 - S 1079 54).toNat) < R → zz_E g l zy_layer_14_88 zr_layer_14_88 (zz_QV n (zp_layer_14_88 p0 S0)) S n 142 [some (.ref 1079), some (zi p0), some (zi (p0 + 1)), some (zi x3), some (zi x4), some (zi x5)] [] 0 0) : zz_E g l zy_layer_14_88 zr_layer_14_88 (zz_QV n (zp_layer_14_88 p0 S0)) S n 129 [some (.ref 1079), some (zi p0), some (zi (p0 + 1)), some (zi x3), some (zi x4), some (zi x5)] [] 0 0 := by
  have hch := zz_G.r G_S0 1104 (p0 + 1).toNat 0 63 rfl rfl
  refine zz_aload_n (x := 1079) rfl zd_14_88_129 ?_
  have g79 := zz_G.r G_S 1079 55 (-2147483648) 2147483647 rfl rfl
  refine zz_geti (z := S 1079 55) zd_14_88_130 zf_Md_495 zT_1079 rfl (zz_ltn hn rfl) rfl ?_
  refine zz_iload_n (x := x3) rfl zd_14_88_133 ?_
  refine zz_icmp_ge (by omega) (by omega) zd_14_88_134 (fun c80 => ?_) (fun c80 => ?_)
  · refine zz_aload_n (x := 1079) rfl zd_14_88_209 ?_
    refine zz_aload_n (x := 1079) rfl zd_14_88_210 ?_
    have g81 := zz_G.r G_S 1079 56 (-2147483648) 2147483647 rfl rfl
    refine zz_geti (z := S 1079 56) zd_14_88_211 zf_Md_466 zT_1079 rfl (zz_ltn hn rfl) rfl ?_
    refine zz_aload_n (x := 1079) rfl zd_14_88_214 ?_
    have g82 := zz_G.r G_S0 1079 1 2 8 rfl rfl
    refine zz_geti (z := S0 1079 1) zd_14_88_215 zf_Md_7 zT_1079 rfl (zz_ltn hn rfl) (zz_rc F_S rfl rfl (fun h => h) rfl) ?_
    refine zz_iadd zd_14_88_218 ?_
    refine zz_nrm (fun v83 hv83 ev83 => ?_)
    refine zz_puti zd_14_88_219 zf_Md_466 zT_1079 rfl (zz_ltn hn rfl) (fun S84 qS84 => ?_)
    have G_S84 := zz_G.put G_S qS84 (-2147483648) 2147483647 rfl (by omega)
    have F_S84 := zz_fr.puts F_S qS84 rfl
    refine zz_goto zd_14_88_222 ?_
    have e85 : S84 1079 56 = v83 := (zz_rs qS84)
    have g86 := zz_G.r G_S 1079 10 0 1000000 rfl rfl
    have e87 : S84 1079 10 = S 1079 10 := (zz_ro qS84 (fun h => absurd h.2 (by decide)) rfl)
    exact k89 x3 x4 x5 S84 G_S84 F_S84 (by omega) (by omega) (by omega) (by omega) (by omega) (by omega)
  · refine zz_aload_n (x := 1079) rfl zd_14_88_137 ?_
    refine zz_iconst zd_14_88_138 ?_
    refine zz_puti zd_14_88_139 zf_Md_492 zT_1079 rfl (zz_ltn hn rfl) (fun S88 qS88 => ?_)
    have G_S88 := zz_G.put G_S qS88 (-2147483648) 2147483647 rfl (by omega)
    have F_S88 := zz_fr.puts F_S qS88 rfl
    have g89 := zz_G.r G_S 1079 56 (-2147483648) 2147483647 rfl rfl
    have e90 : S88 1079 56 = S 1079 56 := (zz_ro qS88 (fun h => absurd h.2 (by decide)) rfl)
    have e91 : S88 1079 55 = S 1079 55 := (zz_ro qS88 (fun h => absurd h.2 (by decide)) rfl)
    have e92 : S88 1079 54 = 0 := (zz_rs qS88)
    have g93 := zz_G.r G_S 1079 10 0 1000000 rfl rfl
    have e94 : S88 1079 10 = S 1079 10 := (zz_ro qS88 (fun h => absurd h.2 (by decide)) rfl)
    exact k142 x3 x4 x5 S88 G_S88 F_S88 (by omega) (by omega) (by omega) (by omega) (by omega) (by omega) (by omega) (by omega) (by omega)
theorem zb_layer_14_88_142 {g : mm_G} {l : Launch} (p0 : Int) (S0 : zz_S) (n : Nat) (hn : zz_end ≤ n) (G_S0 : zz_G S0) (hp0 : 0 ≤ p0 ∧ p0 ≤ 9) (hq : S0 1079 10 ≤ 2600 + 5 * p0) (x3 : Int) (x4 : Int) (x5 : Int) (S : zz_S) (G_S : zz_G S) (F_S : zz_fr [(1079, 10), (1079, 50), (1079, 51), (1079, 52), (1079, 53), (1079, 54), (1079, 55), (1079, 56), (1079, 57), (1079, 60)] [1086, 1087] (fun _ _ => False) S0 S) (i142_0 : 0 ≤ x3 ∧ x3 ≤ 63) (i142_1 : 0 ≤ x4 ∧ x4 ≤ 3969) (i142_2 : 16 ≤ x5 ∧ x5 ≤ 63) (i142_3 : S0 1106 p0.toNat ≠ 2) (i142_4 : 0 ≤ S 1079 56 ∧ S 1079 56 < S0 1104 (p0 + 1).toNat) (i142_5 : 0 ≤ S 1079 55 ∧ S 1079 55 < x3) (i142_6 : 0 ≤ S 1079 54 ∧ S 1079 54 ≤ 4100) (i142_7 : S 1079 10 ≤ 2600 + 5 * p0) (R : Nat) (hR : (85899345920 + (S0 1104 (p0 + 1).toNat - S 1079 56).toNat) * 1208925819614629174706176 + (68719476736 + (x3 - S 1079 55).toNat) * 1099511627776 + (51539607552 + (x4 - S 1079 54).toNat) = R) (k129 : ∀ (x3 : Int) (x4 : Int) (x5 : Int) (S : zz_S), zz_G S → zz_fr [(1079, 10), (1079, 50), (1079, 51), (1079, 52), (1079, 53), (1079, 54), (1079, 55), (1079, 56), (1079, 57), (1079, 60)] [1086, 1087] (fun _ _ => False) S0 S → (0 ≤ x3 ∧ x3 ≤ 63) → (0 ≤ x4 ∧ x4 ≤ 3969) → (16 ≤ x5 ∧ x5 ≤ 63) → (S0 1106 p0.toNat ≠ 2) → (0 ≤ S 1079 56 ∧ S 1079 56 < S0 1104 (p0 + 1).toNat) → (0 ≤ S 1079 55 ∧ S 1079 55 ≤ 64) → (S 1079 10 ≤ 2600 + 5 * p0) → (85899345920 + (S0 1104 (p0 + 1).toNat - S 1079 56).toNat) * 1208925819614629174706176 + (68719476736 + (x3 - S 1079 55).toNat) * 1099511627776 + 1099511627775 < R → zz_E g l zy_layer_14_88 zr_layer_14_88 (zz_QV n (zp_layer_14_88 p0 S0)) S n 129 [some (.ref 1079), some (zi p0), some (zi (p0 + 1)), some (zi x3), some (zi x4), some (zi x5)] [] 0 0) (k142 : ∀ (x3 : Int) (x4 : Int) (x5 : Int) (S : zz_S), zz_G S → zz_fr [(1079, 10), (1079, 50), (1079, 51), (1079, 52), (1079, 53), (1079, 54), (1079, 55), (1079, 56), (1079, 57), (1079, 60)] [1086, 1087] (fun _ _ => False) S0 S → (0 ≤ x3 ∧ x3 ≤ 63) → (0 ≤ x4 ∧ x4 ≤ 3969) → (16 ≤ x5 ∧ x5 ≤ 63) → (S0 1106 p0.toNat ≠ 2) → (0 ≤ S 1079 56 ∧ S 1079 56 < S0 1104 (p0 + 1).toNat) → (0 ≤ S 1079 55 ∧ S 1079 55 < x3) → (0 ≤ S 1079 54 ∧ S 1079 54 ≤ 4100) → (S 1079 10 ≤ 2600 + 5 * p0) → (85899345920 + (S0 1104 (p0 + 1).toNat - S 1079 56).toNat) * 1208925819614629174706176 + (68719476736 + (x3 - S 1079 55).toNat) * 1099511627776 + (51539607552 + (x4 - S 1079 54).toNat) < R → zz_E g l zy_layer_14_88 zr_layer_14_88 (zz_QV n (zp_layer_14_88 p0 S0)) S n 142 [some (.ref 1079), some (zi p0), some (zi (p0 + 1)), some (zi x3), some (zi x4), some (zi x5)] [] 0 0) : zz_E g l zy_layer_14_88 zr_layer_14_88 (zz_QV n (zp_layer_14_88 p0 S0)) S n 142 [some (.ref 1079), some (zi p0), some (zi (p0 + 1)), some (zi x3), some (zi x4), some (zi x5)] [] 0 0 := by
  have hch := zz_G.r G_S0 1104 (p0 + 1).toNat 0 63 rfl rfl
  refine zz_aload_n (x := 1079) rfl zd_14_88_142 ?_
  have g110 := zz_G.r G_S 1079 54 (-2147483648) 2147483647 rfl rfl
  refine zz_geti (z := S 1079 54) zd_14_88_143 zf_Md_492 zT_1079 rfl (zz_ltn hn rfl) rfl ?_
  refine zz_iload (x := x4) rfl zd_14_88_146 ?_
  refine zz_icmp_ge (by omega) (by omega) zd_14_88_148 (fun c111 => ?_) (fun c111 => ?_)
  · refine zz_aload_n (x := 1079) rfl zd_14_88_196 ?_
    refine zz_dup rfl zd_14_88_197 ?_
    have g112 := zz_G.r G_S 1079 55 (-2147483648) 2147483647 rfl rfl
    refine zz_geti (z := S 1079 55) zd_14_88_198 zf_Md_495 zT_1079 rfl (zz_ltn hn rfl) rfl ?_
    refine zz_iconst zd_14_88_201 ?_
    refine zz_iadd zd_14_88_202 ?_
    refine zz_nrm (fun v113 hv113 ev113 => ?_)
    refine zz_puti zd_14_88_203 zf_Md_495 zT_1079 rfl (zz_ltn hn rfl) (fun S114 qS114 => ?_)
    have G_S114 := zz_G.put G_S qS114 (-2147483648) 2147483647 rfl (by omega)
    have F_S114 := zz_fr.puts F_S qS114 rfl
    refine zz_goto zd_14_88_206 ?_
    have g115 := zz_G.r G_S 1079 56 (-2147483648) 2147483647 rfl rfl
    have e116 : S114 1079 56 = S 1079 56 := (zz_ro qS114 (fun h => absurd h.2 (by decide)) rfl)
    have e117 : S114 1079 55 = v113 := (zz_rs qS114)
    have g118 := zz_G.r G_S 1079 10 0 1000000 rfl rfl
    have e119 : S114 1079 10 = S 1079 10 := (zz_ro qS114 (fun h => absurd h.2 (by decide)) rfl)
    exact k129 x3 x4 x5 S114 G_S114 F_S114 (by omega) (by omega) (by omega) (by omega) (by omega) (by omega) (by omega) (by omega)
  · refine zz_aload_n (x := 1079) rfl zd_14_88_151 ?_
    refine zz_iload (x := x5) rfl zd_14_88_152 ?_
    refine zz_iload (x := x4) rfl zd_14_88_154 ?_
    refine zz_aload_n (x := 1079) rfl zd_14_88_156 ?_
    refine zz_geti (z := S 1079 54) zd_14_88_157 zf_Md_492 zT_1079 rfl (zz_ltn hn rfl) rfl ?_
    refine zz_isub zd_14_88_160 ?_
    refine zz_nrm (fun v120 hv120 ev120 => ?_)
    refine zz_callSI [zi x5, zi v120] zd_14_88_161 zk_Md_506 rfl rfl ⟨Nat.le_of_ble_eq_true rfl, Nat.le_of_ble_eq_true rfl⟩ ⟨rfl, rfl⟩ (Nat.zero_le _) (Nat.zero_le _) (zc_least_14_85 x5 v120 S n hn G_S (by omega) (by omega)) (fun v122 S121 hP => ?_)
    obtain ⟨rfl, o123, o124⟩ := hP
    refine zz_puti zd_14_88_164 zf_Md_469 zT_1079 rfl (zz_ltn hn rfl) (fun S125 qS125 => ?_)
    have G_S125 := zz_G.put G_S qS125 (-2147483648) 2147483647 rfl (by omega)
    have F_S125 := zz_fr.puts F_S qS125 rfl
    refine zz_aload_n (x := 1079) rfl zd_14_88_167 ?_
    have g126 := zz_G.r G_S 1079 10 0 1000000 rfl rfl
    refine zz_geti (z := S 1079 10) zd_14_88_168 zf_Md_372 zT_1079 rfl (zz_ltn hn rfl) (zz_ro qS125 (fun h => absurd h.2 (by decide)) rfl) ?_
    refine zz_sipush (by decide) zd_14_88_171 ?_
    refine zz_icmp_gt (by omega) (by omega) zd_14_88_174 (fun c127 => ?_) (fun c127 => ?_)
    · refine zz_aload_n (x := 1079) rfl zd_14_88_182 ?_
      refine zz_aload_n (x := 1079) rfl zd_14_88_183 ?_
      refine zz_geti (z := S 1079 54) zd_14_88_184 zf_Md_492 zT_1079 rfl (zz_ltn hn rfl) (zz_ro qS125 (fun h => absurd h.2 (by decide)) rfl) ?_
      refine zz_iload (x := x5) rfl zd_14_88_187 ?_
      refine zz_iadd zd_14_88_189 ?_
      refine zz_puti zd_14_88_190 zf_Md_492 zT_1079 rfl (zz_ltn hn rfl) (fun S128 qS128 => ?_)
      have G_S128 := zz_G.put G_S125 qS128 (-2147483648) 2147483647 rfl (by omega)
      have F_S128 := zz_fr.puts F_S125 qS128 rfl
      refine zz_goto zd_14_88_193 ?_
      have g129 := zz_G.r G_S 1079 56 (-2147483648) 2147483647 rfl rfl
      have e130 : S128 1079 56 = S 1079 56 := (zz_ro qS128 (fun h => absurd h.2 (by decide)) (zz_ro qS125 (fun h => absurd h.2 (by decide)) rfl))
      have g131 := zz_G.r G_S 1079 55 (-2147483648) 2147483647 rfl rfl
      have e132 : S128 1079 55 = S 1079 55 := (zz_ro qS128 (fun h => absurd h.2 (by decide)) (zz_ro qS125 (fun h => absurd h.2 (by decide)) rfl))
      have e133 : S128 1079 54 = (S 1079 54) + x5 := (zz_rs qS128)
      have e134 : S128 1079 10 = S 1079 10 := (zz_ro qS128 (fun h => absurd h.2 (by decide)) (zz_ro qS125 (fun h => absurd h.2 (by decide)) rfl))
      exact k142 x3 x4 x5 S128 G_S128 F_S128 (by omega) (by omega) (by omega) (by omega) (by omega) (by omega) (by omega) (by omega) (by omega)
    · refine zz_aload_n (x := 1079) rfl zd_14_88_177 ?_
      refine zz_iload_n (x := p0) rfl zd_14_88_178 ?_
      have e135 : S125 1079 10 = S 1079 10 := (zz_ro qS125 (fun h => absurd h.2 (by decide)) rfl)
      refine zz_callVV [zi p0] zd_14_88_179 zk_Md_509 zT_1079 (zz_ltn hn rfl) rfl rfl ⟨Nat.le_of_ble_eq_true rfl, Nat.le_of_ble_eq_true rfl⟩ ⟨rfl, rfl⟩ (Nat.zero_le _) (Nat.zero_le _) (zc_tile_14_87 p0 S125 n hn G_S125 (by omega) (by omega)) (fun S136 hP => ?_)
      obtain ⟨G_S136, fS136, o138⟩ := hP
      have F_S136 := zz_fr.trans F_S125 fS136 rfl zz_nv
      refine zz_aload_n (x := 1079) rfl zd_14_88_182 ?_
      refine zz_aload_n (x := 1079) rfl zd_14_88_183 ?_
      refine zz_geti (z := S 1079 54) zd_14_88_184 zf_Md_492 zT_1079 rfl (zz_ltn hn rfl) (zz_rc fS136 rfl rfl (fun h => h) (zz_ro qS125 (fun h => absurd h.2 (by decide)) rfl)) ?_
      refine zz_iload (x := x5) rfl zd_14_88_187 ?_
      refine zz_iadd zd_14_88_189 ?_
      refine zz_puti zd_14_88_190 zf_Md_492 zT_1079 rfl (zz_ltn hn rfl) (fun S139 qS139 => ?_)
      have G_S139 := zz_G.put G_S136 qS139 (-2147483648) 2147483647 rfl (by omega)
      have F_S139 := zz_fr.puts F_S136 qS139 rfl
      refine zz_goto zd_14_88_193 ?_
      have g140 := zz_G.r G_S 1079 56 (-2147483648) 2147483647 rfl rfl
      have e141 : S139 1079 56 = S 1079 56 := (zz_ro qS139 (fun h => absurd h.2 (by decide)) (zz_rc fS136 rfl rfl (fun h => h) (zz_ro qS125 (fun h => absurd h.2 (by decide)) rfl)))
      have g142 := zz_G.r G_S 1079 55 (-2147483648) 2147483647 rfl rfl
      have e143 : S139 1079 55 = S 1079 55 := (zz_ro qS139 (fun h => absurd h.2 (by decide)) (zz_rc fS136 rfl rfl (fun h => h) (zz_ro qS125 (fun h => absurd h.2 (by decide)) rfl)))
      have e144 : S139 1079 54 = (S 1079 54) + x5 := (zz_rs qS139)
      have g145 := zz_G.r G_S136 1079 10 0 1000000 rfl rfl
      have e146 : S139 1079 10 = S136 1079 10 := (zz_ro qS139 (fun h => absurd h.2 (by decide)) rfl)
      exact k142 x3 x4 x5 S139 G_S139 F_S139 (by omega) (by omega) (by omega) (by omega) (by omega) (by omega) (by omega) (by omega) (by omega)
theorem zb_layer_14_88_238 {g : mm_G} {l : Launch} (p0 : Int) (S0 : zz_S) (n : Nat) (hn : zz_end ≤ n) (G_S0 : zz_G S0) (hp0 : 0 ≤ p0 ∧ p0 ≤ 9) (hq : S0 1079 10 ≤ 2600 + 5 * p0) (x6 : Int) (x7 : Int) (S : zz_S) (G_S : zz_G S) (F_S : zz_fr [(1079, 10), (1079, 50), (1079, 51), (1079, 52), (1079, 53), (1079, 54), (1079, 55), (1079, 56), (1079, 57), (1079, 60)] [1086, 1087] (fun _ _ => False) S0 S) (i238_0 : (-2147483648) ≤ x6 ∧ x6 ≤ 2) (i238_1 : 0 ≤ x7 ∧ x7 ≤ 2) (i238_2 : S0 1106 p0.toNat ≠ 2) (i238_3 : S 1079 10 ≤ 2600 + 5 * p0 + x7) (R : Nat) (hR : (34359738368 + (2 - x7).toNat) * 1208925819614629174706176 + 1208925819614629174706175 = R) (k238 : ∀ (x6 : Int) (x7 : Int) (S : zz_S), zz_G S → zz_fr [(1079, 10), (1079, 50), (1079, 51), (1079, 52), (1079, 53), (1079, 54), (1079, 55), (1079, 56), (1079, 57), (1079, 60)] [1086, 1087] (fun _ _ => False) S0 S → ((-2147483648) ≤ x6 ∧ x6 ≤ 2) → (0 ≤ x7 ∧ x7 ≤ 2) → (S0 1106 p0.toNat ≠ 2) → (S 1079 10 ≤ 2600 + 5 * p0 + x7) → (34359738368 + (2 - x7).toNat) * 1208925819614629174706176 + 1208925819614629174706175 < R → zz_E g l zy_layer_14_88 zr_layer_14_88 (zz_QV n (zp_layer_14_88 p0 S0)) S n 238 [some (.ref 1079), none, none, none, none, none, some (zi x6), some (zi x7)] [] 0 0) (k291 : ∀ (x7 : Int) (S : zz_S), zz_G S → zz_fr [(1079, 10), (1079, 50), (1079, 51), (1079, 52), (1079, 53), (1079, 54), (1079, 55), (1079, 56), (1079, 57), (1079, 60)] [1086, 1087] (fun _ _ => False) S0 S → (0 ≤ x7 ∧ x7 ≤ 3) → (S0 1106 p0.toNat ≠ 2) → (S 1079 10 ≤ 2602 + 5 * p0 + x7) → (17179869184 + (3 - x7).toNat) * 1208925819614629174706176 + 1208925819614629174706175 < R → zz_E g l zy_layer_14_88 zr_layer_14_88 (zz_QV n (zp_layer_14_88 p0 S0)) S n 291 [some (.ref 1079), none, none, none, none, none, none, some (zi x7)] [] 0 0) : zz_E g l zy_layer_14_88 zr_layer_14_88 (zz_QV n (zp_layer_14_88 p0 S0)) S n 238 [some (.ref 1079), none, none, none, none, none, some (zi x6), some (zi x7)] [] 0 0 := by
  refine zz_iload (x := x7) rfl zd_14_88_238 ?_
  refine zz_iload (x := x6) rfl zd_14_88_240 ?_
  refine zz_icmp_ge (by omega) (by omega) zd_14_88_242 (fun c58 => ?_) (fun c58 => ?_)
  · refine zz_iconst zd_14_88_288 ?_
    refine zz_istore [some (.ref 1079), none, none, none, none, none, some (zi x6), some (zi 0)] zd_14_88_289 (by decide) rfl ?_
    have g59 := zz_G.r G_S 1079 10 0 1000000 rfl rfl
    refine zz_less (ls1 := [some (.ref 1079), none, none, none, none, none, none, some (zi 0)]) ⟨rfl, ⟨rfl, trivial⟩⟩ ?_
    exact k291 0 S G_S F_S (by omega) (by omega) (by omega) (by omega)
  · refine zz_aload_n (x := 1079) rfl zd_14_88_245 ?_
    refine zz_bipush (by decide) zd_14_88_246 ?_
    refine zz_iconst zd_14_88_248 ?_
    refine zz_iconst zd_14_88_249 ?_
    refine zz_iconst zd_14_88_250 ?_
    refine zz_callVV [zi 9, zi 0, zi 0, zi 0] zd_14_88_251 zk_Md_475 zT_1079 (zz_ltn hn rfl) rfl rfl ⟨Nat.le_of_ble_eq_true rfl, Nat.le_of_ble_eq_true rfl⟩ ⟨rfl, rfl⟩ (Nat.zero_le _) (Nat.zero_le _) (zc_set_14_78 9 0 0 0 S n hn G_S (by omega) (by omega) (by omega) (by omega)) (fun S60 hP => ?_)
    obtain ⟨G_S60, fS60⟩ := hP
    have F_S60 := zz_fr.trans F_S fS60 rfl zz_nv
    refine zz_aload_n (x := 1079) rfl zd_14_88_254 ?_
    refine zz_iconst zd_14_88_255 ?_
    refine zz_iconst zd_14_88_256 ?_
    refine zz_iconst zd_14_88_257 ?_
    refine zz_iconst zd_14_88_258 ?_
    refine zz_callVV [zi 0, zi 0, zi 0, zi 1] zd_14_88_259 zk_Md_482 zT_1079 (zz_ltn hn rfl) rfl rfl ⟨Nat.le_of_ble_eq_true rfl, Nat.le_of_ble_eq_true rfl⟩ ⟨rfl, rfl⟩ (Nat.zero_le _) (Nat.zero_le _) (zc_with_14_79 0 0 0 1 S60 n hn G_S60 (by omega) (by omega) (by omega) (by omega)) (fun S62 hP => ?_)
    obtain ⟨G_S62, fS62⟩ := hP
    have F_S62 := zz_fr.trans F_S60 fS62 rfl zz_nv
    refine zz_aload_n (x := 1079) rfl zd_14_88_262 ?_
    refine zz_iconst zd_14_88_263 ?_
    refine zz_iload (x := x7) rfl zd_14_88_264 ?_
    refine zz_iload (x := x6) rfl zd_14_88_266 ?_
    refine zz_iconst zd_14_88_268 ?_
    refine zz_isub zd_14_88_269 ?_
    refine zz_icmp_ne (by omega) (by omega) zd_14_88_270 (fun c64 => ?_) (fun c64 => ?_)
    · refine zz_iconst zd_14_88_277 ?_
      refine zz_ior (by omega) (by omega) zd_14_88_278 (fun v65 hv65 av65 ev65 => ?_)
      have g66 := zz_G.r G_S 1079 10 0 1000000 rfl rfl
      have e67 : S62 1079 10 = S 1079 10 := (zz_rc fS62 rfl rfl (fun h => h) (zz_rc fS60 rfl rfl (fun h => h) rfl))
      refine zz_callVV [zi v65] zd_14_88_279 zk_Md_459 zT_1079 (zz_ltn hn rfl) rfl rfl ⟨Nat.le_of_ble_eq_true rfl, Nat.le_of_ble_eq_true rfl⟩ ⟨rfl, rfl⟩ (Nat.zero_le _) (Nat.zero_le _) (zc_emit_14_77 v65 S62 n hn G_S62 (by omega) (by omega)) (fun S68 hP => ?_)
      obtain ⟨G_S68, fS68, o70⟩ := hP
      have F_S68 := zz_fr.trans F_S62 fS68 rfl zz_nv
      refine zz_iinc [some (.ref 1079), none, none, none, none, none, some (zi x6), some (zi (x7 + 1))] zd_14_88_282 rfl rfl ?_
      refine zz_goto zd_14_88_285 ?_
      have g71 := zz_G.r G_S68 1079 10 0 1000000 rfl rfl
      refine zz_less (ls1 := [some (.ref 1079), none, none, none, none, none, some (zi x6), some (zi (x7 + 1))]) ⟨rfl, ⟨rfl, ⟨rfl, trivial⟩⟩⟩ ?_
      exact k238 x6 (x7 + 1) S68 G_S68 F_S68 (by omega) (by omega) (by omega) (by omega) (by omega)
    · refine zz_iconst zd_14_88_273 ?_
      refine zz_goto zd_14_88_274 ?_
      refine zz_ior (by omega) (by omega) zd_14_88_278 (fun v72 hv72 av72 ev72 => ?_)
      have g73 := zz_G.r G_S 1079 10 0 1000000 rfl rfl
      have e74 : S62 1079 10 = S 1079 10 := (zz_rc fS62 rfl rfl (fun h => h) (zz_rc fS60 rfl rfl (fun h => h) rfl))
      refine zz_callVV [zi v72] zd_14_88_279 zk_Md_459 zT_1079 (zz_ltn hn rfl) rfl rfl ⟨Nat.le_of_ble_eq_true rfl, Nat.le_of_ble_eq_true rfl⟩ ⟨rfl, rfl⟩ (Nat.zero_le _) (Nat.zero_le _) (zc_emit_14_77 v72 S62 n hn G_S62 (by omega) (by omega)) (fun S75 hP => ?_)
      obtain ⟨G_S75, fS75, o77⟩ := hP
      have F_S75 := zz_fr.trans F_S62 fS75 rfl zz_nv
      refine zz_iinc [some (.ref 1079), none, none, none, none, none, some (zi x6), some (zi (x7 + 1))] zd_14_88_282 rfl rfl ?_
      refine zz_goto zd_14_88_285 ?_
      have g78 := zz_G.r G_S75 1079 10 0 1000000 rfl rfl
      refine zz_less (ls1 := [some (.ref 1079), none, none, none, none, none, some (zi x6), some (zi (x7 + 1))]) ⟨rfl, ⟨rfl, ⟨rfl, trivial⟩⟩⟩ ?_
      exact k238 x6 (x7 + 1) S75 G_S75 F_S75 (by omega) (by omega) (by omega) (by omega) (by omega)
theorem zb_layer_14_88_291 {g : mm_G} {l : Launch} (p0 : Int) (S0 : zz_S) (n : Nat) (hn : zz_end ≤ n) (G_S0 : zz_G S0) (hp0 : 0 ≤ p0 ∧ p0 ≤ 9) (hq : S0 1079 10 ≤ 2600 + 5 * p0) (x7 : Int) (S : zz_S) (G_S : zz_G S) (F_S : zz_fr [(1079, 10), (1079, 50), (1079, 51), (1079, 52), (1079, 53), (1079, 54), (1079, 55), (1079, 56), (1079, 57), (1079, 60)] [1086, 1087] (fun _ _ => False) S0 S) (i291_0 : 0 ≤ x7 ∧ x7 ≤ 3) (i291_1 : S0 1106 p0.toNat ≠ 2) (i291_2 : S 1079 10 ≤ 2602 + 5 * p0 + x7) (R : Nat) (hR : (17179869184 + (3 - x7).toNat) * 1208925819614629174706176 + 1208925819614629174706175 = R) (k291 : ∀ (x7 : Int) (S : zz_S), zz_G S → zz_fr [(1079, 10), (1079, 50), (1079, 51), (1079, 52), (1079, 53), (1079, 54), (1079, 55), (1079, 56), (1079, 57), (1079, 60)] [1086, 1087] (fun _ _ => False) S0 S → (0 ≤ x7 ∧ x7 ≤ 3) → (S0 1106 p0.toNat ≠ 2) → (S 1079 10 ≤ 2602 + 5 * p0 + x7) → (17179869184 + (3 - x7).toNat) * 1208925819614629174706176 + 1208925819614629174706175 < R → zz_E g l zy_layer_14_88 zr_layer_14_88 (zz_QV n (zp_layer_14_88 p0 S0)) S n 291 [some (.ref 1079), none, none, none, none, none, none, some (zi x7)] [] 0 0) : zz_E g l zy_layer_14_88 zr_layer_14_88 (zz_QV n (zp_layer_14_88 p0 S0)) S n 291 [some (.ref 1079), none, none, none, none, none, none, some (zi x7)] [] 0 0 := by
  refine zz_iload (x := x7) rfl zd_14_88_291 ?_
  refine zz_iconst zd_14_88_293 ?_
  refine zz_aload_n (x := 1079) rfl zd_14_88_294 ?_
  have g95 := zz_G.r G_S 1079 51 (-2147483648) 2147483647 rfl rfl
  refine zz_geti (z := S 1079 51) zd_14_88_295 zf_Md_447 zT_1079 rfl (zz_ltn hn rfl) rfl ?_
  refine zz_callSI [zi 2, zi (S 1079 51)] zd_14_88_298 zk_Md_506 rfl rfl ⟨Nat.le_of_ble_eq_true rfl, Nat.le_of_ble_eq_true rfl⟩ ⟨rfl, rfl⟩ (Nat.zero_le _) (Nat.zero_le _) (zc_least_14_85 2 (S 1079 51) S n hn G_S (by omega) (by omega)) (fun v97 S96 hP => ?_)
  obtain ⟨rfl, o98, o99⟩ := hP
  refine zz_icmp_gt (by omega) (by omega) zd_14_88_301 (fun c100 => ?_) (fun c100 => ?_)
  · have g101 := zz_G.r G_S 1079 10 0 1000000 rfl rfl
    exact zz_vret zd_14_88_324 rfl (Nat.zero_le _) (Nat.zero_le _) ⟨_, rfl, G_S, F_S, by omega⟩
  · refine zz_aload_n (x := 1079) rfl zd_14_88_304 ?_
    refine zz_bipush (by decide) zd_14_88_305 ?_
    refine zz_iconst zd_14_88_307 ?_
    refine zz_iconst zd_14_88_308 ?_
    refine zz_iconst zd_14_88_309 ?_
    refine zz_callVV [zi 9, zi 0, zi 0, zi 0] zd_14_88_310 zk_Md_475 zT_1079 (zz_ltn hn rfl) rfl rfl ⟨Nat.le_of_ble_eq_true rfl, Nat.le_of_ble_eq_true rfl⟩ ⟨rfl, rfl⟩ (Nat.zero_le _) (Nat.zero_le _) (zc_set_14_78 9 0 0 0 S n hn G_S (by omega) (by omega) (by omega) (by omega)) (fun S102 hP => ?_)
    obtain ⟨G_S102, fS102⟩ := hP
    have F_S102 := zz_fr.trans F_S fS102 rfl zz_nv
    refine zz_aload_n (x := 1079) rfl zd_14_88_313 ?_
    refine zz_iconst zd_14_88_314 ?_
    have g104 := zz_G.r G_S 1079 10 0 1000000 rfl rfl
    have e105 : S102 1079 10 = S 1079 10 := (zz_rc fS102 rfl rfl (fun h => h) rfl)
    refine zz_callVV [zi 2] zd_14_88_315 zk_Md_459 zT_1079 (zz_ltn hn rfl) rfl rfl ⟨Nat.le_of_ble_eq_true rfl, Nat.le_of_ble_eq_true rfl⟩ ⟨rfl, rfl⟩ (Nat.zero_le _) (Nat.zero_le _) (zc_emit_14_77 2 S102 n hn G_S102 (by omega) (by omega)) (fun S106 hP => ?_)
    obtain ⟨G_S106, fS106, o108⟩ := hP
    have F_S106 := zz_fr.trans F_S102 fS106 rfl zz_nv
    refine zz_iinc [some (.ref 1079), none, none, none, none, none, none, some (zi (x7 + 1))] zd_14_88_318 rfl rfl ?_
    refine zz_goto zd_14_88_321 ?_
    have g109 := zz_G.r G_S106 1079 10 0 1000000 rfl rfl
    refine zz_less (ls1 := [some (.ref 1079), none, none, none, none, none, none, some (zi (x7 + 1))]) ⟨rfl, ⟨rfl, trivial⟩⟩ ?_
    exact k291 (x7 + 1) S106 G_S106 F_S106 (by omega) (by omega) (by omega) (by omega)
theorem zi_layer_14_88 {g : mm_G} {l : Launch} (p0 : Int) (S0 : zz_S) (n : Nat) (hn : zz_end ≤ n) (G_S0 : zz_G S0) (hp0 : 0 ≤ p0 ∧ p0 ≤ 9) (hq : S0 1079 10 ≤ 2600 + 5 * p0) : ∀ N : Nat, (∀ (x3 : Int) (x4 : Int) (x5 : Int) (S : zz_S), zz_G S → zz_fr [(1079, 10), (1079, 50), (1079, 51), (1079, 52), (1079, 53), (1079, 54), (1079, 55), (1079, 56), (1079, 57), (1079, 60)] [1086, 1087] (fun _ _ => False) S0 S → (0 ≤ x3 ∧ x3 ≤ 63) → (0 ≤ x4 ∧ x4 ≤ 3969) → (16 ≤ x5 ∧ x5 ≤ 63) → (0 ≤ S 1079 56 ∧ S 1079 56 ≤ 80) → (S 1079 10 ≤ 2600 + 5 * p0) → (85899345920 + (S0 1104 (p0 + 1).toNat - S 1079 56).toNat) * 1208925819614629174706176 + 1208925819614629174706175 < N → zz_E g l zy_layer_14_88 zr_layer_14_88 (zz_QV n (zp_layer_14_88 p0 S0)) S n 89 [some (.ref 1079), some (zi p0), some (zi (p0 + 1)), some (zi x3), some (zi x4), some (zi x5)] [] 0 0) ∧ (∀ (x3 : Int) (x4 : Int) (x5 : Int) (S : zz_S), zz_G S → zz_fr [(1079, 10), (1079, 50), (1079, 51), (1079, 52), (1079, 53), (1079, 54), (1079, 55), (1079, 56), (1079, 57), (1079, 60)] [1086, 1087] (fun _ _ => False) S0 S → (0 ≤ x3 ∧ x3 ≤ 63) → (0 ≤ x4 ∧ x4 ≤ 3969) → (16 ≤ x5 ∧ x5 ≤ 63) → (S0 1106 p0.toNat ≠ 2) → (0 ≤ S 1079 56 ∧ S 1079 56 < S0 1104 (p0 + 1).toNat) → (0 ≤ S 1079 55 ∧ S 1079 55 ≤ 64) → (S 1079 10 ≤ 2600 + 5 * p0) → (85899345920 + (S0 1104 (p0 + 1).toNat - S 1079 56).toNat) * 1208925819614629174706176 + (68719476736 + (x3 - S 1079 55).toNat) * 1099511627776 + 1099511627775 < N → zz_E g l zy_layer_14_88 zr_layer_14_88 (zz_QV n (zp_layer_14_88 p0 S0)) S n 129 [some (.ref 1079), some (zi p0), some (zi (p0 + 1)), some (zi x3), some (zi x4), some (zi x5)] [] 0 0) ∧ (∀ (x3 : Int) (x4 : Int) (x5 : Int) (S : zz_S), zz_G S → zz_fr [(1079, 10), (1079, 50), (1079, 51), (1079, 52), (1079, 53), (1079, 54), (1079, 55), (1079, 56), (1079, 57), (1079, 60)] [1086, 1087] (fun _ _ => False) S0 S → (0 ≤ x3 ∧ x3 ≤ 63) → (0 ≤ x4 ∧ x4 ≤ 3969) → (16 ≤ x5 ∧ x5 ≤ 63) → (S0 1106 p0.toNat ≠ 2) → (0 ≤ S 1079 56 ∧ S 1079 56 < S0 1104 (p0 + 1).toNat) → (0 ≤ S 1079 55 ∧ S 1079 55 < x3) → (0 ≤ S 1079 54 ∧ S 1079 54 ≤ 4100) → (S 1079 10 ≤ 2600 + 5 * p0) → (85899345920 + (S0 1104 (p0 + 1).toNat - S 1079 56).toNat) * 1208925819614629174706176 + (68719476736 + (x3 - S 1079 55).toNat) * 1099511627776 + (51539607552 + (x4 - S 1079 54).toNat) < N → zz_E g l zy_layer_14_88 zr_layer_14_88 (zz_QV n (zp_layer_14_88 p0 S0)) S n 142 [some (.ref 1079), some (zi p0), some (zi (p0 + 1)), some (zi x3), some (zi x4), some (zi x5)] [] 0 0) ∧ (∀ (x6 : Int) (x7 : Int) (S : zz_S), zz_G S → zz_fr [(1079, 10), (1079, 50), (1079, 51), (1079, 52), (1079, 53), (1079, 54), (1079, 55), (1079, 56), (1079, 57), (1079, 60)] [1086, 1087] (fun _ _ => False) S0 S → ((-2147483648) ≤ x6 ∧ x6 ≤ 2) → (0 ≤ x7 ∧ x7 ≤ 2) → (S0 1106 p0.toNat ≠ 2) → (S 1079 10 ≤ 2600 + 5 * p0 + x7) → (34359738368 + (2 - x7).toNat) * 1208925819614629174706176 + 1208925819614629174706175 < N → zz_E g l zy_layer_14_88 zr_layer_14_88 (zz_QV n (zp_layer_14_88 p0 S0)) S n 238 [some (.ref 1079), none, none, none, none, none, some (zi x6), some (zi x7)] [] 0 0) ∧ (∀ (x7 : Int) (S : zz_S), zz_G S → zz_fr [(1079, 10), (1079, 50), (1079, 51), (1079, 52), (1079, 53), (1079, 54), (1079, 55), (1079, 56), (1079, 57), (1079, 60)] [1086, 1087] (fun _ _ => False) S0 S → (0 ≤ x7 ∧ x7 ≤ 3) → (S0 1106 p0.toNat ≠ 2) → (S 1079 10 ≤ 2602 + 5 * p0 + x7) → (17179869184 + (3 - x7).toNat) * 1208925819614629174706176 + 1208925819614629174706175 < N → zz_E g l zy_layer_14_88 zr_layer_14_88 (zz_QV n (zp_layer_14_88 p0 S0)) S n 291 [some (.ref 1079), none, none, none, none, none, none, some (zi x7)] [] 0 0) := by
  intro N
  induction N with
  | zero => exact ⟨fun x3 x4 x5 S _ _ _ _ _ _ _ h => absurd h (Nat.not_lt_zero _), fun x3 x4 x5 S _ _ _ _ _ _ _ _ _ h => absurd h (Nat.not_lt_zero _), fun x3 x4 x5 S _ _ _ _ _ _ _ _ _ _ h => absurd h (Nat.not_lt_zero _), fun x6 x7 S _ _ _ _ _ _ h => absurd h (Nat.not_lt_zero _), fun x7 S _ _ _ _ _ h => absurd h (Nat.not_lt_zero _)⟩
  | succ N ih =>
    exact ⟨fun x3 x4 x5 S a b j0 j1 j2 j3 j4 hR => zb_layer_14_88_89 p0 S0 n hn G_S0 hp0 hq x3 x4 x5 S a b j0 j1 j2 j3 j4 _ rfl (fun x3 x4 x5 S a b j0 j1 j2 j3 j4 j5 j6 h => ih.2.1 x3 x4 x5 S a b j0 j1 j2 j3 j4 j5 j6 (Nat.lt_of_lt_of_le h (Nat.le_of_lt_succ hR))) (fun x6 x7 S a b j0 j1 j2 j3 h => ih.2.2.2.1 x6 x7 S a b j0 j1 j2 j3 (Nat.lt_of_lt_of_le h (Nat.le_of_lt_succ hR))),
      fun x3 x4 x5 S a b j0 j1 j2 j3 j4 j5 j6 hR => zb_layer_14_88_129 p0 S0 n hn G_S0 hp0 hq x3 x4 x5 S a b j0 j1 j2 j3 j4 j5 j6 _ rfl (fun x3 x4 x5 S a b j0 j1 j2 j3 j4 h => ih.1 x3 x4 x5 S a b j0 j1 j2 j3 j4 (Nat.lt_of_lt_of_le h (Nat.le_of_lt_succ hR))) (fun x3 x4 x5 S a b j0 j1 j2 j3 j4 j5 j6 j7 h => ih.2.2.1 x3 x4 x5 S a b j0 j1 j2 j3 j4 j5 j6 j7 (Nat.lt_of_lt_of_le h (Nat.le_of_lt_succ hR))),
      fun x3 x4 x5 S a b j0 j1 j2 j3 j4 j5 j6 j7 hR => zb_layer_14_88_142 p0 S0 n hn G_S0 hp0 hq x3 x4 x5 S a b j0 j1 j2 j3 j4 j5 j6 j7 _ rfl (fun x3 x4 x5 S a b j0 j1 j2 j3 j4 j5 j6 h => ih.2.1 x3 x4 x5 S a b j0 j1 j2 j3 j4 j5 j6 (Nat.lt_of_lt_of_le h (Nat.le_of_lt_succ hR))) (fun x3 x4 x5 S a b j0 j1 j2 j3 j4 j5 j6 j7 h => ih.2.2.1 x3 x4 x5 S a b j0 j1 j2 j3 j4 j5 j6 j7 (Nat.lt_of_lt_of_le h (Nat.le_of_lt_succ hR))),
      fun x6 x7 S a b j0 j1 j2 j3 hR => zb_layer_14_88_238 p0 S0 n hn G_S0 hp0 hq x6 x7 S a b j0 j1 j2 j3 _ rfl (fun x6 x7 S a b j0 j1 j2 j3 h => ih.2.2.2.1 x6 x7 S a b j0 j1 j2 j3 (Nat.lt_of_lt_of_le h (Nat.le_of_lt_succ hR))) (fun x7 S a b j0 j1 j2 h => ih.2.2.2.2 x7 S a b j0 j1 j2 (Nat.lt_of_lt_of_le h (Nat.le_of_lt_succ hR))),
      fun x7 S a b j0 j1 j2 hR => zb_layer_14_88_291 p0 S0 n hn G_S0 hp0 hq x7 S a b j0 j1 j2 _ rfl (fun x7 S a b j0 j1 j2 h => ih.2.2.2.2 x7 S a b j0 j1 j2 (Nat.lt_of_lt_of_le h (Nat.le_of_lt_succ hR)))⟩
theorem zc_layer_14_88 {g : mm_G} {l : Launch} (p0 : Int) (S0 : zz_S) (n : Nat) (hn : zz_end ≤ n) (G_S0 : zz_G S0) (hp0 : 0 ≤ p0 ∧ p0 ≤ 9) (hq : S0 1079 10 ≤ 2600 + 5 * p0) : mm_Met g l zy_layer_14_88 zr_layer_14_88 [.ref 1079, zi p0] (zz_M S0 n) n (zz_QV n (zp_layer_14_88 p0 S0)) := by
  refine zz_enter (by decide) (Nat.le_of_ble_eq_true rfl) (zz_less (ls1 := [some (.ref 1079), some (zi p0)]) ⟨rfl, ⟨rfl, trivial⟩⟩ ?_)
  have F_S0 : zz_fr [(1079, 10), (1079, 50), (1079, 51), (1079, 52), (1079, 53), (1079, 54), (1079, 55), (1079, 56), (1079, 57), (1079, 60)] [1086, 1087] (fun _ _ => False) S0 S0 := zz_fr.refl
  have k89 : ∀ (x3 : Int) (x4 : Int) (x5 : Int) (S : zz_S), zz_G S → zz_fr [(1079, 10), (1079, 50), (1079, 51), (1079, 52), (1079, 53), (1079, 54), (1079, 55), (1079, 56), (1079, 57), (1079, 60)] [1086, 1087] (fun _ _ => False) S0 S → (0 ≤ x3 ∧ x3 ≤ 63) → (0 ≤ x4 ∧ x4 ≤ 3969) → (16 ≤ x5 ∧ x5 ≤ 63) → (0 ≤ S 1079 56 ∧ S 1079 56 ≤ 80) → (S 1079 10 ≤ 2600 + 5 * p0) → zz_E g l zy_layer_14_88 zr_layer_14_88 (zz_QV n (zp_layer_14_88 p0 S0)) S n 89 [some (.ref 1079), some (zi p0), some (zi (p0 + 1)), some (zi x3), some (zi x4), some (zi x5)] [] 0 0 := fun x3 x4 x5 S a b j0 j1 j2 j3 j4 => (zi_layer_14_88 (g := g) (l := l) p0 S0 n hn G_S0 hp0 hq _).1 x3 x4 x5 S a b j0 j1 j2 j3 j4 (Nat.lt_succ_self _)
  refine zz_iload_n (x := p0) rfl zd_14_88_0 ?_
  refine zz_iconst zd_14_88_1 ?_
  refine zz_iadd zd_14_88_2 ?_
  refine zz_istore_n [some (.ref 1079), some (zi p0), some (zi (p0 + 1))] zd_14_88_3 (by decide) rfl ?_
  refine zz_aload_n (x := 1079) rfl zd_14_88_4 ?_
  refine zz_getr (kd := 0) (z := 1106) zd_14_88_5 zf_Md_100 zT_1079 rfl (zz_ltn hn rfl) (zz_G.eq G_S0 1079 41 1106 rfl rfl) (by decide) 1106 rfl ?_
  refine zz_iload_n (x := p0) rfl zd_14_88_8 ?_
  have g1 := zz_G.r G_S0 1106 p0.toNat 0 2 rfl rfl
  refine zz_iald (z := S0 1106 p0.toNat) zd_14_88_9 zT_1106 rfl (zz_ltn hn rfl) (by decide) (by omega) rfl ?_
  refine zz_iconst zd_14_88_10 ?_
  refine zz_icmp_ne (by omega) (by omega) zd_14_88_11 (fun c2 => ?_) (fun c2 => ?_)
  · refine zz_aload_n (x := 1079) rfl zd_14_88_18 ?_
    refine zz_getr (kd := 0) (z := 1102) zd_14_88_19 zf_Md_88 zT_1079 rfl (zz_ltn hn rfl) (zz_G.eq G_S0 1079 37 1102 rfl rfl) (by decide) 1102 rfl ?_
    refine zz_iload_n (x := p0 + 1) rfl zd_14_88_22 ?_
    have g3 := zz_G.r G_S0 1102 ((p0 + 1).toNat) 0 63 rfl rfl
    refine zz_iald (z := S0 1102 ((p0 + 1).toNat)) zd_14_88_23 zT_1102 rfl (zz_ltn hn rfl) (by decide) (by omega) rfl ?_
    refine zz_istore_n [some (.ref 1079), some (zi p0), some (zi (p0 + 1)), some (zi (S0 1102 ((p0 + 1).toNat)))] zd_14_88_24 (by decide) rfl ?_
    refine zz_aload_n (x := 1079) rfl zd_14_88_25 ?_
    refine zz_getr (kd := 0) (z := 1106) zd_14_88_26 zf_Md_100 zT_1079 rfl (zz_ltn hn rfl) (zz_G.eq G_S0 1079 41 1106 rfl rfl) (by decide) 1106 rfl ?_
    refine zz_iload_n (x := p0) rfl zd_14_88_29 ?_
    refine zz_iald (z := S0 1106 p0.toNat) zd_14_88_30 zT_1106 rfl (zz_ltn hn rfl) (by decide) (by omega) rfl ?_
    refine zz_iconst zd_14_88_31 ?_
    refine zz_icmp_ne (by omega) (by omega) zd_14_88_32 (fun c4 => ?_) (fun c4 => ?_)
    · refine zz_aload_n (x := 1079) rfl zd_14_88_51 ?_
      refine zz_getr (kd := 0) (z := 1103) zd_14_88_52 zf_Md_91 zT_1079 rfl (zz_ltn hn rfl) (zz_G.eq G_S0 1079 38 1103 rfl rfl) (by decide) 1103 rfl ?_
      refine zz_iload_n (x := p0 + 1) rfl zd_14_88_55 ?_
      have g5 := zz_G.r G_S0 1103 ((p0 + 1).toNat) 0 63 rfl rfl
      refine zz_iald (z := S0 1103 ((p0 + 1).toNat)) zd_14_88_56 zT_1103 rfl (zz_ltn hn rfl) (by decide) (by omega) rfl ?_
      refine zz_istore [some (.ref 1079), some (zi p0), some (zi (p0 + 1)), some (zi (S0 1102 ((p0 + 1).toNat))), some (zi (S0 1103 ((p0 + 1).toNat)))] zd_14_88_57 (by decide) rfl ?_
      refine zz_bipush (by decide) zd_14_88_59 ?_
      refine zz_sipush (by decide) zd_14_88_61 ?_
      refine zz_aload_n (x := 1079) rfl zd_14_88_64 ?_
      have g6 := zz_G.r G_S0 1079 1 2 8 rfl rfl
      refine zz_geti (z := S0 1079 1) zd_14_88_65 zf_Md_7 zT_1079 rfl (zz_ltn hn rfl) rfl ?_
      refine zz_idiv (by omega) (by omega) zd_14_88_68 (fun v7 hv7 av7 bv7 cv7 => ?_)
      have m8 := zz_divb (by omega) (by omega) av7
      refine zz_callSI [zi 63, zi v7] zd_14_88_69 zk_Md_506 rfl rfl ⟨Nat.le_of_ble_eq_true rfl, Nat.le_of_ble_eq_true rfl⟩ ⟨rfl, rfl⟩ (Nat.zero_le _) (Nat.zero_le _) (zc_least_14_85 63 v7 S0 n hn G_S0 (by omega) (by omega)) (fun v10 S9 hP => ?_)
      obtain ⟨rfl, o11, o12⟩ := hP
      refine zz_istore [some (.ref 1079), some (zi p0), some (zi (p0 + 1)), some (zi (S0 1102 ((p0 + 1).toNat))), some (zi (S0 1103 ((p0 + 1).toNat))), some (zi v10)] zd_14_88_72 (by decide) rfl ?_
      refine zz_aload_n (x := 1079) rfl zd_14_88_74 ?_
      refine zz_iconst zd_14_88_75 ?_
      refine zz_puti zd_14_88_76 zf_Md_450 zT_1079 rfl (zz_ltn hn rfl) (fun S13 qS13 => ?_)
      have G_S13 := zz_G.put G_S0 qS13 (-2147483648) 2147483647 rfl (by omega)
      have F_S13 := zz_fr.puts F_S0 qS13 rfl
      refine zz_aload_n (x := 1079) rfl zd_14_88_79 ?_
      refine zz_iconst zd_14_88_80 ?_
      refine zz_puti zd_14_88_81 zf_Md_447 zT_1079 rfl (zz_ltn hn rfl) (fun S14 qS14 => ?_)
      have G_S14 := zz_G.put G_S13 qS14 (-2147483648) 2147483647 rfl (by omega)
      have F_S14 := zz_fr.puts F_S13 qS14 rfl
      refine zz_aload_n (x := 1079) rfl zd_14_88_84 ?_
      refine zz_iconst zd_14_88_85 ?_
      refine zz_puti zd_14_88_86 zf_Md_466 zT_1079 rfl (zz_ltn hn rfl) (fun S15 qS15 => ?_)
      have G_S15 := zz_G.put G_S14 qS15 (-2147483648) 2147483647 rfl (by omega)
      have F_S15 := zz_fr.puts F_S14 qS15 rfl
      have e16 : S15 1079 56 = 0 := (zz_rs qS15)
      have g17 := zz_G.r G_S0 1079 10 0 1000000 rfl rfl
      have e18 : S15 1079 10 = S0 1079 10 := (zz_ro qS15 (fun h => absurd h.2 (by decide)) (zz_ro qS14 (fun h => absurd h.2 (by decide)) (zz_ro qS13 (fun h => absurd h.2 (by decide)) rfl)))
      refine zz_less (ls1 := [some (.ref 1079), some (zi p0), some (zi (p0 + 1)), some (zi (S0 1102 ((p0 + 1).toNat))), some (zi (S0 1103 ((p0 + 1).toNat))), some (zi v10)]) ⟨rfl, ⟨rfl, ⟨rfl, ⟨rfl, ⟨rfl, ⟨rfl, trivial⟩⟩⟩⟩⟩⟩ ?_
      exact k89 (S0 1102 ((p0 + 1).toNat)) (S0 1103 ((p0 + 1).toNat)) v10 S15 G_S15 F_S15 (by omega) (by omega) (by omega) (by omega) (by omega)
    · exfalso; omega
  · refine zz_iconst zd_14_88_14 ?_
    refine zz_goto zd_14_88_15 ?_
    refine zz_istore_n [some (.ref 1079), some (zi p0), some (zi (p0 + 1)), some (zi 1)] zd_14_88_24 (by decide) rfl ?_
    refine zz_aload_n (x := 1079) rfl zd_14_88_25 ?_
    refine zz_getr (kd := 0) (z := 1106) zd_14_88_26 zf_Md_100 zT_1079 rfl (zz_ltn hn rfl) (zz_G.eq G_S0 1079 41 1106 rfl rfl) (by decide) 1106 rfl ?_
    refine zz_iload_n (x := p0) rfl zd_14_88_29 ?_
    refine zz_iald (z := S0 1106 p0.toNat) zd_14_88_30 zT_1106 rfl (zz_ltn hn rfl) (by decide) (by omega) rfl ?_
    refine zz_iconst zd_14_88_31 ?_
    refine zz_icmp_ne (by omega) (by omega) zd_14_88_32 (fun c19 => ?_) (fun c19 => ?_)
    · exfalso; omega
    · refine zz_aload_n (x := 1079) rfl zd_14_88_35 ?_
      refine zz_getr (kd := 0) (z := 1102) zd_14_88_36 zf_Md_88 zT_1079 rfl (zz_ltn hn rfl) (zz_G.eq G_S0 1079 37 1102 rfl rfl) (by decide) 1102 rfl ?_
      refine zz_iload_n (x := p0 + 1) rfl zd_14_88_39 ?_
      have g20 := zz_G.r G_S0 1102 ((p0 + 1).toNat) 0 63 rfl rfl
      refine zz_iald (z := S0 1102 ((p0 + 1).toNat)) zd_14_88_40 zT_1102 rfl (zz_ltn hn rfl) (by decide) (by omega) rfl ?_
      refine zz_aload_n (x := 1079) rfl zd_14_88_41 ?_
      refine zz_getr (kd := 0) (z := 1103) zd_14_88_42 zf_Md_91 zT_1079 rfl (zz_ltn hn rfl) (zz_G.eq G_S0 1079 38 1103 rfl rfl) (by decide) 1103 rfl ?_
      refine zz_iload_n (x := p0 + 1) rfl zd_14_88_45 ?_
      have g21 := zz_G.r G_S0 1103 ((p0 + 1).toNat) 0 63 rfl rfl
      refine zz_iald (z := S0 1103 ((p0 + 1).toNat)) zd_14_88_46 zT_1103 rfl (zz_ltn hn rfl) (by decide) (by omega) rfl ?_
      refine zz_imul zd_14_88_47 ?_
      have m22 := zz_mulb (a := S0 1102 ((p0 + 1).toNat)) (b := S0 1103 ((p0 + 1).toNat)) 63 63 3969 (by omega) (by omega) (by decide)
      refine zz_nme (fun v23 ev23 => ?_)
      refine zz_goto zd_14_88_48 ?_
      refine zz_istore [some (.ref 1079), some (zi p0), some (zi (p0 + 1)), some (zi 1), some (zi v23)] zd_14_88_57 (by decide) rfl ?_
      refine zz_bipush (by decide) zd_14_88_59 ?_
      refine zz_sipush (by decide) zd_14_88_61 ?_
      refine zz_aload_n (x := 1079) rfl zd_14_88_64 ?_
      have g24 := zz_G.r G_S0 1079 1 2 8 rfl rfl
      refine zz_geti (z := S0 1079 1) zd_14_88_65 zf_Md_7 zT_1079 rfl (zz_ltn hn rfl) rfl ?_
      refine zz_idiv (by omega) (by omega) zd_14_88_68 (fun v25 hv25 av25 bv25 cv25 => ?_)
      have m26 := zz_divb (by omega) (by omega) av25
      refine zz_callSI [zi 63, zi v25] zd_14_88_69 zk_Md_506 rfl rfl ⟨Nat.le_of_ble_eq_true rfl, Nat.le_of_ble_eq_true rfl⟩ ⟨rfl, rfl⟩ (Nat.zero_le _) (Nat.zero_le _) (zc_least_14_85 63 v25 S0 n hn G_S0 (by omega) (by omega)) (fun v28 S27 hP => ?_)
      obtain ⟨rfl, o29, o30⟩ := hP
      refine zz_istore [some (.ref 1079), some (zi p0), some (zi (p0 + 1)), some (zi 1), some (zi v23), some (zi v28)] zd_14_88_72 (by decide) rfl ?_
      refine zz_aload_n (x := 1079) rfl zd_14_88_74 ?_
      refine zz_iconst zd_14_88_75 ?_
      refine zz_puti zd_14_88_76 zf_Md_450 zT_1079 rfl (zz_ltn hn rfl) (fun S31 qS31 => ?_)
      have G_S31 := zz_G.put G_S0 qS31 (-2147483648) 2147483647 rfl (by omega)
      have F_S31 := zz_fr.puts F_S0 qS31 rfl
      refine zz_aload_n (x := 1079) rfl zd_14_88_79 ?_
      refine zz_iconst zd_14_88_80 ?_
      refine zz_puti zd_14_88_81 zf_Md_447 zT_1079 rfl (zz_ltn hn rfl) (fun S32 qS32 => ?_)
      have G_S32 := zz_G.put G_S31 qS32 (-2147483648) 2147483647 rfl (by omega)
      have F_S32 := zz_fr.puts F_S31 qS32 rfl
      refine zz_aload_n (x := 1079) rfl zd_14_88_84 ?_
      refine zz_iconst zd_14_88_85 ?_
      refine zz_puti zd_14_88_86 zf_Md_466 zT_1079 rfl (zz_ltn hn rfl) (fun S33 qS33 => ?_)
      have G_S33 := zz_G.put G_S32 qS33 (-2147483648) 2147483647 rfl (by omega)
      have F_S33 := zz_fr.puts F_S32 qS33 rfl
      have e34 : S33 1079 56 = 0 := (zz_rs qS33)
      have g35 := zz_G.r G_S0 1079 10 0 1000000 rfl rfl
      have e36 : S33 1079 10 = S0 1079 10 := (zz_ro qS33 (fun h => absurd h.2 (by decide)) (zz_ro qS32 (fun h => absurd h.2 (by decide)) (zz_ro qS31 (fun h => absurd h.2 (by decide)) rfl)))
      refine zz_less (ls1 := [some (.ref 1079), some (zi p0), some (zi (p0 + 1)), some (zi 1), some (zi v23), some (zi v28)]) ⟨rfl, ⟨rfl, ⟨rfl, ⟨rfl, ⟨rfl, ⟨rfl, trivial⟩⟩⟩⟩⟩⟩ ?_
      exact k89 1 v23 v28 S33 G_S33 F_S33 (by omega) (by omega) (by omega) (by omega) (by omega)
abbrev zy_compile_14_89 : mm_Y := (⟨"TensorForgeModel", "compile", "()I"⟩, prog_14_method_89_code, 2, (some .int))
theorem zyw_compile_14_89 : mm_Yw zy_compile_14_89 0 := ⟨mm_tb_1 2136 (by decide +kernel) rfl, mm_tb_1 12 (by decide +kernel) rfl, ⟨by decide, by decide⟩, by decide +kernel⟩
theorem zd_14_89_0 : zz_D zy_compile_14_89 0 (.aload_n 0) 1 1 := ⟨by decide +kernel, rfl⟩
theorem zd_14_89_1 : zz_D zy_compile_14_89 1 (.iconst 0) 1 2 := ⟨by decide +kernel, rfl⟩
theorem zd_14_89_2 : zz_D zy_compile_14_89 2 (.putfield 372) 3 5 := ⟨by decide +kernel, rfl⟩
theorem zd_14_89_5 : zz_D zy_compile_14_89 5 (.iconst 0) 1 6 := ⟨by decide +kernel, rfl⟩
theorem zd_14_89_6 : zz_D zy_compile_14_89 6 (.istore_n 1) 1 7 := ⟨by decide +kernel, rfl⟩
theorem zd_14_89_7 : zz_D zy_compile_14_89 7 (.iload_n 1) 1 8 := ⟨by decide +kernel, rfl⟩
theorem zd_14_89_8 : zz_D zy_compile_14_89 8 (.aload_n 0) 1 9 := ⟨by decide +kernel, rfl⟩
theorem zd_14_89_9 : zz_D zy_compile_14_89 9 (.getfield 85) 3 12 := ⟨by decide +kernel, rfl⟩
theorem zd_14_89_12 : zz_D zy_compile_14_89 12 (.iconst 1) 1 13 := ⟨by decide +kernel, rfl⟩
theorem zd_14_89_13 : zz_D zy_compile_14_89 13 (.isub) 1 14 := ⟨by decide +kernel, rfl⟩
theorem zd_14_89_14 : zz_B zy_compile_14_89 14 (Instr.if_icmp .ge) 28 17 := ⟨14, by decide +kernel, rfl, rfl⟩
theorem zd_14_89_28 : zz_D zy_compile_14_89 28 (.aload_n 0) 1 29 := ⟨by decide +kernel, rfl⟩
theorem zd_14_89_29 : zz_D zy_compile_14_89 29 (.aload_n 0) 1 30 := ⟨by decide +kernel, rfl⟩
theorem zd_14_89_30 : zz_D zy_compile_14_89 30 (.getfield 372) 3 33 := ⟨by decide +kernel, rfl⟩
theorem zd_14_89_33 : zz_D zy_compile_14_89 33 (.sipush 600) 3 36 := ⟨by decide +kernel, rfl⟩
theorem zd_14_89_36 : zz_B zy_compile_14_89 36 (Instr.if_icmp .le) 43 39 := ⟨7, by decide +kernel, rfl, rfl⟩
theorem zd_14_89_43 : zz_D zy_compile_14_89 43 (.iconst 0) 1 44 := ⟨by decide +kernel, rfl⟩
theorem zd_14_89_44 : zz_D zy_compile_14_89 44 (.iconst 0) 1 45 := ⟨by decide +kernel, rfl⟩
theorem zd_14_89_45 : zz_D zy_compile_14_89 45 (.iconst 0) 1 46 := ⟨by decide +kernel, rfl⟩
theorem zd_14_89_46 : zz_D zy_compile_14_89 46 (.invokevirtual 196) 3 49 := ⟨by decide +kernel, rfl⟩
theorem zd_14_89_49 : zz_B zy_compile_14_89 49 (Instr.ifCond .eq) 54 52 := ⟨5, by decide +kernel, rfl, rfl⟩
theorem zd_14_89_54 : zz_D zy_compile_14_89 54 (.aload_n 0) 1 55 := ⟨by decide +kernel, rfl⟩
theorem zd_14_89_55 : zz_D zy_compile_14_89 55 (.invokevirtual 382) 3 58 := ⟨by decide +kernel, rfl⟩
theorem zd_14_89_58 : zz_D zy_compile_14_89 58 (.aload_n 0) 1 59 := ⟨by decide +kernel, rfl⟩
theorem zd_14_89_59 : zz_D zy_compile_14_89 59 (.getfield 224) 3 62 := ⟨by decide +kernel, rfl⟩
theorem zd_14_89_62 : zz_D zy_compile_14_89 62 (.ireturn) 1 63 := ⟨by decide +kernel, rfl⟩
theorem zd_14_89_39 : zz_D zy_compile_14_89 39 (.iconst 1) 1 40 := ⟨by decide +kernel, rfl⟩
theorem zd_14_89_40 : zz_B zy_compile_14_89 40 Instr.goto 44 43 := ⟨4, by decide +kernel, rfl, rfl⟩
theorem zd_14_89_52 : zz_D zy_compile_14_89 52 (.iconst 0) 1 53 := ⟨by decide +kernel, rfl⟩
theorem zd_14_89_53 : zz_D zy_compile_14_89 53 (.ireturn) 1 54 := ⟨by decide +kernel, rfl⟩
theorem zd_14_89_17 : zz_D zy_compile_14_89 17 (.aload_n 0) 1 18 := ⟨by decide +kernel, rfl⟩
theorem zd_14_89_18 : zz_D zy_compile_14_89 18 (.iload_n 1) 1 19 := ⟨by decide +kernel, rfl⟩
theorem zd_14_89_19 : zz_D zy_compile_14_89 19 (.invokevirtual 512) 3 22 := ⟨by decide +kernel, rfl⟩
theorem zk_Md_512 : mm_Vl "TensorForgeModel" 512 11 1 zy_layer_14_88 := ⟨zyw_layer_14_88, (R_Md, F_Md, 69), rfl, mm_tb_1 2137 (by decide +kernel) rfl, mm_tb_1 2139 (by decide +kernel) rfl, mm_tb_s 127 (by decide +kernel) rfl⟩
theorem zd_14_89_22 : zz_D zy_compile_14_89 22 (.iinc 1 1) 3 25 := ⟨by decide +kernel, rfl⟩
theorem zd_14_89_25 : zz_B zy_compile_14_89 25 Instr.goto 7 28 := ⟨(-18), by decide +kernel, rfl, rfl⟩
-- TensorForgeModel compile ()I
abbrev zr_compile_14_89 : Room := { frames := 8, cells := 0, slots := 0, locals := 144 }
def zp_compile_14_89  (S0 : zz_S) : Int → zz_S → Prop := fun r S => zz_G S ∧ zz_fr [(1079, 0), (1079, 7), (1079, 10), (1079, 50), (1079, 51), (1079, 52), (1079, 53), (1079, 54), (1079, 55), (1079, 56), (1079, 57), (1079, 60)] [1085, 1086, 1087] (fun _ _ => False) S0 S ∧ ((-2147483648) ≤ r ∧ r ≤ 2147483647)
theorem zb_compile_14_89_7 {g : mm_G} {l : Launch}  (S0 : zz_S) (n : Nat) (hn : zz_end ≤ n) (G_S0 : zz_G S0)  (x1 : Int) (S : zz_S) (G_S : zz_G S) (F_S : zz_fr [(1079, 0), (1079, 7), (1079, 10), (1079, 50), (1079, 51), (1079, 52), (1079, 53), (1079, 54), (1079, 55), (1079, 56), (1079, 57), (1079, 60)] [1085, 1086, 1087] (fun _ _ => False) S0 S) (i7_0 : 0 ≤ x1 ∧ x1 ≤ 10) (i7_1 : S 1079 10 ≤ 2600 + 5 * x1) (R : Nat) (hR : (2147483647 - x1).toNat = R) (k7 : ∀ (x1 : Int) (S : zz_S), zz_G S → zz_fr [(1079, 0), (1079, 7), (1079, 10), (1079, 50), (1079, 51), (1079, 52), (1079, 53), (1079, 54), (1079, 55), (1079, 56), (1079, 57), (1079, 60)] [1085, 1086, 1087] (fun _ _ => False) S0 S → (0 ≤ x1 ∧ x1 ≤ 10) → (S 1079 10 ≤ 2600 + 5 * x1) → (2147483647 - x1).toNat < R → zz_E g l zy_compile_14_89 zr_compile_14_89 (zz_QI n (zp_compile_14_89  S0)) S n 7 [some (.ref 1079), some (zi x1)] [] 0 0) : zz_E g l zy_compile_14_89 zr_compile_14_89 (zz_QI n (zp_compile_14_89  S0)) S n 7 [some (.ref 1079), some (zi x1)] [] 0 0 := by
  refine zz_iload_n (x := x1) rfl zd_14_89_7 ?_
  refine zz_aload_n (x := 1079) rfl zd_14_89_8 ?_
  have g3 := zz_G.r G_S0 1079 36 0 11 rfl rfl
  refine zz_geti (z := S0 1079 36) zd_14_89_9 zf_Md_85 zT_1079 rfl (zz_ltn hn rfl) (zz_rc F_S rfl rfl (fun h => h) rfl) ?_
  refine zz_iconst zd_14_89_12 ?_
  refine zz_isub zd_14_89_13 ?_
  refine zz_icmp_ge (by omega) (by omega) zd_14_89_14 (fun c4 => ?_) (fun c4 => ?_)
  · refine zz_aload_n (x := 1079) rfl zd_14_89_28 ?_
    refine zz_aload_n (x := 1079) rfl zd_14_89_29 ?_
    have g5 := zz_G.r G_S 1079 10 0 1000000 rfl rfl
    refine zz_geti (z := S 1079 10) zd_14_89_30 zf_Md_372 zT_1079 rfl (zz_ltn hn rfl) rfl ?_
    refine zz_sipush (by decide) zd_14_89_33 ?_
    refine zz_icmp_le (by omega) (by omega) zd_14_89_36 (fun c6 => ?_) (fun c6 => ?_)
    · refine zz_iconst zd_14_89_43 ?_
      refine zz_iconst zd_14_89_44 ?_
      refine zz_iconst zd_14_89_45 ?_
      have g7 := zz_G.r G_S 1079 0 0 3 rfl rfl
      refine zz_callVI [zi 0, zi 0, zi 0] zd_14_89_46 zk_Md_196 zT_1079 (zz_ltn hn rfl) rfl rfl ⟨Nat.le_of_ble_eq_true rfl, Nat.le_of_ble_eq_true rfl⟩ ⟨rfl, rfl⟩ (Nat.zero_le _) (Nat.zero_le _) (zc_refuse_14_3 0 0 0 S n hn G_S (by omega) (by omega) (by omega)) (fun v9 S8 hP => ?_)
      obtain ⟨G_S8, fS8, o10, o11⟩ := hP
      have F_S8 := zz_fr.trans F_S fS8 rfl zz_nv
      rcases (by omega : v9 = 0 ∨ v9 = 1) with rfl | rfl
      · have e12 : S8 1079 0 = 0 := by omega
        refine zz_if_eq (by omega) zd_14_89_49 (fun c13 => ?_) (fun c13 => ?_)
        · refine zz_aload_n (x := 1079) rfl zd_14_89_54 ?_
          have e14 : S8 1079 10 = S 1079 10 := (zz_rc fS8 rfl rfl (fun h => h) rfl)
          refine zz_callVV [] zd_14_89_55 zk_Md_382 zT_1079 (zz_ltn hn rfl) rfl rfl ⟨Nat.le_of_ble_eq_true rfl, Nat.le_of_ble_eq_true rfl⟩ ⟨rfl, rfl⟩ (Nat.zero_le _) (Nat.zero_le _) (zc_takeMade_14_56  S8 n hn G_S8 (by omega)) (fun S15 hP => ?_)
          obtain ⟨G_S15, fS15⟩ := hP
          have F_S15 := zz_fr.trans F_S8 fS15 rfl zz_nv
          refine zz_aload_n (x := 1079) rfl zd_14_89_58 ?_
          have g17 := zz_G.r G_S15 1079 7 0 600 rfl rfl
          refine zz_geti (z := S15 1079 7) zd_14_89_59 zf_Md_224 zT_1079 rfl (zz_ltn hn rfl) rfl ?_
          exact zz_iret zd_14_89_62 rfl (Nat.zero_le _) (Nat.zero_le _) ⟨_, _, rfl, G_S15, F_S15, by omega⟩
        · exfalso; omega
      · exfalso; omega
    · refine zz_iconst zd_14_89_39 ?_
      refine zz_goto zd_14_89_40 ?_
      refine zz_iconst zd_14_89_44 ?_
      refine zz_iconst zd_14_89_45 ?_
      have g18 := zz_G.r G_S 1079 0 0 3 rfl rfl
      refine zz_callVI [zi 1, zi 0, zi 0] zd_14_89_46 zk_Md_196 zT_1079 (zz_ltn hn rfl) rfl rfl ⟨Nat.le_of_ble_eq_true rfl, Nat.le_of_ble_eq_true rfl⟩ ⟨rfl, rfl⟩ (Nat.zero_le _) (Nat.zero_le _) (zc_refuse_14_3 1 0 0 S n hn G_S (by omega) (by omega) (by omega)) (fun v20 S19 hP => ?_)
      obtain ⟨G_S19, fS19, o21, o22⟩ := hP
      have F_S19 := zz_fr.trans F_S fS19 rfl zz_nv
      rcases (by omega : v20 = 0 ∨ v20 = 1) with rfl | rfl
      · exfalso; omega
      · have e23 : S19 1079 0 = 1 := by omega
        refine zz_if_eq (by omega) zd_14_89_49 (fun c24 => ?_) (fun c24 => ?_)
        · exfalso; omega
        · refine zz_iconst zd_14_89_52 ?_
          exact zz_iret zd_14_89_53 rfl (Nat.zero_le _) (Nat.zero_le _) ⟨_, _, rfl, G_S19, F_S19, by omega⟩
  · refine zz_aload_n (x := 1079) rfl zd_14_89_17 ?_
    refine zz_iload_n (x := x1) rfl zd_14_89_18 ?_
    have g25 := zz_G.r G_S 1079 10 0 1000000 rfl rfl
    refine zz_callVV [zi x1] zd_14_89_19 zk_Md_512 zT_1079 (zz_ltn hn rfl) rfl rfl ⟨Nat.le_of_ble_eq_true rfl, Nat.le_of_ble_eq_true rfl⟩ ⟨rfl, rfl⟩ (Nat.zero_le _) (Nat.zero_le _) (zc_layer_14_88 x1 S n hn G_S (by omega) (by omega)) (fun S26 hP => ?_)
    obtain ⟨G_S26, fS26, o28⟩ := hP
    have F_S26 := zz_fr.trans F_S fS26 rfl zz_nv
    refine zz_iinc [some (.ref 1079), some (zi (x1 + 1))] zd_14_89_22 rfl rfl ?_
    refine zz_goto zd_14_89_25 ?_
    have g29 := zz_G.r G_S26 1079 10 0 1000000 rfl rfl
    refine zz_less (ls1 := [some (.ref 1079), some (zi (x1 + 1))]) ⟨rfl, ⟨rfl, trivial⟩⟩ ?_
    exact k7 (x1 + 1) S26 G_S26 F_S26 (by omega) (by omega) (by omega)
theorem zi_compile_14_89 {g : mm_G} {l : Launch}  (S0 : zz_S) (n : Nat) (hn : zz_end ≤ n) (G_S0 : zz_G S0)  : ∀ N : Nat, (∀ (x1 : Int) (S : zz_S), zz_G S → zz_fr [(1079, 0), (1079, 7), (1079, 10), (1079, 50), (1079, 51), (1079, 52), (1079, 53), (1079, 54), (1079, 55), (1079, 56), (1079, 57), (1079, 60)] [1085, 1086, 1087] (fun _ _ => False) S0 S → (0 ≤ x1 ∧ x1 ≤ 10) → (S 1079 10 ≤ 2600 + 5 * x1) → (2147483647 - x1).toNat < N → zz_E g l zy_compile_14_89 zr_compile_14_89 (zz_QI n (zp_compile_14_89  S0)) S n 7 [some (.ref 1079), some (zi x1)] [] 0 0) := by
  intro N
  induction N with
  | zero => exact fun x1 S _ _ _ _ h => absurd h (Nat.not_lt_zero _)
  | succ N ih =>
    exact fun x1 S a b j0 j1 hR => zb_compile_14_89_7  S0 n hn G_S0  x1 S a b j0 j1 _ rfl (fun x1 S a b j0 j1 h => ih x1 S a b j0 j1 (Nat.lt_of_lt_of_le h (Nat.le_of_lt_succ hR)))
theorem zc_compile_14_89 {g : mm_G} {l : Launch}  (S0 : zz_S) (n : Nat) (hn : zz_end ≤ n) (G_S0 : zz_G S0)  : mm_Met g l zy_compile_14_89 zr_compile_14_89 [.ref 1079] (zz_M S0 n) n (zz_QI n (zp_compile_14_89  S0)) := by
  refine zz_enter (by decide) (Nat.le_of_ble_eq_true rfl) (zz_less (ls1 := [some (.ref 1079)]) ⟨rfl, trivial⟩ ?_)
  have F_S0 : zz_fr [(1079, 0), (1079, 7), (1079, 10), (1079, 50), (1079, 51), (1079, 52), (1079, 53), (1079, 54), (1079, 55), (1079, 56), (1079, 57), (1079, 60)] [1085, 1086, 1087] (fun _ _ => False) S0 S0 := zz_fr.refl
  have k7 : ∀ (x1 : Int) (S : zz_S), zz_G S → zz_fr [(1079, 0), (1079, 7), (1079, 10), (1079, 50), (1079, 51), (1079, 52), (1079, 53), (1079, 54), (1079, 55), (1079, 56), (1079, 57), (1079, 60)] [1085, 1086, 1087] (fun _ _ => False) S0 S → (0 ≤ x1 ∧ x1 ≤ 10) → (S 1079 10 ≤ 2600 + 5 * x1) → zz_E g l zy_compile_14_89 zr_compile_14_89 (zz_QI n (zp_compile_14_89  S0)) S n 7 [some (.ref 1079), some (zi x1)] [] 0 0 := fun x1 S a b j0 j1 => (zi_compile_14_89 (g := g) (l := l)  S0 n hn G_S0  _) x1 S a b j0 j1 (Nat.lt_succ_self _)
  refine zz_aload_n (x := 1079) rfl zd_14_89_0 ?_
  refine zz_iconst zd_14_89_1 ?_
  refine zz_puti zd_14_89_2 zf_Md_372 zT_1079 rfl (zz_ltn hn rfl) (fun S1 qS1 => ?_)
  have G_S1 := zz_G.put G_S0 qS1 0 1000000 rfl (by omega)
  have F_S1 := zz_fr.puts F_S0 qS1 rfl
  refine zz_iconst zd_14_89_5 ?_
  refine zz_istore_n [some (.ref 1079), some (zi 0)] zd_14_89_6 (by decide) rfl ?_
  have e2 : S1 1079 10 = 0 := (zz_rs qS1)
  refine zz_less (ls1 := [some (.ref 1079), some (zi 0)]) ⟨rfl, ⟨rfl, trivial⟩⟩ ?_
  exact k7 0 S1 G_S1 F_S1 (by omega) (by omega)
abbrev zy_keepNetwork_14_91 : mm_Y := (⟨"TensorForgeModel", "keepNetwork", "(Z)V"⟩, prog_14_method_91_code, 2, none)
theorem zyw_keepNetwork_14_91 : mm_Yw zy_keepNetwork_14_91 1 := ⟨mm_tb_1 2191 (by decide +kernel) rfl, mm_tb_1 12 (by decide +kernel) rfl, ⟨by decide, by decide⟩, by decide +kernel⟩
theorem zd_14_91_0 : zz_D zy_keepNetwork_14_91 0 (.aload_n 0) 1 1 := ⟨by decide +kernel, rfl⟩
theorem zd_14_91_1 : zz_D zy_keepNetwork_14_91 1 (.iload_n 1) 1 2 := ⟨by decide +kernel, rfl⟩
theorem zd_14_91_2 : zz_B zy_keepNetwork_14_91 2 (Instr.ifCond .eq) 12 5 := ⟨10, by decide +kernel, rfl, rfl⟩
theorem zd_14_91_12 : zz_D zy_keepNetwork_14_91 12 (.aload_n 0) 1 13 := ⟨by decide +kernel, rfl⟩
theorem zd_14_91_13 : zz_D zy_keepNetwork_14_91 13 (.getfield 85) 3 16 := ⟨by decide +kernel, rfl⟩
theorem zd_14_91_16 : zz_D zy_keepNetwork_14_91 16 (.putfield 515) 3 19 := ⟨by decide +kernel, rfl⟩
theorem zf_Md_515 : mm_Fl "TensorForgeModel" 515 11 66 .int false := ⟨R_Md, F_Md, 69, t_Md, rfl, i_Md, by decide, mm_tb_1 1677 (by decide +kernel) rfl, rfl, t_Md_ok, n_Md, rfl, by decide +kernel⟩
theorem zd_14_91_19 : zz_D zy_keepNetwork_14_91 19 (.aload_n 0) 1 20 := ⟨by decide +kernel, rfl⟩
theorem zd_14_91_20 : zz_D zy_keepNetwork_14_91 20 (.aload_n 0) 1 21 := ⟨by decide +kernel, rfl⟩
theorem zd_14_91_21 : zz_D zy_keepNetwork_14_91 21 (.getfield 515) 3 24 := ⟨by decide +kernel, rfl⟩
theorem zd_14_91_24 : zz_D zy_keepNetwork_14_91 24 (.putfield 85) 3 27 := ⟨by decide +kernel, rfl⟩
theorem zd_14_91_27 : zz_D zy_keepNetwork_14_91 27 (.aload_n 0) 1 28 := ⟨by decide +kernel, rfl⟩
theorem zd_14_91_28 : zz_D zy_keepNetwork_14_91 28 (.aload_n 0) 1 29 := ⟨by decide +kernel, rfl⟩
theorem zd_14_91_29 : zz_D zy_keepNetwork_14_91 29 (.getfield 88) 3 32 := ⟨by decide +kernel, rfl⟩
theorem zd_14_91_32 : zz_D zy_keepNetwork_14_91 32 (.bipush 11) 2 34 := ⟨by decide +kernel, rfl⟩
theorem zd_14_91_34 : zz_D zy_keepNetwork_14_91 34 (.iconst 0) 1 35 := ⟨by decide +kernel, rfl⟩
theorem zd_14_91_35 : zz_D zy_keepNetwork_14_91 35 (.iload_n 1) 1 36 := ⟨by decide +kernel, rfl⟩
theorem zd_14_91_36 : zz_D zy_keepNetwork_14_91 36 (.invokevirtual 518) 3 39 := ⟨by decide +kernel, rfl⟩
abbrev zy_keepRow_14_92 : mm_Y := (⟨"TensorForgeModel", "keepRow", "([IIIZ)V"⟩, prog_14_method_92_code, 6, none)
theorem zyw_keepRow_14_92 : mm_Yw zy_keepRow_14_92 4 := ⟨mm_tb_1 2195 (by decide +kernel) rfl, mm_tb_1 12 (by decide +kernel) rfl, ⟨by decide, by decide⟩, by decide +kernel⟩
theorem zd_14_92_0 : zz_D zy_keepRow_14_92 0 (.iconst 0) 1 1 := ⟨by decide +kernel, rfl⟩
theorem zd_14_92_1 : zz_D zy_keepRow_14_92 1 (.istore 5) 2 3 := ⟨by decide +kernel, rfl⟩
theorem zd_14_92_3 : zz_D zy_keepRow_14_92 3 (.iload 5) 2 5 := ⟨by decide +kernel, rfl⟩
theorem zd_14_92_5 : zz_D zy_keepRow_14_92 5 (.iload_n 2) 1 6 := ⟨by decide +kernel, rfl⟩
theorem zd_14_92_6 : zz_B zy_keepRow_14_92 6 (Instr.if_icmp .ge) 49 9 := ⟨43, by decide +kernel, rfl, rfl⟩
theorem zd_14_92_9 : zz_D zy_keepRow_14_92 9 (.iload 4) 2 11 := ⟨by decide +kernel, rfl⟩
theorem zd_14_92_11 : zz_B zy_keepRow_14_92 11 (Instr.ifCond .eq) 30 14 := ⟨19, by decide +kernel, rfl, rfl⟩
theorem zd_14_92_30 : zz_D zy_keepRow_14_92 30 (.aload_n 0) 1 31 := ⟨by decide +kernel, rfl⟩
theorem zd_14_92_31 : zz_D zy_keepRow_14_92 31 (.getfield 139) 3 34 := ⟨by decide +kernel, rfl⟩
theorem zf_Md_139 : mm_Fl "TensorForgeModel" 139 11 67 (.array .int) true := ⟨R_Md, F_Md, 69, t_Md, rfl, i_Md, by decide, mm_tb_1 1678 (by decide +kernel) rfl, rfl, t_Md_ok, n_Md, rfl, by decide +kernel⟩
theorem zd_14_92_34 : zz_D zy_keepRow_14_92 34 (.iload_n 3) 1 35 := ⟨by decide +kernel, rfl⟩
theorem zd_14_92_35 : zz_D zy_keepRow_14_92 35 (.iload 5) 2 37 := ⟨by decide +kernel, rfl⟩
theorem zd_14_92_37 : zz_D zy_keepRow_14_92 37 (.iadd) 1 38 := ⟨by decide +kernel, rfl⟩
theorem zd_14_92_38 : zz_D zy_keepRow_14_92 38 (.aload_n 1) 1 39 := ⟨by decide +kernel, rfl⟩
theorem zd_14_92_39 : zz_D zy_keepRow_14_92 39 (.iload 5) 2 41 := ⟨by decide +kernel, rfl⟩
theorem zd_14_92_41 : zz_D zy_keepRow_14_92 41 (.iaload) 1 42 := ⟨by decide +kernel, rfl⟩
theorem zd_14_92_42 : zz_D zy_keepRow_14_92 42 (.iastore) 1 43 := ⟨by decide +kernel, rfl⟩
theorem zd_14_92_43 : zz_D zy_keepRow_14_92 43 (.iinc 5 1) 3 46 := ⟨by decide +kernel, rfl⟩
theorem zd_14_92_46 : zz_B zy_keepRow_14_92 46 Instr.goto 3 49 := ⟨(-43), by decide +kernel, rfl, rfl⟩
theorem zd_14_92_14 : zz_D zy_keepRow_14_92 14 (.aload_n 1) 1 15 := ⟨by decide +kernel, rfl⟩
theorem zd_14_92_15 : zz_D zy_keepRow_14_92 15 (.iload 5) 2 17 := ⟨by decide +kernel, rfl⟩
theorem zd_14_92_17 : zz_D zy_keepRow_14_92 17 (.aload_n 0) 1 18 := ⟨by decide +kernel, rfl⟩
theorem zd_14_92_18 : zz_D zy_keepRow_14_92 18 (.getfield 139) 3 21 := ⟨by decide +kernel, rfl⟩
theorem zd_14_92_21 : zz_D zy_keepRow_14_92 21 (.iload_n 3) 1 22 := ⟨by decide +kernel, rfl⟩
theorem zd_14_92_22 : zz_D zy_keepRow_14_92 22 (.iload 5) 2 24 := ⟨by decide +kernel, rfl⟩
theorem zd_14_92_24 : zz_D zy_keepRow_14_92 24 (.iadd) 1 25 := ⟨by decide +kernel, rfl⟩
theorem zd_14_92_25 : zz_D zy_keepRow_14_92 25 (.iaload) 1 26 := ⟨by decide +kernel, rfl⟩
theorem zd_14_92_26 : zz_D zy_keepRow_14_92 26 (.iastore) 1 27 := ⟨by decide +kernel, rfl⟩
theorem zd_14_92_27 : zz_B zy_keepRow_14_92 27 Instr.goto 43 30 := ⟨16, by decide +kernel, rfl, rfl⟩
theorem zd_14_92_49 : zz_D zy_keepRow_14_92 49 (.return_) 1 50 := ⟨by decide +kernel, rfl⟩
-- TensorForgeModel keepRow ([IIIZ)V
abbrev zr_keepRow_14_92_1102_11_0 : Room := { frames := 0, cells := 0, slots := 0, locals := 0 }
def zp_keepRow_14_92_1102_11_0 (p3 : Int) (S0 : zz_S) : zz_S → Prop := fun S => zz_G S ∧ zz_fr [] [1102, 1119] (fun _ _ => False) S0 S
theorem zb_keepRow_14_92_1102_11_0_3 {g : mm_G} {l : Launch} (p3 : Int) (S0 : zz_S) (n : Nat) (hn : zz_end ≤ n) (G_S0 : zz_G S0) (hp3 : 0 ≤ p3 ∧ p3 ≤ 1) (x5 : Int) (S : zz_S) (G_S : zz_G S) (F_S : zz_fr [] [1102, 1119] (fun _ _ => False) S0 S) (i3_0 : 0 ≤ x5 ∧ x5 ≤ 11) (R : Nat) (hR : (11 - x5).toNat = R) (k3 : ∀ (x5 : Int) (S : zz_S), zz_G S → zz_fr [] [1102, 1119] (fun _ _ => False) S0 S → (0 ≤ x5 ∧ x5 ≤ 11) → (11 - x5).toNat < R → zz_E g l zy_keepRow_14_92 zr_keepRow_14_92_1102_11_0 (zz_QV n (zp_keepRow_14_92_1102_11_0 p3 S0)) S n 3 [some (.ref 1079), some (.ref 1102), some (zi 11), some (zi 0), some (zi p3), some (zi x5)] [] 0 0) : zz_E g l zy_keepRow_14_92 zr_keepRow_14_92_1102_11_0 (zz_QV n (zp_keepRow_14_92_1102_11_0 p3 S0)) S n 3 [some (.ref 1079), some (.ref 1102), some (zi 11), some (zi 0), some (zi p3), some (zi x5)] [] 0 0 := by
  refine zz_iload (x := x5) rfl zd_14_92_3 ?_
  refine zz_iload_n (x := 11) rfl zd_14_92_5 ?_
  refine zz_icmp_ge (by omega) (by omega) zd_14_92_6 (fun c1 => ?_) (fun c1 => ?_)
  · exact zz_vret zd_14_92_49 rfl (Nat.zero_le _) (Nat.zero_le _) ⟨_, rfl, G_S, F_S⟩
  · refine zz_iload (x := p3) rfl zd_14_92_9 ?_
    refine zz_if_eq (by omega) zd_14_92_11 (fun c2 => ?_) (fun c2 => ?_)
    · refine zz_aload_n (x := 1079) rfl zd_14_92_30 ?_
      refine zz_getr (kd := 0) (z := 1119) zd_14_92_31 zf_Md_139 zT_1079 rfl (zz_ltn hn rfl) (zz_G.eq G_S 1079 67 1119 rfl rfl) (by decide) 1119 rfl ?_
      refine zz_iload_n (x := 0) rfl zd_14_92_34 ?_
      refine zz_iload (x := x5) rfl zd_14_92_35 ?_
      refine zz_iadd zd_14_92_37 ?_
      refine zz_aload_n (x := 1102) rfl zd_14_92_38 ?_
      refine zz_iload (x := x5) rfl zd_14_92_39 ?_
      have g3 := zz_G.r G_S 1102 x5.toNat 0 63 rfl rfl
      refine zz_iald (z := S 1102 x5.toNat) zd_14_92_41 zT_1102 rfl (zz_ltn hn rfl) (by decide) (by omega) rfl ?_
      refine zz_iast zd_14_92_42 zT_1119 rfl (zz_ltn hn rfl) (by decide) (by omega) (fun S4 qS4 => ?_)
      have G_S4 := zz_G.put G_S qS4 (0) (if (0 + x5).toNat < 12 then 63 else if (0 + x5).toNat < 24 then 63 else if (0 + x5).toNat < 36 then 63 else if (0 + x5).toNat < 37 then 0 else if (0 + x5).toNat < 48 then 10000000 else if (0 + x5).toNat < 59 then 2 else if (0 + x5).toNat < 70 then 10 else if (0 + x5).toNat < 81 then 10 else if (0 + x5).toNat < 92 then 3 else if (0 + x5).toNat < 103 then 3 else if (0 + x5).toNat < 114 then 3 else if (0 + x5).toNat < 125 then 1 else if (0 + x5).toNat < 136 then 31 else 4096) rfl (by omega)
      have F_S4 := zz_fr.putc F_S qS4 rfl
      refine zz_iinc [some (.ref 1079), some (.ref 1102), some (zi 11), some (zi 0), some (zi p3), some (zi (x5 + 1))] zd_14_92_43 rfl rfl ?_
      refine zz_goto zd_14_92_46 ?_
      refine zz_less (ls1 := [some (.ref 1079), some (.ref 1102), some (zi 11), some (zi 0), some (zi p3), some (zi (x5 + 1))]) ⟨rfl, ⟨rfl, ⟨rfl, ⟨rfl, ⟨rfl, ⟨rfl, trivial⟩⟩⟩⟩⟩⟩ ?_
      exact k3 (x5 + 1) S4 G_S4 F_S4 (by omega) (by omega)
    · refine zz_aload_n (x := 1102) rfl zd_14_92_14 ?_
      refine zz_iload (x := x5) rfl zd_14_92_15 ?_
      refine zz_aload_n (x := 1079) rfl zd_14_92_17 ?_
      refine zz_getr (kd := 0) (z := 1119) zd_14_92_18 zf_Md_139 zT_1079 rfl (zz_ltn hn rfl) (zz_G.eq G_S 1079 67 1119 rfl rfl) (by decide) 1119 rfl ?_
      refine zz_iload_n (x := 0) rfl zd_14_92_21 ?_
      refine zz_iload (x := x5) rfl zd_14_92_22 ?_
      refine zz_iadd zd_14_92_24 ?_
      have g5 := zz_G.r G_S 1119 ((0 + x5).toNat) (0) (if (0 + x5).toNat < 12 then 63 else if (0 + x5).toNat < 24 then 63 else if (0 + x5).toNat < 36 then 63 else if (0 + x5).toNat < 37 then 0 else if (0 + x5).toNat < 48 then 10000000 else if (0 + x5).toNat < 59 then 2 else if (0 + x5).toNat < 70 then 10 else if (0 + x5).toNat < 81 then 10 else if (0 + x5).toNat < 92 then 3 else if (0 + x5).toNat < 103 then 3 else if (0 + x5).toNat < 114 then 3 else if (0 + x5).toNat < 125 then 1 else if (0 + x5).toNat < 136 then 31 else 4096) rfl rfl
      refine zz_iald (z := S 1119 ((0 + x5).toNat)) zd_14_92_25 zT_1119 rfl (zz_ltn hn rfl) (by decide) (by omega) rfl ?_
      refine zz_iast zd_14_92_26 zT_1102 rfl (zz_ltn hn rfl) (by decide) (by omega) (fun S6 qS6 => ?_)
      have G_S6 := zz_G.put G_S qS6 0 63 rfl (by omega)
      have F_S6 := zz_fr.putc F_S qS6 rfl
      refine zz_goto zd_14_92_27 ?_
      refine zz_iinc [some (.ref 1079), some (.ref 1102), some (zi 11), some (zi 0), some (zi p3), some (zi (x5 + 1))] zd_14_92_43 rfl rfl ?_
      refine zz_goto zd_14_92_46 ?_
      refine zz_less (ls1 := [some (.ref 1079), some (.ref 1102), some (zi 11), some (zi 0), some (zi p3), some (zi (x5 + 1))]) ⟨rfl, ⟨rfl, ⟨rfl, ⟨rfl, ⟨rfl, ⟨rfl, trivial⟩⟩⟩⟩⟩⟩ ?_
      exact k3 (x5 + 1) S6 G_S6 F_S6 (by omega) (by omega)
theorem zi_keepRow_14_92_1102_11_0 {g : mm_G} {l : Launch} (p3 : Int) (S0 : zz_S) (n : Nat) (hn : zz_end ≤ n) (G_S0 : zz_G S0) (hp3 : 0 ≤ p3 ∧ p3 ≤ 1) : ∀ N : Nat, (∀ (x5 : Int) (S : zz_S), zz_G S → zz_fr [] [1102, 1119] (fun _ _ => False) S0 S → (0 ≤ x5 ∧ x5 ≤ 11) → (11 - x5).toNat < N → zz_E g l zy_keepRow_14_92 zr_keepRow_14_92_1102_11_0 (zz_QV n (zp_keepRow_14_92_1102_11_0 p3 S0)) S n 3 [some (.ref 1079), some (.ref 1102), some (zi 11), some (zi 0), some (zi p3), some (zi x5)] [] 0 0) := by
  intro N
  induction N with
  | zero => exact fun x5 S _ _ _ h => absurd h (Nat.not_lt_zero _)
  | succ N ih =>
    exact fun x5 S a b j0 hR => zb_keepRow_14_92_1102_11_0_3 p3 S0 n hn G_S0 hp3 x5 S a b j0 _ rfl (fun x5 S a b j0 h => ih x5 S a b j0 (Nat.lt_of_lt_of_le h (Nat.le_of_lt_succ hR)))
theorem zc_keepRow_14_92_1102_11_0 {g : mm_G} {l : Launch} (p3 : Int) (S0 : zz_S) (n : Nat) (hn : zz_end ≤ n) (G_S0 : zz_G S0) (hp3 : 0 ≤ p3 ∧ p3 ≤ 1) : mm_Met g l zy_keepRow_14_92 zr_keepRow_14_92_1102_11_0 [.ref 1079, .ref 1102, zi 11, zi 0, zi p3] (zz_M S0 n) n (zz_QV n (zp_keepRow_14_92_1102_11_0 p3 S0)) := by
  refine zz_enter (by decide) (Nat.le_of_ble_eq_true rfl) (zz_less (ls1 := [some (.ref 1079), some (.ref 1102), some (zi 11), some (zi 0), some (zi p3)]) ⟨rfl, ⟨rfl, ⟨rfl, ⟨rfl, ⟨rfl, trivial⟩⟩⟩⟩⟩ ?_)
  have F_S0 : zz_fr [] [1102, 1119] (fun _ _ => False) S0 S0 := zz_fr.refl
  have k3 : ∀ (x5 : Int) (S : zz_S), zz_G S → zz_fr [] [1102, 1119] (fun _ _ => False) S0 S → (0 ≤ x5 ∧ x5 ≤ 11) → zz_E g l zy_keepRow_14_92 zr_keepRow_14_92_1102_11_0 (zz_QV n (zp_keepRow_14_92_1102_11_0 p3 S0)) S n 3 [some (.ref 1079), some (.ref 1102), some (zi 11), some (zi 0), some (zi p3), some (zi x5)] [] 0 0 := fun x5 S a b j0 => (zi_keepRow_14_92_1102_11_0 (g := g) (l := l) p3 S0 n hn G_S0 hp3 _) x5 S a b j0 (Nat.lt_succ_self _)
  refine zz_iconst zd_14_92_0 ?_
  refine zz_istore [some (.ref 1079), some (.ref 1102), some (zi 11), some (zi 0), some (zi p3), some (zi 0)] zd_14_92_1 (by decide) rfl ?_
  refine zz_less (ls1 := [some (.ref 1079), some (.ref 1102), some (zi 11), some (zi 0), some (zi p3), some (zi 0)]) ⟨rfl, ⟨rfl, ⟨rfl, ⟨rfl, ⟨rfl, ⟨rfl, trivial⟩⟩⟩⟩⟩⟩ ?_
  exact k3 0 S0 G_S0 F_S0 (by omega)
theorem zk_Md_518 : mm_Vl "TensorForgeModel" 518 11 4 zy_keepRow_14_92 := ⟨zyw_keepRow_14_92, (R_Md, F_Md, 69), rfl, mm_tb_1 2192 (by decide +kernel) rfl, mm_tb_1 2194 (by decide +kernel) rfl, mm_tb_s 139 (by decide +kernel) rfl⟩
theorem zd_14_91_39 : zz_D zy_keepNetwork_14_91 39 (.aload_n 0) 1 40 := ⟨by decide +kernel, rfl⟩
theorem zd_14_91_40 : zz_D zy_keepNetwork_14_91 40 (.aload_n 0) 1 41 := ⟨by decide +kernel, rfl⟩
theorem zd_14_91_41 : zz_D zy_keepNetwork_14_91 41 (.getfield 91) 3 44 := ⟨by decide +kernel, rfl⟩
theorem zd_14_91_44 : zz_D zy_keepNetwork_14_91 44 (.bipush 11) 2 46 := ⟨by decide +kernel, rfl⟩
theorem zd_14_91_46 : zz_D zy_keepNetwork_14_91 46 (.bipush 12) 2 48 := ⟨by decide +kernel, rfl⟩
theorem zd_14_91_48 : zz_D zy_keepNetwork_14_91 48 (.iload_n 1) 1 49 := ⟨by decide +kernel, rfl⟩
theorem zd_14_91_49 : zz_D zy_keepNetwork_14_91 49 (.invokevirtual 518) 3 52 := ⟨by decide +kernel, rfl⟩
-- TensorForgeModel keepRow ([IIIZ)V
abbrev zr_keepRow_14_92_1103_11_12 : Room := { frames := 0, cells := 0, slots := 0, locals := 0 }
def zp_keepRow_14_92_1103_11_12 (p3 : Int) (S0 : zz_S) : zz_S → Prop := fun S => zz_G S ∧ zz_fr [] [1103, 1119] (fun _ _ => False) S0 S
theorem zb_keepRow_14_92_1103_11_12_3 {g : mm_G} {l : Launch} (p3 : Int) (S0 : zz_S) (n : Nat) (hn : zz_end ≤ n) (G_S0 : zz_G S0) (hp3 : 0 ≤ p3 ∧ p3 ≤ 1) (x5 : Int) (S : zz_S) (G_S : zz_G S) (F_S : zz_fr [] [1103, 1119] (fun _ _ => False) S0 S) (i3_0 : 0 ≤ x5 ∧ x5 ≤ 11) (R : Nat) (hR : (11 - x5).toNat = R) (k3 : ∀ (x5 : Int) (S : zz_S), zz_G S → zz_fr [] [1103, 1119] (fun _ _ => False) S0 S → (0 ≤ x5 ∧ x5 ≤ 11) → (11 - x5).toNat < R → zz_E g l zy_keepRow_14_92 zr_keepRow_14_92_1103_11_12 (zz_QV n (zp_keepRow_14_92_1103_11_12 p3 S0)) S n 3 [some (.ref 1079), some (.ref 1103), some (zi 11), some (zi 12), some (zi p3), some (zi x5)] [] 0 0) : zz_E g l zy_keepRow_14_92 zr_keepRow_14_92_1103_11_12 (zz_QV n (zp_keepRow_14_92_1103_11_12 p3 S0)) S n 3 [some (.ref 1079), some (.ref 1103), some (zi 11), some (zi 12), some (zi p3), some (zi x5)] [] 0 0 := by
  refine zz_iload (x := x5) rfl zd_14_92_3 ?_
  refine zz_iload_n (x := 11) rfl zd_14_92_5 ?_
  refine zz_icmp_ge (by omega) (by omega) zd_14_92_6 (fun c1 => ?_) (fun c1 => ?_)
  · exact zz_vret zd_14_92_49 rfl (Nat.zero_le _) (Nat.zero_le _) ⟨_, rfl, G_S, F_S⟩
  · refine zz_iload (x := p3) rfl zd_14_92_9 ?_
    refine zz_if_eq (by omega) zd_14_92_11 (fun c2 => ?_) (fun c2 => ?_)
    · refine zz_aload_n (x := 1079) rfl zd_14_92_30 ?_
      refine zz_getr (kd := 0) (z := 1119) zd_14_92_31 zf_Md_139 zT_1079 rfl (zz_ltn hn rfl) (zz_G.eq G_S 1079 67 1119 rfl rfl) (by decide) 1119 rfl ?_
      refine zz_iload_n (x := 12) rfl zd_14_92_34 ?_
      refine zz_iload (x := x5) rfl zd_14_92_35 ?_
      refine zz_iadd zd_14_92_37 ?_
      refine zz_aload_n (x := 1103) rfl zd_14_92_38 ?_
      refine zz_iload (x := x5) rfl zd_14_92_39 ?_
      have g3 := zz_G.r G_S 1103 x5.toNat 0 63 rfl rfl
      refine zz_iald (z := S 1103 x5.toNat) zd_14_92_41 zT_1103 rfl (zz_ltn hn rfl) (by decide) (by omega) rfl ?_
      refine zz_iast zd_14_92_42 zT_1119 rfl (zz_ltn hn rfl) (by decide) (by omega) (fun S4 qS4 => ?_)
      have G_S4 := zz_G.put G_S qS4 (0) (if (12 + x5).toNat < 12 then 63 else if (12 + x5).toNat < 24 then 63 else if (12 + x5).toNat < 36 then 63 else if (12 + x5).toNat < 37 then 0 else if (12 + x5).toNat < 48 then 10000000 else if (12 + x5).toNat < 59 then 2 else if (12 + x5).toNat < 70 then 10 else if (12 + x5).toNat < 81 then 10 else if (12 + x5).toNat < 92 then 3 else if (12 + x5).toNat < 103 then 3 else if (12 + x5).toNat < 114 then 3 else if (12 + x5).toNat < 125 then 1 else if (12 + x5).toNat < 136 then 31 else 4096) rfl (by omega)
      have F_S4 := zz_fr.putc F_S qS4 rfl
      refine zz_iinc [some (.ref 1079), some (.ref 1103), some (zi 11), some (zi 12), some (zi p3), some (zi (x5 + 1))] zd_14_92_43 rfl rfl ?_
      refine zz_goto zd_14_92_46 ?_
      refine zz_less (ls1 := [some (.ref 1079), some (.ref 1103), some (zi 11), some (zi 12), some (zi p3), some (zi (x5 + 1))]) ⟨rfl, ⟨rfl, ⟨rfl, ⟨rfl, ⟨rfl, ⟨rfl, trivial⟩⟩⟩⟩⟩⟩ ?_
      exact k3 (x5 + 1) S4 G_S4 F_S4 (by omega) (by omega)
    · refine zz_aload_n (x := 1103) rfl zd_14_92_14 ?_
      refine zz_iload (x := x5) rfl zd_14_92_15 ?_
      refine zz_aload_n (x := 1079) rfl zd_14_92_17 ?_
      refine zz_getr (kd := 0) (z := 1119) zd_14_92_18 zf_Md_139 zT_1079 rfl (zz_ltn hn rfl) (zz_G.eq G_S 1079 67 1119 rfl rfl) (by decide) 1119 rfl ?_
      refine zz_iload_n (x := 12) rfl zd_14_92_21 ?_
      refine zz_iload (x := x5) rfl zd_14_92_22 ?_
      refine zz_iadd zd_14_92_24 ?_
      have g5 := zz_G.r G_S 1119 ((12 + x5).toNat) (0) (if (12 + x5).toNat < 12 then 63 else if (12 + x5).toNat < 24 then 63 else if (12 + x5).toNat < 36 then 63 else if (12 + x5).toNat < 37 then 0 else if (12 + x5).toNat < 48 then 10000000 else if (12 + x5).toNat < 59 then 2 else if (12 + x5).toNat < 70 then 10 else if (12 + x5).toNat < 81 then 10 else if (12 + x5).toNat < 92 then 3 else if (12 + x5).toNat < 103 then 3 else if (12 + x5).toNat < 114 then 3 else if (12 + x5).toNat < 125 then 1 else if (12 + x5).toNat < 136 then 31 else 4096) rfl rfl
      refine zz_iald (z := S 1119 ((12 + x5).toNat)) zd_14_92_25 zT_1119 rfl (zz_ltn hn rfl) (by decide) (by omega) rfl ?_
      refine zz_iast zd_14_92_26 zT_1103 rfl (zz_ltn hn rfl) (by decide) (by omega) (fun S6 qS6 => ?_)
      have G_S6 := zz_G.put G_S qS6 0 63 rfl (by omega)
      have F_S6 := zz_fr.putc F_S qS6 rfl
      refine zz_goto zd_14_92_27 ?_
      refine zz_iinc [some (.ref 1079), some (.ref 1103), some (zi 11), some (zi 12), some (zi p3), some (zi (x5 + 1))] zd_14_92_43 rfl rfl ?_
      refine zz_goto zd_14_92_46 ?_
      refine zz_less (ls1 := [some (.ref 1079), some (.ref 1103), some (zi 11), some (zi 12), some (zi p3), some (zi (x5 + 1))]) ⟨rfl, ⟨rfl, ⟨rfl, ⟨rfl, ⟨rfl, ⟨rfl, trivial⟩⟩⟩⟩⟩⟩ ?_
      exact k3 (x5 + 1) S6 G_S6 F_S6 (by omega) (by omega)
theorem zi_keepRow_14_92_1103_11_12 {g : mm_G} {l : Launch} (p3 : Int) (S0 : zz_S) (n : Nat) (hn : zz_end ≤ n) (G_S0 : zz_G S0) (hp3 : 0 ≤ p3 ∧ p3 ≤ 1) : ∀ N : Nat, (∀ (x5 : Int) (S : zz_S), zz_G S → zz_fr [] [1103, 1119] (fun _ _ => False) S0 S → (0 ≤ x5 ∧ x5 ≤ 11) → (11 - x5).toNat < N → zz_E g l zy_keepRow_14_92 zr_keepRow_14_92_1103_11_12 (zz_QV n (zp_keepRow_14_92_1103_11_12 p3 S0)) S n 3 [some (.ref 1079), some (.ref 1103), some (zi 11), some (zi 12), some (zi p3), some (zi x5)] [] 0 0) := by
  intro N
  induction N with
  | zero => exact fun x5 S _ _ _ h => absurd h (Nat.not_lt_zero _)
  | succ N ih =>
    exact fun x5 S a b j0 hR => zb_keepRow_14_92_1103_11_12_3 p3 S0 n hn G_S0 hp3 x5 S a b j0 _ rfl (fun x5 S a b j0 h => ih x5 S a b j0 (Nat.lt_of_lt_of_le h (Nat.le_of_lt_succ hR)))
theorem zc_keepRow_14_92_1103_11_12 {g : mm_G} {l : Launch} (p3 : Int) (S0 : zz_S) (n : Nat) (hn : zz_end ≤ n) (G_S0 : zz_G S0) (hp3 : 0 ≤ p3 ∧ p3 ≤ 1) : mm_Met g l zy_keepRow_14_92 zr_keepRow_14_92_1103_11_12 [.ref 1079, .ref 1103, zi 11, zi 12, zi p3] (zz_M S0 n) n (zz_QV n (zp_keepRow_14_92_1103_11_12 p3 S0)) := by
  refine zz_enter (by decide) (Nat.le_of_ble_eq_true rfl) (zz_less (ls1 := [some (.ref 1079), some (.ref 1103), some (zi 11), some (zi 12), some (zi p3)]) ⟨rfl, ⟨rfl, ⟨rfl, ⟨rfl, ⟨rfl, trivial⟩⟩⟩⟩⟩ ?_)
  have F_S0 : zz_fr [] [1103, 1119] (fun _ _ => False) S0 S0 := zz_fr.refl
  have k3 : ∀ (x5 : Int) (S : zz_S), zz_G S → zz_fr [] [1103, 1119] (fun _ _ => False) S0 S → (0 ≤ x5 ∧ x5 ≤ 11) → zz_E g l zy_keepRow_14_92 zr_keepRow_14_92_1103_11_12 (zz_QV n (zp_keepRow_14_92_1103_11_12 p3 S0)) S n 3 [some (.ref 1079), some (.ref 1103), some (zi 11), some (zi 12), some (zi p3), some (zi x5)] [] 0 0 := fun x5 S a b j0 => (zi_keepRow_14_92_1103_11_12 (g := g) (l := l) p3 S0 n hn G_S0 hp3 _) x5 S a b j0 (Nat.lt_succ_self _)
  refine zz_iconst zd_14_92_0 ?_
  refine zz_istore [some (.ref 1079), some (.ref 1103), some (zi 11), some (zi 12), some (zi p3), some (zi 0)] zd_14_92_1 (by decide) rfl ?_
  refine zz_less (ls1 := [some (.ref 1079), some (.ref 1103), some (zi 11), some (zi 12), some (zi p3), some (zi 0)]) ⟨rfl, ⟨rfl, ⟨rfl, ⟨rfl, ⟨rfl, ⟨rfl, trivial⟩⟩⟩⟩⟩⟩ ?_
  exact k3 0 S0 G_S0 F_S0 (by omega)
theorem zd_14_91_52 : zz_D zy_keepNetwork_14_91 52 (.aload_n 0) 1 53 := ⟨by decide +kernel, rfl⟩
theorem zd_14_91_53 : zz_D zy_keepNetwork_14_91 53 (.aload_n 0) 1 54 := ⟨by decide +kernel, rfl⟩
theorem zd_14_91_54 : zz_D zy_keepNetwork_14_91 54 (.getfield 94) 3 57 := ⟨by decide +kernel, rfl⟩
theorem zd_14_91_57 : zz_D zy_keepNetwork_14_91 57 (.bipush 11) 2 59 := ⟨by decide +kernel, rfl⟩
theorem zd_14_91_59 : zz_D zy_keepNetwork_14_91 59 (.bipush 24) 2 61 := ⟨by decide +kernel, rfl⟩
theorem zd_14_91_61 : zz_D zy_keepNetwork_14_91 61 (.iload_n 1) 1 62 := ⟨by decide +kernel, rfl⟩
theorem zd_14_91_62 : zz_D zy_keepNetwork_14_91 62 (.invokevirtual 518) 3 65 := ⟨by decide +kernel, rfl⟩
-- TensorForgeModel keepRow ([IIIZ)V
abbrev zr_keepRow_14_92_1104_11_24 : Room := { frames := 0, cells := 0, slots := 0, locals := 0 }
def zp_keepRow_14_92_1104_11_24 (p3 : Int) (S0 : zz_S) : zz_S → Prop := fun S => zz_G S ∧ zz_fr [] [1104, 1119] (fun _ _ => False) S0 S
theorem zb_keepRow_14_92_1104_11_24_3 {g : mm_G} {l : Launch} (p3 : Int) (S0 : zz_S) (n : Nat) (hn : zz_end ≤ n) (G_S0 : zz_G S0) (hp3 : 0 ≤ p3 ∧ p3 ≤ 1) (x5 : Int) (S : zz_S) (G_S : zz_G S) (F_S : zz_fr [] [1104, 1119] (fun _ _ => False) S0 S) (i3_0 : 0 ≤ x5 ∧ x5 ≤ 11) (R : Nat) (hR : (11 - x5).toNat = R) (k3 : ∀ (x5 : Int) (S : zz_S), zz_G S → zz_fr [] [1104, 1119] (fun _ _ => False) S0 S → (0 ≤ x5 ∧ x5 ≤ 11) → (11 - x5).toNat < R → zz_E g l zy_keepRow_14_92 zr_keepRow_14_92_1104_11_24 (zz_QV n (zp_keepRow_14_92_1104_11_24 p3 S0)) S n 3 [some (.ref 1079), some (.ref 1104), some (zi 11), some (zi 24), some (zi p3), some (zi x5)] [] 0 0) : zz_E g l zy_keepRow_14_92 zr_keepRow_14_92_1104_11_24 (zz_QV n (zp_keepRow_14_92_1104_11_24 p3 S0)) S n 3 [some (.ref 1079), some (.ref 1104), some (zi 11), some (zi 24), some (zi p3), some (zi x5)] [] 0 0 := by
  refine zz_iload (x := x5) rfl zd_14_92_3 ?_
  refine zz_iload_n (x := 11) rfl zd_14_92_5 ?_
  refine zz_icmp_ge (by omega) (by omega) zd_14_92_6 (fun c1 => ?_) (fun c1 => ?_)
  · exact zz_vret zd_14_92_49 rfl (Nat.zero_le _) (Nat.zero_le _) ⟨_, rfl, G_S, F_S⟩
  · refine zz_iload (x := p3) rfl zd_14_92_9 ?_
    refine zz_if_eq (by omega) zd_14_92_11 (fun c2 => ?_) (fun c2 => ?_)
    · refine zz_aload_n (x := 1079) rfl zd_14_92_30 ?_
      refine zz_getr (kd := 0) (z := 1119) zd_14_92_31 zf_Md_139 zT_1079 rfl (zz_ltn hn rfl) (zz_G.eq G_S 1079 67 1119 rfl rfl) (by decide) 1119 rfl ?_
      refine zz_iload_n (x := 24) rfl zd_14_92_34 ?_
      refine zz_iload (x := x5) rfl zd_14_92_35 ?_
      refine zz_iadd zd_14_92_37 ?_
      refine zz_aload_n (x := 1104) rfl zd_14_92_38 ?_
      refine zz_iload (x := x5) rfl zd_14_92_39 ?_
      have g3 := zz_G.r G_S 1104 x5.toNat 0 63 rfl rfl
      refine zz_iald (z := S 1104 x5.toNat) zd_14_92_41 zT_1104 rfl (zz_ltn hn rfl) (by decide) (by omega) rfl ?_
      refine zz_iast zd_14_92_42 zT_1119 rfl (zz_ltn hn rfl) (by decide) (by omega) (fun S4 qS4 => ?_)
      have G_S4 := zz_G.put G_S qS4 (0) (if (24 + x5).toNat < 12 then 63 else if (24 + x5).toNat < 24 then 63 else if (24 + x5).toNat < 36 then 63 else if (24 + x5).toNat < 37 then 0 else if (24 + x5).toNat < 48 then 10000000 else if (24 + x5).toNat < 59 then 2 else if (24 + x5).toNat < 70 then 10 else if (24 + x5).toNat < 81 then 10 else if (24 + x5).toNat < 92 then 3 else if (24 + x5).toNat < 103 then 3 else if (24 + x5).toNat < 114 then 3 else if (24 + x5).toNat < 125 then 1 else if (24 + x5).toNat < 136 then 31 else 4096) rfl (by omega)
      have F_S4 := zz_fr.putc F_S qS4 rfl
      refine zz_iinc [some (.ref 1079), some (.ref 1104), some (zi 11), some (zi 24), some (zi p3), some (zi (x5 + 1))] zd_14_92_43 rfl rfl ?_
      refine zz_goto zd_14_92_46 ?_
      refine zz_less (ls1 := [some (.ref 1079), some (.ref 1104), some (zi 11), some (zi 24), some (zi p3), some (zi (x5 + 1))]) ⟨rfl, ⟨rfl, ⟨rfl, ⟨rfl, ⟨rfl, ⟨rfl, trivial⟩⟩⟩⟩⟩⟩ ?_
      exact k3 (x5 + 1) S4 G_S4 F_S4 (by omega) (by omega)
    · refine zz_aload_n (x := 1104) rfl zd_14_92_14 ?_
      refine zz_iload (x := x5) rfl zd_14_92_15 ?_
      refine zz_aload_n (x := 1079) rfl zd_14_92_17 ?_
      refine zz_getr (kd := 0) (z := 1119) zd_14_92_18 zf_Md_139 zT_1079 rfl (zz_ltn hn rfl) (zz_G.eq G_S 1079 67 1119 rfl rfl) (by decide) 1119 rfl ?_
      refine zz_iload_n (x := 24) rfl zd_14_92_21 ?_
      refine zz_iload (x := x5) rfl zd_14_92_22 ?_
      refine zz_iadd zd_14_92_24 ?_
      have g5 := zz_G.r G_S 1119 ((24 + x5).toNat) (0) (if (24 + x5).toNat < 12 then 63 else if (24 + x5).toNat < 24 then 63 else if (24 + x5).toNat < 36 then 63 else if (24 + x5).toNat < 37 then 0 else if (24 + x5).toNat < 48 then 10000000 else if (24 + x5).toNat < 59 then 2 else if (24 + x5).toNat < 70 then 10 else if (24 + x5).toNat < 81 then 10 else if (24 + x5).toNat < 92 then 3 else if (24 + x5).toNat < 103 then 3 else if (24 + x5).toNat < 114 then 3 else if (24 + x5).toNat < 125 then 1 else if (24 + x5).toNat < 136 then 31 else 4096) rfl rfl
      refine zz_iald (z := S 1119 ((24 + x5).toNat)) zd_14_92_25 zT_1119 rfl (zz_ltn hn rfl) (by decide) (by omega) rfl ?_
      refine zz_iast zd_14_92_26 zT_1104 rfl (zz_ltn hn rfl) (by decide) (by omega) (fun S6 qS6 => ?_)
      have G_S6 := zz_G.put G_S qS6 0 63 rfl (by omega)
      have F_S6 := zz_fr.putc F_S qS6 rfl
      refine zz_goto zd_14_92_27 ?_
      refine zz_iinc [some (.ref 1079), some (.ref 1104), some (zi 11), some (zi 24), some (zi p3), some (zi (x5 + 1))] zd_14_92_43 rfl rfl ?_
      refine zz_goto zd_14_92_46 ?_
      refine zz_less (ls1 := [some (.ref 1079), some (.ref 1104), some (zi 11), some (zi 24), some (zi p3), some (zi (x5 + 1))]) ⟨rfl, ⟨rfl, ⟨rfl, ⟨rfl, ⟨rfl, ⟨rfl, trivial⟩⟩⟩⟩⟩⟩ ?_
      exact k3 (x5 + 1) S6 G_S6 F_S6 (by omega) (by omega)
theorem zi_keepRow_14_92_1104_11_24 {g : mm_G} {l : Launch} (p3 : Int) (S0 : zz_S) (n : Nat) (hn : zz_end ≤ n) (G_S0 : zz_G S0) (hp3 : 0 ≤ p3 ∧ p3 ≤ 1) : ∀ N : Nat, (∀ (x5 : Int) (S : zz_S), zz_G S → zz_fr [] [1104, 1119] (fun _ _ => False) S0 S → (0 ≤ x5 ∧ x5 ≤ 11) → (11 - x5).toNat < N → zz_E g l zy_keepRow_14_92 zr_keepRow_14_92_1104_11_24 (zz_QV n (zp_keepRow_14_92_1104_11_24 p3 S0)) S n 3 [some (.ref 1079), some (.ref 1104), some (zi 11), some (zi 24), some (zi p3), some (zi x5)] [] 0 0) := by
  intro N
  induction N with
  | zero => exact fun x5 S _ _ _ h => absurd h (Nat.not_lt_zero _)
  | succ N ih =>
    exact fun x5 S a b j0 hR => zb_keepRow_14_92_1104_11_24_3 p3 S0 n hn G_S0 hp3 x5 S a b j0 _ rfl (fun x5 S a b j0 h => ih x5 S a b j0 (Nat.lt_of_lt_of_le h (Nat.le_of_lt_succ hR)))
theorem zc_keepRow_14_92_1104_11_24 {g : mm_G} {l : Launch} (p3 : Int) (S0 : zz_S) (n : Nat) (hn : zz_end ≤ n) (G_S0 : zz_G S0) (hp3 : 0 ≤ p3 ∧ p3 ≤ 1) : mm_Met g l zy_keepRow_14_92 zr_keepRow_14_92_1104_11_24 [.ref 1079, .ref 1104, zi 11, zi 24, zi p3] (zz_M S0 n) n (zz_QV n (zp_keepRow_14_92_1104_11_24 p3 S0)) := by
  refine zz_enter (by decide) (Nat.le_of_ble_eq_true rfl) (zz_less (ls1 := [some (.ref 1079), some (.ref 1104), some (zi 11), some (zi 24), some (zi p3)]) ⟨rfl, ⟨rfl, ⟨rfl, ⟨rfl, ⟨rfl, trivial⟩⟩⟩⟩⟩ ?_)
  have F_S0 : zz_fr [] [1104, 1119] (fun _ _ => False) S0 S0 := zz_fr.refl
  have k3 : ∀ (x5 : Int) (S : zz_S), zz_G S → zz_fr [] [1104, 1119] (fun _ _ => False) S0 S → (0 ≤ x5 ∧ x5 ≤ 11) → zz_E g l zy_keepRow_14_92 zr_keepRow_14_92_1104_11_24 (zz_QV n (zp_keepRow_14_92_1104_11_24 p3 S0)) S n 3 [some (.ref 1079), some (.ref 1104), some (zi 11), some (zi 24), some (zi p3), some (zi x5)] [] 0 0 := fun x5 S a b j0 => (zi_keepRow_14_92_1104_11_24 (g := g) (l := l) p3 S0 n hn G_S0 hp3 _) x5 S a b j0 (Nat.lt_succ_self _)
  refine zz_iconst zd_14_92_0 ?_
  refine zz_istore [some (.ref 1079), some (.ref 1104), some (zi 11), some (zi 24), some (zi p3), some (zi 0)] zd_14_92_1 (by decide) rfl ?_
  refine zz_less (ls1 := [some (.ref 1079), some (.ref 1104), some (zi 11), some (zi 24), some (zi p3), some (zi 0)]) ⟨rfl, ⟨rfl, ⟨rfl, ⟨rfl, ⟨rfl, ⟨rfl, trivial⟩⟩⟩⟩⟩⟩ ?_
  exact k3 0 S0 G_S0 F_S0 (by omega)
theorem zd_14_91_65 : zz_D zy_keepNetwork_14_91 65 (.aload_n 0) 1 66 := ⟨by decide +kernel, rfl⟩
theorem zd_14_91_66 : zz_D zy_keepNetwork_14_91 66 (.aload_n 0) 1 67 := ⟨by decide +kernel, rfl⟩
theorem zd_14_91_67 : zz_D zy_keepNetwork_14_91 67 (.getfield 97) 3 70 := ⟨by decide +kernel, rfl⟩
theorem zd_14_91_70 : zz_D zy_keepNetwork_14_91 70 (.bipush 12) 2 72 := ⟨by decide +kernel, rfl⟩
theorem zd_14_91_72 : zz_D zy_keepNetwork_14_91 72 (.bipush 36) 2 74 := ⟨by decide +kernel, rfl⟩
theorem zd_14_91_74 : zz_D zy_keepNetwork_14_91 74 (.iload_n 1) 1 75 := ⟨by decide +kernel, rfl⟩
theorem zd_14_91_75 : zz_D zy_keepNetwork_14_91 75 (.invokevirtual 518) 3 78 := ⟨by decide +kernel, rfl⟩
-- TensorForgeModel keepRow ([IIIZ)V
abbrev zr_keepRow_14_92_1105_12_36 : Room := { frames := 0, cells := 0, slots := 0, locals := 0 }
def zp_keepRow_14_92_1105_12_36 (p3 : Int) (S0 : zz_S) : zz_S → Prop := fun S => zz_G S ∧ zz_fr [] [1105, 1119] (fun _ _ => False) S0 S
theorem zb_keepRow_14_92_1105_12_36_3 {g : mm_G} {l : Launch} (p3 : Int) (S0 : zz_S) (n : Nat) (hn : zz_end ≤ n) (G_S0 : zz_G S0) (hp3 : 0 ≤ p3 ∧ p3 ≤ 1) (x5 : Int) (S : zz_S) (G_S : zz_G S) (F_S : zz_fr [] [1105, 1119] (fun _ _ => False) S0 S) (i3_0 : 0 ≤ x5 ∧ x5 ≤ 12) (R : Nat) (hR : (12 - x5).toNat = R) (k3 : ∀ (x5 : Int) (S : zz_S), zz_G S → zz_fr [] [1105, 1119] (fun _ _ => False) S0 S → (0 ≤ x5 ∧ x5 ≤ 12) → (12 - x5).toNat < R → zz_E g l zy_keepRow_14_92 zr_keepRow_14_92_1105_12_36 (zz_QV n (zp_keepRow_14_92_1105_12_36 p3 S0)) S n 3 [some (.ref 1079), some (.ref 1105), some (zi 12), some (zi 36), some (zi p3), some (zi x5)] [] 0 0) : zz_E g l zy_keepRow_14_92 zr_keepRow_14_92_1105_12_36 (zz_QV n (zp_keepRow_14_92_1105_12_36 p3 S0)) S n 3 [some (.ref 1079), some (.ref 1105), some (zi 12), some (zi 36), some (zi p3), some (zi x5)] [] 0 0 := by
  refine zz_iload (x := x5) rfl zd_14_92_3 ?_
  refine zz_iload_n (x := 12) rfl zd_14_92_5 ?_
  refine zz_icmp_ge (by omega) (by omega) zd_14_92_6 (fun c1 => ?_) (fun c1 => ?_)
  · exact zz_vret zd_14_92_49 rfl (Nat.zero_le _) (Nat.zero_le _) ⟨_, rfl, G_S, F_S⟩
  · refine zz_iload (x := p3) rfl zd_14_92_9 ?_
    refine zz_if_eq (by omega) zd_14_92_11 (fun c2 => ?_) (fun c2 => ?_)
    · refine zz_aload_n (x := 1079) rfl zd_14_92_30 ?_
      refine zz_getr (kd := 0) (z := 1119) zd_14_92_31 zf_Md_139 zT_1079 rfl (zz_ltn hn rfl) (zz_G.eq G_S 1079 67 1119 rfl rfl) (by decide) 1119 rfl ?_
      refine zz_iload_n (x := 36) rfl zd_14_92_34 ?_
      refine zz_iload (x := x5) rfl zd_14_92_35 ?_
      refine zz_iadd zd_14_92_37 ?_
      refine zz_aload_n (x := 1105) rfl zd_14_92_38 ?_
      refine zz_iload (x := x5) rfl zd_14_92_39 ?_
      have g3 := zz_G.r G_S 1105 x5.toNat (0) (if x5.toNat = 0 then 0 else 10000000) rfl rfl
      refine zz_iald (z := S 1105 x5.toNat) zd_14_92_41 zT_1105 rfl (zz_ltn hn rfl) (by decide) (by omega) rfl ?_
      refine zz_iast zd_14_92_42 zT_1119 rfl (zz_ltn hn rfl) (by decide) (by omega) (fun S4 qS4 => ?_)
      have G_S4 := zz_G.put G_S qS4 (0) (if (36 + x5).toNat < 12 then 63 else if (36 + x5).toNat < 24 then 63 else if (36 + x5).toNat < 36 then 63 else if (36 + x5).toNat < 37 then 0 else if (36 + x5).toNat < 48 then 10000000 else if (36 + x5).toNat < 59 then 2 else if (36 + x5).toNat < 70 then 10 else if (36 + x5).toNat < 81 then 10 else if (36 + x5).toNat < 92 then 3 else if (36 + x5).toNat < 103 then 3 else if (36 + x5).toNat < 114 then 3 else if (36 + x5).toNat < 125 then 1 else if (36 + x5).toNat < 136 then 31 else 4096) rfl (by omega)
      have F_S4 := zz_fr.putc F_S qS4 rfl
      refine zz_iinc [some (.ref 1079), some (.ref 1105), some (zi 12), some (zi 36), some (zi p3), some (zi (x5 + 1))] zd_14_92_43 rfl rfl ?_
      refine zz_goto zd_14_92_46 ?_
      refine zz_less (ls1 := [some (.ref 1079), some (.ref 1105), some (zi 12), some (zi 36), some (zi p3), some (zi (x5 + 1))]) ⟨rfl, ⟨rfl, ⟨rfl, ⟨rfl, ⟨rfl, ⟨rfl, trivial⟩⟩⟩⟩⟩⟩ ?_
      exact k3 (x5 + 1) S4 G_S4 F_S4 (by omega) (by omega)
    · refine zz_aload_n (x := 1105) rfl zd_14_92_14 ?_
      refine zz_iload (x := x5) rfl zd_14_92_15 ?_
      refine zz_aload_n (x := 1079) rfl zd_14_92_17 ?_
      refine zz_getr (kd := 0) (z := 1119) zd_14_92_18 zf_Md_139 zT_1079 rfl (zz_ltn hn rfl) (zz_G.eq G_S 1079 67 1119 rfl rfl) (by decide) 1119 rfl ?_
      refine zz_iload_n (x := 36) rfl zd_14_92_21 ?_
      refine zz_iload (x := x5) rfl zd_14_92_22 ?_
      refine zz_iadd zd_14_92_24 ?_
      have g5 := zz_G.r G_S 1119 ((36 + x5).toNat) (0) (if (36 + x5).toNat < 12 then 63 else if (36 + x5).toNat < 24 then 63 else if (36 + x5).toNat < 36 then 63 else if (36 + x5).toNat < 37 then 0 else if (36 + x5).toNat < 48 then 10000000 else if (36 + x5).toNat < 59 then 2 else if (36 + x5).toNat < 70 then 10 else if (36 + x5).toNat < 81 then 10 else if (36 + x5).toNat < 92 then 3 else if (36 + x5).toNat < 103 then 3 else if (36 + x5).toNat < 114 then 3 else if (36 + x5).toNat < 125 then 1 else if (36 + x5).toNat < 136 then 31 else 4096) rfl rfl
      refine zz_iald (z := S 1119 ((36 + x5).toNat)) zd_14_92_25 zT_1119 rfl (zz_ltn hn rfl) (by decide) (by omega) rfl ?_
      refine zz_iast zd_14_92_26 zT_1105 rfl (zz_ltn hn rfl) (by decide) (by omega) (fun S6 qS6 => ?_)
      have G_S6 := zz_G.put G_S qS6 (0) (if x5.toNat = 0 then 0 else 10000000) rfl (by omega)
      have F_S6 := zz_fr.putc F_S qS6 rfl
      refine zz_goto zd_14_92_27 ?_
      refine zz_iinc [some (.ref 1079), some (.ref 1105), some (zi 12), some (zi 36), some (zi p3), some (zi (x5 + 1))] zd_14_92_43 rfl rfl ?_
      refine zz_goto zd_14_92_46 ?_
      refine zz_less (ls1 := [some (.ref 1079), some (.ref 1105), some (zi 12), some (zi 36), some (zi p3), some (zi (x5 + 1))]) ⟨rfl, ⟨rfl, ⟨rfl, ⟨rfl, ⟨rfl, ⟨rfl, trivial⟩⟩⟩⟩⟩⟩ ?_
      exact k3 (x5 + 1) S6 G_S6 F_S6 (by omega) (by omega)
theorem zi_keepRow_14_92_1105_12_36 {g : mm_G} {l : Launch} (p3 : Int) (S0 : zz_S) (n : Nat) (hn : zz_end ≤ n) (G_S0 : zz_G S0) (hp3 : 0 ≤ p3 ∧ p3 ≤ 1) : ∀ N : Nat, (∀ (x5 : Int) (S : zz_S), zz_G S → zz_fr [] [1105, 1119] (fun _ _ => False) S0 S → (0 ≤ x5 ∧ x5 ≤ 12) → (12 - x5).toNat < N → zz_E g l zy_keepRow_14_92 zr_keepRow_14_92_1105_12_36 (zz_QV n (zp_keepRow_14_92_1105_12_36 p3 S0)) S n 3 [some (.ref 1079), some (.ref 1105), some (zi 12), some (zi 36), some (zi p3), some (zi x5)] [] 0 0) := by
  intro N
  induction N with
  | zero => exact fun x5 S _ _ _ h => absurd h (Nat.not_lt_zero _)
  | succ N ih =>
    exact fun x5 S a b j0 hR => zb_keepRow_14_92_1105_12_36_3 p3 S0 n hn G_S0 hp3 x5 S a b j0 _ rfl (fun x5 S a b j0 h => ih x5 S a b j0 (Nat.lt_of_lt_of_le h (Nat.le_of_lt_succ hR)))
theorem zc_keepRow_14_92_1105_12_36 {g : mm_G} {l : Launch} (p3 : Int) (S0 : zz_S) (n : Nat) (hn : zz_end ≤ n) (G_S0 : zz_G S0) (hp3 : 0 ≤ p3 ∧ p3 ≤ 1) : mm_Met g l zy_keepRow_14_92 zr_keepRow_14_92_1105_12_36 [.ref 1079, .ref 1105, zi 12, zi 36, zi p3] (zz_M S0 n) n (zz_QV n (zp_keepRow_14_92_1105_12_36 p3 S0)) := by
  refine zz_enter (by decide) (Nat.le_of_ble_eq_true rfl) (zz_less (ls1 := [some (.ref 1079), some (.ref 1105), some (zi 12), some (zi 36), some (zi p3)]) ⟨rfl, ⟨rfl, ⟨rfl, ⟨rfl, ⟨rfl, trivial⟩⟩⟩⟩⟩ ?_)
  have F_S0 : zz_fr [] [1105, 1119] (fun _ _ => False) S0 S0 := zz_fr.refl
  have k3 : ∀ (x5 : Int) (S : zz_S), zz_G S → zz_fr [] [1105, 1119] (fun _ _ => False) S0 S → (0 ≤ x5 ∧ x5 ≤ 12) → zz_E g l zy_keepRow_14_92 zr_keepRow_14_92_1105_12_36 (zz_QV n (zp_keepRow_14_92_1105_12_36 p3 S0)) S n 3 [some (.ref 1079), some (.ref 1105), some (zi 12), some (zi 36), some (zi p3), some (zi x5)] [] 0 0 := fun x5 S a b j0 => (zi_keepRow_14_92_1105_12_36 (g := g) (l := l) p3 S0 n hn G_S0 hp3 _) x5 S a b j0 (Nat.lt_succ_self _)
  refine zz_iconst zd_14_92_0 ?_
  refine zz_istore [some (.ref 1079), some (.ref 1105), some (zi 12), some (zi 36), some (zi p3), some (zi 0)] zd_14_92_1 (by decide) rfl ?_
  refine zz_less (ls1 := [some (.ref 1079), some (.ref 1105), some (zi 12), some (zi 36), some (zi p3), some (zi 0)]) ⟨rfl, ⟨rfl, ⟨rfl, ⟨rfl, ⟨rfl, ⟨rfl, trivial⟩⟩⟩⟩⟩⟩ ?_
  exact k3 0 S0 G_S0 F_S0 (by omega)
theorem zd_14_91_78 : zz_D zy_keepNetwork_14_91 78 (.aload_n 0) 1 79 := ⟨by decide +kernel, rfl⟩
theorem zd_14_91_79 : zz_D zy_keepNetwork_14_91 79 (.aload_n 0) 1 80 := ⟨by decide +kernel, rfl⟩
theorem zd_14_91_80 : zz_D zy_keepNetwork_14_91 80 (.getfield 100) 3 83 := ⟨by decide +kernel, rfl⟩
theorem zd_14_91_83 : zz_D zy_keepNetwork_14_91 83 (.bipush 10) 2 85 := ⟨by decide +kernel, rfl⟩
theorem zd_14_91_85 : zz_D zy_keepNetwork_14_91 85 (.bipush 48) 2 87 := ⟨by decide +kernel, rfl⟩
theorem zd_14_91_87 : zz_D zy_keepNetwork_14_91 87 (.iload_n 1) 1 88 := ⟨by decide +kernel, rfl⟩
theorem zd_14_91_88 : zz_D zy_keepNetwork_14_91 88 (.invokevirtual 518) 3 91 := ⟨by decide +kernel, rfl⟩
-- TensorForgeModel keepRow ([IIIZ)V
abbrev zr_keepRow_14_92_1106_10_48 : Room := { frames := 0, cells := 0, slots := 0, locals := 0 }
def zp_keepRow_14_92_1106_10_48 (p3 : Int) (S0 : zz_S) : zz_S → Prop := fun S => zz_G S ∧ zz_fr [] [1106, 1119] (fun _ _ => False) S0 S
theorem zb_keepRow_14_92_1106_10_48_3 {g : mm_G} {l : Launch} (p3 : Int) (S0 : zz_S) (n : Nat) (hn : zz_end ≤ n) (G_S0 : zz_G S0) (hp3 : 0 ≤ p3 ∧ p3 ≤ 1) (x5 : Int) (S : zz_S) (G_S : zz_G S) (F_S : zz_fr [] [1106, 1119] (fun _ _ => False) S0 S) (i3_0 : 0 ≤ x5 ∧ x5 ≤ 10) (R : Nat) (hR : (10 - x5).toNat = R) (k3 : ∀ (x5 : Int) (S : zz_S), zz_G S → zz_fr [] [1106, 1119] (fun _ _ => False) S0 S → (0 ≤ x5 ∧ x5 ≤ 10) → (10 - x5).toNat < R → zz_E g l zy_keepRow_14_92 zr_keepRow_14_92_1106_10_48 (zz_QV n (zp_keepRow_14_92_1106_10_48 p3 S0)) S n 3 [some (.ref 1079), some (.ref 1106), some (zi 10), some (zi 48), some (zi p3), some (zi x5)] [] 0 0) : zz_E g l zy_keepRow_14_92 zr_keepRow_14_92_1106_10_48 (zz_QV n (zp_keepRow_14_92_1106_10_48 p3 S0)) S n 3 [some (.ref 1079), some (.ref 1106), some (zi 10), some (zi 48), some (zi p3), some (zi x5)] [] 0 0 := by
  refine zz_iload (x := x5) rfl zd_14_92_3 ?_
  refine zz_iload_n (x := 10) rfl zd_14_92_5 ?_
  refine zz_icmp_ge (by omega) (by omega) zd_14_92_6 (fun c1 => ?_) (fun c1 => ?_)
  · exact zz_vret zd_14_92_49 rfl (Nat.zero_le _) (Nat.zero_le _) ⟨_, rfl, G_S, F_S⟩
  · refine zz_iload (x := p3) rfl zd_14_92_9 ?_
    refine zz_if_eq (by omega) zd_14_92_11 (fun c2 => ?_) (fun c2 => ?_)
    · refine zz_aload_n (x := 1079) rfl zd_14_92_30 ?_
      refine zz_getr (kd := 0) (z := 1119) zd_14_92_31 zf_Md_139 zT_1079 rfl (zz_ltn hn rfl) (zz_G.eq G_S 1079 67 1119 rfl rfl) (by decide) 1119 rfl ?_
      refine zz_iload_n (x := 48) rfl zd_14_92_34 ?_
      refine zz_iload (x := x5) rfl zd_14_92_35 ?_
      refine zz_iadd zd_14_92_37 ?_
      refine zz_aload_n (x := 1106) rfl zd_14_92_38 ?_
      refine zz_iload (x := x5) rfl zd_14_92_39 ?_
      have g3 := zz_G.r G_S 1106 x5.toNat 0 2 rfl rfl
      refine zz_iald (z := S 1106 x5.toNat) zd_14_92_41 zT_1106 rfl (zz_ltn hn rfl) (by decide) (by omega) rfl ?_
      refine zz_iast zd_14_92_42 zT_1119 rfl (zz_ltn hn rfl) (by decide) (by omega) (fun S4 qS4 => ?_)
      have G_S4 := zz_G.put G_S qS4 (0) (if (48 + x5).toNat < 12 then 63 else if (48 + x5).toNat < 24 then 63 else if (48 + x5).toNat < 36 then 63 else if (48 + x5).toNat < 37 then 0 else if (48 + x5).toNat < 48 then 10000000 else if (48 + x5).toNat < 59 then 2 else if (48 + x5).toNat < 70 then 10 else if (48 + x5).toNat < 81 then 10 else if (48 + x5).toNat < 92 then 3 else if (48 + x5).toNat < 103 then 3 else if (48 + x5).toNat < 114 then 3 else if (48 + x5).toNat < 125 then 1 else if (48 + x5).toNat < 136 then 31 else 4096) rfl (by omega)
      have F_S4 := zz_fr.putc F_S qS4 rfl
      refine zz_iinc [some (.ref 1079), some (.ref 1106), some (zi 10), some (zi 48), some (zi p3), some (zi (x5 + 1))] zd_14_92_43 rfl rfl ?_
      refine zz_goto zd_14_92_46 ?_
      refine zz_less (ls1 := [some (.ref 1079), some (.ref 1106), some (zi 10), some (zi 48), some (zi p3), some (zi (x5 + 1))]) ⟨rfl, ⟨rfl, ⟨rfl, ⟨rfl, ⟨rfl, ⟨rfl, trivial⟩⟩⟩⟩⟩⟩ ?_
      exact k3 (x5 + 1) S4 G_S4 F_S4 (by omega) (by omega)
    · refine zz_aload_n (x := 1106) rfl zd_14_92_14 ?_
      refine zz_iload (x := x5) rfl zd_14_92_15 ?_
      refine zz_aload_n (x := 1079) rfl zd_14_92_17 ?_
      refine zz_getr (kd := 0) (z := 1119) zd_14_92_18 zf_Md_139 zT_1079 rfl (zz_ltn hn rfl) (zz_G.eq G_S 1079 67 1119 rfl rfl) (by decide) 1119 rfl ?_
      refine zz_iload_n (x := 48) rfl zd_14_92_21 ?_
      refine zz_iload (x := x5) rfl zd_14_92_22 ?_
      refine zz_iadd zd_14_92_24 ?_
      have g5 := zz_G.r G_S 1119 ((48 + x5).toNat) (0) (if (48 + x5).toNat < 12 then 63 else if (48 + x5).toNat < 24 then 63 else if (48 + x5).toNat < 36 then 63 else if (48 + x5).toNat < 37 then 0 else if (48 + x5).toNat < 48 then 10000000 else if (48 + x5).toNat < 59 then 2 else if (48 + x5).toNat < 70 then 10 else if (48 + x5).toNat < 81 then 10 else if (48 + x5).toNat < 92 then 3 else if (48 + x5).toNat < 103 then 3 else if (48 + x5).toNat < 114 then 3 else if (48 + x5).toNat < 125 then 1 else if (48 + x5).toNat < 136 then 31 else 4096) rfl rfl
      refine zz_iald (z := S 1119 ((48 + x5).toNat)) zd_14_92_25 zT_1119 rfl (zz_ltn hn rfl) (by decide) (by omega) rfl ?_
      refine zz_iast zd_14_92_26 zT_1106 rfl (zz_ltn hn rfl) (by decide) (by omega) (fun S6 qS6 => ?_)
      have G_S6 := zz_G.put G_S qS6 0 2 rfl (by omega)
      have F_S6 := zz_fr.putc F_S qS6 rfl
      refine zz_goto zd_14_92_27 ?_
      refine zz_iinc [some (.ref 1079), some (.ref 1106), some (zi 10), some (zi 48), some (zi p3), some (zi (x5 + 1))] zd_14_92_43 rfl rfl ?_
      refine zz_goto zd_14_92_46 ?_
      refine zz_less (ls1 := [some (.ref 1079), some (.ref 1106), some (zi 10), some (zi 48), some (zi p3), some (zi (x5 + 1))]) ⟨rfl, ⟨rfl, ⟨rfl, ⟨rfl, ⟨rfl, ⟨rfl, trivial⟩⟩⟩⟩⟩⟩ ?_
      exact k3 (x5 + 1) S6 G_S6 F_S6 (by omega) (by omega)
theorem zi_keepRow_14_92_1106_10_48 {g : mm_G} {l : Launch} (p3 : Int) (S0 : zz_S) (n : Nat) (hn : zz_end ≤ n) (G_S0 : zz_G S0) (hp3 : 0 ≤ p3 ∧ p3 ≤ 1) : ∀ N : Nat, (∀ (x5 : Int) (S : zz_S), zz_G S → zz_fr [] [1106, 1119] (fun _ _ => False) S0 S → (0 ≤ x5 ∧ x5 ≤ 10) → (10 - x5).toNat < N → zz_E g l zy_keepRow_14_92 zr_keepRow_14_92_1106_10_48 (zz_QV n (zp_keepRow_14_92_1106_10_48 p3 S0)) S n 3 [some (.ref 1079), some (.ref 1106), some (zi 10), some (zi 48), some (zi p3), some (zi x5)] [] 0 0) := by
  intro N
  induction N with
  | zero => exact fun x5 S _ _ _ h => absurd h (Nat.not_lt_zero _)
  | succ N ih =>
    exact fun x5 S a b j0 hR => zb_keepRow_14_92_1106_10_48_3 p3 S0 n hn G_S0 hp3 x5 S a b j0 _ rfl (fun x5 S a b j0 h => ih x5 S a b j0 (Nat.lt_of_lt_of_le h (Nat.le_of_lt_succ hR)))
theorem zc_keepRow_14_92_1106_10_48 {g : mm_G} {l : Launch} (p3 : Int) (S0 : zz_S) (n : Nat) (hn : zz_end ≤ n) (G_S0 : zz_G S0) (hp3 : 0 ≤ p3 ∧ p3 ≤ 1) : mm_Met g l zy_keepRow_14_92 zr_keepRow_14_92_1106_10_48 [.ref 1079, .ref 1106, zi 10, zi 48, zi p3] (zz_M S0 n) n (zz_QV n (zp_keepRow_14_92_1106_10_48 p3 S0)) := by
  refine zz_enter (by decide) (Nat.le_of_ble_eq_true rfl) (zz_less (ls1 := [some (.ref 1079), some (.ref 1106), some (zi 10), some (zi 48), some (zi p3)]) ⟨rfl, ⟨rfl, ⟨rfl, ⟨rfl, ⟨rfl, trivial⟩⟩⟩⟩⟩ ?_)
  have F_S0 : zz_fr [] [1106, 1119] (fun _ _ => False) S0 S0 := zz_fr.refl
  have k3 : ∀ (x5 : Int) (S : zz_S), zz_G S → zz_fr [] [1106, 1119] (fun _ _ => False) S0 S → (0 ≤ x5 ∧ x5 ≤ 10) → zz_E g l zy_keepRow_14_92 zr_keepRow_14_92_1106_10_48 (zz_QV n (zp_keepRow_14_92_1106_10_48 p3 S0)) S n 3 [some (.ref 1079), some (.ref 1106), some (zi 10), some (zi 48), some (zi p3), some (zi x5)] [] 0 0 := fun x5 S a b j0 => (zi_keepRow_14_92_1106_10_48 (g := g) (l := l) p3 S0 n hn G_S0 hp3 _) x5 S a b j0 (Nat.lt_succ_self _)
  refine zz_iconst zd_14_92_0 ?_
  refine zz_istore [some (.ref 1079), some (.ref 1106), some (zi 10), some (zi 48), some (zi p3), some (zi 0)] zd_14_92_1 (by decide) rfl ?_
  refine zz_less (ls1 := [some (.ref 1079), some (.ref 1106), some (zi 10), some (zi 48), some (zi p3), some (zi 0)]) ⟨rfl, ⟨rfl, ⟨rfl, ⟨rfl, ⟨rfl, ⟨rfl, trivial⟩⟩⟩⟩⟩⟩ ?_
  exact k3 0 S0 G_S0 F_S0 (by omega)
theorem zd_14_91_91 : zz_D zy_keepNetwork_14_91 91 (.aload_n 0) 1 92 := ⟨by decide +kernel, rfl⟩
theorem zd_14_91_92 : zz_D zy_keepNetwork_14_91 92 (.aload_n 0) 1 93 := ⟨by decide +kernel, rfl⟩
theorem zd_14_91_93 : zz_D zy_keepNetwork_14_91 93 (.getfield 103) 3 96 := ⟨by decide +kernel, rfl⟩
theorem zd_14_91_96 : zz_D zy_keepNetwork_14_91 96 (.bipush 10) 2 98 := ⟨by decide +kernel, rfl⟩
theorem zd_14_91_98 : zz_D zy_keepNetwork_14_91 98 (.bipush 59) 2 100 := ⟨by decide +kernel, rfl⟩
theorem zd_14_91_100 : zz_D zy_keepNetwork_14_91 100 (.iload_n 1) 1 101 := ⟨by decide +kernel, rfl⟩
theorem zd_14_91_101 : zz_D zy_keepNetwork_14_91 101 (.invokevirtual 518) 3 104 := ⟨by decide +kernel, rfl⟩
-- TensorForgeModel keepRow ([IIIZ)V
abbrev zr_keepRow_14_92_1107_10_59 : Room := { frames := 0, cells := 0, slots := 0, locals := 0 }
def zp_keepRow_14_92_1107_10_59 (p3 : Int) (S0 : zz_S) : zz_S → Prop := fun S => zz_G S ∧ zz_fr [] [1107, 1119] (fun _ _ => False) S0 S
theorem zb_keepRow_14_92_1107_10_59_3 {g : mm_G} {l : Launch} (p3 : Int) (S0 : zz_S) (n : Nat) (hn : zz_end ≤ n) (G_S0 : zz_G S0) (hp3 : 0 ≤ p3 ∧ p3 ≤ 1) (x5 : Int) (S : zz_S) (G_S : zz_G S) (F_S : zz_fr [] [1107, 1119] (fun _ _ => False) S0 S) (i3_0 : 0 ≤ x5 ∧ x5 ≤ 10) (R : Nat) (hR : (10 - x5).toNat = R) (k3 : ∀ (x5 : Int) (S : zz_S), zz_G S → zz_fr [] [1107, 1119] (fun _ _ => False) S0 S → (0 ≤ x5 ∧ x5 ≤ 10) → (10 - x5).toNat < R → zz_E g l zy_keepRow_14_92 zr_keepRow_14_92_1107_10_59 (zz_QV n (zp_keepRow_14_92_1107_10_59 p3 S0)) S n 3 [some (.ref 1079), some (.ref 1107), some (zi 10), some (zi 59), some (zi p3), some (zi x5)] [] 0 0) : zz_E g l zy_keepRow_14_92 zr_keepRow_14_92_1107_10_59 (zz_QV n (zp_keepRow_14_92_1107_10_59 p3 S0)) S n 3 [some (.ref 1079), some (.ref 1107), some (zi 10), some (zi 59), some (zi p3), some (zi x5)] [] 0 0 := by
  refine zz_iload (x := x5) rfl zd_14_92_3 ?_
  refine zz_iload_n (x := 10) rfl zd_14_92_5 ?_
  refine zz_icmp_ge (by omega) (by omega) zd_14_92_6 (fun c1 => ?_) (fun c1 => ?_)
  · exact zz_vret zd_14_92_49 rfl (Nat.zero_le _) (Nat.zero_le _) ⟨_, rfl, G_S, F_S⟩
  · refine zz_iload (x := p3) rfl zd_14_92_9 ?_
    refine zz_if_eq (by omega) zd_14_92_11 (fun c2 => ?_) (fun c2 => ?_)
    · refine zz_aload_n (x := 1079) rfl zd_14_92_30 ?_
      refine zz_getr (kd := 0) (z := 1119) zd_14_92_31 zf_Md_139 zT_1079 rfl (zz_ltn hn rfl) (zz_G.eq G_S 1079 67 1119 rfl rfl) (by decide) 1119 rfl ?_
      refine zz_iload_n (x := 59) rfl zd_14_92_34 ?_
      refine zz_iload (x := x5) rfl zd_14_92_35 ?_
      refine zz_iadd zd_14_92_37 ?_
      refine zz_aload_n (x := 1107) rfl zd_14_92_38 ?_
      refine zz_iload (x := x5) rfl zd_14_92_39 ?_
      have g3 := zz_G.r G_S 1107 x5.toNat 0 10 rfl rfl
      refine zz_iald (z := S 1107 x5.toNat) zd_14_92_41 zT_1107 rfl (zz_ltn hn rfl) (by decide) (by omega) rfl ?_
      refine zz_iast zd_14_92_42 zT_1119 rfl (zz_ltn hn rfl) (by decide) (by omega) (fun S4 qS4 => ?_)
      have G_S4 := zz_G.put G_S qS4 (0) (if (59 + x5).toNat < 12 then 63 else if (59 + x5).toNat < 24 then 63 else if (59 + x5).toNat < 36 then 63 else if (59 + x5).toNat < 37 then 0 else if (59 + x5).toNat < 48 then 10000000 else if (59 + x5).toNat < 59 then 2 else if (59 + x5).toNat < 70 then 10 else if (59 + x5).toNat < 81 then 10 else if (59 + x5).toNat < 92 then 3 else if (59 + x5).toNat < 103 then 3 else if (59 + x5).toNat < 114 then 3 else if (59 + x5).toNat < 125 then 1 else if (59 + x5).toNat < 136 then 31 else 4096) rfl (by omega)
      have F_S4 := zz_fr.putc F_S qS4 rfl
      refine zz_iinc [some (.ref 1079), some (.ref 1107), some (zi 10), some (zi 59), some (zi p3), some (zi (x5 + 1))] zd_14_92_43 rfl rfl ?_
      refine zz_goto zd_14_92_46 ?_
      refine zz_less (ls1 := [some (.ref 1079), some (.ref 1107), some (zi 10), some (zi 59), some (zi p3), some (zi (x5 + 1))]) ⟨rfl, ⟨rfl, ⟨rfl, ⟨rfl, ⟨rfl, ⟨rfl, trivial⟩⟩⟩⟩⟩⟩ ?_
      exact k3 (x5 + 1) S4 G_S4 F_S4 (by omega) (by omega)
    · refine zz_aload_n (x := 1107) rfl zd_14_92_14 ?_
      refine zz_iload (x := x5) rfl zd_14_92_15 ?_
      refine zz_aload_n (x := 1079) rfl zd_14_92_17 ?_
      refine zz_getr (kd := 0) (z := 1119) zd_14_92_18 zf_Md_139 zT_1079 rfl (zz_ltn hn rfl) (zz_G.eq G_S 1079 67 1119 rfl rfl) (by decide) 1119 rfl ?_
      refine zz_iload_n (x := 59) rfl zd_14_92_21 ?_
      refine zz_iload (x := x5) rfl zd_14_92_22 ?_
      refine zz_iadd zd_14_92_24 ?_
      have g5 := zz_G.r G_S 1119 ((59 + x5).toNat) (0) (if (59 + x5).toNat < 12 then 63 else if (59 + x5).toNat < 24 then 63 else if (59 + x5).toNat < 36 then 63 else if (59 + x5).toNat < 37 then 0 else if (59 + x5).toNat < 48 then 10000000 else if (59 + x5).toNat < 59 then 2 else if (59 + x5).toNat < 70 then 10 else if (59 + x5).toNat < 81 then 10 else if (59 + x5).toNat < 92 then 3 else if (59 + x5).toNat < 103 then 3 else if (59 + x5).toNat < 114 then 3 else if (59 + x5).toNat < 125 then 1 else if (59 + x5).toNat < 136 then 31 else 4096) rfl rfl
      refine zz_iald (z := S 1119 ((59 + x5).toNat)) zd_14_92_25 zT_1119 rfl (zz_ltn hn rfl) (by decide) (by omega) rfl ?_
      refine zz_iast zd_14_92_26 zT_1107 rfl (zz_ltn hn rfl) (by decide) (by omega) (fun S6 qS6 => ?_)
      have G_S6 := zz_G.put G_S qS6 0 10 rfl (by omega)
      have F_S6 := zz_fr.putc F_S qS6 rfl
      refine zz_goto zd_14_92_27 ?_
      refine zz_iinc [some (.ref 1079), some (.ref 1107), some (zi 10), some (zi 59), some (zi p3), some (zi (x5 + 1))] zd_14_92_43 rfl rfl ?_
      refine zz_goto zd_14_92_46 ?_
      refine zz_less (ls1 := [some (.ref 1079), some (.ref 1107), some (zi 10), some (zi 59), some (zi p3), some (zi (x5 + 1))]) ⟨rfl, ⟨rfl, ⟨rfl, ⟨rfl, ⟨rfl, ⟨rfl, trivial⟩⟩⟩⟩⟩⟩ ?_
      exact k3 (x5 + 1) S6 G_S6 F_S6 (by omega) (by omega)
theorem zi_keepRow_14_92_1107_10_59 {g : mm_G} {l : Launch} (p3 : Int) (S0 : zz_S) (n : Nat) (hn : zz_end ≤ n) (G_S0 : zz_G S0) (hp3 : 0 ≤ p3 ∧ p3 ≤ 1) : ∀ N : Nat, (∀ (x5 : Int) (S : zz_S), zz_G S → zz_fr [] [1107, 1119] (fun _ _ => False) S0 S → (0 ≤ x5 ∧ x5 ≤ 10) → (10 - x5).toNat < N → zz_E g l zy_keepRow_14_92 zr_keepRow_14_92_1107_10_59 (zz_QV n (zp_keepRow_14_92_1107_10_59 p3 S0)) S n 3 [some (.ref 1079), some (.ref 1107), some (zi 10), some (zi 59), some (zi p3), some (zi x5)] [] 0 0) := by
  intro N
  induction N with
  | zero => exact fun x5 S _ _ _ h => absurd h (Nat.not_lt_zero _)
  | succ N ih =>
    exact fun x5 S a b j0 hR => zb_keepRow_14_92_1107_10_59_3 p3 S0 n hn G_S0 hp3 x5 S a b j0 _ rfl (fun x5 S a b j0 h => ih x5 S a b j0 (Nat.lt_of_lt_of_le h (Nat.le_of_lt_succ hR)))
theorem zc_keepRow_14_92_1107_10_59 {g : mm_G} {l : Launch} (p3 : Int) (S0 : zz_S) (n : Nat) (hn : zz_end ≤ n) (G_S0 : zz_G S0) (hp3 : 0 ≤ p3 ∧ p3 ≤ 1) : mm_Met g l zy_keepRow_14_92 zr_keepRow_14_92_1107_10_59 [.ref 1079, .ref 1107, zi 10, zi 59, zi p3] (zz_M S0 n) n (zz_QV n (zp_keepRow_14_92_1107_10_59 p3 S0)) := by
  refine zz_enter (by decide) (Nat.le_of_ble_eq_true rfl) (zz_less (ls1 := [some (.ref 1079), some (.ref 1107), some (zi 10), some (zi 59), some (zi p3)]) ⟨rfl, ⟨rfl, ⟨rfl, ⟨rfl, ⟨rfl, trivial⟩⟩⟩⟩⟩ ?_)
  have F_S0 : zz_fr [] [1107, 1119] (fun _ _ => False) S0 S0 := zz_fr.refl
  have k3 : ∀ (x5 : Int) (S : zz_S), zz_G S → zz_fr [] [1107, 1119] (fun _ _ => False) S0 S → (0 ≤ x5 ∧ x5 ≤ 10) → zz_E g l zy_keepRow_14_92 zr_keepRow_14_92_1107_10_59 (zz_QV n (zp_keepRow_14_92_1107_10_59 p3 S0)) S n 3 [some (.ref 1079), some (.ref 1107), some (zi 10), some (zi 59), some (zi p3), some (zi x5)] [] 0 0 := fun x5 S a b j0 => (zi_keepRow_14_92_1107_10_59 (g := g) (l := l) p3 S0 n hn G_S0 hp3 _) x5 S a b j0 (Nat.lt_succ_self _)
  refine zz_iconst zd_14_92_0 ?_
  refine zz_istore [some (.ref 1079), some (.ref 1107), some (zi 10), some (zi 59), some (zi p3), some (zi 0)] zd_14_92_1 (by decide) rfl ?_
  refine zz_less (ls1 := [some (.ref 1079), some (.ref 1107), some (zi 10), some (zi 59), some (zi p3), some (zi 0)]) ⟨rfl, ⟨rfl, ⟨rfl, ⟨rfl, ⟨rfl, ⟨rfl, trivial⟩⟩⟩⟩⟩⟩ ?_
  exact k3 0 S0 G_S0 F_S0 (by omega)
theorem zd_14_91_104 : zz_D zy_keepNetwork_14_91 104 (.aload_n 0) 1 105 := ⟨by decide +kernel, rfl⟩
theorem zd_14_91_105 : zz_D zy_keepNetwork_14_91 105 (.aload_n 0) 1 106 := ⟨by decide +kernel, rfl⟩
theorem zd_14_91_106 : zz_D zy_keepNetwork_14_91 106 (.getfield 106) 3 109 := ⟨by decide +kernel, rfl⟩
theorem zd_14_91_109 : zz_D zy_keepNetwork_14_91 109 (.bipush 10) 2 111 := ⟨by decide +kernel, rfl⟩
theorem zd_14_91_111 : zz_D zy_keepNetwork_14_91 111 (.bipush 70) 2 113 := ⟨by decide +kernel, rfl⟩
theorem zd_14_91_113 : zz_D zy_keepNetwork_14_91 113 (.iload_n 1) 1 114 := ⟨by decide +kernel, rfl⟩
theorem zd_14_91_114 : zz_D zy_keepNetwork_14_91 114 (.invokevirtual 518) 3 117 := ⟨by decide +kernel, rfl⟩
-- TensorForgeModel keepRow ([IIIZ)V
abbrev zr_keepRow_14_92_1108_10_70 : Room := { frames := 0, cells := 0, slots := 0, locals := 0 }
def zp_keepRow_14_92_1108_10_70 (p3 : Int) (S0 : zz_S) : zz_S → Prop := fun S => zz_G S ∧ zz_fr [] [1108, 1119] (fun _ _ => False) S0 S
theorem zb_keepRow_14_92_1108_10_70_3 {g : mm_G} {l : Launch} (p3 : Int) (S0 : zz_S) (n : Nat) (hn : zz_end ≤ n) (G_S0 : zz_G S0) (hp3 : 0 ≤ p3 ∧ p3 ≤ 1) (x5 : Int) (S : zz_S) (G_S : zz_G S) (F_S : zz_fr [] [1108, 1119] (fun _ _ => False) S0 S) (i3_0 : 0 ≤ x5 ∧ x5 ≤ 10) (R : Nat) (hR : (10 - x5).toNat = R) (k3 : ∀ (x5 : Int) (S : zz_S), zz_G S → zz_fr [] [1108, 1119] (fun _ _ => False) S0 S → (0 ≤ x5 ∧ x5 ≤ 10) → (10 - x5).toNat < R → zz_E g l zy_keepRow_14_92 zr_keepRow_14_92_1108_10_70 (zz_QV n (zp_keepRow_14_92_1108_10_70 p3 S0)) S n 3 [some (.ref 1079), some (.ref 1108), some (zi 10), some (zi 70), some (zi p3), some (zi x5)] [] 0 0) : zz_E g l zy_keepRow_14_92 zr_keepRow_14_92_1108_10_70 (zz_QV n (zp_keepRow_14_92_1108_10_70 p3 S0)) S n 3 [some (.ref 1079), some (.ref 1108), some (zi 10), some (zi 70), some (zi p3), some (zi x5)] [] 0 0 := by
  refine zz_iload (x := x5) rfl zd_14_92_3 ?_
  refine zz_iload_n (x := 10) rfl zd_14_92_5 ?_
  refine zz_icmp_ge (by omega) (by omega) zd_14_92_6 (fun c1 => ?_) (fun c1 => ?_)
  · exact zz_vret zd_14_92_49 rfl (Nat.zero_le _) (Nat.zero_le _) ⟨_, rfl, G_S, F_S⟩
  · refine zz_iload (x := p3) rfl zd_14_92_9 ?_
    refine zz_if_eq (by omega) zd_14_92_11 (fun c2 => ?_) (fun c2 => ?_)
    · refine zz_aload_n (x := 1079) rfl zd_14_92_30 ?_
      refine zz_getr (kd := 0) (z := 1119) zd_14_92_31 zf_Md_139 zT_1079 rfl (zz_ltn hn rfl) (zz_G.eq G_S 1079 67 1119 rfl rfl) (by decide) 1119 rfl ?_
      refine zz_iload_n (x := 70) rfl zd_14_92_34 ?_
      refine zz_iload (x := x5) rfl zd_14_92_35 ?_
      refine zz_iadd zd_14_92_37 ?_
      refine zz_aload_n (x := 1108) rfl zd_14_92_38 ?_
      refine zz_iload (x := x5) rfl zd_14_92_39 ?_
      have g3 := zz_G.r G_S 1108 x5.toNat 0 10 rfl rfl
      refine zz_iald (z := S 1108 x5.toNat) zd_14_92_41 zT_1108 rfl (zz_ltn hn rfl) (by decide) (by omega) rfl ?_
      refine zz_iast zd_14_92_42 zT_1119 rfl (zz_ltn hn rfl) (by decide) (by omega) (fun S4 qS4 => ?_)
      have G_S4 := zz_G.put G_S qS4 (0) (if (70 + x5).toNat < 12 then 63 else if (70 + x5).toNat < 24 then 63 else if (70 + x5).toNat < 36 then 63 else if (70 + x5).toNat < 37 then 0 else if (70 + x5).toNat < 48 then 10000000 else if (70 + x5).toNat < 59 then 2 else if (70 + x5).toNat < 70 then 10 else if (70 + x5).toNat < 81 then 10 else if (70 + x5).toNat < 92 then 3 else if (70 + x5).toNat < 103 then 3 else if (70 + x5).toNat < 114 then 3 else if (70 + x5).toNat < 125 then 1 else if (70 + x5).toNat < 136 then 31 else 4096) rfl (by omega)
      have F_S4 := zz_fr.putc F_S qS4 rfl
      refine zz_iinc [some (.ref 1079), some (.ref 1108), some (zi 10), some (zi 70), some (zi p3), some (zi (x5 + 1))] zd_14_92_43 rfl rfl ?_
      refine zz_goto zd_14_92_46 ?_
      refine zz_less (ls1 := [some (.ref 1079), some (.ref 1108), some (zi 10), some (zi 70), some (zi p3), some (zi (x5 + 1))]) ⟨rfl, ⟨rfl, ⟨rfl, ⟨rfl, ⟨rfl, ⟨rfl, trivial⟩⟩⟩⟩⟩⟩ ?_
      exact k3 (x5 + 1) S4 G_S4 F_S4 (by omega) (by omega)
    · refine zz_aload_n (x := 1108) rfl zd_14_92_14 ?_
      refine zz_iload (x := x5) rfl zd_14_92_15 ?_
      refine zz_aload_n (x := 1079) rfl zd_14_92_17 ?_
      refine zz_getr (kd := 0) (z := 1119) zd_14_92_18 zf_Md_139 zT_1079 rfl (zz_ltn hn rfl) (zz_G.eq G_S 1079 67 1119 rfl rfl) (by decide) 1119 rfl ?_
      refine zz_iload_n (x := 70) rfl zd_14_92_21 ?_
      refine zz_iload (x := x5) rfl zd_14_92_22 ?_
      refine zz_iadd zd_14_92_24 ?_
      have g5 := zz_G.r G_S 1119 ((70 + x5).toNat) (0) (if (70 + x5).toNat < 12 then 63 else if (70 + x5).toNat < 24 then 63 else if (70 + x5).toNat < 36 then 63 else if (70 + x5).toNat < 37 then 0 else if (70 + x5).toNat < 48 then 10000000 else if (70 + x5).toNat < 59 then 2 else if (70 + x5).toNat < 70 then 10 else if (70 + x5).toNat < 81 then 10 else if (70 + x5).toNat < 92 then 3 else if (70 + x5).toNat < 103 then 3 else if (70 + x5).toNat < 114 then 3 else if (70 + x5).toNat < 125 then 1 else if (70 + x5).toNat < 136 then 31 else 4096) rfl rfl
      refine zz_iald (z := S 1119 ((70 + x5).toNat)) zd_14_92_25 zT_1119 rfl (zz_ltn hn rfl) (by decide) (by omega) rfl ?_
      refine zz_iast zd_14_92_26 zT_1108 rfl (zz_ltn hn rfl) (by decide) (by omega) (fun S6 qS6 => ?_)
      have G_S6 := zz_G.put G_S qS6 0 10 rfl (by omega)
      have F_S6 := zz_fr.putc F_S qS6 rfl
      refine zz_goto zd_14_92_27 ?_
      refine zz_iinc [some (.ref 1079), some (.ref 1108), some (zi 10), some (zi 70), some (zi p3), some (zi (x5 + 1))] zd_14_92_43 rfl rfl ?_
      refine zz_goto zd_14_92_46 ?_
      refine zz_less (ls1 := [some (.ref 1079), some (.ref 1108), some (zi 10), some (zi 70), some (zi p3), some (zi (x5 + 1))]) ⟨rfl, ⟨rfl, ⟨rfl, ⟨rfl, ⟨rfl, ⟨rfl, trivial⟩⟩⟩⟩⟩⟩ ?_
      exact k3 (x5 + 1) S6 G_S6 F_S6 (by omega) (by omega)
theorem zi_keepRow_14_92_1108_10_70 {g : mm_G} {l : Launch} (p3 : Int) (S0 : zz_S) (n : Nat) (hn : zz_end ≤ n) (G_S0 : zz_G S0) (hp3 : 0 ≤ p3 ∧ p3 ≤ 1) : ∀ N : Nat, (∀ (x5 : Int) (S : zz_S), zz_G S → zz_fr [] [1108, 1119] (fun _ _ => False) S0 S → (0 ≤ x5 ∧ x5 ≤ 10) → (10 - x5).toNat < N → zz_E g l zy_keepRow_14_92 zr_keepRow_14_92_1108_10_70 (zz_QV n (zp_keepRow_14_92_1108_10_70 p3 S0)) S n 3 [some (.ref 1079), some (.ref 1108), some (zi 10), some (zi 70), some (zi p3), some (zi x5)] [] 0 0) := by
  intro N
  induction N with
  | zero => exact fun x5 S _ _ _ h => absurd h (Nat.not_lt_zero _)
  | succ N ih =>
    exact fun x5 S a b j0 hR => zb_keepRow_14_92_1108_10_70_3 p3 S0 n hn G_S0 hp3 x5 S a b j0 _ rfl (fun x5 S a b j0 h => ih x5 S a b j0 (Nat.lt_of_lt_of_le h (Nat.le_of_lt_succ hR)))
theorem zc_keepRow_14_92_1108_10_70 {g : mm_G} {l : Launch} (p3 : Int) (S0 : zz_S) (n : Nat) (hn : zz_end ≤ n) (G_S0 : zz_G S0) (hp3 : 0 ≤ p3 ∧ p3 ≤ 1) : mm_Met g l zy_keepRow_14_92 zr_keepRow_14_92_1108_10_70 [.ref 1079, .ref 1108, zi 10, zi 70, zi p3] (zz_M S0 n) n (zz_QV n (zp_keepRow_14_92_1108_10_70 p3 S0)) := by
  refine zz_enter (by decide) (Nat.le_of_ble_eq_true rfl) (zz_less (ls1 := [some (.ref 1079), some (.ref 1108), some (zi 10), some (zi 70), some (zi p3)]) ⟨rfl, ⟨rfl, ⟨rfl, ⟨rfl, ⟨rfl, trivial⟩⟩⟩⟩⟩ ?_)
  have F_S0 : zz_fr [] [1108, 1119] (fun _ _ => False) S0 S0 := zz_fr.refl
  have k3 : ∀ (x5 : Int) (S : zz_S), zz_G S → zz_fr [] [1108, 1119] (fun _ _ => False) S0 S → (0 ≤ x5 ∧ x5 ≤ 10) → zz_E g l zy_keepRow_14_92 zr_keepRow_14_92_1108_10_70 (zz_QV n (zp_keepRow_14_92_1108_10_70 p3 S0)) S n 3 [some (.ref 1079), some (.ref 1108), some (zi 10), some (zi 70), some (zi p3), some (zi x5)] [] 0 0 := fun x5 S a b j0 => (zi_keepRow_14_92_1108_10_70 (g := g) (l := l) p3 S0 n hn G_S0 hp3 _) x5 S a b j0 (Nat.lt_succ_self _)
  refine zz_iconst zd_14_92_0 ?_
  refine zz_istore [some (.ref 1079), some (.ref 1108), some (zi 10), some (zi 70), some (zi p3), some (zi 0)] zd_14_92_1 (by decide) rfl ?_
  refine zz_less (ls1 := [some (.ref 1079), some (.ref 1108), some (zi 10), some (zi 70), some (zi p3), some (zi 0)]) ⟨rfl, ⟨rfl, ⟨rfl, ⟨rfl, ⟨rfl, ⟨rfl, trivial⟩⟩⟩⟩⟩⟩ ?_
  exact k3 0 S0 G_S0 F_S0 (by omega)
theorem zd_14_91_117 : zz_D zy_keepNetwork_14_91 117 (.aload_n 0) 1 118 := ⟨by decide +kernel, rfl⟩
theorem zd_14_91_118 : zz_D zy_keepNetwork_14_91 118 (.aload_n 0) 1 119 := ⟨by decide +kernel, rfl⟩
theorem zd_14_91_119 : zz_D zy_keepNetwork_14_91 119 (.getfield 109) 3 122 := ⟨by decide +kernel, rfl⟩
theorem zd_14_91_122 : zz_D zy_keepNetwork_14_91 122 (.bipush 10) 2 124 := ⟨by decide +kernel, rfl⟩
theorem zd_14_91_124 : zz_D zy_keepNetwork_14_91 124 (.bipush 81) 2 126 := ⟨by decide +kernel, rfl⟩
theorem zd_14_91_126 : zz_D zy_keepNetwork_14_91 126 (.iload_n 1) 1 127 := ⟨by decide +kernel, rfl⟩
theorem zd_14_91_127 : zz_D zy_keepNetwork_14_91 127 (.invokevirtual 518) 3 130 := ⟨by decide +kernel, rfl⟩
-- TensorForgeModel keepRow ([IIIZ)V
abbrev zr_keepRow_14_92_1109_10_81 : Room := { frames := 0, cells := 0, slots := 0, locals := 0 }
def zp_keepRow_14_92_1109_10_81 (p3 : Int) (S0 : zz_S) : zz_S → Prop := fun S => zz_G S ∧ zz_fr [] [1109, 1119] (fun _ _ => False) S0 S
theorem zb_keepRow_14_92_1109_10_81_3 {g : mm_G} {l : Launch} (p3 : Int) (S0 : zz_S) (n : Nat) (hn : zz_end ≤ n) (G_S0 : zz_G S0) (hp3 : 0 ≤ p3 ∧ p3 ≤ 1) (x5 : Int) (S : zz_S) (G_S : zz_G S) (F_S : zz_fr [] [1109, 1119] (fun _ _ => False) S0 S) (i3_0 : 0 ≤ x5 ∧ x5 ≤ 10) (R : Nat) (hR : (10 - x5).toNat = R) (k3 : ∀ (x5 : Int) (S : zz_S), zz_G S → zz_fr [] [1109, 1119] (fun _ _ => False) S0 S → (0 ≤ x5 ∧ x5 ≤ 10) → (10 - x5).toNat < R → zz_E g l zy_keepRow_14_92 zr_keepRow_14_92_1109_10_81 (zz_QV n (zp_keepRow_14_92_1109_10_81 p3 S0)) S n 3 [some (.ref 1079), some (.ref 1109), some (zi 10), some (zi 81), some (zi p3), some (zi x5)] [] 0 0) : zz_E g l zy_keepRow_14_92 zr_keepRow_14_92_1109_10_81 (zz_QV n (zp_keepRow_14_92_1109_10_81 p3 S0)) S n 3 [some (.ref 1079), some (.ref 1109), some (zi 10), some (zi 81), some (zi p3), some (zi x5)] [] 0 0 := by
  refine zz_iload (x := x5) rfl zd_14_92_3 ?_
  refine zz_iload_n (x := 10) rfl zd_14_92_5 ?_
  refine zz_icmp_ge (by omega) (by omega) zd_14_92_6 (fun c1 => ?_) (fun c1 => ?_)
  · exact zz_vret zd_14_92_49 rfl (Nat.zero_le _) (Nat.zero_le _) ⟨_, rfl, G_S, F_S⟩
  · refine zz_iload (x := p3) rfl zd_14_92_9 ?_
    refine zz_if_eq (by omega) zd_14_92_11 (fun c2 => ?_) (fun c2 => ?_)
    · refine zz_aload_n (x := 1079) rfl zd_14_92_30 ?_
      refine zz_getr (kd := 0) (z := 1119) zd_14_92_31 zf_Md_139 zT_1079 rfl (zz_ltn hn rfl) (zz_G.eq G_S 1079 67 1119 rfl rfl) (by decide) 1119 rfl ?_
      refine zz_iload_n (x := 81) rfl zd_14_92_34 ?_
      refine zz_iload (x := x5) rfl zd_14_92_35 ?_
      refine zz_iadd zd_14_92_37 ?_
      refine zz_aload_n (x := 1109) rfl zd_14_92_38 ?_
      refine zz_iload (x := x5) rfl zd_14_92_39 ?_
      have g3 := zz_G.r G_S 1109 x5.toNat 0 3 rfl rfl
      refine zz_iald (z := S 1109 x5.toNat) zd_14_92_41 zT_1109 rfl (zz_ltn hn rfl) (by decide) (by omega) rfl ?_
      refine zz_iast zd_14_92_42 zT_1119 rfl (zz_ltn hn rfl) (by decide) (by omega) (fun S4 qS4 => ?_)
      have G_S4 := zz_G.put G_S qS4 (0) (if (81 + x5).toNat < 12 then 63 else if (81 + x5).toNat < 24 then 63 else if (81 + x5).toNat < 36 then 63 else if (81 + x5).toNat < 37 then 0 else if (81 + x5).toNat < 48 then 10000000 else if (81 + x5).toNat < 59 then 2 else if (81 + x5).toNat < 70 then 10 else if (81 + x5).toNat < 81 then 10 else if (81 + x5).toNat < 92 then 3 else if (81 + x5).toNat < 103 then 3 else if (81 + x5).toNat < 114 then 3 else if (81 + x5).toNat < 125 then 1 else if (81 + x5).toNat < 136 then 31 else 4096) rfl (by omega)
      have F_S4 := zz_fr.putc F_S qS4 rfl
      refine zz_iinc [some (.ref 1079), some (.ref 1109), some (zi 10), some (zi 81), some (zi p3), some (zi (x5 + 1))] zd_14_92_43 rfl rfl ?_
      refine zz_goto zd_14_92_46 ?_
      refine zz_less (ls1 := [some (.ref 1079), some (.ref 1109), some (zi 10), some (zi 81), some (zi p3), some (zi (x5 + 1))]) ⟨rfl, ⟨rfl, ⟨rfl, ⟨rfl, ⟨rfl, ⟨rfl, trivial⟩⟩⟩⟩⟩⟩ ?_
      exact k3 (x5 + 1) S4 G_S4 F_S4 (by omega) (by omega)
    · refine zz_aload_n (x := 1109) rfl zd_14_92_14 ?_
      refine zz_iload (x := x5) rfl zd_14_92_15 ?_
      refine zz_aload_n (x := 1079) rfl zd_14_92_17 ?_
      refine zz_getr (kd := 0) (z := 1119) zd_14_92_18 zf_Md_139 zT_1079 rfl (zz_ltn hn rfl) (zz_G.eq G_S 1079 67 1119 rfl rfl) (by decide) 1119 rfl ?_
      refine zz_iload_n (x := 81) rfl zd_14_92_21 ?_
      refine zz_iload (x := x5) rfl zd_14_92_22 ?_
      refine zz_iadd zd_14_92_24 ?_
      have g5 := zz_G.r G_S 1119 ((81 + x5).toNat) (0) (if (81 + x5).toNat < 12 then 63 else if (81 + x5).toNat < 24 then 63 else if (81 + x5).toNat < 36 then 63 else if (81 + x5).toNat < 37 then 0 else if (81 + x5).toNat < 48 then 10000000 else if (81 + x5).toNat < 59 then 2 else if (81 + x5).toNat < 70 then 10 else if (81 + x5).toNat < 81 then 10 else if (81 + x5).toNat < 92 then 3 else if (81 + x5).toNat < 103 then 3 else if (81 + x5).toNat < 114 then 3 else if (81 + x5).toNat < 125 then 1 else if (81 + x5).toNat < 136 then 31 else 4096) rfl rfl
      refine zz_iald (z := S 1119 ((81 + x5).toNat)) zd_14_92_25 zT_1119 rfl (zz_ltn hn rfl) (by decide) (by omega) rfl ?_
      refine zz_iast zd_14_92_26 zT_1109 rfl (zz_ltn hn rfl) (by decide) (by omega) (fun S6 qS6 => ?_)
      have G_S6 := zz_G.put G_S qS6 0 3 rfl (by omega)
      have F_S6 := zz_fr.putc F_S qS6 rfl
      refine zz_goto zd_14_92_27 ?_
      refine zz_iinc [some (.ref 1079), some (.ref 1109), some (zi 10), some (zi 81), some (zi p3), some (zi (x5 + 1))] zd_14_92_43 rfl rfl ?_
      refine zz_goto zd_14_92_46 ?_
      refine zz_less (ls1 := [some (.ref 1079), some (.ref 1109), some (zi 10), some (zi 81), some (zi p3), some (zi (x5 + 1))]) ⟨rfl, ⟨rfl, ⟨rfl, ⟨rfl, ⟨rfl, ⟨rfl, trivial⟩⟩⟩⟩⟩⟩ ?_
      exact k3 (x5 + 1) S6 G_S6 F_S6 (by omega) (by omega)
theorem zi_keepRow_14_92_1109_10_81 {g : mm_G} {l : Launch} (p3 : Int) (S0 : zz_S) (n : Nat) (hn : zz_end ≤ n) (G_S0 : zz_G S0) (hp3 : 0 ≤ p3 ∧ p3 ≤ 1) : ∀ N : Nat, (∀ (x5 : Int) (S : zz_S), zz_G S → zz_fr [] [1109, 1119] (fun _ _ => False) S0 S → (0 ≤ x5 ∧ x5 ≤ 10) → (10 - x5).toNat < N → zz_E g l zy_keepRow_14_92 zr_keepRow_14_92_1109_10_81 (zz_QV n (zp_keepRow_14_92_1109_10_81 p3 S0)) S n 3 [some (.ref 1079), some (.ref 1109), some (zi 10), some (zi 81), some (zi p3), some (zi x5)] [] 0 0) := by
  intro N
  induction N with
  | zero => exact fun x5 S _ _ _ h => absurd h (Nat.not_lt_zero _)
  | succ N ih =>
    exact fun x5 S a b j0 hR => zb_keepRow_14_92_1109_10_81_3 p3 S0 n hn G_S0 hp3 x5 S a b j0 _ rfl (fun x5 S a b j0 h => ih x5 S a b j0 (Nat.lt_of_lt_of_le h (Nat.le_of_lt_succ hR)))
theorem zc_keepRow_14_92_1109_10_81 {g : mm_G} {l : Launch} (p3 : Int) (S0 : zz_S) (n : Nat) (hn : zz_end ≤ n) (G_S0 : zz_G S0) (hp3 : 0 ≤ p3 ∧ p3 ≤ 1) : mm_Met g l zy_keepRow_14_92 zr_keepRow_14_92_1109_10_81 [.ref 1079, .ref 1109, zi 10, zi 81, zi p3] (zz_M S0 n) n (zz_QV n (zp_keepRow_14_92_1109_10_81 p3 S0)) := by
  refine zz_enter (by decide) (Nat.le_of_ble_eq_true rfl) (zz_less (ls1 := [some (.ref 1079), some (.ref 1109), some (zi 10), some (zi 81), some (zi p3)]) ⟨rfl, ⟨rfl, ⟨rfl, ⟨rfl, ⟨rfl, trivial⟩⟩⟩⟩⟩ ?_)
  have F_S0 : zz_fr [] [1109, 1119] (fun _ _ => False) S0 S0 := zz_fr.refl
  have k3 : ∀ (x5 : Int) (S : zz_S), zz_G S → zz_fr [] [1109, 1119] (fun _ _ => False) S0 S → (0 ≤ x5 ∧ x5 ≤ 10) → zz_E g l zy_keepRow_14_92 zr_keepRow_14_92_1109_10_81 (zz_QV n (zp_keepRow_14_92_1109_10_81 p3 S0)) S n 3 [some (.ref 1079), some (.ref 1109), some (zi 10), some (zi 81), some (zi p3), some (zi x5)] [] 0 0 := fun x5 S a b j0 => (zi_keepRow_14_92_1109_10_81 (g := g) (l := l) p3 S0 n hn G_S0 hp3 _) x5 S a b j0 (Nat.lt_succ_self _)
  refine zz_iconst zd_14_92_0 ?_
  refine zz_istore [some (.ref 1079), some (.ref 1109), some (zi 10), some (zi 81), some (zi p3), some (zi 0)] zd_14_92_1 (by decide) rfl ?_
  refine zz_less (ls1 := [some (.ref 1079), some (.ref 1109), some (zi 10), some (zi 81), some (zi p3), some (zi 0)]) ⟨rfl, ⟨rfl, ⟨rfl, ⟨rfl, ⟨rfl, ⟨rfl, trivial⟩⟩⟩⟩⟩⟩ ?_
  exact k3 0 S0 G_S0 F_S0 (by omega)
theorem zd_14_91_130 : zz_D zy_keepNetwork_14_91 130 (.aload_n 0) 1 131 := ⟨by decide +kernel, rfl⟩
theorem zd_14_91_131 : zz_D zy_keepNetwork_14_91 131 (.aload_n 0) 1 132 := ⟨by decide +kernel, rfl⟩
theorem zd_14_91_132 : zz_D zy_keepNetwork_14_91 132 (.getfield 112) 3 135 := ⟨by decide +kernel, rfl⟩
theorem zd_14_91_135 : zz_D zy_keepNetwork_14_91 135 (.bipush 10) 2 137 := ⟨by decide +kernel, rfl⟩
theorem zd_14_91_137 : zz_D zy_keepNetwork_14_91 137 (.bipush 92) 2 139 := ⟨by decide +kernel, rfl⟩
theorem zd_14_91_139 : zz_D zy_keepNetwork_14_91 139 (.iload_n 1) 1 140 := ⟨by decide +kernel, rfl⟩
theorem zd_14_91_140 : zz_D zy_keepNetwork_14_91 140 (.invokevirtual 518) 3 143 := ⟨by decide +kernel, rfl⟩
-- TensorForgeModel keepRow ([IIIZ)V
abbrev zr_keepRow_14_92_1110_10_92 : Room := { frames := 0, cells := 0, slots := 0, locals := 0 }
def zp_keepRow_14_92_1110_10_92 (p3 : Int) (S0 : zz_S) : zz_S → Prop := fun S => zz_G S ∧ zz_fr [] [1110, 1119] (fun _ _ => False) S0 S
theorem zb_keepRow_14_92_1110_10_92_3 {g : mm_G} {l : Launch} (p3 : Int) (S0 : zz_S) (n : Nat) (hn : zz_end ≤ n) (G_S0 : zz_G S0) (hp3 : 0 ≤ p3 ∧ p3 ≤ 1) (x5 : Int) (S : zz_S) (G_S : zz_G S) (F_S : zz_fr [] [1110, 1119] (fun _ _ => False) S0 S) (i3_0 : 0 ≤ x5 ∧ x5 ≤ 10) (R : Nat) (hR : (10 - x5).toNat = R) (k3 : ∀ (x5 : Int) (S : zz_S), zz_G S → zz_fr [] [1110, 1119] (fun _ _ => False) S0 S → (0 ≤ x5 ∧ x5 ≤ 10) → (10 - x5).toNat < R → zz_E g l zy_keepRow_14_92 zr_keepRow_14_92_1110_10_92 (zz_QV n (zp_keepRow_14_92_1110_10_92 p3 S0)) S n 3 [some (.ref 1079), some (.ref 1110), some (zi 10), some (zi 92), some (zi p3), some (zi x5)] [] 0 0) : zz_E g l zy_keepRow_14_92 zr_keepRow_14_92_1110_10_92 (zz_QV n (zp_keepRow_14_92_1110_10_92 p3 S0)) S n 3 [some (.ref 1079), some (.ref 1110), some (zi 10), some (zi 92), some (zi p3), some (zi x5)] [] 0 0 := by
  refine zz_iload (x := x5) rfl zd_14_92_3 ?_
  refine zz_iload_n (x := 10) rfl zd_14_92_5 ?_
  refine zz_icmp_ge (by omega) (by omega) zd_14_92_6 (fun c1 => ?_) (fun c1 => ?_)
  · exact zz_vret zd_14_92_49 rfl (Nat.zero_le _) (Nat.zero_le _) ⟨_, rfl, G_S, F_S⟩
  · refine zz_iload (x := p3) rfl zd_14_92_9 ?_
    refine zz_if_eq (by omega) zd_14_92_11 (fun c2 => ?_) (fun c2 => ?_)
    · refine zz_aload_n (x := 1079) rfl zd_14_92_30 ?_
      refine zz_getr (kd := 0) (z := 1119) zd_14_92_31 zf_Md_139 zT_1079 rfl (zz_ltn hn rfl) (zz_G.eq G_S 1079 67 1119 rfl rfl) (by decide) 1119 rfl ?_
      refine zz_iload_n (x := 92) rfl zd_14_92_34 ?_
      refine zz_iload (x := x5) rfl zd_14_92_35 ?_
      refine zz_iadd zd_14_92_37 ?_
      refine zz_aload_n (x := 1110) rfl zd_14_92_38 ?_
      refine zz_iload (x := x5) rfl zd_14_92_39 ?_
      have g3 := zz_G.r G_S 1110 x5.toNat 0 3 rfl rfl
      refine zz_iald (z := S 1110 x5.toNat) zd_14_92_41 zT_1110 rfl (zz_ltn hn rfl) (by decide) (by omega) rfl ?_
      refine zz_iast zd_14_92_42 zT_1119 rfl (zz_ltn hn rfl) (by decide) (by omega) (fun S4 qS4 => ?_)
      have G_S4 := zz_G.put G_S qS4 (0) (if (92 + x5).toNat < 12 then 63 else if (92 + x5).toNat < 24 then 63 else if (92 + x5).toNat < 36 then 63 else if (92 + x5).toNat < 37 then 0 else if (92 + x5).toNat < 48 then 10000000 else if (92 + x5).toNat < 59 then 2 else if (92 + x5).toNat < 70 then 10 else if (92 + x5).toNat < 81 then 10 else if (92 + x5).toNat < 92 then 3 else if (92 + x5).toNat < 103 then 3 else if (92 + x5).toNat < 114 then 3 else if (92 + x5).toNat < 125 then 1 else if (92 + x5).toNat < 136 then 31 else 4096) rfl (by omega)
      have F_S4 := zz_fr.putc F_S qS4 rfl
      refine zz_iinc [some (.ref 1079), some (.ref 1110), some (zi 10), some (zi 92), some (zi p3), some (zi (x5 + 1))] zd_14_92_43 rfl rfl ?_
      refine zz_goto zd_14_92_46 ?_
      refine zz_less (ls1 := [some (.ref 1079), some (.ref 1110), some (zi 10), some (zi 92), some (zi p3), some (zi (x5 + 1))]) ⟨rfl, ⟨rfl, ⟨rfl, ⟨rfl, ⟨rfl, ⟨rfl, trivial⟩⟩⟩⟩⟩⟩ ?_
      exact k3 (x5 + 1) S4 G_S4 F_S4 (by omega) (by omega)
    · refine zz_aload_n (x := 1110) rfl zd_14_92_14 ?_
      refine zz_iload (x := x5) rfl zd_14_92_15 ?_
      refine zz_aload_n (x := 1079) rfl zd_14_92_17 ?_
      refine zz_getr (kd := 0) (z := 1119) zd_14_92_18 zf_Md_139 zT_1079 rfl (zz_ltn hn rfl) (zz_G.eq G_S 1079 67 1119 rfl rfl) (by decide) 1119 rfl ?_
      refine zz_iload_n (x := 92) rfl zd_14_92_21 ?_
      refine zz_iload (x := x5) rfl zd_14_92_22 ?_
      refine zz_iadd zd_14_92_24 ?_
      have g5 := zz_G.r G_S 1119 ((92 + x5).toNat) (0) (if (92 + x5).toNat < 12 then 63 else if (92 + x5).toNat < 24 then 63 else if (92 + x5).toNat < 36 then 63 else if (92 + x5).toNat < 37 then 0 else if (92 + x5).toNat < 48 then 10000000 else if (92 + x5).toNat < 59 then 2 else if (92 + x5).toNat < 70 then 10 else if (92 + x5).toNat < 81 then 10 else if (92 + x5).toNat < 92 then 3 else if (92 + x5).toNat < 103 then 3 else if (92 + x5).toNat < 114 then 3 else if (92 + x5).toNat < 125 then 1 else if (92 + x5).toNat < 136 then 31 else 4096) rfl rfl
      refine zz_iald (z := S 1119 ((92 + x5).toNat)) zd_14_92_25 zT_1119 rfl (zz_ltn hn rfl) (by decide) (by omega) rfl ?_
      refine zz_iast zd_14_92_26 zT_1110 rfl (zz_ltn hn rfl) (by decide) (by omega) (fun S6 qS6 => ?_)
      have G_S6 := zz_G.put G_S qS6 0 3 rfl (by omega)
      have F_S6 := zz_fr.putc F_S qS6 rfl
      refine zz_goto zd_14_92_27 ?_
      refine zz_iinc [some (.ref 1079), some (.ref 1110), some (zi 10), some (zi 92), some (zi p3), some (zi (x5 + 1))] zd_14_92_43 rfl rfl ?_
      refine zz_goto zd_14_92_46 ?_
      refine zz_less (ls1 := [some (.ref 1079), some (.ref 1110), some (zi 10), some (zi 92), some (zi p3), some (zi (x5 + 1))]) ⟨rfl, ⟨rfl, ⟨rfl, ⟨rfl, ⟨rfl, ⟨rfl, trivial⟩⟩⟩⟩⟩⟩ ?_
      exact k3 (x5 + 1) S6 G_S6 F_S6 (by omega) (by omega)
theorem zi_keepRow_14_92_1110_10_92 {g : mm_G} {l : Launch} (p3 : Int) (S0 : zz_S) (n : Nat) (hn : zz_end ≤ n) (G_S0 : zz_G S0) (hp3 : 0 ≤ p3 ∧ p3 ≤ 1) : ∀ N : Nat, (∀ (x5 : Int) (S : zz_S), zz_G S → zz_fr [] [1110, 1119] (fun _ _ => False) S0 S → (0 ≤ x5 ∧ x5 ≤ 10) → (10 - x5).toNat < N → zz_E g l zy_keepRow_14_92 zr_keepRow_14_92_1110_10_92 (zz_QV n (zp_keepRow_14_92_1110_10_92 p3 S0)) S n 3 [some (.ref 1079), some (.ref 1110), some (zi 10), some (zi 92), some (zi p3), some (zi x5)] [] 0 0) := by
  intro N
  induction N with
  | zero => exact fun x5 S _ _ _ h => absurd h (Nat.not_lt_zero _)
  | succ N ih =>
    exact fun x5 S a b j0 hR => zb_keepRow_14_92_1110_10_92_3 p3 S0 n hn G_S0 hp3 x5 S a b j0 _ rfl (fun x5 S a b j0 h => ih x5 S a b j0 (Nat.lt_of_lt_of_le h (Nat.le_of_lt_succ hR)))
theorem zc_keepRow_14_92_1110_10_92 {g : mm_G} {l : Launch} (p3 : Int) (S0 : zz_S) (n : Nat) (hn : zz_end ≤ n) (G_S0 : zz_G S0) (hp3 : 0 ≤ p3 ∧ p3 ≤ 1) : mm_Met g l zy_keepRow_14_92 zr_keepRow_14_92_1110_10_92 [.ref 1079, .ref 1110, zi 10, zi 92, zi p3] (zz_M S0 n) n (zz_QV n (zp_keepRow_14_92_1110_10_92 p3 S0)) := by
  refine zz_enter (by decide) (Nat.le_of_ble_eq_true rfl) (zz_less (ls1 := [some (.ref 1079), some (.ref 1110), some (zi 10), some (zi 92), some (zi p3)]) ⟨rfl, ⟨rfl, ⟨rfl, ⟨rfl, ⟨rfl, trivial⟩⟩⟩⟩⟩ ?_)
  have F_S0 : zz_fr [] [1110, 1119] (fun _ _ => False) S0 S0 := zz_fr.refl
  have k3 : ∀ (x5 : Int) (S : zz_S), zz_G S → zz_fr [] [1110, 1119] (fun _ _ => False) S0 S → (0 ≤ x5 ∧ x5 ≤ 10) → zz_E g l zy_keepRow_14_92 zr_keepRow_14_92_1110_10_92 (zz_QV n (zp_keepRow_14_92_1110_10_92 p3 S0)) S n 3 [some (.ref 1079), some (.ref 1110), some (zi 10), some (zi 92), some (zi p3), some (zi x5)] [] 0 0 := fun x5 S a b j0 => (zi_keepRow_14_92_1110_10_92 (g := g) (l := l) p3 S0 n hn G_S0 hp3 _) x5 S a b j0 (Nat.lt_succ_self _)
  refine zz_iconst zd_14_92_0 ?_
  refine zz_istore [some (.ref 1079), some (.ref 1110), some (zi 10), some (zi 92), some (zi p3), some (zi 0)] zd_14_92_1 (by decide) rfl ?_
  refine zz_less (ls1 := [some (.ref 1079), some (.ref 1110), some (zi 10), some (zi 92), some (zi p3), some (zi 0)]) ⟨rfl, ⟨rfl, ⟨rfl, ⟨rfl, ⟨rfl, ⟨rfl, trivial⟩⟩⟩⟩⟩⟩ ?_
  exact k3 0 S0 G_S0 F_S0 (by omega)
theorem zd_14_91_143 : zz_D zy_keepNetwork_14_91 143 (.aload_n 0) 1 144 := ⟨by decide +kernel, rfl⟩
theorem zd_14_91_144 : zz_D zy_keepNetwork_14_91 144 (.aload_n 0) 1 145 := ⟨by decide +kernel, rfl⟩
theorem zd_14_91_145 : zz_D zy_keepNetwork_14_91 145 (.getfield 115) 3 148 := ⟨by decide +kernel, rfl⟩
theorem zd_14_91_148 : zz_D zy_keepNetwork_14_91 148 (.bipush 10) 2 150 := ⟨by decide +kernel, rfl⟩
theorem zd_14_91_150 : zz_D zy_keepNetwork_14_91 150 (.bipush 103) 2 152 := ⟨by decide +kernel, rfl⟩
theorem zd_14_91_152 : zz_D zy_keepNetwork_14_91 152 (.iload_n 1) 1 153 := ⟨by decide +kernel, rfl⟩
theorem zd_14_91_153 : zz_D zy_keepNetwork_14_91 153 (.invokevirtual 518) 3 156 := ⟨by decide +kernel, rfl⟩
-- TensorForgeModel keepRow ([IIIZ)V
abbrev zr_keepRow_14_92_1111_10_103 : Room := { frames := 0, cells := 0, slots := 0, locals := 0 }
def zp_keepRow_14_92_1111_10_103 (p3 : Int) (S0 : zz_S) : zz_S → Prop := fun S => zz_G S ∧ zz_fr [] [1111, 1119] (fun _ _ => False) S0 S
theorem zb_keepRow_14_92_1111_10_103_3 {g : mm_G} {l : Launch} (p3 : Int) (S0 : zz_S) (n : Nat) (hn : zz_end ≤ n) (G_S0 : zz_G S0) (hp3 : 0 ≤ p3 ∧ p3 ≤ 1) (x5 : Int) (S : zz_S) (G_S : zz_G S) (F_S : zz_fr [] [1111, 1119] (fun _ _ => False) S0 S) (i3_0 : 0 ≤ x5 ∧ x5 ≤ 10) (R : Nat) (hR : (10 - x5).toNat = R) (k3 : ∀ (x5 : Int) (S : zz_S), zz_G S → zz_fr [] [1111, 1119] (fun _ _ => False) S0 S → (0 ≤ x5 ∧ x5 ≤ 10) → (10 - x5).toNat < R → zz_E g l zy_keepRow_14_92 zr_keepRow_14_92_1111_10_103 (zz_QV n (zp_keepRow_14_92_1111_10_103 p3 S0)) S n 3 [some (.ref 1079), some (.ref 1111), some (zi 10), some (zi 103), some (zi p3), some (zi x5)] [] 0 0) : zz_E g l zy_keepRow_14_92 zr_keepRow_14_92_1111_10_103 (zz_QV n (zp_keepRow_14_92_1111_10_103 p3 S0)) S n 3 [some (.ref 1079), some (.ref 1111), some (zi 10), some (zi 103), some (zi p3), some (zi x5)] [] 0 0 := by
  refine zz_iload (x := x5) rfl zd_14_92_3 ?_
  refine zz_iload_n (x := 10) rfl zd_14_92_5 ?_
  refine zz_icmp_ge (by omega) (by omega) zd_14_92_6 (fun c1 => ?_) (fun c1 => ?_)
  · exact zz_vret zd_14_92_49 rfl (Nat.zero_le _) (Nat.zero_le _) ⟨_, rfl, G_S, F_S⟩
  · refine zz_iload (x := p3) rfl zd_14_92_9 ?_
    refine zz_if_eq (by omega) zd_14_92_11 (fun c2 => ?_) (fun c2 => ?_)
    · refine zz_aload_n (x := 1079) rfl zd_14_92_30 ?_
      refine zz_getr (kd := 0) (z := 1119) zd_14_92_31 zf_Md_139 zT_1079 rfl (zz_ltn hn rfl) (zz_G.eq G_S 1079 67 1119 rfl rfl) (by decide) 1119 rfl ?_
      refine zz_iload_n (x := 103) rfl zd_14_92_34 ?_
      refine zz_iload (x := x5) rfl zd_14_92_35 ?_
      refine zz_iadd zd_14_92_37 ?_
      refine zz_aload_n (x := 1111) rfl zd_14_92_38 ?_
      refine zz_iload (x := x5) rfl zd_14_92_39 ?_
      have g3 := zz_G.r G_S 1111 x5.toNat 0 3 rfl rfl
      refine zz_iald (z := S 1111 x5.toNat) zd_14_92_41 zT_1111 rfl (zz_ltn hn rfl) (by decide) (by omega) rfl ?_
      refine zz_iast zd_14_92_42 zT_1119 rfl (zz_ltn hn rfl) (by decide) (by omega) (fun S4 qS4 => ?_)
      have G_S4 := zz_G.put G_S qS4 (0) (if (103 + x5).toNat < 12 then 63 else if (103 + x5).toNat < 24 then 63 else if (103 + x5).toNat < 36 then 63 else if (103 + x5).toNat < 37 then 0 else if (103 + x5).toNat < 48 then 10000000 else if (103 + x5).toNat < 59 then 2 else if (103 + x5).toNat < 70 then 10 else if (103 + x5).toNat < 81 then 10 else if (103 + x5).toNat < 92 then 3 else if (103 + x5).toNat < 103 then 3 else if (103 + x5).toNat < 114 then 3 else if (103 + x5).toNat < 125 then 1 else if (103 + x5).toNat < 136 then 31 else 4096) rfl (by omega)
      have F_S4 := zz_fr.putc F_S qS4 rfl
      refine zz_iinc [some (.ref 1079), some (.ref 1111), some (zi 10), some (zi 103), some (zi p3), some (zi (x5 + 1))] zd_14_92_43 rfl rfl ?_
      refine zz_goto zd_14_92_46 ?_
      refine zz_less (ls1 := [some (.ref 1079), some (.ref 1111), some (zi 10), some (zi 103), some (zi p3), some (zi (x5 + 1))]) ⟨rfl, ⟨rfl, ⟨rfl, ⟨rfl, ⟨rfl, ⟨rfl, trivial⟩⟩⟩⟩⟩⟩ ?_
      exact k3 (x5 + 1) S4 G_S4 F_S4 (by omega) (by omega)
    · refine zz_aload_n (x := 1111) rfl zd_14_92_14 ?_
      refine zz_iload (x := x5) rfl zd_14_92_15 ?_
      refine zz_aload_n (x := 1079) rfl zd_14_92_17 ?_
      refine zz_getr (kd := 0) (z := 1119) zd_14_92_18 zf_Md_139 zT_1079 rfl (zz_ltn hn rfl) (zz_G.eq G_S 1079 67 1119 rfl rfl) (by decide) 1119 rfl ?_
      refine zz_iload_n (x := 103) rfl zd_14_92_21 ?_
      refine zz_iload (x := x5) rfl zd_14_92_22 ?_
      refine zz_iadd zd_14_92_24 ?_
      have g5 := zz_G.r G_S 1119 ((103 + x5).toNat) (0) (if (103 + x5).toNat < 12 then 63 else if (103 + x5).toNat < 24 then 63 else if (103 + x5).toNat < 36 then 63 else if (103 + x5).toNat < 37 then 0 else if (103 + x5).toNat < 48 then 10000000 else if (103 + x5).toNat < 59 then 2 else if (103 + x5).toNat < 70 then 10 else if (103 + x5).toNat < 81 then 10 else if (103 + x5).toNat < 92 then 3 else if (103 + x5).toNat < 103 then 3 else if (103 + x5).toNat < 114 then 3 else if (103 + x5).toNat < 125 then 1 else if (103 + x5).toNat < 136 then 31 else 4096) rfl rfl
      refine zz_iald (z := S 1119 ((103 + x5).toNat)) zd_14_92_25 zT_1119 rfl (zz_ltn hn rfl) (by decide) (by omega) rfl ?_
      refine zz_iast zd_14_92_26 zT_1111 rfl (zz_ltn hn rfl) (by decide) (by omega) (fun S6 qS6 => ?_)
      have G_S6 := zz_G.put G_S qS6 0 3 rfl (by omega)
      have F_S6 := zz_fr.putc F_S qS6 rfl
      refine zz_goto zd_14_92_27 ?_
      refine zz_iinc [some (.ref 1079), some (.ref 1111), some (zi 10), some (zi 103), some (zi p3), some (zi (x5 + 1))] zd_14_92_43 rfl rfl ?_
      refine zz_goto zd_14_92_46 ?_
      refine zz_less (ls1 := [some (.ref 1079), some (.ref 1111), some (zi 10), some (zi 103), some (zi p3), some (zi (x5 + 1))]) ⟨rfl, ⟨rfl, ⟨rfl, ⟨rfl, ⟨rfl, ⟨rfl, trivial⟩⟩⟩⟩⟩⟩ ?_
      exact k3 (x5 + 1) S6 G_S6 F_S6 (by omega) (by omega)
theorem zi_keepRow_14_92_1111_10_103 {g : mm_G} {l : Launch} (p3 : Int) (S0 : zz_S) (n : Nat) (hn : zz_end ≤ n) (G_S0 : zz_G S0) (hp3 : 0 ≤ p3 ∧ p3 ≤ 1) : ∀ N : Nat, (∀ (x5 : Int) (S : zz_S), zz_G S → zz_fr [] [1111, 1119] (fun _ _ => False) S0 S → (0 ≤ x5 ∧ x5 ≤ 10) → (10 - x5).toNat < N → zz_E g l zy_keepRow_14_92 zr_keepRow_14_92_1111_10_103 (zz_QV n (zp_keepRow_14_92_1111_10_103 p3 S0)) S n 3 [some (.ref 1079), some (.ref 1111), some (zi 10), some (zi 103), some (zi p3), some (zi x5)] [] 0 0) := by
  intro N
  induction N with
  | zero => exact fun x5 S _ _ _ h => absurd h (Nat.not_lt_zero _)
  | succ N ih =>
    exact fun x5 S a b j0 hR => zb_keepRow_14_92_1111_10_103_3 p3 S0 n hn G_S0 hp3 x5 S a b j0 _ rfl (fun x5 S a b j0 h => ih x5 S a b j0 (Nat.lt_of_lt_of_le h (Nat.le_of_lt_succ hR)))
theorem zc_keepRow_14_92_1111_10_103 {g : mm_G} {l : Launch} (p3 : Int) (S0 : zz_S) (n : Nat) (hn : zz_end ≤ n) (G_S0 : zz_G S0) (hp3 : 0 ≤ p3 ∧ p3 ≤ 1) : mm_Met g l zy_keepRow_14_92 zr_keepRow_14_92_1111_10_103 [.ref 1079, .ref 1111, zi 10, zi 103, zi p3] (zz_M S0 n) n (zz_QV n (zp_keepRow_14_92_1111_10_103 p3 S0)) := by
  refine zz_enter (by decide) (Nat.le_of_ble_eq_true rfl) (zz_less (ls1 := [some (.ref 1079), some (.ref 1111), some (zi 10), some (zi 103), some (zi p3)]) ⟨rfl, ⟨rfl, ⟨rfl, ⟨rfl, ⟨rfl, trivial⟩⟩⟩⟩⟩ ?_)
  have F_S0 : zz_fr [] [1111, 1119] (fun _ _ => False) S0 S0 := zz_fr.refl
  have k3 : ∀ (x5 : Int) (S : zz_S), zz_G S → zz_fr [] [1111, 1119] (fun _ _ => False) S0 S → (0 ≤ x5 ∧ x5 ≤ 10) → zz_E g l zy_keepRow_14_92 zr_keepRow_14_92_1111_10_103 (zz_QV n (zp_keepRow_14_92_1111_10_103 p3 S0)) S n 3 [some (.ref 1079), some (.ref 1111), some (zi 10), some (zi 103), some (zi p3), some (zi x5)] [] 0 0 := fun x5 S a b j0 => (zi_keepRow_14_92_1111_10_103 (g := g) (l := l) p3 S0 n hn G_S0 hp3 _) x5 S a b j0 (Nat.lt_succ_self _)
  refine zz_iconst zd_14_92_0 ?_
  refine zz_istore [some (.ref 1079), some (.ref 1111), some (zi 10), some (zi 103), some (zi p3), some (zi 0)] zd_14_92_1 (by decide) rfl ?_
  refine zz_less (ls1 := [some (.ref 1079), some (.ref 1111), some (zi 10), some (zi 103), some (zi p3), some (zi 0)]) ⟨rfl, ⟨rfl, ⟨rfl, ⟨rfl, ⟨rfl, ⟨rfl, trivial⟩⟩⟩⟩⟩⟩ ?_
  exact k3 0 S0 G_S0 F_S0 (by omega)
theorem zd_14_91_156 : zz_D zy_keepNetwork_14_91 156 (.aload_n 0) 1 157 := ⟨by decide +kernel, rfl⟩
theorem zd_14_91_157 : zz_D zy_keepNetwork_14_91 157 (.aload_n 0) 1 158 := ⟨by decide +kernel, rfl⟩
theorem zd_14_91_158 : zz_D zy_keepNetwork_14_91 158 (.getfield 118) 3 161 := ⟨by decide +kernel, rfl⟩
theorem zd_14_91_161 : zz_D zy_keepNetwork_14_91 161 (.bipush 10) 2 163 := ⟨by decide +kernel, rfl⟩
theorem zd_14_91_163 : zz_D zy_keepNetwork_14_91 163 (.bipush 114) 2 165 := ⟨by decide +kernel, rfl⟩
theorem zd_14_91_165 : zz_D zy_keepNetwork_14_91 165 (.iload_n 1) 1 166 := ⟨by decide +kernel, rfl⟩
theorem zd_14_91_166 : zz_D zy_keepNetwork_14_91 166 (.invokevirtual 518) 3 169 := ⟨by decide +kernel, rfl⟩
-- TensorForgeModel keepRow ([IIIZ)V
abbrev zr_keepRow_14_92_1112_10_114 : Room := { frames := 0, cells := 0, slots := 0, locals := 0 }
def zp_keepRow_14_92_1112_10_114 (p3 : Int) (S0 : zz_S) : zz_S → Prop := fun S => zz_G S ∧ zz_fr [] [1112, 1119] (fun _ _ => False) S0 S
theorem zb_keepRow_14_92_1112_10_114_3 {g : mm_G} {l : Launch} (p3 : Int) (S0 : zz_S) (n : Nat) (hn : zz_end ≤ n) (G_S0 : zz_G S0) (hp3 : 0 ≤ p3 ∧ p3 ≤ 1) (x5 : Int) (S : zz_S) (G_S : zz_G S) (F_S : zz_fr [] [1112, 1119] (fun _ _ => False) S0 S) (i3_0 : 0 ≤ x5 ∧ x5 ≤ 10) (R : Nat) (hR : (10 - x5).toNat = R) (k3 : ∀ (x5 : Int) (S : zz_S), zz_G S → zz_fr [] [1112, 1119] (fun _ _ => False) S0 S → (0 ≤ x5 ∧ x5 ≤ 10) → (10 - x5).toNat < R → zz_E g l zy_keepRow_14_92 zr_keepRow_14_92_1112_10_114 (zz_QV n (zp_keepRow_14_92_1112_10_114 p3 S0)) S n 3 [some (.ref 1079), some (.ref 1112), some (zi 10), some (zi 114), some (zi p3), some (zi x5)] [] 0 0) : zz_E g l zy_keepRow_14_92 zr_keepRow_14_92_1112_10_114 (zz_QV n (zp_keepRow_14_92_1112_10_114 p3 S0)) S n 3 [some (.ref 1079), some (.ref 1112), some (zi 10), some (zi 114), some (zi p3), some (zi x5)] [] 0 0 := by
  refine zz_iload (x := x5) rfl zd_14_92_3 ?_
  refine zz_iload_n (x := 10) rfl zd_14_92_5 ?_
  refine zz_icmp_ge (by omega) (by omega) zd_14_92_6 (fun c1 => ?_) (fun c1 => ?_)
  · exact zz_vret zd_14_92_49 rfl (Nat.zero_le _) (Nat.zero_le _) ⟨_, rfl, G_S, F_S⟩
  · refine zz_iload (x := p3) rfl zd_14_92_9 ?_
    refine zz_if_eq (by omega) zd_14_92_11 (fun c2 => ?_) (fun c2 => ?_)
    · refine zz_aload_n (x := 1079) rfl zd_14_92_30 ?_
      refine zz_getr (kd := 0) (z := 1119) zd_14_92_31 zf_Md_139 zT_1079 rfl (zz_ltn hn rfl) (zz_G.eq G_S 1079 67 1119 rfl rfl) (by decide) 1119 rfl ?_
      refine zz_iload_n (x := 114) rfl zd_14_92_34 ?_
      refine zz_iload (x := x5) rfl zd_14_92_35 ?_
      refine zz_iadd zd_14_92_37 ?_
      refine zz_aload_n (x := 1112) rfl zd_14_92_38 ?_
      refine zz_iload (x := x5) rfl zd_14_92_39 ?_
      have g3 := zz_G.r G_S 1112 x5.toNat 0 1 rfl rfl
      refine zz_iald (z := S 1112 x5.toNat) zd_14_92_41 zT_1112 rfl (zz_ltn hn rfl) (by decide) (by omega) rfl ?_
      refine zz_iast zd_14_92_42 zT_1119 rfl (zz_ltn hn rfl) (by decide) (by omega) (fun S4 qS4 => ?_)
      have G_S4 := zz_G.put G_S qS4 (0) (if (114 + x5).toNat < 12 then 63 else if (114 + x5).toNat < 24 then 63 else if (114 + x5).toNat < 36 then 63 else if (114 + x5).toNat < 37 then 0 else if (114 + x5).toNat < 48 then 10000000 else if (114 + x5).toNat < 59 then 2 else if (114 + x5).toNat < 70 then 10 else if (114 + x5).toNat < 81 then 10 else if (114 + x5).toNat < 92 then 3 else if (114 + x5).toNat < 103 then 3 else if (114 + x5).toNat < 114 then 3 else if (114 + x5).toNat < 125 then 1 else if (114 + x5).toNat < 136 then 31 else 4096) rfl (by omega)
      have F_S4 := zz_fr.putc F_S qS4 rfl
      refine zz_iinc [some (.ref 1079), some (.ref 1112), some (zi 10), some (zi 114), some (zi p3), some (zi (x5 + 1))] zd_14_92_43 rfl rfl ?_
      refine zz_goto zd_14_92_46 ?_
      refine zz_less (ls1 := [some (.ref 1079), some (.ref 1112), some (zi 10), some (zi 114), some (zi p3), some (zi (x5 + 1))]) ⟨rfl, ⟨rfl, ⟨rfl, ⟨rfl, ⟨rfl, ⟨rfl, trivial⟩⟩⟩⟩⟩⟩ ?_
      exact k3 (x5 + 1) S4 G_S4 F_S4 (by omega) (by omega)
    · refine zz_aload_n (x := 1112) rfl zd_14_92_14 ?_
      refine zz_iload (x := x5) rfl zd_14_92_15 ?_
      refine zz_aload_n (x := 1079) rfl zd_14_92_17 ?_
      refine zz_getr (kd := 0) (z := 1119) zd_14_92_18 zf_Md_139 zT_1079 rfl (zz_ltn hn rfl) (zz_G.eq G_S 1079 67 1119 rfl rfl) (by decide) 1119 rfl ?_
      refine zz_iload_n (x := 114) rfl zd_14_92_21 ?_
      refine zz_iload (x := x5) rfl zd_14_92_22 ?_
      refine zz_iadd zd_14_92_24 ?_
      have g5 := zz_G.r G_S 1119 ((114 + x5).toNat) (0) (if (114 + x5).toNat < 12 then 63 else if (114 + x5).toNat < 24 then 63 else if (114 + x5).toNat < 36 then 63 else if (114 + x5).toNat < 37 then 0 else if (114 + x5).toNat < 48 then 10000000 else if (114 + x5).toNat < 59 then 2 else if (114 + x5).toNat < 70 then 10 else if (114 + x5).toNat < 81 then 10 else if (114 + x5).toNat < 92 then 3 else if (114 + x5).toNat < 103 then 3 else if (114 + x5).toNat < 114 then 3 else if (114 + x5).toNat < 125 then 1 else if (114 + x5).toNat < 136 then 31 else 4096) rfl rfl
      refine zz_iald (z := S 1119 ((114 + x5).toNat)) zd_14_92_25 zT_1119 rfl (zz_ltn hn rfl) (by decide) (by omega) rfl ?_
      refine zz_iast zd_14_92_26 zT_1112 rfl (zz_ltn hn rfl) (by decide) (by omega) (fun S6 qS6 => ?_)
      have G_S6 := zz_G.put G_S qS6 0 1 rfl (by omega)
      have F_S6 := zz_fr.putc F_S qS6 rfl
      refine zz_goto zd_14_92_27 ?_
      refine zz_iinc [some (.ref 1079), some (.ref 1112), some (zi 10), some (zi 114), some (zi p3), some (zi (x5 + 1))] zd_14_92_43 rfl rfl ?_
      refine zz_goto zd_14_92_46 ?_
      refine zz_less (ls1 := [some (.ref 1079), some (.ref 1112), some (zi 10), some (zi 114), some (zi p3), some (zi (x5 + 1))]) ⟨rfl, ⟨rfl, ⟨rfl, ⟨rfl, ⟨rfl, ⟨rfl, trivial⟩⟩⟩⟩⟩⟩ ?_
      exact k3 (x5 + 1) S6 G_S6 F_S6 (by omega) (by omega)
theorem zi_keepRow_14_92_1112_10_114 {g : mm_G} {l : Launch} (p3 : Int) (S0 : zz_S) (n : Nat) (hn : zz_end ≤ n) (G_S0 : zz_G S0) (hp3 : 0 ≤ p3 ∧ p3 ≤ 1) : ∀ N : Nat, (∀ (x5 : Int) (S : zz_S), zz_G S → zz_fr [] [1112, 1119] (fun _ _ => False) S0 S → (0 ≤ x5 ∧ x5 ≤ 10) → (10 - x5).toNat < N → zz_E g l zy_keepRow_14_92 zr_keepRow_14_92_1112_10_114 (zz_QV n (zp_keepRow_14_92_1112_10_114 p3 S0)) S n 3 [some (.ref 1079), some (.ref 1112), some (zi 10), some (zi 114), some (zi p3), some (zi x5)] [] 0 0) := by
  intro N
  induction N with
  | zero => exact fun x5 S _ _ _ h => absurd h (Nat.not_lt_zero _)
  | succ N ih =>
    exact fun x5 S a b j0 hR => zb_keepRow_14_92_1112_10_114_3 p3 S0 n hn G_S0 hp3 x5 S a b j0 _ rfl (fun x5 S a b j0 h => ih x5 S a b j0 (Nat.lt_of_lt_of_le h (Nat.le_of_lt_succ hR)))
theorem zc_keepRow_14_92_1112_10_114 {g : mm_G} {l : Launch} (p3 : Int) (S0 : zz_S) (n : Nat) (hn : zz_end ≤ n) (G_S0 : zz_G S0) (hp3 : 0 ≤ p3 ∧ p3 ≤ 1) : mm_Met g l zy_keepRow_14_92 zr_keepRow_14_92_1112_10_114 [.ref 1079, .ref 1112, zi 10, zi 114, zi p3] (zz_M S0 n) n (zz_QV n (zp_keepRow_14_92_1112_10_114 p3 S0)) := by
  refine zz_enter (by decide) (Nat.le_of_ble_eq_true rfl) (zz_less (ls1 := [some (.ref 1079), some (.ref 1112), some (zi 10), some (zi 114), some (zi p3)]) ⟨rfl, ⟨rfl, ⟨rfl, ⟨rfl, ⟨rfl, trivial⟩⟩⟩⟩⟩ ?_)
  have F_S0 : zz_fr [] [1112, 1119] (fun _ _ => False) S0 S0 := zz_fr.refl
  have k3 : ∀ (x5 : Int) (S : zz_S), zz_G S → zz_fr [] [1112, 1119] (fun _ _ => False) S0 S → (0 ≤ x5 ∧ x5 ≤ 10) → zz_E g l zy_keepRow_14_92 zr_keepRow_14_92_1112_10_114 (zz_QV n (zp_keepRow_14_92_1112_10_114 p3 S0)) S n 3 [some (.ref 1079), some (.ref 1112), some (zi 10), some (zi 114), some (zi p3), some (zi x5)] [] 0 0 := fun x5 S a b j0 => (zi_keepRow_14_92_1112_10_114 (g := g) (l := l) p3 S0 n hn G_S0 hp3 _) x5 S a b j0 (Nat.lt_succ_self _)
  refine zz_iconst zd_14_92_0 ?_
  refine zz_istore [some (.ref 1079), some (.ref 1112), some (zi 10), some (zi 114), some (zi p3), some (zi 0)] zd_14_92_1 (by decide) rfl ?_
  refine zz_less (ls1 := [some (.ref 1079), some (.ref 1112), some (zi 10), some (zi 114), some (zi p3), some (zi 0)]) ⟨rfl, ⟨rfl, ⟨rfl, ⟨rfl, ⟨rfl, ⟨rfl, trivial⟩⟩⟩⟩⟩⟩ ?_
  exact k3 0 S0 G_S0 F_S0 (by omega)
theorem zd_14_91_169 : zz_D zy_keepNetwork_14_91 169 (.aload_n 0) 1 170 := ⟨by decide +kernel, rfl⟩
theorem zd_14_91_170 : zz_D zy_keepNetwork_14_91 170 (.aload_n 0) 1 171 := ⟨by decide +kernel, rfl⟩
theorem zd_14_91_171 : zz_D zy_keepNetwork_14_91 171 (.getfield 121) 3 174 := ⟨by decide +kernel, rfl⟩
theorem zd_14_91_174 : zz_D zy_keepNetwork_14_91 174 (.bipush 10) 2 176 := ⟨by decide +kernel, rfl⟩
theorem zd_14_91_176 : zz_D zy_keepNetwork_14_91 176 (.bipush 125) 2 178 := ⟨by decide +kernel, rfl⟩
theorem zd_14_91_178 : zz_D zy_keepNetwork_14_91 178 (.iload_n 1) 1 179 := ⟨by decide +kernel, rfl⟩
theorem zd_14_91_179 : zz_D zy_keepNetwork_14_91 179 (.invokevirtual 518) 3 182 := ⟨by decide +kernel, rfl⟩
-- TensorForgeModel keepRow ([IIIZ)V
abbrev zr_keepRow_14_92_1113_10_125 : Room := { frames := 0, cells := 0, slots := 0, locals := 0 }
def zp_keepRow_14_92_1113_10_125 (p3 : Int) (S0 : zz_S) : zz_S → Prop := fun S => zz_G S ∧ zz_fr [] [1113, 1119] (fun _ _ => False) S0 S
theorem zb_keepRow_14_92_1113_10_125_3 {g : mm_G} {l : Launch} (p3 : Int) (S0 : zz_S) (n : Nat) (hn : zz_end ≤ n) (G_S0 : zz_G S0) (hp3 : 0 ≤ p3 ∧ p3 ≤ 1) (x5 : Int) (S : zz_S) (G_S : zz_G S) (F_S : zz_fr [] [1113, 1119] (fun _ _ => False) S0 S) (i3_0 : 0 ≤ x5 ∧ x5 ≤ 10) (R : Nat) (hR : (10 - x5).toNat = R) (k3 : ∀ (x5 : Int) (S : zz_S), zz_G S → zz_fr [] [1113, 1119] (fun _ _ => False) S0 S → (0 ≤ x5 ∧ x5 ≤ 10) → (10 - x5).toNat < R → zz_E g l zy_keepRow_14_92 zr_keepRow_14_92_1113_10_125 (zz_QV n (zp_keepRow_14_92_1113_10_125 p3 S0)) S n 3 [some (.ref 1079), some (.ref 1113), some (zi 10), some (zi 125), some (zi p3), some (zi x5)] [] 0 0) : zz_E g l zy_keepRow_14_92 zr_keepRow_14_92_1113_10_125 (zz_QV n (zp_keepRow_14_92_1113_10_125 p3 S0)) S n 3 [some (.ref 1079), some (.ref 1113), some (zi 10), some (zi 125), some (zi p3), some (zi x5)] [] 0 0 := by
  refine zz_iload (x := x5) rfl zd_14_92_3 ?_
  refine zz_iload_n (x := 10) rfl zd_14_92_5 ?_
  refine zz_icmp_ge (by omega) (by omega) zd_14_92_6 (fun c1 => ?_) (fun c1 => ?_)
  · exact zz_vret zd_14_92_49 rfl (Nat.zero_le _) (Nat.zero_le _) ⟨_, rfl, G_S, F_S⟩
  · refine zz_iload (x := p3) rfl zd_14_92_9 ?_
    refine zz_if_eq (by omega) zd_14_92_11 (fun c2 => ?_) (fun c2 => ?_)
    · refine zz_aload_n (x := 1079) rfl zd_14_92_30 ?_
      refine zz_getr (kd := 0) (z := 1119) zd_14_92_31 zf_Md_139 zT_1079 rfl (zz_ltn hn rfl) (zz_G.eq G_S 1079 67 1119 rfl rfl) (by decide) 1119 rfl ?_
      refine zz_iload_n (x := 125) rfl zd_14_92_34 ?_
      refine zz_iload (x := x5) rfl zd_14_92_35 ?_
      refine zz_iadd zd_14_92_37 ?_
      refine zz_aload_n (x := 1113) rfl zd_14_92_38 ?_
      refine zz_iload (x := x5) rfl zd_14_92_39 ?_
      have g3 := zz_G.r G_S 1113 x5.toNat 0 31 rfl rfl
      refine zz_iald (z := S 1113 x5.toNat) zd_14_92_41 zT_1113 rfl (zz_ltn hn rfl) (by decide) (by omega) rfl ?_
      refine zz_iast zd_14_92_42 zT_1119 rfl (zz_ltn hn rfl) (by decide) (by omega) (fun S4 qS4 => ?_)
      have G_S4 := zz_G.put G_S qS4 (0) (if (125 + x5).toNat < 12 then 63 else if (125 + x5).toNat < 24 then 63 else if (125 + x5).toNat < 36 then 63 else if (125 + x5).toNat < 37 then 0 else if (125 + x5).toNat < 48 then 10000000 else if (125 + x5).toNat < 59 then 2 else if (125 + x5).toNat < 70 then 10 else if (125 + x5).toNat < 81 then 10 else if (125 + x5).toNat < 92 then 3 else if (125 + x5).toNat < 103 then 3 else if (125 + x5).toNat < 114 then 3 else if (125 + x5).toNat < 125 then 1 else if (125 + x5).toNat < 136 then 31 else 4096) rfl (by omega)
      have F_S4 := zz_fr.putc F_S qS4 rfl
      refine zz_iinc [some (.ref 1079), some (.ref 1113), some (zi 10), some (zi 125), some (zi p3), some (zi (x5 + 1))] zd_14_92_43 rfl rfl ?_
      refine zz_goto zd_14_92_46 ?_
      refine zz_less (ls1 := [some (.ref 1079), some (.ref 1113), some (zi 10), some (zi 125), some (zi p3), some (zi (x5 + 1))]) ⟨rfl, ⟨rfl, ⟨rfl, ⟨rfl, ⟨rfl, ⟨rfl, trivial⟩⟩⟩⟩⟩⟩ ?_
      exact k3 (x5 + 1) S4 G_S4 F_S4 (by omega) (by omega)
    · refine zz_aload_n (x := 1113) rfl zd_14_92_14 ?_
      refine zz_iload (x := x5) rfl zd_14_92_15 ?_
      refine zz_aload_n (x := 1079) rfl zd_14_92_17 ?_
      refine zz_getr (kd := 0) (z := 1119) zd_14_92_18 zf_Md_139 zT_1079 rfl (zz_ltn hn rfl) (zz_G.eq G_S 1079 67 1119 rfl rfl) (by decide) 1119 rfl ?_
      refine zz_iload_n (x := 125) rfl zd_14_92_21 ?_
      refine zz_iload (x := x5) rfl zd_14_92_22 ?_
      refine zz_iadd zd_14_92_24 ?_
      have g5 := zz_G.r G_S 1119 ((125 + x5).toNat) (0) (if (125 + x5).toNat < 12 then 63 else if (125 + x5).toNat < 24 then 63 else if (125 + x5).toNat < 36 then 63 else if (125 + x5).toNat < 37 then 0 else if (125 + x5).toNat < 48 then 10000000 else if (125 + x5).toNat < 59 then 2 else if (125 + x5).toNat < 70 then 10 else if (125 + x5).toNat < 81 then 10 else if (125 + x5).toNat < 92 then 3 else if (125 + x5).toNat < 103 then 3 else if (125 + x5).toNat < 114 then 3 else if (125 + x5).toNat < 125 then 1 else if (125 + x5).toNat < 136 then 31 else 4096) rfl rfl
      refine zz_iald (z := S 1119 ((125 + x5).toNat)) zd_14_92_25 zT_1119 rfl (zz_ltn hn rfl) (by decide) (by omega) rfl ?_
      refine zz_iast zd_14_92_26 zT_1113 rfl (zz_ltn hn rfl) (by decide) (by omega) (fun S6 qS6 => ?_)
      have G_S6 := zz_G.put G_S qS6 0 31 rfl (by omega)
      have F_S6 := zz_fr.putc F_S qS6 rfl
      refine zz_goto zd_14_92_27 ?_
      refine zz_iinc [some (.ref 1079), some (.ref 1113), some (zi 10), some (zi 125), some (zi p3), some (zi (x5 + 1))] zd_14_92_43 rfl rfl ?_
      refine zz_goto zd_14_92_46 ?_
      refine zz_less (ls1 := [some (.ref 1079), some (.ref 1113), some (zi 10), some (zi 125), some (zi p3), some (zi (x5 + 1))]) ⟨rfl, ⟨rfl, ⟨rfl, ⟨rfl, ⟨rfl, ⟨rfl, trivial⟩⟩⟩⟩⟩⟩ ?_
      exact k3 (x5 + 1) S6 G_S6 F_S6 (by omega) (by omega)
theorem zi_keepRow_14_92_1113_10_125 {g : mm_G} {l : Launch} (p3 : Int) (S0 : zz_S) (n : Nat) (hn : zz_end ≤ n) (G_S0 : zz_G S0) (hp3 : 0 ≤ p3 ∧ p3 ≤ 1) : ∀ N : Nat, (∀ (x5 : Int) (S : zz_S), zz_G S → zz_fr [] [1113, 1119] (fun _ _ => False) S0 S → (0 ≤ x5 ∧ x5 ≤ 10) → (10 - x5).toNat < N → zz_E g l zy_keepRow_14_92 zr_keepRow_14_92_1113_10_125 (zz_QV n (zp_keepRow_14_92_1113_10_125 p3 S0)) S n 3 [some (.ref 1079), some (.ref 1113), some (zi 10), some (zi 125), some (zi p3), some (zi x5)] [] 0 0) := by
  intro N
  induction N with
  | zero => exact fun x5 S _ _ _ h => absurd h (Nat.not_lt_zero _)
  | succ N ih =>
    exact fun x5 S a b j0 hR => zb_keepRow_14_92_1113_10_125_3 p3 S0 n hn G_S0 hp3 x5 S a b j0 _ rfl (fun x5 S a b j0 h => ih x5 S a b j0 (Nat.lt_of_lt_of_le h (Nat.le_of_lt_succ hR)))
theorem zc_keepRow_14_92_1113_10_125 {g : mm_G} {l : Launch} (p3 : Int) (S0 : zz_S) (n : Nat) (hn : zz_end ≤ n) (G_S0 : zz_G S0) (hp3 : 0 ≤ p3 ∧ p3 ≤ 1) : mm_Met g l zy_keepRow_14_92 zr_keepRow_14_92_1113_10_125 [.ref 1079, .ref 1113, zi 10, zi 125, zi p3] (zz_M S0 n) n (zz_QV n (zp_keepRow_14_92_1113_10_125 p3 S0)) := by
  refine zz_enter (by decide) (Nat.le_of_ble_eq_true rfl) (zz_less (ls1 := [some (.ref 1079), some (.ref 1113), some (zi 10), some (zi 125), some (zi p3)]) ⟨rfl, ⟨rfl, ⟨rfl, ⟨rfl, ⟨rfl, trivial⟩⟩⟩⟩⟩ ?_)
  have F_S0 : zz_fr [] [1113, 1119] (fun _ _ => False) S0 S0 := zz_fr.refl
  have k3 : ∀ (x5 : Int) (S : zz_S), zz_G S → zz_fr [] [1113, 1119] (fun _ _ => False) S0 S → (0 ≤ x5 ∧ x5 ≤ 10) → zz_E g l zy_keepRow_14_92 zr_keepRow_14_92_1113_10_125 (zz_QV n (zp_keepRow_14_92_1113_10_125 p3 S0)) S n 3 [some (.ref 1079), some (.ref 1113), some (zi 10), some (zi 125), some (zi p3), some (zi x5)] [] 0 0 := fun x5 S a b j0 => (zi_keepRow_14_92_1113_10_125 (g := g) (l := l) p3 S0 n hn G_S0 hp3 _) x5 S a b j0 (Nat.lt_succ_self _)
  refine zz_iconst zd_14_92_0 ?_
  refine zz_istore [some (.ref 1079), some (.ref 1113), some (zi 10), some (zi 125), some (zi p3), some (zi 0)] zd_14_92_1 (by decide) rfl ?_
  refine zz_less (ls1 := [some (.ref 1079), some (.ref 1113), some (zi 10), some (zi 125), some (zi p3), some (zi 0)]) ⟨rfl, ⟨rfl, ⟨rfl, ⟨rfl, ⟨rfl, ⟨rfl, trivial⟩⟩⟩⟩⟩⟩ ?_
  exact k3 0 S0 G_S0 F_S0 (by omega)
theorem zd_14_91_182 : zz_D zy_keepNetwork_14_91 182 (.aload_n 0) 1 183 := ⟨by decide +kernel, rfl⟩
theorem zd_14_91_183 : zz_D zy_keepNetwork_14_91 183 (.aload_n 0) 1 184 := ⟨by decide +kernel, rfl⟩
theorem zd_14_91_184 : zz_D zy_keepNetwork_14_91 184 (.getfield 124) 3 187 := ⟨by decide +kernel, rfl⟩
theorem zd_14_91_187 : zz_D zy_keepNetwork_14_91 187 (.bipush 10) 2 189 := ⟨by decide +kernel, rfl⟩
theorem zd_14_91_189 : zz_D zy_keepNetwork_14_91 189 (.sipush 136) 3 192 := ⟨by decide +kernel, rfl⟩
theorem zd_14_91_192 : zz_D zy_keepNetwork_14_91 192 (.iload_n 1) 1 193 := ⟨by decide +kernel, rfl⟩
theorem zd_14_91_193 : zz_D zy_keepNetwork_14_91 193 (.invokevirtual 518) 3 196 := ⟨by decide +kernel, rfl⟩
-- TensorForgeModel keepRow ([IIIZ)V
abbrev zr_keepRow_14_92_1114_10_136 : Room := { frames := 0, cells := 0, slots := 0, locals := 0 }
def zp_keepRow_14_92_1114_10_136 (p3 : Int) (S0 : zz_S) : zz_S → Prop := fun S => zz_G S ∧ zz_fr [] [1114, 1119] (fun _ _ => False) S0 S
theorem zb_keepRow_14_92_1114_10_136_3 {g : mm_G} {l : Launch} (p3 : Int) (S0 : zz_S) (n : Nat) (hn : zz_end ≤ n) (G_S0 : zz_G S0) (hp3 : 0 ≤ p3 ∧ p3 ≤ 1) (x5 : Int) (S : zz_S) (G_S : zz_G S) (F_S : zz_fr [] [1114, 1119] (fun _ _ => False) S0 S) (i3_0 : 0 ≤ x5 ∧ x5 ≤ 10) (R : Nat) (hR : (10 - x5).toNat = R) (k3 : ∀ (x5 : Int) (S : zz_S), zz_G S → zz_fr [] [1114, 1119] (fun _ _ => False) S0 S → (0 ≤ x5 ∧ x5 ≤ 10) → (10 - x5).toNat < R → zz_E g l zy_keepRow_14_92 zr_keepRow_14_92_1114_10_136 (zz_QV n (zp_keepRow_14_92_1114_10_136 p3 S0)) S n 3 [some (.ref 1079), some (.ref 1114), some (zi 10), some (zi 136), some (zi p3), some (zi x5)] [] 0 0) : zz_E g l zy_keepRow_14_92 zr_keepRow_14_92_1114_10_136 (zz_QV n (zp_keepRow_14_92_1114_10_136 p3 S0)) S n 3 [some (.ref 1079), some (.ref 1114), some (zi 10), some (zi 136), some (zi p3), some (zi x5)] [] 0 0 := by
  refine zz_iload (x := x5) rfl zd_14_92_3 ?_
  refine zz_iload_n (x := 10) rfl zd_14_92_5 ?_
  refine zz_icmp_ge (by omega) (by omega) zd_14_92_6 (fun c1 => ?_) (fun c1 => ?_)
  · exact zz_vret zd_14_92_49 rfl (Nat.zero_le _) (Nat.zero_le _) ⟨_, rfl, G_S, F_S⟩
  · refine zz_iload (x := p3) rfl zd_14_92_9 ?_
    refine zz_if_eq (by omega) zd_14_92_11 (fun c2 => ?_) (fun c2 => ?_)
    · refine zz_aload_n (x := 1079) rfl zd_14_92_30 ?_
      refine zz_getr (kd := 0) (z := 1119) zd_14_92_31 zf_Md_139 zT_1079 rfl (zz_ltn hn rfl) (zz_G.eq G_S 1079 67 1119 rfl rfl) (by decide) 1119 rfl ?_
      refine zz_iload_n (x := 136) rfl zd_14_92_34 ?_
      refine zz_iload (x := x5) rfl zd_14_92_35 ?_
      refine zz_iadd zd_14_92_37 ?_
      refine zz_aload_n (x := 1114) rfl zd_14_92_38 ?_
      refine zz_iload (x := x5) rfl zd_14_92_39 ?_
      have g3 := zz_G.r G_S 1114 x5.toNat 0 4096 rfl rfl
      refine zz_iald (z := S 1114 x5.toNat) zd_14_92_41 zT_1114 rfl (zz_ltn hn rfl) (by decide) (by omega) rfl ?_
      refine zz_iast zd_14_92_42 zT_1119 rfl (zz_ltn hn rfl) (by decide) (by omega) (fun S4 qS4 => ?_)
      have G_S4 := zz_G.put G_S qS4 (0) (if (136 + x5).toNat < 12 then 63 else if (136 + x5).toNat < 24 then 63 else if (136 + x5).toNat < 36 then 63 else if (136 + x5).toNat < 37 then 0 else if (136 + x5).toNat < 48 then 10000000 else if (136 + x5).toNat < 59 then 2 else if (136 + x5).toNat < 70 then 10 else if (136 + x5).toNat < 81 then 10 else if (136 + x5).toNat < 92 then 3 else if (136 + x5).toNat < 103 then 3 else if (136 + x5).toNat < 114 then 3 else if (136 + x5).toNat < 125 then 1 else if (136 + x5).toNat < 136 then 31 else 4096) rfl (by omega)
      have F_S4 := zz_fr.putc F_S qS4 rfl
      refine zz_iinc [some (.ref 1079), some (.ref 1114), some (zi 10), some (zi 136), some (zi p3), some (zi (x5 + 1))] zd_14_92_43 rfl rfl ?_
      refine zz_goto zd_14_92_46 ?_
      refine zz_less (ls1 := [some (.ref 1079), some (.ref 1114), some (zi 10), some (zi 136), some (zi p3), some (zi (x5 + 1))]) ⟨rfl, ⟨rfl, ⟨rfl, ⟨rfl, ⟨rfl, ⟨rfl, trivial⟩⟩⟩⟩⟩⟩ ?_
      exact k3 (x5 + 1) S4 G_S4 F_S4 (by omega) (by omega)
    · refine zz_aload_n (x := 1114) rfl zd_14_92_14 ?_
      refine zz_iload (x := x5) rfl zd_14_92_15 ?_
      refine zz_aload_n (x := 1079) rfl zd_14_92_17 ?_
      refine zz_getr (kd := 0) (z := 1119) zd_14_92_18 zf_Md_139 zT_1079 rfl (zz_ltn hn rfl) (zz_G.eq G_S 1079 67 1119 rfl rfl) (by decide) 1119 rfl ?_
      refine zz_iload_n (x := 136) rfl zd_14_92_21 ?_
      refine zz_iload (x := x5) rfl zd_14_92_22 ?_
      refine zz_iadd zd_14_92_24 ?_
      have g5 := zz_G.r G_S 1119 ((136 + x5).toNat) (0) (if (136 + x5).toNat < 12 then 63 else if (136 + x5).toNat < 24 then 63 else if (136 + x5).toNat < 36 then 63 else if (136 + x5).toNat < 37 then 0 else if (136 + x5).toNat < 48 then 10000000 else if (136 + x5).toNat < 59 then 2 else if (136 + x5).toNat < 70 then 10 else if (136 + x5).toNat < 81 then 10 else if (136 + x5).toNat < 92 then 3 else if (136 + x5).toNat < 103 then 3 else if (136 + x5).toNat < 114 then 3 else if (136 + x5).toNat < 125 then 1 else if (136 + x5).toNat < 136 then 31 else 4096) rfl rfl
      refine zz_iald (z := S 1119 ((136 + x5).toNat)) zd_14_92_25 zT_1119 rfl (zz_ltn hn rfl) (by decide) (by omega) rfl ?_
      refine zz_iast zd_14_92_26 zT_1114 rfl (zz_ltn hn rfl) (by decide) (by omega) (fun S6 qS6 => ?_)
      have G_S6 := zz_G.put G_S qS6 0 4096 rfl (by omega)
      have F_S6 := zz_fr.putc F_S qS6 rfl
      refine zz_goto zd_14_92_27 ?_
      refine zz_iinc [some (.ref 1079), some (.ref 1114), some (zi 10), some (zi 136), some (zi p3), some (zi (x5 + 1))] zd_14_92_43 rfl rfl ?_
      refine zz_goto zd_14_92_46 ?_
      refine zz_less (ls1 := [some (.ref 1079), some (.ref 1114), some (zi 10), some (zi 136), some (zi p3), some (zi (x5 + 1))]) ⟨rfl, ⟨rfl, ⟨rfl, ⟨rfl, ⟨rfl, ⟨rfl, trivial⟩⟩⟩⟩⟩⟩ ?_
      exact k3 (x5 + 1) S6 G_S6 F_S6 (by omega) (by omega)
theorem zi_keepRow_14_92_1114_10_136 {g : mm_G} {l : Launch} (p3 : Int) (S0 : zz_S) (n : Nat) (hn : zz_end ≤ n) (G_S0 : zz_G S0) (hp3 : 0 ≤ p3 ∧ p3 ≤ 1) : ∀ N : Nat, (∀ (x5 : Int) (S : zz_S), zz_G S → zz_fr [] [1114, 1119] (fun _ _ => False) S0 S → (0 ≤ x5 ∧ x5 ≤ 10) → (10 - x5).toNat < N → zz_E g l zy_keepRow_14_92 zr_keepRow_14_92_1114_10_136 (zz_QV n (zp_keepRow_14_92_1114_10_136 p3 S0)) S n 3 [some (.ref 1079), some (.ref 1114), some (zi 10), some (zi 136), some (zi p3), some (zi x5)] [] 0 0) := by
  intro N
  induction N with
  | zero => exact fun x5 S _ _ _ h => absurd h (Nat.not_lt_zero _)
  | succ N ih =>
    exact fun x5 S a b j0 hR => zb_keepRow_14_92_1114_10_136_3 p3 S0 n hn G_S0 hp3 x5 S a b j0 _ rfl (fun x5 S a b j0 h => ih x5 S a b j0 (Nat.lt_of_lt_of_le h (Nat.le_of_lt_succ hR)))
theorem zc_keepRow_14_92_1114_10_136 {g : mm_G} {l : Launch} (p3 : Int) (S0 : zz_S) (n : Nat) (hn : zz_end ≤ n) (G_S0 : zz_G S0) (hp3 : 0 ≤ p3 ∧ p3 ≤ 1) : mm_Met g l zy_keepRow_14_92 zr_keepRow_14_92_1114_10_136 [.ref 1079, .ref 1114, zi 10, zi 136, zi p3] (zz_M S0 n) n (zz_QV n (zp_keepRow_14_92_1114_10_136 p3 S0)) := by
  refine zz_enter (by decide) (Nat.le_of_ble_eq_true rfl) (zz_less (ls1 := [some (.ref 1079), some (.ref 1114), some (zi 10), some (zi 136), some (zi p3)]) ⟨rfl, ⟨rfl, ⟨rfl, ⟨rfl, ⟨rfl, trivial⟩⟩⟩⟩⟩ ?_)
  have F_S0 : zz_fr [] [1114, 1119] (fun _ _ => False) S0 S0 := zz_fr.refl
  have k3 : ∀ (x5 : Int) (S : zz_S), zz_G S → zz_fr [] [1114, 1119] (fun _ _ => False) S0 S → (0 ≤ x5 ∧ x5 ≤ 10) → zz_E g l zy_keepRow_14_92 zr_keepRow_14_92_1114_10_136 (zz_QV n (zp_keepRow_14_92_1114_10_136 p3 S0)) S n 3 [some (.ref 1079), some (.ref 1114), some (zi 10), some (zi 136), some (zi p3), some (zi x5)] [] 0 0 := fun x5 S a b j0 => (zi_keepRow_14_92_1114_10_136 (g := g) (l := l) p3 S0 n hn G_S0 hp3 _) x5 S a b j0 (Nat.lt_succ_self _)
  refine zz_iconst zd_14_92_0 ?_
  refine zz_istore [some (.ref 1079), some (.ref 1114), some (zi 10), some (zi 136), some (zi p3), some (zi 0)] zd_14_92_1 (by decide) rfl ?_
  refine zz_less (ls1 := [some (.ref 1079), some (.ref 1114), some (zi 10), some (zi 136), some (zi p3), some (zi 0)]) ⟨rfl, ⟨rfl, ⟨rfl, ⟨rfl, ⟨rfl, ⟨rfl, trivial⟩⟩⟩⟩⟩⟩ ?_
  exact k3 0 S0 G_S0 F_S0 (by omega)
theorem zd_14_91_196 : zz_D zy_keepNetwork_14_91 196 (.return_) 1 197 := ⟨by decide +kernel, rfl⟩
theorem zd_14_91_5 : zz_D zy_keepNetwork_14_91 5 (.aload_n 0) 1 6 := ⟨by decide +kernel, rfl⟩
theorem zd_14_91_6 : zz_D zy_keepNetwork_14_91 6 (.getfield 515) 3 9 := ⟨by decide +kernel, rfl⟩
theorem zd_14_91_9 : zz_B zy_keepNetwork_14_91 9 Instr.goto 16 12 := ⟨7, by decide +kernel, rfl, rfl⟩
-- TensorForgeModel keepNetwork (Z)V
abbrev zr_keepNetwork_14_91 : Room := { frames := 1, cells := 0, slots := 0, locals := 17 }
def zp_keepNetwork_14_91 (p0 : Int) (S0 : zz_S) : zz_S → Prop := fun S => zz_G S ∧ zz_fr [(1079, 36), (1079, 66)] [1102, 1103, 1104, 1105, 1106, 1107, 1108, 1109, 1110, 1111, 1112, 1113, 1114, 1119] (fun _ _ => False) S0 S
theorem zc_keepNetwork_14_91 {g : mm_G} {l : Launch} (p0 : Int) (S0 : zz_S) (n : Nat) (hn : zz_end ≤ n) (G_S0 : zz_G S0) (hp0 : 0 ≤ p0 ∧ p0 ≤ 1) : mm_Met g l zy_keepNetwork_14_91 zr_keepNetwork_14_91 [.ref 1079, zi p0] (zz_M S0 n) n (zz_QV n (zp_keepNetwork_14_91 p0 S0)) := by
  refine zz_enter (by decide) (Nat.le_of_ble_eq_true rfl) (zz_less (ls1 := [some (.ref 1079), some (zi p0)]) ⟨rfl, ⟨rfl, trivial⟩⟩ ?_)
  have F_S0 : zz_fr [(1079, 36), (1079, 66)] [1102, 1103, 1104, 1105, 1106, 1107, 1108, 1109, 1110, 1111, 1112, 1113, 1114, 1119] (fun _ _ => False) S0 S0 := zz_fr.refl
  refine zz_aload_n (x := 1079) rfl zd_14_91_0 ?_
  refine zz_iload_n (x := p0) rfl zd_14_91_1 ?_
  refine zz_if_eq (by omega) zd_14_91_2 (fun c1 => ?_) (fun c1 => ?_)
  · refine zz_aload_n (x := 1079) rfl zd_14_91_12 ?_
    have g2 := zz_G.r G_S0 1079 36 0 11 rfl rfl
    refine zz_geti (z := S0 1079 36) zd_14_91_13 zf_Md_85 zT_1079 rfl (zz_ltn hn rfl) rfl ?_
    refine zz_puti zd_14_91_16 zf_Md_515 zT_1079 rfl (zz_ltn hn rfl) (fun S3 qS3 => ?_)
    have G_S3 := zz_G.put G_S0 qS3 0 11 rfl (by omega)
    have F_S3 := zz_fr.puts F_S0 qS3 rfl
    refine zz_aload_n (x := 1079) rfl zd_14_91_19 ?_
    refine zz_aload_n (x := 1079) rfl zd_14_91_20 ?_
    refine zz_geti (z := S0 1079 36) zd_14_91_21 zf_Md_515 zT_1079 rfl (zz_ltn hn rfl) (zz_rs qS3) ?_
    refine zz_puti zd_14_91_24 zf_Md_85 zT_1079 rfl (zz_ltn hn rfl) (fun S4 qS4 => ?_)
    have G_S4 := zz_G.put G_S3 qS4 0 11 rfl (by omega)
    have F_S4 := zz_fr.puts F_S3 qS4 rfl
    refine zz_aload_n (x := 1079) rfl zd_14_91_27 ?_
    refine zz_aload_n (x := 1079) rfl zd_14_91_28 ?_
    refine zz_getr (kd := 0) (z := 1102) zd_14_91_29 zf_Md_88 zT_1079 rfl (zz_ltn hn rfl) (zz_G.eq G_S4 1079 37 1102 rfl rfl) (by decide) 1102 rfl ?_
    refine zz_bipush (by decide) zd_14_91_32 ?_
    refine zz_iconst zd_14_91_34 ?_
    refine zz_iload_n (x := p0) rfl zd_14_91_35 ?_
    refine zz_callVV [.ref 1102, zi 11, zi 0, zi p0] zd_14_91_36 zk_Md_518 zT_1079 (zz_ltn hn rfl) rfl rfl ⟨Nat.le_of_ble_eq_true rfl, Nat.le_of_ble_eq_true rfl⟩ ⟨rfl, rfl⟩ (Nat.zero_le _) (Nat.zero_le _) (zc_keepRow_14_92_1102_11_0 p0 S4 n hn G_S4 (by omega)) (fun S5 hP => ?_)
    obtain ⟨G_S5, fS5⟩ := hP
    have F_S5 := zz_fr.trans F_S4 fS5 rfl zz_nv
    refine zz_aload_n (x := 1079) rfl zd_14_91_39 ?_
    refine zz_aload_n (x := 1079) rfl zd_14_91_40 ?_
    refine zz_getr (kd := 0) (z := 1103) zd_14_91_41 zf_Md_91 zT_1079 rfl (zz_ltn hn rfl) (zz_G.eq G_S5 1079 38 1103 rfl rfl) (by decide) 1103 rfl ?_
    refine zz_bipush (by decide) zd_14_91_44 ?_
    refine zz_bipush (by decide) zd_14_91_46 ?_
    refine zz_iload_n (x := p0) rfl zd_14_91_48 ?_
    refine zz_callVV [.ref 1103, zi 11, zi 12, zi p0] zd_14_91_49 zk_Md_518 zT_1079 (zz_ltn hn rfl) rfl rfl ⟨Nat.le_of_ble_eq_true rfl, Nat.le_of_ble_eq_true rfl⟩ ⟨rfl, rfl⟩ (Nat.zero_le _) (Nat.zero_le _) (zc_keepRow_14_92_1103_11_12 p0 S5 n hn G_S5 (by omega)) (fun S7 hP => ?_)
    obtain ⟨G_S7, fS7⟩ := hP
    have F_S7 := zz_fr.trans F_S5 fS7 rfl zz_nv
    refine zz_aload_n (x := 1079) rfl zd_14_91_52 ?_
    refine zz_aload_n (x := 1079) rfl zd_14_91_53 ?_
    refine zz_getr (kd := 0) (z := 1104) zd_14_91_54 zf_Md_94 zT_1079 rfl (zz_ltn hn rfl) (zz_G.eq G_S7 1079 39 1104 rfl rfl) (by decide) 1104 rfl ?_
    refine zz_bipush (by decide) zd_14_91_57 ?_
    refine zz_bipush (by decide) zd_14_91_59 ?_
    refine zz_iload_n (x := p0) rfl zd_14_91_61 ?_
    refine zz_callVV [.ref 1104, zi 11, zi 24, zi p0] zd_14_91_62 zk_Md_518 zT_1079 (zz_ltn hn rfl) rfl rfl ⟨Nat.le_of_ble_eq_true rfl, Nat.le_of_ble_eq_true rfl⟩ ⟨rfl, rfl⟩ (Nat.zero_le _) (Nat.zero_le _) (zc_keepRow_14_92_1104_11_24 p0 S7 n hn G_S7 (by omega)) (fun S9 hP => ?_)
    obtain ⟨G_S9, fS9⟩ := hP
    have F_S9 := zz_fr.trans F_S7 fS9 rfl zz_nv
    refine zz_aload_n (x := 1079) rfl zd_14_91_65 ?_
    refine zz_aload_n (x := 1079) rfl zd_14_91_66 ?_
    refine zz_getr (kd := 0) (z := 1105) zd_14_91_67 zf_Md_97 zT_1079 rfl (zz_ltn hn rfl) (zz_G.eq G_S9 1079 40 1105 rfl rfl) (by decide) 1105 rfl ?_
    refine zz_bipush (by decide) zd_14_91_70 ?_
    refine zz_bipush (by decide) zd_14_91_72 ?_
    refine zz_iload_n (x := p0) rfl zd_14_91_74 ?_
    refine zz_callVV [.ref 1105, zi 12, zi 36, zi p0] zd_14_91_75 zk_Md_518 zT_1079 (zz_ltn hn rfl) rfl rfl ⟨Nat.le_of_ble_eq_true rfl, Nat.le_of_ble_eq_true rfl⟩ ⟨rfl, rfl⟩ (Nat.zero_le _) (Nat.zero_le _) (zc_keepRow_14_92_1105_12_36 p0 S9 n hn G_S9 (by omega)) (fun S11 hP => ?_)
    obtain ⟨G_S11, fS11⟩ := hP
    have F_S11 := zz_fr.trans F_S9 fS11 rfl zz_nv
    refine zz_aload_n (x := 1079) rfl zd_14_91_78 ?_
    refine zz_aload_n (x := 1079) rfl zd_14_91_79 ?_
    refine zz_getr (kd := 0) (z := 1106) zd_14_91_80 zf_Md_100 zT_1079 rfl (zz_ltn hn rfl) (zz_G.eq G_S11 1079 41 1106 rfl rfl) (by decide) 1106 rfl ?_
    refine zz_bipush (by decide) zd_14_91_83 ?_
    refine zz_bipush (by decide) zd_14_91_85 ?_
    refine zz_iload_n (x := p0) rfl zd_14_91_87 ?_
    refine zz_callVV [.ref 1106, zi 10, zi 48, zi p0] zd_14_91_88 zk_Md_518 zT_1079 (zz_ltn hn rfl) rfl rfl ⟨Nat.le_of_ble_eq_true rfl, Nat.le_of_ble_eq_true rfl⟩ ⟨rfl, rfl⟩ (Nat.zero_le _) (Nat.zero_le _) (zc_keepRow_14_92_1106_10_48 p0 S11 n hn G_S11 (by omega)) (fun S13 hP => ?_)
    obtain ⟨G_S13, fS13⟩ := hP
    have F_S13 := zz_fr.trans F_S11 fS13 rfl zz_nv
    refine zz_aload_n (x := 1079) rfl zd_14_91_91 ?_
    refine zz_aload_n (x := 1079) rfl zd_14_91_92 ?_
    refine zz_getr (kd := 0) (z := 1107) zd_14_91_93 zf_Md_103 zT_1079 rfl (zz_ltn hn rfl) (zz_G.eq G_S13 1079 42 1107 rfl rfl) (by decide) 1107 rfl ?_
    refine zz_bipush (by decide) zd_14_91_96 ?_
    refine zz_bipush (by decide) zd_14_91_98 ?_
    refine zz_iload_n (x := p0) rfl zd_14_91_100 ?_
    refine zz_callVV [.ref 1107, zi 10, zi 59, zi p0] zd_14_91_101 zk_Md_518 zT_1079 (zz_ltn hn rfl) rfl rfl ⟨Nat.le_of_ble_eq_true rfl, Nat.le_of_ble_eq_true rfl⟩ ⟨rfl, rfl⟩ (Nat.zero_le _) (Nat.zero_le _) (zc_keepRow_14_92_1107_10_59 p0 S13 n hn G_S13 (by omega)) (fun S15 hP => ?_)
    obtain ⟨G_S15, fS15⟩ := hP
    have F_S15 := zz_fr.trans F_S13 fS15 rfl zz_nv
    refine zz_aload_n (x := 1079) rfl zd_14_91_104 ?_
    refine zz_aload_n (x := 1079) rfl zd_14_91_105 ?_
    refine zz_getr (kd := 0) (z := 1108) zd_14_91_106 zf_Md_106 zT_1079 rfl (zz_ltn hn rfl) (zz_G.eq G_S15 1079 43 1108 rfl rfl) (by decide) 1108 rfl ?_
    refine zz_bipush (by decide) zd_14_91_109 ?_
    refine zz_bipush (by decide) zd_14_91_111 ?_
    refine zz_iload_n (x := p0) rfl zd_14_91_113 ?_
    refine zz_callVV [.ref 1108, zi 10, zi 70, zi p0] zd_14_91_114 zk_Md_518 zT_1079 (zz_ltn hn rfl) rfl rfl ⟨Nat.le_of_ble_eq_true rfl, Nat.le_of_ble_eq_true rfl⟩ ⟨rfl, rfl⟩ (Nat.zero_le _) (Nat.zero_le _) (zc_keepRow_14_92_1108_10_70 p0 S15 n hn G_S15 (by omega)) (fun S17 hP => ?_)
    obtain ⟨G_S17, fS17⟩ := hP
    have F_S17 := zz_fr.trans F_S15 fS17 rfl zz_nv
    refine zz_aload_n (x := 1079) rfl zd_14_91_117 ?_
    refine zz_aload_n (x := 1079) rfl zd_14_91_118 ?_
    refine zz_getr (kd := 0) (z := 1109) zd_14_91_119 zf_Md_109 zT_1079 rfl (zz_ltn hn rfl) (zz_G.eq G_S17 1079 44 1109 rfl rfl) (by decide) 1109 rfl ?_
    refine zz_bipush (by decide) zd_14_91_122 ?_
    refine zz_bipush (by decide) zd_14_91_124 ?_
    refine zz_iload_n (x := p0) rfl zd_14_91_126 ?_
    refine zz_callVV [.ref 1109, zi 10, zi 81, zi p0] zd_14_91_127 zk_Md_518 zT_1079 (zz_ltn hn rfl) rfl rfl ⟨Nat.le_of_ble_eq_true rfl, Nat.le_of_ble_eq_true rfl⟩ ⟨rfl, rfl⟩ (Nat.zero_le _) (Nat.zero_le _) (zc_keepRow_14_92_1109_10_81 p0 S17 n hn G_S17 (by omega)) (fun S19 hP => ?_)
    obtain ⟨G_S19, fS19⟩ := hP
    have F_S19 := zz_fr.trans F_S17 fS19 rfl zz_nv
    refine zz_aload_n (x := 1079) rfl zd_14_91_130 ?_
    refine zz_aload_n (x := 1079) rfl zd_14_91_131 ?_
    refine zz_getr (kd := 0) (z := 1110) zd_14_91_132 zf_Md_112 zT_1079 rfl (zz_ltn hn rfl) (zz_G.eq G_S19 1079 45 1110 rfl rfl) (by decide) 1110 rfl ?_
    refine zz_bipush (by decide) zd_14_91_135 ?_
    refine zz_bipush (by decide) zd_14_91_137 ?_
    refine zz_iload_n (x := p0) rfl zd_14_91_139 ?_
    refine zz_callVV [.ref 1110, zi 10, zi 92, zi p0] zd_14_91_140 zk_Md_518 zT_1079 (zz_ltn hn rfl) rfl rfl ⟨Nat.le_of_ble_eq_true rfl, Nat.le_of_ble_eq_true rfl⟩ ⟨rfl, rfl⟩ (Nat.zero_le _) (Nat.zero_le _) (zc_keepRow_14_92_1110_10_92 p0 S19 n hn G_S19 (by omega)) (fun S21 hP => ?_)
    obtain ⟨G_S21, fS21⟩ := hP
    have F_S21 := zz_fr.trans F_S19 fS21 rfl zz_nv
    refine zz_aload_n (x := 1079) rfl zd_14_91_143 ?_
    refine zz_aload_n (x := 1079) rfl zd_14_91_144 ?_
    refine zz_getr (kd := 0) (z := 1111) zd_14_91_145 zf_Md_115 zT_1079 rfl (zz_ltn hn rfl) (zz_G.eq G_S21 1079 46 1111 rfl rfl) (by decide) 1111 rfl ?_
    refine zz_bipush (by decide) zd_14_91_148 ?_
    refine zz_bipush (by decide) zd_14_91_150 ?_
    refine zz_iload_n (x := p0) rfl zd_14_91_152 ?_
    refine zz_callVV [.ref 1111, zi 10, zi 103, zi p0] zd_14_91_153 zk_Md_518 zT_1079 (zz_ltn hn rfl) rfl rfl ⟨Nat.le_of_ble_eq_true rfl, Nat.le_of_ble_eq_true rfl⟩ ⟨rfl, rfl⟩ (Nat.zero_le _) (Nat.zero_le _) (zc_keepRow_14_92_1111_10_103 p0 S21 n hn G_S21 (by omega)) (fun S23 hP => ?_)
    obtain ⟨G_S23, fS23⟩ := hP
    have F_S23 := zz_fr.trans F_S21 fS23 rfl zz_nv
    refine zz_aload_n (x := 1079) rfl zd_14_91_156 ?_
    refine zz_aload_n (x := 1079) rfl zd_14_91_157 ?_
    refine zz_getr (kd := 0) (z := 1112) zd_14_91_158 zf_Md_118 zT_1079 rfl (zz_ltn hn rfl) (zz_G.eq G_S23 1079 47 1112 rfl rfl) (by decide) 1112 rfl ?_
    refine zz_bipush (by decide) zd_14_91_161 ?_
    refine zz_bipush (by decide) zd_14_91_163 ?_
    refine zz_iload_n (x := p0) rfl zd_14_91_165 ?_
    refine zz_callVV [.ref 1112, zi 10, zi 114, zi p0] zd_14_91_166 zk_Md_518 zT_1079 (zz_ltn hn rfl) rfl rfl ⟨Nat.le_of_ble_eq_true rfl, Nat.le_of_ble_eq_true rfl⟩ ⟨rfl, rfl⟩ (Nat.zero_le _) (Nat.zero_le _) (zc_keepRow_14_92_1112_10_114 p0 S23 n hn G_S23 (by omega)) (fun S25 hP => ?_)
    obtain ⟨G_S25, fS25⟩ := hP
    have F_S25 := zz_fr.trans F_S23 fS25 rfl zz_nv
    refine zz_aload_n (x := 1079) rfl zd_14_91_169 ?_
    refine zz_aload_n (x := 1079) rfl zd_14_91_170 ?_
    refine zz_getr (kd := 0) (z := 1113) zd_14_91_171 zf_Md_121 zT_1079 rfl (zz_ltn hn rfl) (zz_G.eq G_S25 1079 48 1113 rfl rfl) (by decide) 1113 rfl ?_
    refine zz_bipush (by decide) zd_14_91_174 ?_
    refine zz_bipush (by decide) zd_14_91_176 ?_
    refine zz_iload_n (x := p0) rfl zd_14_91_178 ?_
    refine zz_callVV [.ref 1113, zi 10, zi 125, zi p0] zd_14_91_179 zk_Md_518 zT_1079 (zz_ltn hn rfl) rfl rfl ⟨Nat.le_of_ble_eq_true rfl, Nat.le_of_ble_eq_true rfl⟩ ⟨rfl, rfl⟩ (Nat.zero_le _) (Nat.zero_le _) (zc_keepRow_14_92_1113_10_125 p0 S25 n hn G_S25 (by omega)) (fun S27 hP => ?_)
    obtain ⟨G_S27, fS27⟩ := hP
    have F_S27 := zz_fr.trans F_S25 fS27 rfl zz_nv
    refine zz_aload_n (x := 1079) rfl zd_14_91_182 ?_
    refine zz_aload_n (x := 1079) rfl zd_14_91_183 ?_
    refine zz_getr (kd := 0) (z := 1114) zd_14_91_184 zf_Md_124 zT_1079 rfl (zz_ltn hn rfl) (zz_G.eq G_S27 1079 49 1114 rfl rfl) (by decide) 1114 rfl ?_
    refine zz_bipush (by decide) zd_14_91_187 ?_
    refine zz_sipush (by decide) zd_14_91_189 ?_
    refine zz_iload_n (x := p0) rfl zd_14_91_192 ?_
    refine zz_callVV [.ref 1114, zi 10, zi 136, zi p0] zd_14_91_193 zk_Md_518 zT_1079 (zz_ltn hn rfl) rfl rfl ⟨Nat.le_of_ble_eq_true rfl, Nat.le_of_ble_eq_true rfl⟩ ⟨rfl, rfl⟩ (Nat.zero_le _) (Nat.zero_le _) (zc_keepRow_14_92_1114_10_136 p0 S27 n hn G_S27 (by omega)) (fun S29 hP => ?_)
    obtain ⟨G_S29, fS29⟩ := hP
    have F_S29 := zz_fr.trans F_S27 fS29 rfl zz_nv
    exact zz_vret zd_14_91_196 rfl (Nat.zero_le _) (Nat.zero_le _) ⟨_, rfl, G_S29, F_S29⟩
  · refine zz_aload_n (x := 1079) rfl zd_14_91_5 ?_
    have g31 := zz_G.r G_S0 1079 66 0 11 rfl rfl
    refine zz_geti (z := S0 1079 66) zd_14_91_6 zf_Md_515 zT_1079 rfl (zz_ltn hn rfl) rfl ?_
    refine zz_goto zd_14_91_9 ?_
    refine zz_puti zd_14_91_16 zf_Md_515 zT_1079 rfl (zz_ltn hn rfl) (fun S32 qS32 => ?_)
    have G_S32 := zz_G.put G_S0 qS32 0 11 rfl (by omega)
    have F_S32 := zz_fr.puts F_S0 qS32 rfl
    refine zz_aload_n (x := 1079) rfl zd_14_91_19 ?_
    refine zz_aload_n (x := 1079) rfl zd_14_91_20 ?_
    refine zz_geti (z := S0 1079 66) zd_14_91_21 zf_Md_515 zT_1079 rfl (zz_ltn hn rfl) (zz_rs qS32) ?_
    refine zz_puti zd_14_91_24 zf_Md_85 zT_1079 rfl (zz_ltn hn rfl) (fun S33 qS33 => ?_)
    have G_S33 := zz_G.put G_S32 qS33 0 11 rfl (by omega)
    have F_S33 := zz_fr.puts F_S32 qS33 rfl
    refine zz_aload_n (x := 1079) rfl zd_14_91_27 ?_
    refine zz_aload_n (x := 1079) rfl zd_14_91_28 ?_
    refine zz_getr (kd := 0) (z := 1102) zd_14_91_29 zf_Md_88 zT_1079 rfl (zz_ltn hn rfl) (zz_G.eq G_S33 1079 37 1102 rfl rfl) (by decide) 1102 rfl ?_
    refine zz_bipush (by decide) zd_14_91_32 ?_
    refine zz_iconst zd_14_91_34 ?_
    refine zz_iload_n (x := p0) rfl zd_14_91_35 ?_
    refine zz_callVV [.ref 1102, zi 11, zi 0, zi p0] zd_14_91_36 zk_Md_518 zT_1079 (zz_ltn hn rfl) rfl rfl ⟨Nat.le_of_ble_eq_true rfl, Nat.le_of_ble_eq_true rfl⟩ ⟨rfl, rfl⟩ (Nat.zero_le _) (Nat.zero_le _) (zc_keepRow_14_92_1102_11_0 p0 S33 n hn G_S33 (by omega)) (fun S34 hP => ?_)
    obtain ⟨G_S34, fS34⟩ := hP
    have F_S34 := zz_fr.trans F_S33 fS34 rfl zz_nv
    refine zz_aload_n (x := 1079) rfl zd_14_91_39 ?_
    refine zz_aload_n (x := 1079) rfl zd_14_91_40 ?_
    refine zz_getr (kd := 0) (z := 1103) zd_14_91_41 zf_Md_91 zT_1079 rfl (zz_ltn hn rfl) (zz_G.eq G_S34 1079 38 1103 rfl rfl) (by decide) 1103 rfl ?_
    refine zz_bipush (by decide) zd_14_91_44 ?_
    refine zz_bipush (by decide) zd_14_91_46 ?_
    refine zz_iload_n (x := p0) rfl zd_14_91_48 ?_
    refine zz_callVV [.ref 1103, zi 11, zi 12, zi p0] zd_14_91_49 zk_Md_518 zT_1079 (zz_ltn hn rfl) rfl rfl ⟨Nat.le_of_ble_eq_true rfl, Nat.le_of_ble_eq_true rfl⟩ ⟨rfl, rfl⟩ (Nat.zero_le _) (Nat.zero_le _) (zc_keepRow_14_92_1103_11_12 p0 S34 n hn G_S34 (by omega)) (fun S36 hP => ?_)
    obtain ⟨G_S36, fS36⟩ := hP
    have F_S36 := zz_fr.trans F_S34 fS36 rfl zz_nv
    refine zz_aload_n (x := 1079) rfl zd_14_91_52 ?_
    refine zz_aload_n (x := 1079) rfl zd_14_91_53 ?_
    refine zz_getr (kd := 0) (z := 1104) zd_14_91_54 zf_Md_94 zT_1079 rfl (zz_ltn hn rfl) (zz_G.eq G_S36 1079 39 1104 rfl rfl) (by decide) 1104 rfl ?_
    refine zz_bipush (by decide) zd_14_91_57 ?_
    refine zz_bipush (by decide) zd_14_91_59 ?_
    refine zz_iload_n (x := p0) rfl zd_14_91_61 ?_
    refine zz_callVV [.ref 1104, zi 11, zi 24, zi p0] zd_14_91_62 zk_Md_518 zT_1079 (zz_ltn hn rfl) rfl rfl ⟨Nat.le_of_ble_eq_true rfl, Nat.le_of_ble_eq_true rfl⟩ ⟨rfl, rfl⟩ (Nat.zero_le _) (Nat.zero_le _) (zc_keepRow_14_92_1104_11_24 p0 S36 n hn G_S36 (by omega)) (fun S38 hP => ?_)
    obtain ⟨G_S38, fS38⟩ := hP
    have F_S38 := zz_fr.trans F_S36 fS38 rfl zz_nv
    refine zz_aload_n (x := 1079) rfl zd_14_91_65 ?_
    refine zz_aload_n (x := 1079) rfl zd_14_91_66 ?_
    refine zz_getr (kd := 0) (z := 1105) zd_14_91_67 zf_Md_97 zT_1079 rfl (zz_ltn hn rfl) (zz_G.eq G_S38 1079 40 1105 rfl rfl) (by decide) 1105 rfl ?_
    refine zz_bipush (by decide) zd_14_91_70 ?_
    refine zz_bipush (by decide) zd_14_91_72 ?_
    refine zz_iload_n (x := p0) rfl zd_14_91_74 ?_
    refine zz_callVV [.ref 1105, zi 12, zi 36, zi p0] zd_14_91_75 zk_Md_518 zT_1079 (zz_ltn hn rfl) rfl rfl ⟨Nat.le_of_ble_eq_true rfl, Nat.le_of_ble_eq_true rfl⟩ ⟨rfl, rfl⟩ (Nat.zero_le _) (Nat.zero_le _) (zc_keepRow_14_92_1105_12_36 p0 S38 n hn G_S38 (by omega)) (fun S40 hP => ?_)
    obtain ⟨G_S40, fS40⟩ := hP
    have F_S40 := zz_fr.trans F_S38 fS40 rfl zz_nv
    refine zz_aload_n (x := 1079) rfl zd_14_91_78 ?_
    refine zz_aload_n (x := 1079) rfl zd_14_91_79 ?_
    refine zz_getr (kd := 0) (z := 1106) zd_14_91_80 zf_Md_100 zT_1079 rfl (zz_ltn hn rfl) (zz_G.eq G_S40 1079 41 1106 rfl rfl) (by decide) 1106 rfl ?_
    refine zz_bipush (by decide) zd_14_91_83 ?_
    refine zz_bipush (by decide) zd_14_91_85 ?_
    refine zz_iload_n (x := p0) rfl zd_14_91_87 ?_
    refine zz_callVV [.ref 1106, zi 10, zi 48, zi p0] zd_14_91_88 zk_Md_518 zT_1079 (zz_ltn hn rfl) rfl rfl ⟨Nat.le_of_ble_eq_true rfl, Nat.le_of_ble_eq_true rfl⟩ ⟨rfl, rfl⟩ (Nat.zero_le _) (Nat.zero_le _) (zc_keepRow_14_92_1106_10_48 p0 S40 n hn G_S40 (by omega)) (fun S42 hP => ?_)
    obtain ⟨G_S42, fS42⟩ := hP
    have F_S42 := zz_fr.trans F_S40 fS42 rfl zz_nv
    refine zz_aload_n (x := 1079) rfl zd_14_91_91 ?_
    refine zz_aload_n (x := 1079) rfl zd_14_91_92 ?_
    refine zz_getr (kd := 0) (z := 1107) zd_14_91_93 zf_Md_103 zT_1079 rfl (zz_ltn hn rfl) (zz_G.eq G_S42 1079 42 1107 rfl rfl) (by decide) 1107 rfl ?_
    refine zz_bipush (by decide) zd_14_91_96 ?_
    refine zz_bipush (by decide) zd_14_91_98 ?_
    refine zz_iload_n (x := p0) rfl zd_14_91_100 ?_
    refine zz_callVV [.ref 1107, zi 10, zi 59, zi p0] zd_14_91_101 zk_Md_518 zT_1079 (zz_ltn hn rfl) rfl rfl ⟨Nat.le_of_ble_eq_true rfl, Nat.le_of_ble_eq_true rfl⟩ ⟨rfl, rfl⟩ (Nat.zero_le _) (Nat.zero_le _) (zc_keepRow_14_92_1107_10_59 p0 S42 n hn G_S42 (by omega)) (fun S44 hP => ?_)
    obtain ⟨G_S44, fS44⟩ := hP
    have F_S44 := zz_fr.trans F_S42 fS44 rfl zz_nv
    refine zz_aload_n (x := 1079) rfl zd_14_91_104 ?_
    refine zz_aload_n (x := 1079) rfl zd_14_91_105 ?_
    refine zz_getr (kd := 0) (z := 1108) zd_14_91_106 zf_Md_106 zT_1079 rfl (zz_ltn hn rfl) (zz_G.eq G_S44 1079 43 1108 rfl rfl) (by decide) 1108 rfl ?_
    refine zz_bipush (by decide) zd_14_91_109 ?_
    refine zz_bipush (by decide) zd_14_91_111 ?_
    refine zz_iload_n (x := p0) rfl zd_14_91_113 ?_
    refine zz_callVV [.ref 1108, zi 10, zi 70, zi p0] zd_14_91_114 zk_Md_518 zT_1079 (zz_ltn hn rfl) rfl rfl ⟨Nat.le_of_ble_eq_true rfl, Nat.le_of_ble_eq_true rfl⟩ ⟨rfl, rfl⟩ (Nat.zero_le _) (Nat.zero_le _) (zc_keepRow_14_92_1108_10_70 p0 S44 n hn G_S44 (by omega)) (fun S46 hP => ?_)
    obtain ⟨G_S46, fS46⟩ := hP
    have F_S46 := zz_fr.trans F_S44 fS46 rfl zz_nv
    refine zz_aload_n (x := 1079) rfl zd_14_91_117 ?_
    refine zz_aload_n (x := 1079) rfl zd_14_91_118 ?_
    refine zz_getr (kd := 0) (z := 1109) zd_14_91_119 zf_Md_109 zT_1079 rfl (zz_ltn hn rfl) (zz_G.eq G_S46 1079 44 1109 rfl rfl) (by decide) 1109 rfl ?_
    refine zz_bipush (by decide) zd_14_91_122 ?_
    refine zz_bipush (by decide) zd_14_91_124 ?_
    refine zz_iload_n (x := p0) rfl zd_14_91_126 ?_
    refine zz_callVV [.ref 1109, zi 10, zi 81, zi p0] zd_14_91_127 zk_Md_518 zT_1079 (zz_ltn hn rfl) rfl rfl ⟨Nat.le_of_ble_eq_true rfl, Nat.le_of_ble_eq_true rfl⟩ ⟨rfl, rfl⟩ (Nat.zero_le _) (Nat.zero_le _) (zc_keepRow_14_92_1109_10_81 p0 S46 n hn G_S46 (by omega)) (fun S48 hP => ?_)
    obtain ⟨G_S48, fS48⟩ := hP
    have F_S48 := zz_fr.trans F_S46 fS48 rfl zz_nv
    refine zz_aload_n (x := 1079) rfl zd_14_91_130 ?_
    refine zz_aload_n (x := 1079) rfl zd_14_91_131 ?_
    refine zz_getr (kd := 0) (z := 1110) zd_14_91_132 zf_Md_112 zT_1079 rfl (zz_ltn hn rfl) (zz_G.eq G_S48 1079 45 1110 rfl rfl) (by decide) 1110 rfl ?_
    refine zz_bipush (by decide) zd_14_91_135 ?_
    refine zz_bipush (by decide) zd_14_91_137 ?_
    refine zz_iload_n (x := p0) rfl zd_14_91_139 ?_
    refine zz_callVV [.ref 1110, zi 10, zi 92, zi p0] zd_14_91_140 zk_Md_518 zT_1079 (zz_ltn hn rfl) rfl rfl ⟨Nat.le_of_ble_eq_true rfl, Nat.le_of_ble_eq_true rfl⟩ ⟨rfl, rfl⟩ (Nat.zero_le _) (Nat.zero_le _) (zc_keepRow_14_92_1110_10_92 p0 S48 n hn G_S48 (by omega)) (fun S50 hP => ?_)
    obtain ⟨G_S50, fS50⟩ := hP
    have F_S50 := zz_fr.trans F_S48 fS50 rfl zz_nv
    refine zz_aload_n (x := 1079) rfl zd_14_91_143 ?_
    refine zz_aload_n (x := 1079) rfl zd_14_91_144 ?_
    refine zz_getr (kd := 0) (z := 1111) zd_14_91_145 zf_Md_115 zT_1079 rfl (zz_ltn hn rfl) (zz_G.eq G_S50 1079 46 1111 rfl rfl) (by decide) 1111 rfl ?_
    refine zz_bipush (by decide) zd_14_91_148 ?_
    refine zz_bipush (by decide) zd_14_91_150 ?_
    refine zz_iload_n (x := p0) rfl zd_14_91_152 ?_
    refine zz_callVV [.ref 1111, zi 10, zi 103, zi p0] zd_14_91_153 zk_Md_518 zT_1079 (zz_ltn hn rfl) rfl rfl ⟨Nat.le_of_ble_eq_true rfl, Nat.le_of_ble_eq_true rfl⟩ ⟨rfl, rfl⟩ (Nat.zero_le _) (Nat.zero_le _) (zc_keepRow_14_92_1111_10_103 p0 S50 n hn G_S50 (by omega)) (fun S52 hP => ?_)
    obtain ⟨G_S52, fS52⟩ := hP
    have F_S52 := zz_fr.trans F_S50 fS52 rfl zz_nv
    refine zz_aload_n (x := 1079) rfl zd_14_91_156 ?_
    refine zz_aload_n (x := 1079) rfl zd_14_91_157 ?_
    refine zz_getr (kd := 0) (z := 1112) zd_14_91_158 zf_Md_118 zT_1079 rfl (zz_ltn hn rfl) (zz_G.eq G_S52 1079 47 1112 rfl rfl) (by decide) 1112 rfl ?_
    refine zz_bipush (by decide) zd_14_91_161 ?_
    refine zz_bipush (by decide) zd_14_91_163 ?_
    refine zz_iload_n (x := p0) rfl zd_14_91_165 ?_
    refine zz_callVV [.ref 1112, zi 10, zi 114, zi p0] zd_14_91_166 zk_Md_518 zT_1079 (zz_ltn hn rfl) rfl rfl ⟨Nat.le_of_ble_eq_true rfl, Nat.le_of_ble_eq_true rfl⟩ ⟨rfl, rfl⟩ (Nat.zero_le _) (Nat.zero_le _) (zc_keepRow_14_92_1112_10_114 p0 S52 n hn G_S52 (by omega)) (fun S54 hP => ?_)
    obtain ⟨G_S54, fS54⟩ := hP
    have F_S54 := zz_fr.trans F_S52 fS54 rfl zz_nv
    refine zz_aload_n (x := 1079) rfl zd_14_91_169 ?_
    refine zz_aload_n (x := 1079) rfl zd_14_91_170 ?_
    refine zz_getr (kd := 0) (z := 1113) zd_14_91_171 zf_Md_121 zT_1079 rfl (zz_ltn hn rfl) (zz_G.eq G_S54 1079 48 1113 rfl rfl) (by decide) 1113 rfl ?_
    refine zz_bipush (by decide) zd_14_91_174 ?_
    refine zz_bipush (by decide) zd_14_91_176 ?_
    refine zz_iload_n (x := p0) rfl zd_14_91_178 ?_
    refine zz_callVV [.ref 1113, zi 10, zi 125, zi p0] zd_14_91_179 zk_Md_518 zT_1079 (zz_ltn hn rfl) rfl rfl ⟨Nat.le_of_ble_eq_true rfl, Nat.le_of_ble_eq_true rfl⟩ ⟨rfl, rfl⟩ (Nat.zero_le _) (Nat.zero_le _) (zc_keepRow_14_92_1113_10_125 p0 S54 n hn G_S54 (by omega)) (fun S56 hP => ?_)
    obtain ⟨G_S56, fS56⟩ := hP
    have F_S56 := zz_fr.trans F_S54 fS56 rfl zz_nv
    refine zz_aload_n (x := 1079) rfl zd_14_91_182 ?_
    refine zz_aload_n (x := 1079) rfl zd_14_91_183 ?_
    refine zz_getr (kd := 0) (z := 1114) zd_14_91_184 zf_Md_124 zT_1079 rfl (zz_ltn hn rfl) (zz_G.eq G_S56 1079 49 1114 rfl rfl) (by decide) 1114 rfl ?_
    refine zz_bipush (by decide) zd_14_91_187 ?_
    refine zz_sipush (by decide) zd_14_91_189 ?_
    refine zz_iload_n (x := p0) rfl zd_14_91_192 ?_
    refine zz_callVV [.ref 1114, zi 10, zi 136, zi p0] zd_14_91_193 zk_Md_518 zT_1079 (zz_ltn hn rfl) rfl rfl ⟨Nat.le_of_ble_eq_true rfl, Nat.le_of_ble_eq_true rfl⟩ ⟨rfl, rfl⟩ (Nat.zero_le _) (Nat.zero_le _) (zc_keepRow_14_92_1114_10_136 p0 S56 n hn G_S56 (by omega)) (fun S58 hP => ?_)
    obtain ⟨G_S58, fS58⟩ := hP
    have F_S58 := zz_fr.trans F_S56 fS58 rfl zz_nv
    exact zz_vret zd_14_91_196 rfl (Nat.zero_le _) (Nat.zero_le _) ⟨_, rfl, G_S58, F_S58⟩
abbrev zy_advanceNet_14_93 : mm_Y := (⟨"TensorForgeModel", "advanceNet", "()V"⟩, prog_14_method_93_code, 2, none)
theorem zyw_advanceNet_14_93 : mm_Yw zy_advanceNet_14_93 0 := ⟨mm_tb_1 2199 (by decide +kernel) rfl, mm_tb_1 12 (by decide +kernel) rfl, ⟨by decide, by decide⟩, by decide +kernel⟩
theorem zd_14_93_0 : zz_D zy_advanceNet_14_93 0 (.aload_n 0) 1 1 := ⟨by decide +kernel, rfl⟩
theorem zd_14_93_1 : zz_D zy_advanceNet_14_93 1 (.getfield 334) 3 4 := ⟨by decide +kernel, rfl⟩
theorem zd_14_93_4 : zz_D zy_advanceNet_14_93 4 (.aload_n 0) 1 5 := ⟨by decide +kernel, rfl⟩
theorem zd_14_93_5 : zz_D zy_advanceNet_14_93 5 (.getfield 337) 3 8 := ⟨by decide +kernel, rfl⟩
theorem zd_14_93_8 : zz_B zy_advanceNet_14_93 8 (Instr.if_icmp .ge) 38 11 := ⟨30, by decide +kernel, rfl, rfl⟩
theorem zd_14_93_38 : zz_D zy_advanceNet_14_93 38 (.aload_n 0) 1 39 := ⟨by decide +kernel, rfl⟩
theorem zd_14_93_39 : zz_D zy_advanceNet_14_93 39 (.getfield 334) 3 42 := ⟨by decide +kernel, rfl⟩
theorem zd_14_93_42 : zz_D zy_advanceNet_14_93 42 (.istore_n 1) 1 43 := ⟨by decide +kernel, rfl⟩
theorem zd_14_93_43 : zz_D zy_advanceNet_14_93 43 (.aload_n 0) 1 44 := ⟨by decide +kernel, rfl⟩
theorem zd_14_93_44 : zz_D zy_advanceNet_14_93 44 (.getfield 334) 3 47 := ⟨by decide +kernel, rfl⟩
theorem zd_14_93_47 : zz_D zy_advanceNet_14_93 47 (.aload_n 0) 1 48 := ⟨by decide +kernel, rfl⟩
theorem zd_14_93_48 : zz_D zy_advanceNet_14_93 48 (.getfield 337) 3 51 := ⟨by decide +kernel, rfl⟩
theorem zd_14_93_51 : zz_B zy_advanceNet_14_93 51 (Instr.if_icmp .ge) 199 54 := ⟨148, by decide +kernel, rfl, rfl⟩
theorem zd_14_93_199 : zz_D zy_advanceNet_14_93 199 (.aload_n 0) 1 200 := ⟨by decide +kernel, rfl⟩
theorem zd_14_93_200 : zz_D zy_advanceNet_14_93 200 (.invokevirtual 359) 3 203 := ⟨by decide +kernel, rfl⟩
theorem zd_14_93_203 : zz_D zy_advanceNet_14_93 203 (.return_) 1 204 := ⟨by decide +kernel, rfl⟩
theorem zd_14_93_54 : zz_D zy_advanceNet_14_93 54 (.aload_n 0) 1 55 := ⟨by decide +kernel, rfl⟩
theorem zd_14_93_55 : zz_D zy_advanceNet_14_93 55 (.getfield 76) 3 58 := ⟨by decide +kernel, rfl⟩
theorem zd_14_93_58 : zz_D zy_advanceNet_14_93 58 (.aload_n 0) 1 59 := ⟨by decide +kernel, rfl⟩
theorem zd_14_93_59 : zz_D zy_advanceNet_14_93 59 (.getfield 334) 3 62 := ⟨by decide +kernel, rfl⟩
theorem zd_14_93_62 : zz_D zy_advanceNet_14_93 62 (.iaload) 1 63 := ⟨by decide +kernel, rfl⟩
theorem zd_14_93_63 : zz_D zy_advanceNet_14_93 63 (.i2l) 1 64 := ⟨by decide +kernel, rfl⟩
theorem zd_14_93_64 : zz_D zy_advanceNet_14_93 64 (.ldc2_w 340) 3 67 := ⟨by decide +kernel, rfl⟩
theorem zd_14_93_67 : zz_D zy_advanceNet_14_93 67 (.ldc2_w 342) 3 70 := ⟨by decide +kernel, rfl⟩
theorem zd_14_93_70 : zz_D zy_advanceNet_14_93 70 (.invokestatic 192) 3 73 := ⟨by decide +kernel, rfl⟩
theorem zd_14_93_73 : zz_B zy_advanceNet_14_93 73 (Instr.ifCond .eq) 199 76 := ⟨126, by decide +kernel, rfl, rfl⟩
theorem zd_14_93_76 : zz_D zy_advanceNet_14_93 76 (.aload_n 0) 1 77 := ⟨by decide +kernel, rfl⟩
theorem zd_14_93_77 : zz_D zy_advanceNet_14_93 77 (.lconst 0) 1 78 := ⟨by decide +kernel, rfl⟩
theorem zd_14_93_78 : zz_D zy_advanceNet_14_93 78 (.putfield 522) 3 81 := ⟨by decide +kernel, rfl⟩
theorem zf_Md_522 : mm_Fl "TensorForgeModel" 522 11 61 .long false := ⟨R_Md, F_Md, 69, t_Md, rfl, i_Md, by decide, mm_tb_1 1672 (by decide +kernel) rfl, rfl, t_Md_ok, n_Md, rfl, by decide +kernel⟩
theorem zd_14_93_11 : zz_D zy_advanceNet_14_93 11 (.aload_n 0) 1 12 := ⟨by decide +kernel, rfl⟩
theorem zd_14_93_12 : zz_D zy_advanceNet_14_93 12 (.getfield 76) 3 15 := ⟨by decide +kernel, rfl⟩
theorem zd_14_93_15 : zz_D zy_advanceNet_14_93 15 (.aload_n 0) 1 16 := ⟨by decide +kernel, rfl⟩
theorem zd_14_93_16 : zz_D zy_advanceNet_14_93 16 (.getfield 334) 3 19 := ⟨by decide +kernel, rfl⟩
theorem zd_14_93_19 : zz_D zy_advanceNet_14_93 19 (.iaload) 1 20 := ⟨by decide +kernel, rfl⟩
theorem zd_14_93_20 : zz_D zy_advanceNet_14_93 20 (.bipush 32) 2 22 := ⟨by decide +kernel, rfl⟩
theorem zd_14_93_22 : zz_B zy_advanceNet_14_93 22 (Instr.if_icmp .ne) 38 25 := ⟨16, by decide +kernel, rfl, rfl⟩
theorem zd_14_93_25 : zz_D zy_advanceNet_14_93 25 (.aload_n 0) 1 26 := ⟨by decide +kernel, rfl⟩
theorem zd_14_93_26 : zz_D zy_advanceNet_14_93 26 (.dup) 1 27 := ⟨by decide +kernel, rfl⟩
theorem zd_14_93_27 : zz_D zy_advanceNet_14_93 27 (.getfield 334) 3 30 := ⟨by decide +kernel, rfl⟩
theorem zd_14_93_30 : zz_D zy_advanceNet_14_93 30 (.iconst 1) 1 31 := ⟨by decide +kernel, rfl⟩
theorem zd_14_93_31 : zz_D zy_advanceNet_14_93 31 (.iadd) 1 32 := ⟨by decide +kernel, rfl⟩
theorem zd_14_93_32 : zz_D zy_advanceNet_14_93 32 (.putfield 334) 3 35 := ⟨by decide +kernel, rfl⟩
theorem zd_14_93_35 : zz_B zy_advanceNet_14_93 35 Instr.goto 0 38 := ⟨(-35), by decide +kernel, rfl, rfl⟩
theorem zd_14_93_81 : zz_D zy_advanceNet_14_93 81 (.aload_n 0) 1 82 := ⟨by decide +kernel, rfl⟩
theorem zd_14_93_82 : zz_D zy_advanceNet_14_93 82 (.getfield 334) 3 85 := ⟨by decide +kernel, rfl⟩
theorem zd_14_93_85 : zz_D zy_advanceNet_14_93 85 (.aload_n 0) 1 86 := ⟨by decide +kernel, rfl⟩
theorem zd_14_93_86 : zz_D zy_advanceNet_14_93 86 (.getfield 337) 3 89 := ⟨by decide +kernel, rfl⟩
theorem zd_14_93_89 : zz_B zy_advanceNet_14_93 89 (Instr.if_icmp .ge) 176 92 := ⟨87, by decide +kernel, rfl, rfl⟩
theorem zd_14_93_176 : zz_D zy_advanceNet_14_93 176 (.aload_n 0) 1 177 := ⟨by decide +kernel, rfl⟩
theorem zd_14_93_177 : zz_D zy_advanceNet_14_93 177 (.aload_n 0) 1 178 := ⟨by decide +kernel, rfl⟩
theorem zd_14_93_178 : zz_D zy_advanceNet_14_93 178 (.getfield 334) 3 181 := ⟨by decide +kernel, rfl⟩
theorem zd_14_93_181 : zz_D zy_advanceNet_14_93 181 (.iload_n 1) 1 182 := ⟨by decide +kernel, rfl⟩
theorem zd_14_93_182 : zz_D zy_advanceNet_14_93 182 (.isub) 1 183 := ⟨by decide +kernel, rfl⟩
theorem zd_14_93_183 : zz_D zy_advanceNet_14_93 183 (.bipush 8) 2 185 := ⟨by decide +kernel, rfl⟩
theorem zd_14_93_185 : zz_B zy_advanceNet_14_93 185 (Instr.if_icmp .le) 193 188 := ⟨8, by decide +kernel, rfl, rfl⟩
theorem zd_14_93_193 : zz_D zy_advanceNet_14_93 193 (.bipush 102) 2 195 := ⟨by decide +kernel, rfl⟩
theorem zd_14_93_195 : zz_D zy_advanceNet_14_93 195 (.putfield 347) 3 198 := ⟨by decide +kernel, rfl⟩
theorem zd_14_93_198 : zz_D zy_advanceNet_14_93 198 (.return_) 1 199 := ⟨by decide +kernel, rfl⟩
theorem zd_14_93_188 : zz_D zy_advanceNet_14_93 188 (.bipush 101) 2 190 := ⟨by decide +kernel, rfl⟩
theorem zd_14_93_190 : zz_B zy_advanceNet_14_93 190 Instr.goto 195 193 := ⟨5, by decide +kernel, rfl, rfl⟩
theorem zd_14_93_92 : zz_D zy_advanceNet_14_93 92 (.aload_n 0) 1 93 := ⟨by decide +kernel, rfl⟩
theorem zd_14_93_93 : zz_D zy_advanceNet_14_93 93 (.getfield 76) 3 96 := ⟨by decide +kernel, rfl⟩
theorem zd_14_93_96 : zz_D zy_advanceNet_14_93 96 (.aload_n 0) 1 97 := ⟨by decide +kernel, rfl⟩
theorem zd_14_93_97 : zz_D zy_advanceNet_14_93 97 (.getfield 334) 3 100 := ⟨by decide +kernel, rfl⟩
theorem zd_14_93_100 : zz_D zy_advanceNet_14_93 100 (.iaload) 1 101 := ⟨by decide +kernel, rfl⟩
theorem zd_14_93_101 : zz_D zy_advanceNet_14_93 101 (.i2l) 1 102 := ⟨by decide +kernel, rfl⟩
theorem zd_14_93_102 : zz_D zy_advanceNet_14_93 102 (.ldc2_w 340) 3 105 := ⟨by decide +kernel, rfl⟩
theorem zd_14_93_105 : zz_D zy_advanceNet_14_93 105 (.ldc2_w 342) 3 108 := ⟨by decide +kernel, rfl⟩
theorem zd_14_93_108 : zz_D zy_advanceNet_14_93 108 (.invokestatic 192) 3 111 := ⟨by decide +kernel, rfl⟩
theorem zd_14_93_111 : zz_B zy_advanceNet_14_93 111 (Instr.ifCond .eq) 176 114 := ⟨65, by decide +kernel, rfl, rfl⟩
theorem zd_14_93_114 : zz_D zy_advanceNet_14_93 114 (.aload_n 0) 1 115 := ⟨by decide +kernel, rfl⟩
theorem zd_14_93_115 : zz_D zy_advanceNet_14_93 115 (.aload_n 0) 1 116 := ⟨by decide +kernel, rfl⟩
theorem zd_14_93_116 : zz_D zy_advanceNet_14_93 116 (.getfield 334) 3 119 := ⟨by decide +kernel, rfl⟩
theorem zd_14_93_119 : zz_D zy_advanceNet_14_93 119 (.iload_n 1) 1 120 := ⟨by decide +kernel, rfl⟩
theorem zd_14_93_120 : zz_D zy_advanceNet_14_93 120 (.isub) 1 121 := ⟨by decide +kernel, rfl⟩
theorem zd_14_93_121 : zz_D zy_advanceNet_14_93 121 (.bipush 8) 2 123 := ⟨by decide +kernel, rfl⟩
theorem zd_14_93_123 : zz_B zy_advanceNet_14_93 123 (Instr.if_icmp .ge) 156 126 := ⟨33, by decide +kernel, rfl, rfl⟩
theorem zd_14_93_156 : zz_D zy_advanceNet_14_93 156 (.aload_n 0) 1 157 := ⟨by decide +kernel, rfl⟩
theorem zd_14_93_157 : zz_D zy_advanceNet_14_93 157 (.getfield 522) 3 160 := ⟨by decide +kernel, rfl⟩
theorem zd_14_93_160 : zz_D zy_advanceNet_14_93 160 (.putfield 522) 3 163 := ⟨by decide +kernel, rfl⟩
theorem zd_14_93_163 : zz_D zy_advanceNet_14_93 163 (.aload_n 0) 1 164 := ⟨by decide +kernel, rfl⟩
theorem zd_14_93_164 : zz_D zy_advanceNet_14_93 164 (.dup) 1 165 := ⟨by decide +kernel, rfl⟩
theorem zd_14_93_165 : zz_D zy_advanceNet_14_93 165 (.getfield 334) 3 168 := ⟨by decide +kernel, rfl⟩
theorem zd_14_93_168 : zz_D zy_advanceNet_14_93 168 (.iconst 1) 1 169 := ⟨by decide +kernel, rfl⟩
theorem zd_14_93_169 : zz_D zy_advanceNet_14_93 169 (.iadd) 1 170 := ⟨by decide +kernel, rfl⟩
theorem zd_14_93_170 : zz_D zy_advanceNet_14_93 170 (.putfield 334) 3 173 := ⟨by decide +kernel, rfl⟩
theorem zd_14_93_173 : zz_B zy_advanceNet_14_93 173 Instr.goto 81 176 := ⟨(-92), by decide +kernel, rfl, rfl⟩
theorem zd_14_93_126 : zz_D zy_advanceNet_14_93 126 (.aload_n 0) 1 127 := ⟨by decide +kernel, rfl⟩
theorem zd_14_93_127 : zz_D zy_advanceNet_14_93 127 (.getfield 522) 3 130 := ⟨by decide +kernel, rfl⟩
theorem zd_14_93_130 : zz_D zy_advanceNet_14_93 130 (.aload_n 0) 1 131 := ⟨by decide +kernel, rfl⟩
theorem zd_14_93_131 : zz_D zy_advanceNet_14_93 131 (.getfield 76) 3 134 := ⟨by decide +kernel, rfl⟩
theorem zd_14_93_134 : zz_D zy_advanceNet_14_93 134 (.aload_n 0) 1 135 := ⟨by decide +kernel, rfl⟩
theorem zd_14_93_135 : zz_D zy_advanceNet_14_93 135 (.getfield 334) 3 138 := ⟨by decide +kernel, rfl⟩
theorem zd_14_93_138 : zz_D zy_advanceNet_14_93 138 (.iaload) 1 139 := ⟨by decide +kernel, rfl⟩
theorem zd_14_93_139 : zz_D zy_advanceNet_14_93 139 (.bipush 96) 2 141 := ⟨by decide +kernel, rfl⟩
theorem zd_14_93_141 : zz_D zy_advanceNet_14_93 141 (.isub) 1 142 := ⟨by decide +kernel, rfl⟩
theorem zd_14_93_142 : zz_D zy_advanceNet_14_93 142 (.i2l) 1 143 := ⟨by decide +kernel, rfl⟩
theorem zd_14_93_143 : zz_D zy_advanceNet_14_93 143 (.iconst 5) 1 144 := ⟨by decide +kernel, rfl⟩
theorem zd_14_93_144 : zz_D zy_advanceNet_14_93 144 (.aload_n 0) 1 145 := ⟨by decide +kernel, rfl⟩
theorem zd_14_93_145 : zz_D zy_advanceNet_14_93 145 (.getfield 334) 3 148 := ⟨by decide +kernel, rfl⟩
theorem zd_14_93_148 : zz_D zy_advanceNet_14_93 148 (.iload_n 1) 1 149 := ⟨by decide +kernel, rfl⟩
theorem zd_14_93_149 : zz_D zy_advanceNet_14_93 149 (.isub) 1 150 := ⟨by decide +kernel, rfl⟩
theorem zd_14_93_150 : zz_D zy_advanceNet_14_93 150 (.imul) 1 151 := ⟨by decide +kernel, rfl⟩
theorem zd_14_93_151 : zz_D zy_advanceNet_14_93 151 (.lshl) 1 152 := ⟨by decide +kernel, rfl⟩
theorem zd_14_93_152 : zz_D zy_advanceNet_14_93 152 (.lor) 1 153 := ⟨by decide +kernel, rfl⟩
theorem zd_14_93_153 : zz_B zy_advanceNet_14_93 153 Instr.goto 160 156 := ⟨7, by decide +kernel, rfl, rfl⟩

-- TensorForgeModel layer (I)V
abbrev zr_layer_14_88 : Room := { frames := 7, cells := 0, slots := 0, locals := 125 }
def zp_layer_14_88 (p0 : Int) (S0 : zz_S) : zz_S → Prop := fun S => zz_G S ∧ zz_fr [(1079, 10), (1079, 50), (1079, 51), (1079, 52), (1079, 53), (1079, 54), (1079, 55), (1079, 56), (1079, 57), (1079, 60)] [1086, 1087] (fun _ _ => False) S0 S ∧ (S 1079 10 ≤ 2605 + 5 * p0)
theorem zb_layer_14_88_89 {g : mm_G} {l : Launch} (p0 : Int) (S0 : zz_S) (n : Nat) (hn : zz_end ≤ n) (G_S0 : zz_G S0) (hp0 : 0 ≤ p0 ∧ p0 ≤ 9) (hq : S0 1079 10 ≤ 2600 + 5 * p0) (x3 : Int) (x4 : Int) (x5 : Int) (S : zz_S) (G_S : zz_G S) (F_S : zz_fr [(1079, 10), (1079, 50), (1079, 51), (1079, 52), (1079, 53), (1079, 54), (1079, 55), (1079, 56), (1079, 57), (1079, 60)] [1086, 1087] (fun _ _ => False) S0 S) (i89_0 : 0 ≤ x3 ∧ x3 ≤ 63) (i89_1 : 0 ≤ x4 ∧ x4 ≤ 3969) (i89_2 : 16 ≤ x5 ∧ x5 ≤ 63) (i89_3 : 0 ≤ S 1079 56 ∧ S 1079 56 ≤ 80) (i89_4 : S 1079 10 ≤ 2600 + 5 * p0) (R : Nat) (hR : (85899345920 + (S0 1104 (p0 + 1).toNat - S 1079 56).toNat) * 1208925819614629174706176 + 1208925819614629174706175 = R) (k129 : ∀ (x3 : Int) (x4 : Int) (x5 : Int) (S : zz_S), zz_G S → zz_fr [(1079, 10), (1079, 50), (1079, 51), (1079, 52), (1079, 53), (1079, 54), (1079, 55), (1079, 56), (1079, 57), (1079, 60)] [1086, 1087] (fun _ _ => False) S0 S → (0 ≤ x3 ∧ x3 ≤ 63) → (0 ≤ x4 ∧ x4 ≤ 3969) → (16 ≤ x5 ∧ x5 ≤ 63) → (0 ≤ S 1079 56 ∧ S 1079 56 < S0 1104 (p0 + 1).toNat) → (0 ≤ S 1079 55 ∧ S 1079 55 ≤ 64) → (S 1079 10 ≤ 2600 + 5 * p0) → (85899345920 + (S0 1104 (p0 + 1).toNat - S 1079 56).toNat) * 1208925819614629174706176 + (68719476736 + (x3 - S 1079 55).toNat) * 1099511627776 + 1099511627775 < R → zz_E g l zy_layer_14_88 zr_layer_14_88 (zz_QV n (zp_layer_14_88 p0 S0)) S n 129 [some (.ref 1079), some (zi p0), some (zi (p0 + 1)), some (zi x3), some (zi x4), some (zi x5)] [] 0 0) (k238 : ∀ (x6 : Int) (x7 : Int) (S : zz_S), zz_G S → zz_fr [(1079, 10), (1079, 50), (1079, 51), (1079, 52), (1079, 53), (1079, 54), (1079, 55), (1079, 56), (1079, 57), (1079, 60)] [1086, 1087] (fun _ _ => False) S0 S → ((-2147483648) ≤ x6 ∧ x6 ≤ 2) → (0 ≤ x7 ∧ x7 ≤ 2) → (S 1079 10 ≤ 2600 + 5 * p0 + x7) → (34359738368 + (2 - x7).toNat) * 1208925819614629174706176 + 1208925819614629174706175 < R → zz_E g l zy_layer_14_88 zr_layer_14_88 (zz_QV n (zp_layer_14_88 p0 S0)) S n 238 [some (.ref 1079), none, none, none, none, none, some (zi x6), some (zi x7)] [] 0 0) : zz_E g l zy_layer_14_88 zr_layer_14_88 (zz_QV n (zp_layer_14_88 p0 S0)) S n 89 [some (.ref 1079), some (zi p0), some (zi (p0 + 1)), some (zi x3), some (zi x4), some (zi x5)] [] 0 0 := by
  have hch := zz_G.r G_S0 1104 (p0 + 1).toNat 0 63 rfl rfl
  refine zz_aload_n (x := 1079) rfl zd_14_88_89 ?_
  have g37 := zz_G.r G_S 1079 56 (-2147483648) 2147483647 rfl rfl
  refine zz_geti (z := S 1079 56) zd_14_88_90 zf_Md_466 zT_1079 rfl (zz_ltn hn rfl) rfl ?_
  refine zz_aload_n (x := 1079) rfl zd_14_88_93 ?_
  refine zz_getr (kd := 0) (z := 1104) zd_14_88_94 zf_Md_94 zT_1079 rfl (zz_ltn hn rfl) (zz_G.eq G_S 1079 39 1104 rfl rfl) (by decide) 1104 rfl ?_
  refine zz_iload_n (x := p0 + 1) rfl zd_14_88_97 ?_
  have g38 := zz_G.r G_S0 1104 ((p0 + 1).toNat) 0 63 rfl rfl
  refine zz_iald (z := S0 1104 ((p0 + 1).toNat)) zd_14_88_98 zT_1104 rfl (zz_ltn hn rfl) (by decide) (by omega) (zz_rc F_S (zz_nc1 rfl) rfl (fun h => h) rfl) ?_
  refine zz_icmp_ge (by omega) (by omega) zd_14_88_99 (fun c39 => ?_) (fun c39 => ?_)
  · refine zz_iconst zd_14_88_225 ?_
    refine zz_aload_n (x := 1079) rfl zd_14_88_226 ?_
    have g40 := zz_G.r G_S 1079 50 (-2147483648) 2147483647 rfl rfl
    refine zz_geti (z := S 1079 50) zd_14_88_227 zf_Md_450 zT_1079 rfl (zz_ltn hn rfl) rfl ?_
    refine zz_callSI [zi 2, zi (S 1079 50)] zd_14_88_230 zk_Md_506 rfl rfl ⟨Nat.le_of_ble_eq_true rfl, Nat.le_of_ble_eq_true rfl⟩ ⟨rfl, rfl⟩ (Nat.zero_le _) (Nat.zero_le _) (zc_least_14_85 2 (S 1079 50) S n hn G_S (by omega) (by omega)) (fun v42 S41 hP => ?_)
    obtain ⟨rfl, o43, o44⟩ := hP
    refine zz_istore [some (.ref 1079), some (zi p0), some (zi (p0 + 1)), some (zi x3), some (zi x4), some (zi x5), some (zi v42)] zd_14_88_233 (by decide) rfl ?_
    refine zz_iconst zd_14_88_235 ?_
    refine zz_istore [some (.ref 1079), some (zi p0), some (zi (p0 + 1)), some (zi x3), some (zi x4), some (zi x5), some (zi v42), some (zi 0)] zd_14_88_236 (by decide) rfl ?_
    have g45 := zz_G.r G_S 1079 10 0 1000000 rfl rfl
    refine zz_less (ls1 := [some (.ref 1079), none, none, none, none, none, some (zi v42), some (zi 0)]) ⟨rfl, ⟨rfl, ⟨rfl, trivial⟩⟩⟩ ?_
    exact k238 v42 0 S G_S F_S (by omega) (by omega) (by omega) (by omega)
  · refine zz_aload_n (x := 1079) rfl zd_14_88_102 ?_
    refine zz_aload_n (x := 1079) rfl zd_14_88_103 ?_
    have g46 := zz_G.r G_S0 1079 1 2 8 rfl rfl
    refine zz_geti (z := S0 1079 1) zd_14_88_104 zf_Md_7 zT_1079 rfl (zz_ltn hn rfl) (zz_rc F_S rfl rfl (fun h => h) rfl) ?_
    refine zz_aload_n (x := 1079) rfl zd_14_88_107 ?_
    refine zz_getr (kd := 0) (z := 1104) zd_14_88_108 zf_Md_94 zT_1079 rfl (zz_ltn hn rfl) (zz_G.eq G_S 1079 39 1104 rfl rfl) (by decide) 1104 rfl ?_
    refine zz_iload_n (x := p0 + 1) rfl zd_14_88_111 ?_
    refine zz_iald (z := S0 1104 ((p0 + 1).toNat)) zd_14_88_112 zT_1104 rfl (zz_ltn hn rfl) (by decide) (by omega) (zz_rc F_S (zz_nc1 rfl) rfl (fun h => h) rfl) ?_
    refine zz_aload_n (x := 1079) rfl zd_14_88_113 ?_
    refine zz_geti (z := S 1079 56) zd_14_88_114 zf_Md_466 zT_1079 rfl (zz_ltn hn rfl) rfl ?_
    refine zz_isub zd_14_88_117 ?_
    refine zz_nrm (fun v47 hv47 ev47 => ?_)
    refine zz_callSI [zi (S0 1079 1), zi v47] zd_14_88_118 zk_Md_506 rfl rfl ⟨Nat.le_of_ble_eq_true rfl, Nat.le_of_ble_eq_true rfl⟩ ⟨rfl, rfl⟩ (Nat.zero_le _) (Nat.zero_le _) (zc_least_14_85 (S0 1079 1) v47 S n hn G_S (by omega) (by omega)) (fun v49 S48 hP => ?_)
    obtain ⟨rfl, o50, o51⟩ := hP
    refine zz_puti zd_14_88_121 zf_Md_472 zT_1079 rfl (zz_ltn hn rfl) (fun S52 qS52 => ?_)
    have G_S52 := zz_G.put G_S qS52 (-2147483648) 2147483647 rfl (by omega)
    have F_S52 := zz_fr.puts F_S qS52 rfl
    refine zz_aload_n (x := 1079) rfl zd_14_88_124 ?_
    refine zz_iconst zd_14_88_125 ?_
    refine zz_puti zd_14_88_126 zf_Md_495 zT_1079 rfl (zz_ltn hn rfl) (fun S53 qS53 => ?_)
    have G_S53 := zz_G.put G_S52 qS53 (-2147483648) 2147483647 rfl (by omega)
    have F_S53 := zz_fr.puts F_S52 qS53 rfl
    have e54 : S53 1079 56 = S 1079 56 := (zz_ro qS53 (fun h => absurd h.2 (by decide)) (zz_ro qS52 (fun h => absurd h.2 (by decide)) rfl))
    have e55 : S53 1079 55 = 0 := (zz_rs qS53)
    have g56 := zz_G.r G_S 1079 10 0 1000000 rfl rfl
    have e57 : S53 1079 10 = S 1079 10 := (zz_ro qS53 (fun h => absurd h.2 (by decide)) (zz_ro qS52 (fun h => absurd h.2 (by decide)) rfl))
    exact k129 x3 x4 x5 S53 G_S53 F_S53 (by omega) (by omega) (by omega) (by omega) (by omega) (by omega) (by omega)
theorem zb_layer_14_88_129 {g : mm_G} {l : Launch} (p0 : Int) (S0 : zz_S) (n : Nat) (hn : zz_end ≤ n) (G_S0 : zz_G S0) (hp0 : 0 ≤ p0 ∧ p0 ≤ 9) (hq : S0 1079 10 ≤ 2600 + 5 * p0) (x3 : Int) (x4 : Int) (x5 : Int) (S : zz_S) (G_S : zz_G S) (F_S : zz_fr [(1079, 10), (1079, 50), (1079, 51), (1079, 52), (1079, 53), (1079, 54), (1079, 55), (1079, 56), (1079, 57), (1079, 60)] [1086, 1087] (fun _ _ => False) S0 S) (i129_0 : 0 ≤ x3 ∧ x3 ≤ 63) (i129_1 : 0 ≤ x4 ∧ x4 ≤ 3969) (i129_2 : 16 ≤ x5 ∧ x5 ≤ 63) (i129_3 : 0 ≤ S 1079 56 ∧ S 1079 56 < S0 1104 (p0 + 1).toNat) (i129_4 : 0 ≤ S 1079 55 ∧ S 1079 55 ≤ 64) (i129_5 : S 1079 10 ≤ 2600 + 5 * p0) (R : Nat) (hR : (85899345920 + (S0 1104 (p0 + 1).toNat - S 1079 56).toNat) * 1208925819614629174706176 + (68719476736 + (x3 - S 1079 55).toNat) * 1099511627776 + 1099511627775 = R) (k89 : ∀ (x3 : Int) (x4 : Int) (x5 : Int) (S : zz_S), zz_G S → zz_fr [(1079, 10), (1079, 50), (1079, 51), (1079, 52), (1079, 53), (1079, 54), (1079, 55), (1079, 56), (1079, 57), (1079, 60)] [1086, 1087] (fun _ _ => False) S0 S → (0 ≤ x3 ∧ x3 ≤ 63) → (0 ≤ x4 ∧ x4 ≤ 3969) → (16 ≤ x5 ∧ x5 ≤ 63) → (0 ≤ S 1079 56 ∧ S 1079 56 ≤ 80) → (S 1079 10 ≤ 2600 + 5 * p0) → (85899345920 + (S0 1104 (p0 + 1).toNat - S 1079 56).toNat) * 1208925819614629174706176 + 1208925819614629174706175 < R → zz_E g l zy_layer_14_88 zr_layer_14_88 (zz_QV n (zp_layer_14_88 p0 S0)) S n 89 [some (.ref 1079), some (zi p0), some (zi (p0 + 1)), some (zi x3), some (zi x4), some (zi x5)] [] 0 0) (k142 : ∀ (x3 : Int) (x4 : Int) (x5 : Int) (S : zz_S), zz_G S → zz_fr [(1079, 10), (1079, 50), (1079, 51), (1079, 52), (1079, 53), (1079, 54), (1079, 55), (1079, 56), (1079, 57), (1079, 60)] [1086, 1087] (fun _ _ => False) S0 S → (0 ≤ x3 ∧ x3 ≤ 63) → (0 ≤ x4 ∧ x4 ≤ 3969) → (16 ≤ x5 ∧ x5 ≤ 63) → (0 ≤ S 1079 56 ∧ S 1079 56 < S0 1104 (p0 + 1).toNat) → (0 ≤ S 1079 55 ∧ S 1079 55 < x3) → (0 ≤ S 1079 54 ∧ S 1079 54 ≤ 4100) → (S 1079 10 ≤ 2600 + 5 * p0) → (85899345920 + (S0 1104 (p0 + 1).toNat - S 1079 56).toNat) * 1208925819614629174706176 + (68719476736 + (x3 - S 1079 55).toNat) * 1099511627776 + (51539607552 + (x4 - S 1079 54).toNat) < R → zz_E g l zy_layer_14_88 zr_layer_14_88 (zz_QV n (zp_layer_14_88 p0 S0)) S n 142 [some (.ref 1079), some (zi p0), some (zi (p0 + 1)), some (zi x3), some (zi x4), some (zi x5)] [] 0 0) : zz_E g l zy_layer_14_88 zr_layer_14_88 (zz_QV n (zp_layer_14_88 p0 S0)) S n 129 [some (.ref 1079), some (zi p0), some (zi (p0 + 1)), some (zi x3), some (zi x4), some (zi x5)] [] 0 0 := by
  have hch := zz_G.r G_S0 1104 (p0 + 1).toNat 0 63 rfl rfl
  refine zz_aload_n (x := 1079) rfl zd_14_88_129 ?_
  have g79 := zz_G.r G_S 1079 55 (-2147483648) 2147483647 rfl rfl
  refine zz_geti (z := S 1079 55) zd_14_88_130 zf_Md_495 zT_1079 rfl (zz_ltn hn rfl) rfl ?_
  refine zz_iload_n (x := x3) rfl zd_14_88_133 ?_
  refine zz_icmp_ge (by omega) (by omega) zd_14_88_134 (fun c80 => ?_) (fun c80 => ?_)
  · refine zz_aload_n (x := 1079) rfl zd_14_88_209 ?_
    refine zz_aload_n (x := 1079) rfl zd_14_88_210 ?_
    have g81 := zz_G.r G_S 1079 56 (-2147483648) 2147483647 rfl rfl
    refine zz_geti (z := S 1079 56) zd_14_88_211 zf_Md_466 zT_1079 rfl (zz_ltn hn rfl) rfl ?_
    refine zz_aload_n (x := 1079) rfl zd_14_88_214 ?_
    have g82 := zz_G.r G_S0 1079 1 2 8 rfl rfl
    refine zz_geti (z := S0 1079 1) zd_14_88_215 zf_Md_7 zT_1079 rfl (zz_ltn hn rfl) (zz_rc F_S rfl rfl (fun h => h) rfl) ?_
    refine zz_iadd zd_14_88_218 ?_
    refine zz_nrm (fun v83 hv83 ev83 => ?_)
    refine zz_puti zd_14_88_219 zf_Md_466 zT_1079 rfl (zz_ltn hn rfl) (fun S84 qS84 => ?_)
    have G_S84 := zz_G.put G_S qS84 (-2147483648) 2147483647 rfl (by omega)
    have F_S84 := zz_fr.puts F_S qS84 rfl
    refine zz_goto zd_14_88_222 ?_
    have e85 : S84 1079 56 = v83 := (zz_rs qS84)
    have g86 := zz_G.r G_S 1079 10 0 1000000 rfl rfl
    have e87 : S84 1079 10 = S 1079 10 := (zz_ro qS84 (fun h => absurd h.2 (by decide)) rfl)
    exact k89 x3 x4 x5 S84 G_S84 F_S84 (by omega) (by omega) (by omega) (by omega) (by omega) (by omega)
  · refine zz_aload_n (x := 1079) rfl zd_14_88_137 ?_
    refine zz_iconst zd_14_88_138 ?_
    refine zz_puti zd_14_88_139 zf_Md_492 zT_1079 rfl (zz_ltn hn rfl) (fun S88 qS88 => ?_)
    have G_S88 := zz_G.put G_S qS88 (-2147483648) 2147483647 rfl (by omega)
    have F_S88 := zz_fr.puts F_S qS88 rfl
    have g89 := zz_G.r G_S 1079 56 (-2147483648) 2147483647 rfl rfl
    have e90 : S88 1079 56 = S 1079 56 := (zz_ro qS88 (fun h => absurd h.2 (by decide)) rfl)
    have e91 : S88 1079 55 = S 1079 55 := (zz_ro qS88 (fun h => absurd h.2 (by decide)) rfl)
    have e92 : S88 1079 54 = 0 := (zz_rs qS88)
    have g93 := zz_G.r G_S 1079 10 0 1000000 rfl rfl
    have e94 : S88 1079 10 = S 1079 10 := (zz_ro qS88 (fun h => absurd h.2 (by decide)) rfl)
    exact k142 x3 x4 x5 S88 G_S88 F_S88 (by omega) (by omega) (by omega) (by omega) (by omega) (by omega) (by omega) (by omega)
theorem zb_layer_14_88_142 {g : mm_G} {l : Launch} (p0 : Int) (S0 : zz_S) (n : Nat) (hn : zz_end ≤ n) (G_S0 : zz_G S0) (hp0 : 0 ≤ p0 ∧ p0 ≤ 9) (hq : S0 1079 10 ≤ 2600 + 5 * p0) (x3 : Int) (x4 : Int) (x5 : Int) (S : zz_S) (G_S : zz_G S) (F_S : zz_fr [(1079, 10), (1079, 50), (1079, 51), (1079, 52), (1079, 53), (1079, 54), (1079, 55), (1079, 56), (1079, 57), (1079, 60)] [1086, 1087] (fun _ _ => False) S0 S) (i142_0 : 0 ≤ x3 ∧ x3 ≤ 63) (i142_1 : 0 ≤ x4 ∧ x4 ≤ 3969) (i142_2 : 16 ≤ x5 ∧ x5 ≤ 63) (i142_3 : 0 ≤ S 1079 56 ∧ S 1079 56 < S0 1104 (p0 + 1).toNat) (i142_4 : 0 ≤ S 1079 55 ∧ S 1079 55 < x3) (i142_5 : 0 ≤ S 1079 54 ∧ S 1079 54 ≤ 4100) (i142_6 : S 1079 10 ≤ 2600 + 5 * p0) (R : Nat) (hR : (85899345920 + (S0 1104 (p0 + 1).toNat - S 1079 56).toNat) * 1208925819614629174706176 + (68719476736 + (x3 - S 1079 55).toNat) * 1099511627776 + (51539607552 + (x4 - S 1079 54).toNat) = R) (k129 : ∀ (x3 : Int) (x4 : Int) (x5 : Int) (S : zz_S), zz_G S → zz_fr [(1079, 10), (1079, 50), (1079, 51), (1079, 52), (1079, 53), (1079, 54), (1079, 55), (1079, 56), (1079, 57), (1079, 60)] [1086, 1087] (fun _ _ => False) S0 S → (0 ≤ x3 ∧ x3 ≤ 63) → (0 ≤ x4 ∧ x4 ≤ 3969) → (16 ≤ x5 ∧ x5 ≤ 63) → (0 ≤ S 1079 56 ∧ S 1079 56 < S0 1104 (p0 + 1).toNat) → (0 ≤ S 1079 55 ∧ S 1079 55 ≤ 64) → (S 1079 10 ≤ 2600 + 5 * p0) → (85899345920 + (S0 1104 (p0 + 1).toNat - S 1079 56).toNat) * 1208925819614629174706176 + (68719476736 + (x3 - S 1079 55).toNat) * 1099511627776 + 1099511627775 < R → zz_E g l zy_layer_14_88 zr_layer_14_88 (zz_QV n (zp_layer_14_88 p0 S0)) S n 129 [some (.ref 1079), some (zi p0), some (zi (p0 + 1)), some (zi x3), some (zi x4), some (zi x5)] [] 0 0) (k142 : ∀ (x3 : Int) (x4 : Int) (x5 : Int) (S : zz_S), zz_G S → zz_fr [(1079, 10), (1079, 50), (1079, 51), (1079, 52), (1079, 53), (1079, 54), (1079, 55), (1079, 56), (1079, 57), (1079, 60)] [1086, 1087] (fun _ _ => False) S0 S → (0 ≤ x3 ∧ x3 ≤ 63) → (0 ≤ x4 ∧ x4 ≤ 3969) → (16 ≤ x5 ∧ x5 ≤ 63) → (0 ≤ S 1079 56 ∧ S 1079 56 < S0 1104 (p0 + 1).toNat) → (0 ≤ S 1079 55 ∧ S 1079 55 < x3) → (0 ≤ S 1079 54 ∧ S 1079 54 ≤ 4100) → (S 1079 10 ≤ 2600 + 5 * p0) → (85899345920 + (S0 1104 (p0 + 1).toNat - S 1079 56).toNat) * 1208925819614629174706176 + (68719476736 + (x3 - S 1079 55).toNat) * 1099511627776 + (51539607552 + (x4 - S 1079 54).toNat) < R → zz_E g l zy_layer_14_88 zr_layer_14_88 (zz_QV n (zp_layer_14_88 p0 S0)) S n 142 [some (.ref 1079), some (zi p0), some (zi (p0 + 1)), some (zi x3), some (zi x4), some (zi x5)] [] 0 0) : zz_E g l zy_layer_14_88 zr_layer_14_88 (zz_QV n (zp_layer_14_88 p0 S0)) S n 142 [some (.ref 1079), some (zi p0), some (zi (p0 + 1)), some (zi x3), some (zi x4), some (zi x5)] [] 0 0 := by
  have hch := zz_G.r G_S0 1104 (p0 + 1).toNat 0 63 rfl rfl
  refine zz_aload_n (x := 1079) rfl zd_14_88_142 ?_
  have g110 := zz_G.r G_S 1079 54 (-2147483648) 2147483647 rfl rfl
  refine zz_geti (z := S 1079 54) zd_14_88_143 zf_Md_492 zT_1079 rfl (zz_ltn hn rfl) rfl ?_
  refine zz_iload (x := x4) rfl zd_14_88_146 ?_
  refine zz_icmp_ge (by omega) (by omega) zd_14_88_148 (fun c111 => ?_) (fun c111 => ?_)
  · refine zz_aload_n (x := 1079) rfl zd_14_88_196 ?_
    refine zz_dup rfl zd_14_88_197 ?_
    have g112 := zz_G.r G_S 1079 55 (-2147483648) 2147483647 rfl rfl
    refine zz_geti (z := S 1079 55) zd_14_88_198 zf_Md_495 zT_1079 rfl (zz_ltn hn rfl) rfl ?_
    refine zz_iconst zd_14_88_201 ?_
    refine zz_iadd zd_14_88_202 ?_
    refine zz_nrm (fun v113 hv113 ev113 => ?_)
    refine zz_puti zd_14_88_203 zf_Md_495 zT_1079 rfl (zz_ltn hn rfl) (fun S114 qS114 => ?_)
    have G_S114 := zz_G.put G_S qS114 (-2147483648) 2147483647 rfl (by omega)
    have F_S114 := zz_fr.puts F_S qS114 rfl
    refine zz_goto zd_14_88_206 ?_
    have g115 := zz_G.r G_S 1079 56 (-2147483648) 2147483647 rfl rfl
    have e116 : S114 1079 56 = S 1079 56 := (zz_ro qS114 (fun h => absurd h.2 (by decide)) rfl)
    have e117 : S114 1079 55 = v113 := (zz_rs qS114)
    have g118 := zz_G.r G_S 1079 10 0 1000000 rfl rfl
    have e119 : S114 1079 10 = S 1079 10 := (zz_ro qS114 (fun h => absurd h.2 (by decide)) rfl)
    exact k129 x3 x4 x5 S114 G_S114 F_S114 (by omega) (by omega) (by omega) (by omega) (by omega) (by omega) (by omega)
  · refine zz_aload_n (x := 1079) rfl zd_14_88_151 ?_
    refine zz_iload (x := x5) rfl zd_14_88_152 ?_
    refine zz_iload (x := x4) rfl zd_14_88_154 ?_
    refine zz_aload_n (x := 1079) rfl zd_14_88_156 ?_
    refine zz_geti (z := S 1079 54) zd_14_88_157 zf_Md_492 zT_1079 rfl (zz_ltn hn rfl) rfl ?_
    refine zz_isub zd_14_88_160 ?_
    refine zz_nrm (fun v120 hv120 ev120 => ?_)
    refine zz_callSI [zi x5, zi v120] zd_14_88_161 zk_Md_506 rfl rfl ⟨Nat.le_of_ble_eq_true rfl, Nat.le_of_ble_eq_true rfl⟩ ⟨rfl, rfl⟩ (Nat.zero_le _) (Nat.zero_le _) (zc_least_14_85 x5 v120 S n hn G_S (by omega) (by omega)) (fun v122 S121 hP => ?_)
    obtain ⟨rfl, o123, o124⟩ := hP
    refine zz_puti zd_14_88_164 zf_Md_469 zT_1079 rfl (zz_ltn hn rfl) (fun S125 qS125 => ?_)
    have G_S125 := zz_G.put G_S qS125 (-2147483648) 2147483647 rfl (by omega)
    have F_S125 := zz_fr.puts F_S qS125 rfl
    refine zz_aload_n (x := 1079) rfl zd_14_88_167 ?_
    have g126 := zz_G.r G_S 1079 10 0 1000000 rfl rfl
    refine zz_geti (z := S 1079 10) zd_14_88_168 zf_Md_372 zT_1079 rfl (zz_ltn hn rfl) (zz_ro qS125 (fun h => absurd h.2 (by decide)) rfl) ?_
    refine zz_sipush (by decide) zd_14_88_171 ?_
    refine zz_icmp_gt (by omega) (by omega) zd_14_88_174 (fun c127 => ?_) (fun c127 => ?_)
    · refine zz_aload_n (x := 1079) rfl zd_14_88_182 ?_
      refine zz_aload_n (x := 1079) rfl zd_14_88_183 ?_
      refine zz_geti (z := S 1079 54) zd_14_88_184 zf_Md_492 zT_1079 rfl (zz_ltn hn rfl) (zz_ro qS125 (fun h => absurd h.2 (by decide)) rfl) ?_
      refine zz_iload (x := x5) rfl zd_14_88_187 ?_
      refine zz_iadd zd_14_88_189 ?_
      refine zz_puti zd_14_88_190 zf_Md_492 zT_1079 rfl (zz_ltn hn rfl) (fun S128 qS128 => ?_)
      have G_S128 := zz_G.put G_S125 qS128 (-2147483648) 2147483647 rfl (by omega)
      have F_S128 := zz_fr.puts F_S125 qS128 rfl
      refine zz_goto zd_14_88_193 ?_
      have g129 := zz_G.r G_S 1079 56 (-2147483648) 2147483647 rfl rfl
      have e130 : S128 1079 56 = S 1079 56 := (zz_ro qS128 (fun h => absurd h.2 (by decide)) (zz_ro qS125 (fun h => absurd h.2 (by decide)) rfl))
      have g131 := zz_G.r G_S 1079 55 (-2147483648) 2147483647 rfl rfl
      have e132 : S128 1079 55 = S 1079 55 := (zz_ro qS128 (fun h => absurd h.2 (by decide)) (zz_ro qS125 (fun h => absurd h.2 (by decide)) rfl))
      have e133 : S128 1079 54 = (S 1079 54) + x5 := (zz_rs qS128)
      have e134 : S128 1079 10 = S 1079 10 := (zz_ro qS128 (fun h => absurd h.2 (by decide)) (zz_ro qS125 (fun h => absurd h.2 (by decide)) rfl))
      exact k142 x3 x4 x5 S128 G_S128 F_S128 (by omega) (by omega) (by omega) (by omega) (by omega) (by omega) (by omega) (by omega)
    · refine zz_aload_n (x := 1079) rfl zd_14_88_177 ?_
      refine zz_iload_n (x := p0) rfl zd_14_88_178 ?_
      have e135 : S125 1079 10 = S 1079 10 := (zz_ro qS125 (fun h => absurd h.2 (by decide)) rfl)
      refine zz_callVV [zi p0] zd_14_88_179 zk_Md_509 zT_1079 (zz_ltn hn rfl) rfl rfl ⟨Nat.le_of_ble_eq_true rfl, Nat.le_of_ble_eq_true rfl⟩ ⟨rfl, rfl⟩ (Nat.zero_le _) (Nat.zero_le _) (zc_tile_14_87 p0 S125 n hn G_S125 (by omega) (by omega)) (fun S136 hP => ?_)
      obtain ⟨G_S136, fS136, o138⟩ := hP
      have F_S136 := zz_fr.trans F_S125 fS136 rfl zz_nv
      refine zz_aload_n (x := 1079) rfl zd_14_88_182 ?_
      refine zz_aload_n (x := 1079) rfl zd_14_88_183 ?_
      refine zz_geti (z := S 1079 54) zd_14_88_184 zf_Md_492 zT_1079 rfl (zz_ltn hn rfl) (zz_rc fS136 rfl rfl (fun h => h) (zz_ro qS125 (fun h => absurd h.2 (by decide)) rfl)) ?_
      refine zz_iload (x := x5) rfl zd_14_88_187 ?_
      refine zz_iadd zd_14_88_189 ?_
      refine zz_puti zd_14_88_190 zf_Md_492 zT_1079 rfl (zz_ltn hn rfl) (fun S139 qS139 => ?_)
      have G_S139 := zz_G.put G_S136 qS139 (-2147483648) 2147483647 rfl (by omega)
      have F_S139 := zz_fr.puts F_S136 qS139 rfl
      refine zz_goto zd_14_88_193 ?_
      have g140 := zz_G.r G_S 1079 56 (-2147483648) 2147483647 rfl rfl
      have e141 : S139 1079 56 = S 1079 56 := (zz_ro qS139 (fun h => absurd h.2 (by decide)) (zz_rc fS136 rfl rfl (fun h => h) (zz_ro qS125 (fun h => absurd h.2 (by decide)) rfl)))
      have g142 := zz_G.r G_S 1079 55 (-2147483648) 2147483647 rfl rfl
      have e143 : S139 1079 55 = S 1079 55 := (zz_ro qS139 (fun h => absurd h.2 (by decide)) (zz_rc fS136 rfl rfl (fun h => h) (zz_ro qS125 (fun h => absurd h.2 (by decide)) rfl)))
      have e144 : S139 1079 54 = (S 1079 54) + x5 := (zz_rs qS139)
      have g145 := zz_G.r G_S136 1079 10 0 1000000 rfl rfl
      have e146 : S139 1079 10 = S136 1079 10 := (zz_ro qS139 (fun h => absurd h.2 (by decide)) rfl)
      exact k142 x3 x4 x5 S139 G_S139 F_S139 (by omega) (by omega) (by omega) (by omega) (by omega) (by omega) (by omega) (by omega)
theorem zb_layer_14_88_238 {g : mm_G} {l : Launch} (p0 : Int) (S0 : zz_S) (n : Nat) (hn : zz_end ≤ n) (G_S0 : zz_G S0) (hp0 : 0 ≤ p0 ∧ p0 ≤ 9) (hq : S0 1079 10 ≤ 2600 + 5 * p0) (x6 : Int) (x7 : Int) (S : zz_S) (G_S : zz_G S) (F_S : zz_fr [(1079, 10), (1079, 50), (1079, 51), (1079, 52), (1079, 53), (1079, 54), (1079, 55), (1079, 56), (1079, 57), (1079, 60)] [1086, 1087] (fun _ _ => False) S0 S) (i238_0 : (-2147483648) ≤ x6 ∧ x6 ≤ 2) (i238_1 : 0 ≤ x7 ∧ x7 ≤ 2) (i238_2 : S 1079 10 ≤ 2600 + 5 * p0 + x7) (R : Nat) (hR : (34359738368 + (2 - x7).toNat) * 1208925819614629174706176 + 1208925819614629174706175 = R) (k238 : ∀ (x6 : Int) (x7 : Int) (S : zz_S), zz_G S → zz_fr [(1079, 10), (1079, 50), (1079, 51), (1079, 52), (1079, 53), (1079, 54), (1079, 55), (1079, 56), (1079, 57), (1079, 60)] [1086, 1087] (fun _ _ => False) S0 S → ((-2147483648) ≤ x6 ∧ x6 ≤ 2) → (0 ≤ x7 ∧ x7 ≤ 2) → (S 1079 10 ≤ 2600 + 5 * p0 + x7) → (34359738368 + (2 - x7).toNat) * 1208925819614629174706176 + 1208925819614629174706175 < R → zz_E g l zy_layer_14_88 zr_layer_14_88 (zz_QV n (zp_layer_14_88 p0 S0)) S n 238 [some (.ref 1079), none, none, none, none, none, some (zi x6), some (zi x7)] [] 0 0) (k291 : ∀ (x7 : Int) (S : zz_S), zz_G S → zz_fr [(1079, 10), (1079, 50), (1079, 51), (1079, 52), (1079, 53), (1079, 54), (1079, 55), (1079, 56), (1079, 57), (1079, 60)] [1086, 1087] (fun _ _ => False) S0 S → (0 ≤ x7 ∧ x7 ≤ 3) → (S 1079 10 ≤ 2602 + 5 * p0 + x7) → (17179869184 + (3 - x7).toNat) * 1208925819614629174706176 + 1208925819614629174706175 < R → zz_E g l zy_layer_14_88 zr_layer_14_88 (zz_QV n (zp_layer_14_88 p0 S0)) S n 291 [some (.ref 1079), none, none, none, none, none, none, some (zi x7)] [] 0 0) : zz_E g l zy_layer_14_88 zr_layer_14_88 (zz_QV n (zp_layer_14_88 p0 S0)) S n 238 [some (.ref 1079), none, none, none, none, none, some (zi x6), some (zi x7)] [] 0 0 := by
  refine zz_iload (x := x7) rfl zd_14_88_238 ?_
  refine zz_iload (x := x6) rfl zd_14_88_240 ?_
  refine zz_icmp_ge (by omega) (by omega) zd_14_88_242 (fun c58 => ?_) (fun c58 => ?_)
  · refine zz_iconst zd_14_88_288 ?_
    refine zz_istore [some (.ref 1079), none, none, none, none, none, some (zi x6), some (zi 0)] zd_14_88_289 (by decide) rfl ?_
    have g59 := zz_G.r G_S 1079 10 0 1000000 rfl rfl
    refine zz_less (ls1 := [some (.ref 1079), none, none, none, none, none, none, some (zi 0)]) ⟨rfl, ⟨rfl, trivial⟩⟩ ?_
    exact k291 0 S G_S F_S (by omega) (by omega) (by omega)
  · refine zz_aload_n (x := 1079) rfl zd_14_88_245 ?_
    refine zz_bipush (by decide) zd_14_88_246 ?_
    refine zz_iconst zd_14_88_248 ?_
    refine zz_iconst zd_14_88_249 ?_
    refine zz_iconst zd_14_88_250 ?_
    refine zz_callVV [zi 9, zi 0, zi 0, zi 0] zd_14_88_251 zk_Md_475 zT_1079 (zz_ltn hn rfl) rfl rfl ⟨Nat.le_of_ble_eq_true rfl, Nat.le_of_ble_eq_true rfl⟩ ⟨rfl, rfl⟩ (Nat.zero_le _) (Nat.zero_le _) (zc_set_14_78 9 0 0 0 S n hn G_S (by omega) (by omega) (by omega) (by omega)) (fun S60 hP => ?_)
    obtain ⟨G_S60, fS60⟩ := hP
    have F_S60 := zz_fr.trans F_S fS60 rfl zz_nv
    refine zz_aload_n (x := 1079) rfl zd_14_88_254 ?_
    refine zz_iconst zd_14_88_255 ?_
    refine zz_iconst zd_14_88_256 ?_
    refine zz_iconst zd_14_88_257 ?_
    refine zz_iconst zd_14_88_258 ?_
    refine zz_callVV [zi 0, zi 0, zi 0, zi 1] zd_14_88_259 zk_Md_482 zT_1079 (zz_ltn hn rfl) rfl rfl ⟨Nat.le_of_ble_eq_true rfl, Nat.le_of_ble_eq_true rfl⟩ ⟨rfl, rfl⟩ (Nat.zero_le _) (Nat.zero_le _) (zc_with_14_79 0 0 0 1 S60 n hn G_S60 (by omega) (by omega) (by omega) (by omega)) (fun S62 hP => ?_)
    obtain ⟨G_S62, fS62⟩ := hP
    have F_S62 := zz_fr.trans F_S60 fS62 rfl zz_nv
    refine zz_aload_n (x := 1079) rfl zd_14_88_262 ?_
    refine zz_iconst zd_14_88_263 ?_
    refine zz_iload (x := x7) rfl zd_14_88_264 ?_
    refine zz_iload (x := x6) rfl zd_14_88_266 ?_
    refine zz_iconst zd_14_88_268 ?_
    refine zz_isub zd_14_88_269 ?_
    refine zz_icmp_ne (by omega) (by omega) zd_14_88_270 (fun c64 => ?_) (fun c64 => ?_)
    · refine zz_iconst zd_14_88_277 ?_
      refine zz_ior (by omega) (by omega) zd_14_88_278 (fun v65 hv65 av65 ev65 => ?_)
      have g66 := zz_G.r G_S 1079 10 0 1000000 rfl rfl
      have e67 : S62 1079 10 = S 1079 10 := (zz_rc fS62 rfl rfl (fun h => h) (zz_rc fS60 rfl rfl (fun h => h) rfl))
      refine zz_callVV [zi v65] zd_14_88_279 zk_Md_459 zT_1079 (zz_ltn hn rfl) rfl rfl ⟨Nat.le_of_ble_eq_true rfl, Nat.le_of_ble_eq_true rfl⟩ ⟨rfl, rfl⟩ (Nat.zero_le _) (Nat.zero_le _) (zc_emit_14_77 v65 S62 n hn G_S62 (by omega) (by omega)) (fun S68 hP => ?_)
      obtain ⟨G_S68, fS68, o70⟩ := hP
      have F_S68 := zz_fr.trans F_S62 fS68 rfl zz_nv
      refine zz_iinc [some (.ref 1079), none, none, none, none, none, some (zi x6), some (zi (x7 + 1))] zd_14_88_282 rfl rfl ?_
      refine zz_goto zd_14_88_285 ?_
      have g71 := zz_G.r G_S68 1079 10 0 1000000 rfl rfl
      refine zz_less (ls1 := [some (.ref 1079), none, none, none, none, none, some (zi x6), some (zi (x7 + 1))]) ⟨rfl, ⟨rfl, ⟨rfl, trivial⟩⟩⟩ ?_
      exact k238 x6 (x7 + 1) S68 G_S68 F_S68 (by omega) (by omega) (by omega) (by omega)
    · refine zz_iconst zd_14_88_273 ?_
      refine zz_goto zd_14_88_274 ?_
      refine zz_ior (by omega) (by omega) zd_14_88_278 (fun v72 hv72 av72 ev72 => ?_)
      have g73 := zz_G.r G_S 1079 10 0 1000000 rfl rfl
      have e74 : S62 1079 10 = S 1079 10 := (zz_rc fS62 rfl rfl (fun h => h) (zz_rc fS60 rfl rfl (fun h => h) rfl))
      refine zz_callVV [zi v72] zd_14_88_279 zk_Md_459 zT_1079 (zz_ltn hn rfl) rfl rfl ⟨Nat.le_of_ble_eq_true rfl, Nat.le_of_ble_eq_true rfl⟩ ⟨rfl, rfl⟩ (Nat.zero_le _) (Nat.zero_le _) (zc_emit_14_77 v72 S62 n hn G_S62 (by omega) (by omega)) (fun S75 hP => ?_)
      obtain ⟨G_S75, fS75, o77⟩ := hP
      have F_S75 := zz_fr.trans F_S62 fS75 rfl zz_nv
      refine zz_iinc [some (.ref 1079), none, none, none, none, none, some (zi x6), some (zi (x7 + 1))] zd_14_88_282 rfl rfl ?_
      refine zz_goto zd_14_88_285 ?_
      have g78 := zz_G.r G_S75 1079 10 0 1000000 rfl rfl
      refine zz_less (ls1 := [some (.ref 1079), none, none, none, none, none, some (zi x6), some (zi (x7 + 1))]) ⟨rfl, ⟨rfl, ⟨rfl, trivial⟩⟩⟩ ?_
      exact k238 x6 (x7 + 1) S75 G_S75 F_S75 (by omega) (by omega) (by omega) (by omega)
theorem zb_layer_14_88_291 {g : mm_G} {l : Launch} (p0 : Int) (S0 : zz_S) (n : Nat) (hn : zz_end ≤ n) (G_S0 : zz_G S0) (hp0 : 0 ≤ p0 ∧ p0 ≤ 9) (hq : S0 1079 10 ≤ 2600 + 5 * p0) (x7 : Int) (S : zz_S) (G_S : zz_G S) (F_S : zz_fr [(1079, 10), (1079, 50), (1079, 51), (1079, 52), (1079, 53), (1079, 54), (1079, 55), (1079, 56), (1079, 57), (1079, 60)] [1086, 1087] (fun _ _ => False) S0 S) (i291_0 : 0 ≤ x7 ∧ x7 ≤ 3) (i291_1 : S 1079 10 ≤ 2602 + 5 * p0 + x7) (R : Nat) (hR : (17179869184 + (3 - x7).toNat) * 1208925819614629174706176 + 1208925819614629174706175 = R) (k291 : ∀ (x7 : Int) (S : zz_S), zz_G S → zz_fr [(1079, 10), (1079, 50), (1079, 51), (1079, 52), (1079, 53), (1079, 54), (1079, 55), (1079, 56), (1079, 57), (1079, 60)] [1086, 1087] (fun _ _ => False) S0 S → (0 ≤ x7 ∧ x7 ≤ 3) → (S 1079 10 ≤ 2602 + 5 * p0 + x7) → (17179869184 + (3 - x7).toNat) * 1208925819614629174706176 + 1208925819614629174706175 < R → zz_E g l zy_layer_14_88 zr_layer_14_88 (zz_QV n (zp_layer_14_88 p0 S0)) S n 291 [some (.ref 1079), none, none, none, none, none, none, some (zi x7)] [] 0 0) : zz_E g l zy_layer_14_88 zr_layer_14_88 (zz_QV n (zp_layer_14_88 p0 S0)) S n 291 [some (.ref 1079), none, none, none, none, none, none, some (zi x7)] [] 0 0 := by
  refine zz_iload (x := x7) rfl zd_14_88_291 ?_
  refine zz_iconst zd_14_88_293 ?_
  refine zz_aload_n (x := 1079) rfl zd_14_88_294 ?_
  have g95 := zz_G.r G_S 1079 51 (-2147483648) 2147483647 rfl rfl
  refine zz_geti (z := S 1079 51) zd_14_88_295 zf_Md_447 zT_1079 rfl (zz_ltn hn rfl) rfl ?_
  refine zz_callSI [zi 2, zi (S 1079 51)] zd_14_88_298 zk_Md_506 rfl rfl ⟨Nat.le_of_ble_eq_true rfl, Nat.le_of_ble_eq_true rfl⟩ ⟨rfl, rfl⟩ (Nat.zero_le _) (Nat.zero_le _) (zc_least_14_85 2 (S 1079 51) S n hn G_S (by omega) (by omega)) (fun v97 S96 hP => ?_)
  obtain ⟨rfl, o98, o99⟩ := hP
  refine zz_icmp_gt (by omega) (by omega) zd_14_88_301 (fun c100 => ?_) (fun c100 => ?_)
  · have g101 := zz_G.r G_S 1079 10 0 1000000 rfl rfl
    exact zz_vret zd_14_88_324 rfl (Nat.zero_le _) (Nat.zero_le _) ⟨_, rfl, G_S, F_S, by omega⟩
  · refine zz_aload_n (x := 1079) rfl zd_14_88_304 ?_
    refine zz_bipush (by decide) zd_14_88_305 ?_
    refine zz_iconst zd_14_88_307 ?_
    refine zz_iconst zd_14_88_308 ?_
    refine zz_iconst zd_14_88_309 ?_
    refine zz_callVV [zi 9, zi 0, zi 0, zi 0] zd_14_88_310 zk_Md_475 zT_1079 (zz_ltn hn rfl) rfl rfl ⟨Nat.le_of_ble_eq_true rfl, Nat.le_of_ble_eq_true rfl⟩ ⟨rfl, rfl⟩ (Nat.zero_le _) (Nat.zero_le _) (zc_set_14_78 9 0 0 0 S n hn G_S (by omega) (by omega) (by omega) (by omega)) (fun S102 hP => ?_)
    obtain ⟨G_S102, fS102⟩ := hP
    have F_S102 := zz_fr.trans F_S fS102 rfl zz_nv
    refine zz_aload_n (x := 1079) rfl zd_14_88_313 ?_
    refine zz_iconst zd_14_88_314 ?_
    have g104 := zz_G.r G_S 1079 10 0 1000000 rfl rfl
    have e105 : S102 1079 10 = S 1079 10 := (zz_rc fS102 rfl rfl (fun h => h) rfl)
    refine zz_callVV [zi 2] zd_14_88_315 zk_Md_459 zT_1079 (zz_ltn hn rfl) rfl rfl ⟨Nat.le_of_ble_eq_true rfl, Nat.le_of_ble_eq_true rfl⟩ ⟨rfl, rfl⟩ (Nat.zero_le _) (Nat.zero_le _) (zc_emit_14_77 2 S102 n hn G_S102 (by omega) (by omega)) (fun S106 hP => ?_)
    obtain ⟨G_S106, fS106, o108⟩ := hP
    have F_S106 := zz_fr.trans F_S102 fS106 rfl zz_nv
    refine zz_iinc [some (.ref 1079), none, none, none, none, none, none, some (zi (x7 + 1))] zd_14_88_318 rfl rfl ?_
    refine zz_goto zd_14_88_321 ?_
    have g109 := zz_G.r G_S106 1079 10 0 1000000 rfl rfl
    refine zz_less (ls1 := [some (.ref 1079), none, none, none, none, none, none, some (zi (x7 + 1))]) ⟨rfl, ⟨rfl, trivial⟩⟩ ?_
    exact k291 (x7 + 1) S106 G_S106 F_S106 (by omega) (by omega) (by omega)
theorem zi_layer_14_88 {g : mm_G} {l : Launch} (p0 : Int) (S0 : zz_S) (n : Nat) (hn : zz_end ≤ n) (G_S0 : zz_G S0) (hp0 : 0 ≤ p0 ∧ p0 ≤ 9) (hq : S0 1079 10 ≤ 2600 + 5 * p0) : ∀ N : Nat, (∀ (x3 : Int) (x4 : Int) (x5 : Int) (S : zz_S), zz_G S → zz_fr [(1079, 10), (1079, 50), (1079, 51), (1079, 52), (1079, 53), (1079, 54), (1079, 55), (1079, 56), (1079, 57), (1079, 60)] [1086, 1087] (fun _ _ => False) S0 S → (0 ≤ x3 ∧ x3 ≤ 63) → (0 ≤ x4 ∧ x4 ≤ 3969) → (16 ≤ x5 ∧ x5 ≤ 63) → (0 ≤ S 1079 56 ∧ S 1079 56 ≤ 80) → (S 1079 10 ≤ 2600 + 5 * p0) → (85899345920 + (S0 1104 (p0 + 1).toNat - S 1079 56).toNat) * 1208925819614629174706176 + 1208925819614629174706175 < N → zz_E g l zy_layer_14_88 zr_layer_14_88 (zz_QV n (zp_layer_14_88 p0 S0)) S n 89 [some (.ref 1079), some (zi p0), some (zi (p0 + 1)), some (zi x3), some (zi x4), some (zi x5)] [] 0 0) ∧ (∀ (x3 : Int) (x4 : Int) (x5 : Int) (S : zz_S), zz_G S → zz_fr [(1079, 10), (1079, 50), (1079, 51), (1079, 52), (1079, 53), (1079, 54), (1079, 55), (1079, 56), (1079, 57), (1079, 60)] [1086, 1087] (fun _ _ => False) S0 S → (0 ≤ x3 ∧ x3 ≤ 63) → (0 ≤ x4 ∧ x4 ≤ 3969) → (16 ≤ x5 ∧ x5 ≤ 63) → (0 ≤ S 1079 56 ∧ S 1079 56 < S0 1104 (p0 + 1).toNat) → (0 ≤ S 1079 55 ∧ S 1079 55 ≤ 64) → (S 1079 10 ≤ 2600 + 5 * p0) → (85899345920 + (S0 1104 (p0 + 1).toNat - S 1079 56).toNat) * 1208925819614629174706176 + (68719476736 + (x3 - S 1079 55).toNat) * 1099511627776 + 1099511627775 < N → zz_E g l zy_layer_14_88 zr_layer_14_88 (zz_QV n (zp_layer_14_88 p0 S0)) S n 129 [some (.ref 1079), some (zi p0), some (zi (p0 + 1)), some (zi x3), some (zi x4), some (zi x5)] [] 0 0) ∧ (∀ (x3 : Int) (x4 : Int) (x5 : Int) (S : zz_S), zz_G S → zz_fr [(1079, 10), (1079, 50), (1079, 51), (1079, 52), (1079, 53), (1079, 54), (1079, 55), (1079, 56), (1079, 57), (1079, 60)] [1086, 1087] (fun _ _ => False) S0 S → (0 ≤ x3 ∧ x3 ≤ 63) → (0 ≤ x4 ∧ x4 ≤ 3969) → (16 ≤ x5 ∧ x5 ≤ 63) → (0 ≤ S 1079 56 ∧ S 1079 56 < S0 1104 (p0 + 1).toNat) → (0 ≤ S 1079 55 ∧ S 1079 55 < x3) → (0 ≤ S 1079 54 ∧ S 1079 54 ≤ 4100) → (S 1079 10 ≤ 2600 + 5 * p0) → (85899345920 + (S0 1104 (p0 + 1).toNat - S 1079 56).toNat) * 1208925819614629174706176 + (68719476736 + (x3 - S 1079 55).toNat) * 1099511627776 + (51539607552 + (x4 - S 1079 54).toNat) < N → zz_E g l zy_layer_14_88 zr_layer_14_88 (zz_QV n (zp_layer_14_88 p0 S0)) S n 142 [some (.ref 1079), some (zi p0), some (zi (p0 + 1)), some (zi x3), some (zi x4), some (zi x5)] [] 0 0) ∧ (∀ (x6 : Int) (x7 : Int) (S : zz_S), zz_G S → zz_fr [(1079, 10), (1079, 50), (1079, 51), (1079, 52), (1079, 53), (1079, 54), (1079, 55), (1079, 56), (1079, 57), (1079, 60)] [1086, 1087] (fun _ _ => False) S0 S → ((-2147483648) ≤ x6 ∧ x6 ≤ 2) → (0 ≤ x7 ∧ x7 ≤ 2) → (S 1079 10 ≤ 2600 + 5 * p0 + x7) → (34359738368 + (2 - x7).toNat) * 1208925819614629174706176 + 1208925819614629174706175 < N → zz_E g l zy_layer_14_88 zr_layer_14_88 (zz_QV n (zp_layer_14_88 p0 S0)) S n 238 [some (.ref 1079), none, none, none, none, none, some (zi x6), some (zi x7)] [] 0 0) ∧ (∀ (x7 : Int) (S : zz_S), zz_G S → zz_fr [(1079, 10), (1079, 50), (1079, 51), (1079, 52), (1079, 53), (1079, 54), (1079, 55), (1079, 56), (1079, 57), (1079, 60)] [1086, 1087] (fun _ _ => False) S0 S → (0 ≤ x7 ∧ x7 ≤ 3) → (S 1079 10 ≤ 2602 + 5 * p0 + x7) → (17179869184 + (3 - x7).toNat) * 1208925819614629174706176 + 1208925819614629174706175 < N → zz_E g l zy_layer_14_88 zr_layer_14_88 (zz_QV n (zp_layer_14_88 p0 S0)) S n 291 [some (.ref 1079), none, none, none, none, none, none, some (zi x7)] [] 0 0) := by
  intro N
  induction N with
  | zero => exact ⟨fun x3 x4 x5 S _ _ _ _ _ _ _ h => absurd h (Nat.not_lt_zero _), fun x3 x4 x5 S _ _ _ _ _ _ _ _ h => absurd h (Nat.not_lt_zero _), fun x3 x4 x5 S _ _ _ _ _ _ _ _ _ h => absurd h (Nat.not_lt_zero _), fun x6 x7 S _ _ _ _ _ h => absurd h (Nat.not_lt_zero _), fun x7 S _ _ _ _ h => absurd h (Nat.not_lt_zero _)⟩
  | succ N ih =>
    exact ⟨fun x3 x4 x5 S a b j0 j1 j2 j3 j4 hR => zb_layer_14_88_89 p0 S0 n hn G_S0 hp0 hq x3 x4 x5 S a b j0 j1 j2 j3 j4 _ rfl (fun x3 x4 x5 S a b j0 j1 j2 j3 j4 j5 h => ih.2.1 x3 x4 x5 S a b j0 j1 j2 j3 j4 j5 (Nat.lt_of_lt_of_le h (Nat.le_of_lt_succ hR))) (fun x6 x7 S a b j0 j1 j2 h => ih.2.2.2.1 x6 x7 S a b j0 j1 j2 (Nat.lt_of_lt_of_le h (Nat.le_of_lt_succ hR))),
      fun x3 x4 x5 S a b j0 j1 j2 j3 j4 j5 hR => zb_layer_14_88_129 p0 S0 n hn G_S0 hp0 hq x3 x4 x5 S a b j0 j1 j2 j3 j4 j5 _ rfl (fun x3 x4 x5 S a b j0 j1 j2 j3 j4 h => ih.1 x3 x4 x5 S a b j0 j1 j2 j3 j4 (Nat.lt_of_lt_of_le h (Nat.le_of_lt_succ hR))) (fun x3 x4 x5 S a b j0 j1 j2 j3 j4 j5 j6 h => ih.2.2.1 x3 x4 x5 S a b j0 j1 j2 j3 j4 j5 j6 (Nat.lt_of_lt_of_le h (Nat.le_of_lt_succ hR))),
      fun x3 x4 x5 S a b j0 j1 j2 j3 j4 j5 j6 hR => zb_layer_14_88_142 p0 S0 n hn G_S0 hp0 hq x3 x4 x5 S a b j0 j1 j2 j3 j4 j5 j6 _ rfl (fun x3 x4 x5 S a b j0 j1 j2 j3 j4 j5 h => ih.2.1 x3 x4 x5 S a b j0 j1 j2 j3 j4 j5 (Nat.lt_of_lt_of_le h (Nat.le_of_lt_succ hR))) (fun x3 x4 x5 S a b j0 j1 j2 j3 j4 j5 j6 h => ih.2.2.1 x3 x4 x5 S a b j0 j1 j2 j3 j4 j5 j6 (Nat.lt_of_lt_of_le h (Nat.le_of_lt_succ hR))),
      fun x6 x7 S a b j0 j1 j2 hR => zb_layer_14_88_238 p0 S0 n hn G_S0 hp0 hq x6 x7 S a b j0 j1 j2 _ rfl (fun x6 x7 S a b j0 j1 j2 h => ih.2.2.2.1 x6 x7 S a b j0 j1 j2 (Nat.lt_of_lt_of_le h (Nat.le_of_lt_succ hR))) (fun x7 S a b j0 j1 h => ih.2.2.2.2 x7 S a b j0 j1 (Nat.lt_of_lt_of_le h (Nat.le_of_lt_succ hR))),
      fun x7 S a b j0 j1 hR => zb_layer_14_88_291 p0 S0 n hn G_S0 hp0 hq x7 S a b j0 j1 _ rfl (fun x7 S a b j0 j1 h => ih.2.2.2.2 x7 S a b j0 j1 (Nat.lt_of_lt_of_le h (Nat.le_of_lt_succ hR)))⟩
theorem zc_layer_14_88 {g : mm_G} {l : Launch} (p0 : Int) (S0 : zz_S) (n : Nat) (hn : zz_end ≤ n) (G_S0 : zz_G S0) (hp0 : 0 ≤ p0 ∧ p0 ≤ 9) (hq : S0 1079 10 ≤ 2600 + 5 * p0) : mm_Met g l zy_layer_14_88 zr_layer_14_88 [.ref 1079, zi p0] (zz_M S0 n) n (zz_QV n (zp_layer_14_88 p0 S0)) := by
  refine zz_enter (by decide) (Nat.le_of_ble_eq_true rfl) (zz_less (ls1 := [some (.ref 1079), some (zi p0)]) ⟨rfl, ⟨rfl, trivial⟩⟩ ?_)
  have F_S0 : zz_fr [(1079, 10), (1079, 50), (1079, 51), (1079, 52), (1079, 53), (1079, 54), (1079, 55), (1079, 56), (1079, 57), (1079, 60)] [1086, 1087] (fun _ _ => False) S0 S0 := zz_fr.refl
  have k89 : ∀ (x3 : Int) (x4 : Int) (x5 : Int) (S : zz_S), zz_G S → zz_fr [(1079, 10), (1079, 50), (1079, 51), (1079, 52), (1079, 53), (1079, 54), (1079, 55), (1079, 56), (1079, 57), (1079, 60)] [1086, 1087] (fun _ _ => False) S0 S → (0 ≤ x3 ∧ x3 ≤ 63) → (0 ≤ x4 ∧ x4 ≤ 3969) → (16 ≤ x5 ∧ x5 ≤ 63) → (0 ≤ S 1079 56 ∧ S 1079 56 ≤ 80) → (S 1079 10 ≤ 2600 + 5 * p0) → zz_E g l zy_layer_14_88 zr_layer_14_88 (zz_QV n (zp_layer_14_88 p0 S0)) S n 89 [some (.ref 1079), some (zi p0), some (zi (p0 + 1)), some (zi x3), some (zi x4), some (zi x5)] [] 0 0 := fun x3 x4 x5 S a b j0 j1 j2 j3 j4 => (zi_layer_14_88 (g := g) (l := l) p0 S0 n hn G_S0 hp0 hq _).1 x3 x4 x5 S a b j0 j1 j2 j3 j4 (Nat.lt_succ_self _)
  refine zz_iload_n (x := p0) rfl zd_14_88_0 ?_
  refine zz_iconst zd_14_88_1 ?_
  refine zz_iadd zd_14_88_2 ?_
  refine zz_istore_n [some (.ref 1079), some (zi p0), some (zi (p0 + 1))] zd_14_88_3 (by decide) rfl ?_
  refine zz_aload_n (x := 1079) rfl zd_14_88_4 ?_
  refine zz_getr (kd := 0) (z := 1106) zd_14_88_5 zf_Md_100 zT_1079 rfl (zz_ltn hn rfl) (zz_G.eq G_S0 1079 41 1106 rfl rfl) (by decide) 1106 rfl ?_
  refine zz_iload_n (x := p0) rfl zd_14_88_8 ?_
  have g1 := zz_G.r G_S0 1106 p0.toNat 0 2 rfl rfl
  refine zz_iald (z := S0 1106 p0.toNat) zd_14_88_9 zT_1106 rfl (zz_ltn hn rfl) (by decide) (by omega) rfl ?_
  refine zz_iconst zd_14_88_10 ?_
  refine zz_icmp_ne (by omega) (by omega) zd_14_88_11 (fun c2 => ?_) (fun c2 => ?_)
  · refine zz_aload_n (x := 1079) rfl zd_14_88_18 ?_
    refine zz_getr (kd := 0) (z := 1102) zd_14_88_19 zf_Md_88 zT_1079 rfl (zz_ltn hn rfl) (zz_G.eq G_S0 1079 37 1102 rfl rfl) (by decide) 1102 rfl ?_
    refine zz_iload_n (x := p0 + 1) rfl zd_14_88_22 ?_
    have g3 := zz_G.r G_S0 1102 ((p0 + 1).toNat) 0 63 rfl rfl
    refine zz_iald (z := S0 1102 ((p0 + 1).toNat)) zd_14_88_23 zT_1102 rfl (zz_ltn hn rfl) (by decide) (by omega) rfl ?_
    refine zz_istore_n [some (.ref 1079), some (zi p0), some (zi (p0 + 1)), some (zi (S0 1102 ((p0 + 1).toNat)))] zd_14_88_24 (by decide) rfl ?_
    refine zz_aload_n (x := 1079) rfl zd_14_88_25 ?_
    refine zz_getr (kd := 0) (z := 1106) zd_14_88_26 zf_Md_100 zT_1079 rfl (zz_ltn hn rfl) (zz_G.eq G_S0 1079 41 1106 rfl rfl) (by decide) 1106 rfl ?_
    refine zz_iload_n (x := p0) rfl zd_14_88_29 ?_
    refine zz_iald (z := S0 1106 p0.toNat) zd_14_88_30 zT_1106 rfl (zz_ltn hn rfl) (by decide) (by omega) rfl ?_
    refine zz_iconst zd_14_88_31 ?_
    refine zz_icmp_ne (by omega) (by omega) zd_14_88_32 (fun c4 => ?_) (fun c4 => ?_)
    · refine zz_aload_n (x := 1079) rfl zd_14_88_51 ?_
      refine zz_getr (kd := 0) (z := 1103) zd_14_88_52 zf_Md_91 zT_1079 rfl (zz_ltn hn rfl) (zz_G.eq G_S0 1079 38 1103 rfl rfl) (by decide) 1103 rfl ?_
      refine zz_iload_n (x := p0 + 1) rfl zd_14_88_55 ?_
      have g5 := zz_G.r G_S0 1103 ((p0 + 1).toNat) 0 63 rfl rfl
      refine zz_iald (z := S0 1103 ((p0 + 1).toNat)) zd_14_88_56 zT_1103 rfl (zz_ltn hn rfl) (by decide) (by omega) rfl ?_
      refine zz_istore [some (.ref 1079), some (zi p0), some (zi (p0 + 1)), some (zi (S0 1102 ((p0 + 1).toNat))), some (zi (S0 1103 ((p0 + 1).toNat)))] zd_14_88_57 (by decide) rfl ?_
      refine zz_bipush (by decide) zd_14_88_59 ?_
      refine zz_sipush (by decide) zd_14_88_61 ?_
      refine zz_aload_n (x := 1079) rfl zd_14_88_64 ?_
      have g6 := zz_G.r G_S0 1079 1 2 8 rfl rfl
      refine zz_geti (z := S0 1079 1) zd_14_88_65 zf_Md_7 zT_1079 rfl (zz_ltn hn rfl) rfl ?_
      refine zz_idiv (by omega) (by omega) zd_14_88_68 (fun v7 hv7 av7 bv7 cv7 => ?_)
      have m8 := zz_divb (by omega) (by omega) av7
      have dlv7 := zz_divl 128 8 16 (by omega) (by decide) (by omega) (by decide) av7 (by decide)
      have dcv7 := zz_divc 128 2 64 (by omega) (by omega) (by decide) (by decide) av7 (by decide)
      refine zz_callSI [zi 63, zi v7] zd_14_88_69 zk_Md_506 rfl rfl ⟨Nat.le_of_ble_eq_true rfl, Nat.le_of_ble_eq_true rfl⟩ ⟨rfl, rfl⟩ (Nat.zero_le _) (Nat.zero_le _) (zc_least_14_85 63 v7 S0 n hn G_S0 (by omega) (by omega)) (fun v10 S9 hP => ?_)
      obtain ⟨rfl, o11, o12⟩ := hP
      refine zz_istore [some (.ref 1079), some (zi p0), some (zi (p0 + 1)), some (zi (S0 1102 ((p0 + 1).toNat))), some (zi (S0 1103 ((p0 + 1).toNat))), some (zi v10)] zd_14_88_72 (by decide) rfl ?_
      refine zz_aload_n (x := 1079) rfl zd_14_88_74 ?_
      refine zz_iconst zd_14_88_75 ?_
      refine zz_puti zd_14_88_76 zf_Md_450 zT_1079 rfl (zz_ltn hn rfl) (fun S13 qS13 => ?_)
      have G_S13 := zz_G.put G_S0 qS13 (-2147483648) 2147483647 rfl (by omega)
      have F_S13 := zz_fr.puts F_S0 qS13 rfl
      refine zz_aload_n (x := 1079) rfl zd_14_88_79 ?_
      refine zz_iconst zd_14_88_80 ?_
      refine zz_puti zd_14_88_81 zf_Md_447 zT_1079 rfl (zz_ltn hn rfl) (fun S14 qS14 => ?_)
      have G_S14 := zz_G.put G_S13 qS14 (-2147483648) 2147483647 rfl (by omega)
      have F_S14 := zz_fr.puts F_S13 qS14 rfl
      refine zz_aload_n (x := 1079) rfl zd_14_88_84 ?_
      refine zz_iconst zd_14_88_85 ?_
      refine zz_puti zd_14_88_86 zf_Md_466 zT_1079 rfl (zz_ltn hn rfl) (fun S15 qS15 => ?_)
      have G_S15 := zz_G.put G_S14 qS15 (-2147483648) 2147483647 rfl (by omega)
      have F_S15 := zz_fr.puts F_S14 qS15 rfl
      have e16 : S15 1079 56 = 0 := (zz_rs qS15)
      have g17 := zz_G.r G_S0 1079 10 0 1000000 rfl rfl
      have e18 : S15 1079 10 = S0 1079 10 := (zz_ro qS15 (fun h => absurd h.2 (by decide)) (zz_ro qS14 (fun h => absurd h.2 (by decide)) (zz_ro qS13 (fun h => absurd h.2 (by decide)) rfl)))
      refine zz_less (ls1 := [some (.ref 1079), some (zi p0), some (zi (p0 + 1)), some (zi (S0 1102 ((p0 + 1).toNat))), some (zi (S0 1103 ((p0 + 1).toNat))), some (zi v10)]) ⟨rfl, ⟨rfl, ⟨rfl, ⟨rfl, ⟨rfl, ⟨rfl, trivial⟩⟩⟩⟩⟩⟩ ?_
      exact k89 (S0 1102 ((p0 + 1).toNat)) (S0 1103 ((p0 + 1).toNat)) v10 S15 G_S15 F_S15 (by omega) (by omega) (by omega) (by omega) (by omega)
    · exfalso; omega
  · refine zz_iconst zd_14_88_14 ?_
    refine zz_goto zd_14_88_15 ?_
    refine zz_istore_n [some (.ref 1079), some (zi p0), some (zi (p0 + 1)), some (zi 1)] zd_14_88_24 (by decide) rfl ?_
    refine zz_aload_n (x := 1079) rfl zd_14_88_25 ?_
    refine zz_getr (kd := 0) (z := 1106) zd_14_88_26 zf_Md_100 zT_1079 rfl (zz_ltn hn rfl) (zz_G.eq G_S0 1079 41 1106 rfl rfl) (by decide) 1106 rfl ?_
    refine zz_iload_n (x := p0) rfl zd_14_88_29 ?_
    refine zz_iald (z := S0 1106 p0.toNat) zd_14_88_30 zT_1106 rfl (zz_ltn hn rfl) (by decide) (by omega) rfl ?_
    refine zz_iconst zd_14_88_31 ?_
    refine zz_icmp_ne (by omega) (by omega) zd_14_88_32 (fun c19 => ?_) (fun c19 => ?_)
    · exfalso; omega
    · refine zz_aload_n (x := 1079) rfl zd_14_88_35 ?_
      refine zz_getr (kd := 0) (z := 1102) zd_14_88_36 zf_Md_88 zT_1079 rfl (zz_ltn hn rfl) (zz_G.eq G_S0 1079 37 1102 rfl rfl) (by decide) 1102 rfl ?_
      refine zz_iload_n (x := p0 + 1) rfl zd_14_88_39 ?_
      have g20 := zz_G.r G_S0 1102 ((p0 + 1).toNat) 0 63 rfl rfl
      refine zz_iald (z := S0 1102 ((p0 + 1).toNat)) zd_14_88_40 zT_1102 rfl (zz_ltn hn rfl) (by decide) (by omega) rfl ?_
      refine zz_aload_n (x := 1079) rfl zd_14_88_41 ?_
      refine zz_getr (kd := 0) (z := 1103) zd_14_88_42 zf_Md_91 zT_1079 rfl (zz_ltn hn rfl) (zz_G.eq G_S0 1079 38 1103 rfl rfl) (by decide) 1103 rfl ?_
      refine zz_iload_n (x := p0 + 1) rfl zd_14_88_45 ?_
      have g21 := zz_G.r G_S0 1103 ((p0 + 1).toNat) 0 63 rfl rfl
      refine zz_iald (z := S0 1103 ((p0 + 1).toNat)) zd_14_88_46 zT_1103 rfl (zz_ltn hn rfl) (by decide) (by omega) rfl ?_
      refine zz_imul zd_14_88_47 ?_
      have m22 := zz_mulb (a := S0 1102 ((p0 + 1).toNat)) (b := S0 1103 ((p0 + 1).toNat)) 63 63 3969 (by omega) (by omega) (by decide)
      refine zz_nme (fun v23 ev23 => ?_)
      refine zz_goto zd_14_88_48 ?_
      refine zz_istore [some (.ref 1079), some (zi p0), some (zi (p0 + 1)), some (zi 1), some (zi v23)] zd_14_88_57 (by decide) rfl ?_
      refine zz_bipush (by decide) zd_14_88_59 ?_
      refine zz_sipush (by decide) zd_14_88_61 ?_
      refine zz_aload_n (x := 1079) rfl zd_14_88_64 ?_
      have g24 := zz_G.r G_S0 1079 1 2 8 rfl rfl
      refine zz_geti (z := S0 1079 1) zd_14_88_65 zf_Md_7 zT_1079 rfl (zz_ltn hn rfl) rfl ?_
      refine zz_idiv (by omega) (by omega) zd_14_88_68 (fun v25 hv25 av25 bv25 cv25 => ?_)
      have m26 := zz_divb (by omega) (by omega) av25
      have dlv25 := zz_divl 128 8 16 (by omega) (by decide) (by omega) (by decide) av25 (by decide)
      have dcv25 := zz_divc 128 2 64 (by omega) (by omega) (by decide) (by decide) av25 (by decide)
      refine zz_callSI [zi 63, zi v25] zd_14_88_69 zk_Md_506 rfl rfl ⟨Nat.le_of_ble_eq_true rfl, Nat.le_of_ble_eq_true rfl⟩ ⟨rfl, rfl⟩ (Nat.zero_le _) (Nat.zero_le _) (zc_least_14_85 63 v25 S0 n hn G_S0 (by omega) (by omega)) (fun v28 S27 hP => ?_)
      obtain ⟨rfl, o29, o30⟩ := hP
      refine zz_istore [some (.ref 1079), some (zi p0), some (zi (p0 + 1)), some (zi 1), some (zi v23), some (zi v28)] zd_14_88_72 (by decide) rfl ?_
      refine zz_aload_n (x := 1079) rfl zd_14_88_74 ?_
      refine zz_iconst zd_14_88_75 ?_
      refine zz_puti zd_14_88_76 zf_Md_450 zT_1079 rfl (zz_ltn hn rfl) (fun S31 qS31 => ?_)
      have G_S31 := zz_G.put G_S0 qS31 (-2147483648) 2147483647 rfl (by omega)
      have F_S31 := zz_fr.puts F_S0 qS31 rfl
      refine zz_aload_n (x := 1079) rfl zd_14_88_79 ?_
      refine zz_iconst zd_14_88_80 ?_
      refine zz_puti zd_14_88_81 zf_Md_447 zT_1079 rfl (zz_ltn hn rfl) (fun S32 qS32 => ?_)
      have G_S32 := zz_G.put G_S31 qS32 (-2147483648) 2147483647 rfl (by omega)
      have F_S32 := zz_fr.puts F_S31 qS32 rfl
      refine zz_aload_n (x := 1079) rfl zd_14_88_84 ?_
      refine zz_iconst zd_14_88_85 ?_
      refine zz_puti zd_14_88_86 zf_Md_466 zT_1079 rfl (zz_ltn hn rfl) (fun S33 qS33 => ?_)
      have G_S33 := zz_G.put G_S32 qS33 (-2147483648) 2147483647 rfl (by omega)
      have F_S33 := zz_fr.puts F_S32 qS33 rfl
      have e34 : S33 1079 56 = 0 := (zz_rs qS33)
      have g35 := zz_G.r G_S0 1079 10 0 1000000 rfl rfl
      have e36 : S33 1079 10 = S0 1079 10 := (zz_ro qS33 (fun h => absurd h.2 (by decide)) (zz_ro qS32 (fun h => absurd h.2 (by decide)) (zz_ro qS31 (fun h => absurd h.2 (by decide)) rfl)))
      refine zz_less (ls1 := [some (.ref 1079), some (zi p0), some (zi (p0 + 1)), some (zi 1), some (zi v23), some (zi v28)]) ⟨rfl, ⟨rfl, ⟨rfl, ⟨rfl, ⟨rfl, ⟨rfl, trivial⟩⟩⟩⟩⟩⟩ ?_
      exact k89 1 v23 v28 S33 G_S33 F_S33 (by omega) (by omega) (by omega) (by omega) (by omega)
abbrev zy_compile_14_89 : mm_Y := (⟨"TensorForgeModel", "compile", "()I"⟩, prog_14_method_89_code, 2, (some .int))
theorem zyw_compile_14_89 : mm_Yw zy_compile_14_89 0 := ⟨mm_tb_1 2136 (by decide +kernel) rfl, mm_tb_1 12 (by decide +kernel) rfl, ⟨by decide, by decide⟩, by decide +kernel⟩
theorem zk_Md_512 : mm_Vl "TensorForgeModel" 512 11 1 zy_layer_14_88 := ⟨zyw_layer_14_88, (R_Md, F_Md, 69), rfl, mm_tb_1 2137 (by decide +kernel) rfl, mm_tb_1 2139 (by decide +kernel) rfl, mm_tb_s 127 (by decide +kernel) rfl⟩
theorem zg_14_89_0 : zq_at zy_compile_14_89.2.1 0 42 ∧ zq_at zy_compile_14_89.2.1 1 3 ∧ zq_at zy_compile_14_89.2.1 2 181 ∧ zq_at zy_compile_14_89.2.1 3 1 ∧ zq_at zy_compile_14_89.2.1 4 116 ∧ zq_at zy_compile_14_89.2.1 5 3 ∧ zq_at zy_compile_14_89.2.1 6 60 ∧ zq_at zy_compile_14_89.2.1 7 27 ∧ zq_at zy_compile_14_89.2.1 8 42 ∧ zq_at zy_compile_14_89.2.1 9 180 ∧ zq_at zy_compile_14_89.2.1 10 0 ∧ zq_at zy_compile_14_89.2.1 11 85 ∧ zq_at zy_compile_14_89.2.1 12 4 ∧ zq_at zy_compile_14_89.2.1 13 100 ∧ zq_at zy_compile_14_89.2.1 14 162 ∧ zq_at zy_compile_14_89.2.1 15 0 ∧ zq_at zy_compile_14_89.2.1 16 14 ∧ zq_at zy_compile_14_89.2.1 28 42 ∧ zq_at zy_compile_14_89.2.1 29 42 ∧ zq_at zy_compile_14_89.2.1 30 180 ∧ zq_at zy_compile_14_89.2.1 31 1 ∧ zq_at zy_compile_14_89.2.1 32 116 := by decide +kernel
theorem zd_14_89_0 : zz_D zy_compile_14_89 0 (.aload_n 0) 1 1 := ⟨zq_42 zg_14_89_0.1, rfl⟩
theorem zd_14_89_1 : zz_D zy_compile_14_89 1 (.iconst 0) 1 2 := ⟨zq_3 zg_14_89_0.2.1, rfl⟩
theorem zd_14_89_2 : zz_D zy_compile_14_89 2 (.putfield 372) 3 5 := ⟨zq_181 zg_14_89_0.2.2.1 zg_14_89_0.2.2.2.1 zg_14_89_0.2.2.2.2.1 rfl, rfl⟩
theorem zd_14_89_5 : zz_D zy_compile_14_89 5 (.iconst 0) 1 6 := ⟨zq_3 zg_14_89_0.2.2.2.2.2.1, rfl⟩
theorem zd_14_89_6 : zz_D zy_compile_14_89 6 (.istore_n 1) 1 7 := ⟨zq_60 zg_14_89_0.2.2.2.2.2.2.1, rfl⟩
theorem zd_14_89_7 : zz_D zy_compile_14_89 7 (.iload_n 1) 1 8 := ⟨zq_27 zg_14_89_0.2.2.2.2.2.2.2.1, rfl⟩
theorem zd_14_89_8 : zz_D zy_compile_14_89 8 (.aload_n 0) 1 9 := ⟨zq_42 zg_14_89_0.2.2.2.2.2.2.2.2.1, rfl⟩
theorem zd_14_89_9 : zz_D zy_compile_14_89 9 (.getfield 85) 3 12 := ⟨zq_180 zg_14_89_0.2.2.2.2.2.2.2.2.2.1 zg_14_89_0.2.2.2.2.2.2.2.2.2.2.1 zg_14_89_0.2.2.2.2.2.2.2.2.2.2.2.1 rfl, rfl⟩
theorem zd_14_89_12 : zz_D zy_compile_14_89 12 (.iconst 1) 1 13 := ⟨zq_4 zg_14_89_0.2.2.2.2.2.2.2.2.2.2.2.2.1, rfl⟩
theorem zd_14_89_13 : zz_D zy_compile_14_89 13 (.isub) 1 14 := ⟨zq_100 zg_14_89_0.2.2.2.2.2.2.2.2.2.2.2.2.2.1, rfl⟩
theorem zd_14_89_14 : zz_B zy_compile_14_89 14 (Instr.if_icmp .ge) 28 17 := ⟨14, zq_162 zg_14_89_0.2.2.2.2.2.2.2.2.2.2.2.2.2.2.1 zg_14_89_0.2.2.2.2.2.2.2.2.2.2.2.2.2.2.2.1 zg_14_89_0.2.2.2.2.2.2.2.2.2.2.2.2.2.2.2.2.1 (by decide), rfl, rfl⟩
theorem zd_14_89_28 : zz_D zy_compile_14_89 28 (.aload_n 0) 1 29 := ⟨zq_42 zg_14_89_0.2.2.2.2.2.2.2.2.2.2.2.2.2.2.2.2.2.1, rfl⟩
theorem zd_14_89_29 : zz_D zy_compile_14_89 29 (.aload_n 0) 1 30 := ⟨zq_42 zg_14_89_0.2.2.2.2.2.2.2.2.2.2.2.2.2.2.2.2.2.2.1, rfl⟩
theorem zd_14_89_30 : zz_D zy_compile_14_89 30 (.getfield 372) 3 33 := ⟨zq_180 zg_14_89_0.2.2.2.2.2.2.2.2.2.2.2.2.2.2.2.2.2.2.2.1 zg_14_89_0.2.2.2.2.2.2.2.2.2.2.2.2.2.2.2.2.2.2.2.2.1 zg_14_89_0.2.2.2.2.2.2.2.2.2.2.2.2.2.2.2.2.2.2.2.2.2 rfl, rfl⟩
theorem zg_14_89_33 : zq_at zy_compile_14_89.2.1 33 17 ∧ zq_at zy_compile_14_89.2.1 34 2 ∧ zq_at zy_compile_14_89.2.1 35 88 ∧ zq_at zy_compile_14_89.2.1 36 164 ∧ zq_at zy_compile_14_89.2.1 37 0 ∧ zq_at zy_compile_14_89.2.1 38 7 ∧ zq_at zy_compile_14_89.2.1 43 3 ∧ zq_at zy_compile_14_89.2.1 44 3 ∧ zq_at zy_compile_14_89.2.1 45 3 ∧ zq_at zy_compile_14_89.2.1 46 182 ∧ zq_at zy_compile_14_89.2.1 47 0 ∧ zq_at zy_compile_14_89.2.1 48 196 ∧ zq_at zy_compile_14_89.2.1 49 153 ∧ zq_at zy_compile_14_89.2.1 50 0 ∧ zq_at zy_compile_14_89.2.1 51 5 ∧ zq_at zy_compile_14_89.2.1 54 42 ∧ zq_at zy_compile_14_89.2.1 55 182 ∧ zq_at zy_compile_14_89.2.1 56 1 ∧ zq_at zy_compile_14_89.2.1 57 126 ∧ zq_at zy_compile_14_89.2.1 58 42 ∧ zq_at zy_compile_14_89.2.1 59 180 ∧ zq_at zy_compile_14_89.2.1 60 0 ∧ zq_at zy_compile_14_89.2.1 61 224 ∧ zq_at zy_compile_14_89.2.1 62 172 := by decide +kernel
theorem zd_14_89_33 : zz_D zy_compile_14_89 33 (.sipush 600) 3 36 := ⟨zq_17 zg_14_89_33.1 zg_14_89_33.2.1 zg_14_89_33.2.2.1 (by decide), rfl⟩
theorem zd_14_89_36 : zz_B zy_compile_14_89 36 (Instr.if_icmp .le) 43 39 := ⟨7, zq_164 zg_14_89_33.2.2.2.1 zg_14_89_33.2.2.2.2.1 zg_14_89_33.2.2.2.2.2.1 (by decide), rfl, rfl⟩
theorem zd_14_89_43 : zz_D zy_compile_14_89 43 (.iconst 0) 1 44 := ⟨zq_3 zg_14_89_33.2.2.2.2.2.2.1, rfl⟩
theorem zd_14_89_44 : zz_D zy_compile_14_89 44 (.iconst 0) 1 45 := ⟨zq_3 zg_14_89_33.2.2.2.2.2.2.2.1, rfl⟩
theorem zd_14_89_45 : zz_D zy_compile_14_89 45 (.iconst 0) 1 46 := ⟨zq_3 zg_14_89_33.2.2.2.2.2.2.2.2.1, rfl⟩
theorem zd_14_89_46 : zz_D zy_compile_14_89 46 (.invokevirtual 196) 3 49 := ⟨zq_182 zg_14_89_33.2.2.2.2.2.2.2.2.2.1 zg_14_89_33.2.2.2.2.2.2.2.2.2.2.1 zg_14_89_33.2.2.2.2.2.2.2.2.2.2.2.1 rfl, rfl⟩
theorem zd_14_89_49 : zz_B zy_compile_14_89 49 (Instr.ifCond .eq) 54 52 := ⟨5, zq_153 zg_14_89_33.2.2.2.2.2.2.2.2.2.2.2.2.1 zg_14_89_33.2.2.2.2.2.2.2.2.2.2.2.2.2.1 zg_14_89_33.2.2.2.2.2.2.2.2.2.2.2.2.2.2.1 (by decide), rfl, rfl⟩
theorem zd_14_89_54 : zz_D zy_compile_14_89 54 (.aload_n 0) 1 55 := ⟨zq_42 zg_14_89_33.2.2.2.2.2.2.2.2.2.2.2.2.2.2.2.1, rfl⟩
theorem zd_14_89_55 : zz_D zy_compile_14_89 55 (.invokevirtual 382) 3 58 := ⟨zq_182 zg_14_89_33.2.2.2.2.2.2.2.2.2.2.2.2.2.2.2.2.1 zg_14_89_33.2.2.2.2.2.2.2.2.2.2.2.2.2.2.2.2.2.1 zg_14_89_33.2.2.2.2.2.2.2.2.2.2.2.2.2.2.2.2.2.2.1 rfl, rfl⟩
theorem zd_14_89_58 : zz_D zy_compile_14_89 58 (.aload_n 0) 1 59 := ⟨zq_42 zg_14_89_33.2.2.2.2.2.2.2.2.2.2.2.2.2.2.2.2.2.2.2.1, rfl⟩
theorem zd_14_89_59 : zz_D zy_compile_14_89 59 (.getfield 224) 3 62 := ⟨zq_180 zg_14_89_33.2.2.2.2.2.2.2.2.2.2.2.2.2.2.2.2.2.2.2.2.1 zg_14_89_33.2.2.2.2.2.2.2.2.2.2.2.2.2.2.2.2.2.2.2.2.2.1 zg_14_89_33.2.2.2.2.2.2.2.2.2.2.2.2.2.2.2.2.2.2.2.2.2.2.1 rfl, rfl⟩
theorem zd_14_89_62 : zz_D zy_compile_14_89 62 (.ireturn) 1 63 := ⟨zq_172 zg_14_89_33.2.2.2.2.2.2.2.2.2.2.2.2.2.2.2.2.2.2.2.2.2.2.2, rfl⟩
theorem zg_14_89_39 : zq_at zy_compile_14_89.2.1 39 4 ∧ zq_at zy_compile_14_89.2.1 40 167 ∧ zq_at zy_compile_14_89.2.1 41 0 ∧ zq_at zy_compile_14_89.2.1 42 4 ∧ zq_at zy_compile_14_89.2.1 52 3 ∧ zq_at zy_compile_14_89.2.1 53 172 ∧ zq_at zy_compile_14_89.2.1 17 42 ∧ zq_at zy_compile_14_89.2.1 18 27 ∧ zq_at zy_compile_14_89.2.1 19 182 ∧ zq_at zy_compile_14_89.2.1 20 2 ∧ zq_at zy_compile_14_89.2.1 21 0 ∧ zq_at zy_compile_14_89.2.1 22 132 ∧ zq_at zy_compile_14_89.2.1 23 1 ∧ zq_at zy_compile_14_89.2.1 24 1 ∧ zq_at zy_compile_14_89.2.1 25 167 ∧ zq_at zy_compile_14_89.2.1 26 255 ∧ zq_at zy_compile_14_89.2.1 27 238 := by decide +kernel
theorem zd_14_89_39 : zz_D zy_compile_14_89 39 (.iconst 1) 1 40 := ⟨zq_4 zg_14_89_39.1, rfl⟩
theorem zd_14_89_40 : zz_B zy_compile_14_89 40 Instr.goto 44 43 := ⟨4, zq_167 zg_14_89_39.2.1 zg_14_89_39.2.2.1 zg_14_89_39.2.2.2.1 (by decide), rfl, rfl⟩
theorem zd_14_89_52 : zz_D zy_compile_14_89 52 (.iconst 0) 1 53 := ⟨zq_3 zg_14_89_39.2.2.2.2.1, rfl⟩
theorem zd_14_89_53 : zz_D zy_compile_14_89 53 (.ireturn) 1 54 := ⟨zq_172 zg_14_89_39.2.2.2.2.2.1, rfl⟩
theorem zd_14_89_17 : zz_D zy_compile_14_89 17 (.aload_n 0) 1 18 := ⟨zq_42 zg_14_89_39.2.2.2.2.2.2.1, rfl⟩
theorem zd_14_89_18 : zz_D zy_compile_14_89 18 (.iload_n 1) 1 19 := ⟨zq_27 zg_14_89_39.2.2.2.2.2.2.2.1, rfl⟩
theorem zd_14_89_19 : zz_D zy_compile_14_89 19 (.invokevirtual 512) 3 22 := ⟨zq_182 zg_14_89_39.2.2.2.2.2.2.2.2.1 zg_14_89_39.2.2.2.2.2.2.2.2.2.1 zg_14_89_39.2.2.2.2.2.2.2.2.2.2.1 rfl, rfl⟩
theorem zd_14_89_22 : zz_D zy_compile_14_89 22 (.iinc 1 1) 3 25 := ⟨zq_132 zg_14_89_39.2.2.2.2.2.2.2.2.2.2.2.1 zg_14_89_39.2.2.2.2.2.2.2.2.2.2.2.2.1 zg_14_89_39.2.2.2.2.2.2.2.2.2.2.2.2.2.1 (by decide), rfl⟩
theorem zd_14_89_25 : zz_B zy_compile_14_89 25 Instr.goto 7 28 := ⟨(-18), zq_167 zg_14_89_39.2.2.2.2.2.2.2.2.2.2.2.2.2.2.1 zg_14_89_39.2.2.2.2.2.2.2.2.2.2.2.2.2.2.2.1 zg_14_89_39.2.2.2.2.2.2.2.2.2.2.2.2.2.2.2.2 (by decide), rfl, rfl⟩

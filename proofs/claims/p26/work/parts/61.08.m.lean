-- TensorForgeModel groupLoads (IIIIIZZ)V
abbrev zr_groupLoads_14_84 : Room := { frames := 4, cells := 0, slots := 0, locals := 59 }
def zp_groupLoads_14_84 (p0 : Int) (p1 : Int) (p2 : Int) (p3 : Int) (p4 : Int) (p5 : Int) (p6 : Int) (S0 : zz_S) : zz_S → Prop := fun S => zz_G S ∧ zz_fr [(1079, 10), (1079, 57)] [1086, 1087] (fun _ _ => False) S0 S ∧ (S0 1079 10 ≤ S 1079 10 ∧ S 1079 10 ≤ S0 1079 10 + 5) ∧ (p6 = 1 → S 1079 10 = S0 1079 10)
theorem zb_groupLoads_14_84_75 {g : mm_G} {l : Launch} (p0 : Int) (p1 : Int) (p2 : Int) (p3 : Int) (p4 : Int) (p5 : Int) (p6 : Int) (S0 : zz_S) (n : Nat) (hn : zz_end ≤ n) (G_S0 : zz_G S0) (hp0 : 0 ≤ p0 ∧ p0 ≤ 9) (hp1 : (-2147483648) ≤ p1 ∧ p1 ≤ 2147483647) (hp2 : (-2147483648) ≤ p2 ∧ p2 ≤ 2147483647) (hp3 : (-2147483648) ≤ p3 ∧ p3 ≤ 2147483647) (hp4 : (-2147483648) ≤ p4 ∧ p4 ≤ 2147483647) (hp5 : 0 ≤ p5 ∧ p5 ≤ 1) (hp6 : 0 ≤ p6 ∧ p6 ≤ 1) (hq : S0 1079 10 ≤ 900000) (x8 : Int) (x9 : Int) (S : zz_S) (G_S : zz_G S) (F_S : zz_fr [(1079, 10), (1079, 57)] [1086, 1087] (fun _ _ => False) S0 S) (i75_0 : 0 ≤ x8 ∧ x8 ≤ 10) (i75_1 : 0 ≤ x9 ∧ x9 ≤ 63) (i75_2 : S0 1079 10 ≤ S 1079 10 ∧ S 1079 10 ≤ S0 1079 10 + 1) (i75_3 : p6 = 1 → S 1079 10 = S0 1079 10) (R : Nat) (hR : (137438953472 + 0) = R) (k158 : ∀ (x8 : Int) (S : zz_S), zz_G S → zz_fr [(1079, 10), (1079, 57)] [1086, 1087] (fun _ _ => False) S0 S → (0 ≤ x8 ∧ x8 ≤ 10) → (S0 1079 10 ≤ S 1079 10 ∧ S 1079 10 ≤ S0 1079 10 + 2) → (p6 = 1 → S 1079 10 = S0 1079 10) → (120259084288 + 0) < R → zz_E g l zy_groupLoads_14_84 zr_groupLoads_14_84 (zz_QV n (zp_groupLoads_14_84 p0 p1 p2 p3 p4 p5 p6 S0)) S n 158 [some (.ref 1079), some (zi p0), some (zi p1), some (zi p2), some (zi p3), some (zi p4), none, some (zi p6), some (zi x8)] [] 0 0) : zz_E g l zy_groupLoads_14_84 zr_groupLoads_14_84 (zz_QV n (zp_groupLoads_14_84 p0 p1 p2 p3 p4 p5 p6 S0)) S n 75 [some (.ref 1079), some (zi p0), some (zi p1), some (zi p2), some (zi p3), some (zi p4), none, some (zi p6), some (zi x8), some (zi x9)] [] 0 0 := by
  refine zz_aload_n (x := 1079) rfl zd_14_84_75 ?_
  refine zz_getr (kd := 0) (z := 1106) zd_14_84_76 zf_Md_100 zT_1079 rfl (zz_ltn hn rfl) (zz_G.eq G_S 1079 41 1106 rfl rfl) (by decide) 1106 rfl ?_
  refine zz_iload_n (x := p0) rfl zd_14_84_79 ?_
  have g28 := zz_G.r G_S0 1106 p0.toNat 0 2 rfl rfl
  refine zz_iald (z := S0 1106 p0.toNat) zd_14_84_80 zT_1106 rfl (zz_ltn hn rfl) (by decide) (by omega) (zz_rc F_S (zz_nc1 rfl) rfl (fun h => h) rfl) ?_
  refine zz_if_ne (by omega) zd_14_84_81 (fun c29 => ?_) (fun c29 => ?_)
  · have g30 := zz_G.r G_S 1079 10 0 1000000 rfl rfl
    refine zz_less (ls1 := [some (.ref 1079), some (zi p0), some (zi p1), some (zi p2), some (zi p3), some (zi p4), none, some (zi p6), some (zi x8)]) ⟨rfl, ⟨rfl, ⟨rfl, ⟨rfl, ⟨rfl, ⟨rfl, ⟨rfl, ⟨rfl, trivial⟩⟩⟩⟩⟩⟩⟩⟩ ?_
    exact k158 x8 S G_S F_S (by omega) (by omega) (by omega) (by omega)
  · refine zz_iload_n (x := p1) rfl zd_14_84_84 ?_
    refine zz_aload_n (x := 1079) rfl zd_14_84_85 ?_
    refine zz_getr (kd := 0) (z := 1110) zd_14_84_86 zf_Md_112 zT_1079 rfl (zz_ltn hn rfl) (zz_G.eq G_S 1079 45 1110 rfl rfl) (by decide) 1110 rfl ?_
    refine zz_iload_n (x := p0) rfl zd_14_84_89 ?_
    have g31 := zz_G.r G_S0 1110 p0.toNat 0 3 rfl rfl
    refine zz_iald (z := S0 1110 p0.toNat) zd_14_84_90 zT_1110 rfl (zz_ltn hn rfl) (by decide) (by omega) (zz_rc F_S (zz_nc1 rfl) rfl (fun h => h) rfl) ?_
    refine zz_imul zd_14_84_91 ?_
    refine zz_nrm (fun v32 hv32 ev32 => ?_)
    clear ev32
    refine zz_iload_n (x := p2) rfl zd_14_84_92 ?_
    refine zz_iadd zd_14_84_93 ?_
    refine zz_nrm (fun v33 hv33 ev33 => ?_)
    clear ev33
    refine zz_aload_n (x := 1079) rfl zd_14_84_94 ?_
    refine zz_getr (kd := 0) (z := 1104) zd_14_84_95 zf_Md_94 zT_1079 rfl (zz_ltn hn rfl) (zz_G.eq G_S 1079 39 1104 rfl rfl) (by decide) 1104 rfl ?_
    refine zz_iload (x := x8) rfl zd_14_84_98 ?_
    have g34 := zz_G.r G_S0 1104 x8.toNat 0 63 rfl rfl
    refine zz_iald (z := S0 1104 x8.toNat) zd_14_84_100 zT_1104 rfl (zz_ltn hn rfl) (by decide) (by omega) (zz_rc F_S (zz_nc1 rfl) rfl (fun h => h) rfl) ?_
    refine zz_imul zd_14_84_101 ?_
    refine zz_nrm (fun v35 hv35 ev35 => ?_)
    clear ev35
    refine zz_iload (x := p3) rfl zd_14_84_102 ?_
    refine zz_iadd zd_14_84_104 ?_
    refine zz_nrm (fun v36 hv36 ev36 => ?_)
    clear ev36
    refine zz_istore [some (.ref 1079), some (zi p0), some (zi p1), some (zi p2), some (zi p3), some (zi p4), none, some (zi p6), some (zi x8), some (zi x9), some (zi v36)] zd_14_84_105 (by decide) rfl ?_
    refine zz_aload_n (x := 1079) rfl zd_14_84_107 ?_
    refine zz_iconst zd_14_84_108 ?_
    refine zz_aload_n (x := 1079) rfl zd_14_84_109 ?_
    refine zz_getr (kd := 0) (z := 1114) zd_14_84_110 zf_Md_124 zT_1079 rfl (zz_ltn hn rfl) (zz_G.eq G_S 1079 49 1114 rfl rfl) (by decide) 1114 rfl ?_
    refine zz_iload_n (x := p0) rfl zd_14_84_113 ?_
    have g37 := zz_G.r G_S0 1114 p0.toNat 0 4096 rfl rfl
    refine zz_iald (z := S0 1114 p0.toNat) zd_14_84_114 zT_1114 rfl (zz_ltn hn rfl) (by decide) (by omega) (zz_rc F_S (zz_nc1 rfl) rfl (fun h => h) rfl) ?_
    refine zz_iconst zd_14_84_115 ?_
    refine zz_iload (x := x9) rfl zd_14_84_116 ?_
    refine zz_imul zd_14_84_118 ?_
    refine zz_iadd zd_14_84_119 ?_
    refine zz_iload (x := v36) rfl zd_14_84_120 ?_
    refine zz_iload (x := x9) rfl zd_14_84_122 ?_
    refine zz_imul zd_14_84_124 ?_
    refine zz_nrm (fun v38 hv38 ev38 => ?_)
    clear ev38
    refine zz_iadd zd_14_84_125 ?_
    refine zz_nrm (fun v39 hv39 ev39 => ?_)
    clear ev39
    refine zz_aload_n (x := 1079) rfl zd_14_84_126 ?_
    have g40 := zz_G.r G_S0 1079 56 (-2147483648) 2147483647 rfl rfl
    refine zz_geti (z := S0 1079 56) zd_14_84_127 zf_Md_466 zT_1079 rfl (zz_ltn hn rfl) (zz_rc F_S rfl rfl (fun h => h) rfl) ?_
    refine zz_iadd zd_14_84_130 ?_
    refine zz_nrm (fun v41 hv41 ev41 => ?_)
    clear ev41
    refine zz_iload (x := p4) rfl zd_14_84_131 ?_
    refine zz_aload_n (x := 1079) rfl zd_14_84_133 ?_
    have g42 := zz_G.r G_S0 1079 53 (-2147483648) 2147483647 rfl rfl
    refine zz_geti (z := S0 1079 53) zd_14_84_134 zf_Md_472 zT_1079 rfl (zz_ltn hn rfl) (zz_rc F_S rfl rfl (fun h => h) rfl) ?_
    refine zz_callVV [zi 2, zi v41, zi p4, zi (S0 1079 53)] zd_14_84_137 zk_Md_475 zT_1079 (zz_ltn hn rfl) rfl rfl ⟨Nat.le_of_ble_eq_true rfl, Nat.le_of_ble_eq_true rfl⟩ ⟨rfl, rfl⟩ (Nat.zero_le _) (Nat.zero_le _) (zc_set_14_78 2 v41 p4 (S0 1079 53) S n hn G_S (by omega) (by omega) (by omega) (by omega)) (fun S43 hP => ?_)
    obtain ⟨G_S43, fS43⟩ := hP
    have F_S43 := zz_fr.trans F_S fS43 rfl zz_nv
    refine zz_aload_n (x := 1079) rfl zd_14_84_140 ?_
    refine zz_aload_n (x := 1079) rfl zd_14_84_141 ?_
    refine zz_callVI [] zd_14_84_142 zk_Md_489 zT_1079 (zz_ltn hn rfl) rfl rfl ⟨Nat.le_of_ble_eq_true rfl, Nat.le_of_ble_eq_true rfl⟩ ⟨rfl, rfl⟩ (Nat.zero_le _) (Nat.zero_le _) (zc_half_14_80  S43 n hn G_S43 ) (fun v46 S45 hP => ?_)
    obtain ⟨rfl, o47⟩ := hP
    refine zz_iconst zd_14_84_145 ?_
    refine zz_iload (x := x9) rfl zd_14_84_146 ?_
    refine zz_iconst zd_14_84_148 ?_
    refine zz_callVV [zi v46, zi 0, zi x9, zi 0] zd_14_84_149 zk_Md_482 zT_1079 (zz_ltn hn rfl) rfl rfl ⟨Nat.le_of_ble_eq_true rfl, Nat.le_of_ble_eq_true rfl⟩ ⟨rfl, rfl⟩ (Nat.zero_le _) (Nat.zero_le _) (zc_with_14_79 v46 0 x9 0 S43 n hn G_S43 (by omega) (by omega) (by omega) (by omega)) (fun S48 hP => ?_)
    obtain ⟨G_S48, fS48⟩ := hP
    have F_S48 := zz_fr.trans F_S43 fS48 rfl zz_nv
    refine zz_aload_n (x := 1079) rfl zd_14_84_152 ?_
    refine zz_iload (x := p6) rfl zd_14_84_153 ?_
    have g50 := zz_G.r G_S 1079 10 0 1000000 rfl rfl
    have e51 : S48 1079 10 = S 1079 10 := (zz_rc fS48 rfl rfl (fun h => h) (zz_rc fS43 rfl rfl (fun h => h) rfl))
    refine zz_callVV [zi p6] zd_14_84_155 zk_Md_485 zT_1079 (zz_ltn hn rfl) rfl rfl ⟨Nat.le_of_ble_eq_true rfl, Nat.le_of_ble_eq_true rfl⟩ ⟨rfl, rfl⟩ (Nat.zero_le _) (Nat.zero_le _) (zc_load_14_82 p6 S48 n hn G_S48 (by omega) (by omega)) (fun S52 hP => ?_)
    obtain ⟨G_S52, fS52, o54, o55⟩ := hP
    have F_S52 := zz_fr.trans F_S48 fS52 rfl zz_nv
    have g56 := zz_G.r G_S52 1079 10 0 1000000 rfl rfl
    refine zz_less (ls1 := [some (.ref 1079), some (zi p0), some (zi p1), some (zi p2), some (zi p3), some (zi p4), none, some (zi p6), some (zi x8)]) ⟨rfl, ⟨rfl, ⟨rfl, ⟨rfl, ⟨rfl, ⟨rfl, ⟨rfl, ⟨rfl, trivial⟩⟩⟩⟩⟩⟩⟩⟩ ?_
    exact k158 x8 S52 G_S52 F_S52 (by omega) (by omega) (by omega) (by omega)
theorem zb_groupLoads_14_84_158 {g : mm_G} {l : Launch} (p0 : Int) (p1 : Int) (p2 : Int) (p3 : Int) (p4 : Int) (p5 : Int) (p6 : Int) (S0 : zz_S) (n : Nat) (hn : zz_end ≤ n) (G_S0 : zz_G S0) (hp0 : 0 ≤ p0 ∧ p0 ≤ 9) (hp1 : (-2147483648) ≤ p1 ∧ p1 ≤ 2147483647) (hp2 : (-2147483648) ≤ p2 ∧ p2 ≤ 2147483647) (hp3 : (-2147483648) ≤ p3 ∧ p3 ≤ 2147483647) (hp4 : (-2147483648) ≤ p4 ∧ p4 ≤ 2147483647) (hp5 : 0 ≤ p5 ∧ p5 ≤ 1) (hp6 : 0 ≤ p6 ∧ p6 ≤ 1) (hq : S0 1079 10 ≤ 900000) (x8 : Int) (S : zz_S) (G_S : zz_G S) (F_S : zz_fr [(1079, 10), (1079, 57)] [1086, 1087] (fun _ _ => False) S0 S) (i158_0 : 0 ≤ x8 ∧ x8 ≤ 10) (i158_1 : S0 1079 10 ≤ S 1079 10 ∧ S 1079 10 ≤ S0 1079 10 + 2) (i158_2 : p6 = 1 → S 1079 10 = S0 1079 10) (R : Nat) (hR : (120259084288 + 0) = R) (k247 : ∀ (x8 : Int) (S : zz_S), zz_G S → zz_fr [(1079, 10), (1079, 57)] [1086, 1087] (fun _ _ => False) S0 S → (0 ≤ x8 ∧ x8 ≤ 10) → (S0 1079 10 ≤ S 1079 10 ∧ S 1079 10 ≤ S0 1079 10 + 2) → (p6 = 1 → S 1079 10 = S0 1079 10) → (103079215104 + 0) < R → zz_E g l zy_groupLoads_14_84 zr_groupLoads_14_84 (zz_QV n (zp_groupLoads_14_84 p0 p1 p2 p3 p4 p5 p6 S0)) S n 247 [some (.ref 1079), some (zi p0), some (zi p1), some (zi p2), some (zi p3), some (zi p4), none, some (zi p6), some (zi x8)] [] 0 0) : zz_E g l zy_groupLoads_14_84 zr_groupLoads_14_84 (zz_QV n (zp_groupLoads_14_84 p0 p1 p2 p3 p4 p5 p6 S0)) S n 158 [some (.ref 1079), some (zi p0), some (zi p1), some (zi p2), some (zi p3), some (zi p4), none, some (zi p6), some (zi x8)] [] 0 0 := by
  refine zz_aload_n (x := 1079) rfl zd_14_84_158 ?_
  refine zz_getr (kd := 0) (z := 1106) zd_14_84_159 zf_Md_100 zT_1079 rfl (zz_ltn hn rfl) (zz_G.eq G_S 1079 41 1106 rfl rfl) (by decide) 1106 rfl ?_
  refine zz_iload_n (x := p0) rfl zd_14_84_162 ?_
  have g57 := zz_G.r G_S0 1106 p0.toNat 0 2 rfl rfl
  refine zz_iald (z := S0 1106 p0.toNat) zd_14_84_163 zT_1106 rfl (zz_ltn hn rfl) (by decide) (by omega) (zz_rc F_S (zz_nc1 rfl) rfl (fun h => h) rfl) ?_
  refine zz_iconst zd_14_84_164 ?_
  refine zz_icmp_ne (by omega) (by omega) zd_14_84_165 (fun c58 => ?_) (fun c58 => ?_)
  · have g59 := zz_G.r G_S 1079 10 0 1000000 rfl rfl
    exact k247 x8 S G_S F_S (by omega) (by omega) (by omega) (by omega)
  · refine zz_iload_n (x := p1) rfl zd_14_84_168 ?_
    refine zz_if_ne (by omega) zd_14_84_169 (fun c60 => ?_) (fun c60 => ?_)
    · refine zz_aload_n (x := 1079) rfl zd_14_84_181 ?_
      refine zz_getr (kd := 0) (z := 1108) zd_14_84_182 zf_Md_106 zT_1079 rfl (zz_ltn hn rfl) (zz_G.eq G_S 1079 43 1108 rfl rfl) (by decide) 1108 rfl ?_
      refine zz_iload_n (x := p0) rfl zd_14_84_185 ?_
      have g61 := zz_G.r G_S0 1108 p0.toNat 0 10 rfl rfl
      refine zz_iald (z := S0 1108 p0.toNat) zd_14_84_186 zT_1108 rfl (zz_ltn hn rfl) (by decide) (by omega) (zz_rc F_S (zz_nc1 rfl) rfl (fun h => h) rfl) ?_
      refine zz_istore [some (.ref 1079), some (zi p0), some (zi p1), some (zi p2), some (zi p3), some (zi p4), none, some (zi p6), some (zi x8), none, some (zi (S0 1108 p0.toNat))] zd_14_84_187 (by decide) rfl ?_
      refine zz_aload_n (x := 1079) rfl zd_14_84_189 ?_
      refine zz_iconst zd_14_84_190 ?_
      refine zz_aload_n (x := 1079) rfl zd_14_84_191 ?_
      refine zz_getr (kd := 0) (z := 1105) zd_14_84_192 zf_Md_97 zT_1079 rfl (zz_ltn hn rfl) (zz_G.eq G_S 1079 40 1105 rfl rfl) (by decide) 1105 rfl ?_
      refine zz_iload (x := S0 1108 p0.toNat) rfl zd_14_84_195 ?_
      have g62 := zz_G.r G_S0 1105 ((S0 1108 p0.toNat).toNat) (0) (if (S0 1108 p0.toNat).toNat = 0 then 0 else 10000000) rfl rfl
      refine zz_iald (z := S0 1105 ((S0 1108 p0.toNat).toNat)) zd_14_84_197 zT_1105 rfl (zz_ltn hn rfl) (by decide) (by omega) (zz_rc F_S (zz_nc1 rfl) rfl (fun h => h) rfl) ?_
      refine zz_aload_n (x := 1079) rfl zd_14_84_198 ?_
      have g63 := zz_G.r G_S0 1079 54 (-2147483648) 2147483647 rfl rfl
      refine zz_geti (z := S0 1079 54) zd_14_84_199 zf_Md_492 zT_1079 rfl (zz_ltn hn rfl) (zz_rc F_S rfl rfl (fun h => h) rfl) ?_
      refine zz_aload_n (x := 1079) rfl zd_14_84_202 ?_
      refine zz_getr (kd := 0) (z := 1104) zd_14_84_203 zf_Md_94 zT_1079 rfl (zz_ltn hn rfl) (zz_G.eq G_S 1079 39 1104 rfl rfl) (by decide) 1104 rfl ?_
      refine zz_iload (x := S0 1108 p0.toNat) rfl zd_14_84_206 ?_
      have g64 := zz_G.r G_S0 1104 ((S0 1108 p0.toNat).toNat) 0 63 rfl rfl
      refine zz_iald (z := S0 1104 ((S0 1108 p0.toNat).toNat)) zd_14_84_208 zT_1104 rfl (zz_ltn hn rfl) (by decide) (by omega) (zz_rc F_S (zz_nc1 rfl) rfl (fun h => h) rfl) ?_
      refine zz_imul zd_14_84_209 ?_
      refine zz_nrm (fun v65 hv65 ev65 => ?_)
      clear ev65
      refine zz_iadd zd_14_84_210 ?_
      refine zz_nrm (fun v66 hv66 ev66 => ?_)
      clear ev66
      refine zz_iload (x := p3) rfl zd_14_84_211 ?_
      refine zz_iadd zd_14_84_213 ?_
      refine zz_nrm (fun v67 hv67 ev67 => ?_)
      clear ev67
      refine zz_aload_n (x := 1079) rfl zd_14_84_214 ?_
      have g68 := zz_G.r G_S0 1079 52 (-2147483648) 2147483647 rfl rfl
      refine zz_geti (z := S0 1079 52) zd_14_84_215 zf_Md_469 zT_1079 rfl (zz_ltn hn rfl) (zz_rc F_S rfl rfl (fun h => h) rfl) ?_
      refine zz_iload (x := p4) rfl zd_14_84_218 ?_
      refine zz_callVV [zi 1, zi v67, zi (S0 1079 52), zi p4] zd_14_84_220 zk_Md_475 zT_1079 (zz_ltn hn rfl) rfl rfl ⟨Nat.le_of_ble_eq_true rfl, Nat.le_of_ble_eq_true rfl⟩ ⟨rfl, rfl⟩ (Nat.zero_le _) (Nat.zero_le _) (zc_set_14_78 1 v67 (S0 1079 52) p4 S n hn G_S (by omega) (by omega) (by omega) (by omega)) (fun S69 hP => ?_)
      obtain ⟨G_S69, fS69⟩ := hP
      have F_S69 := zz_fr.trans F_S fS69 rfl zz_nv
      refine zz_aload_n (x := 1079) rfl zd_14_84_223 ?_
      refine zz_aload_n (x := 1079) rfl zd_14_84_224 ?_
      refine zz_callVI [] zd_14_84_225 zk_Md_489 zT_1079 (zz_ltn hn rfl) rfl rfl ⟨Nat.le_of_ble_eq_true rfl, Nat.le_of_ble_eq_true rfl⟩ ⟨rfl, rfl⟩ (Nat.zero_le _) (Nat.zero_le _) (zc_half_14_80  S69 n hn G_S69 ) (fun v72 S71 hP => ?_)
      obtain ⟨rfl, o73⟩ := hP
      refine zz_iconst zd_14_84_228 ?_
      refine zz_aload_n (x := 1079) rfl zd_14_84_229 ?_
      refine zz_getr (kd := 0) (z := 1104) zd_14_84_230 zf_Md_94 zT_1079 rfl (zz_ltn hn rfl) (zz_G.eq G_S69 1079 39 1104 rfl rfl) (by decide) 1104 rfl ?_
      refine zz_iload (x := S0 1108 p0.toNat) rfl zd_14_84_233 ?_
      refine zz_iald (z := S0 1104 ((S0 1108 p0.toNat).toNat)) zd_14_84_235 zT_1104 rfl (zz_ltn hn rfl) (by decide) (by omega) (zz_rc fS69 (zz_nc1 rfl) rfl (fun h => h) (zz_rc F_S (zz_nc1 rfl) rfl (fun h => h) rfl)) ?_
      refine zz_iconst zd_14_84_236 ?_
      refine zz_callVV [zi v72, zi 0, zi (S0 1104 ((S0 1108 p0.toNat).toNat)), zi 0] zd_14_84_237 zk_Md_482 zT_1079 (zz_ltn hn rfl) rfl rfl ⟨Nat.le_of_ble_eq_true rfl, Nat.le_of_ble_eq_true rfl⟩ ⟨rfl, rfl⟩ (Nat.zero_le _) (Nat.zero_le _) (zc_with_14_79 v72 0 (S0 1104 ((S0 1108 p0.toNat).toNat)) 0 S69 n hn G_S69 (by omega) (by omega) (by omega) (by omega)) (fun S74 hP => ?_)
      obtain ⟨G_S74, fS74⟩ := hP
      have F_S74 := zz_fr.trans F_S69 fS74 rfl zz_nv
      refine zz_aload_n (x := 1079) rfl zd_14_84_240 ?_
      refine zz_iload (x := p6) rfl zd_14_84_241 ?_
      have g76 := zz_G.r G_S 1079 10 0 1000000 rfl rfl
      have e77 : S74 1079 10 = S 1079 10 := (zz_rc fS74 rfl rfl (fun h => h) (zz_rc fS69 rfl rfl (fun h => h) rfl))
      refine zz_callVV [zi p6] zd_14_84_243 zk_Md_485 zT_1079 (zz_ltn hn rfl) rfl rfl ⟨Nat.le_of_ble_eq_true rfl, Nat.le_of_ble_eq_true rfl⟩ ⟨rfl, rfl⟩ (Nat.zero_le _) (Nat.zero_le _) (zc_load_14_82 p6 S74 n hn G_S74 (by omega) (by omega)) (fun S78 hP => ?_)
      obtain ⟨G_S78, fS78, o80, o81⟩ := hP
      have F_S78 := zz_fr.trans F_S74 fS78 rfl zz_nv
      have g82 := zz_G.r G_S78 1079 10 0 1000000 rfl rfl
      exact zz_vret zd_14_84_246 rfl (Nat.zero_le _) (Nat.zero_le _) ⟨_, rfl, G_S78, F_S78, by omega, by omega⟩
    · refine zz_aload_n (x := 1079) rfl zd_14_84_172 ?_
      refine zz_getr (kd := 0) (z := 1107) zd_14_84_173 zf_Md_103 zT_1079 rfl (zz_ltn hn rfl) (zz_G.eq G_S 1079 42 1107 rfl rfl) (by decide) 1107 rfl ?_
      refine zz_iload_n (x := p0) rfl zd_14_84_176 ?_
      have g83 := zz_G.r G_S0 1107 p0.toNat 0 10 rfl rfl
      refine zz_iald (z := S0 1107 p0.toNat) zd_14_84_177 zT_1107 rfl (zz_ltn hn rfl) (by decide) (by omega) (zz_rc F_S (zz_nc1 rfl) rfl (fun h => h) rfl) ?_
      refine zz_goto zd_14_84_178 ?_
      refine zz_istore [some (.ref 1079), some (zi p0), some (zi p1), some (zi p2), some (zi p3), some (zi p4), none, some (zi p6), some (zi x8), none, some (zi (S0 1107 p0.toNat))] zd_14_84_187 (by decide) rfl ?_
      refine zz_aload_n (x := 1079) rfl zd_14_84_189 ?_
      refine zz_iconst zd_14_84_190 ?_
      refine zz_aload_n (x := 1079) rfl zd_14_84_191 ?_
      refine zz_getr (kd := 0) (z := 1105) zd_14_84_192 zf_Md_97 zT_1079 rfl (zz_ltn hn rfl) (zz_G.eq G_S 1079 40 1105 rfl rfl) (by decide) 1105 rfl ?_
      refine zz_iload (x := S0 1107 p0.toNat) rfl zd_14_84_195 ?_
      have g84 := zz_G.r G_S0 1105 ((S0 1107 p0.toNat).toNat) (0) (if (S0 1107 p0.toNat).toNat = 0 then 0 else 10000000) rfl rfl
      refine zz_iald (z := S0 1105 ((S0 1107 p0.toNat).toNat)) zd_14_84_197 zT_1105 rfl (zz_ltn hn rfl) (by decide) (by omega) (zz_rc F_S (zz_nc1 rfl) rfl (fun h => h) rfl) ?_
      refine zz_aload_n (x := 1079) rfl zd_14_84_198 ?_
      have g85 := zz_G.r G_S0 1079 54 (-2147483648) 2147483647 rfl rfl
      refine zz_geti (z := S0 1079 54) zd_14_84_199 zf_Md_492 zT_1079 rfl (zz_ltn hn rfl) (zz_rc F_S rfl rfl (fun h => h) rfl) ?_
      refine zz_aload_n (x := 1079) rfl zd_14_84_202 ?_
      refine zz_getr (kd := 0) (z := 1104) zd_14_84_203 zf_Md_94 zT_1079 rfl (zz_ltn hn rfl) (zz_G.eq G_S 1079 39 1104 rfl rfl) (by decide) 1104 rfl ?_
      refine zz_iload (x := S0 1107 p0.toNat) rfl zd_14_84_206 ?_
      have g86 := zz_G.r G_S0 1104 ((S0 1107 p0.toNat).toNat) 0 63 rfl rfl
      refine zz_iald (z := S0 1104 ((S0 1107 p0.toNat).toNat)) zd_14_84_208 zT_1104 rfl (zz_ltn hn rfl) (by decide) (by omega) (zz_rc F_S (zz_nc1 rfl) rfl (fun h => h) rfl) ?_
      refine zz_imul zd_14_84_209 ?_
      refine zz_nrm (fun v87 hv87 ev87 => ?_)
      clear ev87
      refine zz_iadd zd_14_84_210 ?_
      refine zz_nrm (fun v88 hv88 ev88 => ?_)
      clear ev88
      refine zz_iload (x := p3) rfl zd_14_84_211 ?_
      refine zz_iadd zd_14_84_213 ?_
      refine zz_nrm (fun v89 hv89 ev89 => ?_)
      clear ev89
      refine zz_aload_n (x := 1079) rfl zd_14_84_214 ?_
      have g90 := zz_G.r G_S0 1079 52 (-2147483648) 2147483647 rfl rfl
      refine zz_geti (z := S0 1079 52) zd_14_84_215 zf_Md_469 zT_1079 rfl (zz_ltn hn rfl) (zz_rc F_S rfl rfl (fun h => h) rfl) ?_
      refine zz_iload (x := p4) rfl zd_14_84_218 ?_
      refine zz_callVV [zi 1, zi v89, zi (S0 1079 52), zi p4] zd_14_84_220 zk_Md_475 zT_1079 (zz_ltn hn rfl) rfl rfl ⟨Nat.le_of_ble_eq_true rfl, Nat.le_of_ble_eq_true rfl⟩ ⟨rfl, rfl⟩ (Nat.zero_le _) (Nat.zero_le _) (zc_set_14_78 1 v89 (S0 1079 52) p4 S n hn G_S (by omega) (by omega) (by omega) (by omega)) (fun S91 hP => ?_)
      obtain ⟨G_S91, fS91⟩ := hP
      have F_S91 := zz_fr.trans F_S fS91 rfl zz_nv
      refine zz_aload_n (x := 1079) rfl zd_14_84_223 ?_
      refine zz_aload_n (x := 1079) rfl zd_14_84_224 ?_
      refine zz_callVI [] zd_14_84_225 zk_Md_489 zT_1079 (zz_ltn hn rfl) rfl rfl ⟨Nat.le_of_ble_eq_true rfl, Nat.le_of_ble_eq_true rfl⟩ ⟨rfl, rfl⟩ (Nat.zero_le _) (Nat.zero_le _) (zc_half_14_80  S91 n hn G_S91 ) (fun v94 S93 hP => ?_)
      obtain ⟨rfl, o95⟩ := hP
      refine zz_iconst zd_14_84_228 ?_
      refine zz_aload_n (x := 1079) rfl zd_14_84_229 ?_
      refine zz_getr (kd := 0) (z := 1104) zd_14_84_230 zf_Md_94 zT_1079 rfl (zz_ltn hn rfl) (zz_G.eq G_S91 1079 39 1104 rfl rfl) (by decide) 1104 rfl ?_
      refine zz_iload (x := S0 1107 p0.toNat) rfl zd_14_84_233 ?_
      refine zz_iald (z := S0 1104 ((S0 1107 p0.toNat).toNat)) zd_14_84_235 zT_1104 rfl (zz_ltn hn rfl) (by decide) (by omega) (zz_rc fS91 (zz_nc1 rfl) rfl (fun h => h) (zz_rc F_S (zz_nc1 rfl) rfl (fun h => h) rfl)) ?_
      refine zz_iconst zd_14_84_236 ?_
      refine zz_callVV [zi v94, zi 0, zi (S0 1104 ((S0 1107 p0.toNat).toNat)), zi 0] zd_14_84_237 zk_Md_482 zT_1079 (zz_ltn hn rfl) rfl rfl ⟨Nat.le_of_ble_eq_true rfl, Nat.le_of_ble_eq_true rfl⟩ ⟨rfl, rfl⟩ (Nat.zero_le _) (Nat.zero_le _) (zc_with_14_79 v94 0 (S0 1104 ((S0 1107 p0.toNat).toNat)) 0 S91 n hn G_S91 (by omega) (by omega) (by omega) (by omega)) (fun S96 hP => ?_)
      obtain ⟨G_S96, fS96⟩ := hP
      have F_S96 := zz_fr.trans F_S91 fS96 rfl zz_nv
      refine zz_aload_n (x := 1079) rfl zd_14_84_240 ?_
      refine zz_iload (x := p6) rfl zd_14_84_241 ?_
      have g98 := zz_G.r G_S 1079 10 0 1000000 rfl rfl
      have e99 : S96 1079 10 = S 1079 10 := (zz_rc fS96 rfl rfl (fun h => h) (zz_rc fS91 rfl rfl (fun h => h) rfl))
      refine zz_callVV [zi p6] zd_14_84_243 zk_Md_485 zT_1079 (zz_ltn hn rfl) rfl rfl ⟨Nat.le_of_ble_eq_true rfl, Nat.le_of_ble_eq_true rfl⟩ ⟨rfl, rfl⟩ (Nat.zero_le _) (Nat.zero_le _) (zc_load_14_82 p6 S96 n hn G_S96 (by omega) (by omega)) (fun S100 hP => ?_)
      obtain ⟨G_S100, fS100, o102, o103⟩ := hP
      have F_S100 := zz_fr.trans F_S96 fS100 rfl zz_nv
      have g104 := zz_G.r G_S100 1079 10 0 1000000 rfl rfl
      exact zz_vret zd_14_84_246 rfl (Nat.zero_le _) (Nat.zero_le _) ⟨_, rfl, G_S100, F_S100, by omega, by omega⟩
theorem zb_groupLoads_14_84_247 {g : mm_G} {l : Launch} (p0 : Int) (p1 : Int) (p2 : Int) (p3 : Int) (p4 : Int) (p5 : Int) (p6 : Int) (S0 : zz_S) (n : Nat) (hn : zz_end ≤ n) (G_S0 : zz_G S0) (hp0 : 0 ≤ p0 ∧ p0 ≤ 9) (hp1 : (-2147483648) ≤ p1 ∧ p1 ≤ 2147483647) (hp2 : (-2147483648) ≤ p2 ∧ p2 ≤ 2147483647) (hp3 : (-2147483648) ≤ p3 ∧ p3 ≤ 2147483647) (hp4 : (-2147483648) ≤ p4 ∧ p4 ≤ 2147483647) (hp5 : 0 ≤ p5 ∧ p5 ≤ 1) (hp6 : 0 ≤ p6 ∧ p6 ≤ 1) (hq : S0 1079 10 ≤ 900000) (x8 : Int) (S : zz_S) (G_S : zz_G S) (F_S : zz_fr [(1079, 10), (1079, 57)] [1086, 1087] (fun _ _ => False) S0 S) (i247_0 : 0 ≤ x8 ∧ x8 ≤ 10) (i247_1 : S0 1079 10 ≤ S 1079 10 ∧ S 1079 10 ≤ S0 1079 10 + 2) (i247_2 : p6 = 1 → S 1079 10 = S0 1079 10) (R : Nat) (hR : (103079215104 + 0) = R) (k300 : ∀ (x8 : Int) (x10 : Int) (x11 : Int) (x12 : Int) (x13 : Int) (x14 : Int) (S : zz_S), zz_G S → zz_fr [(1079, 10), (1079, 57)] [1086, 1087] (fun _ _ => False) S0 S → (0 ≤ x8 ∧ x8 ≤ 10) → ((-2147483648) ≤ x10 ∧ x10 ≤ 2147483647) → ((-2147483648) ≤ x11 ∧ x11 ≤ 2147483647) → ((-2147483648) ≤ x12 ∧ x12 ≤ 2147483647) → ((-2147483648) ≤ x13 ∧ x13 ≤ 2147483647) → (0 ≤ x14 ∧ x14 ≤ 2147483647) → (S0 1079 10 ≤ S 1079 10 ∧ S 1079 10 ≤ S0 1079 10 + 2) → (p6 = 1 → S 1079 10 = S0 1079 10) → (85899345920 + (2147483647 - x14).toNat) < R → zz_E g l zy_groupLoads_14_84 zr_groupLoads_14_84 (zz_QV n (zp_groupLoads_14_84 p0 p1 p2 p3 p4 p5 p6 S0)) S n 300 [some (.ref 1079), some (zi p0), none, none, some (zi p3), some (zi p4), none, some (zi p6), some (zi x8), none, some (zi x10), some (zi x11), some (zi x12), some (zi x13), some (zi x14)] [] 0 0) : zz_E g l zy_groupLoads_14_84 zr_groupLoads_14_84 (zz_QV n (zp_groupLoads_14_84 p0 p1 p2 p3 p4 p5 p6 S0)) S n 247 [some (.ref 1079), some (zi p0), some (zi p1), some (zi p2), some (zi p3), some (zi p4), none, some (zi p6), some (zi x8)] [] 0 0 := by
  refine zz_aload_n (x := 1079) rfl zd_14_84_247 ?_
  refine zz_getr (kd := 0) (z := 1111) zd_14_84_248 zf_Md_115 zT_1079 rfl (zz_ltn hn rfl) (zz_G.eq G_S 1079 46 1111 rfl rfl) (by decide) 1111 rfl ?_
  refine zz_iload_n (x := p0) rfl zd_14_84_251 ?_
  have g105 := zz_G.r G_S0 1111 p0.toNat 0 3 rfl rfl
  refine zz_iald (z := S0 1111 p0.toNat) zd_14_84_252 zT_1111 rfl (zz_ltn hn rfl) (by decide) (by omega) (zz_rc F_S (zz_nc1 rfl) rfl (fun h => h) rfl) ?_
  refine zz_aload_n (x := 1079) rfl zd_14_84_253 ?_
  have g106 := zz_G.r G_S0 1079 55 (-2147483648) 2147483647 rfl rfl
  refine zz_geti (z := S0 1079 55) zd_14_84_254 zf_Md_495 zT_1079 rfl (zz_ltn hn rfl) (zz_rc F_S rfl rfl (fun h => h) rfl) ?_
  refine zz_imul zd_14_84_257 ?_
  refine zz_nrm (fun v107 hv107 ev107 => ?_)
  clear ev107
  refine zz_iload_n (x := p1) rfl zd_14_84_258 ?_
  refine zz_iadd zd_14_84_259 ?_
  refine zz_nrm (fun v108 hv108 ev108 => ?_)
  clear ev108
  refine zz_aload_n (x := 1079) rfl zd_14_84_260 ?_
  refine zz_getr (kd := 0) (z := 1112) zd_14_84_261 zf_Md_118 zT_1079 rfl (zz_ltn hn rfl) (zz_G.eq G_S 1079 47 1112 rfl rfl) (by decide) 1112 rfl ?_
  refine zz_iload_n (x := p0) rfl zd_14_84_264 ?_
  have g109 := zz_G.r G_S0 1112 p0.toNat 0 1 rfl rfl
  refine zz_iald (z := S0 1112 p0.toNat) zd_14_84_265 zT_1112 rfl (zz_ltn hn rfl) (by decide) (by omega) (zz_rc F_S (zz_nc1 rfl) rfl (fun h => h) rfl) ?_
  refine zz_isub zd_14_84_266 ?_
  refine zz_nrm (fun v110 hv110 ev110 => ?_)
  clear ev110
  refine zz_istore [some (.ref 1079), some (zi p0), some (zi p1), some (zi p2), some (zi p3), some (zi p4), none, some (zi p6), some (zi x8), none, some (zi v110)] zd_14_84_267 (by decide) rfl ?_
  refine zz_aload_n (x := 1079) rfl zd_14_84_269 ?_
  refine zz_getr (kd := 0) (z := 1111) zd_14_84_270 zf_Md_115 zT_1079 rfl (zz_ltn hn rfl) (zz_G.eq G_S 1079 46 1111 rfl rfl) (by decide) 1111 rfl ?_
  refine zz_iload_n (x := p0) rfl zd_14_84_273 ?_
  refine zz_iald (z := S0 1111 p0.toNat) zd_14_84_274 zT_1111 rfl (zz_ltn hn rfl) (by decide) (by omega) (zz_rc F_S (zz_nc1 rfl) rfl (fun h => h) rfl) ?_
  refine zz_aload_n (x := 1079) rfl zd_14_84_275 ?_
  have g111 := zz_G.r G_S0 1079 54 (-2147483648) 2147483647 rfl rfl
  refine zz_geti (z := S0 1079 54) zd_14_84_276 zf_Md_492 zT_1079 rfl (zz_ltn hn rfl) (zz_rc F_S rfl rfl (fun h => h) rfl) ?_
  refine zz_imul zd_14_84_279 ?_
  refine zz_nrm (fun v112 hv112 ev112 => ?_)
  clear ev112
  refine zz_iload_n (x := p2) rfl zd_14_84_280 ?_
  refine zz_iadd zd_14_84_281 ?_
  refine zz_nrm (fun v113 hv113 ev113 => ?_)
  clear ev113
  refine zz_aload_n (x := 1079) rfl zd_14_84_282 ?_
  refine zz_getr (kd := 0) (z := 1112) zd_14_84_283 zf_Md_118 zT_1079 rfl (zz_ltn hn rfl) (zz_G.eq G_S 1079 47 1112 rfl rfl) (by decide) 1112 rfl ?_
  refine zz_iload_n (x := p0) rfl zd_14_84_286 ?_
  refine zz_iald (z := S0 1112 p0.toNat) zd_14_84_287 zT_1112 rfl (zz_ltn hn rfl) (by decide) (by omega) (zz_rc F_S (zz_nc1 rfl) rfl (fun h => h) rfl) ?_
  refine zz_isub zd_14_84_288 ?_
  refine zz_nrm (fun v114 hv114 ev114 => ?_)
  clear ev114
  refine zz_istore [some (.ref 1079), some (zi p0), some (zi p1), some (zi p2), some (zi p3), some (zi p4), none, some (zi p6), some (zi x8), none, some (zi v110), some (zi v114)] zd_14_84_289 (by decide) rfl ?_
  refine zz_iconst zd_14_84_291 ?_
  refine zz_istore [some (.ref 1079), some (zi p0), some (zi p1), some (zi p2), some (zi p3), some (zi p4), none, some (zi p6), some (zi x8), none, some (zi v110), some (zi v114), some (zi 0)] zd_14_84_292 (by decide) rfl ?_
  refine zz_iconst zd_14_84_294 ?_
  refine zz_istore [some (.ref 1079), some (zi p0), some (zi p1), some (zi p2), some (zi p3), some (zi p4), none, some (zi p6), some (zi x8), none, some (zi v110), some (zi v114), some (zi 0), some (zi 0)] zd_14_84_295 (by decide) rfl ?_
  refine zz_iconst zd_14_84_297 ?_
  refine zz_istore [some (.ref 1079), some (zi p0), some (zi p1), some (zi p2), some (zi p3), some (zi p4), none, some (zi p6), some (zi x8), none, some (zi v110), some (zi v114), some (zi 0), some (zi 0), some (zi 0)] zd_14_84_298 (by decide) rfl ?_
  have g115 := zz_G.r G_S 1079 10 0 1000000 rfl rfl
  refine zz_less (ls1 := [some (.ref 1079), some (zi p0), none, none, some (zi p3), some (zi p4), none, some (zi p6), some (zi x8), none, some (zi v110), some (zi v114), some (zi 0), some (zi 0), some (zi 0)]) ⟨rfl, ⟨rfl, ⟨rfl, ⟨rfl, ⟨rfl, ⟨rfl, ⟨rfl, ⟨rfl, ⟨rfl, ⟨rfl, ⟨rfl, trivial⟩⟩⟩⟩⟩⟩⟩⟩⟩⟩⟩ ?_
  exact k300 x8 v110 v114 0 0 0 S G_S F_S (by omega) (by omega) (by omega) (by omega) (by omega) (by omega) (by omega) (by omega) (by omega)
theorem zb_groupLoads_14_84_300 {g : mm_G} {l : Launch} (p0 : Int) (p1 : Int) (p2 : Int) (p3 : Int) (p4 : Int) (p5 : Int) (p6 : Int) (S0 : zz_S) (n : Nat) (hn : zz_end ≤ n) (G_S0 : zz_G S0) (hp0 : 0 ≤ p0 ∧ p0 ≤ 9) (hp1 : (-2147483648) ≤ p1 ∧ p1 ≤ 2147483647) (hp2 : (-2147483648) ≤ p2 ∧ p2 ≤ 2147483647) (hp3 : (-2147483648) ≤ p3 ∧ p3 ≤ 2147483647) (hp4 : (-2147483648) ≤ p4 ∧ p4 ≤ 2147483647) (hp5 : 0 ≤ p5 ∧ p5 ≤ 1) (hp6 : 0 ≤ p6 ∧ p6 ≤ 1) (hq : S0 1079 10 ≤ 900000) (x8 : Int) (x10 : Int) (x11 : Int) (x12 : Int) (x13 : Int) (x14 : Int) (S : zz_S) (G_S : zz_G S) (F_S : zz_fr [(1079, 10), (1079, 57)] [1086, 1087] (fun _ _ => False) S0 S) (i300_0 : 0 ≤ x8 ∧ x8 ≤ 10) (i300_1 : (-2147483648) ≤ x10 ∧ x10 ≤ 2147483647) (i300_2 : (-2147483648) ≤ x11 ∧ x11 ≤ 2147483647) (i300_3 : (-2147483648) ≤ x12 ∧ x12 ≤ 2147483647) (i300_4 : (-2147483648) ≤ x13 ∧ x13 ≤ 2147483647) (i300_5 : 0 ≤ x14 ∧ x14 ≤ 2147483647) (i300_6 : S0 1079 10 ≤ S 1079 10 ∧ S 1079 10 ≤ S0 1079 10 + 2) (i300_7 : p6 = 1 → S 1079 10 = S0 1079 10) (R : Nat) (hR : (85899345920 + (2147483647 - x14).toNat) = R) (k300 : ∀ (x8 : Int) (x10 : Int) (x11 : Int) (x12 : Int) (x13 : Int) (x14 : Int) (S : zz_S), zz_G S → zz_fr [(1079, 10), (1079, 57)] [1086, 1087] (fun _ _ => False) S0 S → (0 ≤ x8 ∧ x8 ≤ 10) → ((-2147483648) ≤ x10 ∧ x10 ≤ 2147483647) → ((-2147483648) ≤ x11 ∧ x11 ≤ 2147483647) → ((-2147483648) ≤ x12 ∧ x12 ≤ 2147483647) → ((-2147483648) ≤ x13 ∧ x13 ≤ 2147483647) → (0 ≤ x14 ∧ x14 ≤ 2147483647) → (S0 1079 10 ≤ S 1079 10 ∧ S 1079 10 ≤ S0 1079 10 + 2) → (p6 = 1 → S 1079 10 = S0 1079 10) → (85899345920 + (2147483647 - x14).toNat) < R → zz_E g l zy_groupLoads_14_84 zr_groupLoads_14_84 (zz_QV n (zp_groupLoads_14_84 p0 p1 p2 p3 p4 p5 p6 S0)) S n 300 [some (.ref 1079), some (zi p0), none, none, some (zi p3), some (zi p4), none, some (zi p6), some (zi x8), none, some (zi x10), some (zi x11), some (zi x12), some (zi x13), some (zi x14)] [] 0 0) (k378 : ∀ (x8 : Int) (x10 : Int) (x11 : Int) (x12 : Int) (x13 : Int) (S : zz_S), zz_G S → zz_fr [(1079, 10), (1079, 57)] [1086, 1087] (fun _ _ => False) S0 S → (0 ≤ x8 ∧ x8 ≤ 10) → ((-2147483648) ≤ x10 ∧ x10 ≤ 2147483647) → ((-2147483648) ≤ x11 ∧ x11 ≤ 2147483647) → ((-2147483648) ≤ x12 ∧ x12 ≤ 2147483647) → ((-2147483648) ≤ x13 ∧ x13 ≤ 2147483647) → (S0 1079 10 ≤ S 1079 10 ∧ S 1079 10 ≤ S0 1079 10 + 2) → (p6 = 1 → S 1079 10 = S0 1079 10) → (68719476736 + 0) < R → zz_E g l zy_groupLoads_14_84 zr_groupLoads_14_84 (zz_QV n (zp_groupLoads_14_84 p0 p1 p2 p3 p4 p5 p6 S0)) S n 378 [some (.ref 1079), some (zi p0), none, none, some (zi p3), some (zi p4), none, some (zi p6), some (zi x8), none, some (zi x10), some (zi x11), some (zi x12), some (zi x13)] [] 0 0) : zz_E g l zy_groupLoads_14_84 zr_groupLoads_14_84 (zz_QV n (zp_groupLoads_14_84 p0 p1 p2 p3 p4 p5 p6 S0)) S n 300 [some (.ref 1079), some (zi p0), none, none, some (zi p3), some (zi p4), none, some (zi p6), some (zi x8), none, some (zi x10), some (zi x11), some (zi x12), some (zi x13), some (zi x14)] [] 0 0 := by
  refine zz_iload (x := x14) rfl zd_14_84_300 ?_
  refine zz_aload_n (x := 1079) rfl zd_14_84_302 ?_
  have g116 := zz_G.r G_S0 1079 52 (-2147483648) 2147483647 rfl rfl
  refine zz_geti (z := S0 1079 52) zd_14_84_303 zf_Md_469 zT_1079 rfl (zz_ltn hn rfl) (zz_rc F_S rfl rfl (fun h => h) rfl) ?_
  refine zz_icmp_ge (by omega) (by omega) zd_14_84_306 (fun c117 => ?_) (fun c117 => ?_)
  · have g118 := zz_G.r G_S 1079 10 0 1000000 rfl rfl
    refine zz_less (ls1 := [some (.ref 1079), some (zi p0), none, none, some (zi p3), some (zi p4), none, some (zi p6), some (zi x8), none, some (zi x10), some (zi x11), some (zi x12), some (zi x13)]) ⟨rfl, ⟨rfl, ⟨rfl, ⟨rfl, ⟨rfl, ⟨rfl, ⟨rfl, ⟨rfl, ⟨rfl, ⟨rfl, trivial⟩⟩⟩⟩⟩⟩⟩⟩⟩⟩ ?_
    exact k378 x8 x10 x11 x12 x13 S G_S F_S (by omega) (by omega) (by omega) (by omega) (by omega) (by omega) (by omega) (by omega)
  · refine zz_iload (x := x11) rfl zd_14_84_309 ?_
    refine zz_aload_n (x := 1079) rfl zd_14_84_311 ?_
    refine zz_getr (kd := 0) (z := 1111) zd_14_84_312 zf_Md_115 zT_1079 rfl (zz_ltn hn rfl) (zz_G.eq G_S 1079 46 1111 rfl rfl) (by decide) 1111 rfl ?_
    refine zz_iload_n (x := p0) rfl zd_14_84_315 ?_
    have g119 := zz_G.r G_S0 1111 p0.toNat 0 3 rfl rfl
    refine zz_iald (z := S0 1111 p0.toNat) zd_14_84_316 zT_1111 rfl (zz_ltn hn rfl) (by decide) (by omega) (zz_rc F_S (zz_nc1 rfl) rfl (fun h => h) rfl) ?_
    refine zz_iload (x := x14) rfl zd_14_84_317 ?_
    refine zz_imul zd_14_84_319 ?_
    have m120 := zz_mulb (a := S0 1111 p0.toNat) (b := x14) 3 2147483646 6442450938 (by omega) (by omega) (by decide)
    refine zz_nrm (fun v121 hv121 ev121 => ?_)
    clear ev121
    refine zz_iadd zd_14_84_320 ?_
    refine zz_nrm (fun v122 hv122 ev122 => ?_)
    clear ev122
    refine zz_istore [some (.ref 1079), some (zi p0), none, none, some (zi p3), some (zi p4), none, some (zi p6), some (zi x8), none, some (zi x10), some (zi x11), some (zi x12), some (zi x13), some (zi x14), some (zi v122)] zd_14_84_321 (by decide) rfl ?_
    refine zz_aload_n (x := 1079) rfl zd_14_84_323 ?_
    refine zz_iload (x := x8) rfl zd_14_84_324 ?_
    refine zz_iload (x := x10) rfl zd_14_84_326 ?_
    refine zz_iload (x := v122) rfl zd_14_84_328 ?_
    have g123 := zz_G.r G_S0 1102 x8.toNat 0 63 rfl rfl
    have e124 : S 1102 x8.toNat = S0 1102 x8.toNat := (zz_rc F_S (zz_nc1 rfl) rfl (fun h => h) rfl)
    have g125 := zz_G.r G_S0 1103 x8.toNat 0 63 rfl rfl
    have e126 : S 1103 x8.toNat = S0 1103 x8.toNat := (zz_rc F_S (zz_nc1 rfl) rfl (fun h => h) rfl)
    refine zz_callVI [zi x8, zi x10, zi v122] zd_14_84_330 zk_Md_434 zT_1079 (zz_ltn hn rfl) rfl rfl ⟨Nat.le_of_ble_eq_true rfl, Nat.le_of_ble_eq_true rfl⟩ ⟨rfl, rfl⟩ (Nat.zero_le _) (Nat.zero_le _) (zc_isThere_14_72 x8 x10 v122 S n hn G_S (by omega) (by omega) (by omega)) (fun v128 S127 hP => ?_)
    obtain ⟨rfl, o129, o130⟩ := hP
    rcases (by omega : v128 = 0 ∨ v128 = 1) with rfl | rfl
    · refine zz_istore [some (.ref 1079), some (zi p0), none, none, some (zi p3), some (zi p4), none, some (zi p6), some (zi x8), none, some (zi x10), some (zi x11), some (zi x12), some (zi x13), some (zi x14), some (zi v122), some (zi 0)] zd_14_84_333 (by decide) rfl ?_
      refine zz_iload (x := 0) rfl zd_14_84_335 ?_
      refine zz_if_eq (by omega) zd_14_84_337 (fun c131 => ?_) (fun c131 => ?_)
      · refine zz_iload (x := x13) rfl zd_14_84_347 ?_
        refine zz_istore [some (.ref 1079), some (zi p0), none, none, some (zi p3), some (zi p4), none, some (zi p6), some (zi x8), none, some (zi x10), some (zi x11), some (zi x12), some (zi x13), some (zi x14), some (zi v122), some (zi 0)] zd_14_84_349 (by decide) rfl ?_
        refine zz_iload (x := 0) rfl zd_14_84_351 ?_
        refine zz_if_ne (by omega) zd_14_84_353 (fun c132 => ?_) (fun c132 => ?_)
        · exfalso; omega
        · refine zz_iload (x := x13) rfl zd_14_84_356 ?_
          refine zz_if_ne (by omega) zd_14_84_358 (fun c133 => ?_) (fun c133 => ?_)
          · refine zz_iload (x := x12) rfl zd_14_84_368 ?_
            refine zz_istore [some (.ref 1079), some (zi p0), none, none, some (zi p3), some (zi p4), none, some (zi p6), some (zi x8), none, some (zi x10), some (zi x11), some (zi x12), some (zi x13), some (zi x14), some (zi v122), some (zi 0)] zd_14_84_370 (by decide) rfl ?_
            refine zz_iinc [some (.ref 1079), some (zi p0), none, none, some (zi p3), some (zi p4), none, some (zi p6), some (zi x8), none, some (zi x10), some (zi x11), some (zi x12), some (zi x13), some (zi (x14 + 1)), some (zi v122), some (zi 0)] zd_14_84_372 rfl rfl ?_
            refine zz_goto zd_14_84_375 ?_
            have g134 := zz_G.r G_S 1079 10 0 1000000 rfl rfl
            refine zz_less (ls1 := [some (.ref 1079), some (zi p0), none, none, some (zi p3), some (zi p4), none, some (zi p6), some (zi x8), none, some (zi x10), some (zi x11), some (zi x12), some (zi x13), some (zi (x14 + 1))]) ⟨rfl, ⟨rfl, ⟨rfl, ⟨rfl, ⟨rfl, ⟨rfl, ⟨rfl, ⟨rfl, ⟨rfl, ⟨rfl, ⟨rfl, trivial⟩⟩⟩⟩⟩⟩⟩⟩⟩⟩⟩ ?_
            exact k300 x8 x10 x11 x12 x13 (x14 + 1) S G_S F_S (by omega) (by omega) (by omega) (by omega) (by omega) (by omega) (by omega) (by omega) (by omega)
          · refine zz_iload (x := x12) rfl zd_14_84_361 ?_
            refine zz_iconst zd_14_84_363 ?_
            refine zz_iadd zd_14_84_364 ?_
            refine zz_nrm (fun v135 hv135 ev135 => ?_)
            clear ev135
            refine zz_goto zd_14_84_365 ?_
            refine zz_istore [some (.ref 1079), some (zi p0), none, none, some (zi p3), some (zi p4), none, some (zi p6), some (zi x8), none, some (zi x10), some (zi x11), some (zi v135), some (zi x13), some (zi x14), some (zi v122), some (zi 0)] zd_14_84_370 (by decide) rfl ?_
            refine zz_iinc [some (.ref 1079), some (zi p0), none, none, some (zi p3), some (zi p4), none, some (zi p6), some (zi x8), none, some (zi x10), some (zi x11), some (zi v135), some (zi x13), some (zi (x14 + 1)), some (zi v122), some (zi 0)] zd_14_84_372 rfl rfl ?_
            refine zz_goto zd_14_84_375 ?_
            have g136 := zz_G.r G_S 1079 10 0 1000000 rfl rfl
            refine zz_less (ls1 := [some (.ref 1079), some (zi p0), none, none, some (zi p3), some (zi p4), none, some (zi p6), some (zi x8), none, some (zi x10), some (zi x11), some (zi v135), some (zi x13), some (zi (x14 + 1))]) ⟨rfl, ⟨rfl, ⟨rfl, ⟨rfl, ⟨rfl, ⟨rfl, ⟨rfl, ⟨rfl, ⟨rfl, ⟨rfl, ⟨rfl, trivial⟩⟩⟩⟩⟩⟩⟩⟩⟩⟩⟩ ?_
            exact k300 x8 x10 x11 v135 x13 (x14 + 1) S G_S F_S (by omega) (by omega) (by omega) (by omega) (by omega) (by omega) (by omega) (by omega) (by omega)
      · exfalso; omega
    · refine zz_istore [some (.ref 1079), some (zi p0), none, none, some (zi p3), some (zi p4), none, some (zi p6), some (zi x8), none, some (zi x10), some (zi x11), some (zi x12), some (zi x13), some (zi x14), some (zi v122), some (zi 1)] zd_14_84_333 (by decide) rfl ?_
      refine zz_iload (x := 1) rfl zd_14_84_335 ?_
      refine zz_if_eq (by omega) zd_14_84_337 (fun c137 => ?_) (fun c137 => ?_)
      · exfalso; omega
      · refine zz_iload (x := x13) rfl zd_14_84_340 ?_
        refine zz_iconst zd_14_84_342 ?_
        refine zz_iadd zd_14_84_343 ?_
        refine zz_nrm (fun v138 hv138 ev138 => ?_)
        clear ev138
        refine zz_goto zd_14_84_344 ?_
        refine zz_istore [some (.ref 1079), some (zi p0), none, none, some (zi p3), some (zi p4), none, some (zi p6), some (zi x8), none, some (zi x10), some (zi x11), some (zi x12), some (zi v138), some (zi x14), some (zi v122), some (zi 1)] zd_14_84_349 (by decide) rfl ?_
        refine zz_iload (x := 1) rfl zd_14_84_351 ?_
        refine zz_if_ne (by omega) zd_14_84_353 (fun c139 => ?_) (fun c139 => ?_)
        · refine zz_iload (x := x12) rfl zd_14_84_368 ?_
          refine zz_istore [some (.ref 1079), some (zi p0), none, none, some (zi p3), some (zi p4), none, some (zi p6), some (zi x8), none, some (zi x10), some (zi x11), some (zi x12), some (zi v138), some (zi x14), some (zi v122), some (zi 1)] zd_14_84_370 (by decide) rfl ?_
          refine zz_iinc [some (.ref 1079), some (zi p0), none, none, some (zi p3), some (zi p4), none, some (zi p6), some (zi x8), none, some (zi x10), some (zi x11), some (zi x12), some (zi v138), some (zi (x14 + 1)), some (zi v122), some (zi 1)] zd_14_84_372 rfl rfl ?_
          refine zz_goto zd_14_84_375 ?_
          have g140 := zz_G.r G_S 1079 10 0 1000000 rfl rfl
          refine zz_less (ls1 := [some (.ref 1079), some (zi p0), none, none, some (zi p3), some (zi p4), none, some (zi p6), some (zi x8), none, some (zi x10), some (zi x11), some (zi x12), some (zi v138), some (zi (x14 + 1))]) ⟨rfl, ⟨rfl, ⟨rfl, ⟨rfl, ⟨rfl, ⟨rfl, ⟨rfl, ⟨rfl, ⟨rfl, ⟨rfl, ⟨rfl, trivial⟩⟩⟩⟩⟩⟩⟩⟩⟩⟩⟩ ?_
          exact k300 x8 x10 x11 x12 v138 (x14 + 1) S G_S F_S (by omega) (by omega) (by omega) (by omega) (by omega) (by omega) (by omega) (by omega) (by omega)
        · exfalso; omega
theorem zb_groupLoads_14_84_378 {g : mm_G} {l : Launch} (p0 : Int) (p1 : Int) (p2 : Int) (p3 : Int) (p4 : Int) (p5 : Int) (p6 : Int) (S0 : zz_S) (n : Nat) (hn : zz_end ≤ n) (G_S0 : zz_G S0) (hp0 : 0 ≤ p0 ∧ p0 ≤ 9) (hp1 : (-2147483648) ≤ p1 ∧ p1 ≤ 2147483647) (hp2 : (-2147483648) ≤ p2 ∧ p2 ≤ 2147483647) (hp3 : (-2147483648) ≤ p3 ∧ p3 ≤ 2147483647) (hp4 : (-2147483648) ≤ p4 ∧ p4 ≤ 2147483647) (hp5 : 0 ≤ p5 ∧ p5 ≤ 1) (hp6 : 0 ≤ p6 ∧ p6 ≤ 1) (hq : S0 1079 10 ≤ 900000) (x8 : Int) (x10 : Int) (x11 : Int) (x12 : Int) (x13 : Int) (S : zz_S) (G_S : zz_G S) (F_S : zz_fr [(1079, 10), (1079, 57)] [1086, 1087] (fun _ _ => False) S0 S) (i378_0 : 0 ≤ x8 ∧ x8 ≤ 10) (i378_1 : (-2147483648) ≤ x10 ∧ x10 ≤ 2147483647) (i378_2 : (-2147483648) ≤ x11 ∧ x11 ≤ 2147483647) (i378_3 : (-2147483648) ≤ x12 ∧ x12 ≤ 2147483647) (i378_4 : (-2147483648) ≤ x13 ∧ x13 ≤ 2147483647) (i378_5 : S0 1079 10 ≤ S 1079 10 ∧ S 1079 10 ≤ S0 1079 10 + 2) (i378_6 : p6 = 1 → S 1079 10 = S0 1079 10) (R : Nat) (hR : (68719476736 + 0) = R) (k390 : ∀ (x8 : Int) (x10 : Int) (x11 : Int) (x12 : Int) (x13 : Int) (x14 : Int) (S : zz_S), zz_G S → zz_fr [(1079, 10), (1079, 57)] [1086, 1087] (fun _ _ => False) S0 S → (0 ≤ x8 ∧ x8 ≤ 10) → ((-2147483648) ≤ x10 ∧ x10 ≤ 2147483647) → ((-2147483648) ≤ x11 ∧ x11 ≤ 2147483647) → ((-2147483648) ≤ x12 ∧ x12 ≤ 2147483647) → ((-2147483648) ≤ x13 ∧ x13 ≤ 2147483647) → (0 ≤ x14 ∧ x14 ≤ 1) → (S0 1079 10 ≤ S 1079 10 ∧ S 1079 10 ≤ S0 1079 10 + 2) → (p6 = 1 → S 1079 10 = S0 1079 10) → (51539607552 + 0) < R → zz_E g l zy_groupLoads_14_84 zr_groupLoads_14_84 (zz_QV n (zp_groupLoads_14_84 p0 p1 p2 p3 p4 p5 p6 S0)) S n 390 [some (.ref 1079), some (zi p0), none, none, some (zi p3), some (zi p4), none, some (zi p6), some (zi x8), none, some (zi x10), some (zi x11), some (zi x12), some (zi x13), some (zi x14)] [] 0 0) : zz_E g l zy_groupLoads_14_84 zr_groupLoads_14_84 (zz_QV n (zp_groupLoads_14_84 p0 p1 p2 p3 p4 p5 p6 S0)) S n 378 [some (.ref 1079), some (zi p0), none, none, some (zi p3), some (zi p4), none, some (zi p6), some (zi x8), none, some (zi x10), some (zi x11), some (zi x12), some (zi x13)] [] 0 0 := by
  refine zz_iload (x := x13) rfl zd_14_84_378 ?_
  refine zz_if_ne (by omega) zd_14_84_380 (fun c141 => ?_) (fun c141 => ?_)
  · refine zz_iconst zd_14_84_387 ?_
    refine zz_istore [some (.ref 1079), some (zi p0), none, none, some (zi p3), some (zi p4), none, some (zi p6), some (zi x8), none, some (zi x10), some (zi x11), some (zi x12), some (zi x13), some (zi 0)] zd_14_84_388 (by decide) rfl ?_
    have g142 := zz_G.r G_S 1079 10 0 1000000 rfl rfl
    refine zz_less (ls1 := [some (.ref 1079), some (zi p0), none, none, some (zi p3), some (zi p4), none, some (zi p6), some (zi x8), none, some (zi x10), some (zi x11), some (zi x12), some (zi x13), some (zi 0)]) ⟨rfl, ⟨rfl, ⟨rfl, ⟨rfl, ⟨rfl, ⟨rfl, ⟨rfl, ⟨rfl, ⟨rfl, ⟨rfl, ⟨rfl, trivial⟩⟩⟩⟩⟩⟩⟩⟩⟩⟩⟩ ?_
    exact k390 x8 x10 x11 x12 x13 0 S G_S F_S (by omega) (by omega) (by omega) (by omega) (by omega) (by omega) (by omega) (by omega) (by omega)
  · refine zz_iconst zd_14_84_383 ?_
    refine zz_goto zd_14_84_384 ?_
    refine zz_istore [some (.ref 1079), some (zi p0), none, none, some (zi p3), some (zi p4), none, some (zi p6), some (zi x8), none, some (zi x10), some (zi x11), some (zi x12), some (zi x13), some (zi 1)] zd_14_84_388 (by decide) rfl ?_
    have g143 := zz_G.r G_S 1079 10 0 1000000 rfl rfl
    refine zz_less (ls1 := [some (.ref 1079), some (zi p0), none, none, some (zi p3), some (zi p4), none, some (zi p6), some (zi x8), none, some (zi x10), some (zi x11), some (zi x12), some (zi x13), some (zi 1)]) ⟨rfl, ⟨rfl, ⟨rfl, ⟨rfl, ⟨rfl, ⟨rfl, ⟨rfl, ⟨rfl, ⟨rfl, ⟨rfl, ⟨rfl, trivial⟩⟩⟩⟩⟩⟩⟩⟩⟩⟩⟩ ?_
    exact k390 x8 x10 x11 x12 x13 1 S G_S F_S (by omega) (by omega) (by omega) (by omega) (by omega) (by omega) (by omega) (by omega) (by omega)
theorem zb_groupLoads_14_84_390 {g : mm_G} {l : Launch} (p0 : Int) (p1 : Int) (p2 : Int) (p3 : Int) (p4 : Int) (p5 : Int) (p6 : Int) (S0 : zz_S) (n : Nat) (hn : zz_end ≤ n) (G_S0 : zz_G S0) (hp0 : 0 ≤ p0 ∧ p0 ≤ 9) (hp1 : (-2147483648) ≤ p1 ∧ p1 ≤ 2147483647) (hp2 : (-2147483648) ≤ p2 ∧ p2 ≤ 2147483647) (hp3 : (-2147483648) ≤ p3 ∧ p3 ≤ 2147483647) (hp4 : (-2147483648) ≤ p4 ∧ p4 ≤ 2147483647) (hp5 : 0 ≤ p5 ∧ p5 ≤ 1) (hp6 : 0 ≤ p6 ∧ p6 ≤ 1) (hq : S0 1079 10 ≤ 900000) (x8 : Int) (x10 : Int) (x11 : Int) (x12 : Int) (x13 : Int) (x14 : Int) (S : zz_S) (G_S : zz_G S) (F_S : zz_fr [(1079, 10), (1079, 57)] [1086, 1087] (fun _ _ => False) S0 S) (i390_0 : 0 ≤ x8 ∧ x8 ≤ 10) (i390_1 : (-2147483648) ≤ x10 ∧ x10 ≤ 2147483647) (i390_2 : (-2147483648) ≤ x11 ∧ x11 ≤ 2147483647) (i390_3 : (-2147483648) ≤ x12 ∧ x12 ≤ 2147483647) (i390_4 : (-2147483648) ≤ x13 ∧ x13 ≤ 2147483647) (i390_5 : 0 ≤ x14 ∧ x14 ≤ 1) (i390_6 : S0 1079 10 ≤ S 1079 10 ∧ S 1079 10 ≤ S0 1079 10 + 2) (i390_7 : p6 = 1 → S 1079 10 = S0 1079 10) (R : Nat) (hR : (51539607552 + 0) = R) (k422 : ∀ (x8 : Int) (x10 : Int) (x11 : Int) (x12 : Int) (x13 : Int) (x14 : Int) (S : zz_S), zz_G S → zz_fr [(1079, 10), (1079, 57)] [1086, 1087] (fun _ _ => False) S0 S → (0 ≤ x8 ∧ x8 ≤ 10) → ((-2147483648) ≤ x10 ∧ x10 ≤ 2147483647) → ((-2147483648) ≤ x11 ∧ x11 ≤ 2147483647) → ((-2147483648) ≤ x12 ∧ x12 ≤ 2147483647) → ((-2147483648) ≤ x13 ∧ x13 ≤ 2147483647) → (0 ≤ x14 ∧ x14 ≤ 1) → (S0 1079 10 ≤ S 1079 10 ∧ S 1079 10 ≤ S0 1079 10 + 3) → (p6 = 1 → S 1079 10 = S0 1079 10) → (34359738368 + 0) < R → zz_E g l zy_groupLoads_14_84 zr_groupLoads_14_84 (zz_QV n (zp_groupLoads_14_84 p0 p1 p2 p3 p4 p5 p6 S0)) S n 422 [some (.ref 1079), some (zi p0), none, none, some (zi p3), some (zi p4), none, some (zi p6), some (zi x8), none, some (zi x10), some (zi x11), some (zi x12), some (zi x13), some (zi x14)] [] 0 0) : zz_E g l zy_groupLoads_14_84 zr_groupLoads_14_84 (zz_QV n (zp_groupLoads_14_84 p0 p1 p2 p3 p4 p5 p6 S0)) S n 390 [some (.ref 1079), some (zi p0), none, none, some (zi p3), some (zi p4), none, some (zi p6), some (zi x8), none, some (zi x10), some (zi x11), some (zi x12), some (zi x13), some (zi x14)] [] 0 0 := by
  refine zz_iload (x := x12) rfl zd_14_84_390 ?_
  refine zz_if_le (by omega) zd_14_84_392 (fun c144 => ?_) (fun c144 => ?_)
  · have g145 := zz_G.r G_S 1079 10 0 1000000 rfl rfl
    exact k422 x8 x10 x11 x12 x13 x14 S G_S F_S (by omega) (by omega) (by omega) (by omega) (by omega) (by omega) (by omega) (by omega) (by omega)
  · refine zz_aload_n (x := 1079) rfl zd_14_84_395 ?_
    refine zz_iconst zd_14_84_396 ?_
    refine zz_iconst zd_14_84_397 ?_
    refine zz_iload (x := x12) rfl zd_14_84_398 ?_
    refine zz_iload (x := p4) rfl zd_14_84_400 ?_
    refine zz_callVV [zi 3, zi 0, zi x12, zi p4] zd_14_84_402 zk_Md_475 zT_1079 (zz_ltn hn rfl) rfl rfl ⟨Nat.le_of_ble_eq_true rfl, Nat.le_of_ble_eq_true rfl⟩ ⟨rfl, rfl⟩ (Nat.zero_le _) (Nat.zero_le _) (zc_set_14_78 3 0 x12 p4 S n hn G_S (by omega) (by omega) (by omega) (by omega)) (fun S146 hP => ?_)
    obtain ⟨G_S146, fS146⟩ := hP
    have F_S146 := zz_fr.trans F_S fS146 rfl zz_nv
    refine zz_aload_n (x := 1079) rfl zd_14_84_405 ?_
    refine zz_aload_n (x := 1079) rfl zd_14_84_406 ?_
    refine zz_callVI [] zd_14_84_407 zk_Md_489 zT_1079 (zz_ltn hn rfl) rfl rfl ⟨Nat.le_of_ble_eq_true rfl, Nat.le_of_ble_eq_true rfl⟩ ⟨rfl, rfl⟩ (Nat.zero_le _) (Nat.zero_le _) (zc_half_14_80  S146 n hn G_S146 ) (fun v149 S148 hP => ?_)
    obtain ⟨rfl, o150⟩ := hP
    refine zz_iconst zd_14_84_410 ?_
    refine zz_iconst zd_14_84_411 ?_
    refine zz_iconst zd_14_84_412 ?_
    refine zz_callVV [zi v149, zi 0, zi 0, zi 0] zd_14_84_413 zk_Md_482 zT_1079 (zz_ltn hn rfl) rfl rfl ⟨Nat.le_of_ble_eq_true rfl, Nat.le_of_ble_eq_true rfl⟩ ⟨rfl, rfl⟩ (Nat.zero_le _) (Nat.zero_le _) (zc_with_14_79 v149 0 0 0 S146 n hn G_S146 (by omega) (by omega) (by omega) (by omega)) (fun S151 hP => ?_)
    obtain ⟨G_S151, fS151⟩ := hP
    have F_S151 := zz_fr.trans F_S146 fS151 rfl zz_nv
    refine zz_aload_n (x := 1079) rfl zd_14_84_416 ?_
    refine zz_iload (x := p6) rfl zd_14_84_417 ?_
    have g153 := zz_G.r G_S 1079 10 0 1000000 rfl rfl
    have e154 : S151 1079 10 = S 1079 10 := (zz_rc fS151 rfl rfl (fun h => h) (zz_rc fS146 rfl rfl (fun h => h) rfl))
    refine zz_callVV [zi p6] zd_14_84_419 zk_Md_485 zT_1079 (zz_ltn hn rfl) rfl rfl ⟨Nat.le_of_ble_eq_true rfl, Nat.le_of_ble_eq_true rfl⟩ ⟨rfl, rfl⟩ (Nat.zero_le _) (Nat.zero_le _) (zc_load_14_82 p6 S151 n hn G_S151 (by omega) (by omega)) (fun S155 hP => ?_)
    obtain ⟨G_S155, fS155, o157, o158⟩ := hP
    have F_S155 := zz_fr.trans F_S151 fS155 rfl zz_nv
    have g159 := zz_G.r G_S155 1079 10 0 1000000 rfl rfl
    exact k422 x8 x10 x11 x12 x13 x14 S155 G_S155 F_S155 (by omega) (by omega) (by omega) (by omega) (by omega) (by omega) (by omega) (by omega) (by omega)
theorem zb_groupLoads_14_84_422 {g : mm_G} {l : Launch} (p0 : Int) (p1 : Int) (p2 : Int) (p3 : Int) (p4 : Int) (p5 : Int) (p6 : Int) (S0 : zz_S) (n : Nat) (hn : zz_end ≤ n) (G_S0 : zz_G S0) (hp0 : 0 ≤ p0 ∧ p0 ≤ 9) (hp1 : (-2147483648) ≤ p1 ∧ p1 ≤ 2147483647) (hp2 : (-2147483648) ≤ p2 ∧ p2 ≤ 2147483647) (hp3 : (-2147483648) ≤ p3 ∧ p3 ≤ 2147483647) (hp4 : (-2147483648) ≤ p4 ∧ p4 ≤ 2147483647) (hp5 : 0 ≤ p5 ∧ p5 ≤ 1) (hp6 : 0 ≤ p6 ∧ p6 ≤ 1) (hq : S0 1079 10 ≤ 900000) (x8 : Int) (x10 : Int) (x11 : Int) (x12 : Int) (x13 : Int) (x14 : Int) (S : zz_S) (G_S : zz_G S) (F_S : zz_fr [(1079, 10), (1079, 57)] [1086, 1087] (fun _ _ => False) S0 S) (i422_0 : 0 ≤ x8 ∧ x8 ≤ 10) (i422_1 : (-2147483648) ≤ x10 ∧ x10 ≤ 2147483647) (i422_2 : (-2147483648) ≤ x11 ∧ x11 ≤ 2147483647) (i422_3 : (-2147483648) ≤ x12 ∧ x12 ≤ 2147483647) (i422_4 : (-2147483648) ≤ x13 ∧ x13 ≤ 2147483647) (i422_5 : 0 ≤ x14 ∧ x14 ≤ 1) (i422_6 : S0 1079 10 ≤ S 1079 10 ∧ S 1079 10 ≤ S0 1079 10 + 3) (i422_7 : p6 = 1 → S 1079 10 = S0 1079 10) (R : Nat) (hR : (34359738368 + 0) = R) (k516 : ∀ (x12 : Int) (x13 : Int) (S : zz_S), zz_G S → zz_fr [(1079, 10), (1079, 57)] [1086, 1087] (fun _ _ => False) S0 S → ((-2147483648) ≤ x12 ∧ x12 ≤ 2147483647) → ((-2147483648) ≤ x13 ∧ x13 ≤ 2147483647) → (S0 1079 10 ≤ S 1079 10 ∧ S 1079 10 ≤ S0 1079 10 + 4) → (p6 = 1 → S 1079 10 = S0 1079 10) → (17179869184 + 0) < R → zz_E g l zy_groupLoads_14_84 zr_groupLoads_14_84 (zz_QV n (zp_groupLoads_14_84 p0 p1 p2 p3 p4 p5 p6 S0)) S n 516 [some (.ref 1079), none, none, none, none, some (zi p4), none, some (zi p6), none, none, none, none, some (zi x12), some (zi x13)] [] 0 0) : zz_E g l zy_groupLoads_14_84 zr_groupLoads_14_84 (zz_QV n (zp_groupLoads_14_84 p0 p1 p2 p3 p4 p5 p6 S0)) S n 422 [some (.ref 1079), some (zi p0), none, none, some (zi p3), some (zi p4), none, some (zi p6), some (zi x8), none, some (zi x10), some (zi x11), some (zi x12), some (zi x13), some (zi x14)] [] 0 0 := by
  refine zz_iload (x := x14) rfl zd_14_84_422 ?_
  refine zz_if_ne (by omega) zd_14_84_424 (fun c160 => ?_) (fun c160 => ?_)
  · have g161 := zz_G.r G_S 1079 10 0 1000000 rfl rfl
    exact zz_vret zd_14_84_574 rfl (Nat.zero_le _) (Nat.zero_le _) ⟨_, rfl, G_S, F_S, by omega, by omega⟩
  · refine zz_aload_n (x := 1079) rfl zd_14_84_427 ?_
    refine zz_iconst zd_14_84_428 ?_
    refine zz_aload_n (x := 1079) rfl zd_14_84_429 ?_
    refine zz_getr (kd := 0) (z := 1105) zd_14_84_430 zf_Md_97 zT_1079 rfl (zz_ltn hn rfl) (zz_G.eq G_S 1079 40 1105 rfl rfl) (by decide) 1105 rfl ?_
    refine zz_iload (x := x8) rfl zd_14_84_433 ?_
    have g162 := zz_G.r G_S0 1105 x8.toNat (0) (if x8.toNat = 0 then 0 else 10000000) rfl rfl
    refine zz_iald (z := S0 1105 x8.toNat) zd_14_84_435 zT_1105 rfl (zz_ltn hn rfl) (by decide) (by omega) (zz_rc F_S (zz_nc1 rfl) rfl (fun h => h) rfl) ?_
    refine zz_iload (x := x10) rfl zd_14_84_436 ?_
    refine zz_aload_n (x := 1079) rfl zd_14_84_438 ?_
    refine zz_getr (kd := 0) (z := 1103) zd_14_84_439 zf_Md_91 zT_1079 rfl (zz_ltn hn rfl) (zz_G.eq G_S 1079 38 1103 rfl rfl) (by decide) 1103 rfl ?_
    refine zz_iload (x := x8) rfl zd_14_84_442 ?_
    have g163 := zz_G.r G_S0 1103 x8.toNat 0 63 rfl rfl
    refine zz_iald (z := S0 1103 x8.toNat) zd_14_84_444 zT_1103 rfl (zz_ltn hn rfl) (by decide) (by omega) (zz_rc F_S (zz_nc1 rfl) rfl (fun h => h) rfl) ?_
    refine zz_imul zd_14_84_445 ?_
    refine zz_nrm (fun v164 hv164 ev164 => ?_)
    clear ev164
    refine zz_iload (x := x11) rfl zd_14_84_446 ?_
    refine zz_iadd zd_14_84_448 ?_
    refine zz_nrm (fun v165 hv165 ev165 => ?_)
    clear ev165
    refine zz_aload_n (x := 1079) rfl zd_14_84_449 ?_
    refine zz_getr (kd := 0) (z := 1111) zd_14_84_450 zf_Md_115 zT_1079 rfl (zz_ltn hn rfl) (zz_G.eq G_S 1079 46 1111 rfl rfl) (by decide) 1111 rfl ?_
    refine zz_iload_n (x := p0) rfl zd_14_84_453 ?_
    have g166 := zz_G.r G_S0 1111 p0.toNat 0 3 rfl rfl
    refine zz_iald (z := S0 1111 p0.toNat) zd_14_84_454 zT_1111 rfl (zz_ltn hn rfl) (by decide) (by omega) (zz_rc F_S (zz_nc1 rfl) rfl (fun h => h) rfl) ?_
    refine zz_iload (x := x12) rfl zd_14_84_455 ?_
    refine zz_imul zd_14_84_457 ?_
    refine zz_nrm (fun v167 hv167 ev167 => ?_)
    clear ev167
    refine zz_iadd zd_14_84_458 ?_
    refine zz_nrm (fun v168 hv168 ev168 => ?_)
    clear ev168
    refine zz_aload_n (x := 1079) rfl zd_14_84_459 ?_
    refine zz_getr (kd := 0) (z := 1104) zd_14_84_460 zf_Md_94 zT_1079 rfl (zz_ltn hn rfl) (zz_G.eq G_S 1079 39 1104 rfl rfl) (by decide) 1104 rfl ?_
    refine zz_iload (x := x8) rfl zd_14_84_463 ?_
    have g169 := zz_G.r G_S0 1104 x8.toNat 0 63 rfl rfl
    refine zz_iald (z := S0 1104 x8.toNat) zd_14_84_465 zT_1104 rfl (zz_ltn hn rfl) (by decide) (by omega) (zz_rc F_S (zz_nc1 rfl) rfl (fun h => h) rfl) ?_
    refine zz_imul zd_14_84_466 ?_
    refine zz_nrm (fun v170 hv170 ev170 => ?_)
    clear ev170
    refine zz_iadd zd_14_84_467 ?_
    refine zz_nrm (fun v171 hv171 ev171 => ?_)
    clear ev171
    refine zz_iload (x := p3) rfl zd_14_84_468 ?_
    refine zz_iadd zd_14_84_470 ?_
    refine zz_nrm (fun v172 hv172 ev172 => ?_)
    clear ev172
    refine zz_iload (x := x13) rfl zd_14_84_471 ?_
    refine zz_iload (x := p4) rfl zd_14_84_473 ?_
    refine zz_callVV [zi 1, zi v172, zi x13, zi p4] zd_14_84_475 zk_Md_475 zT_1079 (zz_ltn hn rfl) rfl rfl ⟨Nat.le_of_ble_eq_true rfl, Nat.le_of_ble_eq_true rfl⟩ ⟨rfl, rfl⟩ (Nat.zero_le _) (Nat.zero_le _) (zc_set_14_78 1 v172 x13 p4 S n hn G_S (by omega) (by omega) (by omega) (by omega)) (fun S173 hP => ?_)
    obtain ⟨G_S173, fS173⟩ := hP
    have F_S173 := zz_fr.trans F_S fS173 rfl zz_nv
    refine zz_aload_n (x := 1079) rfl zd_14_84_478 ?_
    refine zz_aload_n (x := 1079) rfl zd_14_84_479 ?_
    refine zz_callVI [] zd_14_84_480 zk_Md_489 zT_1079 (zz_ltn hn rfl) rfl rfl ⟨Nat.le_of_ble_eq_true rfl, Nat.le_of_ble_eq_true rfl⟩ ⟨rfl, rfl⟩ (Nat.zero_le _) (Nat.zero_le _) (zc_half_14_80  S173 n hn G_S173 ) (fun v176 S175 hP => ?_)
    obtain ⟨rfl, o177⟩ := hP
    refine zz_iload (x := x12) rfl zd_14_84_483 ?_
    refine zz_aload_n (x := 1079) rfl zd_14_84_485 ?_
    have g178 := zz_G.r G_S0 1079 1 2 8 rfl rfl
    refine zz_geti (z := S0 1079 1) zd_14_84_486 zf_Md_7 zT_1079 rfl (zz_ltn hn rfl) (zz_rc fS173 rfl rfl (fun h => h) (zz_rc F_S rfl rfl (fun h => h) rfl)) ?_
    refine zz_imul zd_14_84_489 ?_
    refine zz_nrm (fun v179 hv179 ev179 => ?_)
    clear ev179
    refine zz_iadd zd_14_84_490 ?_
    refine zz_nrm (fun v180 hv180 ev180 => ?_)
    clear ev180
    refine zz_iconst zd_14_84_491 ?_
    refine zz_aload_n (x := 1079) rfl zd_14_84_492 ?_
    refine zz_getr (kd := 0) (z := 1111) zd_14_84_493 zf_Md_115 zT_1079 rfl (zz_ltn hn rfl) (zz_G.eq G_S173 1079 46 1111 rfl rfl) (by decide) 1111 rfl ?_
    refine zz_iload_n (x := p0) rfl zd_14_84_496 ?_
    refine zz_iald (z := S0 1111 p0.toNat) zd_14_84_497 zT_1111 rfl (zz_ltn hn rfl) (by decide) (by omega) (zz_rc fS173 (zz_nc1 rfl) rfl (fun h => h) (zz_rc F_S (zz_nc1 rfl) rfl (fun h => h) rfl)) ?_
    refine zz_aload_n (x := 1079) rfl zd_14_84_498 ?_
    refine zz_getr (kd := 0) (z := 1104) zd_14_84_499 zf_Md_94 zT_1079 rfl (zz_ltn hn rfl) (zz_G.eq G_S173 1079 39 1104 rfl rfl) (by decide) 1104 rfl ?_
    refine zz_iload (x := x8) rfl zd_14_84_502 ?_
    refine zz_iald (z := S0 1104 x8.toNat) zd_14_84_504 zT_1104 rfl (zz_ltn hn rfl) (by decide) (by omega) (zz_rc fS173 (zz_nc1 rfl) rfl (fun h => h) (zz_rc F_S (zz_nc1 rfl) rfl (fun h => h) rfl)) ?_
    refine zz_imul zd_14_84_505 ?_
    have m181 := zz_mulb (a := S0 1111 p0.toNat) (b := S0 1104 x8.toNat) 3 63 189 (by omega) (by omega) (by decide)
    refine zz_iconst zd_14_84_506 ?_
    refine zz_callVV [zi v180, zi 0, zi ((S0 1111 p0.toNat) * (S0 1104 x8.toNat)), zi 0] zd_14_84_507 zk_Md_482 zT_1079 (zz_ltn hn rfl) rfl rfl ⟨Nat.le_of_ble_eq_true rfl, Nat.le_of_ble_eq_true rfl⟩ ⟨rfl, rfl⟩ (Nat.zero_le _) (Nat.zero_le _) (zc_with_14_79 v180 0 ((S0 1111 p0.toNat) * (S0 1104 x8.toNat)) 0 S173 n hn G_S173 (by omega) (by omega) (by omega) (by omega)) (fun S182 hP => ?_)
    obtain ⟨G_S182, fS182⟩ := hP
    have F_S182 := zz_fr.trans F_S173 fS182 rfl zz_nv
    refine zz_aload_n (x := 1079) rfl zd_14_84_510 ?_
    refine zz_iload (x := p6) rfl zd_14_84_511 ?_
    have g184 := zz_G.r G_S 1079 10 0 1000000 rfl rfl
    have e185 : S182 1079 10 = S 1079 10 := (zz_rc fS182 rfl rfl (fun h => h) (zz_rc fS173 rfl rfl (fun h => h) rfl))
    refine zz_callVV [zi p6] zd_14_84_513 zk_Md_485 zT_1079 (zz_ltn hn rfl) rfl rfl ⟨Nat.le_of_ble_eq_true rfl, Nat.le_of_ble_eq_true rfl⟩ ⟨rfl, rfl⟩ (Nat.zero_le _) (Nat.zero_le _) (zc_load_14_82 p6 S182 n hn G_S182 (by omega) (by omega)) (fun S186 hP => ?_)
    obtain ⟨G_S186, fS186, o188, o189⟩ := hP
    have F_S186 := zz_fr.trans F_S182 fS186 rfl zz_nv
    have g190 := zz_G.r G_S186 1079 10 0 1000000 rfl rfl
    refine zz_less (ls1 := [some (.ref 1079), none, none, none, none, some (zi p4), none, some (zi p6), none, none, none, none, some (zi x12), some (zi x13)]) ⟨rfl, ⟨rfl, ⟨rfl, ⟨rfl, ⟨rfl, trivial⟩⟩⟩⟩⟩ ?_
    exact k516 x12 x13 S186 G_S186 F_S186 (by omega) (by omega) (by omega) (by omega) (by omega)
theorem zb_groupLoads_14_84_516 {g : mm_G} {l : Launch} (p0 : Int) (p1 : Int) (p2 : Int) (p3 : Int) (p4 : Int) (p5 : Int) (p6 : Int) (S0 : zz_S) (n : Nat) (hn : zz_end ≤ n) (G_S0 : zz_G S0) (hp0 : 0 ≤ p0 ∧ p0 ≤ 9) (hp1 : (-2147483648) ≤ p1 ∧ p1 ≤ 2147483647) (hp2 : (-2147483648) ≤ p2 ∧ p2 ≤ 2147483647) (hp3 : (-2147483648) ≤ p3 ∧ p3 ≤ 2147483647) (hp4 : (-2147483648) ≤ p4 ∧ p4 ≤ 2147483647) (hp5 : 0 ≤ p5 ∧ p5 ≤ 1) (hp6 : 0 ≤ p6 ∧ p6 ≤ 1) (hq : S0 1079 10 ≤ 900000) (x12 : Int) (x13 : Int) (S : zz_S) (G_S : zz_G S) (F_S : zz_fr [(1079, 10), (1079, 57)] [1086, 1087] (fun _ _ => False) S0 S) (i516_0 : (-2147483648) ≤ x12 ∧ x12 ≤ 2147483647) (i516_1 : (-2147483648) ≤ x13 ∧ x13 ≤ 2147483647) (i516_2 : S0 1079 10 ≤ S 1079 10 ∧ S 1079 10 ≤ S0 1079 10 + 4) (i516_3 : p6 = 1 → S 1079 10 = S0 1079 10) (R : Nat) (hR : (17179869184 + 0) = R)  : zz_E g l zy_groupLoads_14_84 zr_groupLoads_14_84 (zz_QV n (zp_groupLoads_14_84 p0 p1 p2 p3 p4 p5 p6 S0)) S n 516 [some (.ref 1079), none, none, none, none, some (zi p4), none, some (zi p6), none, none, none, none, some (zi x12), some (zi x13)] [] 0 0 := by
  refine zz_iload (x := x12) rfl zd_14_84_516 ?_
  refine zz_iload (x := x13) rfl zd_14_84_518 ?_
  refine zz_iadd zd_14_84_520 ?_
  refine zz_nrm (fun v191 hv191 ev191 => ?_)
  clear ev191
  refine zz_aload_n (x := 1079) rfl zd_14_84_521 ?_
  have g192 := zz_G.r G_S0 1079 52 (-2147483648) 2147483647 rfl rfl
  refine zz_geti (z := S0 1079 52) zd_14_84_522 zf_Md_469 zT_1079 rfl (zz_ltn hn rfl) (zz_rc F_S rfl rfl (fun h => h) rfl) ?_
  refine zz_icmp_ge (by omega) (by omega) zd_14_84_525 (fun c193 => ?_) (fun c193 => ?_)
  · have g194 := zz_G.r G_S 1079 10 0 1000000 rfl rfl
    exact zz_vret zd_14_84_574 rfl (Nat.zero_le _) (Nat.zero_le _) ⟨_, rfl, G_S, F_S, by omega, by omega⟩
  · refine zz_aload_n (x := 1079) rfl zd_14_84_528 ?_
    refine zz_iconst zd_14_84_529 ?_
    refine zz_iconst zd_14_84_530 ?_
    refine zz_aload_n (x := 1079) rfl zd_14_84_531 ?_
    refine zz_geti (z := S0 1079 52) zd_14_84_532 zf_Md_469 zT_1079 rfl (zz_ltn hn rfl) (zz_rc F_S rfl rfl (fun h => h) rfl) ?_
    refine zz_iload (x := x12) rfl zd_14_84_535 ?_
    refine zz_isub zd_14_84_537 ?_
    refine zz_nrm (fun v195 hv195 ev195 => ?_)
    clear ev195
    refine zz_iload (x := x13) rfl zd_14_84_538 ?_
    refine zz_isub zd_14_84_540 ?_
    refine zz_nrm (fun v196 hv196 ev196 => ?_)
    clear ev196
    refine zz_iload (x := p4) rfl zd_14_84_541 ?_
    refine zz_callVV [zi 3, zi 0, zi v196, zi p4] zd_14_84_543 zk_Md_475 zT_1079 (zz_ltn hn rfl) rfl rfl ⟨Nat.le_of_ble_eq_true rfl, Nat.le_of_ble_eq_true rfl⟩ ⟨rfl, rfl⟩ (Nat.zero_le _) (Nat.zero_le _) (zc_set_14_78 3 0 v196 p4 S n hn G_S (by omega) (by omega) (by omega) (by omega)) (fun S197 hP => ?_)
    obtain ⟨G_S197, fS197⟩ := hP
    have F_S197 := zz_fr.trans F_S fS197 rfl zz_nv
    refine zz_aload_n (x := 1079) rfl zd_14_84_546 ?_
    refine zz_aload_n (x := 1079) rfl zd_14_84_547 ?_
    refine zz_callVI [] zd_14_84_548 zk_Md_489 zT_1079 (zz_ltn hn rfl) rfl rfl ⟨Nat.le_of_ble_eq_true rfl, Nat.le_of_ble_eq_true rfl⟩ ⟨rfl, rfl⟩ (Nat.zero_le _) (Nat.zero_le _) (zc_half_14_80  S197 n hn G_S197 ) (fun v200 S199 hP => ?_)
    obtain ⟨rfl, o201⟩ := hP
    refine zz_iload (x := x12) rfl zd_14_84_551 ?_
    refine zz_iload (x := x13) rfl zd_14_84_553 ?_
    refine zz_iadd zd_14_84_555 ?_
    refine zz_nrm (fun v202 hv202 ev202 => ?_)
    clear ev202
    refine zz_aload_n (x := 1079) rfl zd_14_84_556 ?_
    have g203 := zz_G.r G_S0 1079 1 2 8 rfl rfl
    refine zz_geti (z := S0 1079 1) zd_14_84_557 zf_Md_7 zT_1079 rfl (zz_ltn hn rfl) (zz_rc fS197 rfl rfl (fun h => h) (zz_rc F_S rfl rfl (fun h => h) rfl)) ?_
    refine zz_imul zd_14_84_560 ?_
    refine zz_nrm (fun v204 hv204 ev204 => ?_)
    clear ev204
    refine zz_iadd zd_14_84_561 ?_
    refine zz_nrm (fun v205 hv205 ev205 => ?_)
    clear ev205
    refine zz_iconst zd_14_84_562 ?_
    refine zz_iconst zd_14_84_563 ?_
    refine zz_iconst zd_14_84_564 ?_
    refine zz_callVV [zi v205, zi 0, zi 0, zi 0] zd_14_84_565 zk_Md_482 zT_1079 (zz_ltn hn rfl) rfl rfl ⟨Nat.le_of_ble_eq_true rfl, Nat.le_of_ble_eq_true rfl⟩ ⟨rfl, rfl⟩ (Nat.zero_le _) (Nat.zero_le _) (zc_with_14_79 v205 0 0 0 S197 n hn G_S197 (by omega) (by omega) (by omega) (by omega)) (fun S206 hP => ?_)
    obtain ⟨G_S206, fS206⟩ := hP
    have F_S206 := zz_fr.trans F_S197 fS206 rfl zz_nv
    refine zz_aload_n (x := 1079) rfl zd_14_84_568 ?_
    refine zz_iload (x := p6) rfl zd_14_84_569 ?_
    have g208 := zz_G.r G_S 1079 10 0 1000000 rfl rfl
    have e209 : S206 1079 10 = S 1079 10 := (zz_rc fS206 rfl rfl (fun h => h) (zz_rc fS197 rfl rfl (fun h => h) rfl))
    refine zz_callVV [zi p6] zd_14_84_571 zk_Md_485 zT_1079 (zz_ltn hn rfl) rfl rfl ⟨Nat.le_of_ble_eq_true rfl, Nat.le_of_ble_eq_true rfl⟩ ⟨rfl, rfl⟩ (Nat.zero_le _) (Nat.zero_le _) (zc_load_14_82 p6 S206 n hn G_S206 (by omega) (by omega)) (fun S210 hP => ?_)
    obtain ⟨G_S210, fS210, o212, o213⟩ := hP
    have F_S210 := zz_fr.trans F_S206 fS210 rfl zz_nv
    have g214 := zz_G.r G_S210 1079 10 0 1000000 rfl rfl
    exact zz_vret zd_14_84_574 rfl (Nat.zero_le _) (Nat.zero_le _) ⟨_, rfl, G_S210, F_S210, by omega, by omega⟩
theorem zi_groupLoads_14_84 {g : mm_G} {l : Launch} (p0 : Int) (p1 : Int) (p2 : Int) (p3 : Int) (p4 : Int) (p5 : Int) (p6 : Int) (S0 : zz_S) (n : Nat) (hn : zz_end ≤ n) (G_S0 : zz_G S0) (hp0 : 0 ≤ p0 ∧ p0 ≤ 9) (hp1 : (-2147483648) ≤ p1 ∧ p1 ≤ 2147483647) (hp2 : (-2147483648) ≤ p2 ∧ p2 ≤ 2147483647) (hp3 : (-2147483648) ≤ p3 ∧ p3 ≤ 2147483647) (hp4 : (-2147483648) ≤ p4 ∧ p4 ≤ 2147483647) (hp5 : 0 ≤ p5 ∧ p5 ≤ 1) (hp6 : 0 ≤ p6 ∧ p6 ≤ 1) (hq : S0 1079 10 ≤ 900000) : ∀ N : Nat, (∀ (x8 : Int) (x9 : Int) (S : zz_S), zz_G S → zz_fr [(1079, 10), (1079, 57)] [1086, 1087] (fun _ _ => False) S0 S → (0 ≤ x8 ∧ x8 ≤ 10) → (0 ≤ x9 ∧ x9 ≤ 63) → (S0 1079 10 ≤ S 1079 10 ∧ S 1079 10 ≤ S0 1079 10 + 1) → (p6 = 1 → S 1079 10 = S0 1079 10) → (137438953472 + 0) < N → zz_E g l zy_groupLoads_14_84 zr_groupLoads_14_84 (zz_QV n (zp_groupLoads_14_84 p0 p1 p2 p3 p4 p5 p6 S0)) S n 75 [some (.ref 1079), some (zi p0), some (zi p1), some (zi p2), some (zi p3), some (zi p4), none, some (zi p6), some (zi x8), some (zi x9)] [] 0 0) ∧ (∀ (x8 : Int) (S : zz_S), zz_G S → zz_fr [(1079, 10), (1079, 57)] [1086, 1087] (fun _ _ => False) S0 S → (0 ≤ x8 ∧ x8 ≤ 10) → (S0 1079 10 ≤ S 1079 10 ∧ S 1079 10 ≤ S0 1079 10 + 2) → (p6 = 1 → S 1079 10 = S0 1079 10) → (120259084288 + 0) < N → zz_E g l zy_groupLoads_14_84 zr_groupLoads_14_84 (zz_QV n (zp_groupLoads_14_84 p0 p1 p2 p3 p4 p5 p6 S0)) S n 158 [some (.ref 1079), some (zi p0), some (zi p1), some (zi p2), some (zi p3), some (zi p4), none, some (zi p6), some (zi x8)] [] 0 0) ∧ (∀ (x8 : Int) (S : zz_S), zz_G S → zz_fr [(1079, 10), (1079, 57)] [1086, 1087] (fun _ _ => False) S0 S → (0 ≤ x8 ∧ x8 ≤ 10) → (S0 1079 10 ≤ S 1079 10 ∧ S 1079 10 ≤ S0 1079 10 + 2) → (p6 = 1 → S 1079 10 = S0 1079 10) → (103079215104 + 0) < N → zz_E g l zy_groupLoads_14_84 zr_groupLoads_14_84 (zz_QV n (zp_groupLoads_14_84 p0 p1 p2 p3 p4 p5 p6 S0)) S n 247 [some (.ref 1079), some (zi p0), some (zi p1), some (zi p2), some (zi p3), some (zi p4), none, some (zi p6), some (zi x8)] [] 0 0) ∧ (∀ (x8 : Int) (x10 : Int) (x11 : Int) (x12 : Int) (x13 : Int) (x14 : Int) (S : zz_S), zz_G S → zz_fr [(1079, 10), (1079, 57)] [1086, 1087] (fun _ _ => False) S0 S → (0 ≤ x8 ∧ x8 ≤ 10) → ((-2147483648) ≤ x10 ∧ x10 ≤ 2147483647) → ((-2147483648) ≤ x11 ∧ x11 ≤ 2147483647) → ((-2147483648) ≤ x12 ∧ x12 ≤ 2147483647) → ((-2147483648) ≤ x13 ∧ x13 ≤ 2147483647) → (0 ≤ x14 ∧ x14 ≤ 2147483647) → (S0 1079 10 ≤ S 1079 10 ∧ S 1079 10 ≤ S0 1079 10 + 2) → (p6 = 1 → S 1079 10 = S0 1079 10) → (85899345920 + (2147483647 - x14).toNat) < N → zz_E g l zy_groupLoads_14_84 zr_groupLoads_14_84 (zz_QV n (zp_groupLoads_14_84 p0 p1 p2 p3 p4 p5 p6 S0)) S n 300 [some (.ref 1079), some (zi p0), none, none, some (zi p3), some (zi p4), none, some (zi p6), some (zi x8), none, some (zi x10), some (zi x11), some (zi x12), some (zi x13), some (zi x14)] [] 0 0) ∧ (∀ (x8 : Int) (x10 : Int) (x11 : Int) (x12 : Int) (x13 : Int) (S : zz_S), zz_G S → zz_fr [(1079, 10), (1079, 57)] [1086, 1087] (fun _ _ => False) S0 S → (0 ≤ x8 ∧ x8 ≤ 10) → ((-2147483648) ≤ x10 ∧ x10 ≤ 2147483647) → ((-2147483648) ≤ x11 ∧ x11 ≤ 2147483647) → ((-2147483648) ≤ x12 ∧ x12 ≤ 2147483647) → ((-2147483648) ≤ x13 ∧ x13 ≤ 2147483647) → (S0 1079 10 ≤ S 1079 10 ∧ S 1079 10 ≤ S0 1079 10 + 2) → (p6 = 1 → S 1079 10 = S0 1079 10) → (68719476736 + 0) < N → zz_E g l zy_groupLoads_14_84 zr_groupLoads_14_84 (zz_QV n (zp_groupLoads_14_84 p0 p1 p2 p3 p4 p5 p6 S0)) S n 378 [some (.ref 1079), some (zi p0), none, none, some (zi p3), some (zi p4), none, some (zi p6), some (zi x8), none, some (zi x10), some (zi x11), some (zi x12), some (zi x13)] [] 0 0) ∧ (∀ (x8 : Int) (x10 : Int) (x11 : Int) (x12 : Int) (x13 : Int) (x14 : Int) (S : zz_S), zz_G S → zz_fr [(1079, 10), (1079, 57)] [1086, 1087] (fun _ _ => False) S0 S → (0 ≤ x8 ∧ x8 ≤ 10) → ((-2147483648) ≤ x10 ∧ x10 ≤ 2147483647) → ((-2147483648) ≤ x11 ∧ x11 ≤ 2147483647) → ((-2147483648) ≤ x12 ∧ x12 ≤ 2147483647) → ((-2147483648) ≤ x13 ∧ x13 ≤ 2147483647) → (0 ≤ x14 ∧ x14 ≤ 1) → (S0 1079 10 ≤ S 1079 10 ∧ S 1079 10 ≤ S0 1079 10 + 2) → (p6 = 1 → S 1079 10 = S0 1079 10) → (51539607552 + 0) < N → zz_E g l zy_groupLoads_14_84 zr_groupLoads_14_84 (zz_QV n (zp_groupLoads_14_84 p0 p1 p2 p3 p4 p5 p6 S0)) S n 390 [some (.ref 1079), some (zi p0), none, none, some (zi p3), some (zi p4), none, some (zi p6), some (zi x8), none, some (zi x10), some (zi x11), some (zi x12), some (zi x13), some (zi x14)] [] 0 0) ∧ (∀ (x8 : Int) (x10 : Int) (x11 : Int) (x12 : Int) (x13 : Int) (x14 : Int) (S : zz_S), zz_G S → zz_fr [(1079, 10), (1079, 57)] [1086, 1087] (fun _ _ => False) S0 S → (0 ≤ x8 ∧ x8 ≤ 10) → ((-2147483648) ≤ x10 ∧ x10 ≤ 2147483647) → ((-2147483648) ≤ x11 ∧ x11 ≤ 2147483647) → ((-2147483648) ≤ x12 ∧ x12 ≤ 2147483647) → ((-2147483648) ≤ x13 ∧ x13 ≤ 2147483647) → (0 ≤ x14 ∧ x14 ≤ 1) → (S0 1079 10 ≤ S 1079 10 ∧ S 1079 10 ≤ S0 1079 10 + 3) → (p6 = 1 → S 1079 10 = S0 1079 10) → (34359738368 + 0) < N → zz_E g l zy_groupLoads_14_84 zr_groupLoads_14_84 (zz_QV n (zp_groupLoads_14_84 p0 p1 p2 p3 p4 p5 p6 S0)) S n 422 [some (.ref 1079), some (zi p0), none, none, some (zi p3), some (zi p4), none, some (zi p6), some (zi x8), none, some (zi x10), some (zi x11), some (zi x12), some (zi x13), some (zi x14)] [] 0 0) ∧ (∀ (x12 : Int) (x13 : Int) (S : zz_S), zz_G S → zz_fr [(1079, 10), (1079, 57)] [1086, 1087] (fun _ _ => False) S0 S → ((-2147483648) ≤ x12 ∧ x12 ≤ 2147483647) → ((-2147483648) ≤ x13 ∧ x13 ≤ 2147483647) → (S0 1079 10 ≤ S 1079 10 ∧ S 1079 10 ≤ S0 1079 10 + 4) → (p6 = 1 → S 1079 10 = S0 1079 10) → (17179869184 + 0) < N → zz_E g l zy_groupLoads_14_84 zr_groupLoads_14_84 (zz_QV n (zp_groupLoads_14_84 p0 p1 p2 p3 p4 p5 p6 S0)) S n 516 [some (.ref 1079), none, none, none, none, some (zi p4), none, some (zi p6), none, none, none, none, some (zi x12), some (zi x13)] [] 0 0) := by
  intro N
  induction N with
  | zero => exact ⟨fun x8 x9 S _ _ _ _ _ _ h => absurd h (Nat.not_lt_zero _), fun x8 S _ _ _ _ _ h => absurd h (Nat.not_lt_zero _), fun x8 S _ _ _ _ _ h => absurd h (Nat.not_lt_zero _), fun x8 x10 x11 x12 x13 x14 S _ _ _ _ _ _ _ _ _ _ h => absurd h (Nat.not_lt_zero _), fun x8 x10 x11 x12 x13 S _ _ _ _ _ _ _ _ _ h => absurd h (Nat.not_lt_zero _), fun x8 x10 x11 x12 x13 x14 S _ _ _ _ _ _ _ _ _ _ h => absurd h (Nat.not_lt_zero _), fun x8 x10 x11 x12 x13 x14 S _ _ _ _ _ _ _ _ _ _ h => absurd h (Nat.not_lt_zero _), fun x12 x13 S _ _ _ _ _ _ h => absurd h (Nat.not_lt_zero _)⟩
  | succ N ih =>
    exact ⟨fun x8 x9 S a b j0 j1 j2 j3 hR => zb_groupLoads_14_84_75 p0 p1 p2 p3 p4 p5 p6 S0 n hn G_S0 hp0 hp1 hp2 hp3 hp4 hp5 hp6 hq x8 x9 S a b j0 j1 j2 j3 _ rfl (fun x8 S a b j0 j1 j2 h => ih.2.1 x8 S a b j0 j1 j2 (Nat.lt_of_lt_of_le h (Nat.le_of_lt_succ hR))),
      fun x8 S a b j0 j1 j2 hR => zb_groupLoads_14_84_158 p0 p1 p2 p3 p4 p5 p6 S0 n hn G_S0 hp0 hp1 hp2 hp3 hp4 hp5 hp6 hq x8 S a b j0 j1 j2 _ rfl (fun x8 S a b j0 j1 j2 h => ih.2.2.1 x8 S a b j0 j1 j2 (Nat.lt_of_lt_of_le h (Nat.le_of_lt_succ hR))),
      fun x8 S a b j0 j1 j2 hR => zb_groupLoads_14_84_247 p0 p1 p2 p3 p4 p5 p6 S0 n hn G_S0 hp0 hp1 hp2 hp3 hp4 hp5 hp6 hq x8 S a b j0 j1 j2 _ rfl (fun x8 x10 x11 x12 x13 x14 S a b j0 j1 j2 j3 j4 j5 j6 j7 h => ih.2.2.2.1 x8 x10 x11 x12 x13 x14 S a b j0 j1 j2 j3 j4 j5 j6 j7 (Nat.lt_of_lt_of_le h (Nat.le_of_lt_succ hR))),
      fun x8 x10 x11 x12 x13 x14 S a b j0 j1 j2 j3 j4 j5 j6 j7 hR => zb_groupLoads_14_84_300 p0 p1 p2 p3 p4 p5 p6 S0 n hn G_S0 hp0 hp1 hp2 hp3 hp4 hp5 hp6 hq x8 x10 x11 x12 x13 x14 S a b j0 j1 j2 j3 j4 j5 j6 j7 _ rfl (fun x8 x10 x11 x12 x13 x14 S a b j0 j1 j2 j3 j4 j5 j6 j7 h => ih.2.2.2.1 x8 x10 x11 x12 x13 x14 S a b j0 j1 j2 j3 j4 j5 j6 j7 (Nat.lt_of_lt_of_le h (Nat.le_of_lt_succ hR))) (fun x8 x10 x11 x12 x13 S a b j0 j1 j2 j3 j4 j5 j6 h => ih.2.2.2.2.1 x8 x10 x11 x12 x13 S a b j0 j1 j2 j3 j4 j5 j6 (Nat.lt_of_lt_of_le h (Nat.le_of_lt_succ hR))),
      fun x8 x10 x11 x12 x13 S a b j0 j1 j2 j3 j4 j5 j6 hR => zb_groupLoads_14_84_378 p0 p1 p2 p3 p4 p5 p6 S0 n hn G_S0 hp0 hp1 hp2 hp3 hp4 hp5 hp6 hq x8 x10 x11 x12 x13 S a b j0 j1 j2 j3 j4 j5 j6 _ rfl (fun x8 x10 x11 x12 x13 x14 S a b j0 j1 j2 j3 j4 j5 j6 j7 h => ih.2.2.2.2.2.1 x8 x10 x11 x12 x13 x14 S a b j0 j1 j2 j3 j4 j5 j6 j7 (Nat.lt_of_lt_of_le h (Nat.le_of_lt_succ hR))),
      fun x8 x10 x11 x12 x13 x14 S a b j0 j1 j2 j3 j4 j5 j6 j7 hR => zb_groupLoads_14_84_390 p0 p1 p2 p3 p4 p5 p6 S0 n hn G_S0 hp0 hp1 hp2 hp3 hp4 hp5 hp6 hq x8 x10 x11 x12 x13 x14 S a b j0 j1 j2 j3 j4 j5 j6 j7 _ rfl (fun x8 x10 x11 x12 x13 x14 S a b j0 j1 j2 j3 j4 j5 j6 j7 h => ih.2.2.2.2.2.2.1 x8 x10 x11 x12 x13 x14 S a b j0 j1 j2 j3 j4 j5 j6 j7 (Nat.lt_of_lt_of_le h (Nat.le_of_lt_succ hR))),
      fun x8 x10 x11 x12 x13 x14 S a b j0 j1 j2 j3 j4 j5 j6 j7 hR => zb_groupLoads_14_84_422 p0 p1 p2 p3 p4 p5 p6 S0 n hn G_S0 hp0 hp1 hp2 hp3 hp4 hp5 hp6 hq x8 x10 x11 x12 x13 x14 S a b j0 j1 j2 j3 j4 j5 j6 j7 _ rfl (fun x12 x13 S a b j0 j1 j2 j3 h => ih.2.2.2.2.2.2.2 x12 x13 S a b j0 j1 j2 j3 (Nat.lt_of_lt_of_le h (Nat.le_of_lt_succ hR))),
      fun x12 x13 S a b j0 j1 j2 j3 hR => zb_groupLoads_14_84_516 p0 p1 p2 p3 p4 p5 p6 S0 n hn G_S0 hp0 hp1 hp2 hp3 hp4 hp5 hp6 hq x12 x13 S a b j0 j1 j2 j3 _ rfl ⟩
theorem zc_groupLoads_14_84 {g : mm_G} {l : Launch} (p0 : Int) (p1 : Int) (p2 : Int) (p3 : Int) (p4 : Int) (p5 : Int) (p6 : Int) (S0 : zz_S) (n : Nat) (hn : zz_end ≤ n) (G_S0 : zz_G S0) (hp0 : 0 ≤ p0 ∧ p0 ≤ 9) (hp1 : (-2147483648) ≤ p1 ∧ p1 ≤ 2147483647) (hp2 : (-2147483648) ≤ p2 ∧ p2 ≤ 2147483647) (hp3 : (-2147483648) ≤ p3 ∧ p3 ≤ 2147483647) (hp4 : (-2147483648) ≤ p4 ∧ p4 ≤ 2147483647) (hp5 : 0 ≤ p5 ∧ p5 ≤ 1) (hp6 : 0 ≤ p6 ∧ p6 ≤ 1) (hq : S0 1079 10 ≤ 900000) : mm_Met g l zy_groupLoads_14_84 zr_groupLoads_14_84 [.ref 1079, zi p0, zi p1, zi p2, zi p3, zi p4, zi p5, zi p6] (zz_M S0 n) n (zz_QV n (zp_groupLoads_14_84 p0 p1 p2 p3 p4 p5 p6 S0)) := by
  refine zz_enter (by decide) (Nat.le_of_ble_eq_true rfl) (zz_less (ls1 := [some (.ref 1079), some (zi p0), some (zi p1), some (zi p2), some (zi p3), some (zi p4), some (zi p5), some (zi p6)]) ⟨rfl, ⟨rfl, ⟨rfl, ⟨rfl, ⟨rfl, ⟨rfl, ⟨rfl, ⟨rfl, trivial⟩⟩⟩⟩⟩⟩⟩⟩ ?_)
  have F_S0 : zz_fr [(1079, 10), (1079, 57)] [1086, 1087] (fun _ _ => False) S0 S0 := zz_fr.refl
  have k75 : ∀ (x8 : Int) (x9 : Int) (S : zz_S), zz_G S → zz_fr [(1079, 10), (1079, 57)] [1086, 1087] (fun _ _ => False) S0 S → (0 ≤ x8 ∧ x8 ≤ 10) → (0 ≤ x9 ∧ x9 ≤ 63) → (S0 1079 10 ≤ S 1079 10 ∧ S 1079 10 ≤ S0 1079 10 + 1) → (p6 = 1 → S 1079 10 = S0 1079 10) → zz_E g l zy_groupLoads_14_84 zr_groupLoads_14_84 (zz_QV n (zp_groupLoads_14_84 p0 p1 p2 p3 p4 p5 p6 S0)) S n 75 [some (.ref 1079), some (zi p0), some (zi p1), some (zi p2), some (zi p3), some (zi p4), none, some (zi p6), some (zi x8), some (zi x9)] [] 0 0 := fun x8 x9 S a b j0 j1 j2 j3 => (zi_groupLoads_14_84 (g := g) (l := l) p0 p1 p2 p3 p4 p5 p6 S0 n hn G_S0 hp0 hp1 hp2 hp3 hp4 hp5 hp6 hq _).1 x8 x9 S a b j0 j1 j2 j3 (Nat.lt_succ_self _)
  refine zz_aload_n (x := 1079) rfl zd_14_84_0 ?_
  refine zz_getr (kd := 0) (z := 1107) zd_14_84_1 zf_Md_103 zT_1079 rfl (zz_ltn hn rfl) (zz_G.eq G_S0 1079 42 1107 rfl rfl) (by decide) 1107 rfl ?_
  refine zz_iload_n (x := p0) rfl zd_14_84_4 ?_
  have g1 := zz_G.r G_S0 1107 p0.toNat 0 10 rfl rfl
  refine zz_iald (z := S0 1107 p0.toNat) zd_14_84_5 zT_1107 rfl (zz_ltn hn rfl) (by decide) (by omega) rfl ?_
  refine zz_istore [some (.ref 1079), some (zi p0), some (zi p1), some (zi p2), some (zi p3), some (zi p4), some (zi p5), some (zi p6), some (zi (S0 1107 p0.toNat))] zd_14_84_6 (by decide) rfl ?_
  refine zz_aload_n (x := 1079) rfl zd_14_84_8 ?_
  refine zz_getr (kd := 0) (z := 1104) zd_14_84_9 zf_Md_94 zT_1079 rfl (zz_ltn hn rfl) (zz_G.eq G_S0 1079 39 1104 rfl rfl) (by decide) 1104 rfl ?_
  refine zz_iload_n (x := p0) rfl zd_14_84_12 ?_
  refine zz_iconst zd_14_84_13 ?_
  refine zz_iadd zd_14_84_14 ?_
  have g2 := zz_G.r G_S0 1104 ((p0 + 1).toNat) 0 63 rfl rfl
  refine zz_iald (z := S0 1104 ((p0 + 1).toNat)) zd_14_84_15 zT_1104 rfl (zz_ltn hn rfl) (by decide) (by omega) rfl ?_
  refine zz_istore [some (.ref 1079), some (zi p0), some (zi p1), some (zi p2), some (zi p3), some (zi p4), some (zi p5), some (zi p6), some (zi (S0 1107 p0.toNat)), some (zi (S0 1104 ((p0 + 1).toNat)))] zd_14_84_16 (by decide) rfl ?_
  refine zz_aload_n (x := 1079) rfl zd_14_84_18 ?_
  refine zz_getr (kd := 0) (z := 1106) zd_14_84_19 zf_Md_100 zT_1079 rfl (zz_ltn hn rfl) (zz_G.eq G_S0 1079 41 1106 rfl rfl) (by decide) 1106 rfl ?_
  refine zz_iload_n (x := p0) rfl zd_14_84_22 ?_
  have g3 := zz_G.r G_S0 1106 p0.toNat 0 2 rfl rfl
  refine zz_iald (z := S0 1106 p0.toNat) zd_14_84_23 zT_1106 rfl (zz_ltn hn rfl) (by decide) (by omega) rfl ?_
  refine zz_if_ne (by omega) zd_14_84_24 (fun c4 => ?_) (fun c4 => ?_)
  · have g5 := zz_G.r G_S0 1079 10 0 1000000 rfl rfl
    refine zz_less (ls1 := [some (.ref 1079), some (zi p0), some (zi p1), some (zi p2), some (zi p3), some (zi p4), none, some (zi p6), some (zi (S0 1107 p0.toNat)), some (zi (S0 1104 ((p0 + 1).toNat)))]) ⟨rfl, ⟨rfl, ⟨rfl, ⟨rfl, ⟨rfl, ⟨rfl, ⟨rfl, ⟨rfl, ⟨rfl, trivial⟩⟩⟩⟩⟩⟩⟩⟩⟩ ?_
    exact k75 (S0 1107 p0.toNat) (S0 1104 ((p0 + 1).toNat)) S0 G_S0 F_S0 (by omega) (by omega) (by omega) (by omega)
  · refine zz_iload (x := p5) rfl zd_14_84_27 ?_
    refine zz_if_eq (by omega) zd_14_84_29 (fun c6 => ?_) (fun c6 => ?_)
    · have g7 := zz_G.r G_S0 1079 10 0 1000000 rfl rfl
      refine zz_less (ls1 := [some (.ref 1079), some (zi p0), some (zi p1), some (zi p2), some (zi p3), some (zi p4), none, some (zi p6), some (zi (S0 1107 p0.toNat)), some (zi (S0 1104 ((p0 + 1).toNat)))]) ⟨rfl, ⟨rfl, ⟨rfl, ⟨rfl, ⟨rfl, ⟨rfl, ⟨rfl, ⟨rfl, ⟨rfl, trivial⟩⟩⟩⟩⟩⟩⟩⟩⟩ ?_
      exact k75 (S0 1107 p0.toNat) (S0 1104 ((p0 + 1).toNat)) S0 G_S0 F_S0 (by omega) (by omega) (by omega) (by omega)
    · refine zz_aload_n (x := 1079) rfl zd_14_84_32 ?_
      refine zz_iconst zd_14_84_33 ?_
      refine zz_aload_n (x := 1079) rfl zd_14_84_34 ?_
      refine zz_getr (kd := 0) (z := 1114) zd_14_84_35 zf_Md_124 zT_1079 rfl (zz_ltn hn rfl) (zz_G.eq G_S0 1079 49 1114 rfl rfl) (by decide) 1114 rfl ?_
      refine zz_iload_n (x := p0) rfl zd_14_84_38 ?_
      have g8 := zz_G.r G_S0 1114 p0.toNat 0 4096 rfl rfl
      refine zz_iald (z := S0 1114 p0.toNat) zd_14_84_39 zT_1114 rfl (zz_ltn hn rfl) (by decide) (by omega) rfl ?_
      refine zz_iconst zd_14_84_40 ?_
      refine zz_aload_n (x := 1079) rfl zd_14_84_41 ?_
      have g9 := zz_G.r G_S0 1079 56 (-2147483648) 2147483647 rfl rfl
      refine zz_geti (z := S0 1079 56) zd_14_84_42 zf_Md_466 zT_1079 rfl (zz_ltn hn rfl) rfl ?_
      refine zz_imul zd_14_84_45 ?_
      refine zz_nrm (fun v10 hv10 ev10 => ?_)
      clear ev10
      refine zz_iadd zd_14_84_46 ?_
      refine zz_nrm (fun v11 hv11 ev11 => ?_)
      clear ev11
      refine zz_aload_n (x := 1079) rfl zd_14_84_47 ?_
      have g12 := zz_G.r G_S0 1079 52 (-2147483648) 2147483647 rfl rfl
      refine zz_geti (z := S0 1079 52) zd_14_84_48 zf_Md_469 zT_1079 rfl (zz_ltn hn rfl) rfl ?_
      refine zz_aload_n (x := 1079) rfl zd_14_84_51 ?_
      have g13 := zz_G.r G_S0 1079 53 (-2147483648) 2147483647 rfl rfl
      refine zz_geti (z := S0 1079 53) zd_14_84_52 zf_Md_472 zT_1079 rfl (zz_ltn hn rfl) rfl ?_
      refine zz_callVV [zi 4, zi v11, zi (S0 1079 52), zi (S0 1079 53)] zd_14_84_55 zk_Md_475 zT_1079 (zz_ltn hn rfl) rfl rfl ⟨Nat.le_of_ble_eq_true rfl, Nat.le_of_ble_eq_true rfl⟩ ⟨rfl, rfl⟩ (Nat.zero_le _) (Nat.zero_le _) (zc_set_14_78 4 v11 (S0 1079 52) (S0 1079 53) S0 n hn G_S0 (by omega) (by omega) (by omega) (by omega)) (fun S14 hP => ?_)
      obtain ⟨G_S14, fS14⟩ := hP
      have F_S14 := zz_fr.trans F_S0 fS14 rfl zz_nv
      refine zz_aload_n (x := 1079) rfl zd_14_84_58 ?_
      refine zz_aload_n (x := 1079) rfl zd_14_84_59 ?_
      refine zz_callVI [] zd_14_84_60 zk_Md_479 zT_1079 (zz_ltn hn rfl) rfl rfl ⟨Nat.le_of_ble_eq_true rfl, Nat.le_of_ble_eq_true rfl⟩ ⟨rfl, rfl⟩ (Nat.zero_le _) (Nat.zero_le _) (zc_quarter_14_81  S14 n hn G_S14 ) (fun v17 S16 hP => ?_)
      obtain ⟨rfl, o18⟩ := hP
      refine zz_iconst zd_14_84_63 ?_
      refine zz_iconst zd_14_84_64 ?_
      refine zz_iconst zd_14_84_65 ?_
      refine zz_callVV [zi v17, zi 0, zi 0, zi 0] zd_14_84_66 zk_Md_482 zT_1079 (zz_ltn hn rfl) rfl rfl ⟨Nat.le_of_ble_eq_true rfl, Nat.le_of_ble_eq_true rfl⟩ ⟨rfl, rfl⟩ (Nat.zero_le _) (Nat.zero_le _) (zc_with_14_79 v17 0 0 0 S14 n hn G_S14 (by omega) (by omega) (by omega) (by omega)) (fun S19 hP => ?_)
      obtain ⟨G_S19, fS19⟩ := hP
      have F_S19 := zz_fr.trans F_S14 fS19 rfl zz_nv
      refine zz_aload_n (x := 1079) rfl zd_14_84_69 ?_
      refine zz_iload (x := p6) rfl zd_14_84_70 ?_
      have g21 := zz_G.r G_S0 1079 10 0 1000000 rfl rfl
      have e22 : S19 1079 10 = S0 1079 10 := (zz_rc fS19 rfl rfl (fun h => h) (zz_rc fS14 rfl rfl (fun h => h) rfl))
      refine zz_callVV [zi p6] zd_14_84_72 zk_Md_485 zT_1079 (zz_ltn hn rfl) rfl rfl ⟨Nat.le_of_ble_eq_true rfl, Nat.le_of_ble_eq_true rfl⟩ ⟨rfl, rfl⟩ (Nat.zero_le _) (Nat.zero_le _) (zc_load_14_82 p6 S19 n hn G_S19 (by omega) (by omega)) (fun S23 hP => ?_)
      obtain ⟨G_S23, fS23, o25, o26⟩ := hP
      have F_S23 := zz_fr.trans F_S19 fS23 rfl zz_nv
      have g27 := zz_G.r G_S23 1079 10 0 1000000 rfl rfl
      refine zz_less (ls1 := [some (.ref 1079), some (zi p0), some (zi p1), some (zi p2), some (zi p3), some (zi p4), none, some (zi p6), some (zi (S0 1107 p0.toNat)), some (zi (S0 1104 ((p0 + 1).toNat)))]) ⟨rfl, ⟨rfl, ⟨rfl, ⟨rfl, ⟨rfl, ⟨rfl, ⟨rfl, ⟨rfl, ⟨rfl, trivial⟩⟩⟩⟩⟩⟩⟩⟩⟩ ?_
      exact k75 (S0 1107 p0.toNat) (S0 1104 ((p0 + 1).toNat)) S23 G_S23 F_S23 (by omega) (by omega) (by omega) (by omega)
theorem zk_Md_462 : mm_Vl "TensorForgeModel" 462 11 7 zy_groupLoads_14_84 := ⟨zyw_groupLoads_14_84, (R_Md, F_Md, 69), rfl, mm_tb_1 2152 (by decide +kernel) rfl, mm_tb_1 2154 (by decide +kernel) rfl, mm_tb_s 130 (by decide +kernel) rfl⟩
theorem zg_14_83_24 : zq_at zy_group_14_83.2.1 24 42 ∧ zq_at zy_group_14_83.2.1 25 42 ∧ zq_at zy_group_14_83.2.1 26 180 ∧ zq_at zy_group_14_83.2.1 27 1 ∧ zq_at zy_group_14_83.2.1 28 197 ∧ zq_at zy_group_14_83.2.1 29 181 ∧ zq_at zy_group_14_83.2.1 30 1 ∧ zq_at zy_group_14_83.2.1 31 200 ∧ zq_at zy_group_14_83.2.1 32 42 ∧ zq_at zy_group_14_83.2.1 33 3 ∧ zq_at zy_group_14_83.2.1 34 181 ∧ zq_at zy_group_14_83.2.1 35 1 ∧ zq_at zy_group_14_83.2.1 36 197 ∧ zq_at zy_group_14_83.2.1 37 42 ∧ zq_at zy_group_14_83.2.1 38 27 ∧ zq_at zy_group_14_83.2.1 39 28 ∧ zq_at zy_group_14_83.2.1 40 29 ∧ zq_at zy_group_14_83.2.1 41 21 ∧ zq_at zy_group_14_83.2.1 42 4 ∧ zq_at zy_group_14_83.2.1 43 21 ∧ zq_at zy_group_14_83.2.1 44 5 ∧ zq_at zy_group_14_83.2.1 45 21 ∧ zq_at zy_group_14_83.2.1 46 6 ∧ zq_at zy_group_14_83.2.1 47 3 := by decide +kernel
theorem zd_14_83_24 : zz_D zy_group_14_83 24 (.aload_n 0) 1 25 := ⟨zq_42 zg_14_83_24.1, rfl⟩
theorem zd_14_83_25 : zz_D zy_group_14_83 25 (.aload_n 0) 1 26 := ⟨zq_42 zg_14_83_24.2.1, rfl⟩
theorem zd_14_83_26 : zz_D zy_group_14_83 26 (.getfield 453) 3 29 := ⟨zq_180 zg_14_83_24.2.2.1 zg_14_83_24.2.2.2.1 zg_14_83_24.2.2.2.2.1 rfl, rfl⟩
theorem zd_14_83_29 : zz_D zy_group_14_83 29 (.putfield 456) 3 32 := ⟨zq_181 zg_14_83_24.2.2.2.2.2.1 zg_14_83_24.2.2.2.2.2.2.1 zg_14_83_24.2.2.2.2.2.2.2.1 rfl, rfl⟩
theorem zd_14_83_32 : zz_D zy_group_14_83 32 (.aload_n 0) 1 33 := ⟨zq_42 zg_14_83_24.2.2.2.2.2.2.2.2.1, rfl⟩
theorem zd_14_83_33 : zz_D zy_group_14_83 33 (.iconst 0) 1 34 := ⟨zq_3 zg_14_83_24.2.2.2.2.2.2.2.2.2.1, rfl⟩
theorem zd_14_83_34 : zz_D zy_group_14_83 34 (.putfield 453) 3 37 := ⟨zq_181 zg_14_83_24.2.2.2.2.2.2.2.2.2.2.1 zg_14_83_24.2.2.2.2.2.2.2.2.2.2.2.1 zg_14_83_24.2.2.2.2.2.2.2.2.2.2.2.2.1 rfl, rfl⟩
theorem zd_14_83_37 : zz_D zy_group_14_83 37 (.aload_n 0) 1 38 := ⟨zq_42 zg_14_83_24.2.2.2.2.2.2.2.2.2.2.2.2.2.1, rfl⟩
theorem zd_14_83_38 : zz_D zy_group_14_83 38 (.iload_n 1) 1 39 := ⟨zq_27 zg_14_83_24.2.2.2.2.2.2.2.2.2.2.2.2.2.2.1, rfl⟩
theorem zd_14_83_39 : zz_D zy_group_14_83 39 (.iload_n 2) 1 40 := ⟨zq_28 zg_14_83_24.2.2.2.2.2.2.2.2.2.2.2.2.2.2.2.1, rfl⟩
theorem zd_14_83_40 : zz_D zy_group_14_83 40 (.iload_n 3) 1 41 := ⟨zq_29 zg_14_83_24.2.2.2.2.2.2.2.2.2.2.2.2.2.2.2.2.1, rfl⟩
theorem zd_14_83_41 : zz_D zy_group_14_83 41 (.iload 4) 2 43 := ⟨zq_21 zg_14_83_24.2.2.2.2.2.2.2.2.2.2.2.2.2.2.2.2.2.1 zg_14_83_24.2.2.2.2.2.2.2.2.2.2.2.2.2.2.2.2.2.2.1, rfl⟩
theorem zd_14_83_43 : zz_D zy_group_14_83 43 (.iload 5) 2 45 := ⟨zq_21 zg_14_83_24.2.2.2.2.2.2.2.2.2.2.2.2.2.2.2.2.2.2.2.1 zg_14_83_24.2.2.2.2.2.2.2.2.2.2.2.2.2.2.2.2.2.2.2.2.1, rfl⟩
theorem zd_14_83_45 : zz_D zy_group_14_83 45 (.iload 6) 2 47 := ⟨zq_21 zg_14_83_24.2.2.2.2.2.2.2.2.2.2.2.2.2.2.2.2.2.2.2.2.2.1 zg_14_83_24.2.2.2.2.2.2.2.2.2.2.2.2.2.2.2.2.2.2.2.2.2.2.1, rfl⟩
theorem zd_14_83_47 : zz_D zy_group_14_83 47 (.iconst 0) 1 48 := ⟨zq_3 zg_14_83_24.2.2.2.2.2.2.2.2.2.2.2.2.2.2.2.2.2.2.2.2.2.2.2, rfl⟩
theorem zg_14_83_48 : zq_at zy_group_14_83.2.1 48 182 ∧ zq_at zy_group_14_83.2.1 49 1 ∧ zq_at zy_group_14_83.2.1 50 206 ∧ zq_at zy_group_14_83.2.1 51 177 := by decide +kernel
theorem zd_14_83_48 : zz_D zy_group_14_83 48 (.invokevirtual 462) 3 51 := ⟨zq_182 zg_14_83_48.1 zg_14_83_48.2.1 zg_14_83_48.2.2.1 rfl, rfl⟩
theorem zd_14_83_51 : zz_D zy_group_14_83 51 (.return_) 1 52 := ⟨zq_177 zg_14_83_48.2.2.2, rfl⟩

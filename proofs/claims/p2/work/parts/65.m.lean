-- TensorForgeModel takePart (I)Z
abbrev zr_takePart_14_100 : Room := { frames := 4, cells := 0, slots := 0, locals := 61 }
def zp_takePart_14_100 (p0 : Int) (S0 : zz_S) : Int → zz_S → Prop := fun r S => zz_G S ∧ zz_fr [(1079, 30), (1079, 31), (1079, 32), (1079, 61), (1079, 64)] [1118] (fun _ _ => False) S0 S ∧ (0 ≤ r ∧ r ≤ 1) ∧ (S 1079 32 > S0 1079 32 ∨ (S 1079 32 = S0 1079 32 ∧ (S 1079 30 = S0 1079 30 ∨ S 1079 30 = 0 ∨ S 1079 30 = 101)))
theorem zc_takePart_14_100 {g : mm_G} {l : Launch} (p0 : Int) (S0 : zz_S) (n : Nat) (hn : zz_end ≤ n) (G_S0 : zz_G S0) (hp0 : (-2147483648) ≤ p0 ∧ p0 ≤ 2147483647) : mm_Met g l zy_takePart_14_100 zr_takePart_14_100 [.ref 1079, zi p0] (zz_M S0 n) n (zz_QI n (zp_takePart_14_100 p0 S0)) := by
  refine zz_enter (by decide) (Nat.le_of_ble_eq_true rfl) (zz_less (ls1 := [some (.ref 1079), some (zi p0)]) ⟨rfl, ⟨rfl, trivial⟩⟩ ?_)
  have F_S0 : zz_fr [(1079, 30), (1079, 31), (1079, 32), (1079, 61), (1079, 64)] [1118] (fun _ _ => False) S0 S0 := zz_fr.refl
  refine zz_iload_n (x := p0) rfl zd_14_100_0 ?_
  by_cases c1 : p0 = 1
  · refine zz_lsw (off := 67) (by omega) zd_14_100_1 (by decide) (by rw [c1]; rfl) rfl ?_
    refine zz_aload_n (x := 1079) rfl zd_14_100_68 ?_
    refine zz_iconst zd_14_100_69 ?_
    have g2 := zz_G.r G_S0 1079 30 0 102 rfl rfl
    have g3 := zz_G.r G_S0 1079 32 0 1500 rfl rfl
    refine zz_callVI [zi 0] zd_14_100_70 zk_Md_550 zT_1079 (zz_ltn hn rfl) rfl rfl ⟨Nat.le_of_ble_eq_true rfl, Nat.le_of_ble_eq_true rfl⟩ ⟨rfl, rfl⟩ (Nat.zero_le _) (Nat.zero_le _) (zc_takeNet_14_95 0 S0 n hn G_S0 (by omega)) (fun v5 S4 hP => ?_)
    obtain ⟨G_S4, fS4, o6, o7⟩ := hP
    have F_S4 := zz_fr.trans F_S0 fS4 rfl zz_nv
    rcases (by omega : v5 = 0 ∨ v5 = 1) with rfl | rfl
    · refine zz_if_eq (by omega) zd_14_100_73 (fun c8 => ?_) (fun c8 => ?_)
      · refine zz_iconst zd_14_100_95 ?_
        have g9 := zz_G.r G_S4 1079 30 0 102 rfl rfl
        have g10 := zz_G.r G_S4 1079 32 0 1500 rfl rfl
        exact zz_zret zd_14_100_96 rfl (by omega) (Nat.zero_le _) (Nat.zero_le _) ⟨_, _, rfl, G_S4, F_S4, by omega, by omega⟩
      · exfalso; omega
    · refine zz_if_eq (by omega) zd_14_100_73 (fun c11 => ?_) (fun c11 => ?_)
      · exfalso; omega
      · refine zz_aload_n (x := 1079) rfl zd_14_100_76 ?_
        have g12 := zz_G.r G_S4 1079 30 0 102 rfl rfl
        have g13 := zz_G.r G_S4 1079 32 0 1500 rfl rfl
        refine zz_callVI [] zd_14_100_77 zk_Md_553 zT_1079 (zz_ltn hn rfl) rfl rfl ⟨Nat.le_of_ble_eq_true rfl, Nat.le_of_ble_eq_true rfl⟩ ⟨rfl, rfl⟩ (Nat.zero_le _) (Nat.zero_le _) (zc_takeX_14_96  S4 n hn G_S4 ) (fun v15 S14 hP => ?_)
        obtain ⟨G_S14, fS14, o16, o17⟩ := hP
        have F_S14 := zz_fr.trans F_S4 fS14 rfl zz_nv
        rcases (by omega : v15 = 0 ∨ v15 = 1) with rfl | rfl
        · refine zz_if_eq (by omega) zd_14_100_80 (fun c18 => ?_) (fun c18 => ?_)
          · refine zz_iconst zd_14_100_95 ?_
            have g19 := zz_G.r G_S14 1079 30 0 102 rfl rfl
            have g20 := zz_G.r G_S14 1079 32 0 1500 rfl rfl
            exact zz_zret zd_14_100_96 rfl (by omega) (Nat.zero_le _) (Nat.zero_le _) ⟨_, _, rfl, G_S14, F_S14, by omega, by omega⟩
          · exfalso; omega
        · refine zz_if_eq (by omega) zd_14_100_80 (fun c21 => ?_) (fun c21 => ?_)
          · exfalso; omega
          · refine zz_aload_n (x := 1079) rfl zd_14_100_83 ?_
            refine zz_iconst zd_14_100_84 ?_
            have g22 := zz_G.r G_S14 1079 30 0 102 rfl rfl
            have g23 := zz_G.r G_S14 1079 32 0 1500 rfl rfl
            refine zz_callVI [zi 1] zd_14_100_85 zk_Md_550 zT_1079 (zz_ltn hn rfl) rfl rfl ⟨Nat.le_of_ble_eq_true rfl, Nat.le_of_ble_eq_true rfl⟩ ⟨rfl, rfl⟩ (Nat.zero_le _) (Nat.zero_le _) (zc_takeNet_14_95 1 S14 n hn G_S14 (by omega)) (fun v25 S24 hP => ?_)
            obtain ⟨G_S24, fS24, o26, o27⟩ := hP
            have F_S24 := zz_fr.trans F_S14 fS24 rfl zz_nv
            rcases (by omega : v25 = 0 ∨ v25 = 1) with rfl | rfl
            · refine zz_if_eq (by omega) zd_14_100_88 (fun c28 => ?_) (fun c28 => ?_)
              · refine zz_iconst zd_14_100_95 ?_
                have g29 := zz_G.r G_S24 1079 30 0 102 rfl rfl
                have g30 := zz_G.r G_S24 1079 32 0 1500 rfl rfl
                exact zz_zret zd_14_100_96 rfl (by omega) (Nat.zero_le _) (Nat.zero_le _) ⟨_, _, rfl, G_S24, F_S24, by omega, by omega⟩
              · exfalso; omega
            · refine zz_if_eq (by omega) zd_14_100_88 (fun c31 => ?_) (fun c31 => ?_)
              · exfalso; omega
              · refine zz_iconst zd_14_100_91 ?_
                refine zz_goto zd_14_100_92 ?_
                have g32 := zz_G.r G_S24 1079 30 0 102 rfl rfl
                have g33 := zz_G.r G_S24 1079 32 0 1500 rfl rfl
                exact zz_zret zd_14_100_96 rfl (by omega) (Nat.zero_le _) (Nat.zero_le _) ⟨_, _, rfl, G_S24, F_S24, by omega, by omega⟩
  by_cases c34 : p0 = 2
  · refine zz_lsw (off := 96) (by omega) zd_14_100_1 (by decide) (by rw [c34]; rfl) rfl ?_
    refine zz_aload_n (x := 1079) rfl zd_14_100_97 ?_
    refine zz_iconst zd_14_100_98 ?_
    have g35 := zz_G.r G_S0 1079 30 0 102 rfl rfl
    have g36 := zz_G.r G_S0 1079 32 0 1500 rfl rfl
    refine zz_callVI [zi 2] zd_14_100_99 zk_Md_550 zT_1079 (zz_ltn hn rfl) rfl rfl ⟨Nat.le_of_ble_eq_true rfl, Nat.le_of_ble_eq_true rfl⟩ ⟨rfl, rfl⟩ (Nat.zero_le _) (Nat.zero_le _) (zc_takeNet_14_95 2 S0 n hn G_S0 (by omega)) (fun v38 S37 hP => ?_)
    obtain ⟨G_S37, fS37, o39, o40⟩ := hP
    have F_S37 := zz_fr.trans F_S0 fS37 rfl zz_nv
    rcases (by omega : v38 = 0 ∨ v38 = 1) with rfl | rfl
    · have g41 := zz_G.r G_S37 1079 30 0 102 rfl rfl
      have g42 := zz_G.r G_S37 1079 32 0 1500 rfl rfl
      exact zz_zret zd_14_100_102 rfl (by omega) (Nat.zero_le _) (Nat.zero_le _) ⟨_, _, rfl, G_S37, F_S37, by omega, by omega⟩
    · have g43 := zz_G.r G_S37 1079 30 0 102 rfl rfl
      have g44 := zz_G.r G_S37 1079 32 0 1500 rfl rfl
      exact zz_zret zd_14_100_102 rfl (by omega) (Nat.zero_le _) (Nat.zero_le _) ⟨_, _, rfl, G_S37, F_S37, by omega, by omega⟩
  by_cases c45 : p0 = 4
  · refine zz_lsw (off := 102) (by omega) zd_14_100_1 (by decide) (by rw [c45]; rfl) rfl ?_
    refine zz_aload_n (x := 1079) rfl zd_14_100_103 ?_
    refine zz_iconst zd_14_100_104 ?_
    have g46 := zz_G.r G_S0 1079 30 0 102 rfl rfl
    have g47 := zz_G.r G_S0 1079 32 0 1500 rfl rfl
    refine zz_callVI [zi 3] zd_14_100_105 zk_Md_550 zT_1079 (zz_ltn hn rfl) rfl rfl ⟨Nat.le_of_ble_eq_true rfl, Nat.le_of_ble_eq_true rfl⟩ ⟨rfl, rfl⟩ (Nat.zero_le _) (Nat.zero_le _) (zc_takeNet_14_95 3 S0 n hn G_S0 (by omega)) (fun v49 S48 hP => ?_)
    obtain ⟨G_S48, fS48, o50, o51⟩ := hP
    have F_S48 := zz_fr.trans F_S0 fS48 rfl zz_nv
    rcases (by omega : v49 = 0 ∨ v49 = 1) with rfl | rfl
    · have g52 := zz_G.r G_S48 1079 30 0 102 rfl rfl
      have g53 := zz_G.r G_S48 1079 32 0 1500 rfl rfl
      exact zz_zret zd_14_100_108 rfl (by omega) (Nat.zero_le _) (Nat.zero_le _) ⟨_, _, rfl, G_S48, F_S48, by omega, by omega⟩
    · have g54 := zz_G.r G_S48 1079 30 0 102 rfl rfl
      have g55 := zz_G.r G_S48 1079 32 0 1500 rfl rfl
      exact zz_zret zd_14_100_108 rfl (by omega) (Nat.zero_le _) (Nat.zero_le _) ⟨_, _, rfl, G_S48, F_S48, by omega, by omega⟩
  by_cases c56 : p0 = 8
  · refine zz_lsw (off := 108) (by omega) zd_14_100_1 (by decide) (by rw [c56]; rfl) rfl ?_
    refine zz_aload_n (x := 1079) rfl zd_14_100_109 ?_
    refine zz_iconst zd_14_100_110 ?_
    have g57 := zz_G.r G_S0 1079 30 0 102 rfl rfl
    have g58 := zz_G.r G_S0 1079 32 0 1500 rfl rfl
    refine zz_callVI [zi 4] zd_14_100_111 zk_Md_550 zT_1079 (zz_ltn hn rfl) rfl rfl ⟨Nat.le_of_ble_eq_true rfl, Nat.le_of_ble_eq_true rfl⟩ ⟨rfl, rfl⟩ (Nat.zero_le _) (Nat.zero_le _) (zc_takeNet_14_95 4 S0 n hn G_S0 (by omega)) (fun v60 S59 hP => ?_)
    obtain ⟨G_S59, fS59, o61, o62⟩ := hP
    have F_S59 := zz_fr.trans F_S0 fS59 rfl zz_nv
    rcases (by omega : v60 = 0 ∨ v60 = 1) with rfl | rfl
    · have g63 := zz_G.r G_S59 1079 30 0 102 rfl rfl
      have g64 := zz_G.r G_S59 1079 32 0 1500 rfl rfl
      exact zz_zret zd_14_100_114 rfl (by omega) (Nat.zero_le _) (Nat.zero_le _) ⟨_, _, rfl, G_S59, F_S59, by omega, by omega⟩
    · have g65 := zz_G.r G_S59 1079 30 0 102 rfl rfl
      have g66 := zz_G.r G_S59 1079 32 0 1500 rfl rfl
      exact zz_zret zd_14_100_114 rfl (by omega) (Nat.zero_le _) (Nat.zero_le _) ⟨_, _, rfl, G_S59, F_S59, by omega, by omega⟩
  by_cases c67 : p0 = 16
  · refine zz_lsw (off := 114) (by omega) zd_14_100_1 (by decide) (by rw [c67]; rfl) rfl ?_
    refine zz_aload_n (x := 1079) rfl zd_14_100_115 ?_
    refine zz_iconst zd_14_100_116 ?_
    have g68 := zz_G.r G_S0 1079 30 0 102 rfl rfl
    have g69 := zz_G.r G_S0 1079 32 0 1500 rfl rfl
    refine zz_callVI [zi 5] zd_14_100_117 zk_Md_550 zT_1079 (zz_ltn hn rfl) rfl rfl ⟨Nat.le_of_ble_eq_true rfl, Nat.le_of_ble_eq_true rfl⟩ ⟨rfl, rfl⟩ (Nat.zero_le _) (Nat.zero_le _) (zc_takeNet_14_95 5 S0 n hn G_S0 (by omega)) (fun v71 S70 hP => ?_)
    obtain ⟨G_S70, fS70, o72, o73⟩ := hP
    have F_S70 := zz_fr.trans F_S0 fS70 rfl zz_nv
    rcases (by omega : v71 = 0 ∨ v71 = 1) with rfl | rfl
    · have g74 := zz_G.r G_S70 1079 30 0 102 rfl rfl
      have g75 := zz_G.r G_S70 1079 32 0 1500 rfl rfl
      exact zz_zret zd_14_100_120 rfl (by omega) (Nat.zero_le _) (Nat.zero_le _) ⟨_, _, rfl, G_S70, F_S70, by omega, by omega⟩
    · have g76 := zz_G.r G_S70 1079 30 0 102 rfl rfl
      have g77 := zz_G.r G_S70 1079 32 0 1500 rfl rfl
      exact zz_zret zd_14_100_120 rfl (by omega) (Nat.zero_le _) (Nat.zero_le _) ⟨_, _, rfl, G_S70, F_S70, by omega, by omega⟩
  by_cases c78 : p0 = 32
  · refine zz_lsw (off := 120) (by omega) zd_14_100_1 (by decide) (by rw [c78]; rfl) rfl ?_
    refine zz_aload_n (x := 1079) rfl zd_14_100_121 ?_
    refine zz_bipush (by decide) zd_14_100_122 ?_
    have g79 := zz_G.r G_S0 1079 30 0 102 rfl rfl
    have g80 := zz_G.r G_S0 1079 32 0 1500 rfl rfl
    refine zz_callVI [zi 6] zd_14_100_124 zk_Md_550 zT_1079 (zz_ltn hn rfl) rfl rfl ⟨Nat.le_of_ble_eq_true rfl, Nat.le_of_ble_eq_true rfl⟩ ⟨rfl, rfl⟩ (Nat.zero_le _) (Nat.zero_le _) (zc_takeNet_14_95 6 S0 n hn G_S0 (by omega)) (fun v82 S81 hP => ?_)
    obtain ⟨G_S81, fS81, o83, o84⟩ := hP
    have F_S81 := zz_fr.trans F_S0 fS81 rfl zz_nv
    rcases (by omega : v82 = 0 ∨ v82 = 1) with rfl | rfl
    · have g85 := zz_G.r G_S81 1079 30 0 102 rfl rfl
      have g86 := zz_G.r G_S81 1079 32 0 1500 rfl rfl
      exact zz_zret zd_14_100_127 rfl (by omega) (Nat.zero_le _) (Nat.zero_le _) ⟨_, _, rfl, G_S81, F_S81, by omega, by omega⟩
    · have g87 := zz_G.r G_S81 1079 30 0 102 rfl rfl
      have g88 := zz_G.r G_S81 1079 32 0 1500 rfl rfl
      exact zz_zret zd_14_100_127 rfl (by omega) (Nat.zero_le _) (Nat.zero_le _) ⟨_, _, rfl, G_S81, F_S81, by omega, by omega⟩
  by_cases c89 : p0 = 64
  · refine zz_lsw (off := 127) (by omega) zd_14_100_1 (by decide) (by rw [c89]; rfl) rfl ?_
    refine zz_aload_n (x := 1079) rfl zd_14_100_128 ?_
    refine zz_getr (kd := 0) (z := 1118) zd_14_100_129 zf_Md_136 zT_1079 rfl (zz_ltn hn rfl) (zz_G.eq G_S0 1079 63 1118 rfl rfl) (by decide) 1118 rfl ?_
    refine zz_bipush (by decide) zd_14_100_132 ?_
    refine zz_iconst zd_14_100_134 ?_
    refine zz_iast zd_14_100_135 zT_1118 rfl (zz_ltn hn rfl) (by decide) (by decide) (fun S90 qS90 => ?_)
    have G_S90 := zz_G.put G_S0 qS90 0 9999 rfl (by omega)
    have F_S90 := zz_fr.putc F_S0 qS90 rfl
    refine zz_iconst zd_14_100_136 ?_
    have g91 := zz_G.r G_S0 1079 30 0 102 rfl rfl
    have e92 : S90 1079 30 = S0 1079 30 := (zz_ro qS90 (fun h => absurd h.1 (by decide)) rfl)
    have g93 := zz_G.r G_S0 1079 32 0 1500 rfl rfl
    have e94 : S90 1079 32 = S0 1079 32 := (zz_ro qS90 (fun h => absurd h.1 (by decide)) rfl)
    exact zz_zret zd_14_100_137 rfl (by omega) (Nat.zero_le _) (Nat.zero_le _) ⟨_, _, rfl, G_S90, F_S90, by omega, by omega⟩
  refine zz_lsw (off := 137) (by omega) zd_14_100_1 (by decide) (by simp [Op.lookupswitch.offset]; omega) rfl ?_
  refine zz_aload_n (x := 1079) rfl zd_14_100_138 ?_
  have g95 := zz_G.r G_S0 1079 30 0 102 rfl rfl
  refine zz_geti (z := S0 1079 30) zd_14_100_139 zf_Md_347 zT_1079 rfl (zz_ltn hn rfl) rfl ?_
  refine zz_bipush (by decide) zd_14_100_142 ?_
  refine zz_icmp_ne (by omega) (by omega) zd_14_100_144 (fun c96 => ?_) (fun c96 => ?_)
  · refine zz_iconst zd_14_100_173 ?_
    refine zz_istore_n [some (.ref 1079), some (zi p0), some (zi 0)] zd_14_100_174 (by decide) rfl ?_
    refine zz_aload_n (x := 1079) rfl zd_14_100_175 ?_
    refine zz_aload_n (x := 1079) rfl zd_14_100_176 ?_
    have g97 := zz_G.r G_S0 1079 61 (-9223372036854775808) 9223372036854775807 rfl rfl
    refine zz_getl (z := S0 1079 61) zd_14_100_177 zf_Md_522 zT_1079 rfl (zz_ltn hn rfl) rfl ?_
    refine zz_putl zd_14_100_180 zf_Md_564 zT_1079 rfl (zz_ltn hn rfl) (fun S98 qS98 => ?_)
    have G_S98 := zz_G.put G_S0 qS98 (-9223372036854775808) 9223372036854775807 rfl (by omega)
    have F_S98 := zz_fr.puts F_S0 qS98 rfl
    refine zz_aload_n (x := 1079) rfl zd_14_100_183 ?_
    have g99 := zz_G.r G_S0 1079 32 0 1500 rfl rfl
    have e100 : S98 1079 32 = S0 1079 32 := (zz_ro qS98 (fun h => absurd h.2 (by decide)) rfl)
    refine zz_callVV [] zd_14_100_184 zk_Md_526 zT_1079 (zz_ltn hn rfl) rfl rfl ⟨Nat.le_of_ble_eq_true rfl, Nat.le_of_ble_eq_true rfl⟩ ⟨rfl, rfl⟩ (Nat.zero_le _) (Nat.zero_le _) (zc_advanceNet_14_93  S98 n hn G_S98 ) (fun S101 hP => ?_)
    obtain ⟨G_S101, fS101, o103⟩ := hP
    have F_S101 := zz_fr.trans F_S98 fS101 rfl zz_nv
    refine zz_iload_n (x := 0) rfl zd_14_100_187 ?_
    have g104 := zz_G.r G_S101 1079 30 0 102 rfl rfl
    have g105 := zz_G.r G_S101 1079 32 0 1500 rfl rfl
    exact zz_zret zd_14_100_188 rfl (by omega) (Nat.zero_le _) (Nat.zero_le _) ⟨_, _, rfl, G_S101, F_S101, by omega, by omega⟩
  · refine zz_aload_n (x := 1079) rfl zd_14_100_147 ?_
    refine zz_aload_n (x := 1079) rfl zd_14_100_148 ?_
    have g106 := zz_G.r G_S0 1079 61 (-9223372036854775808) 9223372036854775807 rfl rfl
    refine zz_getl (z := S0 1079 61) zd_14_100_149 zf_Md_522 zT_1079 rfl (zz_ltn hn rfl) rfl ?_
    refine zz_callVI [zl (S0 1079 61)] zd_14_100_152 zk_Md_557 zT_1079 (zz_ltn hn rfl) rfl rfl ⟨Nat.le_of_ble_eq_true rfl, Nat.le_of_ble_eq_true rfl⟩ ⟨rfl, rfl⟩ (Nat.zero_le _) (Nat.zero_le _) (zc_isKeyword_14_97 (S0 1079 61) S0 n hn G_S0 (by omega)) (fun v108 S107 hP => ?_)
    obtain ⟨rfl, o109⟩ := hP
    rcases (by omega : v108 = 0 ∨ v108 = 1) with rfl | rfl
    · refine zz_if_ne (by omega) zd_14_100_155 (fun c110 => ?_) (fun c110 => ?_)
      · exfalso; omega
      · refine zz_aload_n (x := 1079) rfl zd_14_100_158 ?_
        refine zz_aload_n (x := 1079) rfl zd_14_100_159 ?_
        refine zz_getl (z := S0 1079 61) zd_14_100_160 zf_Md_522 zT_1079 rfl (zz_ltn hn rfl) rfl ?_
        refine zz_callVI [zl (S0 1079 61)] zd_14_100_163 zk_Md_560 zT_1079 (zz_ltn hn rfl) rfl rfl ⟨Nat.le_of_ble_eq_true rfl, Nat.le_of_ble_eq_true rfl⟩ ⟨rfl, rfl⟩ (Nat.zero_le _) (Nat.zero_le _) (zc_named_14_98 (S0 1079 61) S0 n hn G_S0 (by omega)) (fun v112 S111 hP => ?_)
        obtain ⟨rfl, o113⟩ := hP
        refine zz_if_ge (by omega) zd_14_100_166 (fun c114 => ?_) (fun c114 => ?_)
        · refine zz_iconst zd_14_100_173 ?_
          refine zz_istore_n [some (.ref 1079), some (zi p0), some (zi 0)] zd_14_100_174 (by decide) rfl ?_
          refine zz_aload_n (x := 1079) rfl zd_14_100_175 ?_
          refine zz_aload_n (x := 1079) rfl zd_14_100_176 ?_
          refine zz_getl (z := S0 1079 61) zd_14_100_177 zf_Md_522 zT_1079 rfl (zz_ltn hn rfl) rfl ?_
          refine zz_putl zd_14_100_180 zf_Md_564 zT_1079 rfl (zz_ltn hn rfl) (fun S115 qS115 => ?_)
          have G_S115 := zz_G.put G_S0 qS115 (-9223372036854775808) 9223372036854775807 rfl (by omega)
          have F_S115 := zz_fr.puts F_S0 qS115 rfl
          refine zz_aload_n (x := 1079) rfl zd_14_100_183 ?_
          have g116 := zz_G.r G_S0 1079 32 0 1500 rfl rfl
          have e117 : S115 1079 32 = S0 1079 32 := (zz_ro qS115 (fun h => absurd h.2 (by decide)) rfl)
          refine zz_callVV [] zd_14_100_184 zk_Md_526 zT_1079 (zz_ltn hn rfl) rfl rfl ⟨Nat.le_of_ble_eq_true rfl, Nat.le_of_ble_eq_true rfl⟩ ⟨rfl, rfl⟩ (Nat.zero_le _) (Nat.zero_le _) (zc_advanceNet_14_93  S115 n hn G_S115 ) (fun S118 hP => ?_)
          obtain ⟨G_S118, fS118, o120⟩ := hP
          have F_S118 := zz_fr.trans F_S115 fS118 rfl zz_nv
          refine zz_iload_n (x := 0) rfl zd_14_100_187 ?_
          have g121 := zz_G.r G_S118 1079 30 0 102 rfl rfl
          have g122 := zz_G.r G_S118 1079 32 0 1500 rfl rfl
          exact zz_zret zd_14_100_188 rfl (by omega) (Nat.zero_le _) (Nat.zero_le _) ⟨_, _, rfl, G_S118, F_S118, by omega, by omega⟩
        · refine zz_iconst zd_14_100_169 ?_
          refine zz_goto zd_14_100_170 ?_
          refine zz_istore_n [some (.ref 1079), some (zi p0), some (zi 1)] zd_14_100_174 (by decide) rfl ?_
          refine zz_aload_n (x := 1079) rfl zd_14_100_175 ?_
          refine zz_aload_n (x := 1079) rfl zd_14_100_176 ?_
          refine zz_getl (z := S0 1079 61) zd_14_100_177 zf_Md_522 zT_1079 rfl (zz_ltn hn rfl) rfl ?_
          refine zz_putl zd_14_100_180 zf_Md_564 zT_1079 rfl (zz_ltn hn rfl) (fun S123 qS123 => ?_)
          have G_S123 := zz_G.put G_S0 qS123 (-9223372036854775808) 9223372036854775807 rfl (by omega)
          have F_S123 := zz_fr.puts F_S0 qS123 rfl
          refine zz_aload_n (x := 1079) rfl zd_14_100_183 ?_
          have g124 := zz_G.r G_S0 1079 32 0 1500 rfl rfl
          have e125 : S123 1079 32 = S0 1079 32 := (zz_ro qS123 (fun h => absurd h.2 (by decide)) rfl)
          refine zz_callVV [] zd_14_100_184 zk_Md_526 zT_1079 (zz_ltn hn rfl) rfl rfl ⟨Nat.le_of_ble_eq_true rfl, Nat.le_of_ble_eq_true rfl⟩ ⟨rfl, rfl⟩ (Nat.zero_le _) (Nat.zero_le _) (zc_advanceNet_14_93  S123 n hn G_S123 ) (fun S126 hP => ?_)
          obtain ⟨G_S126, fS126, o128⟩ := hP
          have F_S126 := zz_fr.trans F_S123 fS126 rfl zz_nv
          refine zz_iload_n (x := 1) rfl zd_14_100_187 ?_
          have g129 := zz_G.r G_S126 1079 30 0 102 rfl rfl
          have g130 := zz_G.r G_S126 1079 32 0 1500 rfl rfl
          exact zz_zret zd_14_100_188 rfl (by omega) (Nat.zero_le _) (Nat.zero_le _) ⟨_, _, rfl, G_S126, F_S126, by omega, by omega⟩
    · refine zz_if_ne (by omega) zd_14_100_155 (fun c131 => ?_) (fun c131 => ?_)
      · refine zz_iconst zd_14_100_173 ?_
        refine zz_istore_n [some (.ref 1079), some (zi p0), some (zi 0)] zd_14_100_174 (by decide) rfl ?_
        refine zz_aload_n (x := 1079) rfl zd_14_100_175 ?_
        refine zz_aload_n (x := 1079) rfl zd_14_100_176 ?_
        refine zz_getl (z := S0 1079 61) zd_14_100_177 zf_Md_522 zT_1079 rfl (zz_ltn hn rfl) rfl ?_
        refine zz_putl zd_14_100_180 zf_Md_564 zT_1079 rfl (zz_ltn hn rfl) (fun S132 qS132 => ?_)
        have G_S132 := zz_G.put G_S0 qS132 (-9223372036854775808) 9223372036854775807 rfl (by omega)
        have F_S132 := zz_fr.puts F_S0 qS132 rfl
        refine zz_aload_n (x := 1079) rfl zd_14_100_183 ?_
        have g133 := zz_G.r G_S0 1079 32 0 1500 rfl rfl
        have e134 : S132 1079 32 = S0 1079 32 := (zz_ro qS132 (fun h => absurd h.2 (by decide)) rfl)
        refine zz_callVV [] zd_14_100_184 zk_Md_526 zT_1079 (zz_ltn hn rfl) rfl rfl ⟨Nat.le_of_ble_eq_true rfl, Nat.le_of_ble_eq_true rfl⟩ ⟨rfl, rfl⟩ (Nat.zero_le _) (Nat.zero_le _) (zc_advanceNet_14_93  S132 n hn G_S132 ) (fun S135 hP => ?_)
        obtain ⟨G_S135, fS135, o137⟩ := hP
        have F_S135 := zz_fr.trans F_S132 fS135 rfl zz_nv
        refine zz_iload_n (x := 0) rfl zd_14_100_187 ?_
        have g138 := zz_G.r G_S135 1079 30 0 102 rfl rfl
        have g139 := zz_G.r G_S135 1079 32 0 1500 rfl rfl
        exact zz_zret zd_14_100_188 rfl (by omega) (Nat.zero_le _) (Nat.zero_le _) ⟨_, _, rfl, G_S135, F_S135, by omega, by omega⟩
      · exfalso; omega
abbrev zy_takeParts_14_101 : mm_Y := (⟨"TensorForgeModel", "takeParts", "(I)Z"⟩, prog_14_method_101_code, 3, (some .boolean))
theorem zyw_takeParts_14_101 : mm_Yw zy_takeParts_14_101 1 := ⟨mm_tb_1 2222 (by decide +kernel) rfl, mm_tb_1 12 (by decide +kernel) rfl, ⟨by decide, by decide⟩, by decide +kernel⟩
theorem zd_14_101_0 : zz_D zy_takeParts_14_101 0 (.iconst 0) 1 1 := ⟨by decide +kernel, rfl⟩
theorem zd_14_101_1 : zz_D zy_takeParts_14_101 1 (.istore_n 2) 1 2 := ⟨by decide +kernel, rfl⟩
theorem zd_14_101_2 : zz_D zy_takeParts_14_101 2 (.iload_n 2) 1 3 := ⟨by decide +kernel, rfl⟩
theorem zd_14_101_3 : zz_D zy_takeParts_14_101 3 (.bipush 8) 2 5 := ⟨by decide +kernel, rfl⟩
theorem zd_14_101_5 : zz_B zy_takeParts_14_101 5 (Instr.if_icmp .ge) 30 8 := ⟨25, by decide +kernel, rfl, rfl⟩
theorem zd_14_101_8 : zz_D zy_takeParts_14_101 8 (.aload_n 0) 1 9 := ⟨by decide +kernel, rfl⟩
theorem zd_14_101_9 : zz_D zy_takeParts_14_101 9 (.getfield 136) 3 12 := ⟨by decide +kernel, rfl⟩
theorem zd_14_101_12 : zz_D zy_takeParts_14_101 12 (.iload_n 2) 1 13 := ⟨by decide +kernel, rfl⟩
theorem zd_14_101_13 : zz_D zy_takeParts_14_101 13 (.iload_n 2) 1 14 := ⟨by decide +kernel, rfl⟩
theorem zd_14_101_14 : zz_D zy_takeParts_14_101 14 (.iconst 4) 1 15 := ⟨by decide +kernel, rfl⟩
theorem zd_14_101_15 : zz_B zy_takeParts_14_101 15 (Instr.if_icmp .ne) 22 18 := ⟨7, by decide +kernel, rfl, rfl⟩
theorem zd_14_101_22 : zz_D zy_takeParts_14_101 22 (.iconst 0) 1 23 := ⟨by decide +kernel, rfl⟩
theorem zd_14_101_23 : zz_D zy_takeParts_14_101 23 (.iastore) 1 24 := ⟨by decide +kernel, rfl⟩
theorem zd_14_101_24 : zz_D zy_takeParts_14_101 24 (.iinc 2 1) 3 27 := ⟨by decide +kernel, rfl⟩
theorem zd_14_101_27 : zz_B zy_takeParts_14_101 27 Instr.goto 2 30 := ⟨(-25), by decide +kernel, rfl, rfl⟩
theorem zd_14_101_18 : zz_D zy_takeParts_14_101 18 (.iconst 1) 1 19 := ⟨by decide +kernel, rfl⟩
theorem zd_14_101_19 : zz_B zy_takeParts_14_101 19 Instr.goto 23 22 := ⟨4, by decide +kernel, rfl, rfl⟩
theorem zd_14_101_30 : zz_D zy_takeParts_14_101 30 (.aload_n 0) 1 31 := ⟨by decide +kernel, rfl⟩
theorem zd_14_101_31 : zz_D zy_takeParts_14_101 31 (.lconst 0) 1 32 := ⟨by decide +kernel, rfl⟩
theorem zd_14_101_32 : zz_D zy_takeParts_14_101 32 (.putfield 564) 3 35 := ⟨by decide +kernel, rfl⟩
theorem zd_14_101_35 : zz_D zy_takeParts_14_101 35 (.aload_n 0) 1 36 := ⟨by decide +kernel, rfl⟩
theorem zd_14_101_36 : zz_D zy_takeParts_14_101 36 (.iconst 0) 1 37 := ⟨by decide +kernel, rfl⟩
theorem zd_14_101_37 : zz_D zy_takeParts_14_101 37 (.putfield 567) 3 40 := ⟨by decide +kernel, rfl⟩
theorem zf_Md_567 : mm_Fl "TensorForgeModel" 567 11 65 .int false := ⟨R_Md, F_Md, 69, t_Md, rfl, i_Md, by decide, mm_tb_1 1676 (by decide +kernel) rfl, rfl, t_Md_ok, n_Md, rfl, by decide +kernel⟩
theorem zd_14_101_40 : zz_D zy_takeParts_14_101 40 (.aload_n 0) 1 41 := ⟨by decide +kernel, rfl⟩
theorem zd_14_101_41 : zz_D zy_takeParts_14_101 41 (.getfield 347) 3 44 := ⟨by decide +kernel, rfl⟩
theorem zd_14_101_44 : zz_B zy_takeParts_14_101 44 (Instr.ifCond .eq) 96 47 := ⟨52, by decide +kernel, rfl, rfl⟩
theorem zd_14_101_96 : zz_D zy_takeParts_14_101 96 (.iconst 1) 1 97 := ⟨by decide +kernel, rfl⟩
theorem zd_14_101_97 : zz_D zy_takeParts_14_101 97 (.ireturn) 1 98 := ⟨by decide +kernel, rfl⟩
theorem zd_14_101_47 : zz_D zy_takeParts_14_101 47 (.aload_n 0) 1 48 := ⟨by decide +kernel, rfl⟩
theorem zd_14_101_48 : zz_D zy_takeParts_14_101 48 (.invokevirtual 570) 3 51 := ⟨by decide +kernel, rfl⟩
theorem zk_Md_570 : mm_Vl "TensorForgeModel" 570 11 0 zy_partOf_14_99 := ⟨zyw_partOf_14_99, (R_Md, F_Md, 69), rfl, mm_tb_1 2223 (by decide +kernel) rfl, mm_tb_1 2225 (by decide +kernel) rfl, mm_tb_s 146 (by decide +kernel) rfl⟩
theorem zd_14_101_51 : zz_D zy_takeParts_14_101 51 (.istore_n 2) 1 52 := ⟨by decide +kernel, rfl⟩
theorem zd_14_101_52 : zz_D zy_takeParts_14_101 52 (.iload_n 2) 1 53 := ⟨by decide +kernel, rfl⟩
theorem zd_14_101_53 : zz_D zy_takeParts_14_101 53 (.iload_n 1) 1 54 := ⟨by decide +kernel, rfl⟩
theorem zd_14_101_54 : zz_D zy_takeParts_14_101 54 (.iand) 1 55 := ⟨by decide +kernel, rfl⟩
theorem zd_14_101_55 : zz_B zy_takeParts_14_101 55 (Instr.ifCond .eq) 67 58 := ⟨12, by decide +kernel, rfl, rfl⟩
theorem zd_14_101_67 : zz_D zy_takeParts_14_101 67 (.iconst 0) 1 68 := ⟨by decide +kernel, rfl⟩
theorem zd_14_101_68 : zz_D zy_takeParts_14_101 68 (.ireturn) 1 69 := ⟨by decide +kernel, rfl⟩
theorem zd_14_101_58 : zz_D zy_takeParts_14_101 58 (.iload_n 2) 1 59 := ⟨by decide +kernel, rfl⟩
theorem zd_14_101_59 : zz_D zy_takeParts_14_101 59 (.aload_n 0) 1 60 := ⟨by decide +kernel, rfl⟩
theorem zd_14_101_60 : zz_D zy_takeParts_14_101 60 (.getfield 567) 3 63 := ⟨by decide +kernel, rfl⟩
theorem zd_14_101_63 : zz_D zy_takeParts_14_101 63 (.iand) 1 64 := ⟨by decide +kernel, rfl⟩
theorem zd_14_101_64 : zz_B zy_takeParts_14_101 64 (Instr.ifCond .eq) 69 67 := ⟨5, by decide +kernel, rfl, rfl⟩
theorem zd_14_101_69 : zz_D zy_takeParts_14_101 69 (.aload_n 0) 1 70 := ⟨by decide +kernel, rfl⟩
theorem zd_14_101_70 : zz_D zy_takeParts_14_101 70 (.aload_n 0) 1 71 := ⟨by decide +kernel, rfl⟩
theorem zd_14_101_71 : zz_D zy_takeParts_14_101 71 (.getfield 567) 3 74 := ⟨by decide +kernel, rfl⟩
theorem zd_14_101_74 : zz_D zy_takeParts_14_101 74 (.iload_n 2) 1 75 := ⟨by decide +kernel, rfl⟩
theorem zd_14_101_75 : zz_D zy_takeParts_14_101 75 (.ior) 1 76 := ⟨by decide +kernel, rfl⟩
theorem zd_14_101_76 : zz_D zy_takeParts_14_101 76 (.putfield 567) 3 79 := ⟨by decide +kernel, rfl⟩
theorem zd_14_101_79 : zz_D zy_takeParts_14_101 79 (.aload_n 0) 1 80 := ⟨by decide +kernel, rfl⟩
theorem zd_14_101_80 : zz_D zy_takeParts_14_101 80 (.invokevirtual 526) 3 83 := ⟨by decide +kernel, rfl⟩
theorem zd_14_101_83 : zz_D zy_takeParts_14_101 83 (.aload_n 0) 1 84 := ⟨by decide +kernel, rfl⟩
theorem zd_14_101_84 : zz_D zy_takeParts_14_101 84 (.iload_n 2) 1 85 := ⟨by decide +kernel, rfl⟩
theorem zd_14_101_85 : zz_D zy_takeParts_14_101 85 (.invokevirtual 573) 3 88 := ⟨by decide +kernel, rfl⟩
theorem zk_Md_573 : mm_Vl "TensorForgeModel" 573 11 1 zy_takePart_14_100 := ⟨zyw_takePart_14_100, (R_Md, F_Md, 69), rfl, mm_tb_1 2232 (by decide +kernel) rfl, mm_tb_1 2234 (by decide +kernel) rfl, mm_tb_s 147 (by decide +kernel) rfl⟩
theorem zd_14_101_88 : zz_B zy_takeParts_14_101 88 (Instr.ifCond .ne) 93 91 := ⟨5, by decide +kernel, rfl, rfl⟩
theorem zd_14_101_91 : zz_D zy_takeParts_14_101 91 (.iconst 0) 1 92 := ⟨by decide +kernel, rfl⟩
theorem zd_14_101_92 : zz_D zy_takeParts_14_101 92 (.ireturn) 1 93 := ⟨by decide +kernel, rfl⟩
theorem zd_14_101_93 : zz_B zy_takeParts_14_101 93 Instr.goto 40 96 := ⟨(-53), by decide +kernel, rfl, rfl⟩
-- TensorForgeModel takeParts (I)Z
abbrev zr_takeParts_14_101 : Room := { frames := 5, cells := 0, slots := 0, locals := 75 }
def zp_takeParts_14_101 (p0 : Int) (S0 : zz_S) : Int → zz_S → Prop := fun r S => zz_G S ∧ zz_fr [(1079, 30), (1079, 31), (1079, 32), (1079, 61), (1079, 64), (1079, 65)] [1118] (fun _ _ => False) S0 S ∧ (0 ≤ r ∧ r ≤ 1)
theorem zb_takeParts_14_101_2 {g : mm_G} {l : Launch} (p0 : Int) (S0 : zz_S) (n : Nat) (hn : zz_end ≤ n) (G_S0 : zz_G S0) (hp0 : (-2147483648) ≤ p0 ∧ p0 ≤ 2147483647) (x2 : Int) (S : zz_S) (G_S : zz_G S) (F_S : zz_fr [(1079, 30), (1079, 31), (1079, 32), (1079, 61), (1079, 64), (1079, 65)] [1118] (fun _ _ => False) S0 S) (i2_0 : 0 ≤ x2 ∧ x2 ≤ 8) (R : Nat) (hR : (34359738368 + (8 - x2).toNat) = R) (k2 : ∀ (x2 : Int) (S : zz_S), zz_G S → zz_fr [(1079, 30), (1079, 31), (1079, 32), (1079, 61), (1079, 64), (1079, 65)] [1118] (fun _ _ => False) S0 S → (0 ≤ x2 ∧ x2 ≤ 8) → (34359738368 + (8 - x2).toNat) < R → zz_E g l zy_takeParts_14_101 zr_takeParts_14_101 (zz_QI n (zp_takeParts_14_101 p0 S0)) S n 2 [some (.ref 1079), some (zi p0), some (zi x2)] [] 0 0) (k40 : ∀  (S : zz_S), zz_G S → zz_fr [(1079, 30), (1079, 31), (1079, 32), (1079, 61), (1079, 64), (1079, 65)] [1118] (fun _ _ => False) S0 S → (17179869184 + 3 * (1501 - S 1079 32).toNat + (if S 1079 30 = 0 then 0 else if S 1079 30 = 101 then 1 else 2)) < R → zz_E g l zy_takeParts_14_101 zr_takeParts_14_101 (zz_QI n (zp_takeParts_14_101 p0 S0)) S n 40 [some (.ref 1079), some (zi p0)] [] 0 0) : zz_E g l zy_takeParts_14_101 zr_takeParts_14_101 (zz_QI n (zp_takeParts_14_101 p0 S0)) S n 2 [some (.ref 1079), some (zi p0), some (zi x2)] [] 0 0 := by
  refine zz_iload_n (x := x2) rfl zd_14_101_2 ?_
  refine zz_bipush (by decide) zd_14_101_3 ?_
  refine zz_icmp_ge (by omega) (by omega) zd_14_101_5 (fun c1 => ?_) (fun c1 => ?_)
  · refine zz_aload_n (x := 1079) rfl zd_14_101_30 ?_
    refine zz_lconst (z := 0) (by decide) zd_14_101_31 ?_
    refine zz_putl zd_14_101_32 zf_Md_564 zT_1079 rfl (zz_ltn hn rfl) (fun S2 qS2 => ?_)
    have G_S2 := zz_G.put G_S qS2 (-9223372036854775808) 9223372036854775807 rfl (by omega)
    have F_S2 := zz_fr.puts F_S qS2 rfl
    refine zz_aload_n (x := 1079) rfl zd_14_101_35 ?_
    refine zz_iconst zd_14_101_36 ?_
    refine zz_puti zd_14_101_37 zf_Md_567 zT_1079 rfl (zz_ltn hn rfl) (fun S3 qS3 => ?_)
    have G_S3 := zz_G.put G_S2 qS3 0 255 rfl (by omega)
    have F_S3 := zz_fr.puts F_S2 qS3 rfl
    have g4 := zz_G.r G_S 1079 30 0 102 rfl rfl
    have e5 : S3 1079 30 = S 1079 30 := (zz_ro qS3 (fun h => absurd h.2 (by decide)) (zz_ro qS2 (fun h => absurd h.2 (by decide)) rfl))
    have g6 := zz_G.r G_S 1079 32 0 1500 rfl rfl
    have e7 : S3 1079 32 = S 1079 32 := (zz_ro qS3 (fun h => absurd h.2 (by decide)) (zz_ro qS2 (fun h => absurd h.2 (by decide)) rfl))
    refine zz_less (ls1 := [some (.ref 1079), some (zi p0)]) ⟨rfl, ⟨rfl, trivial⟩⟩ ?_
    exact k40 S3 G_S3 F_S3 (by omega)
  · refine zz_aload_n (x := 1079) rfl zd_14_101_8 ?_
    refine zz_getr (kd := 0) (z := 1118) zd_14_101_9 zf_Md_136 zT_1079 rfl (zz_ltn hn rfl) (zz_G.eq G_S 1079 63 1118 rfl rfl) (by decide) 1118 rfl ?_
    refine zz_iload_n (x := x2) rfl zd_14_101_12 ?_
    refine zz_iload_n (x := x2) rfl zd_14_101_13 ?_
    refine zz_iconst zd_14_101_14 ?_
    refine zz_icmp_ne (by omega) (by omega) zd_14_101_15 (fun c8 => ?_) (fun c8 => ?_)
    · refine zz_iconst zd_14_101_22 ?_
      refine zz_iast zd_14_101_23 zT_1118 rfl (zz_ltn hn rfl) (by decide) (by omega) (fun S9 qS9 => ?_)
      have G_S9 := zz_G.put G_S qS9 0 9999 rfl (by omega)
      have F_S9 := zz_fr.putc F_S qS9 rfl
      refine zz_iinc [some (.ref 1079), some (zi p0), some (zi (x2 + 1))] zd_14_101_24 rfl rfl ?_
      refine zz_goto zd_14_101_27 ?_
      refine zz_less (ls1 := [some (.ref 1079), some (zi p0), some (zi (x2 + 1))]) ⟨rfl, ⟨rfl, ⟨rfl, trivial⟩⟩⟩ ?_
      exact k2 (x2 + 1) S9 G_S9 F_S9 (by omega) (by omega)
    · refine zz_iconst zd_14_101_18 ?_
      refine zz_goto zd_14_101_19 ?_
      refine zz_iast zd_14_101_23 zT_1118 rfl (zz_ltn hn rfl) (by decide) (by omega) (fun S10 qS10 => ?_)
      have G_S10 := zz_G.put G_S qS10 0 9999 rfl (by omega)
      have F_S10 := zz_fr.putc F_S qS10 rfl
      refine zz_iinc [some (.ref 1079), some (zi p0), some (zi (x2 + 1))] zd_14_101_24 rfl rfl ?_
      refine zz_goto zd_14_101_27 ?_
      refine zz_less (ls1 := [some (.ref 1079), some (zi p0), some (zi (x2 + 1))]) ⟨rfl, ⟨rfl, ⟨rfl, trivial⟩⟩⟩ ?_
      exact k2 (x2 + 1) S10 G_S10 F_S10 (by omega) (by omega)
theorem zb_takeParts_14_101_40 {g : mm_G} {l : Launch} (p0 : Int) (S0 : zz_S) (n : Nat) (hn : zz_end ≤ n) (G_S0 : zz_G S0) (hp0 : (-2147483648) ≤ p0 ∧ p0 ≤ 2147483647)  (S : zz_S) (G_S : zz_G S) (F_S : zz_fr [(1079, 30), (1079, 31), (1079, 32), (1079, 61), (1079, 64), (1079, 65)] [1118] (fun _ _ => False) S0 S)  (R : Nat) (hR : (17179869184 + 3 * (1501 - S 1079 32).toNat + (if S 1079 30 = 0 then 0 else if S 1079 30 = 101 then 1 else 2)) = R) (k40 : ∀  (S : zz_S), zz_G S → zz_fr [(1079, 30), (1079, 31), (1079, 32), (1079, 61), (1079, 64), (1079, 65)] [1118] (fun _ _ => False) S0 S → (17179869184 + 3 * (1501 - S 1079 32).toNat + (if S 1079 30 = 0 then 0 else if S 1079 30 = 101 then 1 else 2)) < R → zz_E g l zy_takeParts_14_101 zr_takeParts_14_101 (zz_QI n (zp_takeParts_14_101 p0 S0)) S n 40 [some (.ref 1079), some (zi p0)] [] 0 0) : zz_E g l zy_takeParts_14_101 zr_takeParts_14_101 (zz_QI n (zp_takeParts_14_101 p0 S0)) S n 40 [some (.ref 1079), some (zi p0)] [] 0 0 := by
  refine zz_aload_n (x := 1079) rfl zd_14_101_40 ?_
  have g11 := zz_G.r G_S 1079 30 0 102 rfl rfl
  refine zz_geti (z := S 1079 30) zd_14_101_41 zf_Md_347 zT_1079 rfl (zz_ltn hn rfl) rfl ?_
  refine zz_if_eq (by omega) zd_14_101_44 (fun c12 => ?_) (fun c12 => ?_)
  · refine zz_iconst zd_14_101_96 ?_
    exact zz_zret zd_14_101_97 rfl (by omega) (Nat.zero_le _) (Nat.zero_le _) ⟨_, _, rfl, G_S, F_S, by omega⟩
  · refine zz_aload_n (x := 1079) rfl zd_14_101_47 ?_
    refine zz_callVI [] zd_14_101_48 zk_Md_570 zT_1079 (zz_ltn hn rfl) rfl rfl ⟨Nat.le_of_ble_eq_true rfl, Nat.le_of_ble_eq_true rfl⟩ ⟨rfl, rfl⟩ (Nat.zero_le _) (Nat.zero_le _) (zc_partOf_14_99  S n hn G_S ) (fun v14 S13 hP => ?_)
    obtain ⟨rfl, o15, o16⟩ := hP
    refine zz_istore_n [some (.ref 1079), some (zi p0), some (zi v14)] zd_14_101_51 (by decide) rfl ?_
    refine zz_iload_n (x := v14) rfl zd_14_101_52 ?_
    refine zz_iload_n (x := p0) rfl zd_14_101_53 ?_
    refine zz_iand (by omega) (by omega) zd_14_101_54 (fun v17 hv17 av17 bv17 ev17 => ?_)
    refine zz_if_eq (by omega) zd_14_101_55 (fun c18 => ?_) (fun c18 => ?_)
    · refine zz_iconst zd_14_101_67 ?_
      exact zz_zret zd_14_101_68 rfl (by omega) (Nat.zero_le _) (Nat.zero_le _) ⟨_, _, rfl, G_S, F_S, by omega⟩
    · refine zz_iload_n (x := v14) rfl zd_14_101_58 ?_
      refine zz_aload_n (x := 1079) rfl zd_14_101_59 ?_
      have g19 := zz_G.r G_S 1079 65 0 255 rfl rfl
      refine zz_geti (z := S 1079 65) zd_14_101_60 zf_Md_567 zT_1079 rfl (zz_ltn hn rfl) rfl ?_
      refine zz_iand (by omega) (by omega) zd_14_101_63 (fun v20 hv20 av20 bv20 ev20 => ?_)
      refine zz_if_eq (by omega) zd_14_101_64 (fun c21 => ?_) (fun c21 => ?_)
      · refine zz_aload_n (x := 1079) rfl zd_14_101_69 ?_
        refine zz_aload_n (x := 1079) rfl zd_14_101_70 ?_
        refine zz_geti (z := S 1079 65) zd_14_101_71 zf_Md_567 zT_1079 rfl (zz_ltn hn rfl) rfl ?_
        refine zz_iload_n (x := v14) rfl zd_14_101_74 ?_
        refine zz_ior (by omega) (by omega) zd_14_101_75 (fun v22 hv22 av22 ev22 => ?_)
        refine zz_puti zd_14_101_76 zf_Md_567 zT_1079 rfl (zz_ltn hn rfl) (fun S23 qS23 => ?_)
        have G_S23 := zz_G.put G_S qS23 0 255 rfl (by omega)
        have F_S23 := zz_fr.puts F_S qS23 rfl
        refine zz_aload_n (x := 1079) rfl zd_14_101_79 ?_
        have g24 := zz_G.r G_S 1079 32 0 1500 rfl rfl
        have e25 : S23 1079 32 = S 1079 32 := (zz_ro qS23 (fun h => absurd h.2 (by decide)) rfl)
        refine zz_callVV [] zd_14_101_80 zk_Md_526 zT_1079 (zz_ltn hn rfl) rfl rfl ⟨Nat.le_of_ble_eq_true rfl, Nat.le_of_ble_eq_true rfl⟩ ⟨rfl, rfl⟩ (Nat.zero_le _) (Nat.zero_le _) (zc_advanceNet_14_93  S23 n hn G_S23 ) (fun S26 hP => ?_)
        obtain ⟨G_S26, fS26, o28⟩ := hP
        have F_S26 := zz_fr.trans F_S23 fS26 rfl zz_nv
        refine zz_aload_n (x := 1079) rfl zd_14_101_83 ?_
        refine zz_iload_n (x := v14) rfl zd_14_101_84 ?_
        have g29 := zz_G.r G_S26 1079 30 0 102 rfl rfl
        have g30 := zz_G.r G_S26 1079 32 0 1500 rfl rfl
        refine zz_callVI [zi v14] zd_14_101_85 zk_Md_573 zT_1079 (zz_ltn hn rfl) rfl rfl ⟨Nat.le_of_ble_eq_true rfl, Nat.le_of_ble_eq_true rfl⟩ ⟨rfl, rfl⟩ (Nat.zero_le _) (Nat.zero_le _) (zc_takePart_14_100 v14 S26 n hn G_S26 (by omega)) (fun v32 S31 hP => ?_)
        obtain ⟨G_S31, fS31, o33, o34⟩ := hP
        have F_S31 := zz_fr.trans F_S26 fS31 rfl zz_nv
        rcases (by omega : v32 = 0 ∨ v32 = 1) with rfl | rfl
        · refine zz_if_ne (by omega) zd_14_101_88 (fun c35 => ?_) (fun c35 => ?_)
          · exfalso; omega
          · refine zz_iconst zd_14_101_91 ?_
            exact zz_zret zd_14_101_92 rfl (by omega) (Nat.zero_le _) (Nat.zero_le _) ⟨_, _, rfl, G_S31, F_S31, by omega⟩
        · refine zz_if_ne (by omega) zd_14_101_88 (fun c36 => ?_) (fun c36 => ?_)
          · refine zz_goto zd_14_101_93 ?_
            have g37 := zz_G.r G_S31 1079 30 0 102 rfl rfl
            have g38 := zz_G.r G_S31 1079 32 0 1500 rfl rfl
            refine zz_less (ls1 := [some (.ref 1079), some (zi p0)]) ⟨rfl, ⟨rfl, trivial⟩⟩ ?_
            exact k40 S31 G_S31 F_S31 (by omega)
          · exfalso; omega
      · refine zz_iconst zd_14_101_67 ?_
        exact zz_zret zd_14_101_68 rfl (by omega) (Nat.zero_le _) (Nat.zero_le _) ⟨_, _, rfl, G_S, F_S, by omega⟩
theorem zi_takeParts_14_101 {g : mm_G} {l : Launch} (p0 : Int) (S0 : zz_S) (n : Nat) (hn : zz_end ≤ n) (G_S0 : zz_G S0) (hp0 : (-2147483648) ≤ p0 ∧ p0 ≤ 2147483647) : ∀ N : Nat, (∀ (x2 : Int) (S : zz_S), zz_G S → zz_fr [(1079, 30), (1079, 31), (1079, 32), (1079, 61), (1079, 64), (1079, 65)] [1118] (fun _ _ => False) S0 S → (0 ≤ x2 ∧ x2 ≤ 8) → (34359738368 + (8 - x2).toNat) < N → zz_E g l zy_takeParts_14_101 zr_takeParts_14_101 (zz_QI n (zp_takeParts_14_101 p0 S0)) S n 2 [some (.ref 1079), some (zi p0), some (zi x2)] [] 0 0) ∧ (∀  (S : zz_S), zz_G S → zz_fr [(1079, 30), (1079, 31), (1079, 32), (1079, 61), (1079, 64), (1079, 65)] [1118] (fun _ _ => False) S0 S → (17179869184 + 3 * (1501 - S 1079 32).toNat + (if S 1079 30 = 0 then 0 else if S 1079 30 = 101 then 1 else 2)) < N → zz_E g l zy_takeParts_14_101 zr_takeParts_14_101 (zz_QI n (zp_takeParts_14_101 p0 S0)) S n 40 [some (.ref 1079), some (zi p0)] [] 0 0) := by
  intro N
  induction N with
  | zero => exact ⟨fun x2 S _ _ _ h => absurd h (Nat.not_lt_zero _), fun  S _ _  h => absurd h (Nat.not_lt_zero _)⟩
  | succ N ih =>
    exact ⟨fun x2 S a b j0 hR => zb_takeParts_14_101_2 p0 S0 n hn G_S0 hp0 x2 S a b j0 _ rfl (fun x2 S a b j0 h => ih.1 x2 S a b j0 (Nat.lt_of_lt_of_le h (Nat.le_of_lt_succ hR))) (fun  S a b  h => ih.2  S a b  (Nat.lt_of_lt_of_le h (Nat.le_of_lt_succ hR))),
      fun  S a b  hR => zb_takeParts_14_101_40 p0 S0 n hn G_S0 hp0  S a b  _ rfl (fun  S a b  h => ih.2  S a b  (Nat.lt_of_lt_of_le h (Nat.le_of_lt_succ hR)))⟩
theorem zc_takeParts_14_101 {g : mm_G} {l : Launch} (p0 : Int) (S0 : zz_S) (n : Nat) (hn : zz_end ≤ n) (G_S0 : zz_G S0) (hp0 : (-2147483648) ≤ p0 ∧ p0 ≤ 2147483647) : mm_Met g l zy_takeParts_14_101 zr_takeParts_14_101 [.ref 1079, zi p0] (zz_M S0 n) n (zz_QI n (zp_takeParts_14_101 p0 S0)) := by
  refine zz_enter (by decide) (Nat.le_of_ble_eq_true rfl) (zz_less (ls1 := [some (.ref 1079), some (zi p0)]) ⟨rfl, ⟨rfl, trivial⟩⟩ ?_)
  have F_S0 : zz_fr [(1079, 30), (1079, 31), (1079, 32), (1079, 61), (1079, 64), (1079, 65)] [1118] (fun _ _ => False) S0 S0 := zz_fr.refl
  have k2 : ∀ (x2 : Int) (S : zz_S), zz_G S → zz_fr [(1079, 30), (1079, 31), (1079, 32), (1079, 61), (1079, 64), (1079, 65)] [1118] (fun _ _ => False) S0 S → (0 ≤ x2 ∧ x2 ≤ 8) → zz_E g l zy_takeParts_14_101 zr_takeParts_14_101 (zz_QI n (zp_takeParts_14_101 p0 S0)) S n 2 [some (.ref 1079), some (zi p0), some (zi x2)] [] 0 0 := fun x2 S a b j0 => (zi_takeParts_14_101 (g := g) (l := l) p0 S0 n hn G_S0 hp0 _).1 x2 S a b j0 (Nat.lt_succ_self _)
  refine zz_iconst zd_14_101_0 ?_
  refine zz_istore_n [some (.ref 1079), some (zi p0), some (zi 0)] zd_14_101_1 (by decide) rfl ?_
  refine zz_less (ls1 := [some (.ref 1079), some (zi p0), some (zi 0)]) ⟨rfl, ⟨rfl, ⟨rfl, trivial⟩⟩⟩ ?_
  exact k2 0 S0 G_S0 F_S0 (by omega)
abbrev zy_takeTensor_14_102 : mm_Y := (⟨"TensorForgeModel", "takeTensor", "()I"⟩, prog_14_method_102_code, 2, (some .int))
theorem zyw_takeTensor_14_102 : mm_Yw zy_takeTensor_14_102 0 := ⟨mm_tb_1 2214 (by decide +kernel) rfl, mm_tb_1 12 (by decide +kernel) rfl, ⟨by decide, by decide⟩, by decide +kernel⟩
theorem zd_14_102_0 : zz_D zy_takeTensor_14_102 0 (.aload_n 0) 1 1 := ⟨by decide +kernel, rfl⟩
theorem zd_14_102_1 : zz_D zy_takeTensor_14_102 1 (.getfield 347) 3 4 := ⟨by decide +kernel, rfl⟩
theorem zd_14_102_4 : zz_D zy_takeTensor_14_102 4 (.bipush 100) 2 6 := ⟨by decide +kernel, rfl⟩
theorem zd_14_102_6 : zz_B zy_takeTensor_14_102 6 (Instr.if_icmp .ne) 16 9 := ⟨10, by decide +kernel, rfl, rfl⟩
theorem zd_14_102_16 : zz_D zy_takeTensor_14_102 16 (.aload_n 0) 1 17 := ⟨by decide +kernel, rfl⟩
theorem zd_14_102_17 : zz_D zy_takeTensor_14_102 17 (.getfield 347) 3 20 := ⟨by decide +kernel, rfl⟩
theorem zd_14_102_20 : zz_D zy_takeTensor_14_102 20 (.bipush 102) 2 22 := ⟨by decide +kernel, rfl⟩
theorem zd_14_102_22 : zz_B zy_takeTensor_14_102 22 (Instr.if_icmp .ne) 36 25 := ⟨14, by decide +kernel, rfl, rfl⟩
theorem zd_14_102_36 : zz_D zy_takeTensor_14_102 36 (.iconst (-1)) 1 37 := ⟨by decide +kernel, rfl⟩
theorem zd_14_102_37 : zz_D zy_takeTensor_14_102 37 (.istore_n 1) 1 38 := ⟨by decide +kernel, rfl⟩
theorem zd_14_102_38 : zz_D zy_takeTensor_14_102 38 (.aload_n 0) 1 39 := ⟨by decide +kernel, rfl⟩
theorem zd_14_102_39 : zz_D zy_takeTensor_14_102 39 (.invokevirtual 526) 3 42 := ⟨by decide +kernel, rfl⟩
theorem zd_14_102_42 : zz_D zy_takeTensor_14_102 42 (.iload_n 1) 1 43 := ⟨by decide +kernel, rfl⟩
theorem zd_14_102_43 : zz_D zy_takeTensor_14_102 43 (.ireturn) 1 44 := ⟨by decide +kernel, rfl⟩
theorem zd_14_102_25 : zz_D zy_takeTensor_14_102 25 (.aload_n 0) 1 26 := ⟨by decide +kernel, rfl⟩
theorem zd_14_102_26 : zz_D zy_takeTensor_14_102 26 (.aload_n 0) 1 27 := ⟨by decide +kernel, rfl⟩
theorem zd_14_102_27 : zz_D zy_takeTensor_14_102 27 (.getfield 522) 3 30 := ⟨by decide +kernel, rfl⟩
theorem zd_14_102_30 : zz_D zy_takeTensor_14_102 30 (.invokevirtual 560) 3 33 := ⟨by decide +kernel, rfl⟩
theorem zd_14_102_33 : zz_B zy_takeTensor_14_102 33 Instr.goto 37 36 := ⟨4, by decide +kernel, rfl, rfl⟩
theorem zd_14_102_9 : zz_D zy_takeTensor_14_102 9 (.aload_n 0) 1 10 := ⟨by decide +kernel, rfl⟩
theorem zd_14_102_10 : zz_D zy_takeTensor_14_102 10 (.getfield 354) 3 13 := ⟨by decide +kernel, rfl⟩
theorem zd_14_102_13 : zz_B zy_takeTensor_14_102 13 Instr.goto 37 16 := ⟨24, by decide +kernel, rfl, rfl⟩
-- TensorForgeModel takeTensor ()I
abbrev zr_takeTensor_14_102 : Room := { frames := 3, cells := 0, slots := 0, locals := 48 }
def zp_takeTensor_14_102  (S0 : zz_S) : Int → zz_S → Prop := fun r S => zz_G S ∧ zz_fr [(1079, 30), (1079, 31), (1079, 32), (1079, 61)] [] (fun _ _ => False) S0 S ∧ ((-1) ≤ r ∧ r ≤ 9999) ∧ (S 1079 32 > S0 1079 32 ∨ (S 1079 32 = S0 1079 32 ∧ (S 1079 30 = S0 1079 30 ∨ S 1079 30 = 0 ∨ S 1079 30 = 101)))
theorem zc_takeTensor_14_102 {g : mm_G} {l : Launch}  (S0 : zz_S) (n : Nat) (hn : zz_end ≤ n) (G_S0 : zz_G S0)  : mm_Met g l zy_takeTensor_14_102 zr_takeTensor_14_102 [.ref 1079] (zz_M S0 n) n (zz_QI n (zp_takeTensor_14_102  S0)) := by
  refine zz_enter (by decide) (Nat.le_of_ble_eq_true rfl) (zz_less (ls1 := [some (.ref 1079)]) ⟨rfl, trivial⟩ ?_)
  have F_S0 : zz_fr [(1079, 30), (1079, 31), (1079, 32), (1079, 61)] [] (fun _ _ => False) S0 S0 := zz_fr.refl
  refine zz_aload_n (x := 1079) rfl zd_14_102_0 ?_
  have g1 := zz_G.r G_S0 1079 30 0 102 rfl rfl
  refine zz_geti (z := S0 1079 30) zd_14_102_1 zf_Md_347 zT_1079 rfl (zz_ltn hn rfl) rfl ?_
  refine zz_bipush (by decide) zd_14_102_4 ?_
  refine zz_icmp_ne (by omega) (by omega) zd_14_102_6 (fun c2 => ?_) (fun c2 => ?_)
  · refine zz_aload_n (x := 1079) rfl zd_14_102_16 ?_
    refine zz_geti (z := S0 1079 30) zd_14_102_17 zf_Md_347 zT_1079 rfl (zz_ltn hn rfl) rfl ?_
    refine zz_bipush (by decide) zd_14_102_20 ?_
    refine zz_icmp_ne (by omega) (by omega) zd_14_102_22 (fun c3 => ?_) (fun c3 => ?_)
    · refine zz_iconst zd_14_102_36 ?_
      refine zz_istore_n [some (.ref 1079), some (zi (-1))] zd_14_102_37 (by decide) rfl ?_
      refine zz_aload_n (x := 1079) rfl zd_14_102_38 ?_
      have g4 := zz_G.r G_S0 1079 32 0 1500 rfl rfl
      refine zz_callVV [] zd_14_102_39 zk_Md_526 zT_1079 (zz_ltn hn rfl) rfl rfl ⟨Nat.le_of_ble_eq_true rfl, Nat.le_of_ble_eq_true rfl⟩ ⟨rfl, rfl⟩ (Nat.zero_le _) (Nat.zero_le _) (zc_advanceNet_14_93  S0 n hn G_S0 ) (fun S5 hP => ?_)
      obtain ⟨G_S5, fS5, o7⟩ := hP
      have F_S5 := zz_fr.trans F_S0 fS5 rfl zz_nv
      refine zz_iload_n (x := (-1)) rfl zd_14_102_42 ?_
      have g8 := zz_G.r G_S5 1079 30 0 102 rfl rfl
      have g9 := zz_G.r G_S5 1079 32 0 1500 rfl rfl
      exact zz_iret zd_14_102_43 rfl (Nat.zero_le _) (Nat.zero_le _) ⟨_, _, rfl, G_S5, F_S5, by omega, by omega⟩
    · refine zz_aload_n (x := 1079) rfl zd_14_102_25 ?_
      refine zz_aload_n (x := 1079) rfl zd_14_102_26 ?_
      have g10 := zz_G.r G_S0 1079 61 (-9223372036854775808) 9223372036854775807 rfl rfl
      refine zz_getl (z := S0 1079 61) zd_14_102_27 zf_Md_522 zT_1079 rfl (zz_ltn hn rfl) rfl ?_
      refine zz_callVI [zl (S0 1079 61)] zd_14_102_30 zk_Md_560 zT_1079 (zz_ltn hn rfl) rfl rfl ⟨Nat.le_of_ble_eq_true rfl, Nat.le_of_ble_eq_true rfl⟩ ⟨rfl, rfl⟩ (Nat.zero_le _) (Nat.zero_le _) (zc_named_14_98 (S0 1079 61) S0 n hn G_S0 (by omega)) (fun v12 S11 hP => ?_)
      obtain ⟨rfl, o13⟩ := hP
      refine zz_goto zd_14_102_33 ?_
      refine zz_istore_n [some (.ref 1079), some (zi v12)] zd_14_102_37 (by decide) rfl ?_
      refine zz_aload_n (x := 1079) rfl zd_14_102_38 ?_
      have g14 := zz_G.r G_S0 1079 32 0 1500 rfl rfl
      refine zz_callVV [] zd_14_102_39 zk_Md_526 zT_1079 (zz_ltn hn rfl) rfl rfl ⟨Nat.le_of_ble_eq_true rfl, Nat.le_of_ble_eq_true rfl⟩ ⟨rfl, rfl⟩ (Nat.zero_le _) (Nat.zero_le _) (zc_advanceNet_14_93  S0 n hn G_S0 ) (fun S15 hP => ?_)
      obtain ⟨G_S15, fS15, o17⟩ := hP
      have F_S15 := zz_fr.trans F_S0 fS15 rfl zz_nv
      refine zz_iload_n (x := v12) rfl zd_14_102_42 ?_
      have g18 := zz_G.r G_S15 1079 30 0 102 rfl rfl
      have g19 := zz_G.r G_S15 1079 32 0 1500 rfl rfl
      exact zz_iret zd_14_102_43 rfl (Nat.zero_le _) (Nat.zero_le _) ⟨_, _, rfl, G_S15, F_S15, by omega, by omega⟩
  · refine zz_aload_n (x := 1079) rfl zd_14_102_9 ?_
    have g20 := zz_G.r G_S0 1079 31 0 9999 rfl rfl
    refine zz_geti (z := S0 1079 31) zd_14_102_10 zf_Md_354 zT_1079 rfl (zz_ltn hn rfl) rfl ?_
    refine zz_goto zd_14_102_13 ?_
    refine zz_istore_n [some (.ref 1079), some (zi (S0 1079 31))] zd_14_102_37 (by decide) rfl ?_
    refine zz_aload_n (x := 1079) rfl zd_14_102_38 ?_
    have g21 := zz_G.r G_S0 1079 32 0 1500 rfl rfl
    refine zz_callVV [] zd_14_102_39 zk_Md_526 zT_1079 (zz_ltn hn rfl) rfl rfl ⟨Nat.le_of_ble_eq_true rfl, Nat.le_of_ble_eq_true rfl⟩ ⟨rfl, rfl⟩ (Nat.zero_le _) (Nat.zero_le _) (zc_advanceNet_14_93  S0 n hn G_S0 ) (fun S22 hP => ?_)
    obtain ⟨G_S22, fS22, o24⟩ := hP
    have F_S22 := zz_fr.trans F_S0 fS22 rfl zz_nv
    refine zz_iload_n (x := S0 1079 31) rfl zd_14_102_42 ?_
    have g25 := zz_G.r G_S22 1079 30 0 102 rfl rfl
    have g26 := zz_G.r G_S22 1079 32 0 1500 rfl rfl
    exact zz_iret zd_14_102_43 rfl (Nat.zero_le _) (Nat.zero_le _) ⟨_, _, rfl, G_S22, F_S22, by omega, by omega⟩
abbrev zy_readInput_14_103 : mm_Y := (⟨"TensorForgeModel", "readInput", "()Z"⟩, prog_14_method_103_code, 5, (some .boolean))
theorem zyw_readInput_14_103 : mm_Yw zy_readInput_14_103 0 := ⟨mm_tb_1 2255 (by decide +kernel) rfl, mm_tb_1 12 (by decide +kernel) rfl, ⟨by decide, by decide⟩, by decide +kernel⟩
theorem zd_14_103_0 : zz_D zy_readInput_14_103 0 (.aload_n 0) 1 1 := ⟨by decide +kernel, rfl⟩
theorem zd_14_103_1 : zz_D zy_readInput_14_103 1 (.ldc2_w 532) 3 4 := ⟨by decide +kernel, rfl⟩
theorem zd_14_103_4 : zz_D zy_readInput_14_103 4 (.invokevirtual 529) 3 7 := ⟨by decide +kernel, rfl⟩
theorem zd_14_103_7 : zz_B zy_readInput_14_103 7 (Instr.ifCond .ne) 12 10 := ⟨5, by decide +kernel, rfl, rfl⟩
theorem zd_14_103_10 : zz_D zy_readInput_14_103 10 (.iconst 0) 1 11 := ⟨by decide +kernel, rfl⟩
theorem zd_14_103_11 : zz_D zy_readInput_14_103 11 (.ireturn) 1 12 := ⟨by decide +kernel, rfl⟩
theorem zd_14_103_12 : zz_D zy_readInput_14_103 12 (.aload_n 0) 1 13 := ⟨by decide +kernel, rfl⟩
theorem zd_14_103_13 : zz_D zy_readInput_14_103 13 (.invokevirtual 526) 3 16 := ⟨by decide +kernel, rfl⟩
theorem zd_14_103_16 : zz_D zy_readInput_14_103 16 (.aload_n 0) 1 17 := ⟨by decide +kernel, rfl⟩
theorem zd_14_103_17 : zz_D zy_readInput_14_103 17 (.iconst 0) 1 18 := ⟨by decide +kernel, rfl⟩
theorem zd_14_103_18 : zz_D zy_readInput_14_103 18 (.invokevirtual 550) 3 21 := ⟨by decide +kernel, rfl⟩
theorem zd_14_103_21 : zz_B zy_readInput_14_103 21 (Instr.ifCond .eq) 58 24 := ⟨37, by decide +kernel, rfl, rfl⟩
theorem zd_14_103_58 : zz_D zy_readInput_14_103 58 (.iconst 0) 1 59 := ⟨by decide +kernel, rfl⟩
theorem zd_14_103_59 : zz_D zy_readInput_14_103 59 (.istore_n 1) 1 60 := ⟨by decide +kernel, rfl⟩
theorem zd_14_103_60 : zz_D zy_readInput_14_103 60 (.aload_n 0) 1 61 := ⟨by decide +kernel, rfl⟩
theorem zd_14_103_61 : zz_D zy_readInput_14_103 61 (.getfield 136) 3 64 := ⟨by decide +kernel, rfl⟩
theorem zd_14_103_64 : zz_D zy_readInput_14_103 64 (.iconst 0) 1 65 := ⟨by decide +kernel, rfl⟩
theorem zd_14_103_65 : zz_D zy_readInput_14_103 65 (.iaload) 1 66 := ⟨by decide +kernel, rfl⟩
theorem zd_14_103_66 : zz_D zy_readInput_14_103 66 (.istore_n 2) 1 67 := ⟨by decide +kernel, rfl⟩
theorem zd_14_103_67 : zz_D zy_readInput_14_103 67 (.aload_n 0) 1 68 := ⟨by decide +kernel, rfl⟩
theorem zd_14_103_68 : zz_D zy_readInput_14_103 68 (.getfield 136) 3 71 := ⟨by decide +kernel, rfl⟩
theorem zd_14_103_71 : zz_D zy_readInput_14_103 71 (.iconst 1) 1 72 := ⟨by decide +kernel, rfl⟩
theorem zd_14_103_72 : zz_D zy_readInput_14_103 72 (.iaload) 1 73 := ⟨by decide +kernel, rfl⟩
theorem zd_14_103_73 : zz_D zy_readInput_14_103 73 (.istore_n 3) 1 74 := ⟨by decide +kernel, rfl⟩
theorem zd_14_103_74 : zz_D zy_readInput_14_103 74 (.aload_n 0) 1 75 := ⟨by decide +kernel, rfl⟩
theorem zd_14_103_75 : zz_D zy_readInput_14_103 75 (.getfield 136) 3 78 := ⟨by decide +kernel, rfl⟩
theorem zd_14_103_78 : zz_D zy_readInput_14_103 78 (.iconst 2) 1 79 := ⟨by decide +kernel, rfl⟩
theorem zd_14_103_79 : zz_D zy_readInput_14_103 79 (.iaload) 1 80 := ⟨by decide +kernel, rfl⟩
theorem zd_14_103_80 : zz_D zy_readInput_14_103 80 (.istore 4) 2 82 := ⟨by decide +kernel, rfl⟩
theorem zd_14_103_82 : zz_D zy_readInput_14_103 82 (.aload_n 0) 1 83 := ⟨by decide +kernel, rfl⟩
theorem zd_14_103_83 : zz_D zy_readInput_14_103 83 (.iconst 0) 1 84 := ⟨by decide +kernel, rfl⟩
theorem zd_14_103_84 : zz_D zy_readInput_14_103 84 (.putfield 85) 3 87 := ⟨by decide +kernel, rfl⟩
theorem zd_14_103_87 : zz_D zy_readInput_14_103 87 (.iload_n 1) 1 88 := ⟨by decide +kernel, rfl⟩
theorem zd_14_103_88 : zz_B zy_readInput_14_103 88 (Instr.ifCond .eq) 101 91 := ⟨13, by decide +kernel, rfl, rfl⟩
theorem zd_14_103_101 : zz_D zy_readInput_14_103 101 (.iconst 0) 1 102 := ⟨by decide +kernel, rfl⟩
theorem zd_14_103_102 : zz_D zy_readInput_14_103 102 (.ireturn) 1 103 := ⟨by decide +kernel, rfl⟩
theorem zd_14_103_24 : zz_D zy_readInput_14_103 24 (.aload_n 0) 1 25 := ⟨by decide +kernel, rfl⟩
theorem zd_14_103_25 : zz_D zy_readInput_14_103 25 (.invokevirtual 553) 3 28 := ⟨by decide +kernel, rfl⟩
theorem zd_14_103_28 : zz_B zy_readInput_14_103 28 (Instr.ifCond .eq) 58 31 := ⟨30, by decide +kernel, rfl, rfl⟩
theorem zd_14_103_31 : zz_D zy_readInput_14_103 31 (.aload_n 0) 1 32 := ⟨by decide +kernel, rfl⟩
theorem zd_14_103_32 : zz_D zy_readInput_14_103 32 (.iconst 1) 1 33 := ⟨by decide +kernel, rfl⟩
theorem zd_14_103_33 : zz_D zy_readInput_14_103 33 (.invokevirtual 550) 3 36 := ⟨by decide +kernel, rfl⟩
theorem zd_14_103_36 : zz_B zy_readInput_14_103 36 (Instr.ifCond .eq) 58 39 := ⟨22, by decide +kernel, rfl, rfl⟩
theorem zd_14_103_39 : zz_D zy_readInput_14_103 39 (.aload_n 0) 1 40 := ⟨by decide +kernel, rfl⟩
theorem zd_14_103_40 : zz_D zy_readInput_14_103 40 (.invokevirtual 553) 3 43 := ⟨by decide +kernel, rfl⟩
theorem zd_14_103_43 : zz_B zy_readInput_14_103 43 (Instr.ifCond .eq) 58 46 := ⟨15, by decide +kernel, rfl, rfl⟩
theorem zd_14_103_46 : zz_D zy_readInput_14_103 46 (.aload_n 0) 1 47 := ⟨by decide +kernel, rfl⟩
theorem zd_14_103_47 : zz_D zy_readInput_14_103 47 (.iconst 2) 1 48 := ⟨by decide +kernel, rfl⟩
theorem zd_14_103_48 : zz_D zy_readInput_14_103 48 (.invokevirtual 550) 3 51 := ⟨by decide +kernel, rfl⟩
theorem zd_14_103_51 : zz_B zy_readInput_14_103 51 (Instr.ifCond .eq) 58 54 := ⟨7, by decide +kernel, rfl, rfl⟩
theorem zd_14_103_54 : zz_D zy_readInput_14_103 54 (.iconst 1) 1 55 := ⟨by decide +kernel, rfl⟩
theorem zd_14_103_55 : zz_B zy_readInput_14_103 55 Instr.goto 59 58 := ⟨4, by decide +kernel, rfl, rfl⟩
theorem zd_14_103_91 : zz_D zy_readInput_14_103 91 (.aload_n 0) 1 92 := ⟨by decide +kernel, rfl⟩
theorem zd_14_103_92 : zz_D zy_readInput_14_103 92 (.sipush 128) 3 95 := ⟨by decide +kernel, rfl⟩
theorem zd_14_103_95 : zz_D zy_readInput_14_103 95 (.invokevirtual 576) 3 98 := ⟨by decide +kernel, rfl⟩
theorem zk_Md_576 : mm_Vl "TensorForgeModel" 576 11 1 zy_takeParts_14_101 := ⟨zyw_takeParts_14_101, (R_Md, F_Md, 69), rfl, mm_tb_1 2219 (by decide +kernel) rfl, mm_tb_1 2221 (by decide +kernel) rfl, mm_tb_s 145 (by decide +kernel) rfl⟩
theorem zd_14_103_98 : zz_B zy_readInput_14_103 98 (Instr.ifCond .ne) 103 101 := ⟨5, by decide +kernel, rfl, rfl⟩
theorem zd_14_103_103 : zz_D zy_readInput_14_103 103 (.aload_n 0) 1 104 := ⟨by decide +kernel, rfl⟩
theorem zd_14_103_104 : zz_D zy_readInput_14_103 104 (.iload_n 2) 1 105 := ⟨by decide +kernel, rfl⟩
theorem zd_14_103_105 : zz_D zy_readInput_14_103 105 (.iload_n 3) 1 106 := ⟨by decide +kernel, rfl⟩
theorem zd_14_103_106 : zz_D zy_readInput_14_103 106 (.iload 4) 2 108 := ⟨by decide +kernel, rfl⟩
theorem zd_14_103_108 : zz_D zy_readInput_14_103 108 (.invokevirtual 579) 3 111 := ⟨by decide +kernel, rfl⟩
theorem zk_Md_579 : mm_Vl "TensorForgeModel" 579 11 3 zy_input_14_63 := ⟨zyw_input_14_63, (R_Md, F_Md, 69), rfl, mm_tb_1 2256 (by decide +kernel) rfl, mm_tb_1 2074 (by decide +kernel) rfl, mm_tb_1 2075 (by decide +kernel) rfl⟩
theorem zd_14_103_111 : zz_D zy_readInput_14_103 111 (.aload_n 0) 1 112 := ⟨by decide +kernel, rfl⟩
theorem zd_14_103_112 : zz_D zy_readInput_14_103 112 (.getfield 133) 3 115 := ⟨by decide +kernel, rfl⟩
theorem zd_14_103_115 : zz_D zy_readInput_14_103 115 (.iconst 0) 1 116 := ⟨by decide +kernel, rfl⟩
theorem zd_14_103_116 : zz_D zy_readInput_14_103 116 (.aload_n 0) 1 117 := ⟨by decide +kernel, rfl⟩
theorem zd_14_103_117 : zz_D zy_readInput_14_103 117 (.getfield 564) 3 120 := ⟨by decide +kernel, rfl⟩
theorem zd_14_103_120 : zz_D zy_readInput_14_103 120 (.lastore) 1 121 := ⟨by decide +kernel, rfl⟩
theorem zd_14_103_121 : zz_D zy_readInput_14_103 121 (.aload_n 0) 1 122 := ⟨by decide +kernel, rfl⟩
theorem zd_14_103_122 : zz_D zy_readInput_14_103 122 (.getfield 187) 3 125 := ⟨by decide +kernel, rfl⟩
theorem zd_14_103_125 : zz_B zy_readInput_14_103 125 (Instr.ifCond .ne) 132 128 := ⟨7, by decide +kernel, rfl, rfl⟩
theorem zd_14_103_132 : zz_D zy_readInput_14_103 132 (.iconst 0) 1 133 := ⟨by decide +kernel, rfl⟩
theorem zd_14_103_133 : zz_D zy_readInput_14_103 133 (.ireturn) 1 134 := ⟨by decide +kernel, rfl⟩
theorem zd_14_103_128 : zz_D zy_readInput_14_103 128 (.iconst 1) 1 129 := ⟨by decide +kernel, rfl⟩
theorem zd_14_103_129 : zz_B zy_readInput_14_103 129 Instr.goto 133 132 := ⟨4, by decide +kernel, rfl, rfl⟩
-- TensorForgeModel readInput ()Z
abbrev zr_readInput_14_103 : Room := { frames := 6, cells := 0, slots := 0, locals := 89 }
def zp_readInput_14_103  (S0 : zz_S) : Int → zz_S → Prop := fun r S => zz_G S ∧ zz_fr [(1079, 0), (1079, 30), (1079, 31), (1079, 32), (1079, 36), (1079, 61), (1079, 64), (1079, 65), (1102, 0), (1103, 0), (1104, 0), (1105, 0), (1105, 1)] [1117, 1118] (fun _ _ => False) S0 S ∧ (0 ≤ r ∧ r ≤ 1) ∧ (r = 1 → S 1079 36 = 1) ∧ (zz_Hr S)
theorem zc_readInput_14_103 {g : mm_G} {l : Launch}  (S0 : zz_S) (n : Nat) (hn : zz_end ≤ n) (G_S0 : zz_G S0) (R_S0 : zz_Hr S0) : mm_Met g l zy_readInput_14_103 zr_readInput_14_103 [.ref 1079] (zz_M S0 n) n (zz_QI n (zp_readInput_14_103  S0)) := by
  refine zz_enter (by decide) (Nat.le_of_ble_eq_true rfl) (zz_less (ls1 := [some (.ref 1079)]) ⟨rfl, trivial⟩ ?_)
  have F_S0 : zz_fr [(1079, 0), (1079, 30), (1079, 31), (1079, 32), (1079, 36), (1079, 61), (1079, 64), (1079, 65), (1102, 0), (1103, 0), (1104, 0), (1105, 0), (1105, 1)] [1117, 1118] (fun _ _ => False) S0 S0 := zz_fr.refl
  refine zz_aload_n (x := 1079) rfl zd_14_103_0 ?_
  refine zz_ldc2 (z := 21676489) zq_Md_532 (by decide) zd_14_103_1 ?_
  refine zz_callVI [zl 21676489] zd_14_103_4 zk_Md_529 zT_1079 (zz_ltn hn rfl) rfl rfl ⟨Nat.le_of_ble_eq_true rfl, Nat.le_of_ble_eq_true rfl⟩ ⟨rfl, rfl⟩ (Nat.zero_le _) (Nat.zero_le _) (zc_isWord_14_94 21676489 S0 n hn G_S0 (by omega)) (fun v2 S1 hP => ?_)
  obtain ⟨rfl, o3⟩ := hP
  rcases (by omega : v2 = 0 ∨ v2 = 1) with rfl | rfl
  · refine zz_if_ne (by omega) zd_14_103_7 (fun c4 => ?_) (fun c4 => ?_)
    · exfalso; omega
    · refine zz_iconst zd_14_103_10 ?_
      have g5 := zz_G.r G_S0 1079 36 0 11 rfl rfl
      exact zz_zret zd_14_103_11 rfl (by omega) (Nat.zero_le _) (Nat.zero_le _) ⟨_, _, rfl, G_S0, F_S0, by omega, by omega, R_S0⟩
  · refine zz_if_ne (by omega) zd_14_103_7 (fun c6 => ?_) (fun c6 => ?_)
    · refine zz_aload_n (x := 1079) rfl zd_14_103_12 ?_
      have g7 := zz_G.r G_S0 1079 32 0 1500 rfl rfl
      refine zz_callVV [] zd_14_103_13 zk_Md_526 zT_1079 (zz_ltn hn rfl) rfl rfl ⟨Nat.le_of_ble_eq_true rfl, Nat.le_of_ble_eq_true rfl⟩ ⟨rfl, rfl⟩ (Nat.zero_le _) (Nat.zero_le _) (zc_advanceNet_14_93  S0 n hn G_S0 ) (fun S8 hP => ?_)
      obtain ⟨G_S8, fS8, o10⟩ := hP
      have F_S8 := zz_fr.trans F_S0 fS8 rfl zz_nv
      have R_S8 : zz_Hr S8 := zz_Hr.fr fS8 rfl rfl (fun b j h => h.elim) R_S0
      refine zz_aload_n (x := 1079) rfl zd_14_103_16 ?_
      refine zz_iconst zd_14_103_17 ?_
      have g11 := zz_G.r G_S8 1079 30 0 102 rfl rfl
      have g12 := zz_G.r G_S8 1079 32 0 1500 rfl rfl
      refine zz_callVI [zi 0] zd_14_103_18 zk_Md_550 zT_1079 (zz_ltn hn rfl) rfl rfl ⟨Nat.le_of_ble_eq_true rfl, Nat.le_of_ble_eq_true rfl⟩ ⟨rfl, rfl⟩ (Nat.zero_le _) (Nat.zero_le _) (zc_takeNet_14_95 0 S8 n hn G_S8 (by omega)) (fun v14 S13 hP => ?_)
      obtain ⟨G_S13, fS13, o15, o16⟩ := hP
      have F_S13 := zz_fr.trans F_S8 fS13 rfl zz_nv
      have R_S13 : zz_Hr S13 := zz_Hr.fr fS13 rfl rfl (fun b j h => h.elim) R_S8
      rcases (by omega : v14 = 0 ∨ v14 = 1) with rfl | rfl
      · refine zz_if_eq (by omega) zd_14_103_21 (fun c17 => ?_) (fun c17 => ?_)
        · refine zz_iconst zd_14_103_58 ?_
          refine zz_istore_n [some (.ref 1079), some (zi 0)] zd_14_103_59 (by decide) rfl ?_
          refine zz_aload_n (x := 1079) rfl zd_14_103_60 ?_
          refine zz_getr (kd := 0) (z := 1118) zd_14_103_61 zf_Md_136 zT_1079 rfl (zz_ltn hn rfl) (zz_G.eq G_S13 1079 63 1118 rfl rfl) (by decide) 1118 rfl ?_
          refine zz_iconst zd_14_103_64 ?_
          have g18 := zz_G.r G_S13 1118 0 0 9999 rfl rfl
          refine zz_iald (z := S13 1118 0) zd_14_103_65 zT_1118 rfl (zz_ltn hn rfl) (by decide) (by decide) rfl ?_
          refine zz_istore_n [some (.ref 1079), some (zi 0), some (zi (S13 1118 0))] zd_14_103_66 (by decide) rfl ?_
          refine zz_aload_n (x := 1079) rfl zd_14_103_67 ?_
          refine zz_getr (kd := 0) (z := 1118) zd_14_103_68 zf_Md_136 zT_1079 rfl (zz_ltn hn rfl) (zz_G.eq G_S13 1079 63 1118 rfl rfl) (by decide) 1118 rfl ?_
          refine zz_iconst zd_14_103_71 ?_
          have g19 := zz_G.r G_S13 1118 1 0 9999 rfl rfl
          refine zz_iald (z := S13 1118 1) zd_14_103_72 zT_1118 rfl (zz_ltn hn rfl) (by decide) (by decide) rfl ?_
          refine zz_istore_n [some (.ref 1079), some (zi 0), some (zi (S13 1118 0)), some (zi (S13 1118 1))] zd_14_103_73 (by decide) rfl ?_
          refine zz_aload_n (x := 1079) rfl zd_14_103_74 ?_
          refine zz_getr (kd := 0) (z := 1118) zd_14_103_75 zf_Md_136 zT_1079 rfl (zz_ltn hn rfl) (zz_G.eq G_S13 1079 63 1118 rfl rfl) (by decide) 1118 rfl ?_
          refine zz_iconst zd_14_103_78 ?_
          have g20 := zz_G.r G_S13 1118 2 0 9999 rfl rfl
          refine zz_iald (z := S13 1118 2) zd_14_103_79 zT_1118 rfl (zz_ltn hn rfl) (by decide) (by decide) rfl ?_
          refine zz_istore [some (.ref 1079), some (zi 0), some (zi (S13 1118 0)), some (zi (S13 1118 1)), some (zi (S13 1118 2))] zd_14_103_80 (by decide) rfl ?_
          refine zz_aload_n (x := 1079) rfl zd_14_103_82 ?_
          refine zz_iconst zd_14_103_83 ?_
          refine zz_puti zd_14_103_84 zf_Md_85 zT_1079 rfl (zz_ltn hn rfl) (fun S21 qS21 => ?_)
          have G_S21 := zz_G.put G_S13 qS21 0 11 rfl (by omega)
          have F_S21 := zz_fr.puts F_S13 qS21 rfl
          have R_S21 : zz_Hr S21 := zz_Hr.none (by rw [zz_rs qS21]; decide)
          refine zz_iload_n (x := 0) rfl zd_14_103_87 ?_
          refine zz_if_eq (by omega) zd_14_103_88 (fun c22 => ?_) (fun c22 => ?_)
          · refine zz_iconst zd_14_103_101 ?_
            have e23 : S21 1079 36 = 0 := (zz_rs qS21)
            exact zz_zret zd_14_103_102 rfl (by omega) (Nat.zero_le _) (Nat.zero_le _) ⟨_, _, rfl, G_S21, F_S21, by omega, by omega, R_S21⟩
          · exfalso; omega
        · exfalso; omega
      · refine zz_if_eq (by omega) zd_14_103_21 (fun c24 => ?_) (fun c24 => ?_)
        · exfalso; omega
        · refine zz_aload_n (x := 1079) rfl zd_14_103_24 ?_
          have g25 := zz_G.r G_S13 1079 30 0 102 rfl rfl
          have g26 := zz_G.r G_S13 1079 32 0 1500 rfl rfl
          refine zz_callVI [] zd_14_103_25 zk_Md_553 zT_1079 (zz_ltn hn rfl) rfl rfl ⟨Nat.le_of_ble_eq_true rfl, Nat.le_of_ble_eq_true rfl⟩ ⟨rfl, rfl⟩ (Nat.zero_le _) (Nat.zero_le _) (zc_takeX_14_96  S13 n hn G_S13 ) (fun v28 S27 hP => ?_)
          obtain ⟨G_S27, fS27, o29, o30⟩ := hP
          have F_S27 := zz_fr.trans F_S13 fS27 rfl zz_nv
          have R_S27 : zz_Hr S27 := zz_Hr.fr fS27 rfl rfl (fun b j h => h.elim) R_S13
          rcases (by omega : v28 = 0 ∨ v28 = 1) with rfl | rfl
          · refine zz_if_eq (by omega) zd_14_103_28 (fun c31 => ?_) (fun c31 => ?_)
            · refine zz_iconst zd_14_103_58 ?_
              refine zz_istore_n [some (.ref 1079), some (zi 0)] zd_14_103_59 (by decide) rfl ?_
              refine zz_aload_n (x := 1079) rfl zd_14_103_60 ?_
              refine zz_getr (kd := 0) (z := 1118) zd_14_103_61 zf_Md_136 zT_1079 rfl (zz_ltn hn rfl) (zz_G.eq G_S27 1079 63 1118 rfl rfl) (by decide) 1118 rfl ?_
              refine zz_iconst zd_14_103_64 ?_
              have g32 := zz_G.r G_S13 1118 0 0 9999 rfl rfl
              refine zz_iald (z := S13 1118 0) zd_14_103_65 zT_1118 rfl (zz_ltn hn rfl) (by decide) (by decide) (zz_rc fS27 (zz_nc1 rfl) rfl (fun h => h) rfl) ?_
              refine zz_istore_n [some (.ref 1079), some (zi 0), some (zi (S13 1118 0))] zd_14_103_66 (by decide) rfl ?_
              refine zz_aload_n (x := 1079) rfl zd_14_103_67 ?_
              refine zz_getr (kd := 0) (z := 1118) zd_14_103_68 zf_Md_136 zT_1079 rfl (zz_ltn hn rfl) (zz_G.eq G_S27 1079 63 1118 rfl rfl) (by decide) 1118 rfl ?_
              refine zz_iconst zd_14_103_71 ?_
              have g33 := zz_G.r G_S13 1118 1 0 9999 rfl rfl
              refine zz_iald (z := S13 1118 1) zd_14_103_72 zT_1118 rfl (zz_ltn hn rfl) (by decide) (by decide) (zz_rc fS27 (zz_nc1 rfl) rfl (fun h => h) rfl) ?_
              refine zz_istore_n [some (.ref 1079), some (zi 0), some (zi (S13 1118 0)), some (zi (S13 1118 1))] zd_14_103_73 (by decide) rfl ?_
              refine zz_aload_n (x := 1079) rfl zd_14_103_74 ?_
              refine zz_getr (kd := 0) (z := 1118) zd_14_103_75 zf_Md_136 zT_1079 rfl (zz_ltn hn rfl) (zz_G.eq G_S27 1079 63 1118 rfl rfl) (by decide) 1118 rfl ?_
              refine zz_iconst zd_14_103_78 ?_
              have g34 := zz_G.r G_S13 1118 2 0 9999 rfl rfl
              refine zz_iald (z := S13 1118 2) zd_14_103_79 zT_1118 rfl (zz_ltn hn rfl) (by decide) (by decide) (zz_rc fS27 (zz_nc1 rfl) rfl (fun h => h) rfl) ?_
              refine zz_istore [some (.ref 1079), some (zi 0), some (zi (S13 1118 0)), some (zi (S13 1118 1)), some (zi (S13 1118 2))] zd_14_103_80 (by decide) rfl ?_
              refine zz_aload_n (x := 1079) rfl zd_14_103_82 ?_
              refine zz_iconst zd_14_103_83 ?_
              refine zz_puti zd_14_103_84 zf_Md_85 zT_1079 rfl (zz_ltn hn rfl) (fun S35 qS35 => ?_)
              have G_S35 := zz_G.put G_S27 qS35 0 11 rfl (by omega)
              have F_S35 := zz_fr.puts F_S27 qS35 rfl
              have R_S35 : zz_Hr S35 := zz_Hr.none (by rw [zz_rs qS35]; decide)
              refine zz_iload_n (x := 0) rfl zd_14_103_87 ?_
              refine zz_if_eq (by omega) zd_14_103_88 (fun c36 => ?_) (fun c36 => ?_)
              · refine zz_iconst zd_14_103_101 ?_
                have e37 : S35 1079 36 = 0 := (zz_rs qS35)
                exact zz_zret zd_14_103_102 rfl (by omega) (Nat.zero_le _) (Nat.zero_le _) ⟨_, _, rfl, G_S35, F_S35, by omega, by omega, R_S35⟩
              · exfalso; omega
            · exfalso; omega
          · refine zz_if_eq (by omega) zd_14_103_28 (fun c38 => ?_) (fun c38 => ?_)
            · exfalso; omega
            · refine zz_aload_n (x := 1079) rfl zd_14_103_31 ?_
              refine zz_iconst zd_14_103_32 ?_
              have g39 := zz_G.r G_S27 1079 30 0 102 rfl rfl
              have g40 := zz_G.r G_S27 1079 32 0 1500 rfl rfl
              refine zz_callVI [zi 1] zd_14_103_33 zk_Md_550 zT_1079 (zz_ltn hn rfl) rfl rfl ⟨Nat.le_of_ble_eq_true rfl, Nat.le_of_ble_eq_true rfl⟩ ⟨rfl, rfl⟩ (Nat.zero_le _) (Nat.zero_le _) (zc_takeNet_14_95 1 S27 n hn G_S27 (by omega)) (fun v42 S41 hP => ?_)
              obtain ⟨G_S41, fS41, o43, o44⟩ := hP
              have F_S41 := zz_fr.trans F_S27 fS41 rfl zz_nv
              have R_S41 : zz_Hr S41 := zz_Hr.fr fS41 rfl rfl (fun b j h => h.elim) R_S27
              rcases (by omega : v42 = 0 ∨ v42 = 1) with rfl | rfl
              · refine zz_if_eq (by omega) zd_14_103_36 (fun c45 => ?_) (fun c45 => ?_)
                · refine zz_iconst zd_14_103_58 ?_
                  refine zz_istore_n [some (.ref 1079), some (zi 0)] zd_14_103_59 (by decide) rfl ?_
                  refine zz_aload_n (x := 1079) rfl zd_14_103_60 ?_
                  refine zz_getr (kd := 0) (z := 1118) zd_14_103_61 zf_Md_136 zT_1079 rfl (zz_ltn hn rfl) (zz_G.eq G_S41 1079 63 1118 rfl rfl) (by decide) 1118 rfl ?_
                  refine zz_iconst zd_14_103_64 ?_
                  have g46 := zz_G.r G_S41 1118 0 0 9999 rfl rfl
                  refine zz_iald (z := S41 1118 0) zd_14_103_65 zT_1118 rfl (zz_ltn hn rfl) (by decide) (by decide) rfl ?_
                  refine zz_istore_n [some (.ref 1079), some (zi 0), some (zi (S41 1118 0))] zd_14_103_66 (by decide) rfl ?_
                  refine zz_aload_n (x := 1079) rfl zd_14_103_67 ?_
                  refine zz_getr (kd := 0) (z := 1118) zd_14_103_68 zf_Md_136 zT_1079 rfl (zz_ltn hn rfl) (zz_G.eq G_S41 1079 63 1118 rfl rfl) (by decide) 1118 rfl ?_
                  refine zz_iconst zd_14_103_71 ?_
                  have g47 := zz_G.r G_S41 1118 1 0 9999 rfl rfl
                  refine zz_iald (z := S41 1118 1) zd_14_103_72 zT_1118 rfl (zz_ltn hn rfl) (by decide) (by decide) rfl ?_
                  refine zz_istore_n [some (.ref 1079), some (zi 0), some (zi (S41 1118 0)), some (zi (S41 1118 1))] zd_14_103_73 (by decide) rfl ?_
                  refine zz_aload_n (x := 1079) rfl zd_14_103_74 ?_
                  refine zz_getr (kd := 0) (z := 1118) zd_14_103_75 zf_Md_136 zT_1079 rfl (zz_ltn hn rfl) (zz_G.eq G_S41 1079 63 1118 rfl rfl) (by decide) 1118 rfl ?_
                  refine zz_iconst zd_14_103_78 ?_
                  have g48 := zz_G.r G_S41 1118 2 0 9999 rfl rfl
                  refine zz_iald (z := S41 1118 2) zd_14_103_79 zT_1118 rfl (zz_ltn hn rfl) (by decide) (by decide) rfl ?_
                  refine zz_istore [some (.ref 1079), some (zi 0), some (zi (S41 1118 0)), some (zi (S41 1118 1)), some (zi (S41 1118 2))] zd_14_103_80 (by decide) rfl ?_
                  refine zz_aload_n (x := 1079) rfl zd_14_103_82 ?_
                  refine zz_iconst zd_14_103_83 ?_
                  refine zz_puti zd_14_103_84 zf_Md_85 zT_1079 rfl (zz_ltn hn rfl) (fun S49 qS49 => ?_)
                  have G_S49 := zz_G.put G_S41 qS49 0 11 rfl (by omega)
                  have F_S49 := zz_fr.puts F_S41 qS49 rfl
                  have R_S49 : zz_Hr S49 := zz_Hr.none (by rw [zz_rs qS49]; decide)
                  refine zz_iload_n (x := 0) rfl zd_14_103_87 ?_
                  refine zz_if_eq (by omega) zd_14_103_88 (fun c50 => ?_) (fun c50 => ?_)
                  · refine zz_iconst zd_14_103_101 ?_
                    have e51 : S49 1079 36 = 0 := (zz_rs qS49)
                    exact zz_zret zd_14_103_102 rfl (by omega) (Nat.zero_le _) (Nat.zero_le _) ⟨_, _, rfl, G_S49, F_S49, by omega, by omega, R_S49⟩
                  · exfalso; omega
                · exfalso; omega
              · refine zz_if_eq (by omega) zd_14_103_36 (fun c52 => ?_) (fun c52 => ?_)
                · exfalso; omega
                · refine zz_aload_n (x := 1079) rfl zd_14_103_39 ?_
                  have g53 := zz_G.r G_S41 1079 30 0 102 rfl rfl
                  have g54 := zz_G.r G_S41 1079 32 0 1500 rfl rfl
                  refine zz_callVI [] zd_14_103_40 zk_Md_553 zT_1079 (zz_ltn hn rfl) rfl rfl ⟨Nat.le_of_ble_eq_true rfl, Nat.le_of_ble_eq_true rfl⟩ ⟨rfl, rfl⟩ (Nat.zero_le _) (Nat.zero_le _) (zc_takeX_14_96  S41 n hn G_S41 ) (fun v56 S55 hP => ?_)
                  obtain ⟨G_S55, fS55, o57, o58⟩ := hP
                  have F_S55 := zz_fr.trans F_S41 fS55 rfl zz_nv
                  have R_S55 : zz_Hr S55 := zz_Hr.fr fS55 rfl rfl (fun b j h => h.elim) R_S41
                  rcases (by omega : v56 = 0 ∨ v56 = 1) with rfl | rfl
                  · refine zz_if_eq (by omega) zd_14_103_43 (fun c59 => ?_) (fun c59 => ?_)
                    · refine zz_iconst zd_14_103_58 ?_
                      refine zz_istore_n [some (.ref 1079), some (zi 0)] zd_14_103_59 (by decide) rfl ?_
                      refine zz_aload_n (x := 1079) rfl zd_14_103_60 ?_
                      refine zz_getr (kd := 0) (z := 1118) zd_14_103_61 zf_Md_136 zT_1079 rfl (zz_ltn hn rfl) (zz_G.eq G_S55 1079 63 1118 rfl rfl) (by decide) 1118 rfl ?_
                      refine zz_iconst zd_14_103_64 ?_
                      have g60 := zz_G.r G_S41 1118 0 0 9999 rfl rfl
                      refine zz_iald (z := S41 1118 0) zd_14_103_65 zT_1118 rfl (zz_ltn hn rfl) (by decide) (by decide) (zz_rc fS55 (zz_nc1 rfl) rfl (fun h => h) rfl) ?_
                      refine zz_istore_n [some (.ref 1079), some (zi 0), some (zi (S41 1118 0))] zd_14_103_66 (by decide) rfl ?_
                      refine zz_aload_n (x := 1079) rfl zd_14_103_67 ?_
                      refine zz_getr (kd := 0) (z := 1118) zd_14_103_68 zf_Md_136 zT_1079 rfl (zz_ltn hn rfl) (zz_G.eq G_S55 1079 63 1118 rfl rfl) (by decide) 1118 rfl ?_
                      refine zz_iconst zd_14_103_71 ?_
                      have g61 := zz_G.r G_S41 1118 1 0 9999 rfl rfl
                      refine zz_iald (z := S41 1118 1) zd_14_103_72 zT_1118 rfl (zz_ltn hn rfl) (by decide) (by decide) (zz_rc fS55 (zz_nc1 rfl) rfl (fun h => h) rfl) ?_
                      refine zz_istore_n [some (.ref 1079), some (zi 0), some (zi (S41 1118 0)), some (zi (S41 1118 1))] zd_14_103_73 (by decide) rfl ?_
                      refine zz_aload_n (x := 1079) rfl zd_14_103_74 ?_
                      refine zz_getr (kd := 0) (z := 1118) zd_14_103_75 zf_Md_136 zT_1079 rfl (zz_ltn hn rfl) (zz_G.eq G_S55 1079 63 1118 rfl rfl) (by decide) 1118 rfl ?_
                      refine zz_iconst zd_14_103_78 ?_
                      have g62 := zz_G.r G_S41 1118 2 0 9999 rfl rfl
                      refine zz_iald (z := S41 1118 2) zd_14_103_79 zT_1118 rfl (zz_ltn hn rfl) (by decide) (by decide) (zz_rc fS55 (zz_nc1 rfl) rfl (fun h => h) rfl) ?_
                      refine zz_istore [some (.ref 1079), some (zi 0), some (zi (S41 1118 0)), some (zi (S41 1118 1)), some (zi (S41 1118 2))] zd_14_103_80 (by decide) rfl ?_
                      refine zz_aload_n (x := 1079) rfl zd_14_103_82 ?_
                      refine zz_iconst zd_14_103_83 ?_
                      refine zz_puti zd_14_103_84 zf_Md_85 zT_1079 rfl (zz_ltn hn rfl) (fun S63 qS63 => ?_)
                      have G_S63 := zz_G.put G_S55 qS63 0 11 rfl (by omega)
                      have F_S63 := zz_fr.puts F_S55 qS63 rfl
                      have R_S63 : zz_Hr S63 := zz_Hr.none (by rw [zz_rs qS63]; decide)
                      refine zz_iload_n (x := 0) rfl zd_14_103_87 ?_
                      refine zz_if_eq (by omega) zd_14_103_88 (fun c64 => ?_) (fun c64 => ?_)
                      · refine zz_iconst zd_14_103_101 ?_
                        have e65 : S63 1079 36 = 0 := (zz_rs qS63)
                        exact zz_zret zd_14_103_102 rfl (by omega) (Nat.zero_le _) (Nat.zero_le _) ⟨_, _, rfl, G_S63, F_S63, by omega, by omega, R_S63⟩
                      · exfalso; omega
                    · exfalso; omega
                  · refine zz_if_eq (by omega) zd_14_103_43 (fun c66 => ?_) (fun c66 => ?_)
                    · exfalso; omega
                    · refine zz_aload_n (x := 1079) rfl zd_14_103_46 ?_
                      refine zz_iconst zd_14_103_47 ?_
                      have g67 := zz_G.r G_S55 1079 30 0 102 rfl rfl
                      have g68 := zz_G.r G_S55 1079 32 0 1500 rfl rfl
                      refine zz_callVI [zi 2] zd_14_103_48 zk_Md_550 zT_1079 (zz_ltn hn rfl) rfl rfl ⟨Nat.le_of_ble_eq_true rfl, Nat.le_of_ble_eq_true rfl⟩ ⟨rfl, rfl⟩ (Nat.zero_le _) (Nat.zero_le _) (zc_takeNet_14_95 2 S55 n hn G_S55 (by omega)) (fun v70 S69 hP => ?_)
                      obtain ⟨G_S69, fS69, o71, o72⟩ := hP
                      have F_S69 := zz_fr.trans F_S55 fS69 rfl zz_nv
                      have R_S69 : zz_Hr S69 := zz_Hr.fr fS69 rfl rfl (fun b j h => h.elim) R_S55
                      rcases (by omega : v70 = 0 ∨ v70 = 1) with rfl | rfl
                      · refine zz_if_eq (by omega) zd_14_103_51 (fun c73 => ?_) (fun c73 => ?_)
                        · refine zz_iconst zd_14_103_58 ?_
                          refine zz_istore_n [some (.ref 1079), some (zi 0)] zd_14_103_59 (by decide) rfl ?_
                          refine zz_aload_n (x := 1079) rfl zd_14_103_60 ?_
                          refine zz_getr (kd := 0) (z := 1118) zd_14_103_61 zf_Md_136 zT_1079 rfl (zz_ltn hn rfl) (zz_G.eq G_S69 1079 63 1118 rfl rfl) (by decide) 1118 rfl ?_
                          refine zz_iconst zd_14_103_64 ?_
                          have g74 := zz_G.r G_S69 1118 0 0 9999 rfl rfl
                          refine zz_iald (z := S69 1118 0) zd_14_103_65 zT_1118 rfl (zz_ltn hn rfl) (by decide) (by decide) rfl ?_
                          refine zz_istore_n [some (.ref 1079), some (zi 0), some (zi (S69 1118 0))] zd_14_103_66 (by decide) rfl ?_
                          refine zz_aload_n (x := 1079) rfl zd_14_103_67 ?_
                          refine zz_getr (kd := 0) (z := 1118) zd_14_103_68 zf_Md_136 zT_1079 rfl (zz_ltn hn rfl) (zz_G.eq G_S69 1079 63 1118 rfl rfl) (by decide) 1118 rfl ?_
                          refine zz_iconst zd_14_103_71 ?_
                          have g75 := zz_G.r G_S69 1118 1 0 9999 rfl rfl
                          refine zz_iald (z := S69 1118 1) zd_14_103_72 zT_1118 rfl (zz_ltn hn rfl) (by decide) (by decide) rfl ?_
                          refine zz_istore_n [some (.ref 1079), some (zi 0), some (zi (S69 1118 0)), some (zi (S69 1118 1))] zd_14_103_73 (by decide) rfl ?_
                          refine zz_aload_n (x := 1079) rfl zd_14_103_74 ?_
                          refine zz_getr (kd := 0) (z := 1118) zd_14_103_75 zf_Md_136 zT_1079 rfl (zz_ltn hn rfl) (zz_G.eq G_S69 1079 63 1118 rfl rfl) (by decide) 1118 rfl ?_
                          refine zz_iconst zd_14_103_78 ?_
                          have g76 := zz_G.r G_S69 1118 2 0 9999 rfl rfl
                          refine zz_iald (z := S69 1118 2) zd_14_103_79 zT_1118 rfl (zz_ltn hn rfl) (by decide) (by decide) rfl ?_
                          refine zz_istore [some (.ref 1079), some (zi 0), some (zi (S69 1118 0)), some (zi (S69 1118 1)), some (zi (S69 1118 2))] zd_14_103_80 (by decide) rfl ?_
                          refine zz_aload_n (x := 1079) rfl zd_14_103_82 ?_
                          refine zz_iconst zd_14_103_83 ?_
                          refine zz_puti zd_14_103_84 zf_Md_85 zT_1079 rfl (zz_ltn hn rfl) (fun S77 qS77 => ?_)
                          have G_S77 := zz_G.put G_S69 qS77 0 11 rfl (by omega)
                          have F_S77 := zz_fr.puts F_S69 qS77 rfl
                          have R_S77 : zz_Hr S77 := zz_Hr.none (by rw [zz_rs qS77]; decide)
                          refine zz_iload_n (x := 0) rfl zd_14_103_87 ?_
                          refine zz_if_eq (by omega) zd_14_103_88 (fun c78 => ?_) (fun c78 => ?_)
                          · refine zz_iconst zd_14_103_101 ?_
                            have e79 : S77 1079 36 = 0 := (zz_rs qS77)
                            exact zz_zret zd_14_103_102 rfl (by omega) (Nat.zero_le _) (Nat.zero_le _) ⟨_, _, rfl, G_S77, F_S77, by omega, by omega, R_S77⟩
                          · exfalso; omega
                        · exfalso; omega
                      · refine zz_if_eq (by omega) zd_14_103_51 (fun c80 => ?_) (fun c80 => ?_)
                        · exfalso; omega
                        · refine zz_iconst zd_14_103_54 ?_
                          refine zz_goto zd_14_103_55 ?_
                          refine zz_istore_n [some (.ref 1079), some (zi 1)] zd_14_103_59 (by decide) rfl ?_
                          refine zz_aload_n (x := 1079) rfl zd_14_103_60 ?_
                          refine zz_getr (kd := 0) (z := 1118) zd_14_103_61 zf_Md_136 zT_1079 rfl (zz_ltn hn rfl) (zz_G.eq G_S69 1079 63 1118 rfl rfl) (by decide) 1118 rfl ?_
                          refine zz_iconst zd_14_103_64 ?_
                          have g81 := zz_G.r G_S69 1118 0 0 9999 rfl rfl
                          refine zz_iald (z := S69 1118 0) zd_14_103_65 zT_1118 rfl (zz_ltn hn rfl) (by decide) (by decide) rfl ?_
                          refine zz_istore_n [some (.ref 1079), some (zi 1), some (zi (S69 1118 0))] zd_14_103_66 (by decide) rfl ?_
                          refine zz_aload_n (x := 1079) rfl zd_14_103_67 ?_
                          refine zz_getr (kd := 0) (z := 1118) zd_14_103_68 zf_Md_136 zT_1079 rfl (zz_ltn hn rfl) (zz_G.eq G_S69 1079 63 1118 rfl rfl) (by decide) 1118 rfl ?_
                          refine zz_iconst zd_14_103_71 ?_
                          have g82 := zz_G.r G_S69 1118 1 0 9999 rfl rfl
                          refine zz_iald (z := S69 1118 1) zd_14_103_72 zT_1118 rfl (zz_ltn hn rfl) (by decide) (by decide) rfl ?_
                          refine zz_istore_n [some (.ref 1079), some (zi 1), some (zi (S69 1118 0)), some (zi (S69 1118 1))] zd_14_103_73 (by decide) rfl ?_
                          refine zz_aload_n (x := 1079) rfl zd_14_103_74 ?_
                          refine zz_getr (kd := 0) (z := 1118) zd_14_103_75 zf_Md_136 zT_1079 rfl (zz_ltn hn rfl) (zz_G.eq G_S69 1079 63 1118 rfl rfl) (by decide) 1118 rfl ?_
                          refine zz_iconst zd_14_103_78 ?_
                          have g83 := zz_G.r G_S69 1118 2 0 9999 rfl rfl
                          refine zz_iald (z := S69 1118 2) zd_14_103_79 zT_1118 rfl (zz_ltn hn rfl) (by decide) (by decide) rfl ?_
                          refine zz_istore [some (.ref 1079), some (zi 1), some (zi (S69 1118 0)), some (zi (S69 1118 1)), some (zi (S69 1118 2))] zd_14_103_80 (by decide) rfl ?_
                          refine zz_aload_n (x := 1079) rfl zd_14_103_82 ?_
                          refine zz_iconst zd_14_103_83 ?_
                          refine zz_puti zd_14_103_84 zf_Md_85 zT_1079 rfl (zz_ltn hn rfl) (fun S84 qS84 => ?_)
                          have G_S84 := zz_G.put G_S69 qS84 0 11 rfl (by omega)
                          have F_S84 := zz_fr.puts F_S69 qS84 rfl
                          have R_S84 : zz_Hr S84 := zz_Hr.none (by rw [zz_rs qS84]; decide)
                          refine zz_iload_n (x := 1) rfl zd_14_103_87 ?_
                          refine zz_if_eq (by omega) zd_14_103_88 (fun c85 => ?_) (fun c85 => ?_)
                          · exfalso; omega
                          · refine zz_aload_n (x := 1079) rfl zd_14_103_91 ?_
                            refine zz_sipush (by decide) zd_14_103_92 ?_
                            refine zz_callVI [zi 128] zd_14_103_95 zk_Md_576 zT_1079 (zz_ltn hn rfl) rfl rfl ⟨Nat.le_of_ble_eq_true rfl, Nat.le_of_ble_eq_true rfl⟩ ⟨rfl, rfl⟩ (Nat.zero_le _) (Nat.zero_le _) (zc_takeParts_14_101 128 S84 n hn G_S84 (by omega)) (fun v87 S86 hP => ?_)
                            obtain ⟨G_S86, fS86, o88⟩ := hP
                            have F_S86 := zz_fr.trans F_S84 fS86 rfl zz_nv
                            have R_S86 : zz_Hr S86 := zz_Hr.fr fS86 rfl rfl (fun b j h => h.elim) R_S84
                            rcases (by omega : v87 = 0 ∨ v87 = 1) with rfl | rfl
                            · refine zz_if_ne (by omega) zd_14_103_98 (fun c89 => ?_) (fun c89 => ?_)
                              · exfalso; omega
                              · refine zz_iconst zd_14_103_101 ?_
                                have e90 : S86 1079 36 = 0 := (zz_rc fS86 rfl rfl (fun h => h) (zz_rs qS84))
                                exact zz_zret zd_14_103_102 rfl (by omega) (Nat.zero_le _) (Nat.zero_le _) ⟨_, _, rfl, G_S86, F_S86, by omega, by omega, R_S86⟩
                            · refine zz_if_ne (by omega) zd_14_103_98 (fun c91 => ?_) (fun c91 => ?_)
                              · refine zz_aload_n (x := 1079) rfl zd_14_103_103 ?_
                                refine zz_iload_n (x := S69 1118 0) rfl zd_14_103_104 ?_
                                refine zz_iload_n (x := S69 1118 1) rfl zd_14_103_105 ?_
                                refine zz_iload (x := S69 1118 2) rfl zd_14_103_106 ?_
                                have e92 : S86 1079 36 = 0 := (zz_rc fS86 rfl rfl (fun h => h) (zz_rs qS84))
                                refine zz_callVV [zi (S69 1118 0), zi (S69 1118 1), zi (S69 1118 2)] zd_14_103_108 zk_Md_579 zT_1079 (zz_ltn hn rfl) rfl rfl ⟨Nat.le_of_ble_eq_true rfl, Nat.le_of_ble_eq_true rfl⟩ ⟨rfl, rfl⟩ (Nat.zero_le _) (Nat.zero_le _) (zc_input_14_63 (S69 1118 0) (S69 1118 1) (S69 1118 2) S86 n hn G_S86 (by omega) (by omega) (by omega) R_S86) (fun S93 hP => ?_)
                                obtain ⟨G_S93, fS93, o95, o96, o97⟩ := hP
                                have F_S93 := zz_fr.trans F_S86 fS93 rfl zz_nv
                                have R_S93 : zz_Hr S93 := o97
                                refine zz_aload_n (x := 1079) rfl zd_14_103_111 ?_
                                refine zz_getr (kd := 0) (z := 1117) zd_14_103_112 zf_Md_133 zT_1079 rfl (zz_ltn hn rfl) (zz_G.eq G_S93 1079 62 1117 rfl rfl) (by decide) 1117 rfl ?_
                                refine zz_iconst zd_14_103_115 ?_
                                refine zz_aload_n (x := 1079) rfl zd_14_103_116 ?_
                                have g98 := zz_G.r G_S86 1079 64 (-9223372036854775808) 9223372036854775807 rfl rfl
                                refine zz_getl (z := S86 1079 64) zd_14_103_117 zf_Md_564 zT_1079 rfl (zz_ltn hn rfl) (zz_rc fS93 rfl rfl (fun h => h) rfl) ?_
                                refine zz_last zd_14_103_120 zT_1117 rfl (zz_ltn hn rfl) (by decide) (by decide) (fun S99 qS99 => ?_)
                                have G_S99 := zz_G.put G_S93 qS99 (-9223372036854775808) 9223372036854775807 rfl (by omega)
                                have F_S99 := zz_fr.putc F_S93 qS99 rfl
                                have R_S99 : zz_Hr S99 := zz_Hr.fr (zz_fr.put1 qS99) rfl rfl (fun b j h => by omega) R_S93
                                refine zz_aload_n (x := 1079) rfl zd_14_103_121 ?_
                                have g100 := zz_G.r G_S93 1079 0 0 3 rfl rfl
                                refine zz_geti (z := S93 1079 0) zd_14_103_122 zf_Md_187 zT_1079 rfl (zz_ltn hn rfl) (zz_ro qS99 (fun h => absurd h.1 (by decide)) rfl) ?_
                                refine zz_if_ne (by omega) zd_14_103_125 (fun c101 => ?_) (fun c101 => ?_)
                                · refine zz_iconst zd_14_103_132 ?_
                                  have g102 := zz_G.r G_S93 1079 36 0 11 rfl rfl
                                  have e103 : S99 1079 36 = S93 1079 36 := (zz_ro qS99 (fun h => absurd h.1 (by decide)) rfl)
                                  exact zz_zret zd_14_103_133 rfl (by omega) (Nat.zero_le _) (Nat.zero_le _) ⟨_, _, rfl, G_S99, F_S99, by omega, by omega, R_S99⟩
                                · refine zz_iconst zd_14_103_128 ?_
                                  refine zz_goto zd_14_103_129 ?_
                                  have g104 := zz_G.r G_S93 1079 36 0 11 rfl rfl
                                  have e105 : S99 1079 36 = S93 1079 36 := (zz_ro qS99 (fun h => absurd h.1 (by decide)) rfl)
                                  exact zz_zret zd_14_103_133 rfl (by omega) (Nat.zero_le _) (Nat.zero_le _) ⟨_, _, rfl, G_S99, F_S99, by omega, by omega, R_S99⟩
                              · exfalso; omega
    · exfalso; omega
abbrev zy_readLayer_14_104 : mm_Y := (⟨"TensorForgeModel", "readLayer", "()Z"⟩, prog_14_method_104_code, 9, (some .boolean))
theorem zyw_readLayer_14_104 : mm_Yw zy_readLayer_14_104 0 := ⟨mm_tb_1 2203 (by decide +kernel) rfl, mm_tb_1 12 (by decide +kernel) rfl, ⟨by decide, by decide⟩, by decide +kernel⟩
theorem zd_14_104_0 : zz_D zy_readLayer_14_104 0 (.aload_n 0) 1 1 := ⟨by decide +kernel, rfl⟩
theorem zd_14_104_1 : zz_D zy_readLayer_14_104 1 (.ldc2_w 534) 3 4 := ⟨by decide +kernel, rfl⟩
theorem zd_14_104_4 : zz_D zy_readLayer_14_104 4 (.invokevirtual 529) 3 7 := ⟨by decide +kernel, rfl⟩
theorem zd_14_104_7 : zz_D zy_readLayer_14_104 7 (.istore_n 1) 1 8 := ⟨by decide +kernel, rfl⟩
theorem zd_14_104_8 : zz_D zy_readLayer_14_104 8 (.aload_n 0) 1 9 := ⟨by decide +kernel, rfl⟩
theorem zd_14_104_9 : zz_D zy_readLayer_14_104 9 (.ldc2_w 536) 3 12 := ⟨by decide +kernel, rfl⟩
theorem zd_14_104_12 : zz_D zy_readLayer_14_104 12 (.invokevirtual 529) 3 15 := ⟨by decide +kernel, rfl⟩
theorem zd_14_104_15 : zz_D zy_readLayer_14_104 15 (.istore_n 2) 1 16 := ⟨by decide +kernel, rfl⟩
theorem zd_14_104_16 : zz_D zy_readLayer_14_104 16 (.iload_n 1) 1 17 := ⟨by decide +kernel, rfl⟩
theorem zd_14_104_17 : zz_B zy_readLayer_14_104 17 (Instr.ifCond .ne) 36 20 := ⟨19, by decide +kernel, rfl, rfl⟩
theorem zd_14_104_20 : zz_D zy_readLayer_14_104 20 (.iload_n 2) 1 21 := ⟨by decide +kernel, rfl⟩
theorem zd_14_104_21 : zz_B zy_readLayer_14_104 21 (Instr.ifCond .ne) 36 24 := ⟨15, by decide +kernel, rfl, rfl⟩
theorem zd_14_104_24 : zz_D zy_readLayer_14_104 24 (.aload_n 0) 1 25 := ⟨by decide +kernel, rfl⟩
theorem zd_14_104_25 : zz_D zy_readLayer_14_104 25 (.ldc2_w 538) 3 28 := ⟨by decide +kernel, rfl⟩
theorem zd_14_104_28 : zz_D zy_readLayer_14_104 28 (.invokevirtual 529) 3 31 := ⟨by decide +kernel, rfl⟩
theorem zd_14_104_31 : zz_B zy_readLayer_14_104 31 (Instr.ifCond .ne) 36 34 := ⟨5, by decide +kernel, rfl, rfl⟩
theorem zd_14_104_34 : zz_D zy_readLayer_14_104 34 (.iconst 0) 1 35 := ⟨by decide +kernel, rfl⟩
theorem zd_14_104_35 : zz_D zy_readLayer_14_104 35 (.ireturn) 1 36 := ⟨by decide +kernel, rfl⟩
theorem zd_14_104_36 : zz_D zy_readLayer_14_104 36 (.aload_n 0) 1 37 := ⟨by decide +kernel, rfl⟩
theorem zd_14_104_37 : zz_D zy_readLayer_14_104 37 (.invokevirtual 526) 3 40 := ⟨by decide +kernel, rfl⟩
theorem zd_14_104_40 : zz_D zy_readLayer_14_104 40 (.aload_n 0) 1 41 := ⟨by decide +kernel, rfl⟩
theorem zd_14_104_41 : zz_D zy_readLayer_14_104 41 (.invokevirtual 582) 3 44 := ⟨by decide +kernel, rfl⟩
theorem zk_Md_582 : mm_Vl "TensorForgeModel" 582 11 0 zy_takeTensor_14_102 := ⟨zyw_takeTensor_14_102, (R_Md, F_Md, 69), rfl, mm_tb_1 2211 (by decide +kernel) rfl, mm_tb_1 2213 (by decide +kernel) rfl, mm_tb_s 143 (by decide +kernel) rfl⟩
theorem zd_14_104_44 : zz_D zy_readLayer_14_104 44 (.istore_n 3) 1 45 := ⟨by decide +kernel, rfl⟩
theorem zd_14_104_45 : zz_D zy_readLayer_14_104 45 (.iload_n 1) 1 46 := ⟨by decide +kernel, rfl⟩
theorem zd_14_104_46 : zz_B zy_readLayer_14_104 46 (Instr.ifCond .ne) 64 49 := ⟨18, by decide +kernel, rfl, rfl⟩
theorem zd_14_104_49 : zz_D zy_readLayer_14_104 49 (.iload_n 2) 1 50 := ⟨by decide +kernel, rfl⟩
theorem zd_14_104_50 : zz_B zy_readLayer_14_104 50 (Instr.ifCond .ne) 64 53 := ⟨14, by decide +kernel, rfl, rfl⟩
theorem zd_14_104_53 : zz_D zy_readLayer_14_104 53 (.iload_n 3) 1 54 := ⟨by decide +kernel, rfl⟩
theorem zd_14_104_54 : zz_B zy_readLayer_14_104 54 (Instr.ifCond .lt) 64 57 := ⟨10, by decide +kernel, rfl, rfl⟩
theorem zd_14_104_64 : zz_D zy_readLayer_14_104 64 (.iconst 0) 1 65 := ⟨by decide +kernel, rfl⟩
theorem zd_14_104_65 : zz_D zy_readLayer_14_104 65 (.istore 4) 2 67 := ⟨by decide +kernel, rfl⟩
theorem zd_14_104_67 : zz_D zy_readLayer_14_104 67 (.iload_n 3) 1 68 := ⟨by decide +kernel, rfl⟩
theorem zd_14_104_68 : zz_B zy_readLayer_14_104 68 (Instr.ifCond .lt) 106 71 := ⟨38, by decide +kernel, rfl, rfl⟩
theorem zd_14_104_106 : zz_D zy_readLayer_14_104 106 (.iconst 0) 1 107 := ⟨by decide +kernel, rfl⟩
theorem zd_14_104_107 : zz_D zy_readLayer_14_104 107 (.ireturn) 1 108 := ⟨by decide +kernel, rfl⟩
theorem zd_14_104_57 : zz_D zy_readLayer_14_104 57 (.aload_n 0) 1 58 := ⟨by decide +kernel, rfl⟩
theorem zd_14_104_58 : zz_D zy_readLayer_14_104 58 (.invokevirtual 582) 3 61 := ⟨by decide +kernel, rfl⟩
theorem zd_14_104_61 : zz_B zy_readLayer_14_104 61 Instr.goto 65 64 := ⟨4, by decide +kernel, rfl, rfl⟩
theorem zd_14_104_71 : zz_D zy_readLayer_14_104 71 (.iload 4) 2 73 := ⟨by decide +kernel, rfl⟩
theorem zd_14_104_73 : zz_B zy_readLayer_14_104 73 (Instr.ifCond .lt) 106 76 := ⟨33, by decide +kernel, rfl, rfl⟩
theorem zd_14_104_76 : zz_D zy_readLayer_14_104 76 (.aload_n 0) 1 77 := ⟨by decide +kernel, rfl⟩
theorem zd_14_104_77 : zz_D zy_readLayer_14_104 77 (.iload_n 1) 1 78 := ⟨by decide +kernel, rfl⟩
theorem zd_14_104_78 : zz_B zy_readLayer_14_104 78 (Instr.ifCond .eq) 87 81 := ⟨9, by decide +kernel, rfl, rfl⟩
theorem zd_14_104_87 : zz_D zy_readLayer_14_104 87 (.iload_n 2) 1 88 := ⟨by decide +kernel, rfl⟩
theorem zd_14_104_88 : zz_B zy_readLayer_14_104 88 (Instr.ifCond .eq) 97 91 := ⟨9, by decide +kernel, rfl, rfl⟩
theorem zd_14_104_97 : zz_D zy_readLayer_14_104 97 (.sipush 224) 3 100 := ⟨by decide +kernel, rfl⟩
theorem zd_14_104_100 : zz_D zy_readLayer_14_104 100 (.invokevirtual 576) 3 103 := ⟨by decide +kernel, rfl⟩
theorem zd_14_104_103 : zz_B zy_readLayer_14_104 103 (Instr.ifCond .ne) 108 106 := ⟨5, by decide +kernel, rfl, rfl⟩
theorem zd_14_104_108 : zz_D zy_readLayer_14_104 108 (.aload_n 0) 1 109 := ⟨by decide +kernel, rfl⟩
theorem zd_14_104_109 : zz_D zy_readLayer_14_104 109 (.getfield 136) 3 112 := ⟨by decide +kernel, rfl⟩
theorem zd_14_104_112 : zz_D zy_readLayer_14_104 112 (.bipush 6) 2 114 := ⟨by decide +kernel, rfl⟩
theorem zd_14_104_114 : zz_D zy_readLayer_14_104 114 (.iaload) 1 115 := ⟨by decide +kernel, rfl⟩
theorem zd_14_104_115 : zz_D zy_readLayer_14_104 115 (.bipush 16) 2 117 := ⟨by decide +kernel, rfl⟩
theorem zd_14_104_117 : zz_D zy_readLayer_14_104 117 (.aload_n 0) 1 118 := ⟨by decide +kernel, rfl⟩
theorem zd_14_104_118 : zz_D zy_readLayer_14_104 118 (.getfield 136) 3 121 := ⟨by decide +kernel, rfl⟩
theorem zd_14_104_121 : zz_D zy_readLayer_14_104 121 (.bipush 7) 2 123 := ⟨by decide +kernel, rfl⟩
theorem zd_14_104_123 : zz_D zy_readLayer_14_104 123 (.iaload) 1 124 := ⟨by decide +kernel, rfl⟩
theorem zd_14_104_124 : zz_D zy_readLayer_14_104 124 (.imul) 1 125 := ⟨by decide +kernel, rfl⟩
theorem zd_14_104_125 : zz_D zy_readLayer_14_104 125 (.iadd) 1 126 := ⟨by decide +kernel, rfl⟩
theorem zd_14_104_126 : zz_D zy_readLayer_14_104 126 (.istore 5) 2 128 := ⟨by decide +kernel, rfl⟩
theorem zd_14_104_128 : zz_D zy_readLayer_14_104 128 (.bipush 10) 2 130 := ⟨by decide +kernel, rfl⟩
theorem zd_14_104_130 : zz_D zy_readLayer_14_104 130 (.aload_n 0) 1 131 := ⟨by decide +kernel, rfl⟩
theorem zd_14_104_131 : zz_D zy_readLayer_14_104 131 (.getfield 136) 3 134 := ⟨by decide +kernel, rfl⟩
theorem zd_14_104_134 : zz_D zy_readLayer_14_104 134 (.iconst 0) 1 135 := ⟨by decide +kernel, rfl⟩
theorem zd_14_104_135 : zz_D zy_readLayer_14_104 135 (.iaload) 1 136 := ⟨by decide +kernel, rfl⟩
theorem zd_14_104_136 : zz_D zy_readLayer_14_104 136 (.imul) 1 137 := ⟨by decide +kernel, rfl⟩
theorem zd_14_104_137 : zz_D zy_readLayer_14_104 137 (.aload_n 0) 1 138 := ⟨by decide +kernel, rfl⟩
theorem zd_14_104_138 : zz_D zy_readLayer_14_104 138 (.getfield 136) 3 141 := ⟨by decide +kernel, rfl⟩
theorem zd_14_104_141 : zz_D zy_readLayer_14_104 141 (.iconst 1) 1 142 := ⟨by decide +kernel, rfl⟩
theorem zd_14_104_142 : zz_D zy_readLayer_14_104 142 (.iaload) 1 143 := ⟨by decide +kernel, rfl⟩
theorem zd_14_104_143 : zz_D zy_readLayer_14_104 143 (.iadd) 1 144 := ⟨by decide +kernel, rfl⟩
theorem zd_14_104_144 : zz_D zy_readLayer_14_104 144 (.istore 6) 2 146 := ⟨by decide +kernel, rfl⟩
theorem zd_14_104_146 : zz_D zy_readLayer_14_104 146 (.aload_n 0) 1 147 := ⟨by decide +kernel, rfl⟩
theorem zd_14_104_147 : zz_D zy_readLayer_14_104 147 (.getfield 136) 3 150 := ⟨by decide +kernel, rfl⟩
theorem zd_14_104_150 : zz_D zy_readLayer_14_104 150 (.iconst 0) 1 151 := ⟨by decide +kernel, rfl⟩
theorem zd_14_104_151 : zz_D zy_readLayer_14_104 151 (.iaload) 1 152 := ⟨by decide +kernel, rfl⟩
theorem zd_14_104_152 : zz_D zy_readLayer_14_104 152 (.i2l) 1 153 := ⟨by decide +kernel, rfl⟩
theorem zd_14_104_153 : zz_D zy_readLayer_14_104 153 (.lconst 1) 1 154 := ⟨by decide +kernel, rfl⟩
theorem zd_14_104_154 : zz_D zy_readLayer_14_104 154 (.ldc2_w 416) 3 157 := ⟨by decide +kernel, rfl⟩
theorem zd_14_104_157 : zz_D zy_readLayer_14_104 157 (.invokestatic 192) 3 160 := ⟨by decide +kernel, rfl⟩
theorem zd_14_104_160 : zz_B zy_readLayer_14_104 160 (Instr.ifCond .eq) 184 163 := ⟨24, by decide +kernel, rfl, rfl⟩
theorem zd_14_104_184 : zz_D zy_readLayer_14_104 184 (.iconst 0) 1 185 := ⟨by decide +kernel, rfl⟩
theorem zd_14_104_185 : zz_D zy_readLayer_14_104 185 (.istore 7) 2 187 := ⟨by decide +kernel, rfl⟩
theorem zd_14_104_187 : zz_D zy_readLayer_14_104 187 (.iconst (-1)) 1 188 := ⟨by decide +kernel, rfl⟩
theorem zd_14_104_188 : zz_D zy_readLayer_14_104 188 (.istore 8) 2 190 := ⟨by decide +kernel, rfl⟩
theorem zd_14_104_190 : zz_D zy_readLayer_14_104 190 (.iload_n 1) 1 191 := ⟨by decide +kernel, rfl⟩
theorem zd_14_104_191 : zz_B zy_readLayer_14_104 191 (Instr.ifCond .eq) 299 194 := ⟨108, by decide +kernel, rfl, rfl⟩
theorem zd_14_104_299 : zz_D zy_readLayer_14_104 299 (.iload_n 2) 1 300 := ⟨by decide +kernel, rfl⟩
theorem zd_14_104_300 : zz_B zy_readLayer_14_104 300 (Instr.ifCond .eq) 337 303 := ⟨37, by decide +kernel, rfl, rfl⟩
theorem zd_14_104_337 : zz_D zy_readLayer_14_104 337 (.aload_n 0) 1 338 := ⟨by decide +kernel, rfl⟩
theorem zd_14_104_338 : zz_D zy_readLayer_14_104 338 (.getfield 136) 3 341 := ⟨by decide +kernel, rfl⟩
theorem zd_14_104_341 : zz_D zy_readLayer_14_104 341 (.bipush 6) 2 343 := ⟨by decide +kernel, rfl⟩
theorem zd_14_104_343 : zz_D zy_readLayer_14_104 343 (.iaload) 1 344 := ⟨by decide +kernel, rfl⟩
theorem zd_14_104_344 : zz_D zy_readLayer_14_104 344 (.bipush 15) 2 346 := ⟨by decide +kernel, rfl⟩
theorem zd_14_104_346 : zz_B zy_readLayer_14_104 346 (Instr.if_icmp .le) 351 349 := ⟨5, by decide +kernel, rfl, rfl⟩
theorem zd_14_104_351 : zz_D zy_readLayer_14_104 351 (.aload_n 0) 1 352 := ⟨by decide +kernel, rfl⟩
theorem zd_14_104_352 : zz_D zy_readLayer_14_104 352 (.iload_n 3) 1 353 := ⟨by decide +kernel, rfl⟩
theorem zd_14_104_353 : zz_D zy_readLayer_14_104 353 (.iload 4) 2 355 := ⟨by decide +kernel, rfl⟩
theorem zd_14_104_355 : zz_D zy_readLayer_14_104 355 (.iload 5) 2 357 := ⟨by decide +kernel, rfl⟩
theorem zd_14_104_357 : zz_D zy_readLayer_14_104 357 (.invokevirtual 592) 3 360 := ⟨by decide +kernel, rfl⟩
theorem zk_Md_592 : mm_Vl "TensorForgeModel" 592 11 3 zy_addition_14_70 := ⟨zyw_addition_14_70, (R_Md, F_Md, 69), rfl, mm_tb_1 2251 (by decide +kernel) rfl, mm_tb_1 2106 (by decide +kernel) rfl, mm_tb_1 2107 (by decide +kernel) rfl⟩
theorem zd_14_104_360 : zz_D zy_readLayer_14_104 360 (.istore 8) 2 362 := ⟨by decide +kernel, rfl⟩
theorem zd_14_104_362 : zz_D zy_readLayer_14_104 362 (.aload_n 0) 1 363 := ⟨by decide +kernel, rfl⟩
theorem zd_14_104_363 : zz_D zy_readLayer_14_104 363 (.getfield 187) 3 366 := ⟨by decide +kernel, rfl⟩
theorem zd_14_104_366 : zz_B zy_readLayer_14_104 366 (Instr.ifCond .le) 371 369 := ⟨5, by decide +kernel, rfl, rfl⟩
theorem zd_14_104_371 : zz_D zy_readLayer_14_104 371 (.aload_n 0) 1 372 := ⟨by decide +kernel, rfl⟩
theorem zd_14_104_372 : zz_D zy_readLayer_14_104 372 (.getfield 133) 3 375 := ⟨by decide +kernel, rfl⟩
theorem zd_14_104_375 : zz_D zy_readLayer_14_104 375 (.iload 8) 2 377 := ⟨by decide +kernel, rfl⟩
theorem zd_14_104_377 : zz_D zy_readLayer_14_104 377 (.aload_n 0) 1 378 := ⟨by decide +kernel, rfl⟩
theorem zd_14_104_378 : zz_D zy_readLayer_14_104 378 (.getfield 564) 3 381 := ⟨by decide +kernel, rfl⟩
theorem zd_14_104_381 : zz_D zy_readLayer_14_104 381 (.lastore) 1 382 := ⟨by decide +kernel, rfl⟩
theorem zd_14_104_382 : zz_D zy_readLayer_14_104 382 (.iconst 1) 1 383 := ⟨by decide +kernel, rfl⟩
theorem zd_14_104_383 : zz_D zy_readLayer_14_104 383 (.ireturn) 1 384 := ⟨by decide +kernel, rfl⟩
theorem zd_14_104_369 : zz_D zy_readLayer_14_104 369 (.iconst 0) 1 370 := ⟨by decide +kernel, rfl⟩
theorem zd_14_104_370 : zz_D zy_readLayer_14_104 370 (.ireturn) 1 371 := ⟨by decide +kernel, rfl⟩
theorem zd_14_104_349 : zz_D zy_readLayer_14_104 349 (.iconst 0) 1 350 := ⟨by decide +kernel, rfl⟩
theorem zd_14_104_350 : zz_D zy_readLayer_14_104 350 (.ireturn) 1 351 := ⟨by decide +kernel, rfl⟩
theorem zd_14_104_163 : zz_D zy_readLayer_14_104 163 (.aload_n 0) 1 164 := ⟨by decide +kernel, rfl⟩
theorem zd_14_104_164 : zz_D zy_readLayer_14_104 164 (.getfield 136) 3 167 := ⟨by decide +kernel, rfl⟩
theorem zd_14_104_167 : zz_D zy_readLayer_14_104 167 (.iconst 1) 1 168 := ⟨by decide +kernel, rfl⟩
theorem zd_14_104_168 : zz_D zy_readLayer_14_104 168 (.iaload) 1 169 := ⟨by decide +kernel, rfl⟩
theorem zd_14_104_169 : zz_D zy_readLayer_14_104 169 (.i2l) 1 170 := ⟨by decide +kernel, rfl⟩
theorem zd_14_104_170 : zz_D zy_readLayer_14_104 170 (.lconst 1) 1 171 := ⟨by decide +kernel, rfl⟩
theorem zd_14_104_171 : zz_D zy_readLayer_14_104 171 (.ldc2_w 416) 3 174 := ⟨by decide +kernel, rfl⟩
theorem zd_14_104_174 : zz_D zy_readLayer_14_104 174 (.invokestatic 192) 3 177 := ⟨by decide +kernel, rfl⟩
theorem zd_14_104_177 : zz_B zy_readLayer_14_104 177 (Instr.ifCond .eq) 184 180 := ⟨7, by decide +kernel, rfl, rfl⟩
theorem zd_14_104_180 : zz_D zy_readLayer_14_104 180 (.iconst 1) 1 181 := ⟨by decide +kernel, rfl⟩
theorem zd_14_104_181 : zz_B zy_readLayer_14_104 181 Instr.goto 185 184 := ⟨4, by decide +kernel, rfl, rfl⟩
theorem zd_14_104_91 : zz_D zy_readLayer_14_104 91 (.sipush 137) 3 94 := ⟨by decide +kernel, rfl⟩
theorem zd_14_104_94 : zz_B zy_readLayer_14_104 94 Instr.goto 100 97 := ⟨6, by decide +kernel, rfl, rfl⟩
theorem zd_14_104_303 : zz_D zy_readLayer_14_104 303 (.aload_n 0) 1 304 := ⟨by decide +kernel, rfl⟩
theorem zd_14_104_304 : zz_D zy_readLayer_14_104 304 (.getfield 567) 3 307 := ⟨by decide +kernel, rfl⟩
theorem zd_14_104_307 : zz_D zy_readLayer_14_104 307 (.iconst 1) 1 308 := ⟨by decide +kernel, rfl⟩
theorem zd_14_104_308 : zz_D zy_readLayer_14_104 308 (.iand) 1 309 := ⟨by decide +kernel, rfl⟩
theorem zd_14_104_309 : zz_B zy_readLayer_14_104 309 (Instr.ifCond .eq) 317 312 := ⟨8, by decide +kernel, rfl, rfl⟩
theorem zd_14_104_317 : zz_D zy_readLayer_14_104 317 (.iconst 0) 1 318 := ⟨by decide +kernel, rfl⟩
theorem zd_14_104_318 : zz_D zy_readLayer_14_104 318 (.ireturn) 1 319 := ⟨by decide +kernel, rfl⟩
theorem zd_14_104_312 : zz_D zy_readLayer_14_104 312 (.iload 7) 2 314 := ⟨by decide +kernel, rfl⟩
theorem zd_14_104_314 : zz_B zy_readLayer_14_104 314 (Instr.ifCond .ne) 319 317 := ⟨5, by decide +kernel, rfl, rfl⟩
theorem zd_14_104_319 : zz_D zy_readLayer_14_104 319 (.aload_n 0) 1 320 := ⟨by decide +kernel, rfl⟩
theorem zd_14_104_320 : zz_D zy_readLayer_14_104 320 (.iload_n 3) 1 321 := ⟨by decide +kernel, rfl⟩
theorem zd_14_104_321 : zz_D zy_readLayer_14_104 321 (.iload 6) 2 323 := ⟨by decide +kernel, rfl⟩
theorem zd_14_104_323 : zz_D zy_readLayer_14_104 323 (.aload_n 0) 1 324 := ⟨by decide +kernel, rfl⟩
theorem zd_14_104_324 : zz_D zy_readLayer_14_104 324 (.getfield 136) 3 327 := ⟨by decide +kernel, rfl⟩
theorem zd_14_104_327 : zz_D zy_readLayer_14_104 327 (.iconst 4) 1 328 := ⟨by decide +kernel, rfl⟩
theorem zd_14_104_328 : zz_D zy_readLayer_14_104 328 (.iaload) 1 329 := ⟨by decide +kernel, rfl⟩
theorem zd_14_104_329 : zz_D zy_readLayer_14_104 329 (.invokevirtual 589) 3 332 := ⟨by decide +kernel, rfl⟩
theorem zk_Md_589 : mm_Vl "TensorForgeModel" 589 11 3 zy_pool_14_69 := ⟨zyw_pool_14_69, (R_Md, F_Md, 69), rfl, mm_tb_1 2250 (by decide +kernel) rfl, mm_tb_1 2102 (by decide +kernel) rfl, mm_tb_1 2103 (by decide +kernel) rfl⟩
theorem zd_14_104_332 : zz_D zy_readLayer_14_104 332 (.istore 8) 2 334 := ⟨by decide +kernel, rfl⟩
theorem zd_14_104_334 : zz_B zy_readLayer_14_104 334 Instr.goto 362 337 := ⟨28, by decide +kernel, rfl, rfl⟩
theorem zd_14_104_81 : zz_D zy_readLayer_14_104 81 (.sipush 255) 3 84 := ⟨by decide +kernel, rfl⟩
theorem zd_14_104_84 : zz_B zy_readLayer_14_104 84 Instr.goto 100 87 := ⟨16, by decide +kernel, rfl, rfl⟩
theorem zd_14_104_194 : zz_D zy_readLayer_14_104 194 (.aload_n 0) 1 195 := ⟨by decide +kernel, rfl⟩
theorem zd_14_104_195 : zz_D zy_readLayer_14_104 195 (.getfield 567) 3 198 := ⟨by decide +kernel, rfl⟩
theorem zd_14_104_198 : zz_D zy_readLayer_14_104 198 (.bipush 7) 2 200 := ⟨by decide +kernel, rfl⟩
theorem zd_14_104_200 : zz_D zy_readLayer_14_104 200 (.iand) 1 201 := ⟨by decide +kernel, rfl⟩
theorem zd_14_104_201 : zz_D zy_readLayer_14_104 201 (.bipush 7) 2 203 := ⟨by decide +kernel, rfl⟩
theorem zd_14_104_203 : zz_B zy_readLayer_14_104 203 (Instr.if_icmp .ne) 255 206 := ⟨52, by decide +kernel, rfl, rfl⟩
theorem zd_14_104_255 : zz_D zy_readLayer_14_104 255 (.iconst 0) 1 256 := ⟨by decide +kernel, rfl⟩
theorem zd_14_104_256 : zz_D zy_readLayer_14_104 256 (.ireturn) 1 257 := ⟨by decide +kernel, rfl⟩
theorem zd_14_104_206 : zz_D zy_readLayer_14_104 206 (.iload 7) 2 208 := ⟨by decide +kernel, rfl⟩
theorem zd_14_104_208 : zz_B zy_readLayer_14_104 208 (Instr.ifCond .eq) 255 211 := ⟨47, by decide +kernel, rfl, rfl⟩
theorem zd_14_104_211 : zz_D zy_readLayer_14_104 211 (.aload_n 0) 1 212 := ⟨by decide +kernel, rfl⟩
theorem zd_14_104_212 : zz_D zy_readLayer_14_104 212 (.getfield 136) 3 215 := ⟨by decide +kernel, rfl⟩
theorem zd_14_104_215 : zz_D zy_readLayer_14_104 215 (.iconst 4) 1 216 := ⟨by decide +kernel, rfl⟩
theorem zd_14_104_216 : zz_D zy_readLayer_14_104 216 (.iaload) 1 217 := ⟨by decide +kernel, rfl⟩
theorem zd_14_104_217 : zz_D zy_readLayer_14_104 217 (.i2l) 1 218 := ⟨by decide +kernel, rfl⟩
theorem zd_14_104_218 : zz_D zy_readLayer_14_104 218 (.lconst 1) 1 219 := ⟨by decide +kernel, rfl⟩
theorem zd_14_104_219 : zz_D zy_readLayer_14_104 219 (.ldc2_w 169) 3 222 := ⟨by decide +kernel, rfl⟩
theorem zd_14_104_222 : zz_D zy_readLayer_14_104 222 (.invokestatic 192) 3 225 := ⟨by decide +kernel, rfl⟩
theorem zd_14_104_225 : zz_B zy_readLayer_14_104 225 (Instr.ifCond .eq) 255 228 := ⟨30, by decide +kernel, rfl, rfl⟩
theorem zd_14_104_228 : zz_D zy_readLayer_14_104 228 (.aload_n 0) 1 229 := ⟨by decide +kernel, rfl⟩
theorem zd_14_104_229 : zz_D zy_readLayer_14_104 229 (.getfield 136) 3 232 := ⟨by decide +kernel, rfl⟩
theorem zd_14_104_232 : zz_D zy_readLayer_14_104 232 (.iconst 5) 1 233 := ⟨by decide +kernel, rfl⟩
theorem zd_14_104_233 : zz_D zy_readLayer_14_104 233 (.iaload) 1 234 := ⟨by decide +kernel, rfl⟩
theorem zd_14_104_234 : zz_D zy_readLayer_14_104 234 (.i2l) 1 235 := ⟨by decide +kernel, rfl⟩
theorem zd_14_104_235 : zz_D zy_readLayer_14_104 235 (.lconst 0) 1 236 := ⟨by decide +kernel, rfl⟩
theorem zd_14_104_236 : zz_D zy_readLayer_14_104 236 (.lconst 1) 1 237 := ⟨by decide +kernel, rfl⟩
theorem zd_14_104_237 : zz_D zy_readLayer_14_104 237 (.invokestatic 192) 3 240 := ⟨by decide +kernel, rfl⟩
theorem zd_14_104_240 : zz_B zy_readLayer_14_104 240 (Instr.ifCond .eq) 255 243 := ⟨15, by decide +kernel, rfl, rfl⟩
theorem zd_14_104_243 : zz_D zy_readLayer_14_104 243 (.aload_n 0) 1 244 := ⟨by decide +kernel, rfl⟩
theorem zd_14_104_244 : zz_D zy_readLayer_14_104 244 (.getfield 136) 3 247 := ⟨by decide +kernel, rfl⟩
theorem zd_14_104_247 : zz_D zy_readLayer_14_104 247 (.bipush 6) 2 249 := ⟨by decide +kernel, rfl⟩
theorem zd_14_104_249 : zz_D zy_readLayer_14_104 249 (.iaload) 1 250 := ⟨by decide +kernel, rfl⟩
theorem zd_14_104_250 : zz_D zy_readLayer_14_104 250 (.bipush 15) 2 252 := ⟨by decide +kernel, rfl⟩
theorem zd_14_104_252 : zz_B zy_readLayer_14_104 252 (Instr.if_icmp .le) 257 255 := ⟨5, by decide +kernel, rfl, rfl⟩
theorem zd_14_104_257 : zz_D zy_readLayer_14_104 257 (.aload_n 0) 1 258 := ⟨by decide +kernel, rfl⟩
theorem zd_14_104_258 : zz_D zy_readLayer_14_104 258 (.iload_n 3) 1 259 := ⟨by decide +kernel, rfl⟩
theorem zd_14_104_259 : zz_D zy_readLayer_14_104 259 (.iload 6) 2 261 := ⟨by decide +kernel, rfl⟩
theorem zd_14_104_261 : zz_D zy_readLayer_14_104 261 (.aload_n 0) 1 262 := ⟨by decide +kernel, rfl⟩
theorem zd_14_104_262 : zz_D zy_readLayer_14_104 262 (.getfield 136) 3 265 := ⟨by decide +kernel, rfl⟩
theorem zd_14_104_265 : zz_D zy_readLayer_14_104 265 (.iconst 2) 1 266 := ⟨by decide +kernel, rfl⟩
theorem zd_14_104_266 : zz_D zy_readLayer_14_104 266 (.iaload) 1 267 := ⟨by decide +kernel, rfl⟩
theorem zd_14_104_267 : zz_D zy_readLayer_14_104 267 (.bipush 10) 2 269 := ⟨by decide +kernel, rfl⟩
theorem zd_14_104_269 : zz_D zy_readLayer_14_104 269 (.aload_n 0) 1 270 := ⟨by decide +kernel, rfl⟩
theorem zd_14_104_270 : zz_D zy_readLayer_14_104 270 (.getfield 136) 3 273 := ⟨by decide +kernel, rfl⟩
theorem zd_14_104_273 : zz_D zy_readLayer_14_104 273 (.iconst 4) 1 274 := ⟨by decide +kernel, rfl⟩
theorem zd_14_104_274 : zz_D zy_readLayer_14_104 274 (.iaload) 1 275 := ⟨by decide +kernel, rfl⟩
theorem zd_14_104_275 : zz_D zy_readLayer_14_104 275 (.imul) 1 276 := ⟨by decide +kernel, rfl⟩
theorem zd_14_104_276 : zz_D zy_readLayer_14_104 276 (.aload_n 0) 1 277 := ⟨by decide +kernel, rfl⟩
theorem zd_14_104_277 : zz_D zy_readLayer_14_104 277 (.getfield 136) 3 280 := ⟨by decide +kernel, rfl⟩
theorem zd_14_104_280 : zz_D zy_readLayer_14_104 280 (.iconst 5) 1 281 := ⟨by decide +kernel, rfl⟩
theorem zd_14_104_281 : zz_D zy_readLayer_14_104 281 (.iaload) 1 282 := ⟨by decide +kernel, rfl⟩
theorem zd_14_104_282 : zz_D zy_readLayer_14_104 282 (.iadd) 1 283 := ⟨by decide +kernel, rfl⟩
theorem zd_14_104_283 : zz_D zy_readLayer_14_104 283 (.iload 5) 2 285 := ⟨by decide +kernel, rfl⟩
theorem zd_14_104_285 : zz_D zy_readLayer_14_104 285 (.aload_n 0) 1 286 := ⟨by decide +kernel, rfl⟩
theorem zd_14_104_286 : zz_D zy_readLayer_14_104 286 (.getfield 136) 3 289 := ⟨by decide +kernel, rfl⟩
theorem zd_14_104_289 : zz_D zy_readLayer_14_104 289 (.iconst 3) 1 290 := ⟨by decide +kernel, rfl⟩
theorem zd_14_104_290 : zz_D zy_readLayer_14_104 290 (.iaload) 1 291 := ⟨by decide +kernel, rfl⟩
theorem zd_14_104_291 : zz_D zy_readLayer_14_104 291 (.invokevirtual 585) 3 294 := ⟨by decide +kernel, rfl⟩
theorem zk_Md_585 : mm_Vl "TensorForgeModel" 585 11 6 zy_convolution_14_67 := ⟨zyw_convolution_14_67, (R_Md, F_Md, 69), rfl, mm_tb_1 2249 (by decide +kernel) rfl, mm_tb_1 2079 (by decide +kernel) rfl, mm_tb_1 2080 (by decide +kernel) rfl⟩
theorem zd_14_104_294 : zz_D zy_readLayer_14_104 294 (.istore 8) 2 296 := ⟨by decide +kernel, rfl⟩
theorem zd_14_104_296 : zz_B zy_readLayer_14_104 296 Instr.goto 362 299 := ⟨66, by decide +kernel, rfl, rfl⟩
-- TensorForgeModel readLayer ()Z
abbrev zr_readLayer_14_104 : Room := { frames := 6, cells := 0, slots := 0, locals := 89 }
def zp_readLayer_14_104  (S0 : zz_S) : Int → zz_S → Prop := fun r S => zz_G S ∧ zz_fr [(1079, 0), (1079, 30), (1079, 31), (1079, 32), (1079, 36), (1079, 61), (1079, 64), (1079, 65)] [1102, 1103, 1104, 1105, 1106, 1107, 1108, 1109, 1110, 1111, 1112, 1113, 1114, 1117, 1118] (fun _ _ => False) S0 S ∧ (0 ≤ r ∧ r ≤ 1) ∧ (S 1079 36 ≥ S0 1079 36) ∧ (zz_Hr S)
theorem zc_readLayer_14_104 {g : mm_G} {l : Launch}  (S0 : zz_S) (n : Nat) (hn : zz_end ≤ n) (G_S0 : zz_G S0) (R_S0 : zz_Hr S0) : mm_Met g l zy_readLayer_14_104 zr_readLayer_14_104 [.ref 1079] (zz_M S0 n) n (zz_QI n (zp_readLayer_14_104  S0)) := by
  refine zz_enter (by decide) (Nat.le_of_ble_eq_true rfl) (zz_less (ls1 := [some (.ref 1079)]) ⟨rfl, trivial⟩ ?_)
  have F_S0 : zz_fr [(1079, 0), (1079, 30), (1079, 31), (1079, 32), (1079, 36), (1079, 61), (1079, 64), (1079, 65)] [1102, 1103, 1104, 1105, 1106, 1107, 1108, 1109, 1110, 1111, 1112, 1113, 1114, 1117, 1118] (fun _ _ => False) S0 S0 := zz_fr.refl
  refine zz_aload_n (x := 1079) rfl zd_14_104_0 ?_
  refine zz_ldc2 (z := 735715) zq_Md_534 (by decide) zd_14_104_1 ?_
  refine zz_callVI [zl 735715] zd_14_104_4 zk_Md_529 zT_1079 (zz_ltn hn rfl) rfl rfl ⟨Nat.le_of_ble_eq_true rfl, Nat.le_of_ble_eq_true rfl⟩ ⟨rfl, rfl⟩ (Nat.zero_le _) (Nat.zero_le _) (zc_isWord_14_94 735715 S0 n hn G_S0 (by omega)) (fun v2 S1 hP => ?_)
  obtain ⟨rfl, o3⟩ := hP
  rcases (by omega : v2 = 0 ∨ v2 = 1) with rfl | rfl
  · refine zz_istore_n [some (.ref 1079), some (zi 0)] zd_14_104_7 (by decide) rfl ?_
    refine zz_aload_n (x := 1079) rfl zd_14_104_8 ?_
    refine zz_ldc2 (z := 409072) zq_Md_536 (by decide) zd_14_104_9 ?_
    refine zz_callVI [zl 409072] zd_14_104_12 zk_Md_529 zT_1079 (zz_ltn hn rfl) rfl rfl ⟨Nat.le_of_ble_eq_true rfl, Nat.le_of_ble_eq_true rfl⟩ ⟨rfl, rfl⟩ (Nat.zero_le _) (Nat.zero_le _) (zc_isWord_14_94 409072 S0 n hn G_S0 (by omega)) (fun v5 S4 hP => ?_)
    obtain ⟨rfl, o6⟩ := hP
    rcases (by omega : v5 = 0 ∨ v5 = 1) with rfl | rfl
    · refine zz_istore_n [some (.ref 1079), some (zi 0), some (zi 0)] zd_14_104_15 (by decide) rfl ?_
      refine zz_iload_n (x := 0) rfl zd_14_104_16 ?_
      refine zz_if_ne (by omega) zd_14_104_17 (fun c7 => ?_) (fun c7 => ?_)
      · exfalso; omega
      · refine zz_iload_n (x := 0) rfl zd_14_104_20 ?_
        refine zz_if_ne (by omega) zd_14_104_21 (fun c8 => ?_) (fun c8 => ?_)
        · exfalso; omega
        · refine zz_aload_n (x := 1079) rfl zd_14_104_24 ?_
          refine zz_ldc2 (z := 4225) zq_Md_538 (by decide) zd_14_104_25 ?_
          refine zz_callVI [zl 4225] zd_14_104_28 zk_Md_529 zT_1079 (zz_ltn hn rfl) rfl rfl ⟨Nat.le_of_ble_eq_true rfl, Nat.le_of_ble_eq_true rfl⟩ ⟨rfl, rfl⟩ (Nat.zero_le _) (Nat.zero_le _) (zc_isWord_14_94 4225 S0 n hn G_S0 (by omega)) (fun v10 S9 hP => ?_)
          obtain ⟨rfl, o11⟩ := hP
          rcases (by omega : v10 = 0 ∨ v10 = 1) with rfl | rfl
          · refine zz_if_ne (by omega) zd_14_104_31 (fun c12 => ?_) (fun c12 => ?_)
            · exfalso; omega
            · refine zz_iconst zd_14_104_34 ?_
              have g13 := zz_G.r G_S0 1079 36 0 11 rfl rfl
              exact zz_zret zd_14_104_35 rfl (by omega) (Nat.zero_le _) (Nat.zero_le _) ⟨_, _, rfl, G_S0, F_S0, by omega, by omega, R_S0⟩
          · refine zz_if_ne (by omega) zd_14_104_31 (fun c14 => ?_) (fun c14 => ?_)
            · refine zz_aload_n (x := 1079) rfl zd_14_104_36 ?_
              have g15 := zz_G.r G_S0 1079 32 0 1500 rfl rfl
              refine zz_callVV [] zd_14_104_37 zk_Md_526 zT_1079 (zz_ltn hn rfl) rfl rfl ⟨Nat.le_of_ble_eq_true rfl, Nat.le_of_ble_eq_true rfl⟩ ⟨rfl, rfl⟩ (Nat.zero_le _) (Nat.zero_le _) (zc_advanceNet_14_93  S0 n hn G_S0 ) (fun S16 hP => ?_)
              obtain ⟨G_S16, fS16, o18⟩ := hP
              have F_S16 := zz_fr.trans F_S0 fS16 rfl zz_nv
              have R_S16 : zz_Hr S16 := zz_Hr.fr fS16 rfl rfl (fun b j h => h.elim) R_S0
              refine zz_aload_n (x := 1079) rfl zd_14_104_40 ?_
              have g19 := zz_G.r G_S16 1079 30 0 102 rfl rfl
              have g20 := zz_G.r G_S16 1079 32 0 1500 rfl rfl
              refine zz_callVI [] zd_14_104_41 zk_Md_582 zT_1079 (zz_ltn hn rfl) rfl rfl ⟨Nat.le_of_ble_eq_true rfl, Nat.le_of_ble_eq_true rfl⟩ ⟨rfl, rfl⟩ (Nat.zero_le _) (Nat.zero_le _) (zc_takeTensor_14_102  S16 n hn G_S16 ) (fun v22 S21 hP => ?_)
              obtain ⟨G_S21, fS21, o23, o24⟩ := hP
              have F_S21 := zz_fr.trans F_S16 fS21 rfl zz_nv
              have R_S21 : zz_Hr S21 := zz_Hr.fr fS21 rfl rfl (fun b j h => h.elim) R_S16
              refine zz_istore_n [some (.ref 1079), some (zi 0), some (zi 0), some (zi v22)] zd_14_104_44 (by decide) rfl ?_
              refine zz_iload_n (x := 0) rfl zd_14_104_45 ?_
              refine zz_if_ne (by omega) zd_14_104_46 (fun c25 => ?_) (fun c25 => ?_)
              · exfalso; omega
              · refine zz_iload_n (x := 0) rfl zd_14_104_49 ?_
                refine zz_if_ne (by omega) zd_14_104_50 (fun c26 => ?_) (fun c26 => ?_)
                · exfalso; omega
                · refine zz_iload_n (x := v22) rfl zd_14_104_53 ?_
                  refine zz_if_lt (by omega) zd_14_104_54 (fun c27 => ?_) (fun c27 => ?_)
                  · refine zz_iconst zd_14_104_64 ?_
                    refine zz_istore [some (.ref 1079), some (zi 0), some (zi 0), some (zi v22), some (zi 0)] zd_14_104_65 (by decide) rfl ?_
                    refine zz_iload_n (x := v22) rfl zd_14_104_67 ?_
                    refine zz_if_lt (by omega) zd_14_104_68 (fun c28 => ?_) (fun c28 => ?_)
                    · refine zz_iconst zd_14_104_106 ?_
                      have g29 := zz_G.r G_S0 1079 36 0 11 rfl rfl
                      have e30 : S21 1079 36 = S0 1079 36 := (zz_rc fS21 rfl rfl (fun h => h) (zz_rc fS16 rfl rfl (fun h => h) rfl))
                      exact zz_zret zd_14_104_107 rfl (by omega) (Nat.zero_le _) (Nat.zero_le _) ⟨_, _, rfl, G_S21, F_S21, by omega, by omega, R_S21⟩
                    · exfalso; omega
                  · refine zz_aload_n (x := 1079) rfl zd_14_104_57 ?_
                    have g31 := zz_G.r G_S21 1079 30 0 102 rfl rfl
                    have g32 := zz_G.r G_S21 1079 32 0 1500 rfl rfl
                    refine zz_callVI [] zd_14_104_58 zk_Md_582 zT_1079 (zz_ltn hn rfl) rfl rfl ⟨Nat.le_of_ble_eq_true rfl, Nat.le_of_ble_eq_true rfl⟩ ⟨rfl, rfl⟩ (Nat.zero_le _) (Nat.zero_le _) (zc_takeTensor_14_102  S21 n hn G_S21 ) (fun v34 S33 hP => ?_)
                    obtain ⟨G_S33, fS33, o35, o36⟩ := hP
                    have F_S33 := zz_fr.trans F_S21 fS33 rfl zz_nv
                    have R_S33 : zz_Hr S33 := zz_Hr.fr fS33 rfl rfl (fun b j h => h.elim) R_S21
                    refine zz_goto zd_14_104_61 ?_
                    refine zz_istore [some (.ref 1079), some (zi 0), some (zi 0), some (zi v22), some (zi v34)] zd_14_104_65 (by decide) rfl ?_
                    refine zz_iload_n (x := v22) rfl zd_14_104_67 ?_
                    refine zz_if_lt (by omega) zd_14_104_68 (fun c37 => ?_) (fun c37 => ?_)
                    · exfalso; omega
                    · refine zz_iload (x := v34) rfl zd_14_104_71 ?_
                      refine zz_if_lt (by omega) zd_14_104_73 (fun c38 => ?_) (fun c38 => ?_)
                      · refine zz_iconst zd_14_104_106 ?_
                        have g39 := zz_G.r G_S0 1079 36 0 11 rfl rfl
                        have e40 : S33 1079 36 = S0 1079 36 := (zz_rc fS33 rfl rfl (fun h => h) (zz_rc fS21 rfl rfl (fun h => h) (zz_rc fS16 rfl rfl (fun h => h) rfl)))
                        exact zz_zret zd_14_104_107 rfl (by omega) (Nat.zero_le _) (Nat.zero_le _) ⟨_, _, rfl, G_S33, F_S33, by omega, by omega, R_S33⟩
                      · refine zz_aload_n (x := 1079) rfl zd_14_104_76 ?_
                        refine zz_iload_n (x := 0) rfl zd_14_104_77 ?_
                        refine zz_if_eq (by omega) zd_14_104_78 (fun c41 => ?_) (fun c41 => ?_)
                        · refine zz_iload_n (x := 0) rfl zd_14_104_87 ?_
                          refine zz_if_eq (by omega) zd_14_104_88 (fun c42 => ?_) (fun c42 => ?_)
                          · refine zz_sipush (by decide) zd_14_104_97 ?_
                            refine zz_callVI [zi 224] zd_14_104_100 zk_Md_576 zT_1079 (zz_ltn hn rfl) rfl rfl ⟨Nat.le_of_ble_eq_true rfl, Nat.le_of_ble_eq_true rfl⟩ ⟨rfl, rfl⟩ (Nat.zero_le _) (Nat.zero_le _) (zc_takeParts_14_101 224 S33 n hn G_S33 (by omega)) (fun v44 S43 hP => ?_)
                            obtain ⟨G_S43, fS43, o45⟩ := hP
                            have F_S43 := zz_fr.trans F_S33 fS43 rfl zz_nv
                            have R_S43 : zz_Hr S43 := zz_Hr.fr fS43 rfl rfl (fun b j h => h.elim) R_S33
                            rcases (by omega : v44 = 0 ∨ v44 = 1) with rfl | rfl
                            · refine zz_if_ne (by omega) zd_14_104_103 (fun c46 => ?_) (fun c46 => ?_)
                              · exfalso; omega
                              · refine zz_iconst zd_14_104_106 ?_
                                have g47 := zz_G.r G_S0 1079 36 0 11 rfl rfl
                                have e48 : S43 1079 36 = S0 1079 36 := (zz_rc fS43 rfl rfl (fun h => h) (zz_rc fS33 rfl rfl (fun h => h) (zz_rc fS21 rfl rfl (fun h => h) (zz_rc fS16 rfl rfl (fun h => h) rfl))))
                                exact zz_zret zd_14_104_107 rfl (by omega) (Nat.zero_le _) (Nat.zero_le _) ⟨_, _, rfl, G_S43, F_S43, by omega, by omega, R_S43⟩
                            · refine zz_if_ne (by omega) zd_14_104_103 (fun c49 => ?_) (fun c49 => ?_)
                              · refine zz_aload_n (x := 1079) rfl zd_14_104_108 ?_
                                refine zz_getr (kd := 0) (z := 1118) zd_14_104_109 zf_Md_136 zT_1079 rfl (zz_ltn hn rfl) (zz_G.eq G_S43 1079 63 1118 rfl rfl) (by decide) 1118 rfl ?_
                                refine zz_bipush (by decide) zd_14_104_112 ?_
                                have g50 := zz_G.r G_S43 1118 6 0 9999 rfl rfl
                                refine zz_iald (z := S43 1118 6) zd_14_104_114 zT_1118 rfl (zz_ltn hn rfl) (by decide) (by decide) rfl ?_
                                refine zz_bipush (by decide) zd_14_104_115 ?_
                                refine zz_aload_n (x := 1079) rfl zd_14_104_117 ?_
                                refine zz_getr (kd := 0) (z := 1118) zd_14_104_118 zf_Md_136 zT_1079 rfl (zz_ltn hn rfl) (zz_G.eq G_S43 1079 63 1118 rfl rfl) (by decide) 1118 rfl ?_
                                refine zz_bipush (by decide) zd_14_104_121 ?_
                                have g51 := zz_G.r G_S43 1118 7 0 9999 rfl rfl
                                refine zz_iald (z := S43 1118 7) zd_14_104_123 zT_1118 rfl (zz_ltn hn rfl) (by decide) (by decide) rfl ?_
                                refine zz_imul zd_14_104_124 ?_
                                refine zz_iadd zd_14_104_125 ?_
                                refine zz_istore [some (.ref 1079), some (zi 0), some (zi 0), some (zi v22), some (zi v34), some (zi ((S43 1118 6) + (16 * (S43 1118 7))))] zd_14_104_126 (by decide) rfl ?_
                                refine zz_bipush (by decide) zd_14_104_128 ?_
                                refine zz_aload_n (x := 1079) rfl zd_14_104_130 ?_
                                refine zz_getr (kd := 0) (z := 1118) zd_14_104_131 zf_Md_136 zT_1079 rfl (zz_ltn hn rfl) (zz_G.eq G_S43 1079 63 1118 rfl rfl) (by decide) 1118 rfl ?_
                                refine zz_iconst zd_14_104_134 ?_
                                have g52 := zz_G.r G_S43 1118 0 0 9999 rfl rfl
                                refine zz_iald (z := S43 1118 0) zd_14_104_135 zT_1118 rfl (zz_ltn hn rfl) (by decide) (by decide) rfl ?_
                                refine zz_imul zd_14_104_136 ?_
                                refine zz_aload_n (x := 1079) rfl zd_14_104_137 ?_
                                refine zz_getr (kd := 0) (z := 1118) zd_14_104_138 zf_Md_136 zT_1079 rfl (zz_ltn hn rfl) (zz_G.eq G_S43 1079 63 1118 rfl rfl) (by decide) 1118 rfl ?_
                                refine zz_iconst zd_14_104_141 ?_
                                have g53 := zz_G.r G_S43 1118 1 0 9999 rfl rfl
                                refine zz_iald (z := S43 1118 1) zd_14_104_142 zT_1118 rfl (zz_ltn hn rfl) (by decide) (by decide) rfl ?_
                                refine zz_iadd zd_14_104_143 ?_
                                refine zz_istore [some (.ref 1079), some (zi 0), some (zi 0), some (zi v22), some (zi v34), some (zi ((S43 1118 6) + (16 * (S43 1118 7)))), some (zi ((10 * (S43 1118 0)) + (S43 1118 1)))] zd_14_104_144 (by decide) rfl ?_
                                refine zz_aload_n (x := 1079) rfl zd_14_104_146 ?_
                                refine zz_getr (kd := 0) (z := 1118) zd_14_104_147 zf_Md_136 zT_1079 rfl (zz_ltn hn rfl) (zz_G.eq G_S43 1079 63 1118 rfl rfl) (by decide) 1118 rfl ?_
                                refine zz_iconst zd_14_104_150 ?_
                                refine zz_iald (z := S43 1118 0) zd_14_104_151 zT_1118 rfl (zz_ltn hn rfl) (by decide) (by decide) rfl ?_
                                refine zz_i2l (by omega) zd_14_104_152 ?_
                                refine zz_lconst (z := 1) (by decide) zd_14_104_153 ?_
                                refine zz_ldc2 (z := 3) zq_Md_416 (by decide) zd_14_104_154 ?_
                                refine zz_callSI [zl (S43 1118 0), zl 1, zl 3] zd_14_104_157 zk_Md_192 rfl rfl ⟨Nat.le_of_ble_eq_true rfl, Nat.le_of_ble_eq_true rfl⟩ ⟨rfl, rfl⟩ (Nat.zero_le _) (Nat.zero_le _) (zc_in_14_4 (S43 1118 0) 1 3 S43 n hn G_S43 (by omega) (by omega) (by omega)) (fun v55 S54 hP => ?_)
                                obtain ⟨rfl, o56, o57⟩ := hP
                                rcases (by omega : v55 = 0 ∨ v55 = 1) with rfl | rfl
                                · have n58 : S43 1118 0 < 1 ∨ 3 < S43 1118 0 := by omega
                                  clear o57
                                  refine zz_if_eq (by omega) zd_14_104_160 (fun c59 => ?_) (fun c59 => ?_)
                                  · refine zz_iconst zd_14_104_184 ?_
                                    refine zz_istore [some (.ref 1079), some (zi 0), some (zi 0), some (zi v22), some (zi v34), some (zi ((S43 1118 6) + (16 * (S43 1118 7)))), some (zi ((10 * (S43 1118 0)) + (S43 1118 1))), some (zi 0)] zd_14_104_185 (by decide) rfl ?_
                                    refine zz_iconst zd_14_104_187 ?_
                                    refine zz_istore [some (.ref 1079), some (zi 0), some (zi 0), some (zi v22), some (zi v34), some (zi ((S43 1118 6) + (16 * (S43 1118 7)))), some (zi ((10 * (S43 1118 0)) + (S43 1118 1))), some (zi 0), some (zi (-1))] zd_14_104_188 (by decide) rfl ?_
                                    refine zz_iload_n (x := 0) rfl zd_14_104_190 ?_
                                    refine zz_if_eq (by omega) zd_14_104_191 (fun c60 => ?_) (fun c60 => ?_)
                                    · refine zz_iload_n (x := 0) rfl zd_14_104_299 ?_
                                      refine zz_if_eq (by omega) zd_14_104_300 (fun c61 => ?_) (fun c61 => ?_)
                                      · refine zz_aload_n (x := 1079) rfl zd_14_104_337 ?_
                                        refine zz_getr (kd := 0) (z := 1118) zd_14_104_338 zf_Md_136 zT_1079 rfl (zz_ltn hn rfl) (zz_G.eq G_S43 1079 63 1118 rfl rfl) (by decide) 1118 rfl ?_
                                        refine zz_bipush (by decide) zd_14_104_341 ?_
                                        refine zz_iald (z := S43 1118 6) zd_14_104_343 zT_1118 rfl (zz_ltn hn rfl) (by decide) (by decide) rfl ?_
                                        refine zz_bipush (by decide) zd_14_104_344 ?_
                                        refine zz_icmp_le (by omega) (by omega) zd_14_104_346 (fun c62 => ?_) (fun c62 => ?_)
                                        · refine zz_aload_n (x := 1079) rfl zd_14_104_351 ?_
                                          refine zz_iload_n (x := v22) rfl zd_14_104_352 ?_
                                          refine zz_iload (x := v34) rfl zd_14_104_353 ?_
                                          refine zz_iload (x := (S43 1118 6) + (16 * (S43 1118 7))) rfl zd_14_104_355 ?_
                                          have g63 := zz_G.r G_S0 1079 36 0 11 rfl rfl
                                          have e64 : S43 1079 36 = S0 1079 36 := (zz_rc fS43 rfl rfl (fun h => h) (zz_rc fS33 rfl rfl (fun h => h) (zz_rc fS21 rfl rfl (fun h => h) (zz_rc fS16 rfl rfl (fun h => h) rfl))))
                                          refine zz_callVI [zi v22, zi v34, zi ((S43 1118 6) + (16 * (S43 1118 7)))] zd_14_104_357 zk_Md_592 zT_1079 (zz_ltn hn rfl) rfl rfl ⟨Nat.le_of_ble_eq_true rfl, Nat.le_of_ble_eq_true rfl⟩ ⟨rfl, rfl⟩ (Nat.zero_le _) (Nat.zero_le _) (zc_addition_14_70 v22 v34 ((S43 1118 6) + (16 * (S43 1118 7))) S43 n hn G_S43 (by omega) (by omega) (by omega) R_S43) (fun v66 S65 hP => ?_)
                                          obtain ⟨G_S65, fS65, o67, o68, o69⟩ := hP
                                          have F_S65 := zz_fr.trans F_S43 fS65 rfl (fun a i h => by rcases h with h | h | h | h | h | h | h | h | h | h | h | h; exact Or.inr (Or.inl (by rw [h.1]; rfl)); exact Or.inr (Or.inl (by rw [h.1]; rfl)); exact Or.inr (Or.inl (by rw [h.1]; rfl)); exact Or.inr (Or.inl (by rw [h.1]; rfl)); exact Or.inr (Or.inl (by rw [h.1]; rfl)); exact Or.inr (Or.inl (by rw [h.1]; rfl)); exact Or.inr (Or.inl (by rw [h.1]; rfl)); exact Or.inr (Or.inl (by rw [h.1]; rfl)); exact Or.inr (Or.inl (by rw [h.1]; rfl)); exact Or.inr (Or.inl (by rw [h.1]; rfl)); exact Or.inr (Or.inl (by rw [h.1]; rfl)); exact Or.inr (Or.inl (by rw [h.1]; rfl)))
                                          have R_S65 : zz_Hr S65 := o69
                                          refine zz_istore [some (.ref 1079), some (zi 0), some (zi 0), some (zi v22), some (zi v34), some (zi ((S43 1118 6) + (16 * (S43 1118 7)))), some (zi ((10 * (S43 1118 0)) + (S43 1118 1))), some (zi 0), some (zi v66)] zd_14_104_360 (by decide) rfl ?_
                                          refine zz_aload_n (x := 1079) rfl zd_14_104_362 ?_
                                          have g70 := zz_G.r G_S65 1079 0 0 3 rfl rfl
                                          refine zz_geti (z := S65 1079 0) zd_14_104_363 zf_Md_187 zT_1079 rfl (zz_ltn hn rfl) rfl ?_
                                          refine zz_if_le (by omega) zd_14_104_366 (fun c71 => ?_) (fun c71 => ?_)
                                          · refine zz_aload_n (x := 1079) rfl zd_14_104_371 ?_
                                            refine zz_getr (kd := 0) (z := 1117) zd_14_104_372 zf_Md_133 zT_1079 rfl (zz_ltn hn rfl) (zz_G.eq G_S65 1079 62 1117 rfl rfl) (by decide) 1117 rfl ?_
                                            refine zz_iload (x := v66) rfl zd_14_104_375 ?_
                                            refine zz_aload_n (x := 1079) rfl zd_14_104_377 ?_
                                            have g72 := zz_G.r G_S43 1079 64 (-9223372036854775808) 9223372036854775807 rfl rfl
                                            refine zz_getl (z := S43 1079 64) zd_14_104_378 zf_Md_564 zT_1079 rfl (zz_ltn hn rfl) (zz_rc fS65 rfl rfl (by omega) rfl) ?_
                                            refine zz_last zd_14_104_381 zT_1117 rfl (zz_ltn hn rfl) (by decide) (by omega) (fun S73 qS73 => ?_)
                                            have G_S73 := zz_G.put G_S65 qS73 (-9223372036854775808) 9223372036854775807 rfl (by omega)
                                            have F_S73 := zz_fr.putc F_S65 qS73 rfl
                                            have R_S73 : zz_Hr S73 := zz_Hr.fr (zz_fr.put1 qS73) rfl rfl (fun b j h => by omega) R_S65
                                            refine zz_iconst zd_14_104_382 ?_
                                            have g74 := zz_G.r G_S65 1079 36 0 11 rfl rfl
                                            have e75 : S73 1079 36 = S65 1079 36 := (zz_ro qS73 (fun h => absurd h.1 (by decide)) rfl)
                                            exact zz_zret zd_14_104_383 rfl (by omega) (Nat.zero_le _) (Nat.zero_le _) ⟨_, _, rfl, G_S73, F_S73, by omega, by omega, R_S73⟩
                                          · refine zz_iconst zd_14_104_369 ?_
                                            have g76 := zz_G.r G_S65 1079 36 0 11 rfl rfl
                                            exact zz_zret zd_14_104_370 rfl (by omega) (Nat.zero_le _) (Nat.zero_le _) ⟨_, _, rfl, G_S65, F_S65, by omega, by omega, R_S65⟩
                                        · refine zz_iconst zd_14_104_349 ?_
                                          have g77 := zz_G.r G_S0 1079 36 0 11 rfl rfl
                                          have e78 : S43 1079 36 = S0 1079 36 := (zz_rc fS43 rfl rfl (fun h => h) (zz_rc fS33 rfl rfl (fun h => h) (zz_rc fS21 rfl rfl (fun h => h) (zz_rc fS16 rfl rfl (fun h => h) rfl))))
                                          exact zz_zret zd_14_104_350 rfl (by omega) (Nat.zero_le _) (Nat.zero_le _) ⟨_, _, rfl, G_S43, F_S43, by omega, by omega, R_S43⟩
                                      · exfalso; omega
                                    · exfalso; omega
                                  · exfalso; omega
                                · have n79 : 1 ≤ S43 1118 0 ∧ S43 1118 0 ≤ 3 := by omega
                                  clear o57
                                  refine zz_if_eq (by omega) zd_14_104_160 (fun c80 => ?_) (fun c80 => ?_)
                                  · exfalso; omega
                                  · refine zz_aload_n (x := 1079) rfl zd_14_104_163 ?_
                                    refine zz_getr (kd := 0) (z := 1118) zd_14_104_164 zf_Md_136 zT_1079 rfl (zz_ltn hn rfl) (zz_G.eq G_S43 1079 63 1118 rfl rfl) (by decide) 1118 rfl ?_
                                    refine zz_iconst zd_14_104_167 ?_
                                    refine zz_iald (z := S43 1118 1) zd_14_104_168 zT_1118 rfl (zz_ltn hn rfl) (by decide) (by decide) rfl ?_
                                    refine zz_i2l (by omega) zd_14_104_169 ?_
                                    refine zz_lconst (z := 1) (by decide) zd_14_104_170 ?_
                                    refine zz_ldc2 (z := 3) zq_Md_416 (by decide) zd_14_104_171 ?_
                                    refine zz_callSI [zl (S43 1118 1), zl 1, zl 3] zd_14_104_174 zk_Md_192 rfl rfl ⟨Nat.le_of_ble_eq_true rfl, Nat.le_of_ble_eq_true rfl⟩ ⟨rfl, rfl⟩ (Nat.zero_le _) (Nat.zero_le _) (zc_in_14_4 (S43 1118 1) 1 3 S43 n hn G_S43 (by omega) (by omega) (by omega)) (fun v82 S81 hP => ?_)
                                    obtain ⟨rfl, o83, o84⟩ := hP
                                    rcases (by omega : v82 = 0 ∨ v82 = 1) with rfl | rfl
                                    · have n85 : S43 1118 1 < 1 ∨ 3 < S43 1118 1 := by omega
                                      clear o84
                                      refine zz_if_eq (by omega) zd_14_104_177 (fun c86 => ?_) (fun c86 => ?_)
                                      · refine zz_iconst zd_14_104_184 ?_
                                        refine zz_istore [some (.ref 1079), some (zi 0), some (zi 0), some (zi v22), some (zi v34), some (zi ((S43 1118 6) + (16 * (S43 1118 7)))), some (zi ((10 * (S43 1118 0)) + (S43 1118 1))), some (zi 0)] zd_14_104_185 (by decide) rfl ?_
                                        refine zz_iconst zd_14_104_187 ?_
                                        refine zz_istore [some (.ref 1079), some (zi 0), some (zi 0), some (zi v22), some (zi v34), some (zi ((S43 1118 6) + (16 * (S43 1118 7)))), some (zi ((10 * (S43 1118 0)) + (S43 1118 1))), some (zi 0), some (zi (-1))] zd_14_104_188 (by decide) rfl ?_
                                        refine zz_iload_n (x := 0) rfl zd_14_104_190 ?_
                                        refine zz_if_eq (by omega) zd_14_104_191 (fun c87 => ?_) (fun c87 => ?_)
                                        · refine zz_iload_n (x := 0) rfl zd_14_104_299 ?_
                                          refine zz_if_eq (by omega) zd_14_104_300 (fun c88 => ?_) (fun c88 => ?_)
                                          · refine zz_aload_n (x := 1079) rfl zd_14_104_337 ?_
                                            refine zz_getr (kd := 0) (z := 1118) zd_14_104_338 zf_Md_136 zT_1079 rfl (zz_ltn hn rfl) (zz_G.eq G_S43 1079 63 1118 rfl rfl) (by decide) 1118 rfl ?_
                                            refine zz_bipush (by decide) zd_14_104_341 ?_
                                            refine zz_iald (z := S43 1118 6) zd_14_104_343 zT_1118 rfl (zz_ltn hn rfl) (by decide) (by decide) rfl ?_
                                            refine zz_bipush (by decide) zd_14_104_344 ?_
                                            refine zz_icmp_le (by omega) (by omega) zd_14_104_346 (fun c89 => ?_) (fun c89 => ?_)
                                            · refine zz_aload_n (x := 1079) rfl zd_14_104_351 ?_
                                              refine zz_iload_n (x := v22) rfl zd_14_104_352 ?_
                                              refine zz_iload (x := v34) rfl zd_14_104_353 ?_
                                              refine zz_iload (x := (S43 1118 6) + (16 * (S43 1118 7))) rfl zd_14_104_355 ?_
                                              have g90 := zz_G.r G_S0 1079 36 0 11 rfl rfl
                                              have e91 : S43 1079 36 = S0 1079 36 := (zz_rc fS43 rfl rfl (fun h => h) (zz_rc fS33 rfl rfl (fun h => h) (zz_rc fS21 rfl rfl (fun h => h) (zz_rc fS16 rfl rfl (fun h => h) rfl))))
                                              refine zz_callVI [zi v22, zi v34, zi ((S43 1118 6) + (16 * (S43 1118 7)))] zd_14_104_357 zk_Md_592 zT_1079 (zz_ltn hn rfl) rfl rfl ⟨Nat.le_of_ble_eq_true rfl, Nat.le_of_ble_eq_true rfl⟩ ⟨rfl, rfl⟩ (Nat.zero_le _) (Nat.zero_le _) (zc_addition_14_70 v22 v34 ((S43 1118 6) + (16 * (S43 1118 7))) S43 n hn G_S43 (by omega) (by omega) (by omega) R_S43) (fun v93 S92 hP => ?_)
                                              obtain ⟨G_S92, fS92, o94, o95, o96⟩ := hP
                                              have F_S92 := zz_fr.trans F_S43 fS92 rfl (fun a i h => by rcases h with h | h | h | h | h | h | h | h | h | h | h | h; exact Or.inr (Or.inl (by rw [h.1]; rfl)); exact Or.inr (Or.inl (by rw [h.1]; rfl)); exact Or.inr (Or.inl (by rw [h.1]; rfl)); exact Or.inr (Or.inl (by rw [h.1]; rfl)); exact Or.inr (Or.inl (by rw [h.1]; rfl)); exact Or.inr (Or.inl (by rw [h.1]; rfl)); exact Or.inr (Or.inl (by rw [h.1]; rfl)); exact Or.inr (Or.inl (by rw [h.1]; rfl)); exact Or.inr (Or.inl (by rw [h.1]; rfl)); exact Or.inr (Or.inl (by rw [h.1]; rfl)); exact Or.inr (Or.inl (by rw [h.1]; rfl)); exact Or.inr (Or.inl (by rw [h.1]; rfl)))
                                              have R_S92 : zz_Hr S92 := o96
                                              refine zz_istore [some (.ref 1079), some (zi 0), some (zi 0), some (zi v22), some (zi v34), some (zi ((S43 1118 6) + (16 * (S43 1118 7)))), some (zi ((10 * (S43 1118 0)) + (S43 1118 1))), some (zi 0), some (zi v93)] zd_14_104_360 (by decide) rfl ?_
                                              refine zz_aload_n (x := 1079) rfl zd_14_104_362 ?_
                                              have g97 := zz_G.r G_S92 1079 0 0 3 rfl rfl
                                              refine zz_geti (z := S92 1079 0) zd_14_104_363 zf_Md_187 zT_1079 rfl (zz_ltn hn rfl) rfl ?_
                                              refine zz_if_le (by omega) zd_14_104_366 (fun c98 => ?_) (fun c98 => ?_)
                                              · refine zz_aload_n (x := 1079) rfl zd_14_104_371 ?_
                                                refine zz_getr (kd := 0) (z := 1117) zd_14_104_372 zf_Md_133 zT_1079 rfl (zz_ltn hn rfl) (zz_G.eq G_S92 1079 62 1117 rfl rfl) (by decide) 1117 rfl ?_
                                                refine zz_iload (x := v93) rfl zd_14_104_375 ?_
                                                refine zz_aload_n (x := 1079) rfl zd_14_104_377 ?_
                                                have g99 := zz_G.r G_S43 1079 64 (-9223372036854775808) 9223372036854775807 rfl rfl
                                                refine zz_getl (z := S43 1079 64) zd_14_104_378 zf_Md_564 zT_1079 rfl (zz_ltn hn rfl) (zz_rc fS92 rfl rfl (by omega) rfl) ?_
                                                refine zz_last zd_14_104_381 zT_1117 rfl (zz_ltn hn rfl) (by decide) (by omega) (fun S100 qS100 => ?_)
                                                have G_S100 := zz_G.put G_S92 qS100 (-9223372036854775808) 9223372036854775807 rfl (by omega)
                                                have F_S100 := zz_fr.putc F_S92 qS100 rfl
                                                have R_S100 : zz_Hr S100 := zz_Hr.fr (zz_fr.put1 qS100) rfl rfl (fun b j h => by omega) R_S92
                                                refine zz_iconst zd_14_104_382 ?_
                                                have g101 := zz_G.r G_S92 1079 36 0 11 rfl rfl
                                                have e102 : S100 1079 36 = S92 1079 36 := (zz_ro qS100 (fun h => absurd h.1 (by decide)) rfl)
                                                exact zz_zret zd_14_104_383 rfl (by omega) (Nat.zero_le _) (Nat.zero_le _) ⟨_, _, rfl, G_S100, F_S100, by omega, by omega, R_S100⟩
                                              · refine zz_iconst zd_14_104_369 ?_
                                                have g103 := zz_G.r G_S92 1079 36 0 11 rfl rfl
                                                exact zz_zret zd_14_104_370 rfl (by omega) (Nat.zero_le _) (Nat.zero_le _) ⟨_, _, rfl, G_S92, F_S92, by omega, by omega, R_S92⟩
                                            · refine zz_iconst zd_14_104_349 ?_
                                              have g104 := zz_G.r G_S0 1079 36 0 11 rfl rfl
                                              have e105 : S43 1079 36 = S0 1079 36 := (zz_rc fS43 rfl rfl (fun h => h) (zz_rc fS33 rfl rfl (fun h => h) (zz_rc fS21 rfl rfl (fun h => h) (zz_rc fS16 rfl rfl (fun h => h) rfl))))
                                              exact zz_zret zd_14_104_350 rfl (by omega) (Nat.zero_le _) (Nat.zero_le _) ⟨_, _, rfl, G_S43, F_S43, by omega, by omega, R_S43⟩
                                          · exfalso; omega
                                        · exfalso; omega
                                      · exfalso; omega
                                    · have n106 : 1 ≤ S43 1118 1 ∧ S43 1118 1 ≤ 3 := by omega
                                      clear o84
                                      refine zz_if_eq (by omega) zd_14_104_177 (fun c107 => ?_) (fun c107 => ?_)
                                      · exfalso; omega
                                      · refine zz_iconst zd_14_104_180 ?_
                                        refine zz_goto zd_14_104_181 ?_
                                        refine zz_istore [some (.ref 1079), some (zi 0), some (zi 0), some (zi v22), some (zi v34), some (zi ((S43 1118 6) + (16 * (S43 1118 7)))), some (zi ((10 * (S43 1118 0)) + (S43 1118 1))), some (zi 1)] zd_14_104_185 (by decide) rfl ?_
                                        refine zz_iconst zd_14_104_187 ?_
                                        refine zz_istore [some (.ref 1079), some (zi 0), some (zi 0), some (zi v22), some (zi v34), some (zi ((S43 1118 6) + (16 * (S43 1118 7)))), some (zi ((10 * (S43 1118 0)) + (S43 1118 1))), some (zi 1), some (zi (-1))] zd_14_104_188 (by decide) rfl ?_
                                        refine zz_iload_n (x := 0) rfl zd_14_104_190 ?_
                                        refine zz_if_eq (by omega) zd_14_104_191 (fun c108 => ?_) (fun c108 => ?_)
                                        · refine zz_iload_n (x := 0) rfl zd_14_104_299 ?_
                                          refine zz_if_eq (by omega) zd_14_104_300 (fun c109 => ?_) (fun c109 => ?_)
                                          · refine zz_aload_n (x := 1079) rfl zd_14_104_337 ?_
                                            refine zz_getr (kd := 0) (z := 1118) zd_14_104_338 zf_Md_136 zT_1079 rfl (zz_ltn hn rfl) (zz_G.eq G_S43 1079 63 1118 rfl rfl) (by decide) 1118 rfl ?_
                                            refine zz_bipush (by decide) zd_14_104_341 ?_
                                            refine zz_iald (z := S43 1118 6) zd_14_104_343 zT_1118 rfl (zz_ltn hn rfl) (by decide) (by decide) rfl ?_
                                            refine zz_bipush (by decide) zd_14_104_344 ?_
                                            refine zz_icmp_le (by omega) (by omega) zd_14_104_346 (fun c110 => ?_) (fun c110 => ?_)
                                            · refine zz_aload_n (x := 1079) rfl zd_14_104_351 ?_
                                              refine zz_iload_n (x := v22) rfl zd_14_104_352 ?_
                                              refine zz_iload (x := v34) rfl zd_14_104_353 ?_
                                              refine zz_iload (x := (S43 1118 6) + (16 * (S43 1118 7))) rfl zd_14_104_355 ?_
                                              have g111 := zz_G.r G_S0 1079 36 0 11 rfl rfl
                                              have e112 : S43 1079 36 = S0 1079 36 := (zz_rc fS43 rfl rfl (fun h => h) (zz_rc fS33 rfl rfl (fun h => h) (zz_rc fS21 rfl rfl (fun h => h) (zz_rc fS16 rfl rfl (fun h => h) rfl))))
                                              refine zz_callVI [zi v22, zi v34, zi ((S43 1118 6) + (16 * (S43 1118 7)))] zd_14_104_357 zk_Md_592 zT_1079 (zz_ltn hn rfl) rfl rfl ⟨Nat.le_of_ble_eq_true rfl, Nat.le_of_ble_eq_true rfl⟩ ⟨rfl, rfl⟩ (Nat.zero_le _) (Nat.zero_le _) (zc_addition_14_70 v22 v34 ((S43 1118 6) + (16 * (S43 1118 7))) S43 n hn G_S43 (by omega) (by omega) (by omega) R_S43) (fun v114 S113 hP => ?_)
                                              obtain ⟨G_S113, fS113, o115, o116, o117⟩ := hP
                                              have F_S113 := zz_fr.trans F_S43 fS113 rfl (fun a i h => by rcases h with h | h | h | h | h | h | h | h | h | h | h | h; exact Or.inr (Or.inl (by rw [h.1]; rfl)); exact Or.inr (Or.inl (by rw [h.1]; rfl)); exact Or.inr (Or.inl (by rw [h.1]; rfl)); exact Or.inr (Or.inl (by rw [h.1]; rfl)); exact Or.inr (Or.inl (by rw [h.1]; rfl)); exact Or.inr (Or.inl (by rw [h.1]; rfl)); exact Or.inr (Or.inl (by rw [h.1]; rfl)); exact Or.inr (Or.inl (by rw [h.1]; rfl)); exact Or.inr (Or.inl (by rw [h.1]; rfl)); exact Or.inr (Or.inl (by rw [h.1]; rfl)); exact Or.inr (Or.inl (by rw [h.1]; rfl)); exact Or.inr (Or.inl (by rw [h.1]; rfl)))
                                              have R_S113 : zz_Hr S113 := o117
                                              refine zz_istore [some (.ref 1079), some (zi 0), some (zi 0), some (zi v22), some (zi v34), some (zi ((S43 1118 6) + (16 * (S43 1118 7)))), some (zi ((10 * (S43 1118 0)) + (S43 1118 1))), some (zi 1), some (zi v114)] zd_14_104_360 (by decide) rfl ?_
                                              refine zz_aload_n (x := 1079) rfl zd_14_104_362 ?_
                                              have g118 := zz_G.r G_S113 1079 0 0 3 rfl rfl
                                              refine zz_geti (z := S113 1079 0) zd_14_104_363 zf_Md_187 zT_1079 rfl (zz_ltn hn rfl) rfl ?_
                                              refine zz_if_le (by omega) zd_14_104_366 (fun c119 => ?_) (fun c119 => ?_)
                                              · refine zz_aload_n (x := 1079) rfl zd_14_104_371 ?_
                                                refine zz_getr (kd := 0) (z := 1117) zd_14_104_372 zf_Md_133 zT_1079 rfl (zz_ltn hn rfl) (zz_G.eq G_S113 1079 62 1117 rfl rfl) (by decide) 1117 rfl ?_
                                                refine zz_iload (x := v114) rfl zd_14_104_375 ?_
                                                refine zz_aload_n (x := 1079) rfl zd_14_104_377 ?_
                                                have g120 := zz_G.r G_S43 1079 64 (-9223372036854775808) 9223372036854775807 rfl rfl
                                                refine zz_getl (z := S43 1079 64) zd_14_104_378 zf_Md_564 zT_1079 rfl (zz_ltn hn rfl) (zz_rc fS113 rfl rfl (by omega) rfl) ?_
                                                refine zz_last zd_14_104_381 zT_1117 rfl (zz_ltn hn rfl) (by decide) (by omega) (fun S121 qS121 => ?_)
                                                have G_S121 := zz_G.put G_S113 qS121 (-9223372036854775808) 9223372036854775807 rfl (by omega)
                                                have F_S121 := zz_fr.putc F_S113 qS121 rfl
                                                have R_S121 : zz_Hr S121 := zz_Hr.fr (zz_fr.put1 qS121) rfl rfl (fun b j h => by omega) R_S113
                                                refine zz_iconst zd_14_104_382 ?_
                                                have g122 := zz_G.r G_S113 1079 36 0 11 rfl rfl
                                                have e123 : S121 1079 36 = S113 1079 36 := (zz_ro qS121 (fun h => absurd h.1 (by decide)) rfl)
                                                exact zz_zret zd_14_104_383 rfl (by omega) (Nat.zero_le _) (Nat.zero_le _) ⟨_, _, rfl, G_S121, F_S121, by omega, by omega, R_S121⟩
                                              · refine zz_iconst zd_14_104_369 ?_
                                                have g124 := zz_G.r G_S113 1079 36 0 11 rfl rfl
                                                exact zz_zret zd_14_104_370 rfl (by omega) (Nat.zero_le _) (Nat.zero_le _) ⟨_, _, rfl, G_S113, F_S113, by omega, by omega, R_S113⟩
                                            · refine zz_iconst zd_14_104_349 ?_
                                              have g125 := zz_G.r G_S0 1079 36 0 11 rfl rfl
                                              have e126 : S43 1079 36 = S0 1079 36 := (zz_rc fS43 rfl rfl (fun h => h) (zz_rc fS33 rfl rfl (fun h => h) (zz_rc fS21 rfl rfl (fun h => h) (zz_rc fS16 rfl rfl (fun h => h) rfl))))
                                              exact zz_zret zd_14_104_350 rfl (by omega) (Nat.zero_le _) (Nat.zero_le _) ⟨_, _, rfl, G_S43, F_S43, by omega, by omega, R_S43⟩
                                          · exfalso; omega
                                        · exfalso; omega
                              · exfalso; omega
                          · exfalso; omega
                        · exfalso; omega
            · exfalso; omega
    · refine zz_istore_n [some (.ref 1079), some (zi 0), some (zi 1)] zd_14_104_15 (by decide) rfl ?_
      refine zz_iload_n (x := 0) rfl zd_14_104_16 ?_
      refine zz_if_ne (by omega) zd_14_104_17 (fun c127 => ?_) (fun c127 => ?_)
      · exfalso; omega
      · refine zz_iload_n (x := 1) rfl zd_14_104_20 ?_
        refine zz_if_ne (by omega) zd_14_104_21 (fun c128 => ?_) (fun c128 => ?_)
        · refine zz_aload_n (x := 1079) rfl zd_14_104_36 ?_
          have g129 := zz_G.r G_S0 1079 32 0 1500 rfl rfl
          refine zz_callVV [] zd_14_104_37 zk_Md_526 zT_1079 (zz_ltn hn rfl) rfl rfl ⟨Nat.le_of_ble_eq_true rfl, Nat.le_of_ble_eq_true rfl⟩ ⟨rfl, rfl⟩ (Nat.zero_le _) (Nat.zero_le _) (zc_advanceNet_14_93  S0 n hn G_S0 ) (fun S130 hP => ?_)
          obtain ⟨G_S130, fS130, o132⟩ := hP
          have F_S130 := zz_fr.trans F_S0 fS130 rfl zz_nv
          have R_S130 : zz_Hr S130 := zz_Hr.fr fS130 rfl rfl (fun b j h => h.elim) R_S0
          refine zz_aload_n (x := 1079) rfl zd_14_104_40 ?_
          have g133 := zz_G.r G_S130 1079 30 0 102 rfl rfl
          have g134 := zz_G.r G_S130 1079 32 0 1500 rfl rfl
          refine zz_callVI [] zd_14_104_41 zk_Md_582 zT_1079 (zz_ltn hn rfl) rfl rfl ⟨Nat.le_of_ble_eq_true rfl, Nat.le_of_ble_eq_true rfl⟩ ⟨rfl, rfl⟩ (Nat.zero_le _) (Nat.zero_le _) (zc_takeTensor_14_102  S130 n hn G_S130 ) (fun v136 S135 hP => ?_)
          obtain ⟨G_S135, fS135, o137, o138⟩ := hP
          have F_S135 := zz_fr.trans F_S130 fS135 rfl zz_nv
          have R_S135 : zz_Hr S135 := zz_Hr.fr fS135 rfl rfl (fun b j h => h.elim) R_S130
          refine zz_istore_n [some (.ref 1079), some (zi 0), some (zi 1), some (zi v136)] zd_14_104_44 (by decide) rfl ?_
          refine zz_iload_n (x := 0) rfl zd_14_104_45 ?_
          refine zz_if_ne (by omega) zd_14_104_46 (fun c139 => ?_) (fun c139 => ?_)
          · exfalso; omega
          · refine zz_iload_n (x := 1) rfl zd_14_104_49 ?_
            refine zz_if_ne (by omega) zd_14_104_50 (fun c140 => ?_) (fun c140 => ?_)
            · refine zz_iconst zd_14_104_64 ?_
              refine zz_istore [some (.ref 1079), some (zi 0), some (zi 1), some (zi v136), some (zi 0)] zd_14_104_65 (by decide) rfl ?_
              refine zz_iload_n (x := v136) rfl zd_14_104_67 ?_
              refine zz_if_lt (by omega) zd_14_104_68 (fun c141 => ?_) (fun c141 => ?_)
              · refine zz_iconst zd_14_104_106 ?_
                have g142 := zz_G.r G_S0 1079 36 0 11 rfl rfl
                have e143 : S135 1079 36 = S0 1079 36 := (zz_rc fS135 rfl rfl (fun h => h) (zz_rc fS130 rfl rfl (fun h => h) rfl))
                exact zz_zret zd_14_104_107 rfl (by omega) (Nat.zero_le _) (Nat.zero_le _) ⟨_, _, rfl, G_S135, F_S135, by omega, by omega, R_S135⟩
              · refine zz_iload (x := 0) rfl zd_14_104_71 ?_
                refine zz_if_lt (by omega) zd_14_104_73 (fun c144 => ?_) (fun c144 => ?_)
                · exfalso; omega
                · refine zz_aload_n (x := 1079) rfl zd_14_104_76 ?_
                  refine zz_iload_n (x := 0) rfl zd_14_104_77 ?_
                  refine zz_if_eq (by omega) zd_14_104_78 (fun c145 => ?_) (fun c145 => ?_)
                  · refine zz_iload_n (x := 1) rfl zd_14_104_87 ?_
                    refine zz_if_eq (by omega) zd_14_104_88 (fun c146 => ?_) (fun c146 => ?_)
                    · exfalso; omega
                    · refine zz_sipush (by decide) zd_14_104_91 ?_
                      refine zz_goto zd_14_104_94 ?_
                      refine zz_callVI [zi 137] zd_14_104_100 zk_Md_576 zT_1079 (zz_ltn hn rfl) rfl rfl ⟨Nat.le_of_ble_eq_true rfl, Nat.le_of_ble_eq_true rfl⟩ ⟨rfl, rfl⟩ (Nat.zero_le _) (Nat.zero_le _) (zc_takeParts_14_101 137 S135 n hn G_S135 (by omega)) (fun v148 S147 hP => ?_)
                      obtain ⟨G_S147, fS147, o149⟩ := hP
                      have F_S147 := zz_fr.trans F_S135 fS147 rfl zz_nv
                      have R_S147 : zz_Hr S147 := zz_Hr.fr fS147 rfl rfl (fun b j h => h.elim) R_S135
                      rcases (by omega : v148 = 0 ∨ v148 = 1) with rfl | rfl
                      · refine zz_if_ne (by omega) zd_14_104_103 (fun c150 => ?_) (fun c150 => ?_)
                        · exfalso; omega
                        · refine zz_iconst zd_14_104_106 ?_
                          have g151 := zz_G.r G_S0 1079 36 0 11 rfl rfl
                          have e152 : S147 1079 36 = S0 1079 36 := (zz_rc fS147 rfl rfl (fun h => h) (zz_rc fS135 rfl rfl (fun h => h) (zz_rc fS130 rfl rfl (fun h => h) rfl)))
                          exact zz_zret zd_14_104_107 rfl (by omega) (Nat.zero_le _) (Nat.zero_le _) ⟨_, _, rfl, G_S147, F_S147, by omega, by omega, R_S147⟩
                      · refine zz_if_ne (by omega) zd_14_104_103 (fun c153 => ?_) (fun c153 => ?_)
                        · refine zz_aload_n (x := 1079) rfl zd_14_104_108 ?_
                          refine zz_getr (kd := 0) (z := 1118) zd_14_104_109 zf_Md_136 zT_1079 rfl (zz_ltn hn rfl) (zz_G.eq G_S147 1079 63 1118 rfl rfl) (by decide) 1118 rfl ?_
                          refine zz_bipush (by decide) zd_14_104_112 ?_
                          have g154 := zz_G.r G_S147 1118 6 0 9999 rfl rfl
                          refine zz_iald (z := S147 1118 6) zd_14_104_114 zT_1118 rfl (zz_ltn hn rfl) (by decide) (by decide) rfl ?_
                          refine zz_bipush (by decide) zd_14_104_115 ?_
                          refine zz_aload_n (x := 1079) rfl zd_14_104_117 ?_
                          refine zz_getr (kd := 0) (z := 1118) zd_14_104_118 zf_Md_136 zT_1079 rfl (zz_ltn hn rfl) (zz_G.eq G_S147 1079 63 1118 rfl rfl) (by decide) 1118 rfl ?_
                          refine zz_bipush (by decide) zd_14_104_121 ?_
                          have g155 := zz_G.r G_S147 1118 7 0 9999 rfl rfl
                          refine zz_iald (z := S147 1118 7) zd_14_104_123 zT_1118 rfl (zz_ltn hn rfl) (by decide) (by decide) rfl ?_
                          refine zz_imul zd_14_104_124 ?_
                          refine zz_iadd zd_14_104_125 ?_
                          refine zz_istore [some (.ref 1079), some (zi 0), some (zi 1), some (zi v136), some (zi 0), some (zi ((S147 1118 6) + (16 * (S147 1118 7))))] zd_14_104_126 (by decide) rfl ?_
                          refine zz_bipush (by decide) zd_14_104_128 ?_
                          refine zz_aload_n (x := 1079) rfl zd_14_104_130 ?_
                          refine zz_getr (kd := 0) (z := 1118) zd_14_104_131 zf_Md_136 zT_1079 rfl (zz_ltn hn rfl) (zz_G.eq G_S147 1079 63 1118 rfl rfl) (by decide) 1118 rfl ?_
                          refine zz_iconst zd_14_104_134 ?_
                          have g156 := zz_G.r G_S147 1118 0 0 9999 rfl rfl
                          refine zz_iald (z := S147 1118 0) zd_14_104_135 zT_1118 rfl (zz_ltn hn rfl) (by decide) (by decide) rfl ?_
                          refine zz_imul zd_14_104_136 ?_
                          refine zz_aload_n (x := 1079) rfl zd_14_104_137 ?_
                          refine zz_getr (kd := 0) (z := 1118) zd_14_104_138 zf_Md_136 zT_1079 rfl (zz_ltn hn rfl) (zz_G.eq G_S147 1079 63 1118 rfl rfl) (by decide) 1118 rfl ?_
                          refine zz_iconst zd_14_104_141 ?_
                          have g157 := zz_G.r G_S147 1118 1 0 9999 rfl rfl
                          refine zz_iald (z := S147 1118 1) zd_14_104_142 zT_1118 rfl (zz_ltn hn rfl) (by decide) (by decide) rfl ?_
                          refine zz_iadd zd_14_104_143 ?_
                          refine zz_istore [some (.ref 1079), some (zi 0), some (zi 1), some (zi v136), some (zi 0), some (zi ((S147 1118 6) + (16 * (S147 1118 7)))), some (zi ((10 * (S147 1118 0)) + (S147 1118 1)))] zd_14_104_144 (by decide) rfl ?_
                          refine zz_aload_n (x := 1079) rfl zd_14_104_146 ?_
                          refine zz_getr (kd := 0) (z := 1118) zd_14_104_147 zf_Md_136 zT_1079 rfl (zz_ltn hn rfl) (zz_G.eq G_S147 1079 63 1118 rfl rfl) (by decide) 1118 rfl ?_
                          refine zz_iconst zd_14_104_150 ?_
                          refine zz_iald (z := S147 1118 0) zd_14_104_151 zT_1118 rfl (zz_ltn hn rfl) (by decide) (by decide) rfl ?_
                          refine zz_i2l (by omega) zd_14_104_152 ?_
                          refine zz_lconst (z := 1) (by decide) zd_14_104_153 ?_
                          refine zz_ldc2 (z := 3) zq_Md_416 (by decide) zd_14_104_154 ?_
                          refine zz_callSI [zl (S147 1118 0), zl 1, zl 3] zd_14_104_157 zk_Md_192 rfl rfl ⟨Nat.le_of_ble_eq_true rfl, Nat.le_of_ble_eq_true rfl⟩ ⟨rfl, rfl⟩ (Nat.zero_le _) (Nat.zero_le _) (zc_in_14_4 (S147 1118 0) 1 3 S147 n hn G_S147 (by omega) (by omega) (by omega)) (fun v159 S158 hP => ?_)
                          obtain ⟨rfl, o160, o161⟩ := hP
                          rcases (by omega : v159 = 0 ∨ v159 = 1) with rfl | rfl
                          · have n162 : S147 1118 0 < 1 ∨ 3 < S147 1118 0 := by omega
                            clear o161
                            refine zz_if_eq (by omega) zd_14_104_160 (fun c163 => ?_) (fun c163 => ?_)
                            · refine zz_iconst zd_14_104_184 ?_
                              refine zz_istore [some (.ref 1079), some (zi 0), some (zi 1), some (zi v136), some (zi 0), some (zi ((S147 1118 6) + (16 * (S147 1118 7)))), some (zi ((10 * (S147 1118 0)) + (S147 1118 1))), some (zi 0)] zd_14_104_185 (by decide) rfl ?_
                              refine zz_iconst zd_14_104_187 ?_
                              refine zz_istore [some (.ref 1079), some (zi 0), some (zi 1), some (zi v136), some (zi 0), some (zi ((S147 1118 6) + (16 * (S147 1118 7)))), some (zi ((10 * (S147 1118 0)) + (S147 1118 1))), some (zi 0), some (zi (-1))] zd_14_104_188 (by decide) rfl ?_
                              refine zz_iload_n (x := 0) rfl zd_14_104_190 ?_
                              refine zz_if_eq (by omega) zd_14_104_191 (fun c164 => ?_) (fun c164 => ?_)
                              · refine zz_iload_n (x := 1) rfl zd_14_104_299 ?_
                                refine zz_if_eq (by omega) zd_14_104_300 (fun c165 => ?_) (fun c165 => ?_)
                                · exfalso; omega
                                · refine zz_aload_n (x := 1079) rfl zd_14_104_303 ?_
                                  have g166 := zz_G.r G_S147 1079 65 0 255 rfl rfl
                                  refine zz_geti (z := S147 1079 65) zd_14_104_304 zf_Md_567 zT_1079 rfl (zz_ltn hn rfl) rfl ?_
                                  refine zz_iconst zd_14_104_307 ?_
                                  refine zz_iand (by omega) (by omega) zd_14_104_308 (fun v167 hv167 av167 bv167 ev167 => ?_)
                                  refine zz_if_eq (by omega) zd_14_104_309 (fun c168 => ?_) (fun c168 => ?_)
                                  · refine zz_iconst zd_14_104_317 ?_
                                    have g169 := zz_G.r G_S0 1079 36 0 11 rfl rfl
                                    have e170 : S147 1079 36 = S0 1079 36 := (zz_rc fS147 rfl rfl (fun h => h) (zz_rc fS135 rfl rfl (fun h => h) (zz_rc fS130 rfl rfl (fun h => h) rfl)))
                                    exact zz_zret zd_14_104_318 rfl (by omega) (Nat.zero_le _) (Nat.zero_le _) ⟨_, _, rfl, G_S147, F_S147, by omega, by omega, R_S147⟩
                                  · refine zz_iload (x := 0) rfl zd_14_104_312 ?_
                                    refine zz_if_ne (by omega) zd_14_104_314 (fun c171 => ?_) (fun c171 => ?_)
                                    · exfalso; omega
                                    · refine zz_iconst zd_14_104_317 ?_
                                      have g172 := zz_G.r G_S0 1079 36 0 11 rfl rfl
                                      have e173 : S147 1079 36 = S0 1079 36 := (zz_rc fS147 rfl rfl (fun h => h) (zz_rc fS135 rfl rfl (fun h => h) (zz_rc fS130 rfl rfl (fun h => h) rfl)))
                                      exact zz_zret zd_14_104_318 rfl (by omega) (Nat.zero_le _) (Nat.zero_le _) ⟨_, _, rfl, G_S147, F_S147, by omega, by omega, R_S147⟩
                              · exfalso; omega
                            · exfalso; omega
                          · have n174 : 1 ≤ S147 1118 0 ∧ S147 1118 0 ≤ 3 := by omega
                            clear o161
                            refine zz_if_eq (by omega) zd_14_104_160 (fun c175 => ?_) (fun c175 => ?_)
                            · exfalso; omega
                            · refine zz_aload_n (x := 1079) rfl zd_14_104_163 ?_
                              refine zz_getr (kd := 0) (z := 1118) zd_14_104_164 zf_Md_136 zT_1079 rfl (zz_ltn hn rfl) (zz_G.eq G_S147 1079 63 1118 rfl rfl) (by decide) 1118 rfl ?_
                              refine zz_iconst zd_14_104_167 ?_
                              refine zz_iald (z := S147 1118 1) zd_14_104_168 zT_1118 rfl (zz_ltn hn rfl) (by decide) (by decide) rfl ?_
                              refine zz_i2l (by omega) zd_14_104_169 ?_
                              refine zz_lconst (z := 1) (by decide) zd_14_104_170 ?_
                              refine zz_ldc2 (z := 3) zq_Md_416 (by decide) zd_14_104_171 ?_
                              refine zz_callSI [zl (S147 1118 1), zl 1, zl 3] zd_14_104_174 zk_Md_192 rfl rfl ⟨Nat.le_of_ble_eq_true rfl, Nat.le_of_ble_eq_true rfl⟩ ⟨rfl, rfl⟩ (Nat.zero_le _) (Nat.zero_le _) (zc_in_14_4 (S147 1118 1) 1 3 S147 n hn G_S147 (by omega) (by omega) (by omega)) (fun v177 S176 hP => ?_)
                              obtain ⟨rfl, o178, o179⟩ := hP
                              rcases (by omega : v177 = 0 ∨ v177 = 1) with rfl | rfl
                              · have n180 : S147 1118 1 < 1 ∨ 3 < S147 1118 1 := by omega
                                clear o179
                                refine zz_if_eq (by omega) zd_14_104_177 (fun c181 => ?_) (fun c181 => ?_)
                                · refine zz_iconst zd_14_104_184 ?_
                                  refine zz_istore [some (.ref 1079), some (zi 0), some (zi 1), some (zi v136), some (zi 0), some (zi ((S147 1118 6) + (16 * (S147 1118 7)))), some (zi ((10 * (S147 1118 0)) + (S147 1118 1))), some (zi 0)] zd_14_104_185 (by decide) rfl ?_
                                  refine zz_iconst zd_14_104_187 ?_
                                  refine zz_istore [some (.ref 1079), some (zi 0), some (zi 1), some (zi v136), some (zi 0), some (zi ((S147 1118 6) + (16 * (S147 1118 7)))), some (zi ((10 * (S147 1118 0)) + (S147 1118 1))), some (zi 0), some (zi (-1))] zd_14_104_188 (by decide) rfl ?_
                                  refine zz_iload_n (x := 0) rfl zd_14_104_190 ?_
                                  refine zz_if_eq (by omega) zd_14_104_191 (fun c182 => ?_) (fun c182 => ?_)
                                  · refine zz_iload_n (x := 1) rfl zd_14_104_299 ?_
                                    refine zz_if_eq (by omega) zd_14_104_300 (fun c183 => ?_) (fun c183 => ?_)
                                    · exfalso; omega
                                    · refine zz_aload_n (x := 1079) rfl zd_14_104_303 ?_
                                      have g184 := zz_G.r G_S147 1079 65 0 255 rfl rfl
                                      refine zz_geti (z := S147 1079 65) zd_14_104_304 zf_Md_567 zT_1079 rfl (zz_ltn hn rfl) rfl ?_
                                      refine zz_iconst zd_14_104_307 ?_
                                      refine zz_iand (by omega) (by omega) zd_14_104_308 (fun v185 hv185 av185 bv185 ev185 => ?_)
                                      refine zz_if_eq (by omega) zd_14_104_309 (fun c186 => ?_) (fun c186 => ?_)
                                      · refine zz_iconst zd_14_104_317 ?_
                                        have g187 := zz_G.r G_S0 1079 36 0 11 rfl rfl
                                        have e188 : S147 1079 36 = S0 1079 36 := (zz_rc fS147 rfl rfl (fun h => h) (zz_rc fS135 rfl rfl (fun h => h) (zz_rc fS130 rfl rfl (fun h => h) rfl)))
                                        exact zz_zret zd_14_104_318 rfl (by omega) (Nat.zero_le _) (Nat.zero_le _) ⟨_, _, rfl, G_S147, F_S147, by omega, by omega, R_S147⟩
                                      · refine zz_iload (x := 0) rfl zd_14_104_312 ?_
                                        refine zz_if_ne (by omega) zd_14_104_314 (fun c189 => ?_) (fun c189 => ?_)
                                        · exfalso; omega
                                        · refine zz_iconst zd_14_104_317 ?_
                                          have g190 := zz_G.r G_S0 1079 36 0 11 rfl rfl
                                          have e191 : S147 1079 36 = S0 1079 36 := (zz_rc fS147 rfl rfl (fun h => h) (zz_rc fS135 rfl rfl (fun h => h) (zz_rc fS130 rfl rfl (fun h => h) rfl)))
                                          exact zz_zret zd_14_104_318 rfl (by omega) (Nat.zero_le _) (Nat.zero_le _) ⟨_, _, rfl, G_S147, F_S147, by omega, by omega, R_S147⟩
                                  · exfalso; omega
                                · exfalso; omega
                              · have n192 : 1 ≤ S147 1118 1 ∧ S147 1118 1 ≤ 3 := by omega
                                clear o179
                                refine zz_if_eq (by omega) zd_14_104_177 (fun c193 => ?_) (fun c193 => ?_)
                                · exfalso; omega
                                · refine zz_iconst zd_14_104_180 ?_
                                  refine zz_goto zd_14_104_181 ?_
                                  refine zz_istore [some (.ref 1079), some (zi 0), some (zi 1), some (zi v136), some (zi 0), some (zi ((S147 1118 6) + (16 * (S147 1118 7)))), some (zi ((10 * (S147 1118 0)) + (S147 1118 1))), some (zi 1)] zd_14_104_185 (by decide) rfl ?_
                                  refine zz_iconst zd_14_104_187 ?_
                                  refine zz_istore [some (.ref 1079), some (zi 0), some (zi 1), some (zi v136), some (zi 0), some (zi ((S147 1118 6) + (16 * (S147 1118 7)))), some (zi ((10 * (S147 1118 0)) + (S147 1118 1))), some (zi 1), some (zi (-1))] zd_14_104_188 (by decide) rfl ?_
                                  refine zz_iload_n (x := 0) rfl zd_14_104_190 ?_
                                  refine zz_if_eq (by omega) zd_14_104_191 (fun c194 => ?_) (fun c194 => ?_)
                                  · refine zz_iload_n (x := 1) rfl zd_14_104_299 ?_
                                    refine zz_if_eq (by omega) zd_14_104_300 (fun c195 => ?_) (fun c195 => ?_)
                                    · exfalso; omega
                                    · refine zz_aload_n (x := 1079) rfl zd_14_104_303 ?_
                                      have g196 := zz_G.r G_S147 1079 65 0 255 rfl rfl
                                      refine zz_geti (z := S147 1079 65) zd_14_104_304 zf_Md_567 zT_1079 rfl (zz_ltn hn rfl) rfl ?_
                                      refine zz_iconst zd_14_104_307 ?_
                                      refine zz_iand (by omega) (by omega) zd_14_104_308 (fun v197 hv197 av197 bv197 ev197 => ?_)
                                      refine zz_if_eq (by omega) zd_14_104_309 (fun c198 => ?_) (fun c198 => ?_)
                                      · refine zz_iconst zd_14_104_317 ?_
                                        have g199 := zz_G.r G_S0 1079 36 0 11 rfl rfl
                                        have e200 : S147 1079 36 = S0 1079 36 := (zz_rc fS147 rfl rfl (fun h => h) (zz_rc fS135 rfl rfl (fun h => h) (zz_rc fS130 rfl rfl (fun h => h) rfl)))
                                        exact zz_zret zd_14_104_318 rfl (by omega) (Nat.zero_le _) (Nat.zero_le _) ⟨_, _, rfl, G_S147, F_S147, by omega, by omega, R_S147⟩
                                      · refine zz_iload (x := 1) rfl zd_14_104_312 ?_
                                        refine zz_if_ne (by omega) zd_14_104_314 (fun c201 => ?_) (fun c201 => ?_)
                                        · refine zz_aload_n (x := 1079) rfl zd_14_104_319 ?_
                                          refine zz_iload_n (x := v136) rfl zd_14_104_320 ?_
                                          refine zz_iload (x := (10 * (S147 1118 0)) + (S147 1118 1)) rfl zd_14_104_321 ?_
                                          refine zz_aload_n (x := 1079) rfl zd_14_104_323 ?_
                                          refine zz_getr (kd := 0) (z := 1118) zd_14_104_324 zf_Md_136 zT_1079 rfl (zz_ltn hn rfl) (zz_G.eq G_S147 1079 63 1118 rfl rfl) (by decide) 1118 rfl ?_
                                          refine zz_iconst zd_14_104_327 ?_
                                          have g202 := zz_G.r G_S147 1118 4 0 9999 rfl rfl
                                          refine zz_iald (z := S147 1118 4) zd_14_104_328 zT_1118 rfl (zz_ltn hn rfl) (by decide) (by decide) rfl ?_
                                          have g203 := zz_G.r G_S0 1079 36 0 11 rfl rfl
                                          have e204 : S147 1079 36 = S0 1079 36 := (zz_rc fS147 rfl rfl (fun h => h) (zz_rc fS135 rfl rfl (fun h => h) (zz_rc fS130 rfl rfl (fun h => h) rfl)))
                                          refine zz_callVI [zi v136, zi ((10 * (S147 1118 0)) + (S147 1118 1)), zi (S147 1118 4)] zd_14_104_329 zk_Md_589 zT_1079 (zz_ltn hn rfl) rfl rfl ⟨Nat.le_of_ble_eq_true rfl, Nat.le_of_ble_eq_true rfl⟩ ⟨rfl, rfl⟩ (Nat.zero_le _) (Nat.zero_le _) (zc_pool_14_69 v136 ((10 * (S147 1118 0)) + (S147 1118 1)) (S147 1118 4) S147 n hn G_S147 (by omega) (by omega) (by omega) R_S147) (fun v206 S205 hP => ?_)
                                          obtain ⟨G_S205, fS205, o207, o208, o209⟩ := hP
                                          have F_S205 := zz_fr.trans F_S147 fS205 rfl (fun a i h => by rcases h with h | h | h | h | h | h | h | h | h | h | h; exact Or.inr (Or.inl (by rw [h.1]; rfl)); exact Or.inr (Or.inl (by rw [h.1]; rfl)); exact Or.inr (Or.inl (by rw [h.1]; rfl)); exact Or.inr (Or.inl (by rw [h.1]; rfl)); exact Or.inr (Or.inl (by rw [h.1]; rfl)); exact Or.inr (Or.inl (by rw [h.1]; rfl)); exact Or.inr (Or.inl (by rw [h.1]; rfl)); exact Or.inr (Or.inl (by rw [h.1]; rfl)); exact Or.inr (Or.inl (by rw [h.1]; rfl)); exact Or.inr (Or.inl (by rw [h.1]; rfl)); exact Or.inr (Or.inl (by rw [h.1]; rfl)))
                                          have R_S205 : zz_Hr S205 := o209
                                          refine zz_istore [some (.ref 1079), some (zi 0), some (zi 1), some (zi v136), some (zi 0), some (zi ((S147 1118 6) + (16 * (S147 1118 7)))), some (zi ((10 * (S147 1118 0)) + (S147 1118 1))), some (zi 1), some (zi v206)] zd_14_104_332 (by decide) rfl ?_
                                          refine zz_goto zd_14_104_334 ?_
                                          refine zz_aload_n (x := 1079) rfl zd_14_104_362 ?_
                                          have g210 := zz_G.r G_S205 1079 0 0 3 rfl rfl
                                          refine zz_geti (z := S205 1079 0) zd_14_104_363 zf_Md_187 zT_1079 rfl (zz_ltn hn rfl) rfl ?_
                                          refine zz_if_le (by omega) zd_14_104_366 (fun c211 => ?_) (fun c211 => ?_)
                                          · refine zz_aload_n (x := 1079) rfl zd_14_104_371 ?_
                                            refine zz_getr (kd := 0) (z := 1117) zd_14_104_372 zf_Md_133 zT_1079 rfl (zz_ltn hn rfl) (zz_G.eq G_S205 1079 62 1117 rfl rfl) (by decide) 1117 rfl ?_
                                            refine zz_iload (x := v206) rfl zd_14_104_375 ?_
                                            refine zz_aload_n (x := 1079) rfl zd_14_104_377 ?_
                                            have g212 := zz_G.r G_S147 1079 64 (-9223372036854775808) 9223372036854775807 rfl rfl
                                            refine zz_getl (z := S147 1079 64) zd_14_104_378 zf_Md_564 zT_1079 rfl (zz_ltn hn rfl) (zz_rc fS205 rfl rfl (by omega) rfl) ?_
                                            refine zz_last zd_14_104_381 zT_1117 rfl (zz_ltn hn rfl) (by decide) (by omega) (fun S213 qS213 => ?_)
                                            have G_S213 := zz_G.put G_S205 qS213 (-9223372036854775808) 9223372036854775807 rfl (by omega)
                                            have F_S213 := zz_fr.putc F_S205 qS213 rfl
                                            have R_S213 : zz_Hr S213 := zz_Hr.fr (zz_fr.put1 qS213) rfl rfl (fun b j h => by omega) R_S205
                                            refine zz_iconst zd_14_104_382 ?_
                                            have g214 := zz_G.r G_S205 1079 36 0 11 rfl rfl
                                            have e215 : S213 1079 36 = S205 1079 36 := (zz_ro qS213 (fun h => absurd h.1 (by decide)) rfl)
                                            exact zz_zret zd_14_104_383 rfl (by omega) (Nat.zero_le _) (Nat.zero_le _) ⟨_, _, rfl, G_S213, F_S213, by omega, by omega, R_S213⟩
                                          · refine zz_iconst zd_14_104_369 ?_
                                            have g216 := zz_G.r G_S205 1079 36 0 11 rfl rfl
                                            exact zz_zret zd_14_104_370 rfl (by omega) (Nat.zero_le _) (Nat.zero_le _) ⟨_, _, rfl, G_S205, F_S205, by omega, by omega, R_S205⟩
                                        · exfalso; omega
                                  · exfalso; omega
                        · exfalso; omega
                  · exfalso; omega
            · exfalso; omega
        · exfalso; omega
  · refine zz_istore_n [some (.ref 1079), some (zi 1)] zd_14_104_7 (by decide) rfl ?_
    refine zz_aload_n (x := 1079) rfl zd_14_104_8 ?_
    refine zz_ldc2 (z := 409072) zq_Md_536 (by decide) zd_14_104_9 ?_
    refine zz_callVI [zl 409072] zd_14_104_12 zk_Md_529 zT_1079 (zz_ltn hn rfl) rfl rfl ⟨Nat.le_of_ble_eq_true rfl, Nat.le_of_ble_eq_true rfl⟩ ⟨rfl, rfl⟩ (Nat.zero_le _) (Nat.zero_le _) (zc_isWord_14_94 409072 S0 n hn G_S0 (by omega)) (fun v218 S217 hP => ?_)
    obtain ⟨rfl, o219⟩ := hP
    rcases (by omega : v218 = 0 ∨ v218 = 1) with rfl | rfl
    · refine zz_istore_n [some (.ref 1079), some (zi 1), some (zi 0)] zd_14_104_15 (by decide) rfl ?_
      refine zz_iload_n (x := 1) rfl zd_14_104_16 ?_
      refine zz_if_ne (by omega) zd_14_104_17 (fun c220 => ?_) (fun c220 => ?_)
      · refine zz_aload_n (x := 1079) rfl zd_14_104_36 ?_
        have g221 := zz_G.r G_S0 1079 32 0 1500 rfl rfl
        refine zz_callVV [] zd_14_104_37 zk_Md_526 zT_1079 (zz_ltn hn rfl) rfl rfl ⟨Nat.le_of_ble_eq_true rfl, Nat.le_of_ble_eq_true rfl⟩ ⟨rfl, rfl⟩ (Nat.zero_le _) (Nat.zero_le _) (zc_advanceNet_14_93  S0 n hn G_S0 ) (fun S222 hP => ?_)
        obtain ⟨G_S222, fS222, o224⟩ := hP
        have F_S222 := zz_fr.trans F_S0 fS222 rfl zz_nv
        have R_S222 : zz_Hr S222 := zz_Hr.fr fS222 rfl rfl (fun b j h => h.elim) R_S0
        refine zz_aload_n (x := 1079) rfl zd_14_104_40 ?_
        have g225 := zz_G.r G_S222 1079 30 0 102 rfl rfl
        have g226 := zz_G.r G_S222 1079 32 0 1500 rfl rfl
        refine zz_callVI [] zd_14_104_41 zk_Md_582 zT_1079 (zz_ltn hn rfl) rfl rfl ⟨Nat.le_of_ble_eq_true rfl, Nat.le_of_ble_eq_true rfl⟩ ⟨rfl, rfl⟩ (Nat.zero_le _) (Nat.zero_le _) (zc_takeTensor_14_102  S222 n hn G_S222 ) (fun v228 S227 hP => ?_)
        obtain ⟨G_S227, fS227, o229, o230⟩ := hP
        have F_S227 := zz_fr.trans F_S222 fS227 rfl zz_nv
        have R_S227 : zz_Hr S227 := zz_Hr.fr fS227 rfl rfl (fun b j h => h.elim) R_S222
        refine zz_istore_n [some (.ref 1079), some (zi 1), some (zi 0), some (zi v228)] zd_14_104_44 (by decide) rfl ?_
        refine zz_iload_n (x := 1) rfl zd_14_104_45 ?_
        refine zz_if_ne (by omega) zd_14_104_46 (fun c231 => ?_) (fun c231 => ?_)
        · refine zz_iconst zd_14_104_64 ?_
          refine zz_istore [some (.ref 1079), some (zi 1), some (zi 0), some (zi v228), some (zi 0)] zd_14_104_65 (by decide) rfl ?_
          refine zz_iload_n (x := v228) rfl zd_14_104_67 ?_
          refine zz_if_lt (by omega) zd_14_104_68 (fun c232 => ?_) (fun c232 => ?_)
          · refine zz_iconst zd_14_104_106 ?_
            have g233 := zz_G.r G_S0 1079 36 0 11 rfl rfl
            have e234 : S227 1079 36 = S0 1079 36 := (zz_rc fS227 rfl rfl (fun h => h) (zz_rc fS222 rfl rfl (fun h => h) rfl))
            exact zz_zret zd_14_104_107 rfl (by omega) (Nat.zero_le _) (Nat.zero_le _) ⟨_, _, rfl, G_S227, F_S227, by omega, by omega, R_S227⟩
          · refine zz_iload (x := 0) rfl zd_14_104_71 ?_
            refine zz_if_lt (by omega) zd_14_104_73 (fun c235 => ?_) (fun c235 => ?_)
            · exfalso; omega
            · refine zz_aload_n (x := 1079) rfl zd_14_104_76 ?_
              refine zz_iload_n (x := 1) rfl zd_14_104_77 ?_
              refine zz_if_eq (by omega) zd_14_104_78 (fun c236 => ?_) (fun c236 => ?_)
              · exfalso; omega
              · refine zz_sipush (by decide) zd_14_104_81 ?_
                refine zz_goto zd_14_104_84 ?_
                refine zz_callVI [zi 255] zd_14_104_100 zk_Md_576 zT_1079 (zz_ltn hn rfl) rfl rfl ⟨Nat.le_of_ble_eq_true rfl, Nat.le_of_ble_eq_true rfl⟩ ⟨rfl, rfl⟩ (Nat.zero_le _) (Nat.zero_le _) (zc_takeParts_14_101 255 S227 n hn G_S227 (by omega)) (fun v238 S237 hP => ?_)
                obtain ⟨G_S237, fS237, o239⟩ := hP
                have F_S237 := zz_fr.trans F_S227 fS237 rfl zz_nv
                have R_S237 : zz_Hr S237 := zz_Hr.fr fS237 rfl rfl (fun b j h => h.elim) R_S227
                rcases (by omega : v238 = 0 ∨ v238 = 1) with rfl | rfl
                · refine zz_if_ne (by omega) zd_14_104_103 (fun c240 => ?_) (fun c240 => ?_)
                  · exfalso; omega
                  · refine zz_iconst zd_14_104_106 ?_
                    have g241 := zz_G.r G_S0 1079 36 0 11 rfl rfl
                    have e242 : S237 1079 36 = S0 1079 36 := (zz_rc fS237 rfl rfl (fun h => h) (zz_rc fS227 rfl rfl (fun h => h) (zz_rc fS222 rfl rfl (fun h => h) rfl)))
                    exact zz_zret zd_14_104_107 rfl (by omega) (Nat.zero_le _) (Nat.zero_le _) ⟨_, _, rfl, G_S237, F_S237, by omega, by omega, R_S237⟩
                · refine zz_if_ne (by omega) zd_14_104_103 (fun c243 => ?_) (fun c243 => ?_)
                  · refine zz_aload_n (x := 1079) rfl zd_14_104_108 ?_
                    refine zz_getr (kd := 0) (z := 1118) zd_14_104_109 zf_Md_136 zT_1079 rfl (zz_ltn hn rfl) (zz_G.eq G_S237 1079 63 1118 rfl rfl) (by decide) 1118 rfl ?_
                    refine zz_bipush (by decide) zd_14_104_112 ?_
                    have g244 := zz_G.r G_S237 1118 6 0 9999 rfl rfl
                    refine zz_iald (z := S237 1118 6) zd_14_104_114 zT_1118 rfl (zz_ltn hn rfl) (by decide) (by decide) rfl ?_
                    refine zz_bipush (by decide) zd_14_104_115 ?_
                    refine zz_aload_n (x := 1079) rfl zd_14_104_117 ?_
                    refine zz_getr (kd := 0) (z := 1118) zd_14_104_118 zf_Md_136 zT_1079 rfl (zz_ltn hn rfl) (zz_G.eq G_S237 1079 63 1118 rfl rfl) (by decide) 1118 rfl ?_
                    refine zz_bipush (by decide) zd_14_104_121 ?_
                    have g245 := zz_G.r G_S237 1118 7 0 9999 rfl rfl
                    refine zz_iald (z := S237 1118 7) zd_14_104_123 zT_1118 rfl (zz_ltn hn rfl) (by decide) (by decide) rfl ?_
                    refine zz_imul zd_14_104_124 ?_
                    refine zz_iadd zd_14_104_125 ?_
                    refine zz_istore [some (.ref 1079), some (zi 1), some (zi 0), some (zi v228), some (zi 0), some (zi ((S237 1118 6) + (16 * (S237 1118 7))))] zd_14_104_126 (by decide) rfl ?_
                    refine zz_bipush (by decide) zd_14_104_128 ?_
                    refine zz_aload_n (x := 1079) rfl zd_14_104_130 ?_
                    refine zz_getr (kd := 0) (z := 1118) zd_14_104_131 zf_Md_136 zT_1079 rfl (zz_ltn hn rfl) (zz_G.eq G_S237 1079 63 1118 rfl rfl) (by decide) 1118 rfl ?_
                    refine zz_iconst zd_14_104_134 ?_
                    have g246 := zz_G.r G_S237 1118 0 0 9999 rfl rfl
                    refine zz_iald (z := S237 1118 0) zd_14_104_135 zT_1118 rfl (zz_ltn hn rfl) (by decide) (by decide) rfl ?_
                    refine zz_imul zd_14_104_136 ?_
                    refine zz_aload_n (x := 1079) rfl zd_14_104_137 ?_
                    refine zz_getr (kd := 0) (z := 1118) zd_14_104_138 zf_Md_136 zT_1079 rfl (zz_ltn hn rfl) (zz_G.eq G_S237 1079 63 1118 rfl rfl) (by decide) 1118 rfl ?_
                    refine zz_iconst zd_14_104_141 ?_
                    have g247 := zz_G.r G_S237 1118 1 0 9999 rfl rfl
                    refine zz_iald (z := S237 1118 1) zd_14_104_142 zT_1118 rfl (zz_ltn hn rfl) (by decide) (by decide) rfl ?_
                    refine zz_iadd zd_14_104_143 ?_
                    refine zz_istore [some (.ref 1079), some (zi 1), some (zi 0), some (zi v228), some (zi 0), some (zi ((S237 1118 6) + (16 * (S237 1118 7)))), some (zi ((10 * (S237 1118 0)) + (S237 1118 1)))] zd_14_104_144 (by decide) rfl ?_
                    refine zz_aload_n (x := 1079) rfl zd_14_104_146 ?_
                    refine zz_getr (kd := 0) (z := 1118) zd_14_104_147 zf_Md_136 zT_1079 rfl (zz_ltn hn rfl) (zz_G.eq G_S237 1079 63 1118 rfl rfl) (by decide) 1118 rfl ?_
                    refine zz_iconst zd_14_104_150 ?_
                    refine zz_iald (z := S237 1118 0) zd_14_104_151 zT_1118 rfl (zz_ltn hn rfl) (by decide) (by decide) rfl ?_
                    refine zz_i2l (by omega) zd_14_104_152 ?_
                    refine zz_lconst (z := 1) (by decide) zd_14_104_153 ?_
                    refine zz_ldc2 (z := 3) zq_Md_416 (by decide) zd_14_104_154 ?_
                    refine zz_callSI [zl (S237 1118 0), zl 1, zl 3] zd_14_104_157 zk_Md_192 rfl rfl ⟨Nat.le_of_ble_eq_true rfl, Nat.le_of_ble_eq_true rfl⟩ ⟨rfl, rfl⟩ (Nat.zero_le _) (Nat.zero_le _) (zc_in_14_4 (S237 1118 0) 1 3 S237 n hn G_S237 (by omega) (by omega) (by omega)) (fun v249 S248 hP => ?_)
                    obtain ⟨rfl, o250, o251⟩ := hP
                    rcases (by omega : v249 = 0 ∨ v249 = 1) with rfl | rfl
                    · have n252 : S237 1118 0 < 1 ∨ 3 < S237 1118 0 := by omega
                      clear o251
                      refine zz_if_eq (by omega) zd_14_104_160 (fun c253 => ?_) (fun c253 => ?_)
                      · refine zz_iconst zd_14_104_184 ?_
                        refine zz_istore [some (.ref 1079), some (zi 1), some (zi 0), some (zi v228), some (zi 0), some (zi ((S237 1118 6) + (16 * (S237 1118 7)))), some (zi ((10 * (S237 1118 0)) + (S237 1118 1))), some (zi 0)] zd_14_104_185 (by decide) rfl ?_
                        refine zz_iconst zd_14_104_187 ?_
                        refine zz_istore [some (.ref 1079), some (zi 1), some (zi 0), some (zi v228), some (zi 0), some (zi ((S237 1118 6) + (16 * (S237 1118 7)))), some (zi ((10 * (S237 1118 0)) + (S237 1118 1))), some (zi 0), some (zi (-1))] zd_14_104_188 (by decide) rfl ?_
                        refine zz_iload_n (x := 1) rfl zd_14_104_190 ?_
                        refine zz_if_eq (by omega) zd_14_104_191 (fun c254 => ?_) (fun c254 => ?_)
                        · exfalso; omega
                        · refine zz_aload_n (x := 1079) rfl zd_14_104_194 ?_
                          have g255 := zz_G.r G_S237 1079 65 0 255 rfl rfl
                          refine zz_geti (z := S237 1079 65) zd_14_104_195 zf_Md_567 zT_1079 rfl (zz_ltn hn rfl) rfl ?_
                          refine zz_bipush (by decide) zd_14_104_198 ?_
                          refine zz_iand (by omega) (by omega) zd_14_104_200 (fun v256 hv256 av256 bv256 ev256 => ?_)
                          refine zz_bipush (by decide) zd_14_104_201 ?_
                          refine zz_icmp_ne (by omega) (by omega) zd_14_104_203 (fun c257 => ?_) (fun c257 => ?_)
                          · refine zz_iconst zd_14_104_255 ?_
                            have g258 := zz_G.r G_S0 1079 36 0 11 rfl rfl
                            have e259 : S237 1079 36 = S0 1079 36 := (zz_rc fS237 rfl rfl (fun h => h) (zz_rc fS227 rfl rfl (fun h => h) (zz_rc fS222 rfl rfl (fun h => h) rfl)))
                            exact zz_zret zd_14_104_256 rfl (by omega) (Nat.zero_le _) (Nat.zero_le _) ⟨_, _, rfl, G_S237, F_S237, by omega, by omega, R_S237⟩
                          · refine zz_iload (x := 0) rfl zd_14_104_206 ?_
                            refine zz_if_eq (by omega) zd_14_104_208 (fun c260 => ?_) (fun c260 => ?_)
                            · refine zz_iconst zd_14_104_255 ?_
                              have g261 := zz_G.r G_S0 1079 36 0 11 rfl rfl
                              have e262 : S237 1079 36 = S0 1079 36 := (zz_rc fS237 rfl rfl (fun h => h) (zz_rc fS227 rfl rfl (fun h => h) (zz_rc fS222 rfl rfl (fun h => h) rfl)))
                              exact zz_zret zd_14_104_256 rfl (by omega) (Nat.zero_le _) (Nat.zero_le _) ⟨_, _, rfl, G_S237, F_S237, by omega, by omega, R_S237⟩
                            · exfalso; omega
                      · exfalso; omega
                    · have n263 : 1 ≤ S237 1118 0 ∧ S237 1118 0 ≤ 3 := by omega
                      clear o251
                      refine zz_if_eq (by omega) zd_14_104_160 (fun c264 => ?_) (fun c264 => ?_)
                      · exfalso; omega
                      · refine zz_aload_n (x := 1079) rfl zd_14_104_163 ?_
                        refine zz_getr (kd := 0) (z := 1118) zd_14_104_164 zf_Md_136 zT_1079 rfl (zz_ltn hn rfl) (zz_G.eq G_S237 1079 63 1118 rfl rfl) (by decide) 1118 rfl ?_
                        refine zz_iconst zd_14_104_167 ?_
                        refine zz_iald (z := S237 1118 1) zd_14_104_168 zT_1118 rfl (zz_ltn hn rfl) (by decide) (by decide) rfl ?_
                        refine zz_i2l (by omega) zd_14_104_169 ?_
                        refine zz_lconst (z := 1) (by decide) zd_14_104_170 ?_
                        refine zz_ldc2 (z := 3) zq_Md_416 (by decide) zd_14_104_171 ?_
                        refine zz_callSI [zl (S237 1118 1), zl 1, zl 3] zd_14_104_174 zk_Md_192 rfl rfl ⟨Nat.le_of_ble_eq_true rfl, Nat.le_of_ble_eq_true rfl⟩ ⟨rfl, rfl⟩ (Nat.zero_le _) (Nat.zero_le _) (zc_in_14_4 (S237 1118 1) 1 3 S237 n hn G_S237 (by omega) (by omega) (by omega)) (fun v266 S265 hP => ?_)
                        obtain ⟨rfl, o267, o268⟩ := hP
                        rcases (by omega : v266 = 0 ∨ v266 = 1) with rfl | rfl
                        · have n269 : S237 1118 1 < 1 ∨ 3 < S237 1118 1 := by omega
                          clear o268
                          refine zz_if_eq (by omega) zd_14_104_177 (fun c270 => ?_) (fun c270 => ?_)
                          · refine zz_iconst zd_14_104_184 ?_
                            refine zz_istore [some (.ref 1079), some (zi 1), some (zi 0), some (zi v228), some (zi 0), some (zi ((S237 1118 6) + (16 * (S237 1118 7)))), some (zi ((10 * (S237 1118 0)) + (S237 1118 1))), some (zi 0)] zd_14_104_185 (by decide) rfl ?_
                            refine zz_iconst zd_14_104_187 ?_
                            refine zz_istore [some (.ref 1079), some (zi 1), some (zi 0), some (zi v228), some (zi 0), some (zi ((S237 1118 6) + (16 * (S237 1118 7)))), some (zi ((10 * (S237 1118 0)) + (S237 1118 1))), some (zi 0), some (zi (-1))] zd_14_104_188 (by decide) rfl ?_
                            refine zz_iload_n (x := 1) rfl zd_14_104_190 ?_
                            refine zz_if_eq (by omega) zd_14_104_191 (fun c271 => ?_) (fun c271 => ?_)
                            · exfalso; omega
                            · refine zz_aload_n (x := 1079) rfl zd_14_104_194 ?_
                              have g272 := zz_G.r G_S237 1079 65 0 255 rfl rfl
                              refine zz_geti (z := S237 1079 65) zd_14_104_195 zf_Md_567 zT_1079 rfl (zz_ltn hn rfl) rfl ?_
                              refine zz_bipush (by decide) zd_14_104_198 ?_
                              refine zz_iand (by omega) (by omega) zd_14_104_200 (fun v273 hv273 av273 bv273 ev273 => ?_)
                              refine zz_bipush (by decide) zd_14_104_201 ?_
                              refine zz_icmp_ne (by omega) (by omega) zd_14_104_203 (fun c274 => ?_) (fun c274 => ?_)
                              · refine zz_iconst zd_14_104_255 ?_
                                have g275 := zz_G.r G_S0 1079 36 0 11 rfl rfl
                                have e276 : S237 1079 36 = S0 1079 36 := (zz_rc fS237 rfl rfl (fun h => h) (zz_rc fS227 rfl rfl (fun h => h) (zz_rc fS222 rfl rfl (fun h => h) rfl)))
                                exact zz_zret zd_14_104_256 rfl (by omega) (Nat.zero_le _) (Nat.zero_le _) ⟨_, _, rfl, G_S237, F_S237, by omega, by omega, R_S237⟩
                              · refine zz_iload (x := 0) rfl zd_14_104_206 ?_
                                refine zz_if_eq (by omega) zd_14_104_208 (fun c277 => ?_) (fun c277 => ?_)
                                · refine zz_iconst zd_14_104_255 ?_
                                  have g278 := zz_G.r G_S0 1079 36 0 11 rfl rfl
                                  have e279 : S237 1079 36 = S0 1079 36 := (zz_rc fS237 rfl rfl (fun h => h) (zz_rc fS227 rfl rfl (fun h => h) (zz_rc fS222 rfl rfl (fun h => h) rfl)))
                                  exact zz_zret zd_14_104_256 rfl (by omega) (Nat.zero_le _) (Nat.zero_le _) ⟨_, _, rfl, G_S237, F_S237, by omega, by omega, R_S237⟩
                                · exfalso; omega
                          · exfalso; omega
                        · have n280 : 1 ≤ S237 1118 1 ∧ S237 1118 1 ≤ 3 := by omega
                          clear o268
                          refine zz_if_eq (by omega) zd_14_104_177 (fun c281 => ?_) (fun c281 => ?_)
                          · exfalso; omega
                          · refine zz_iconst zd_14_104_180 ?_
                            refine zz_goto zd_14_104_181 ?_
                            refine zz_istore [some (.ref 1079), some (zi 1), some (zi 0), some (zi v228), some (zi 0), some (zi ((S237 1118 6) + (16 * (S237 1118 7)))), some (zi ((10 * (S237 1118 0)) + (S237 1118 1))), some (zi 1)] zd_14_104_185 (by decide) rfl ?_
                            refine zz_iconst zd_14_104_187 ?_
                            refine zz_istore [some (.ref 1079), some (zi 1), some (zi 0), some (zi v228), some (zi 0), some (zi ((S237 1118 6) + (16 * (S237 1118 7)))), some (zi ((10 * (S237 1118 0)) + (S237 1118 1))), some (zi 1), some (zi (-1))] zd_14_104_188 (by decide) rfl ?_
                            refine zz_iload_n (x := 1) rfl zd_14_104_190 ?_
                            refine zz_if_eq (by omega) zd_14_104_191 (fun c282 => ?_) (fun c282 => ?_)
                            · exfalso; omega
                            · refine zz_aload_n (x := 1079) rfl zd_14_104_194 ?_
                              have g283 := zz_G.r G_S237 1079 65 0 255 rfl rfl
                              refine zz_geti (z := S237 1079 65) zd_14_104_195 zf_Md_567 zT_1079 rfl (zz_ltn hn rfl) rfl ?_
                              refine zz_bipush (by decide) zd_14_104_198 ?_
                              refine zz_iand (by omega) (by omega) zd_14_104_200 (fun v284 hv284 av284 bv284 ev284 => ?_)
                              refine zz_bipush (by decide) zd_14_104_201 ?_
                              refine zz_icmp_ne (by omega) (by omega) zd_14_104_203 (fun c285 => ?_) (fun c285 => ?_)
                              · refine zz_iconst zd_14_104_255 ?_
                                have g286 := zz_G.r G_S0 1079 36 0 11 rfl rfl
                                have e287 : S237 1079 36 = S0 1079 36 := (zz_rc fS237 rfl rfl (fun h => h) (zz_rc fS227 rfl rfl (fun h => h) (zz_rc fS222 rfl rfl (fun h => h) rfl)))
                                exact zz_zret zd_14_104_256 rfl (by omega) (Nat.zero_le _) (Nat.zero_le _) ⟨_, _, rfl, G_S237, F_S237, by omega, by omega, R_S237⟩
                              · refine zz_iload (x := 1) rfl zd_14_104_206 ?_
                                refine zz_if_eq (by omega) zd_14_104_208 (fun c288 => ?_) (fun c288 => ?_)
                                · exfalso; omega
                                · refine zz_aload_n (x := 1079) rfl zd_14_104_211 ?_
                                  refine zz_getr (kd := 0) (z := 1118) zd_14_104_212 zf_Md_136 zT_1079 rfl (zz_ltn hn rfl) (zz_G.eq G_S237 1079 63 1118 rfl rfl) (by decide) 1118 rfl ?_
                                  refine zz_iconst zd_14_104_215 ?_
                                  have g289 := zz_G.r G_S237 1118 4 0 9999 rfl rfl
                                  refine zz_iald (z := S237 1118 4) zd_14_104_216 zT_1118 rfl (zz_ltn hn rfl) (by decide) (by decide) rfl ?_
                                  refine zz_i2l (by omega) zd_14_104_217 ?_
                                  refine zz_lconst (z := 1) (by decide) zd_14_104_218 ?_
                                  refine zz_ldc2 (z := 2) zq_Md_169 (by decide) zd_14_104_219 ?_
                                  refine zz_callSI [zl (S237 1118 4), zl 1, zl 2] zd_14_104_222 zk_Md_192 rfl rfl ⟨Nat.le_of_ble_eq_true rfl, Nat.le_of_ble_eq_true rfl⟩ ⟨rfl, rfl⟩ (Nat.zero_le _) (Nat.zero_le _) (zc_in_14_4 (S237 1118 4) 1 2 S237 n hn G_S237 (by omega) (by omega) (by omega)) (fun v291 S290 hP => ?_)
                                  obtain ⟨rfl, o292, o293⟩ := hP
                                  rcases (by omega : v291 = 0 ∨ v291 = 1) with rfl | rfl
                                  · have n294 : S237 1118 4 < 1 ∨ 2 < S237 1118 4 := by omega
                                    clear o293
                                    refine zz_if_eq (by omega) zd_14_104_225 (fun c295 => ?_) (fun c295 => ?_)
                                    · refine zz_iconst zd_14_104_255 ?_
                                      have g296 := zz_G.r G_S0 1079 36 0 11 rfl rfl
                                      have e297 : S237 1079 36 = S0 1079 36 := (zz_rc fS237 rfl rfl (fun h => h) (zz_rc fS227 rfl rfl (fun h => h) (zz_rc fS222 rfl rfl (fun h => h) rfl)))
                                      exact zz_zret zd_14_104_256 rfl (by omega) (Nat.zero_le _) (Nat.zero_le _) ⟨_, _, rfl, G_S237, F_S237, by omega, by omega, R_S237⟩
                                    · exfalso; omega
                                  · have n298 : 1 ≤ S237 1118 4 ∧ S237 1118 4 ≤ 2 := by omega
                                    clear o293
                                    refine zz_if_eq (by omega) zd_14_104_225 (fun c299 => ?_) (fun c299 => ?_)
                                    · exfalso; omega
                                    · refine zz_aload_n (x := 1079) rfl zd_14_104_228 ?_
                                      refine zz_getr (kd := 0) (z := 1118) zd_14_104_229 zf_Md_136 zT_1079 rfl (zz_ltn hn rfl) (zz_G.eq G_S237 1079 63 1118 rfl rfl) (by decide) 1118 rfl ?_
                                      refine zz_iconst zd_14_104_232 ?_
                                      have g300 := zz_G.r G_S237 1118 5 0 9999 rfl rfl
                                      refine zz_iald (z := S237 1118 5) zd_14_104_233 zT_1118 rfl (zz_ltn hn rfl) (by decide) (by decide) rfl ?_
                                      refine zz_i2l (by omega) zd_14_104_234 ?_
                                      refine zz_lconst (z := 0) (by decide) zd_14_104_235 ?_
                                      refine zz_lconst (z := 1) (by decide) zd_14_104_236 ?_
                                      refine zz_callSI [zl (S237 1118 5), zl 0, zl 1] zd_14_104_237 zk_Md_192 rfl rfl ⟨Nat.le_of_ble_eq_true rfl, Nat.le_of_ble_eq_true rfl⟩ ⟨rfl, rfl⟩ (Nat.zero_le _) (Nat.zero_le _) (zc_in_14_4 (S237 1118 5) 0 1 S237 n hn G_S237 (by omega) (by omega) (by omega)) (fun v302 S301 hP => ?_)
                                      obtain ⟨rfl, o303, o304⟩ := hP
                                      rcases (by omega : v302 = 0 ∨ v302 = 1) with rfl | rfl
                                      · have n305 : S237 1118 5 < 0 ∨ 1 < S237 1118 5 := by omega
                                        clear o304
                                        refine zz_if_eq (by omega) zd_14_104_240 (fun c306 => ?_) (fun c306 => ?_)
                                        · refine zz_iconst zd_14_104_255 ?_
                                          have g307 := zz_G.r G_S0 1079 36 0 11 rfl rfl
                                          have e308 : S237 1079 36 = S0 1079 36 := (zz_rc fS237 rfl rfl (fun h => h) (zz_rc fS227 rfl rfl (fun h => h) (zz_rc fS222 rfl rfl (fun h => h) rfl)))
                                          exact zz_zret zd_14_104_256 rfl (by omega) (Nat.zero_le _) (Nat.zero_le _) ⟨_, _, rfl, G_S237, F_S237, by omega, by omega, R_S237⟩
                                        · exfalso; omega
                                      · have n309 : 0 ≤ S237 1118 5 ∧ S237 1118 5 ≤ 1 := by omega
                                        clear o304
                                        refine zz_if_eq (by omega) zd_14_104_240 (fun c310 => ?_) (fun c310 => ?_)
                                        · exfalso; omega
                                        · refine zz_aload_n (x := 1079) rfl zd_14_104_243 ?_
                                          refine zz_getr (kd := 0) (z := 1118) zd_14_104_244 zf_Md_136 zT_1079 rfl (zz_ltn hn rfl) (zz_G.eq G_S237 1079 63 1118 rfl rfl) (by decide) 1118 rfl ?_
                                          refine zz_bipush (by decide) zd_14_104_247 ?_
                                          refine zz_iald (z := S237 1118 6) zd_14_104_249 zT_1118 rfl (zz_ltn hn rfl) (by decide) (by decide) rfl ?_
                                          refine zz_bipush (by decide) zd_14_104_250 ?_
                                          refine zz_icmp_le (by omega) (by omega) zd_14_104_252 (fun c311 => ?_) (fun c311 => ?_)
                                          · refine zz_aload_n (x := 1079) rfl zd_14_104_257 ?_
                                            refine zz_iload_n (x := v228) rfl zd_14_104_258 ?_
                                            refine zz_iload (x := (10 * (S237 1118 0)) + (S237 1118 1)) rfl zd_14_104_259 ?_
                                            refine zz_aload_n (x := 1079) rfl zd_14_104_261 ?_
                                            refine zz_getr (kd := 0) (z := 1118) zd_14_104_262 zf_Md_136 zT_1079 rfl (zz_ltn hn rfl) (zz_G.eq G_S237 1079 63 1118 rfl rfl) (by decide) 1118 rfl ?_
                                            refine zz_iconst zd_14_104_265 ?_
                                            have g312 := zz_G.r G_S237 1118 2 0 9999 rfl rfl
                                            refine zz_iald (z := S237 1118 2) zd_14_104_266 zT_1118 rfl (zz_ltn hn rfl) (by decide) (by decide) rfl ?_
                                            refine zz_bipush (by decide) zd_14_104_267 ?_
                                            refine zz_aload_n (x := 1079) rfl zd_14_104_269 ?_
                                            refine zz_getr (kd := 0) (z := 1118) zd_14_104_270 zf_Md_136 zT_1079 rfl (zz_ltn hn rfl) (zz_G.eq G_S237 1079 63 1118 rfl rfl) (by decide) 1118 rfl ?_
                                            refine zz_iconst zd_14_104_273 ?_
                                            refine zz_iald (z := S237 1118 4) zd_14_104_274 zT_1118 rfl (zz_ltn hn rfl) (by decide) (by decide) rfl ?_
                                            refine zz_imul zd_14_104_275 ?_
                                            refine zz_aload_n (x := 1079) rfl zd_14_104_276 ?_
                                            refine zz_getr (kd := 0) (z := 1118) zd_14_104_277 zf_Md_136 zT_1079 rfl (zz_ltn hn rfl) (zz_G.eq G_S237 1079 63 1118 rfl rfl) (by decide) 1118 rfl ?_
                                            refine zz_iconst zd_14_104_280 ?_
                                            refine zz_iald (z := S237 1118 5) zd_14_104_281 zT_1118 rfl (zz_ltn hn rfl) (by decide) (by decide) rfl ?_
                                            refine zz_iadd zd_14_104_282 ?_
                                            refine zz_iload (x := (S237 1118 6) + (16 * (S237 1118 7))) rfl zd_14_104_283 ?_
                                            refine zz_aload_n (x := 1079) rfl zd_14_104_285 ?_
                                            refine zz_getr (kd := 0) (z := 1118) zd_14_104_286 zf_Md_136 zT_1079 rfl (zz_ltn hn rfl) (zz_G.eq G_S237 1079 63 1118 rfl rfl) (by decide) 1118 rfl ?_
                                            refine zz_iconst zd_14_104_289 ?_
                                            have g313 := zz_G.r G_S237 1118 3 0 9999 rfl rfl
                                            refine zz_iald (z := S237 1118 3) zd_14_104_290 zT_1118 rfl (zz_ltn hn rfl) (by decide) (by decide) rfl ?_
                                            have g314 := zz_G.r G_S0 1079 36 0 11 rfl rfl
                                            have e315 : S237 1079 36 = S0 1079 36 := (zz_rc fS237 rfl rfl (fun h => h) (zz_rc fS227 rfl rfl (fun h => h) (zz_rc fS222 rfl rfl (fun h => h) rfl)))
                                            refine zz_callVI [zi v228, zi ((10 * (S237 1118 0)) + (S237 1118 1)), zi (S237 1118 2), zi ((10 * (S237 1118 4)) + (S237 1118 5)), zi ((S237 1118 6) + (16 * (S237 1118 7))), zi (S237 1118 3)] zd_14_104_291 zk_Md_585 zT_1079 (zz_ltn hn rfl) rfl rfl ⟨Nat.le_of_ble_eq_true rfl, Nat.le_of_ble_eq_true rfl⟩ ⟨rfl, rfl⟩ (Nat.zero_le _) (Nat.zero_le _) (zc_convolution_14_67 v228 ((10 * (S237 1118 0)) + (S237 1118 1)) (S237 1118 2) ((10 * (S237 1118 4)) + (S237 1118 5)) ((S237 1118 6) + (16 * (S237 1118 7))) (S237 1118 3) S237 n hn G_S237 (by omega) (by omega) (by omega) (by omega) (by omega) (by omega) R_S237) (fun v317 S316 hP => ?_)
                                            obtain ⟨G_S316, fS316, o318, o319, o320⟩ := hP
                                            have F_S316 := zz_fr.trans F_S237 fS316 rfl (fun a i h => by rcases h with h | h | h | h | h | h | h | h | h | h | h | h; exact Or.inr (Or.inl (by rw [h.1]; rfl)); exact Or.inr (Or.inl (by rw [h.1]; rfl)); exact Or.inr (Or.inl (by rw [h.1]; rfl)); exact Or.inr (Or.inl (by rw [h.1]; rfl)); exact Or.inr (Or.inl (by rw [h.1]; rfl)); exact Or.inr (Or.inl (by rw [h.1]; rfl)); exact Or.inr (Or.inl (by rw [h.1]; rfl)); exact Or.inr (Or.inl (by rw [h.1]; rfl)); exact Or.inr (Or.inl (by rw [h.1]; rfl)); exact Or.inr (Or.inl (by rw [h.1]; rfl)); exact Or.inr (Or.inl (by rw [h.1]; rfl)); exact Or.inr (Or.inl (by rw [h.1]; rfl)))
                                            have R_S316 : zz_Hr S316 := o320
                                            refine zz_istore [some (.ref 1079), some (zi 1), some (zi 0), some (zi v228), some (zi 0), some (zi ((S237 1118 6) + (16 * (S237 1118 7)))), some (zi ((10 * (S237 1118 0)) + (S237 1118 1))), some (zi 1), some (zi v317)] zd_14_104_294 (by decide) rfl ?_
                                            refine zz_goto zd_14_104_296 ?_
                                            refine zz_aload_n (x := 1079) rfl zd_14_104_362 ?_
                                            have g321 := zz_G.r G_S316 1079 0 0 3 rfl rfl
                                            refine zz_geti (z := S316 1079 0) zd_14_104_363 zf_Md_187 zT_1079 rfl (zz_ltn hn rfl) rfl ?_
                                            refine zz_if_le (by omega) zd_14_104_366 (fun c322 => ?_) (fun c322 => ?_)
                                            · refine zz_aload_n (x := 1079) rfl zd_14_104_371 ?_
                                              refine zz_getr (kd := 0) (z := 1117) zd_14_104_372 zf_Md_133 zT_1079 rfl (zz_ltn hn rfl) (zz_G.eq G_S316 1079 62 1117 rfl rfl) (by decide) 1117 rfl ?_
                                              refine zz_iload (x := v317) rfl zd_14_104_375 ?_
                                              refine zz_aload_n (x := 1079) rfl zd_14_104_377 ?_
                                              have g323 := zz_G.r G_S237 1079 64 (-9223372036854775808) 9223372036854775807 rfl rfl
                                              refine zz_getl (z := S237 1079 64) zd_14_104_378 zf_Md_564 zT_1079 rfl (zz_ltn hn rfl) (zz_rc fS316 rfl rfl (by omega) rfl) ?_
                                              refine zz_last zd_14_104_381 zT_1117 rfl (zz_ltn hn rfl) (by decide) (by omega) (fun S324 qS324 => ?_)
                                              have G_S324 := zz_G.put G_S316 qS324 (-9223372036854775808) 9223372036854775807 rfl (by omega)
                                              have F_S324 := zz_fr.putc F_S316 qS324 rfl
                                              have R_S324 : zz_Hr S324 := zz_Hr.fr (zz_fr.put1 qS324) rfl rfl (fun b j h => by omega) R_S316
                                              refine zz_iconst zd_14_104_382 ?_
                                              have g325 := zz_G.r G_S316 1079 36 0 11 rfl rfl
                                              have e326 : S324 1079 36 = S316 1079 36 := (zz_ro qS324 (fun h => absurd h.1 (by decide)) rfl)
                                              exact zz_zret zd_14_104_383 rfl (by omega) (Nat.zero_le _) (Nat.zero_le _) ⟨_, _, rfl, G_S324, F_S324, by omega, by omega, R_S324⟩
                                            · refine zz_iconst zd_14_104_369 ?_
                                              have g327 := zz_G.r G_S316 1079 36 0 11 rfl rfl
                                              exact zz_zret zd_14_104_370 rfl (by omega) (Nat.zero_le _) (Nat.zero_le _) ⟨_, _, rfl, G_S316, F_S316, by omega, by omega, R_S316⟩
                                          · refine zz_iconst zd_14_104_255 ?_
                                            have g328 := zz_G.r G_S0 1079 36 0 11 rfl rfl
                                            have e329 : S237 1079 36 = S0 1079 36 := (zz_rc fS237 rfl rfl (fun h => h) (zz_rc fS227 rfl rfl (fun h => h) (zz_rc fS222 rfl rfl (fun h => h) rfl)))
                                            exact zz_zret zd_14_104_256 rfl (by omega) (Nat.zero_le _) (Nat.zero_le _) ⟨_, _, rfl, G_S237, F_S237, by omega, by omega, R_S237⟩
                  · exfalso; omega
        · exfalso; omega
      · exfalso; omega
    · refine zz_istore_n [some (.ref 1079), some (zi 1), some (zi 1)] zd_14_104_15 (by decide) rfl ?_
      refine zz_iload_n (x := 1) rfl zd_14_104_16 ?_
      refine zz_if_ne (by omega) zd_14_104_17 (fun c330 => ?_) (fun c330 => ?_)
      · refine zz_aload_n (x := 1079) rfl zd_14_104_36 ?_
        have g331 := zz_G.r G_S0 1079 32 0 1500 rfl rfl
        refine zz_callVV [] zd_14_104_37 zk_Md_526 zT_1079 (zz_ltn hn rfl) rfl rfl ⟨Nat.le_of_ble_eq_true rfl, Nat.le_of_ble_eq_true rfl⟩ ⟨rfl, rfl⟩ (Nat.zero_le _) (Nat.zero_le _) (zc_advanceNet_14_93  S0 n hn G_S0 ) (fun S332 hP => ?_)
        obtain ⟨G_S332, fS332, o334⟩ := hP
        have F_S332 := zz_fr.trans F_S0 fS332 rfl zz_nv
        have R_S332 : zz_Hr S332 := zz_Hr.fr fS332 rfl rfl (fun b j h => h.elim) R_S0
        refine zz_aload_n (x := 1079) rfl zd_14_104_40 ?_
        have g335 := zz_G.r G_S332 1079 30 0 102 rfl rfl
        have g336 := zz_G.r G_S332 1079 32 0 1500 rfl rfl
        refine zz_callVI [] zd_14_104_41 zk_Md_582 zT_1079 (zz_ltn hn rfl) rfl rfl ⟨Nat.le_of_ble_eq_true rfl, Nat.le_of_ble_eq_true rfl⟩ ⟨rfl, rfl⟩ (Nat.zero_le _) (Nat.zero_le _) (zc_takeTensor_14_102  S332 n hn G_S332 ) (fun v338 S337 hP => ?_)
        obtain ⟨G_S337, fS337, o339, o340⟩ := hP
        have F_S337 := zz_fr.trans F_S332 fS337 rfl zz_nv
        have R_S337 : zz_Hr S337 := zz_Hr.fr fS337 rfl rfl (fun b j h => h.elim) R_S332
        refine zz_istore_n [some (.ref 1079), some (zi 1), some (zi 1), some (zi v338)] zd_14_104_44 (by decide) rfl ?_
        refine zz_iload_n (x := 1) rfl zd_14_104_45 ?_
        refine zz_if_ne (by omega) zd_14_104_46 (fun c341 => ?_) (fun c341 => ?_)
        · refine zz_iconst zd_14_104_64 ?_
          refine zz_istore [some (.ref 1079), some (zi 1), some (zi 1), some (zi v338), some (zi 0)] zd_14_104_65 (by decide) rfl ?_
          refine zz_iload_n (x := v338) rfl zd_14_104_67 ?_
          refine zz_if_lt (by omega) zd_14_104_68 (fun c342 => ?_) (fun c342 => ?_)
          · refine zz_iconst zd_14_104_106 ?_
            have g343 := zz_G.r G_S0 1079 36 0 11 rfl rfl
            have e344 : S337 1079 36 = S0 1079 36 := (zz_rc fS337 rfl rfl (fun h => h) (zz_rc fS332 rfl rfl (fun h => h) rfl))
            exact zz_zret zd_14_104_107 rfl (by omega) (Nat.zero_le _) (Nat.zero_le _) ⟨_, _, rfl, G_S337, F_S337, by omega, by omega, R_S337⟩
          · refine zz_iload (x := 0) rfl zd_14_104_71 ?_
            refine zz_if_lt (by omega) zd_14_104_73 (fun c345 => ?_) (fun c345 => ?_)
            · exfalso; omega
            · refine zz_aload_n (x := 1079) rfl zd_14_104_76 ?_
              refine zz_iload_n (x := 1) rfl zd_14_104_77 ?_
              refine zz_if_eq (by omega) zd_14_104_78 (fun c346 => ?_) (fun c346 => ?_)
              · exfalso; omega
              · refine zz_sipush (by decide) zd_14_104_81 ?_
                refine zz_goto zd_14_104_84 ?_
                refine zz_callVI [zi 255] zd_14_104_100 zk_Md_576 zT_1079 (zz_ltn hn rfl) rfl rfl ⟨Nat.le_of_ble_eq_true rfl, Nat.le_of_ble_eq_true rfl⟩ ⟨rfl, rfl⟩ (Nat.zero_le _) (Nat.zero_le _) (zc_takeParts_14_101 255 S337 n hn G_S337 (by omega)) (fun v348 S347 hP => ?_)
                obtain ⟨G_S347, fS347, o349⟩ := hP
                have F_S347 := zz_fr.trans F_S337 fS347 rfl zz_nv
                have R_S347 : zz_Hr S347 := zz_Hr.fr fS347 rfl rfl (fun b j h => h.elim) R_S337
                rcases (by omega : v348 = 0 ∨ v348 = 1) with rfl | rfl
                · refine zz_if_ne (by omega) zd_14_104_103 (fun c350 => ?_) (fun c350 => ?_)
                  · exfalso; omega
                  · refine zz_iconst zd_14_104_106 ?_
                    have g351 := zz_G.r G_S0 1079 36 0 11 rfl rfl
                    have e352 : S347 1079 36 = S0 1079 36 := (zz_rc fS347 rfl rfl (fun h => h) (zz_rc fS337 rfl rfl (fun h => h) (zz_rc fS332 rfl rfl (fun h => h) rfl)))
                    exact zz_zret zd_14_104_107 rfl (by omega) (Nat.zero_le _) (Nat.zero_le _) ⟨_, _, rfl, G_S347, F_S347, by omega, by omega, R_S347⟩
                · refine zz_if_ne (by omega) zd_14_104_103 (fun c353 => ?_) (fun c353 => ?_)
                  · refine zz_aload_n (x := 1079) rfl zd_14_104_108 ?_
                    refine zz_getr (kd := 0) (z := 1118) zd_14_104_109 zf_Md_136 zT_1079 rfl (zz_ltn hn rfl) (zz_G.eq G_S347 1079 63 1118 rfl rfl) (by decide) 1118 rfl ?_
                    refine zz_bipush (by decide) zd_14_104_112 ?_
                    have g354 := zz_G.r G_S347 1118 6 0 9999 rfl rfl
                    refine zz_iald (z := S347 1118 6) zd_14_104_114 zT_1118 rfl (zz_ltn hn rfl) (by decide) (by decide) rfl ?_
                    refine zz_bipush (by decide) zd_14_104_115 ?_
                    refine zz_aload_n (x := 1079) rfl zd_14_104_117 ?_
                    refine zz_getr (kd := 0) (z := 1118) zd_14_104_118 zf_Md_136 zT_1079 rfl (zz_ltn hn rfl) (zz_G.eq G_S347 1079 63 1118 rfl rfl) (by decide) 1118 rfl ?_
                    refine zz_bipush (by decide) zd_14_104_121 ?_
                    have g355 := zz_G.r G_S347 1118 7 0 9999 rfl rfl
                    refine zz_iald (z := S347 1118 7) zd_14_104_123 zT_1118 rfl (zz_ltn hn rfl) (by decide) (by decide) rfl ?_
                    refine zz_imul zd_14_104_124 ?_
                    refine zz_iadd zd_14_104_125 ?_
                    refine zz_istore [some (.ref 1079), some (zi 1), some (zi 1), some (zi v338), some (zi 0), some (zi ((S347 1118 6) + (16 * (S347 1118 7))))] zd_14_104_126 (by decide) rfl ?_
                    refine zz_bipush (by decide) zd_14_104_128 ?_
                    refine zz_aload_n (x := 1079) rfl zd_14_104_130 ?_
                    refine zz_getr (kd := 0) (z := 1118) zd_14_104_131 zf_Md_136 zT_1079 rfl (zz_ltn hn rfl) (zz_G.eq G_S347 1079 63 1118 rfl rfl) (by decide) 1118 rfl ?_
                    refine zz_iconst zd_14_104_134 ?_
                    have g356 := zz_G.r G_S347 1118 0 0 9999 rfl rfl
                    refine zz_iald (z := S347 1118 0) zd_14_104_135 zT_1118 rfl (zz_ltn hn rfl) (by decide) (by decide) rfl ?_
                    refine zz_imul zd_14_104_136 ?_
                    refine zz_aload_n (x := 1079) rfl zd_14_104_137 ?_
                    refine zz_getr (kd := 0) (z := 1118) zd_14_104_138 zf_Md_136 zT_1079 rfl (zz_ltn hn rfl) (zz_G.eq G_S347 1079 63 1118 rfl rfl) (by decide) 1118 rfl ?_
                    refine zz_iconst zd_14_104_141 ?_
                    have g357 := zz_G.r G_S347 1118 1 0 9999 rfl rfl
                    refine zz_iald (z := S347 1118 1) zd_14_104_142 zT_1118 rfl (zz_ltn hn rfl) (by decide) (by decide) rfl ?_
                    refine zz_iadd zd_14_104_143 ?_
                    refine zz_istore [some (.ref 1079), some (zi 1), some (zi 1), some (zi v338), some (zi 0), some (zi ((S347 1118 6) + (16 * (S347 1118 7)))), some (zi ((10 * (S347 1118 0)) + (S347 1118 1)))] zd_14_104_144 (by decide) rfl ?_
                    refine zz_aload_n (x := 1079) rfl zd_14_104_146 ?_
                    refine zz_getr (kd := 0) (z := 1118) zd_14_104_147 zf_Md_136 zT_1079 rfl (zz_ltn hn rfl) (zz_G.eq G_S347 1079 63 1118 rfl rfl) (by decide) 1118 rfl ?_
                    refine zz_iconst zd_14_104_150 ?_
                    refine zz_iald (z := S347 1118 0) zd_14_104_151 zT_1118 rfl (zz_ltn hn rfl) (by decide) (by decide) rfl ?_
                    refine zz_i2l (by omega) zd_14_104_152 ?_
                    refine zz_lconst (z := 1) (by decide) zd_14_104_153 ?_
                    refine zz_ldc2 (z := 3) zq_Md_416 (by decide) zd_14_104_154 ?_
                    refine zz_callSI [zl (S347 1118 0), zl 1, zl 3] zd_14_104_157 zk_Md_192 rfl rfl ⟨Nat.le_of_ble_eq_true rfl, Nat.le_of_ble_eq_true rfl⟩ ⟨rfl, rfl⟩ (Nat.zero_le _) (Nat.zero_le _) (zc_in_14_4 (S347 1118 0) 1 3 S347 n hn G_S347 (by omega) (by omega) (by omega)) (fun v359 S358 hP => ?_)
                    obtain ⟨rfl, o360, o361⟩ := hP
                    rcases (by omega : v359 = 0 ∨ v359 = 1) with rfl | rfl
                    · have n362 : S347 1118 0 < 1 ∨ 3 < S347 1118 0 := by omega
                      clear o361
                      refine zz_if_eq (by omega) zd_14_104_160 (fun c363 => ?_) (fun c363 => ?_)
                      · refine zz_iconst zd_14_104_184 ?_
                        refine zz_istore [some (.ref 1079), some (zi 1), some (zi 1), some (zi v338), some (zi 0), some (zi ((S347 1118 6) + (16 * (S347 1118 7)))), some (zi ((10 * (S347 1118 0)) + (S347 1118 1))), some (zi 0)] zd_14_104_185 (by decide) rfl ?_
                        refine zz_iconst zd_14_104_187 ?_
                        refine zz_istore [some (.ref 1079), some (zi 1), some (zi 1), some (zi v338), some (zi 0), some (zi ((S347 1118 6) + (16 * (S347 1118 7)))), some (zi ((10 * (S347 1118 0)) + (S347 1118 1))), some (zi 0), some (zi (-1))] zd_14_104_188 (by decide) rfl ?_
                        refine zz_iload_n (x := 1) rfl zd_14_104_190 ?_
                        refine zz_if_eq (by omega) zd_14_104_191 (fun c364 => ?_) (fun c364 => ?_)
                        · exfalso; omega
                        · refine zz_aload_n (x := 1079) rfl zd_14_104_194 ?_
                          have g365 := zz_G.r G_S347 1079 65 0 255 rfl rfl
                          refine zz_geti (z := S347 1079 65) zd_14_104_195 zf_Md_567 zT_1079 rfl (zz_ltn hn rfl) rfl ?_
                          refine zz_bipush (by decide) zd_14_104_198 ?_
                          refine zz_iand (by omega) (by omega) zd_14_104_200 (fun v366 hv366 av366 bv366 ev366 => ?_)
                          refine zz_bipush (by decide) zd_14_104_201 ?_
                          refine zz_icmp_ne (by omega) (by omega) zd_14_104_203 (fun c367 => ?_) (fun c367 => ?_)
                          · refine zz_iconst zd_14_104_255 ?_
                            have g368 := zz_G.r G_S0 1079 36 0 11 rfl rfl
                            have e369 : S347 1079 36 = S0 1079 36 := (zz_rc fS347 rfl rfl (fun h => h) (zz_rc fS337 rfl rfl (fun h => h) (zz_rc fS332 rfl rfl (fun h => h) rfl)))
                            exact zz_zret zd_14_104_256 rfl (by omega) (Nat.zero_le _) (Nat.zero_le _) ⟨_, _, rfl, G_S347, F_S347, by omega, by omega, R_S347⟩
                          · refine zz_iload (x := 0) rfl zd_14_104_206 ?_
                            refine zz_if_eq (by omega) zd_14_104_208 (fun c370 => ?_) (fun c370 => ?_)
                            · refine zz_iconst zd_14_104_255 ?_
                              have g371 := zz_G.r G_S0 1079 36 0 11 rfl rfl
                              have e372 : S347 1079 36 = S0 1079 36 := (zz_rc fS347 rfl rfl (fun h => h) (zz_rc fS337 rfl rfl (fun h => h) (zz_rc fS332 rfl rfl (fun h => h) rfl)))
                              exact zz_zret zd_14_104_256 rfl (by omega) (Nat.zero_le _) (Nat.zero_le _) ⟨_, _, rfl, G_S347, F_S347, by omega, by omega, R_S347⟩
                            · exfalso; omega
                      · exfalso; omega
                    · have n373 : 1 ≤ S347 1118 0 ∧ S347 1118 0 ≤ 3 := by omega
                      clear o361
                      refine zz_if_eq (by omega) zd_14_104_160 (fun c374 => ?_) (fun c374 => ?_)
                      · exfalso; omega
                      · refine zz_aload_n (x := 1079) rfl zd_14_104_163 ?_
                        refine zz_getr (kd := 0) (z := 1118) zd_14_104_164 zf_Md_136 zT_1079 rfl (zz_ltn hn rfl) (zz_G.eq G_S347 1079 63 1118 rfl rfl) (by decide) 1118 rfl ?_
                        refine zz_iconst zd_14_104_167 ?_
                        refine zz_iald (z := S347 1118 1) zd_14_104_168 zT_1118 rfl (zz_ltn hn rfl) (by decide) (by decide) rfl ?_
                        refine zz_i2l (by omega) zd_14_104_169 ?_
                        refine zz_lconst (z := 1) (by decide) zd_14_104_170 ?_
                        refine zz_ldc2 (z := 3) zq_Md_416 (by decide) zd_14_104_171 ?_
                        refine zz_callSI [zl (S347 1118 1), zl 1, zl 3] zd_14_104_174 zk_Md_192 rfl rfl ⟨Nat.le_of_ble_eq_true rfl, Nat.le_of_ble_eq_true rfl⟩ ⟨rfl, rfl⟩ (Nat.zero_le _) (Nat.zero_le _) (zc_in_14_4 (S347 1118 1) 1 3 S347 n hn G_S347 (by omega) (by omega) (by omega)) (fun v376 S375 hP => ?_)
                        obtain ⟨rfl, o377, o378⟩ := hP
                        rcases (by omega : v376 = 0 ∨ v376 = 1) with rfl | rfl
                        · have n379 : S347 1118 1 < 1 ∨ 3 < S347 1118 1 := by omega
                          clear o378
                          refine zz_if_eq (by omega) zd_14_104_177 (fun c380 => ?_) (fun c380 => ?_)
                          · refine zz_iconst zd_14_104_184 ?_
                            refine zz_istore [some (.ref 1079), some (zi 1), some (zi 1), some (zi v338), some (zi 0), some (zi ((S347 1118 6) + (16 * (S347 1118 7)))), some (zi ((10 * (S347 1118 0)) + (S347 1118 1))), some (zi 0)] zd_14_104_185 (by decide) rfl ?_
                            refine zz_iconst zd_14_104_187 ?_
                            refine zz_istore [some (.ref 1079), some (zi 1), some (zi 1), some (zi v338), some (zi 0), some (zi ((S347 1118 6) + (16 * (S347 1118 7)))), some (zi ((10 * (S347 1118 0)) + (S347 1118 1))), some (zi 0), some (zi (-1))] zd_14_104_188 (by decide) rfl ?_
                            refine zz_iload_n (x := 1) rfl zd_14_104_190 ?_
                            refine zz_if_eq (by omega) zd_14_104_191 (fun c381 => ?_) (fun c381 => ?_)
                            · exfalso; omega
                            · refine zz_aload_n (x := 1079) rfl zd_14_104_194 ?_
                              have g382 := zz_G.r G_S347 1079 65 0 255 rfl rfl
                              refine zz_geti (z := S347 1079 65) zd_14_104_195 zf_Md_567 zT_1079 rfl (zz_ltn hn rfl) rfl ?_
                              refine zz_bipush (by decide) zd_14_104_198 ?_
                              refine zz_iand (by omega) (by omega) zd_14_104_200 (fun v383 hv383 av383 bv383 ev383 => ?_)
                              refine zz_bipush (by decide) zd_14_104_201 ?_
                              refine zz_icmp_ne (by omega) (by omega) zd_14_104_203 (fun c384 => ?_) (fun c384 => ?_)
                              · refine zz_iconst zd_14_104_255 ?_
                                have g385 := zz_G.r G_S0 1079 36 0 11 rfl rfl
                                have e386 : S347 1079 36 = S0 1079 36 := (zz_rc fS347 rfl rfl (fun h => h) (zz_rc fS337 rfl rfl (fun h => h) (zz_rc fS332 rfl rfl (fun h => h) rfl)))
                                exact zz_zret zd_14_104_256 rfl (by omega) (Nat.zero_le _) (Nat.zero_le _) ⟨_, _, rfl, G_S347, F_S347, by omega, by omega, R_S347⟩
                              · refine zz_iload (x := 0) rfl zd_14_104_206 ?_
                                refine zz_if_eq (by omega) zd_14_104_208 (fun c387 => ?_) (fun c387 => ?_)
                                · refine zz_iconst zd_14_104_255 ?_
                                  have g388 := zz_G.r G_S0 1079 36 0 11 rfl rfl
                                  have e389 : S347 1079 36 = S0 1079 36 := (zz_rc fS347 rfl rfl (fun h => h) (zz_rc fS337 rfl rfl (fun h => h) (zz_rc fS332 rfl rfl (fun h => h) rfl)))
                                  exact zz_zret zd_14_104_256 rfl (by omega) (Nat.zero_le _) (Nat.zero_le _) ⟨_, _, rfl, G_S347, F_S347, by omega, by omega, R_S347⟩
                                · exfalso; omega
                          · exfalso; omega
                        · have n390 : 1 ≤ S347 1118 1 ∧ S347 1118 1 ≤ 3 := by omega
                          clear o378
                          refine zz_if_eq (by omega) zd_14_104_177 (fun c391 => ?_) (fun c391 => ?_)
                          · exfalso; omega
                          · refine zz_iconst zd_14_104_180 ?_
                            refine zz_goto zd_14_104_181 ?_
                            refine zz_istore [some (.ref 1079), some (zi 1), some (zi 1), some (zi v338), some (zi 0), some (zi ((S347 1118 6) + (16 * (S347 1118 7)))), some (zi ((10 * (S347 1118 0)) + (S347 1118 1))), some (zi 1)] zd_14_104_185 (by decide) rfl ?_
                            refine zz_iconst zd_14_104_187 ?_
                            refine zz_istore [some (.ref 1079), some (zi 1), some (zi 1), some (zi v338), some (zi 0), some (zi ((S347 1118 6) + (16 * (S347 1118 7)))), some (zi ((10 * (S347 1118 0)) + (S347 1118 1))), some (zi 1), some (zi (-1))] zd_14_104_188 (by decide) rfl ?_
                            refine zz_iload_n (x := 1) rfl zd_14_104_190 ?_
                            refine zz_if_eq (by omega) zd_14_104_191 (fun c392 => ?_) (fun c392 => ?_)
                            · exfalso; omega
                            · refine zz_aload_n (x := 1079) rfl zd_14_104_194 ?_
                              have g393 := zz_G.r G_S347 1079 65 0 255 rfl rfl
                              refine zz_geti (z := S347 1079 65) zd_14_104_195 zf_Md_567 zT_1079 rfl (zz_ltn hn rfl) rfl ?_
                              refine zz_bipush (by decide) zd_14_104_198 ?_
                              refine zz_iand (by omega) (by omega) zd_14_104_200 (fun v394 hv394 av394 bv394 ev394 => ?_)
                              refine zz_bipush (by decide) zd_14_104_201 ?_
                              refine zz_icmp_ne (by omega) (by omega) zd_14_104_203 (fun c395 => ?_) (fun c395 => ?_)
                              · refine zz_iconst zd_14_104_255 ?_
                                have g396 := zz_G.r G_S0 1079 36 0 11 rfl rfl
                                have e397 : S347 1079 36 = S0 1079 36 := (zz_rc fS347 rfl rfl (fun h => h) (zz_rc fS337 rfl rfl (fun h => h) (zz_rc fS332 rfl rfl (fun h => h) rfl)))
                                exact zz_zret zd_14_104_256 rfl (by omega) (Nat.zero_le _) (Nat.zero_le _) ⟨_, _, rfl, G_S347, F_S347, by omega, by omega, R_S347⟩
                              · refine zz_iload (x := 1) rfl zd_14_104_206 ?_
                                refine zz_if_eq (by omega) zd_14_104_208 (fun c398 => ?_) (fun c398 => ?_)
                                · exfalso; omega
                                · refine zz_aload_n (x := 1079) rfl zd_14_104_211 ?_
                                  refine zz_getr (kd := 0) (z := 1118) zd_14_104_212 zf_Md_136 zT_1079 rfl (zz_ltn hn rfl) (zz_G.eq G_S347 1079 63 1118 rfl rfl) (by decide) 1118 rfl ?_
                                  refine zz_iconst zd_14_104_215 ?_
                                  have g399 := zz_G.r G_S347 1118 4 0 9999 rfl rfl
                                  refine zz_iald (z := S347 1118 4) zd_14_104_216 zT_1118 rfl (zz_ltn hn rfl) (by decide) (by decide) rfl ?_
                                  refine zz_i2l (by omega) zd_14_104_217 ?_
                                  refine zz_lconst (z := 1) (by decide) zd_14_104_218 ?_
                                  refine zz_ldc2 (z := 2) zq_Md_169 (by decide) zd_14_104_219 ?_
                                  refine zz_callSI [zl (S347 1118 4), zl 1, zl 2] zd_14_104_222 zk_Md_192 rfl rfl ⟨Nat.le_of_ble_eq_true rfl, Nat.le_of_ble_eq_true rfl⟩ ⟨rfl, rfl⟩ (Nat.zero_le _) (Nat.zero_le _) (zc_in_14_4 (S347 1118 4) 1 2 S347 n hn G_S347 (by omega) (by omega) (by omega)) (fun v401 S400 hP => ?_)
                                  obtain ⟨rfl, o402, o403⟩ := hP
                                  rcases (by omega : v401 = 0 ∨ v401 = 1) with rfl | rfl
                                  · have n404 : S347 1118 4 < 1 ∨ 2 < S347 1118 4 := by omega
                                    clear o403
                                    refine zz_if_eq (by omega) zd_14_104_225 (fun c405 => ?_) (fun c405 => ?_)
                                    · refine zz_iconst zd_14_104_255 ?_
                                      have g406 := zz_G.r G_S0 1079 36 0 11 rfl rfl
                                      have e407 : S347 1079 36 = S0 1079 36 := (zz_rc fS347 rfl rfl (fun h => h) (zz_rc fS337 rfl rfl (fun h => h) (zz_rc fS332 rfl rfl (fun h => h) rfl)))
                                      exact zz_zret zd_14_104_256 rfl (by omega) (Nat.zero_le _) (Nat.zero_le _) ⟨_, _, rfl, G_S347, F_S347, by omega, by omega, R_S347⟩
                                    · exfalso; omega
                                  · have n408 : 1 ≤ S347 1118 4 ∧ S347 1118 4 ≤ 2 := by omega
                                    clear o403
                                    refine zz_if_eq (by omega) zd_14_104_225 (fun c409 => ?_) (fun c409 => ?_)
                                    · exfalso; omega
                                    · refine zz_aload_n (x := 1079) rfl zd_14_104_228 ?_
                                      refine zz_getr (kd := 0) (z := 1118) zd_14_104_229 zf_Md_136 zT_1079 rfl (zz_ltn hn rfl) (zz_G.eq G_S347 1079 63 1118 rfl rfl) (by decide) 1118 rfl ?_
                                      refine zz_iconst zd_14_104_232 ?_
                                      have g410 := zz_G.r G_S347 1118 5 0 9999 rfl rfl
                                      refine zz_iald (z := S347 1118 5) zd_14_104_233 zT_1118 rfl (zz_ltn hn rfl) (by decide) (by decide) rfl ?_
                                      refine zz_i2l (by omega) zd_14_104_234 ?_
                                      refine zz_lconst (z := 0) (by decide) zd_14_104_235 ?_
                                      refine zz_lconst (z := 1) (by decide) zd_14_104_236 ?_
                                      refine zz_callSI [zl (S347 1118 5), zl 0, zl 1] zd_14_104_237 zk_Md_192 rfl rfl ⟨Nat.le_of_ble_eq_true rfl, Nat.le_of_ble_eq_true rfl⟩ ⟨rfl, rfl⟩ (Nat.zero_le _) (Nat.zero_le _) (zc_in_14_4 (S347 1118 5) 0 1 S347 n hn G_S347 (by omega) (by omega) (by omega)) (fun v412 S411 hP => ?_)
                                      obtain ⟨rfl, o413, o414⟩ := hP
                                      rcases (by omega : v412 = 0 ∨ v412 = 1) with rfl | rfl
                                      · have n415 : S347 1118 5 < 0 ∨ 1 < S347 1118 5 := by omega
                                        clear o414
                                        refine zz_if_eq (by omega) zd_14_104_240 (fun c416 => ?_) (fun c416 => ?_)
                                        · refine zz_iconst zd_14_104_255 ?_
                                          have g417 := zz_G.r G_S0 1079 36 0 11 rfl rfl
                                          have e418 : S347 1079 36 = S0 1079 36 := (zz_rc fS347 rfl rfl (fun h => h) (zz_rc fS337 rfl rfl (fun h => h) (zz_rc fS332 rfl rfl (fun h => h) rfl)))
                                          exact zz_zret zd_14_104_256 rfl (by omega) (Nat.zero_le _) (Nat.zero_le _) ⟨_, _, rfl, G_S347, F_S347, by omega, by omega, R_S347⟩
                                        · exfalso; omega
                                      · have n419 : 0 ≤ S347 1118 5 ∧ S347 1118 5 ≤ 1 := by omega
                                        clear o414
                                        refine zz_if_eq (by omega) zd_14_104_240 (fun c420 => ?_) (fun c420 => ?_)
                                        · exfalso; omega
                                        · refine zz_aload_n (x := 1079) rfl zd_14_104_243 ?_
                                          refine zz_getr (kd := 0) (z := 1118) zd_14_104_244 zf_Md_136 zT_1079 rfl (zz_ltn hn rfl) (zz_G.eq G_S347 1079 63 1118 rfl rfl) (by decide) 1118 rfl ?_
                                          refine zz_bipush (by decide) zd_14_104_247 ?_
                                          refine zz_iald (z := S347 1118 6) zd_14_104_249 zT_1118 rfl (zz_ltn hn rfl) (by decide) (by decide) rfl ?_
                                          refine zz_bipush (by decide) zd_14_104_250 ?_
                                          refine zz_icmp_le (by omega) (by omega) zd_14_104_252 (fun c421 => ?_) (fun c421 => ?_)
                                          · refine zz_aload_n (x := 1079) rfl zd_14_104_257 ?_
                                            refine zz_iload_n (x := v338) rfl zd_14_104_258 ?_
                                            refine zz_iload (x := (10 * (S347 1118 0)) + (S347 1118 1)) rfl zd_14_104_259 ?_
                                            refine zz_aload_n (x := 1079) rfl zd_14_104_261 ?_
                                            refine zz_getr (kd := 0) (z := 1118) zd_14_104_262 zf_Md_136 zT_1079 rfl (zz_ltn hn rfl) (zz_G.eq G_S347 1079 63 1118 rfl rfl) (by decide) 1118 rfl ?_
                                            refine zz_iconst zd_14_104_265 ?_
                                            have g422 := zz_G.r G_S347 1118 2 0 9999 rfl rfl
                                            refine zz_iald (z := S347 1118 2) zd_14_104_266 zT_1118 rfl (zz_ltn hn rfl) (by decide) (by decide) rfl ?_
                                            refine zz_bipush (by decide) zd_14_104_267 ?_
                                            refine zz_aload_n (x := 1079) rfl zd_14_104_269 ?_
                                            refine zz_getr (kd := 0) (z := 1118) zd_14_104_270 zf_Md_136 zT_1079 rfl (zz_ltn hn rfl) (zz_G.eq G_S347 1079 63 1118 rfl rfl) (by decide) 1118 rfl ?_
                                            refine zz_iconst zd_14_104_273 ?_
                                            refine zz_iald (z := S347 1118 4) zd_14_104_274 zT_1118 rfl (zz_ltn hn rfl) (by decide) (by decide) rfl ?_
                                            refine zz_imul zd_14_104_275 ?_
                                            refine zz_aload_n (x := 1079) rfl zd_14_104_276 ?_
                                            refine zz_getr (kd := 0) (z := 1118) zd_14_104_277 zf_Md_136 zT_1079 rfl (zz_ltn hn rfl) (zz_G.eq G_S347 1079 63 1118 rfl rfl) (by decide) 1118 rfl ?_
                                            refine zz_iconst zd_14_104_280 ?_
                                            refine zz_iald (z := S347 1118 5) zd_14_104_281 zT_1118 rfl (zz_ltn hn rfl) (by decide) (by decide) rfl ?_
                                            refine zz_iadd zd_14_104_282 ?_
                                            refine zz_iload (x := (S347 1118 6) + (16 * (S347 1118 7))) rfl zd_14_104_283 ?_
                                            refine zz_aload_n (x := 1079) rfl zd_14_104_285 ?_
                                            refine zz_getr (kd := 0) (z := 1118) zd_14_104_286 zf_Md_136 zT_1079 rfl (zz_ltn hn rfl) (zz_G.eq G_S347 1079 63 1118 rfl rfl) (by decide) 1118 rfl ?_
                                            refine zz_iconst zd_14_104_289 ?_
                                            have g423 := zz_G.r G_S347 1118 3 0 9999 rfl rfl
                                            refine zz_iald (z := S347 1118 3) zd_14_104_290 zT_1118 rfl (zz_ltn hn rfl) (by decide) (by decide) rfl ?_
                                            have g424 := zz_G.r G_S0 1079 36 0 11 rfl rfl
                                            have e425 : S347 1079 36 = S0 1079 36 := (zz_rc fS347 rfl rfl (fun h => h) (zz_rc fS337 rfl rfl (fun h => h) (zz_rc fS332 rfl rfl (fun h => h) rfl)))
                                            refine zz_callVI [zi v338, zi ((10 * (S347 1118 0)) + (S347 1118 1)), zi (S347 1118 2), zi ((10 * (S347 1118 4)) + (S347 1118 5)), zi ((S347 1118 6) + (16 * (S347 1118 7))), zi (S347 1118 3)] zd_14_104_291 zk_Md_585 zT_1079 (zz_ltn hn rfl) rfl rfl ⟨Nat.le_of_ble_eq_true rfl, Nat.le_of_ble_eq_true rfl⟩ ⟨rfl, rfl⟩ (Nat.zero_le _) (Nat.zero_le _) (zc_convolution_14_67 v338 ((10 * (S347 1118 0)) + (S347 1118 1)) (S347 1118 2) ((10 * (S347 1118 4)) + (S347 1118 5)) ((S347 1118 6) + (16 * (S347 1118 7))) (S347 1118 3) S347 n hn G_S347 (by omega) (by omega) (by omega) (by omega) (by omega) (by omega) R_S347) (fun v427 S426 hP => ?_)
                                            obtain ⟨G_S426, fS426, o428, o429, o430⟩ := hP
                                            have F_S426 := zz_fr.trans F_S347 fS426 rfl (fun a i h => by rcases h with h | h | h | h | h | h | h | h | h | h | h | h; exact Or.inr (Or.inl (by rw [h.1]; rfl)); exact Or.inr (Or.inl (by rw [h.1]; rfl)); exact Or.inr (Or.inl (by rw [h.1]; rfl)); exact Or.inr (Or.inl (by rw [h.1]; rfl)); exact Or.inr (Or.inl (by rw [h.1]; rfl)); exact Or.inr (Or.inl (by rw [h.1]; rfl)); exact Or.inr (Or.inl (by rw [h.1]; rfl)); exact Or.inr (Or.inl (by rw [h.1]; rfl)); exact Or.inr (Or.inl (by rw [h.1]; rfl)); exact Or.inr (Or.inl (by rw [h.1]; rfl)); exact Or.inr (Or.inl (by rw [h.1]; rfl)); exact Or.inr (Or.inl (by rw [h.1]; rfl)))
                                            have R_S426 : zz_Hr S426 := o430
                                            refine zz_istore [some (.ref 1079), some (zi 1), some (zi 1), some (zi v338), some (zi 0), some (zi ((S347 1118 6) + (16 * (S347 1118 7)))), some (zi ((10 * (S347 1118 0)) + (S347 1118 1))), some (zi 1), some (zi v427)] zd_14_104_294 (by decide) rfl ?_
                                            refine zz_goto zd_14_104_296 ?_
                                            refine zz_aload_n (x := 1079) rfl zd_14_104_362 ?_
                                            have g431 := zz_G.r G_S426 1079 0 0 3 rfl rfl
                                            refine zz_geti (z := S426 1079 0) zd_14_104_363 zf_Md_187 zT_1079 rfl (zz_ltn hn rfl) rfl ?_
                                            refine zz_if_le (by omega) zd_14_104_366 (fun c432 => ?_) (fun c432 => ?_)
                                            · refine zz_aload_n (x := 1079) rfl zd_14_104_371 ?_
                                              refine zz_getr (kd := 0) (z := 1117) zd_14_104_372 zf_Md_133 zT_1079 rfl (zz_ltn hn rfl) (zz_G.eq G_S426 1079 62 1117 rfl rfl) (by decide) 1117 rfl ?_
                                              refine zz_iload (x := v427) rfl zd_14_104_375 ?_
                                              refine zz_aload_n (x := 1079) rfl zd_14_104_377 ?_
                                              have g433 := zz_G.r G_S347 1079 64 (-9223372036854775808) 9223372036854775807 rfl rfl
                                              refine zz_getl (z := S347 1079 64) zd_14_104_378 zf_Md_564 zT_1079 rfl (zz_ltn hn rfl) (zz_rc fS426 rfl rfl (by omega) rfl) ?_
                                              refine zz_last zd_14_104_381 zT_1117 rfl (zz_ltn hn rfl) (by decide) (by omega) (fun S434 qS434 => ?_)
                                              have G_S434 := zz_G.put G_S426 qS434 (-9223372036854775808) 9223372036854775807 rfl (by omega)
                                              have F_S434 := zz_fr.putc F_S426 qS434 rfl
                                              have R_S434 : zz_Hr S434 := zz_Hr.fr (zz_fr.put1 qS434) rfl rfl (fun b j h => by omega) R_S426
                                              refine zz_iconst zd_14_104_382 ?_
                                              have g435 := zz_G.r G_S426 1079 36 0 11 rfl rfl
                                              have e436 : S434 1079 36 = S426 1079 36 := (zz_ro qS434 (fun h => absurd h.1 (by decide)) rfl)
                                              exact zz_zret zd_14_104_383 rfl (by omega) (Nat.zero_le _) (Nat.zero_le _) ⟨_, _, rfl, G_S434, F_S434, by omega, by omega, R_S434⟩
                                            · refine zz_iconst zd_14_104_369 ?_
                                              have g437 := zz_G.r G_S426 1079 36 0 11 rfl rfl
                                              exact zz_zret zd_14_104_370 rfl (by omega) (Nat.zero_le _) (Nat.zero_le _) ⟨_, _, rfl, G_S426, F_S426, by omega, by omega, R_S426⟩
                                          · refine zz_iconst zd_14_104_255 ?_
                                            have g438 := zz_G.r G_S0 1079 36 0 11 rfl rfl
                                            have e439 : S347 1079 36 = S0 1079 36 := (zz_rc fS347 rfl rfl (fun h => h) (zz_rc fS337 rfl rfl (fun h => h) (zz_rc fS332 rfl rfl (fun h => h) rfl)))
                                            exact zz_zret zd_14_104_256 rfl (by omega) (Nat.zero_le _) (Nat.zero_le _) ⟨_, _, rfl, G_S347, F_S347, by omega, by omega, R_S347⟩
                  · exfalso; omega
        · exfalso; omega
      · exfalso; omega
abbrev zy_network_14_105 : mm_Y := (⟨"TensorForgeModel", "network", "()I"⟩, prog_14_method_105_code, 6, (some .int))
theorem zyw_network_14_105 : mm_Yw zy_network_14_105 0 := ⟨mm_tb_1 2187 (by decide +kernel) rfl, mm_tb_1 12 (by decide +kernel) rfl, ⟨by decide, by decide⟩, by decide +kernel⟩
theorem zd_14_105_0 : zz_D zy_network_14_105 0 (.aload_n 0) 1 1 := ⟨by decide +kernel, rfl⟩
theorem zd_14_105_1 : zz_D zy_network_14_105 1 (.iconst 0) 1 2 := ⟨by decide +kernel, rfl⟩
theorem zd_14_105_2 : zz_D zy_network_14_105 2 (.putfield 187) 3 5 := ⟨by decide +kernel, rfl⟩
theorem zd_14_105_5 : zz_D zy_network_14_105 5 (.aload_n 0) 1 6 := ⟨by decide +kernel, rfl⟩
theorem zd_14_105_6 : zz_D zy_network_14_105 6 (.iconst 0) 1 7 := ⟨by decide +kernel, rfl⟩
theorem zd_14_105_7 : zz_D zy_network_14_105 7 (.invokevirtual 595) 3 10 := ⟨by decide +kernel, rfl⟩
abbrev zy_keepNetwork_14_91 : mm_Y := (⟨"TensorForgeModel", "keepNetwork", "(Z)V"⟩, prog_14_method_91_code, 2, none)
theorem zyw_keepNetwork_14_91 : mm_Yw zy_keepNetwork_14_91 1 := ⟨mm_tb_1 2191 (by decide +kernel) rfl, mm_tb_1 12 (by decide +kernel) rfl, ⟨by decide, by decide⟩, by decide +kernel⟩
theorem zd_14_91_0 : zz_D zy_keepNetwork_14_91 0 (.aload_n 0) 1 1 := ⟨by decide +kernel, rfl⟩
theorem zd_14_91_1 : zz_D zy_keepNetwork_14_91 1 (.iload_n 1) 1 2 := ⟨by decide +kernel, rfl⟩
theorem zd_14_91_2 : zz_B zy_keepNetwork_14_91 2 (Instr.ifCond .eq) 12 5 := ⟨10, by decide +kernel, rfl, rfl⟩
theorem zd_14_91_12 : zz_D zy_keepNetwork_14_91 12 (.aload_n 0) 1 13 := ⟨by decide +kernel, rfl⟩
theorem zd_14_91_13 : zz_D zy_keepNetwork_14_91 13 (.getfield 85) 3 16 := ⟨by decide +kernel, rfl⟩
theorem zd_14_91_16 : zz_D zy_keepNetwork_14_91 16 (.putfield 515) 3 19 := ⟨by decide +kernel, rfl⟩
theorem zf_Md_515 : mm_Fl "TensorForgeModel" 515 11 66 .int false := ⟨R_Md, F_Md, 69, t_Md, rfl, i_Md, by decide, mm_tb_1 1677 (by decide +kernel) rfl, rfl, t_Md_ok, n_Md, rfl, by decide +kernel⟩
theorem zd_14_91_19 : zz_D zy_keepNetwork_14_91 19 (.aload_n 0) 1 20 := ⟨by decide +kernel, rfl⟩
theorem zd_14_91_20 : zz_D zy_keepNetwork_14_91 20 (.aload_n 0) 1 21 := ⟨by decide +kernel, rfl⟩
theorem zd_14_91_21 : zz_D zy_keepNetwork_14_91 21 (.getfield 515) 3 24 := ⟨by decide +kernel, rfl⟩
theorem zd_14_91_24 : zz_D zy_keepNetwork_14_91 24 (.putfield 85) 3 27 := ⟨by decide +kernel, rfl⟩
theorem zd_14_91_27 : zz_D zy_keepNetwork_14_91 27 (.aload_n 0) 1 28 := ⟨by decide +kernel, rfl⟩
theorem zd_14_91_28 : zz_D zy_keepNetwork_14_91 28 (.aload_n 0) 1 29 := ⟨by decide +kernel, rfl⟩
theorem zd_14_91_29 : zz_D zy_keepNetwork_14_91 29 (.getfield 88) 3 32 := ⟨by decide +kernel, rfl⟩
theorem zd_14_91_32 : zz_D zy_keepNetwork_14_91 32 (.bipush 11) 2 34 := ⟨by decide +kernel, rfl⟩
theorem zd_14_91_34 : zz_D zy_keepNetwork_14_91 34 (.iconst 0) 1 35 := ⟨by decide +kernel, rfl⟩
theorem zd_14_91_35 : zz_D zy_keepNetwork_14_91 35 (.iload_n 1) 1 36 := ⟨by decide +kernel, rfl⟩
theorem zd_14_91_36 : zz_D zy_keepNetwork_14_91 36 (.invokevirtual 518) 3 39 := ⟨by decide +kernel, rfl⟩
abbrev zy_keepRow_14_92 : mm_Y := (⟨"TensorForgeModel", "keepRow", "([IIIZ)V"⟩, prog_14_method_92_code, 6, none)
theorem zyw_keepRow_14_92 : mm_Yw zy_keepRow_14_92 4 := ⟨mm_tb_1 2195 (by decide +kernel) rfl, mm_tb_1 12 (by decide +kernel) rfl, ⟨by decide, by decide⟩, by decide +kernel⟩
theorem zd_14_92_0 : zz_D zy_keepRow_14_92 0 (.iconst 0) 1 1 := ⟨by decide +kernel, rfl⟩
theorem zd_14_92_1 : zz_D zy_keepRow_14_92 1 (.istore 5) 2 3 := ⟨by decide +kernel, rfl⟩
theorem zd_14_92_3 : zz_D zy_keepRow_14_92 3 (.iload 5) 2 5 := ⟨by decide +kernel, rfl⟩
theorem zd_14_92_5 : zz_D zy_keepRow_14_92 5 (.iload_n 2) 1 6 := ⟨by decide +kernel, rfl⟩
theorem zd_14_92_6 : zz_B zy_keepRow_14_92 6 (Instr.if_icmp .ge) 49 9 := ⟨43, by decide +kernel, rfl, rfl⟩
theorem zd_14_92_49 : zz_D zy_keepRow_14_92 49 (.return_) 1 50 := ⟨by decide +kernel, rfl⟩
theorem zd_14_92_9 : zz_D zy_keepRow_14_92 9 (.iload 4) 2 11 := ⟨by decide +kernel, rfl⟩
theorem zd_14_92_11 : zz_B zy_keepRow_14_92 11 (Instr.ifCond .eq) 30 14 := ⟨19, by decide +kernel, rfl, rfl⟩
theorem zd_14_92_30 : zz_D zy_keepRow_14_92 30 (.aload_n 0) 1 31 := ⟨by decide +kernel, rfl⟩
theorem zd_14_92_31 : zz_D zy_keepRow_14_92 31 (.getfield 139) 3 34 := ⟨by decide +kernel, rfl⟩
theorem zf_Md_139 : mm_Fl "TensorForgeModel" 139 11 67 (.array .int) true := ⟨R_Md, F_Md, 69, t_Md, rfl, i_Md, by decide, mm_tb_1 1678 (by decide +kernel) rfl, rfl, t_Md_ok, n_Md, rfl, by decide +kernel⟩
theorem zd_14_92_34 : zz_D zy_keepRow_14_92 34 (.iload_n 3) 1 35 := ⟨by decide +kernel, rfl⟩
theorem zd_14_92_35 : zz_D zy_keepRow_14_92 35 (.iload 5) 2 37 := ⟨by decide +kernel, rfl⟩
theorem zd_14_92_37 : zz_D zy_keepRow_14_92 37 (.iadd) 1 38 := ⟨by decide +kernel, rfl⟩
theorem zd_14_92_38 : zz_D zy_keepRow_14_92 38 (.aload_n 1) 1 39 := ⟨by decide +kernel, rfl⟩
theorem zd_14_92_39 : zz_D zy_keepRow_14_92 39 (.iload 5) 2 41 := ⟨by decide +kernel, rfl⟩
theorem zd_14_92_41 : zz_D zy_keepRow_14_92 41 (.iaload) 1 42 := ⟨by decide +kernel, rfl⟩
theorem zd_14_92_42 : zz_D zy_keepRow_14_92 42 (.iastore) 1 43 := ⟨by decide +kernel, rfl⟩
theorem zd_14_92_43 : zz_D zy_keepRow_14_92 43 (.iinc 5 1) 3 46 := ⟨by decide +kernel, rfl⟩
theorem zd_14_92_46 : zz_B zy_keepRow_14_92 46 Instr.goto 3 49 := ⟨(-43), by decide +kernel, rfl, rfl⟩

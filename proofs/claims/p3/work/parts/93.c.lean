-- TensorForge$Compiler makeGroup (ZZ)V
abbrev zr_makeGroup_3_5 : Room := { frames := 3, cells := 0, slots := 0, locals := 48 }
def zp_makeGroup_3_5 (p0 : Int) (p1 : Int) (S0 : zz_S) : zz_S → Prop := fun S => zz_G S ∧ zz_fr [(1076, 1)] [] (fun a i => a = zz_rf 4 (S0 1076 0)) S0 S ∧ (S0 1076 1 ≤ S 1076 1 ∧ S 1076 1 ≤ S0 1076 1 + 7)
theorem zc_makeGroup_3_5 {g : mm_G} {l : Launch} (p0 : Int) (p1 : Int) (S0 : zz_S) (n : Nat) (hn : zz_end ≤ n) (G_S0 : zz_G S0) (hp0 : 0 ≤ p0 ∧ p0 ≤ 1) (hp1 : 0 ≤ p1 ∧ p1 ≤ 1) (hq : S0 1076 1 ≤ 900000) (hl : 0 ≤ S0 1076 3 ∧ 0 ≤ S0 1076 4 ∧ 0 ≤ S0 1076 5) : mm_Met g l zy_makeGroup_3_5 zr_makeGroup_3_5 [.ref 1076, zi p0, zi p1] (zz_M S0 n) n (zz_QV n (zp_makeGroup_3_5 p0 p1 S0)) := by
  refine zz_enter (by decide) (Nat.le_of_ble_eq_true rfl) (zz_less (ls1 := [some (.ref 1076), some (zi p0), some (zi p1)]) ⟨rfl, ⟨rfl, ⟨rfl, trivial⟩⟩⟩ ?_)
  have F_S0 : zz_fr [(1076, 1)] [] (fun a i => a = zz_rf 4 (S0 1076 0)) S0 S0 := zz_fr.refl
  refine zz_aload_n (x := 1076) rfl zd_3_5_0 ?_
  have g1 := zz_G.r G_S0 1076 1 0 1000000 rfl rfl
  refine zz_geti (z := S0 1076 1) zd_3_5_1 zf_Compiler_15 zT_1076 rfl (zz_ltn hn rfl) rfl ?_
  refine zz_istore_n [some (.ref 1076), some (zi p0), some (zi p1), some (zi (S0 1076 1))] zd_3_5_4 (by decide) rfl ?_
  refine zz_aload_n (x := 1076) rfl zd_3_5_5 ?_
  have g2 := zz_G.r G_S0 1076 3 (-1) 23 rfl rfl
  refine zz_getr (kd := 4) (z := S0 1076 3) zd_3_5_6 zf_Compiler_51 zT_1076 rfl (zz_ltn hn rfl) rfl (by omega) (zz_rf 6 (S0 1076 3)) rfl ?_
  have g3 := zz_G.r G_S0 (zz_rf 6 (S0 1076 3)) 0 (-2147483648) 2147483647 (zR_k6_0 (by omega)) (zB_k6 (by omega))
  refine zz_geti (z := S0 (zz_rf 6 (S0 1076 3)) 0) zd_3_5_9 zf_Compiler_61 (zT_k6 (by omega)) rfl (zN_k6 hn (by omega)) rfl ?_
  refine zz_iconst zd_3_5_12 ?_
  refine zz_icmp_ne (by omega) (by omega) zd_3_5_13 (fun c4 => ?_) (fun c4 => ?_)
  · refine zz_aload_n (x := 1076) rfl zd_3_5_32 ?_
    refine zz_getr (kd := 4) (z := S0 1076 3) zd_3_5_33 zf_Compiler_51 zT_1076 rfl (zz_ltn hn rfl) rfl (by omega) (zz_rf 6 (S0 1076 3)) rfl ?_
    refine zz_geti (z := S0 (zz_rf 6 (S0 1076 3)) 0) zd_3_5_36 zf_Compiler_61 (zT_k6 (by omega)) rfl (zN_k6 hn (by omega)) rfl ?_
    refine zz_iconst zd_3_5_39 ?_
    refine zz_icmp_ne (by omega) (by omega) zd_3_5_40 (fun c5 => ?_) (fun c5 => ?_)
    · refine zz_aload_n (x := 1076) rfl zd_3_5_54 ?_
      have g6 := zz_G.r G_S0 1076 14 (-2147483648) 2147483647 rfl rfl
      refine zz_geti (z := S0 1076 14) zd_3_5_55 zf_Compiler_109 zT_1076 rfl (zz_ltn hn rfl) rfl ?_
      refine zz_if_ne (by omega) zd_3_5_58 (fun c7 => ?_) (fun c7 => ?_)
      · refine zz_aload_n (x := 1076) rfl zd_3_5_68 ?_
        have g8 := zz_G.r G_S0 1076 5 (-1) 23 rfl rfl
        refine zz_getr (kd := 4) (z := S0 1076 5) zd_3_5_69 zf_Compiler_58 zT_1076 rfl (zz_ltn hn rfl) rfl (by omega) (zz_rf 6 (S0 1076 5)) rfl ?_
        refine zz_astore [some (.ref 1076), some (zi p0), some (zi p1), some (zi (S0 1076 1)), some (.ref (zz_rf 6 (S0 1076 5)))] zd_3_5_72 (by decide) rfl ?_
        refine zz_aload_n (x := 1076) rfl zd_3_5_74 ?_
        refine zz_iconst zd_3_5_75 ?_
        refine zz_aload_n (x := 1076) rfl zd_3_5_76 ?_
        have g9 := zz_G.r G_S0 1076 11 (-2147483648) 2147483647 rfl rfl
        refine zz_geti (z := S0 1076 11) zd_3_5_77 zf_Compiler_91 zT_1076 rfl (zz_ltn hn rfl) rfl ?_
        refine zz_aload (x := zz_rf 6 (S0 1076 5)) rfl zd_3_5_80 ?_
        refine zz_iconst zd_3_5_82 ?_
        refine zz_aload_n (x := 1076) rfl zd_3_5_83 ?_
        have g10 := zz_G.r G_S0 1076 10 (-2147483648) 2147483647 rfl rfl
        refine zz_geti (z := S0 1076 10) zd_3_5_84 zf_Compiler_88 zT_1076 rfl (zz_ltn hn rfl) rfl ?_
        refine zz_aload_n (x := 1076) rfl zd_3_5_87 ?_
        have g11 := zz_G.r G_S0 1076 7 (-2147483648) 2147483647 rfl rfl
        refine zz_geti (z := S0 1076 7) zd_3_5_88 zf_Compiler_76 zT_1076 rfl (zz_ltn hn rfl) rfl ?_
        refine zz_callVI [zi 0, zi (S0 1076 10), zi (S0 1076 7)] zd_3_5_91 zk_Compiler_147 (zT_k6 (by omega)) (zN_k6 hn (by omega)) rfl rfl ⟨Nat.le_of_ble_eq_true rfl, Nat.le_of_ble_eq_true rfl⟩ ⟨rfl, rfl⟩ (Nat.zero_le _) (Nat.zero_le _) (zc_cellAt_4_15 (S0 1076 5) 0 (S0 1076 10) (S0 1076 7) S0 n hn G_S0 (by omega) (by omega) (by omega) (by omega)) (fun v13 S12 hP => ?_)
        obtain ⟨rfl, o14⟩ := hP
        refine zz_aload (x := zz_rf 6 (S0 1076 5)) rfl zd_3_5_94 ?_
        have g15 := zz_G.r G_S0 (zz_rf 6 (S0 1076 5)) 12 (-2147483648) 2147483647 (zR_k6_12 (by omega)) (zB_k6 (by omega))
        refine zz_geti (z := S0 (zz_rf 6 (S0 1076 5)) 12) zd_3_5_96 zf_Compiler_79 (zT_k6 (by omega)) rfl (zN_k6 hn (by omega)) rfl ?_
        have g16 := zz_G.r G_S0 1076 4 (-1) 23 rfl rfl
        refine zz_callVV [zi 0, zi (S0 1076 11), zi v13, zi (S0 (zz_rf 6 (S0 1076 5)) 12)] zd_3_5_99 zk_Compiler_159 zT_1076 (zz_ltn hn rfl) rfl rfl ⟨Nat.le_of_ble_eq_true rfl, Nat.le_of_ble_eq_true rfl⟩ ⟨rfl, rfl⟩ (Nat.zero_le _) (Nat.zero_le _) (zc_loadPlaces_3_10 0 (S0 1076 11) v13 (S0 (zz_rf 6 (S0 1076 5)) 12) S0 n hn G_S0 (by omega) (by omega) (by omega) (by omega) (by omega) (by omega)) (fun S17 hP => ?_)
        obtain ⟨G_S17, fS17, o19⟩ := hP
        have F_S17 := zz_fr.trans F_S0 fS17 rfl (fun a i h => Or.inr (Or.inr (h)))
        refine zz_aload_n (x := 1076) rfl zd_3_5_102 ?_
        have g20 := zz_G.r G_S0 1076 12 (-2147483648) 2147483647 rfl rfl
        refine zz_geti (z := S0 1076 12) zd_3_5_103 zf_Compiler_73 zT_1076 rfl (zz_ltn hn rfl) (zz_rc fS17 rfl rfl (by omega) rfl) ?_
        refine zz_iconst zd_3_5_106 ?_
        refine zz_icmp_le (by omega) (by omega) zd_3_5_107 (fun c21 => ?_) (fun c21 => ?_)
        · refine zz_aload_n (x := 1076) rfl zd_3_5_116 ?_
          refine zz_aload_n (x := 1076) rfl zd_3_5_117 ?_
          have g22 := zz_G.r G_S17 1076 1 0 1000000 rfl rfl
          refine zz_geti (z := S17 1076 1) zd_3_5_118 zf_Compiler_15 zT_1076 rfl (zz_ltn hn rfl) rfl ?_
          refine zz_iconst zd_3_5_121 ?_
          refine zz_isub zd_3_5_122 ?_
          refine zz_iconst zd_3_5_123 ?_
          refine zz_callVV [zi ((S17 1076 1) - 1), zi 4] zd_3_5_124 zk_Compiler_163 zT_1076 (zz_ltn hn rfl) rfl rfl ⟨Nat.le_of_ble_eq_true rfl, Nat.le_of_ble_eq_true rfl⟩ ⟨rfl, rfl⟩ (Nat.zero_le _) (Nat.zero_le _) (zc_mark_3_16 ((S17 1076 1) - 1) 4 S17 n hn G_S17 (by omega) (by omega)) (fun S23 hP => ?_)
          obtain ⟨G_S23, fS23⟩ := hP
          have F_S23 := zz_fr.trans F_S17 fS23 rfl (fun a i h => Or.inr (Or.inr (h)))
          refine zz_aload_n (x := 1076) rfl zd_3_5_127 ?_
          refine zz_iload_n (x := p0) rfl zd_3_5_128 ?_
          have e25 : S23 1076 3 = S0 1076 3 := (zz_rc fS23 rfl rfl (by omega) (zz_rc fS17 rfl rfl (by omega) rfl))
          have e26 : S23 1076 4 = S0 1076 4 := (zz_rc fS23 rfl rfl (by omega) (zz_rc fS17 rfl rfl (by omega) rfl))
          have e27 : S23 1076 5 = S0 1076 5 := (zz_rc fS23 rfl rfl (by omega) (zz_rc fS17 rfl rfl (by omega) rfl))
          refine zz_callVJ [zi p0] zd_3_5_129 zk_Compiler_167 zT_1076 (zz_ltn hn rfl) rfl rfl ⟨Nat.le_of_ble_eq_true rfl, Nat.le_of_ble_eq_true rfl⟩ ⟨rfl, rfl⟩ (Nat.zero_le _) (Nat.zero_le _) (zc_workOf_3_11 p0 S23 n hn G_S23 (by omega) (by omega)) (fun v29 S28 hP => ?_)
          obtain ⟨rfl, o30⟩ := hP
          refine zz_iconst zd_3_5_132 ?_
          refine zz_callSJ [zi 1] zd_3_5_133 zk_Compiler_139 rfl rfl ⟨Nat.le_of_ble_eq_true rfl, Nat.le_of_ble_eq_true rfl⟩ ⟨rfl, rfl⟩ (Nat.zero_le _) (Nat.zero_le _) (zc_flag_12_5 1 S23 n hn G_S23 (by omega)) (fun v32 S31 hP => ?_)
          obtain ⟨rfl, o33⟩ := hP
          refine zz_lor zd_3_5_136 (fun v34 hv34 ev34 => ?_)
          refine zz_lstore [some (.ref 1076), some (zi p0), some (zi p1), some (zi (S0 1076 1)), some (zl v34), none] zd_3_5_137 (by decide) rfl ?_
          refine zz_aload_n (x := 1076) rfl zd_3_5_139 ?_
          refine zz_iload_n (x := p1) rfl zd_3_5_140 ?_
          refine zz_if_eq (by omega) zd_3_5_141 (fun c35 => ?_) (fun c35 => ?_)
          · refine zz_lload (x := v34) rfl zd_3_5_149 ?_
            refine zz_iconst zd_3_5_151 ?_
            refine zz_callSJ [zi 3] zd_3_5_152 zk_Compiler_139 rfl rfl ⟨Nat.le_of_ble_eq_true rfl, Nat.le_of_ble_eq_true rfl⟩ ⟨rfl, rfl⟩ (Nat.zero_le _) (Nat.zero_le _) (zc_flag_12_5 3 S23 n hn G_S23 (by omega)) (fun v37 S36 hP => ?_)
            obtain ⟨rfl, o38⟩ := hP
            refine zz_lor zd_3_5_155 (fun v39 hv39 ev39 => ?_)
            have e40 : S23 1076 1 = S17 1076 1 := (zz_rc fS23 rfl rfl (by omega) rfl)
            refine zz_callVV [zl v39] zd_3_5_156 zk_Compiler_143 zT_1076 (zz_ltn hn rfl) rfl rfl ⟨Nat.le_of_ble_eq_true rfl, Nat.le_of_ble_eq_true rfl⟩ ⟨rfl, rfl⟩ (Nat.zero_le _) (Nat.zero_le _) (zc_emit_3_15 v39 S23 n hn G_S23 (by omega) (by omega)) (fun S41 hP => ?_)
            obtain ⟨G_S41, fS41, o43⟩ := hP
            have F_S41 := zz_fr.trans F_S23 fS41 rfl (fun a i h => Or.inr (Or.inr (h)))
            have g44 := zz_G.r G_S41 1076 1 0 1000000 rfl rfl
            exact zz_vret zd_3_5_159 rfl (Nat.zero_le _) (Nat.zero_le _) ⟨_, rfl, G_S41, F_S41, by omega⟩
          · refine zz_lload (x := v34) rfl zd_3_5_144 ?_
            refine zz_goto zd_3_5_146 ?_
            have e45 : S23 1076 1 = S17 1076 1 := (zz_rc fS23 rfl rfl (by omega) rfl)
            refine zz_callVV [zl v34] zd_3_5_156 zk_Compiler_143 zT_1076 (zz_ltn hn rfl) rfl rfl ⟨Nat.le_of_ble_eq_true rfl, Nat.le_of_ble_eq_true rfl⟩ ⟨rfl, rfl⟩ (Nat.zero_le _) (Nat.zero_le _) (zc_emit_3_15 v34 S23 n hn G_S23 (by omega) (by omega)) (fun S46 hP => ?_)
            obtain ⟨G_S46, fS46, o48⟩ := hP
            have F_S46 := zz_fr.trans F_S23 fS46 rfl (fun a i h => Or.inr (Or.inr (h)))
            have g49 := zz_G.r G_S46 1076 1 0 1000000 rfl rfl
            exact zz_vret zd_3_5_159 rfl (Nat.zero_le _) (Nat.zero_le _) ⟨_, rfl, G_S46, F_S46, by omega⟩
        · refine zz_aload_n (x := 1076) rfl zd_3_5_110 ?_
          refine zz_iload_n (x := S0 1076 1) rfl zd_3_5_111 ?_
          refine zz_iconst zd_3_5_112 ?_
          refine zz_callVV [zi (S0 1076 1), zi 2] zd_3_5_113 zk_Compiler_163 zT_1076 (zz_ltn hn rfl) rfl rfl ⟨Nat.le_of_ble_eq_true rfl, Nat.le_of_ble_eq_true rfl⟩ ⟨rfl, rfl⟩ (Nat.zero_le _) (Nat.zero_le _) (zc_mark_3_16 (S0 1076 1) 2 S17 n hn G_S17 (by omega) (by omega)) (fun S50 hP => ?_)
          obtain ⟨G_S50, fS50⟩ := hP
          have F_S50 := zz_fr.trans F_S17 fS50 rfl (fun a i h => Or.inr (Or.inr (h)))
          refine zz_aload_n (x := 1076) rfl zd_3_5_116 ?_
          refine zz_aload_n (x := 1076) rfl zd_3_5_117 ?_
          have g52 := zz_G.r G_S17 1076 1 0 1000000 rfl rfl
          refine zz_geti (z := S17 1076 1) zd_3_5_118 zf_Compiler_15 zT_1076 rfl (zz_ltn hn rfl) (zz_rc fS50 rfl rfl (by omega) rfl) ?_
          refine zz_iconst zd_3_5_121 ?_
          refine zz_isub zd_3_5_122 ?_
          refine zz_iconst zd_3_5_123 ?_
          refine zz_callVV [zi ((S17 1076 1) - 1), zi 4] zd_3_5_124 zk_Compiler_163 zT_1076 (zz_ltn hn rfl) rfl rfl ⟨Nat.le_of_ble_eq_true rfl, Nat.le_of_ble_eq_true rfl⟩ ⟨rfl, rfl⟩ (Nat.zero_le _) (Nat.zero_le _) (zc_mark_3_16 ((S17 1076 1) - 1) 4 S50 n hn G_S50 (by omega) (by omega)) (fun S53 hP => ?_)
          obtain ⟨G_S53, fS53⟩ := hP
          have F_S53 := zz_fr.trans F_S50 fS53 rfl (fun a i h => Or.inr (Or.inr (h)))
          refine zz_aload_n (x := 1076) rfl zd_3_5_127 ?_
          refine zz_iload_n (x := p0) rfl zd_3_5_128 ?_
          have e55 : S53 1076 3 = S0 1076 3 := (zz_rc fS53 rfl rfl (by omega) (zz_rc fS50 rfl rfl (by omega) (zz_rc fS17 rfl rfl (by omega) rfl)))
          have e56 : S53 1076 4 = S0 1076 4 := (zz_rc fS53 rfl rfl (by omega) (zz_rc fS50 rfl rfl (by omega) (zz_rc fS17 rfl rfl (by omega) rfl)))
          have e57 : S53 1076 5 = S0 1076 5 := (zz_rc fS53 rfl rfl (by omega) (zz_rc fS50 rfl rfl (by omega) (zz_rc fS17 rfl rfl (by omega) rfl)))
          refine zz_callVJ [zi p0] zd_3_5_129 zk_Compiler_167 zT_1076 (zz_ltn hn rfl) rfl rfl ⟨Nat.le_of_ble_eq_true rfl, Nat.le_of_ble_eq_true rfl⟩ ⟨rfl, rfl⟩ (Nat.zero_le _) (Nat.zero_le _) (zc_workOf_3_11 p0 S53 n hn G_S53 (by omega) (by omega)) (fun v59 S58 hP => ?_)
          obtain ⟨rfl, o60⟩ := hP
          refine zz_iconst zd_3_5_132 ?_
          refine zz_callSJ [zi 1] zd_3_5_133 zk_Compiler_139 rfl rfl ⟨Nat.le_of_ble_eq_true rfl, Nat.le_of_ble_eq_true rfl⟩ ⟨rfl, rfl⟩ (Nat.zero_le _) (Nat.zero_le _) (zc_flag_12_5 1 S53 n hn G_S53 (by omega)) (fun v62 S61 hP => ?_)
          obtain ⟨rfl, o63⟩ := hP
          refine zz_lor zd_3_5_136 (fun v64 hv64 ev64 => ?_)
          refine zz_lstore [some (.ref 1076), some (zi p0), some (zi p1), some (zi (S0 1076 1)), some (zl v64), none] zd_3_5_137 (by decide) rfl ?_
          refine zz_aload_n (x := 1076) rfl zd_3_5_139 ?_
          refine zz_iload_n (x := p1) rfl zd_3_5_140 ?_
          refine zz_if_eq (by omega) zd_3_5_141 (fun c65 => ?_) (fun c65 => ?_)
          · refine zz_lload (x := v64) rfl zd_3_5_149 ?_
            refine zz_iconst zd_3_5_151 ?_
            refine zz_callSJ [zi 3] zd_3_5_152 zk_Compiler_139 rfl rfl ⟨Nat.le_of_ble_eq_true rfl, Nat.le_of_ble_eq_true rfl⟩ ⟨rfl, rfl⟩ (Nat.zero_le _) (Nat.zero_le _) (zc_flag_12_5 3 S53 n hn G_S53 (by omega)) (fun v67 S66 hP => ?_)
            obtain ⟨rfl, o68⟩ := hP
            refine zz_lor zd_3_5_155 (fun v69 hv69 ev69 => ?_)
            have e70 : S53 1076 1 = S17 1076 1 := (zz_rc fS53 rfl rfl (by omega) (zz_rc fS50 rfl rfl (by omega) rfl))
            refine zz_callVV [zl v69] zd_3_5_156 zk_Compiler_143 zT_1076 (zz_ltn hn rfl) rfl rfl ⟨Nat.le_of_ble_eq_true rfl, Nat.le_of_ble_eq_true rfl⟩ ⟨rfl, rfl⟩ (Nat.zero_le _) (Nat.zero_le _) (zc_emit_3_15 v69 S53 n hn G_S53 (by omega) (by omega)) (fun S71 hP => ?_)
            obtain ⟨G_S71, fS71, o73⟩ := hP
            have F_S71 := zz_fr.trans F_S53 fS71 rfl (fun a i h => Or.inr (Or.inr (h)))
            have g74 := zz_G.r G_S71 1076 1 0 1000000 rfl rfl
            exact zz_vret zd_3_5_159 rfl (Nat.zero_le _) (Nat.zero_le _) ⟨_, rfl, G_S71, F_S71, by omega⟩
          · refine zz_lload (x := v64) rfl zd_3_5_144 ?_
            refine zz_goto zd_3_5_146 ?_
            have e75 : S53 1076 1 = S17 1076 1 := (zz_rc fS53 rfl rfl (by omega) (zz_rc fS50 rfl rfl (by omega) rfl))
            refine zz_callVV [zl v64] zd_3_5_156 zk_Compiler_143 zT_1076 (zz_ltn hn rfl) rfl rfl ⟨Nat.le_of_ble_eq_true rfl, Nat.le_of_ble_eq_true rfl⟩ ⟨rfl, rfl⟩ (Nat.zero_le _) (Nat.zero_le _) (zc_emit_3_15 v64 S53 n hn G_S53 (by omega) (by omega)) (fun S76 hP => ?_)
            obtain ⟨G_S76, fS76, o78⟩ := hP
            have F_S76 := zz_fr.trans F_S53 fS76 rfl (fun a i h => Or.inr (Or.inr (h)))
            have g79 := zz_G.r G_S76 1076 1 0 1000000 rfl rfl
            exact zz_vret zd_3_5_159 rfl (Nat.zero_le _) (Nat.zero_le _) ⟨_, rfl, G_S76, F_S76, by omega⟩
      · refine zz_aload_n (x := 1076) rfl zd_3_5_61 ?_
        have g80 := zz_G.r G_S0 1076 4 (-1) 23 rfl rfl
        refine zz_getr (kd := 4) (z := S0 1076 4) zd_3_5_62 zf_Compiler_55 zT_1076 rfl (zz_ltn hn rfl) rfl (by omega) (zz_rf 6 (S0 1076 4)) rfl ?_
        refine zz_goto zd_3_5_65 ?_
        refine zz_astore [some (.ref 1076), some (zi p0), some (zi p1), some (zi (S0 1076 1)), some (.ref (zz_rf 6 (S0 1076 4)))] zd_3_5_72 (by decide) rfl ?_
        refine zz_aload_n (x := 1076) rfl zd_3_5_74 ?_
        refine zz_iconst zd_3_5_75 ?_
        refine zz_aload_n (x := 1076) rfl zd_3_5_76 ?_
        have g81 := zz_G.r G_S0 1076 11 (-2147483648) 2147483647 rfl rfl
        refine zz_geti (z := S0 1076 11) zd_3_5_77 zf_Compiler_91 zT_1076 rfl (zz_ltn hn rfl) rfl ?_
        refine zz_aload (x := zz_rf 6 (S0 1076 4)) rfl zd_3_5_80 ?_
        refine zz_iconst zd_3_5_82 ?_
        refine zz_aload_n (x := 1076) rfl zd_3_5_83 ?_
        have g82 := zz_G.r G_S0 1076 10 (-2147483648) 2147483647 rfl rfl
        refine zz_geti (z := S0 1076 10) zd_3_5_84 zf_Compiler_88 zT_1076 rfl (zz_ltn hn rfl) rfl ?_
        refine zz_aload_n (x := 1076) rfl zd_3_5_87 ?_
        have g83 := zz_G.r G_S0 1076 7 (-2147483648) 2147483647 rfl rfl
        refine zz_geti (z := S0 1076 7) zd_3_5_88 zf_Compiler_76 zT_1076 rfl (zz_ltn hn rfl) rfl ?_
        refine zz_callVI [zi 0, zi (S0 1076 10), zi (S0 1076 7)] zd_3_5_91 zk_Compiler_147 (zT_k6 (by omega)) (zN_k6 hn (by omega)) rfl rfl ⟨Nat.le_of_ble_eq_true rfl, Nat.le_of_ble_eq_true rfl⟩ ⟨rfl, rfl⟩ (Nat.zero_le _) (Nat.zero_le _) (zc_cellAt_4_15 (S0 1076 4) 0 (S0 1076 10) (S0 1076 7) S0 n hn G_S0 (by omega) (by omega) (by omega) (by omega)) (fun v85 S84 hP => ?_)
        obtain ⟨rfl, o86⟩ := hP
        refine zz_aload (x := zz_rf 6 (S0 1076 4)) rfl zd_3_5_94 ?_
        have g87 := zz_G.r G_S0 (zz_rf 6 (S0 1076 4)) 12 (-2147483648) 2147483647 (zR_k6_12 (by omega)) (zB_k6 (by omega))
        refine zz_geti (z := S0 (zz_rf 6 (S0 1076 4)) 12) zd_3_5_96 zf_Compiler_79 (zT_k6 (by omega)) rfl (zN_k6 hn (by omega)) rfl ?_
        have g88 := zz_G.r G_S0 1076 5 (-1) 23 rfl rfl
        refine zz_callVV [zi 0, zi (S0 1076 11), zi v85, zi (S0 (zz_rf 6 (S0 1076 4)) 12)] zd_3_5_99 zk_Compiler_159 zT_1076 (zz_ltn hn rfl) rfl rfl ⟨Nat.le_of_ble_eq_true rfl, Nat.le_of_ble_eq_true rfl⟩ ⟨rfl, rfl⟩ (Nat.zero_le _) (Nat.zero_le _) (zc_loadPlaces_3_10 0 (S0 1076 11) v85 (S0 (zz_rf 6 (S0 1076 4)) 12) S0 n hn G_S0 (by omega) (by omega) (by omega) (by omega) (by omega) (by omega)) (fun S89 hP => ?_)
        obtain ⟨G_S89, fS89, o91⟩ := hP
        have F_S89 := zz_fr.trans F_S0 fS89 rfl (fun a i h => Or.inr (Or.inr (h)))
        refine zz_aload_n (x := 1076) rfl zd_3_5_102 ?_
        have g92 := zz_G.r G_S0 1076 12 (-2147483648) 2147483647 rfl rfl
        refine zz_geti (z := S0 1076 12) zd_3_5_103 zf_Compiler_73 zT_1076 rfl (zz_ltn hn rfl) (zz_rc fS89 rfl rfl (by omega) rfl) ?_
        refine zz_iconst zd_3_5_106 ?_
        refine zz_icmp_le (by omega) (by omega) zd_3_5_107 (fun c93 => ?_) (fun c93 => ?_)
        · refine zz_aload_n (x := 1076) rfl zd_3_5_116 ?_
          refine zz_aload_n (x := 1076) rfl zd_3_5_117 ?_
          have g94 := zz_G.r G_S89 1076 1 0 1000000 rfl rfl
          refine zz_geti (z := S89 1076 1) zd_3_5_118 zf_Compiler_15 zT_1076 rfl (zz_ltn hn rfl) rfl ?_
          refine zz_iconst zd_3_5_121 ?_
          refine zz_isub zd_3_5_122 ?_
          refine zz_iconst zd_3_5_123 ?_
          refine zz_callVV [zi ((S89 1076 1) - 1), zi 4] zd_3_5_124 zk_Compiler_163 zT_1076 (zz_ltn hn rfl) rfl rfl ⟨Nat.le_of_ble_eq_true rfl, Nat.le_of_ble_eq_true rfl⟩ ⟨rfl, rfl⟩ (Nat.zero_le _) (Nat.zero_le _) (zc_mark_3_16 ((S89 1076 1) - 1) 4 S89 n hn G_S89 (by omega) (by omega)) (fun S95 hP => ?_)
          obtain ⟨G_S95, fS95⟩ := hP
          have F_S95 := zz_fr.trans F_S89 fS95 rfl (fun a i h => Or.inr (Or.inr (h)))
          refine zz_aload_n (x := 1076) rfl zd_3_5_127 ?_
          refine zz_iload_n (x := p0) rfl zd_3_5_128 ?_
          have e97 : S95 1076 3 = S0 1076 3 := (zz_rc fS95 rfl rfl (by omega) (zz_rc fS89 rfl rfl (by omega) rfl))
          have e98 : S95 1076 4 = S0 1076 4 := (zz_rc fS95 rfl rfl (by omega) (zz_rc fS89 rfl rfl (by omega) rfl))
          have e99 : S95 1076 5 = S0 1076 5 := (zz_rc fS95 rfl rfl (by omega) (zz_rc fS89 rfl rfl (by omega) rfl))
          refine zz_callVJ [zi p0] zd_3_5_129 zk_Compiler_167 zT_1076 (zz_ltn hn rfl) rfl rfl ⟨Nat.le_of_ble_eq_true rfl, Nat.le_of_ble_eq_true rfl⟩ ⟨rfl, rfl⟩ (Nat.zero_le _) (Nat.zero_le _) (zc_workOf_3_11 p0 S95 n hn G_S95 (by omega) (by omega)) (fun v101 S100 hP => ?_)
          obtain ⟨rfl, o102⟩ := hP
          refine zz_iconst zd_3_5_132 ?_
          refine zz_callSJ [zi 1] zd_3_5_133 zk_Compiler_139 rfl rfl ⟨Nat.le_of_ble_eq_true rfl, Nat.le_of_ble_eq_true rfl⟩ ⟨rfl, rfl⟩ (Nat.zero_le _) (Nat.zero_le _) (zc_flag_12_5 1 S95 n hn G_S95 (by omega)) (fun v104 S103 hP => ?_)
          obtain ⟨rfl, o105⟩ := hP
          refine zz_lor zd_3_5_136 (fun v106 hv106 ev106 => ?_)
          refine zz_lstore [some (.ref 1076), some (zi p0), some (zi p1), some (zi (S0 1076 1)), some (zl v106), none] zd_3_5_137 (by decide) rfl ?_
          refine zz_aload_n (x := 1076) rfl zd_3_5_139 ?_
          refine zz_iload_n (x := p1) rfl zd_3_5_140 ?_
          refine zz_if_eq (by omega) zd_3_5_141 (fun c107 => ?_) (fun c107 => ?_)
          · refine zz_lload (x := v106) rfl zd_3_5_149 ?_
            refine zz_iconst zd_3_5_151 ?_
            refine zz_callSJ [zi 3] zd_3_5_152 zk_Compiler_139 rfl rfl ⟨Nat.le_of_ble_eq_true rfl, Nat.le_of_ble_eq_true rfl⟩ ⟨rfl, rfl⟩ (Nat.zero_le _) (Nat.zero_le _) (zc_flag_12_5 3 S95 n hn G_S95 (by omega)) (fun v109 S108 hP => ?_)
            obtain ⟨rfl, o110⟩ := hP
            refine zz_lor zd_3_5_155 (fun v111 hv111 ev111 => ?_)
            have e112 : S95 1076 1 = S89 1076 1 := (zz_rc fS95 rfl rfl (by omega) rfl)
            refine zz_callVV [zl v111] zd_3_5_156 zk_Compiler_143 zT_1076 (zz_ltn hn rfl) rfl rfl ⟨Nat.le_of_ble_eq_true rfl, Nat.le_of_ble_eq_true rfl⟩ ⟨rfl, rfl⟩ (Nat.zero_le _) (Nat.zero_le _) (zc_emit_3_15 v111 S95 n hn G_S95 (by omega) (by omega)) (fun S113 hP => ?_)
            obtain ⟨G_S113, fS113, o115⟩ := hP
            have F_S113 := zz_fr.trans F_S95 fS113 rfl (fun a i h => Or.inr (Or.inr (h)))
            have g116 := zz_G.r G_S113 1076 1 0 1000000 rfl rfl
            exact zz_vret zd_3_5_159 rfl (Nat.zero_le _) (Nat.zero_le _) ⟨_, rfl, G_S113, F_S113, by omega⟩
          · refine zz_lload (x := v106) rfl zd_3_5_144 ?_
            refine zz_goto zd_3_5_146 ?_
            have e117 : S95 1076 1 = S89 1076 1 := (zz_rc fS95 rfl rfl (by omega) rfl)
            refine zz_callVV [zl v106] zd_3_5_156 zk_Compiler_143 zT_1076 (zz_ltn hn rfl) rfl rfl ⟨Nat.le_of_ble_eq_true rfl, Nat.le_of_ble_eq_true rfl⟩ ⟨rfl, rfl⟩ (Nat.zero_le _) (Nat.zero_le _) (zc_emit_3_15 v106 S95 n hn G_S95 (by omega) (by omega)) (fun S118 hP => ?_)
            obtain ⟨G_S118, fS118, o120⟩ := hP
            have F_S118 := zz_fr.trans F_S95 fS118 rfl (fun a i h => Or.inr (Or.inr (h)))
            have g121 := zz_G.r G_S118 1076 1 0 1000000 rfl rfl
            exact zz_vret zd_3_5_159 rfl (Nat.zero_le _) (Nat.zero_le _) ⟨_, rfl, G_S118, F_S118, by omega⟩
        · refine zz_aload_n (x := 1076) rfl zd_3_5_110 ?_
          refine zz_iload_n (x := S0 1076 1) rfl zd_3_5_111 ?_
          refine zz_iconst zd_3_5_112 ?_
          refine zz_callVV [zi (S0 1076 1), zi 2] zd_3_5_113 zk_Compiler_163 zT_1076 (zz_ltn hn rfl) rfl rfl ⟨Nat.le_of_ble_eq_true rfl, Nat.le_of_ble_eq_true rfl⟩ ⟨rfl, rfl⟩ (Nat.zero_le _) (Nat.zero_le _) (zc_mark_3_16 (S0 1076 1) 2 S89 n hn G_S89 (by omega) (by omega)) (fun S122 hP => ?_)
          obtain ⟨G_S122, fS122⟩ := hP
          have F_S122 := zz_fr.trans F_S89 fS122 rfl (fun a i h => Or.inr (Or.inr (h)))
          refine zz_aload_n (x := 1076) rfl zd_3_5_116 ?_
          refine zz_aload_n (x := 1076) rfl zd_3_5_117 ?_
          have g124 := zz_G.r G_S89 1076 1 0 1000000 rfl rfl
          refine zz_geti (z := S89 1076 1) zd_3_5_118 zf_Compiler_15 zT_1076 rfl (zz_ltn hn rfl) (zz_rc fS122 rfl rfl (by omega) rfl) ?_
          refine zz_iconst zd_3_5_121 ?_
          refine zz_isub zd_3_5_122 ?_
          refine zz_iconst zd_3_5_123 ?_
          refine zz_callVV [zi ((S89 1076 1) - 1), zi 4] zd_3_5_124 zk_Compiler_163 zT_1076 (zz_ltn hn rfl) rfl rfl ⟨Nat.le_of_ble_eq_true rfl, Nat.le_of_ble_eq_true rfl⟩ ⟨rfl, rfl⟩ (Nat.zero_le _) (Nat.zero_le _) (zc_mark_3_16 ((S89 1076 1) - 1) 4 S122 n hn G_S122 (by omega) (by omega)) (fun S125 hP => ?_)
          obtain ⟨G_S125, fS125⟩ := hP
          have F_S125 := zz_fr.trans F_S122 fS125 rfl (fun a i h => Or.inr (Or.inr (h)))
          refine zz_aload_n (x := 1076) rfl zd_3_5_127 ?_
          refine zz_iload_n (x := p0) rfl zd_3_5_128 ?_
          have e127 : S125 1076 3 = S0 1076 3 := (zz_rc fS125 rfl rfl (by omega) (zz_rc fS122 rfl rfl (by omega) (zz_rc fS89 rfl rfl (by omega) rfl)))
          have e128 : S125 1076 4 = S0 1076 4 := (zz_rc fS125 rfl rfl (by omega) (zz_rc fS122 rfl rfl (by omega) (zz_rc fS89 rfl rfl (by omega) rfl)))
          have e129 : S125 1076 5 = S0 1076 5 := (zz_rc fS125 rfl rfl (by omega) (zz_rc fS122 rfl rfl (by omega) (zz_rc fS89 rfl rfl (by omega) rfl)))
          refine zz_callVJ [zi p0] zd_3_5_129 zk_Compiler_167 zT_1076 (zz_ltn hn rfl) rfl rfl ⟨Nat.le_of_ble_eq_true rfl, Nat.le_of_ble_eq_true rfl⟩ ⟨rfl, rfl⟩ (Nat.zero_le _) (Nat.zero_le _) (zc_workOf_3_11 p0 S125 n hn G_S125 (by omega) (by omega)) (fun v131 S130 hP => ?_)
          obtain ⟨rfl, o132⟩ := hP
          refine zz_iconst zd_3_5_132 ?_
          refine zz_callSJ [zi 1] zd_3_5_133 zk_Compiler_139 rfl rfl ⟨Nat.le_of_ble_eq_true rfl, Nat.le_of_ble_eq_true rfl⟩ ⟨rfl, rfl⟩ (Nat.zero_le _) (Nat.zero_le _) (zc_flag_12_5 1 S125 n hn G_S125 (by omega)) (fun v134 S133 hP => ?_)
          obtain ⟨rfl, o135⟩ := hP
          refine zz_lor zd_3_5_136 (fun v136 hv136 ev136 => ?_)
          refine zz_lstore [some (.ref 1076), some (zi p0), some (zi p1), some (zi (S0 1076 1)), some (zl v136), none] zd_3_5_137 (by decide) rfl ?_
          refine zz_aload_n (x := 1076) rfl zd_3_5_139 ?_
          refine zz_iload_n (x := p1) rfl zd_3_5_140 ?_
          refine zz_if_eq (by omega) zd_3_5_141 (fun c137 => ?_) (fun c137 => ?_)
          · refine zz_lload (x := v136) rfl zd_3_5_149 ?_
            refine zz_iconst zd_3_5_151 ?_
            refine zz_callSJ [zi 3] zd_3_5_152 zk_Compiler_139 rfl rfl ⟨Nat.le_of_ble_eq_true rfl, Nat.le_of_ble_eq_true rfl⟩ ⟨rfl, rfl⟩ (Nat.zero_le _) (Nat.zero_le _) (zc_flag_12_5 3 S125 n hn G_S125 (by omega)) (fun v139 S138 hP => ?_)
            obtain ⟨rfl, o140⟩ := hP
            refine zz_lor zd_3_5_155 (fun v141 hv141 ev141 => ?_)
            have e142 : S125 1076 1 = S89 1076 1 := (zz_rc fS125 rfl rfl (by omega) (zz_rc fS122 rfl rfl (by omega) rfl))
            refine zz_callVV [zl v141] zd_3_5_156 zk_Compiler_143 zT_1076 (zz_ltn hn rfl) rfl rfl ⟨Nat.le_of_ble_eq_true rfl, Nat.le_of_ble_eq_true rfl⟩ ⟨rfl, rfl⟩ (Nat.zero_le _) (Nat.zero_le _) (zc_emit_3_15 v141 S125 n hn G_S125 (by omega) (by omega)) (fun S143 hP => ?_)
            obtain ⟨G_S143, fS143, o145⟩ := hP
            have F_S143 := zz_fr.trans F_S125 fS143 rfl (fun a i h => Or.inr (Or.inr (h)))
            have g146 := zz_G.r G_S143 1076 1 0 1000000 rfl rfl
            exact zz_vret zd_3_5_159 rfl (Nat.zero_le _) (Nat.zero_le _) ⟨_, rfl, G_S143, F_S143, by omega⟩
          · refine zz_lload (x := v136) rfl zd_3_5_144 ?_
            refine zz_goto zd_3_5_146 ?_
            have e147 : S125 1076 1 = S89 1076 1 := (zz_rc fS125 rfl rfl (by omega) (zz_rc fS122 rfl rfl (by omega) rfl))
            refine zz_callVV [zl v136] zd_3_5_156 zk_Compiler_143 zT_1076 (zz_ltn hn rfl) rfl rfl ⟨Nat.le_of_ble_eq_true rfl, Nat.le_of_ble_eq_true rfl⟩ ⟨rfl, rfl⟩ (Nat.zero_le _) (Nat.zero_le _) (zc_emit_3_15 v136 S125 n hn G_S125 (by omega) (by omega)) (fun S148 hP => ?_)
            obtain ⟨G_S148, fS148, o150⟩ := hP
            have F_S148 := zz_fr.trans F_S125 fS148 rfl (fun a i h => Or.inr (Or.inr (h)))
            have g151 := zz_G.r G_S148 1076 1 0 1000000 rfl rfl
            exact zz_vret zd_3_5_159 rfl (Nat.zero_le _) (Nat.zero_le _) ⟨_, rfl, G_S148, F_S148, by omega⟩
    · refine zz_aload_n (x := 1076) rfl zd_3_5_43 ?_
      refine zz_aload_n (x := 1076) rfl zd_3_5_44 ?_
      have g152 := zz_G.r G_S0 1076 7 (-2147483648) 2147483647 rfl rfl
      refine zz_geti (z := S0 1076 7) zd_3_5_45 zf_Compiler_76 zT_1076 rfl (zz_ltn hn rfl) rfl ?_
      have g153 := zz_G.r G_S0 1076 4 (-1) 23 rfl rfl
      have g154 := zz_G.r G_S0 1076 5 (-1) 23 rfl rfl
      refine zz_callVV [zi (S0 1076 7)] zd_3_5_48 zk_Compiler_155 zT_1076 (zz_ltn hn rfl) rfl rfl ⟨Nat.le_of_ble_eq_true rfl, Nat.le_of_ble_eq_true rfl⟩ ⟨rfl, rfl⟩ (Nat.zero_le _) (Nat.zero_le _) (zc_loadMet_3_7 (S0 1076 7) S0 n hn G_S0 (by omega) (by omega) (by omega)) (fun S155 hP => ?_)
      obtain ⟨G_S155, fS155, o157⟩ := hP
      have F_S155 := zz_fr.trans F_S0 fS155 rfl (fun a i h => Or.inr (Or.inr (h)))
      refine zz_goto zd_3_5_51 ?_
      refine zz_aload_n (x := 1076) rfl zd_3_5_102 ?_
      have g158 := zz_G.r G_S0 1076 12 (-2147483648) 2147483647 rfl rfl
      refine zz_geti (z := S0 1076 12) zd_3_5_103 zf_Compiler_73 zT_1076 rfl (zz_ltn hn rfl) (zz_rc fS155 rfl rfl (by omega) rfl) ?_
      refine zz_iconst zd_3_5_106 ?_
      refine zz_icmp_le (by omega) (by omega) zd_3_5_107 (fun c159 => ?_) (fun c159 => ?_)
      · refine zz_aload_n (x := 1076) rfl zd_3_5_116 ?_
        refine zz_aload_n (x := 1076) rfl zd_3_5_117 ?_
        have g160 := zz_G.r G_S155 1076 1 0 1000000 rfl rfl
        refine zz_geti (z := S155 1076 1) zd_3_5_118 zf_Compiler_15 zT_1076 rfl (zz_ltn hn rfl) rfl ?_
        refine zz_iconst zd_3_5_121 ?_
        refine zz_isub zd_3_5_122 ?_
        refine zz_iconst zd_3_5_123 ?_
        refine zz_callVV [zi ((S155 1076 1) - 1), zi 4] zd_3_5_124 zk_Compiler_163 zT_1076 (zz_ltn hn rfl) rfl rfl ⟨Nat.le_of_ble_eq_true rfl, Nat.le_of_ble_eq_true rfl⟩ ⟨rfl, rfl⟩ (Nat.zero_le _) (Nat.zero_le _) (zc_mark_3_16 ((S155 1076 1) - 1) 4 S155 n hn G_S155 (by omega) (by omega)) (fun S161 hP => ?_)
        obtain ⟨G_S161, fS161⟩ := hP
        have F_S161 := zz_fr.trans F_S155 fS161 rfl (fun a i h => Or.inr (Or.inr (h)))
        refine zz_aload_n (x := 1076) rfl zd_3_5_127 ?_
        refine zz_iload_n (x := p0) rfl zd_3_5_128 ?_
        have e163 : S161 1076 3 = S0 1076 3 := (zz_rc fS161 rfl rfl (by omega) (zz_rc fS155 rfl rfl (by omega) rfl))
        have e164 : S161 1076 4 = S0 1076 4 := (zz_rc fS161 rfl rfl (by omega) (zz_rc fS155 rfl rfl (by omega) rfl))
        have e165 : S161 1076 5 = S0 1076 5 := (zz_rc fS161 rfl rfl (by omega) (zz_rc fS155 rfl rfl (by omega) rfl))
        refine zz_callVJ [zi p0] zd_3_5_129 zk_Compiler_167 zT_1076 (zz_ltn hn rfl) rfl rfl ⟨Nat.le_of_ble_eq_true rfl, Nat.le_of_ble_eq_true rfl⟩ ⟨rfl, rfl⟩ (Nat.zero_le _) (Nat.zero_le _) (zc_workOf_3_11 p0 S161 n hn G_S161 (by omega) (by omega)) (fun v167 S166 hP => ?_)
        obtain ⟨rfl, o168⟩ := hP
        refine zz_iconst zd_3_5_132 ?_
        refine zz_callSJ [zi 1] zd_3_5_133 zk_Compiler_139 rfl rfl ⟨Nat.le_of_ble_eq_true rfl, Nat.le_of_ble_eq_true rfl⟩ ⟨rfl, rfl⟩ (Nat.zero_le _) (Nat.zero_le _) (zc_flag_12_5 1 S161 n hn G_S161 (by omega)) (fun v170 S169 hP => ?_)
        obtain ⟨rfl, o171⟩ := hP
        refine zz_lor zd_3_5_136 (fun v172 hv172 ev172 => ?_)
        refine zz_lstore [some (.ref 1076), some (zi p0), some (zi p1), some (zi (S0 1076 1)), some (zl v172), none] zd_3_5_137 (by decide) rfl ?_
        refine zz_aload_n (x := 1076) rfl zd_3_5_139 ?_
        refine zz_iload_n (x := p1) rfl zd_3_5_140 ?_
        refine zz_if_eq (by omega) zd_3_5_141 (fun c173 => ?_) (fun c173 => ?_)
        · refine zz_lload (x := v172) rfl zd_3_5_149 ?_
          refine zz_iconst zd_3_5_151 ?_
          refine zz_callSJ [zi 3] zd_3_5_152 zk_Compiler_139 rfl rfl ⟨Nat.le_of_ble_eq_true rfl, Nat.le_of_ble_eq_true rfl⟩ ⟨rfl, rfl⟩ (Nat.zero_le _) (Nat.zero_le _) (zc_flag_12_5 3 S161 n hn G_S161 (by omega)) (fun v175 S174 hP => ?_)
          obtain ⟨rfl, o176⟩ := hP
          refine zz_lor zd_3_5_155 (fun v177 hv177 ev177 => ?_)
          have e178 : S161 1076 1 = S155 1076 1 := (zz_rc fS161 rfl rfl (by omega) rfl)
          refine zz_callVV [zl v177] zd_3_5_156 zk_Compiler_143 zT_1076 (zz_ltn hn rfl) rfl rfl ⟨Nat.le_of_ble_eq_true rfl, Nat.le_of_ble_eq_true rfl⟩ ⟨rfl, rfl⟩ (Nat.zero_le _) (Nat.zero_le _) (zc_emit_3_15 v177 S161 n hn G_S161 (by omega) (by omega)) (fun S179 hP => ?_)
          obtain ⟨G_S179, fS179, o181⟩ := hP
          have F_S179 := zz_fr.trans F_S161 fS179 rfl (fun a i h => Or.inr (Or.inr (h)))
          have g182 := zz_G.r G_S179 1076 1 0 1000000 rfl rfl
          exact zz_vret zd_3_5_159 rfl (Nat.zero_le _) (Nat.zero_le _) ⟨_, rfl, G_S179, F_S179, by omega⟩
        · refine zz_lload (x := v172) rfl zd_3_5_144 ?_
          refine zz_goto zd_3_5_146 ?_
          have e183 : S161 1076 1 = S155 1076 1 := (zz_rc fS161 rfl rfl (by omega) rfl)
          refine zz_callVV [zl v172] zd_3_5_156 zk_Compiler_143 zT_1076 (zz_ltn hn rfl) rfl rfl ⟨Nat.le_of_ble_eq_true rfl, Nat.le_of_ble_eq_true rfl⟩ ⟨rfl, rfl⟩ (Nat.zero_le _) (Nat.zero_le _) (zc_emit_3_15 v172 S161 n hn G_S161 (by omega) (by omega)) (fun S184 hP => ?_)
          obtain ⟨G_S184, fS184, o186⟩ := hP
          have F_S184 := zz_fr.trans F_S161 fS184 rfl (fun a i h => Or.inr (Or.inr (h)))
          have g187 := zz_G.r G_S184 1076 1 0 1000000 rfl rfl
          exact zz_vret zd_3_5_159 rfl (Nat.zero_le _) (Nat.zero_le _) ⟨_, rfl, G_S184, F_S184, by omega⟩
      · refine zz_aload_n (x := 1076) rfl zd_3_5_110 ?_
        refine zz_iload_n (x := S0 1076 1) rfl zd_3_5_111 ?_
        refine zz_iconst zd_3_5_112 ?_
        refine zz_callVV [zi (S0 1076 1), zi 2] zd_3_5_113 zk_Compiler_163 zT_1076 (zz_ltn hn rfl) rfl rfl ⟨Nat.le_of_ble_eq_true rfl, Nat.le_of_ble_eq_true rfl⟩ ⟨rfl, rfl⟩ (Nat.zero_le _) (Nat.zero_le _) (zc_mark_3_16 (S0 1076 1) 2 S155 n hn G_S155 (by omega) (by omega)) (fun S188 hP => ?_)
        obtain ⟨G_S188, fS188⟩ := hP
        have F_S188 := zz_fr.trans F_S155 fS188 rfl (fun a i h => Or.inr (Or.inr (h)))
        refine zz_aload_n (x := 1076) rfl zd_3_5_116 ?_
        refine zz_aload_n (x := 1076) rfl zd_3_5_117 ?_
        have g190 := zz_G.r G_S155 1076 1 0 1000000 rfl rfl
        refine zz_geti (z := S155 1076 1) zd_3_5_118 zf_Compiler_15 zT_1076 rfl (zz_ltn hn rfl) (zz_rc fS188 rfl rfl (by omega) rfl) ?_
        refine zz_iconst zd_3_5_121 ?_
        refine zz_isub zd_3_5_122 ?_
        refine zz_iconst zd_3_5_123 ?_
        refine zz_callVV [zi ((S155 1076 1) - 1), zi 4] zd_3_5_124 zk_Compiler_163 zT_1076 (zz_ltn hn rfl) rfl rfl ⟨Nat.le_of_ble_eq_true rfl, Nat.le_of_ble_eq_true rfl⟩ ⟨rfl, rfl⟩ (Nat.zero_le _) (Nat.zero_le _) (zc_mark_3_16 ((S155 1076 1) - 1) 4 S188 n hn G_S188 (by omega) (by omega)) (fun S191 hP => ?_)
        obtain ⟨G_S191, fS191⟩ := hP
        have F_S191 := zz_fr.trans F_S188 fS191 rfl (fun a i h => Or.inr (Or.inr (h)))
        refine zz_aload_n (x := 1076) rfl zd_3_5_127 ?_
        refine zz_iload_n (x := p0) rfl zd_3_5_128 ?_
        have e193 : S191 1076 3 = S0 1076 3 := (zz_rc fS191 rfl rfl (by omega) (zz_rc fS188 rfl rfl (by omega) (zz_rc fS155 rfl rfl (by omega) rfl)))
        have e194 : S191 1076 4 = S0 1076 4 := (zz_rc fS191 rfl rfl (by omega) (zz_rc fS188 rfl rfl (by omega) (zz_rc fS155 rfl rfl (by omega) rfl)))
        have e195 : S191 1076 5 = S0 1076 5 := (zz_rc fS191 rfl rfl (by omega) (zz_rc fS188 rfl rfl (by omega) (zz_rc fS155 rfl rfl (by omega) rfl)))
        refine zz_callVJ [zi p0] zd_3_5_129 zk_Compiler_167 zT_1076 (zz_ltn hn rfl) rfl rfl ⟨Nat.le_of_ble_eq_true rfl, Nat.le_of_ble_eq_true rfl⟩ ⟨rfl, rfl⟩ (Nat.zero_le _) (Nat.zero_le _) (zc_workOf_3_11 p0 S191 n hn G_S191 (by omega) (by omega)) (fun v197 S196 hP => ?_)
        obtain ⟨rfl, o198⟩ := hP
        refine zz_iconst zd_3_5_132 ?_
        refine zz_callSJ [zi 1] zd_3_5_133 zk_Compiler_139 rfl rfl ⟨Nat.le_of_ble_eq_true rfl, Nat.le_of_ble_eq_true rfl⟩ ⟨rfl, rfl⟩ (Nat.zero_le _) (Nat.zero_le _) (zc_flag_12_5 1 S191 n hn G_S191 (by omega)) (fun v200 S199 hP => ?_)
        obtain ⟨rfl, o201⟩ := hP
        refine zz_lor zd_3_5_136 (fun v202 hv202 ev202 => ?_)
        refine zz_lstore [some (.ref 1076), some (zi p0), some (zi p1), some (zi (S0 1076 1)), some (zl v202), none] zd_3_5_137 (by decide) rfl ?_
        refine zz_aload_n (x := 1076) rfl zd_3_5_139 ?_
        refine zz_iload_n (x := p1) rfl zd_3_5_140 ?_
        refine zz_if_eq (by omega) zd_3_5_141 (fun c203 => ?_) (fun c203 => ?_)
        · refine zz_lload (x := v202) rfl zd_3_5_149 ?_
          refine zz_iconst zd_3_5_151 ?_
          refine zz_callSJ [zi 3] zd_3_5_152 zk_Compiler_139 rfl rfl ⟨Nat.le_of_ble_eq_true rfl, Nat.le_of_ble_eq_true rfl⟩ ⟨rfl, rfl⟩ (Nat.zero_le _) (Nat.zero_le _) (zc_flag_12_5 3 S191 n hn G_S191 (by omega)) (fun v205 S204 hP => ?_)
          obtain ⟨rfl, o206⟩ := hP
          refine zz_lor zd_3_5_155 (fun v207 hv207 ev207 => ?_)
          have e208 : S191 1076 1 = S155 1076 1 := (zz_rc fS191 rfl rfl (by omega) (zz_rc fS188 rfl rfl (by omega) rfl))
          refine zz_callVV [zl v207] zd_3_5_156 zk_Compiler_143 zT_1076 (zz_ltn hn rfl) rfl rfl ⟨Nat.le_of_ble_eq_true rfl, Nat.le_of_ble_eq_true rfl⟩ ⟨rfl, rfl⟩ (Nat.zero_le _) (Nat.zero_le _) (zc_emit_3_15 v207 S191 n hn G_S191 (by omega) (by omega)) (fun S209 hP => ?_)
          obtain ⟨G_S209, fS209, o211⟩ := hP
          have F_S209 := zz_fr.trans F_S191 fS209 rfl (fun a i h => Or.inr (Or.inr (h)))
          have g212 := zz_G.r G_S209 1076 1 0 1000000 rfl rfl
          exact zz_vret zd_3_5_159 rfl (Nat.zero_le _) (Nat.zero_le _) ⟨_, rfl, G_S209, F_S209, by omega⟩
        · refine zz_lload (x := v202) rfl zd_3_5_144 ?_
          refine zz_goto zd_3_5_146 ?_
          have e213 : S191 1076 1 = S155 1076 1 := (zz_rc fS191 rfl rfl (by omega) (zz_rc fS188 rfl rfl (by omega) rfl))
          refine zz_callVV [zl v202] zd_3_5_156 zk_Compiler_143 zT_1076 (zz_ltn hn rfl) rfl rfl ⟨Nat.le_of_ble_eq_true rfl, Nat.le_of_ble_eq_true rfl⟩ ⟨rfl, rfl⟩ (Nat.zero_le _) (Nat.zero_le _) (zc_emit_3_15 v202 S191 n hn G_S191 (by omega) (by omega)) (fun S214 hP => ?_)
          obtain ⟨G_S214, fS214, o216⟩ := hP
          have F_S214 := zz_fr.trans F_S191 fS214 rfl (fun a i h => Or.inr (Or.inr (h)))
          have g217 := zz_G.r G_S214 1076 1 0 1000000 rfl rfl
          exact zz_vret zd_3_5_159 rfl (Nat.zero_le _) (Nat.zero_le _) ⟨_, rfl, G_S214, F_S214, by omega⟩
  · refine zz_aload_n (x := 1076) rfl zd_3_5_16 ?_
    refine zz_iload_n (x := p0) rfl zd_3_5_17 ?_
    have g218 := zz_G.r G_S0 1076 4 (-1) 23 rfl rfl
    have g219 := zz_G.r G_S0 1076 5 (-1) 23 rfl rfl
    refine zz_callVV [zi p0] zd_3_5_18 zk_Compiler_151 zT_1076 (zz_ltn hn rfl) rfl rfl ⟨Nat.le_of_ble_eq_true rfl, Nat.le_of_ble_eq_true rfl⟩ ⟨rfl, rfl⟩ (Nat.zero_le _) (Nat.zero_le _) (zc_loadParameters_3_6 p0 S0 n hn G_S0 (by omega) (by omega) (by omega)) (fun S220 hP => ?_)
    obtain ⟨G_S220, fS220, o222⟩ := hP
    have F_S220 := zz_fr.trans F_S0 fS220 rfl (fun a i h => Or.inr (Or.inr (h)))
    refine zz_aload_n (x := 1076) rfl zd_3_5_21 ?_
    refine zz_aload_n (x := 1076) rfl zd_3_5_22 ?_
    have g223 := zz_G.r G_S0 1076 15 (-2147483648) 2147483647 rfl rfl
    refine zz_geti (z := S0 1076 15) zd_3_5_23 zf_Compiler_112 zT_1076 rfl (zz_ltn hn rfl) (zz_rc fS220 rfl rfl (by omega) rfl) ?_
    have g224 := zz_G.r G_S220 1076 1 0 1000000 rfl rfl
    have e225 : S220 1076 3 = S0 1076 3 := (zz_rc fS220 rfl rfl (by omega) rfl)
    have e226 : S220 1076 4 = S0 1076 4 := (zz_rc fS220 rfl rfl (by omega) rfl)
    have e227 : S220 1076 5 = S0 1076 5 := (zz_rc fS220 rfl rfl (by omega) rfl)
    refine zz_callVV [zi (S0 1076 15)] zd_3_5_26 zk_Compiler_155 zT_1076 (zz_ltn hn rfl) rfl rfl ⟨Nat.le_of_ble_eq_true rfl, Nat.le_of_ble_eq_true rfl⟩ ⟨rfl, rfl⟩ (Nat.zero_le _) (Nat.zero_le _) (zc_loadMet_3_7 (S0 1076 15) S220 n hn G_S220 (by omega) (by omega) (by omega)) (fun S228 hP => ?_)
    obtain ⟨G_S228, fS228, o230⟩ := hP
    have F_S228 := zz_fr.trans F_S220 fS228 rfl (fun a i h => Or.inr (Or.inr (h)))
    refine zz_goto zd_3_5_29 ?_
    refine zz_aload_n (x := 1076) rfl zd_3_5_102 ?_
    have g231 := zz_G.r G_S0 1076 12 (-2147483648) 2147483647 rfl rfl
    refine zz_geti (z := S0 1076 12) zd_3_5_103 zf_Compiler_73 zT_1076 rfl (zz_ltn hn rfl) (zz_rc fS228 rfl rfl (by omega) (zz_rc fS220 rfl rfl (by omega) rfl)) ?_
    refine zz_iconst zd_3_5_106 ?_
    refine zz_icmp_le (by omega) (by omega) zd_3_5_107 (fun c232 => ?_) (fun c232 => ?_)
    · refine zz_aload_n (x := 1076) rfl zd_3_5_116 ?_
      refine zz_aload_n (x := 1076) rfl zd_3_5_117 ?_
      have g233 := zz_G.r G_S228 1076 1 0 1000000 rfl rfl
      refine zz_geti (z := S228 1076 1) zd_3_5_118 zf_Compiler_15 zT_1076 rfl (zz_ltn hn rfl) rfl ?_
      refine zz_iconst zd_3_5_121 ?_
      refine zz_isub zd_3_5_122 ?_
      refine zz_iconst zd_3_5_123 ?_
      refine zz_callVV [zi ((S228 1076 1) - 1), zi 4] zd_3_5_124 zk_Compiler_163 zT_1076 (zz_ltn hn rfl) rfl rfl ⟨Nat.le_of_ble_eq_true rfl, Nat.le_of_ble_eq_true rfl⟩ ⟨rfl, rfl⟩ (Nat.zero_le _) (Nat.zero_le _) (zc_mark_3_16 ((S228 1076 1) - 1) 4 S228 n hn G_S228 (by omega) (by omega)) (fun S234 hP => ?_)
      obtain ⟨G_S234, fS234⟩ := hP
      have F_S234 := zz_fr.trans F_S228 fS234 rfl (fun a i h => Or.inr (Or.inr (h)))
      refine zz_aload_n (x := 1076) rfl zd_3_5_127 ?_
      refine zz_iload_n (x := p0) rfl zd_3_5_128 ?_
      have e236 : S234 1076 3 = S0 1076 3 := (zz_rc fS234 rfl rfl (by omega) (zz_rc fS228 rfl rfl (by omega) (zz_rc fS220 rfl rfl (by omega) rfl)))
      have e237 : S234 1076 4 = S0 1076 4 := (zz_rc fS234 rfl rfl (by omega) (zz_rc fS228 rfl rfl (by omega) (zz_rc fS220 rfl rfl (by omega) rfl)))
      have e238 : S234 1076 5 = S0 1076 5 := (zz_rc fS234 rfl rfl (by omega) (zz_rc fS228 rfl rfl (by omega) (zz_rc fS220 rfl rfl (by omega) rfl)))
      refine zz_callVJ [zi p0] zd_3_5_129 zk_Compiler_167 zT_1076 (zz_ltn hn rfl) rfl rfl ⟨Nat.le_of_ble_eq_true rfl, Nat.le_of_ble_eq_true rfl⟩ ⟨rfl, rfl⟩ (Nat.zero_le _) (Nat.zero_le _) (zc_workOf_3_11 p0 S234 n hn G_S234 (by omega) (by omega)) (fun v240 S239 hP => ?_)
      obtain ⟨rfl, o241⟩ := hP
      refine zz_iconst zd_3_5_132 ?_
      refine zz_callSJ [zi 1] zd_3_5_133 zk_Compiler_139 rfl rfl ⟨Nat.le_of_ble_eq_true rfl, Nat.le_of_ble_eq_true rfl⟩ ⟨rfl, rfl⟩ (Nat.zero_le _) (Nat.zero_le _) (zc_flag_12_5 1 S234 n hn G_S234 (by omega)) (fun v243 S242 hP => ?_)
      obtain ⟨rfl, o244⟩ := hP
      refine zz_lor zd_3_5_136 (fun v245 hv245 ev245 => ?_)
      refine zz_lstore [some (.ref 1076), some (zi p0), some (zi p1), some (zi (S0 1076 1)), some (zl v245), none] zd_3_5_137 (by decide) rfl ?_
      refine zz_aload_n (x := 1076) rfl zd_3_5_139 ?_
      refine zz_iload_n (x := p1) rfl zd_3_5_140 ?_
      refine zz_if_eq (by omega) zd_3_5_141 (fun c246 => ?_) (fun c246 => ?_)
      · refine zz_lload (x := v245) rfl zd_3_5_149 ?_
        refine zz_iconst zd_3_5_151 ?_
        refine zz_callSJ [zi 3] zd_3_5_152 zk_Compiler_139 rfl rfl ⟨Nat.le_of_ble_eq_true rfl, Nat.le_of_ble_eq_true rfl⟩ ⟨rfl, rfl⟩ (Nat.zero_le _) (Nat.zero_le _) (zc_flag_12_5 3 S234 n hn G_S234 (by omega)) (fun v248 S247 hP => ?_)
        obtain ⟨rfl, o249⟩ := hP
        refine zz_lor zd_3_5_155 (fun v250 hv250 ev250 => ?_)
        have e251 : S234 1076 1 = S228 1076 1 := (zz_rc fS234 rfl rfl (by omega) rfl)
        refine zz_callVV [zl v250] zd_3_5_156 zk_Compiler_143 zT_1076 (zz_ltn hn rfl) rfl rfl ⟨Nat.le_of_ble_eq_true rfl, Nat.le_of_ble_eq_true rfl⟩ ⟨rfl, rfl⟩ (Nat.zero_le _) (Nat.zero_le _) (zc_emit_3_15 v250 S234 n hn G_S234 (by omega) (by omega)) (fun S252 hP => ?_)
        obtain ⟨G_S252, fS252, o254⟩ := hP
        have F_S252 := zz_fr.trans F_S234 fS252 rfl (fun a i h => Or.inr (Or.inr (h)))
        have g255 := zz_G.r G_S252 1076 1 0 1000000 rfl rfl
        exact zz_vret zd_3_5_159 rfl (Nat.zero_le _) (Nat.zero_le _) ⟨_, rfl, G_S252, F_S252, by omega⟩
      · refine zz_lload (x := v245) rfl zd_3_5_144 ?_
        refine zz_goto zd_3_5_146 ?_
        have e256 : S234 1076 1 = S228 1076 1 := (zz_rc fS234 rfl rfl (by omega) rfl)
        refine zz_callVV [zl v245] zd_3_5_156 zk_Compiler_143 zT_1076 (zz_ltn hn rfl) rfl rfl ⟨Nat.le_of_ble_eq_true rfl, Nat.le_of_ble_eq_true rfl⟩ ⟨rfl, rfl⟩ (Nat.zero_le _) (Nat.zero_le _) (zc_emit_3_15 v245 S234 n hn G_S234 (by omega) (by omega)) (fun S257 hP => ?_)
        obtain ⟨G_S257, fS257, o259⟩ := hP
        have F_S257 := zz_fr.trans F_S234 fS257 rfl (fun a i h => Or.inr (Or.inr (h)))
        have g260 := zz_G.r G_S257 1076 1 0 1000000 rfl rfl
        exact zz_vret zd_3_5_159 rfl (Nat.zero_le _) (Nat.zero_le _) ⟨_, rfl, G_S257, F_S257, by omega⟩
    · refine zz_aload_n (x := 1076) rfl zd_3_5_110 ?_
      refine zz_iload_n (x := S0 1076 1) rfl zd_3_5_111 ?_
      refine zz_iconst zd_3_5_112 ?_
      refine zz_callVV [zi (S0 1076 1), zi 2] zd_3_5_113 zk_Compiler_163 zT_1076 (zz_ltn hn rfl) rfl rfl ⟨Nat.le_of_ble_eq_true rfl, Nat.le_of_ble_eq_true rfl⟩ ⟨rfl, rfl⟩ (Nat.zero_le _) (Nat.zero_le _) (zc_mark_3_16 (S0 1076 1) 2 S228 n hn G_S228 (by omega) (by omega)) (fun S261 hP => ?_)
      obtain ⟨G_S261, fS261⟩ := hP
      have F_S261 := zz_fr.trans F_S228 fS261 rfl (fun a i h => Or.inr (Or.inr (h)))
      refine zz_aload_n (x := 1076) rfl zd_3_5_116 ?_
      refine zz_aload_n (x := 1076) rfl zd_3_5_117 ?_
      have g263 := zz_G.r G_S228 1076 1 0 1000000 rfl rfl
      refine zz_geti (z := S228 1076 1) zd_3_5_118 zf_Compiler_15 zT_1076 rfl (zz_ltn hn rfl) (zz_rc fS261 rfl rfl (by omega) rfl) ?_
      refine zz_iconst zd_3_5_121 ?_
      refine zz_isub zd_3_5_122 ?_
      refine zz_iconst zd_3_5_123 ?_
      refine zz_callVV [zi ((S228 1076 1) - 1), zi 4] zd_3_5_124 zk_Compiler_163 zT_1076 (zz_ltn hn rfl) rfl rfl ⟨Nat.le_of_ble_eq_true rfl, Nat.le_of_ble_eq_true rfl⟩ ⟨rfl, rfl⟩ (Nat.zero_le _) (Nat.zero_le _) (zc_mark_3_16 ((S228 1076 1) - 1) 4 S261 n hn G_S261 (by omega) (by omega)) (fun S264 hP => ?_)
      obtain ⟨G_S264, fS264⟩ := hP
      have F_S264 := zz_fr.trans F_S261 fS264 rfl (fun a i h => Or.inr (Or.inr (h)))
      refine zz_aload_n (x := 1076) rfl zd_3_5_127 ?_
      refine zz_iload_n (x := p0) rfl zd_3_5_128 ?_
      have e266 : S264 1076 3 = S0 1076 3 := (zz_rc fS264 rfl rfl (by omega) (zz_rc fS261 rfl rfl (by omega) (zz_rc fS228 rfl rfl (by omega) (zz_rc fS220 rfl rfl (by omega) rfl))))
      have e267 : S264 1076 4 = S0 1076 4 := (zz_rc fS264 rfl rfl (by omega) (zz_rc fS261 rfl rfl (by omega) (zz_rc fS228 rfl rfl (by omega) (zz_rc fS220 rfl rfl (by omega) rfl))))
      have e268 : S264 1076 5 = S0 1076 5 := (zz_rc fS264 rfl rfl (by omega) (zz_rc fS261 rfl rfl (by omega) (zz_rc fS228 rfl rfl (by omega) (zz_rc fS220 rfl rfl (by omega) rfl))))
      refine zz_callVJ [zi p0] zd_3_5_129 zk_Compiler_167 zT_1076 (zz_ltn hn rfl) rfl rfl ⟨Nat.le_of_ble_eq_true rfl, Nat.le_of_ble_eq_true rfl⟩ ⟨rfl, rfl⟩ (Nat.zero_le _) (Nat.zero_le _) (zc_workOf_3_11 p0 S264 n hn G_S264 (by omega) (by omega)) (fun v270 S269 hP => ?_)
      obtain ⟨rfl, o271⟩ := hP
      refine zz_iconst zd_3_5_132 ?_
      refine zz_callSJ [zi 1] zd_3_5_133 zk_Compiler_139 rfl rfl ⟨Nat.le_of_ble_eq_true rfl, Nat.le_of_ble_eq_true rfl⟩ ⟨rfl, rfl⟩ (Nat.zero_le _) (Nat.zero_le _) (zc_flag_12_5 1 S264 n hn G_S264 (by omega)) (fun v273 S272 hP => ?_)
      obtain ⟨rfl, o274⟩ := hP
      refine zz_lor zd_3_5_136 (fun v275 hv275 ev275 => ?_)
      refine zz_lstore [some (.ref 1076), some (zi p0), some (zi p1), some (zi (S0 1076 1)), some (zl v275), none] zd_3_5_137 (by decide) rfl ?_
      refine zz_aload_n (x := 1076) rfl zd_3_5_139 ?_
      refine zz_iload_n (x := p1) rfl zd_3_5_140 ?_
      refine zz_if_eq (by omega) zd_3_5_141 (fun c276 => ?_) (fun c276 => ?_)
      · refine zz_lload (x := v275) rfl zd_3_5_149 ?_
        refine zz_iconst zd_3_5_151 ?_
        refine zz_callSJ [zi 3] zd_3_5_152 zk_Compiler_139 rfl rfl ⟨Nat.le_of_ble_eq_true rfl, Nat.le_of_ble_eq_true rfl⟩ ⟨rfl, rfl⟩ (Nat.zero_le _) (Nat.zero_le _) (zc_flag_12_5 3 S264 n hn G_S264 (by omega)) (fun v278 S277 hP => ?_)
        obtain ⟨rfl, o279⟩ := hP
        refine zz_lor zd_3_5_155 (fun v280 hv280 ev280 => ?_)
        have e281 : S264 1076 1 = S228 1076 1 := (zz_rc fS264 rfl rfl (by omega) (zz_rc fS261 rfl rfl (by omega) rfl))
        refine zz_callVV [zl v280] zd_3_5_156 zk_Compiler_143 zT_1076 (zz_ltn hn rfl) rfl rfl ⟨Nat.le_of_ble_eq_true rfl, Nat.le_of_ble_eq_true rfl⟩ ⟨rfl, rfl⟩ (Nat.zero_le _) (Nat.zero_le _) (zc_emit_3_15 v280 S264 n hn G_S264 (by omega) (by omega)) (fun S282 hP => ?_)
        obtain ⟨G_S282, fS282, o284⟩ := hP
        have F_S282 := zz_fr.trans F_S264 fS282 rfl (fun a i h => Or.inr (Or.inr (h)))
        have g285 := zz_G.r G_S282 1076 1 0 1000000 rfl rfl
        exact zz_vret zd_3_5_159 rfl (Nat.zero_le _) (Nat.zero_le _) ⟨_, rfl, G_S282, F_S282, by omega⟩
      · refine zz_lload (x := v275) rfl zd_3_5_144 ?_
        refine zz_goto zd_3_5_146 ?_
        have e286 : S264 1076 1 = S228 1076 1 := (zz_rc fS264 rfl rfl (by omega) (zz_rc fS261 rfl rfl (by omega) rfl))
        refine zz_callVV [zl v275] zd_3_5_156 zk_Compiler_143 zT_1076 (zz_ltn hn rfl) rfl rfl ⟨Nat.le_of_ble_eq_true rfl, Nat.le_of_ble_eq_true rfl⟩ ⟨rfl, rfl⟩ (Nat.zero_le _) (Nat.zero_le _) (zc_emit_3_15 v275 S264 n hn G_S264 (by omega) (by omega)) (fun S287 hP => ?_)
        obtain ⟨G_S287, fS287, o289⟩ := hP
        have F_S287 := zz_fr.trans F_S264 fS287 rfl (fun a i h => Or.inr (Or.inr (h)))
        have g290 := zz_G.r G_S287 1076 1 0 1000000 rfl rfl
        exact zz_vret zd_3_5_159 rfl (Nat.zero_le _) (Nat.zero_le _) ⟨_, rfl, G_S287, F_S287, by omega⟩
abbrev zy_makeWaits_3_12 : mm_Y := (⟨"TensorForge$Compiler", "makeWaits", "()V"⟩, prog_3_method_12_code, 5, none)
theorem zyw_makeWaits_3_12 : mm_Yw zy_makeWaits_3_12 0 := ⟨mm_tb_1 1479 (by decide +kernel) rfl, mm_tb_1 10 (by decide +kernel) rfl, ⟨by decide, by decide⟩, by decide +kernel⟩
theorem zd_3_12_0 : zz_D zy_makeWaits_3_12 0 (.iconst 0) 1 1 := ⟨by decide +kernel, rfl⟩
theorem zd_3_12_1 : zz_D zy_makeWaits_3_12 1 (.bipush 9) 2 3 := ⟨by decide +kernel, rfl⟩
theorem zd_3_12_3 : zz_D zy_makeWaits_3_12 3 (.invokestatic 132) 3 6 := ⟨by decide +kernel, rfl⟩
theorem zd_3_12_6 : zz_D zy_makeWaits_3_12 6 (.iconst 2) 1 7 := ⟨by decide +kernel, rfl⟩
theorem zd_3_12_7 : zz_D zy_makeWaits_3_12 7 (.invokestatic 139) 3 10 := ⟨by decide +kernel, rfl⟩
theorem zd_3_12_10 : zz_D zy_makeWaits_3_12 10 (.lor) 1 11 := ⟨by decide +kernel, rfl⟩
theorem zd_3_12_11 : zz_D zy_makeWaits_3_12 11 (.lstore_n 1) 1 12 := ⟨by decide +kernel, rfl⟩
theorem zd_3_12_12 : zz_D zy_makeWaits_3_12 12 (.aload_n 0) 1 13 := ⟨by decide +kernel, rfl⟩
theorem zd_3_12_13 : zz_D zy_makeWaits_3_12 13 (.getfield 70) 3 16 := ⟨by decide +kernel, rfl⟩
theorem zd_3_12_16 : zz_D zy_makeWaits_3_12 16 (.iconst 1) 1 17 := ⟨by decide +kernel, rfl⟩
theorem zd_3_12_17 : zz_B zy_makeWaits_3_12 17 (Instr.if_icmp .le) 32 20 := ⟨15, by decide +kernel, rfl, rfl⟩
theorem zd_3_12_32 : zz_D zy_makeWaits_3_12 32 (.aload_n 0) 1 33 := ⟨by decide +kernel, rfl⟩
theorem zd_3_12_33 : zz_D zy_makeWaits_3_12 33 (.lload_n 1) 1 34 := ⟨by decide +kernel, rfl⟩
theorem zd_3_12_34 : zz_D zy_makeWaits_3_12 34 (.bipush 11) 2 36 := ⟨by decide +kernel, rfl⟩
theorem zd_3_12_36 : zz_D zy_makeWaits_3_12 36 (.iconst 1) 1 37 := ⟨by decide +kernel, rfl⟩
theorem zd_3_12_37 : zz_D zy_makeWaits_3_12 37 (.invokestatic 132) 3 40 := ⟨by decide +kernel, rfl⟩
theorem zd_3_12_40 : zz_D zy_makeWaits_3_12 40 (.lor) 1 41 := ⟨by decide +kernel, rfl⟩
theorem zd_3_12_41 : zz_D zy_makeWaits_3_12 41 (.iconst 3) 1 42 := ⟨by decide +kernel, rfl⟩
theorem zd_3_12_42 : zz_D zy_makeWaits_3_12 42 (.invokestatic 139) 3 45 := ⟨by decide +kernel, rfl⟩
theorem zd_3_12_45 : zz_D zy_makeWaits_3_12 45 (.lor) 1 46 := ⟨by decide +kernel, rfl⟩
theorem zd_3_12_46 : zz_D zy_makeWaits_3_12 46 (.invokevirtual 143) 3 49 := ⟨by decide +kernel, rfl⟩
theorem zd_3_12_49 : zz_D zy_makeWaits_3_12 49 (.aload_n 0) 1 50 := ⟨by decide +kernel, rfl⟩
theorem zd_3_12_50 : zz_D zy_makeWaits_3_12 50 (.getfield 73) 3 53 := ⟨by decide +kernel, rfl⟩
theorem zd_3_12_53 : zz_D zy_makeWaits_3_12 53 (.iconst 1) 1 54 := ⟨by decide +kernel, rfl⟩
theorem zd_3_12_54 : zz_B zy_makeWaits_3_12 54 (Instr.if_icmp .le) 61 57 := ⟨7, by decide +kernel, rfl, rfl⟩
theorem zd_3_12_61 : zz_D zy_makeWaits_3_12 61 (.iconst 2) 1 62 := ⟨by decide +kernel, rfl⟩
theorem zd_3_12_62 : zz_D zy_makeWaits_3_12 62 (.istore_n 3) 1 63 := ⟨by decide +kernel, rfl⟩
theorem zd_3_12_63 : zz_D zy_makeWaits_3_12 63 (.iconst 0) 1 64 := ⟨by decide +kernel, rfl⟩
theorem zd_3_12_64 : zz_D zy_makeWaits_3_12 64 (.istore 4) 2 66 := ⟨by decide +kernel, rfl⟩
theorem zd_3_12_57 : zz_D zy_makeWaits_3_12 57 (.iconst 3) 1 58 := ⟨by decide +kernel, rfl⟩
theorem zd_3_12_58 : zz_B zy_makeWaits_3_12 58 Instr.goto 62 61 := ⟨4, by decide +kernel, rfl, rfl⟩
theorem zd_3_12_20 : zz_D zy_makeWaits_3_12 20 (.aload_n 0) 1 21 := ⟨by decide +kernel, rfl⟩
theorem zd_3_12_21 : zz_D zy_makeWaits_3_12 21 (.lload_n 1) 1 22 := ⟨by decide +kernel, rfl⟩
theorem zd_3_12_22 : zz_D zy_makeWaits_3_12 22 (.bipush 11) 2 24 := ⟨by decide +kernel, rfl⟩
theorem zd_3_12_24 : zz_D zy_makeWaits_3_12 24 (.iconst 1) 1 25 := ⟨by decide +kernel, rfl⟩
theorem zd_3_12_25 : zz_D zy_makeWaits_3_12 25 (.invokestatic 132) 3 28 := ⟨by decide +kernel, rfl⟩
theorem zd_3_12_28 : zz_D zy_makeWaits_3_12 28 (.lor) 1 29 := ⟨by decide +kernel, rfl⟩
theorem zd_3_12_29 : zz_D zy_makeWaits_3_12 29 (.invokevirtual 143) 3 32 := ⟨by decide +kernel, rfl⟩
theorem zd_3_12_66 : zz_D zy_makeWaits_3_12 66 (.iload 4) 2 68 := ⟨by decide +kernel, rfl⟩
theorem zd_3_12_68 : zz_D zy_makeWaits_3_12 68 (.iload_n 3) 1 69 := ⟨by decide +kernel, rfl⟩
theorem zd_3_12_69 : zz_B zy_makeWaits_3_12 69 (Instr.if_icmp .ge) 83 72 := ⟨14, by decide +kernel, rfl, rfl⟩
theorem zd_3_12_72 : zz_D zy_makeWaits_3_12 72 (.aload_n 0) 1 73 := ⟨by decide +kernel, rfl⟩
theorem zd_3_12_73 : zz_D zy_makeWaits_3_12 73 (.lload_n 1) 1 74 := ⟨by decide +kernel, rfl⟩
theorem zd_3_12_74 : zz_D zy_makeWaits_3_12 74 (.invokevirtual 143) 3 77 := ⟨by decide +kernel, rfl⟩
theorem zd_3_12_77 : zz_D zy_makeWaits_3_12 77 (.iinc 4 1) 3 80 := ⟨by decide +kernel, rfl⟩
theorem zd_3_12_80 : zz_B zy_makeWaits_3_12 80 Instr.goto 66 83 := ⟨(-14), by decide +kernel, rfl, rfl⟩
theorem zd_3_12_83 : zz_D zy_makeWaits_3_12 83 (.return_) 1 84 := ⟨by decide +kernel, rfl⟩
-- TensorForge$Compiler makeWaits ()V
abbrev zr_makeWaits_3_12 : Room := { frames := 2, cells := 0, slots := 0, locals := 28 }
def zp_makeWaits_3_12  (S0 : zz_S) : zz_S → Prop := fun S => zz_G S ∧ zz_fr [(1076, 1)] [] (fun a i => a = zz_rf 4 (S0 1076 0)) S0 S ∧ (S0 1076 1 ≤ S 1076 1 ∧ S 1076 1 ≤ S0 1076 1 + 5)
theorem zb_makeWaits_3_12_66 {g : mm_G} {l : Launch}  (S0 : zz_S) (n : Nat) (hn : zz_end ≤ n) (G_S0 : zz_G S0) (hq : S0 1076 1 ≤ 900000) (x1 : Int) (x3 : Int) (x4 : Int) (S : zz_S) (G_S : zz_G S) (F_S : zz_fr [(1076, 1)] [] (fun a i => a = zz_rf 4 (S0 1076 0)) S0 S) (i66_0 : (-9223372036854775808) ≤ x1 ∧ x1 ≤ 9223372036854775807) (i66_1 : 2 ≤ x3 ∧ x3 ≤ 3) (i66_2 : 0 ≤ x4 ∧ x4 ≤ 3) (R : Nat) (hR : (x3 - x4).toNat = R) (k66 : ∀ (x1 : Int) (x3 : Int) (x4 : Int) (S : zz_S), zz_G S → zz_fr [(1076, 1)] [] (fun a i => a = zz_rf 4 (S0 1076 0)) S0 S → ((-9223372036854775808) ≤ x1 ∧ x1 ≤ 9223372036854775807) → (2 ≤ x3 ∧ x3 ≤ 3) → (0 ≤ x4 ∧ x4 ≤ 3) → (x3 - x4).toNat < R → zz_E g l zy_makeWaits_3_12 zr_makeWaits_3_12 (zz_QV n (zp_makeWaits_3_12  S0)) S n 66 [some (.ref 1076), some (zl x1), none, some (zi x3), some (zi x4)] [] 0 0) : zz_E g l zy_makeWaits_3_12 zr_makeWaits_3_12 (zz_QV n (zp_makeWaits_3_12  S0)) S n 66 [some (.ref 1076), some (zl x1), none, some (zi x3), some (zi x4)] [] 0 0 := by
  refine zz_iload (x := x4) rfl zd_3_12_66 ?_
  refine zz_iload_n (x := x3) rfl zd_3_12_68 ?_
  refine zz_icmp_ge (by omega) (by omega) zd_3_12_69 (fun c46 => ?_) (fun c46 => ?_)
  · have g47 := zz_G.r G_S 1076 1 0 1000000 rfl rfl
    exact zz_vret zd_3_12_83 rfl (Nat.zero_le _) (Nat.zero_le _) ⟨_, rfl, G_S, F_S, by omega⟩
  · refine zz_aload_n (x := 1076) rfl zd_3_12_72 ?_
    refine zz_lload_n (x := x1) rfl zd_3_12_73 ?_
    have g48 := zz_G.r G_S 1076 1 0 1000000 rfl rfl
    refine zz_callVV [zl x1] zd_3_12_74 zk_Compiler_143 zT_1076 (zz_ltn hn rfl) rfl rfl ⟨Nat.le_of_ble_eq_true rfl, Nat.le_of_ble_eq_true rfl⟩ ⟨rfl, rfl⟩ (Nat.zero_le _) (Nat.zero_le _) (zc_emit_3_15 x1 S n hn G_S (by omega) (by omega)) (fun S49 hP => ?_)
    obtain ⟨G_S49, fS49, o51⟩ := hP
    have F_S49 := zz_fr.trans F_S fS49 rfl (fun a i h => Or.inr (Or.inr (h)))
    refine zz_iinc [some (.ref 1076), some (zl x1), none, some (zi x3), some (zi (x4 + 1))] zd_3_12_77 rfl rfl ?_
    refine zz_goto zd_3_12_80 ?_
    refine zz_less (ls1 := [some (.ref 1076), some (zl x1), none, some (zi x3), some (zi (x4 + 1))]) ⟨rfl, ⟨rfl, ⟨rfl, ⟨rfl, trivial⟩⟩⟩⟩ ?_
    exact k66 x1 x3 (x4 + 1) S49 G_S49 F_S49 (by omega) (by omega) (by omega) (by omega)
theorem zi_makeWaits_3_12 {g : mm_G} {l : Launch}  (S0 : zz_S) (n : Nat) (hn : zz_end ≤ n) (G_S0 : zz_G S0) (hq : S0 1076 1 ≤ 900000) : ∀ N : Nat, (∀ (x1 : Int) (x3 : Int) (x4 : Int) (S : zz_S), zz_G S → zz_fr [(1076, 1)] [] (fun a i => a = zz_rf 4 (S0 1076 0)) S0 S → ((-9223372036854775808) ≤ x1 ∧ x1 ≤ 9223372036854775807) → (2 ≤ x3 ∧ x3 ≤ 3) → (0 ≤ x4 ∧ x4 ≤ 3) → (x3 - x4).toNat < N → zz_E g l zy_makeWaits_3_12 zr_makeWaits_3_12 (zz_QV n (zp_makeWaits_3_12  S0)) S n 66 [some (.ref 1076), some (zl x1), none, some (zi x3), some (zi x4)] [] 0 0) := by
  intro N
  induction N with
  | zero => exact fun x1 x3 x4 S _ _ _ _ _ h => absurd h (Nat.not_lt_zero _)
  | succ N ih =>
    exact fun x1 x3 x4 S a b j0 j1 j2 hR => zb_makeWaits_3_12_66  S0 n hn G_S0 hq x1 x3 x4 S a b j0 j1 j2 _ rfl (fun x1 x3 x4 S a b j0 j1 j2 h => ih x1 x3 x4 S a b j0 j1 j2 (Nat.lt_of_lt_of_le h (Nat.le_of_lt_succ hR)))
theorem zc_makeWaits_3_12 {g : mm_G} {l : Launch}  (S0 : zz_S) (n : Nat) (hn : zz_end ≤ n) (G_S0 : zz_G S0) (hq : S0 1076 1 ≤ 900000) : mm_Met g l zy_makeWaits_3_12 zr_makeWaits_3_12 [.ref 1076] (zz_M S0 n) n (zz_QV n (zp_makeWaits_3_12  S0)) := by
  refine zz_enter (by decide) (Nat.le_of_ble_eq_true rfl) (zz_less (ls1 := [some (.ref 1076)]) ⟨rfl, trivial⟩ ?_)
  have F_S0 : zz_fr [(1076, 1)] [] (fun a i => a = zz_rf 4 (S0 1076 0)) S0 S0 := zz_fr.refl
  have k66 : ∀ (x1 : Int) (x3 : Int) (x4 : Int) (S : zz_S), zz_G S → zz_fr [(1076, 1)] [] (fun a i => a = zz_rf 4 (S0 1076 0)) S0 S → ((-9223372036854775808) ≤ x1 ∧ x1 ≤ 9223372036854775807) → (2 ≤ x3 ∧ x3 ≤ 3) → (0 ≤ x4 ∧ x4 ≤ 3) → zz_E g l zy_makeWaits_3_12 zr_makeWaits_3_12 (zz_QV n (zp_makeWaits_3_12  S0)) S n 66 [some (.ref 1076), some (zl x1), none, some (zi x3), some (zi x4)] [] 0 0 := fun x1 x3 x4 S a b j0 j1 j2 => (zi_makeWaits_3_12 (g := g) (l := l)  S0 n hn G_S0 hq _) x1 x3 x4 S a b j0 j1 j2 (Nat.lt_succ_self _)
  refine zz_iconst zd_3_12_0 ?_
  refine zz_bipush (by decide) zd_3_12_1 ?_
  refine zz_callSJ [zi 0, zi 9] zd_3_12_3 zk_Compiler_132 rfl rfl ⟨Nat.le_of_ble_eq_true rfl, Nat.le_of_ble_eq_true rfl⟩ ⟨rfl, rfl⟩ (Nat.zero_le _) (Nat.zero_le _) (zc_bits_12_4 0 9 S0 n hn G_S0 (by omega) (by omega)) (fun v2 S1 hP => ?_)
  obtain ⟨rfl, o3⟩ := hP
  refine zz_iconst zd_3_12_6 ?_
  refine zz_callSJ [zi 2] zd_3_12_7 zk_Compiler_139 rfl rfl ⟨Nat.le_of_ble_eq_true rfl, Nat.le_of_ble_eq_true rfl⟩ ⟨rfl, rfl⟩ (Nat.zero_le _) (Nat.zero_le _) (zc_flag_12_5 2 S0 n hn G_S0 (by omega)) (fun v5 S4 hP => ?_)
  obtain ⟨rfl, o6⟩ := hP
  refine zz_lor zd_3_12_10 (fun v7 hv7 ev7 => ?_)
  refine zz_lstore_n [some (.ref 1076), some (zl v7), none] zd_3_12_11 (by decide) rfl ?_
  refine zz_aload_n (x := 1076) rfl zd_3_12_12 ?_
  have g8 := zz_G.r G_S0 1076 6 (-2147483648) 2147483647 rfl rfl
  refine zz_geti (z := S0 1076 6) zd_3_12_13 zf_Compiler_70 zT_1076 rfl (zz_ltn hn rfl) rfl ?_
  refine zz_iconst zd_3_12_16 ?_
  refine zz_icmp_le (by omega) (by omega) zd_3_12_17 (fun c9 => ?_) (fun c9 => ?_)
  · refine zz_aload_n (x := 1076) rfl zd_3_12_32 ?_
    refine zz_lload_n (x := v7) rfl zd_3_12_33 ?_
    refine zz_bipush (by decide) zd_3_12_34 ?_
    refine zz_iconst zd_3_12_36 ?_
    refine zz_callSJ [zi 11, zi 1] zd_3_12_37 zk_Compiler_132 rfl rfl ⟨Nat.le_of_ble_eq_true rfl, Nat.le_of_ble_eq_true rfl⟩ ⟨rfl, rfl⟩ (Nat.zero_le _) (Nat.zero_le _) (zc_bits_12_4 11 1 S0 n hn G_S0 (by omega) (by omega)) (fun v11 S10 hP => ?_)
    obtain ⟨rfl, o12⟩ := hP
    refine zz_lor zd_3_12_40 (fun v13 hv13 ev13 => ?_)
    refine zz_iconst zd_3_12_41 ?_
    refine zz_callSJ [zi 3] zd_3_12_42 zk_Compiler_139 rfl rfl ⟨Nat.le_of_ble_eq_true rfl, Nat.le_of_ble_eq_true rfl⟩ ⟨rfl, rfl⟩ (Nat.zero_le _) (Nat.zero_le _) (zc_flag_12_5 3 S0 n hn G_S0 (by omega)) (fun v15 S14 hP => ?_)
    obtain ⟨rfl, o16⟩ := hP
    refine zz_lor zd_3_12_45 (fun v17 hv17 ev17 => ?_)
    have g18 := zz_G.r G_S0 1076 1 0 1000000 rfl rfl
    refine zz_callVV [zl v17] zd_3_12_46 zk_Compiler_143 zT_1076 (zz_ltn hn rfl) rfl rfl ⟨Nat.le_of_ble_eq_true rfl, Nat.le_of_ble_eq_true rfl⟩ ⟨rfl, rfl⟩ (Nat.zero_le _) (Nat.zero_le _) (zc_emit_3_15 v17 S0 n hn G_S0 (by omega) (by omega)) (fun S19 hP => ?_)
    obtain ⟨G_S19, fS19, o21⟩ := hP
    have F_S19 := zz_fr.trans F_S0 fS19 rfl (fun a i h => Or.inr (Or.inr (h)))
    refine zz_aload_n (x := 1076) rfl zd_3_12_49 ?_
    have g22 := zz_G.r G_S0 1076 12 (-2147483648) 2147483647 rfl rfl
    refine zz_geti (z := S0 1076 12) zd_3_12_50 zf_Compiler_73 zT_1076 rfl (zz_ltn hn rfl) (zz_rc fS19 rfl rfl (by omega) rfl) ?_
    refine zz_iconst zd_3_12_53 ?_
    refine zz_icmp_le (by omega) (by omega) zd_3_12_54 (fun c23 => ?_) (fun c23 => ?_)
    · refine zz_iconst zd_3_12_61 ?_
      refine zz_istore_n [some (.ref 1076), some (zl v7), none, some (zi 2)] zd_3_12_62 (by decide) rfl ?_
      refine zz_iconst zd_3_12_63 ?_
      refine zz_istore [some (.ref 1076), some (zl v7), none, some (zi 2), some (zi 0)] zd_3_12_64 (by decide) rfl ?_
      refine zz_less (ls1 := [some (.ref 1076), some (zl v7), none, some (zi 2), some (zi 0)]) ⟨rfl, ⟨rfl, ⟨rfl, ⟨rfl, trivial⟩⟩⟩⟩ ?_
      exact k66 v7 2 0 S19 G_S19 F_S19 (by omega) (by omega) (by omega)
    · refine zz_iconst zd_3_12_57 ?_
      refine zz_goto zd_3_12_58 ?_
      refine zz_istore_n [some (.ref 1076), some (zl v7), none, some (zi 3)] zd_3_12_62 (by decide) rfl ?_
      refine zz_iconst zd_3_12_63 ?_
      refine zz_istore [some (.ref 1076), some (zl v7), none, some (zi 3), some (zi 0)] zd_3_12_64 (by decide) rfl ?_
      refine zz_less (ls1 := [some (.ref 1076), some (zl v7), none, some (zi 3), some (zi 0)]) ⟨rfl, ⟨rfl, ⟨rfl, ⟨rfl, trivial⟩⟩⟩⟩ ?_
      exact k66 v7 3 0 S19 G_S19 F_S19 (by omega) (by omega) (by omega)
  · refine zz_aload_n (x := 1076) rfl zd_3_12_20 ?_
    refine zz_lload_n (x := v7) rfl zd_3_12_21 ?_
    refine zz_bipush (by decide) zd_3_12_22 ?_
    refine zz_iconst zd_3_12_24 ?_
    refine zz_callSJ [zi 11, zi 1] zd_3_12_25 zk_Compiler_132 rfl rfl ⟨Nat.le_of_ble_eq_true rfl, Nat.le_of_ble_eq_true rfl⟩ ⟨rfl, rfl⟩ (Nat.zero_le _) (Nat.zero_le _) (zc_bits_12_4 11 1 S0 n hn G_S0 (by omega) (by omega)) (fun v25 S24 hP => ?_)
    obtain ⟨rfl, o26⟩ := hP
    refine zz_lor zd_3_12_28 (fun v27 hv27 ev27 => ?_)
    have g28 := zz_G.r G_S0 1076 1 0 1000000 rfl rfl
    refine zz_callVV [zl v27] zd_3_12_29 zk_Compiler_143 zT_1076 (zz_ltn hn rfl) rfl rfl ⟨Nat.le_of_ble_eq_true rfl, Nat.le_of_ble_eq_true rfl⟩ ⟨rfl, rfl⟩ (Nat.zero_le _) (Nat.zero_le _) (zc_emit_3_15 v27 S0 n hn G_S0 (by omega) (by omega)) (fun S29 hP => ?_)
    obtain ⟨G_S29, fS29, o31⟩ := hP
    have F_S29 := zz_fr.trans F_S0 fS29 rfl (fun a i h => Or.inr (Or.inr (h)))
    refine zz_aload_n (x := 1076) rfl zd_3_12_32 ?_
    refine zz_lload_n (x := v7) rfl zd_3_12_33 ?_
    refine zz_bipush (by decide) zd_3_12_34 ?_
    refine zz_iconst zd_3_12_36 ?_
    refine zz_callSJ [zi 11, zi 1] zd_3_12_37 zk_Compiler_132 rfl rfl ⟨Nat.le_of_ble_eq_true rfl, Nat.le_of_ble_eq_true rfl⟩ ⟨rfl, rfl⟩ (Nat.zero_le _) (Nat.zero_le _) (zc_bits_12_4 11 1 S29 n hn G_S29 (by omega) (by omega)) (fun v33 S32 hP => ?_)
    obtain ⟨rfl, o34⟩ := hP
    refine zz_lor zd_3_12_40 (fun v35 hv35 ev35 => ?_)
    refine zz_iconst zd_3_12_41 ?_
    refine zz_callSJ [zi 3] zd_3_12_42 zk_Compiler_139 rfl rfl ⟨Nat.le_of_ble_eq_true rfl, Nat.le_of_ble_eq_true rfl⟩ ⟨rfl, rfl⟩ (Nat.zero_le _) (Nat.zero_le _) (zc_flag_12_5 3 S29 n hn G_S29 (by omega)) (fun v37 S36 hP => ?_)
    obtain ⟨rfl, o38⟩ := hP
    refine zz_lor zd_3_12_45 (fun v39 hv39 ev39 => ?_)
    have g40 := zz_G.r G_S29 1076 1 0 1000000 rfl rfl
    refine zz_callVV [zl v39] zd_3_12_46 zk_Compiler_143 zT_1076 (zz_ltn hn rfl) rfl rfl ⟨Nat.le_of_ble_eq_true rfl, Nat.le_of_ble_eq_true rfl⟩ ⟨rfl, rfl⟩ (Nat.zero_le _) (Nat.zero_le _) (zc_emit_3_15 v39 S29 n hn G_S29 (by omega) (by omega)) (fun S41 hP => ?_)
    obtain ⟨G_S41, fS41, o43⟩ := hP
    have F_S41 := zz_fr.trans F_S29 fS41 rfl (fun a i h => Or.inr (Or.inr (h)))
    refine zz_aload_n (x := 1076) rfl zd_3_12_49 ?_
    have g44 := zz_G.r G_S0 1076 12 (-2147483648) 2147483647 rfl rfl
    refine zz_geti (z := S0 1076 12) zd_3_12_50 zf_Compiler_73 zT_1076 rfl (zz_ltn hn rfl) (zz_rc fS41 rfl rfl (by omega) (zz_rc fS29 rfl rfl (by omega) rfl)) ?_
    refine zz_iconst zd_3_12_53 ?_
    refine zz_icmp_le (by omega) (by omega) zd_3_12_54 (fun c45 => ?_) (fun c45 => ?_)
    · refine zz_iconst zd_3_12_61 ?_
      refine zz_istore_n [some (.ref 1076), some (zl v7), none, some (zi 2)] zd_3_12_62 (by decide) rfl ?_
      refine zz_iconst zd_3_12_63 ?_
      refine zz_istore [some (.ref 1076), some (zl v7), none, some (zi 2), some (zi 0)] zd_3_12_64 (by decide) rfl ?_
      refine zz_less (ls1 := [some (.ref 1076), some (zl v7), none, some (zi 2), some (zi 0)]) ⟨rfl, ⟨rfl, ⟨rfl, ⟨rfl, trivial⟩⟩⟩⟩ ?_
      exact k66 v7 2 0 S41 G_S41 F_S41 (by omega) (by omega) (by omega)
    · refine zz_iconst zd_3_12_57 ?_
      refine zz_goto zd_3_12_58 ?_
      refine zz_istore_n [some (.ref 1076), some (zl v7), none, some (zi 3)] zd_3_12_62 (by decide) rfl ?_
      refine zz_iconst zd_3_12_63 ?_
      refine zz_istore [some (.ref 1076), some (zl v7), none, some (zi 3), some (zi 0)] zd_3_12_64 (by decide) rfl ?_
      refine zz_less (ls1 := [some (.ref 1076), some (zl v7), none, some (zi 3), some (zi 0)]) ⟨rfl, ⟨rfl, ⟨rfl, ⟨rfl, trivial⟩⟩⟩⟩ ?_
      exact k66 v7 3 0 S41 G_S41 F_S41 (by omega) (by omega) (by omega)
-- TensorForge$Reaches areThere ()Z
abbrev zr_areThere_9_3 : Room := { frames := 0, cells := 0, slots := 0, locals := 0 }
def zp_areThere_9_3 (t : Int) (S0 : zz_S) : Int → zz_S → Prop := fun r S => S0 = S ∧ (0 ≤ r ∧ r ≤ 1)
theorem zb_areThere_9_3_2 {g : mm_G} {l : Launch} (t : Int) (S0 : zz_S) (n : Nat) (hn : zz_end ≤ n) (G_S0 : zz_G S0) (ht : 0 ≤ t ∧ t ≤ 4) (x1 : Int) (S : zz_S) (G_S : zz_G S) (F_S : zz_fr [] [] (fun _ _ => False) S0 S) (i2_0 : 0 ≤ x1 ∧ x1 ≤ 5) (R : Nat) (hR : (5 - x1).toNat = R) (k2 : ∀ (x1 : Int) (S : zz_S), zz_G S → zz_fr [] [] (fun _ _ => False) S0 S → (0 ≤ x1 ∧ x1 ≤ 5) → (5 - x1).toNat < R → zz_E g l zy_areThere_9_3 zr_areThere_9_3 (zz_QI n (zp_areThere_9_3 t S0)) S n 2 [some (.ref (zz_rf 5 t)), some (zi x1)] [] 0 0) : zz_E g l zy_areThere_9_3 zr_areThere_9_3 (zz_QI n (zp_areThere_9_3 t S0)) S n 2 [some (.ref (zz_rf 5 t)), some (zi x1)] [] 0 0 := by
  have b_t := zz_rf5 (z := t) (by omega)
  refine zz_iload_n (x := x1) rfl zd_9_3_2 ?_
  refine zz_iconst zd_9_3_3 ?_
  refine zz_icmp_ge (by omega) (by omega) zd_9_3_4 (fun c1 => ?_) (fun c1 => ?_)
  · refine zz_iconst zd_9_3_43 ?_
    exact zz_zret zd_9_3_44 rfl (by omega) (Nat.zero_le _) (Nat.zero_le _) ⟨_, _, rfl, zz_fr.eq F_S, by omega⟩
  · refine zz_aload_n (x := zz_rf 5 t) rfl zd_9_3_7 ?_
    refine zz_getr (kd := 0) (z := ((zz_rf 5 t + 2 : Nat) : Int)) zd_9_3_8 zf_Reaches_15 (zT_k5 (by omega)) rfl (zN_k5 hn (by omega)) (zE_k5a2 G_S (by omega)) (Int.natCast_nonneg _) (zz_rf 5 t + 2) (Int.toNat_natCast _) ?_
    refine zz_iload_n (x := x1) rfl zd_9_3_11 ?_
    have g2 := zz_G.r G_S0 (zz_rf 5 t + 2) x1.toNat (-2147483648) 2147483647 (zR_k5a2 (by omega)) (zB_k5a2 (by omega))
    refine zz_iald (z := S0 (zz_rf 5 t + 2) x1.toNat) zd_9_3_12 (zT_k5a2 (by omega)) rfl (zN_k5a2 hn (by omega)) (by decide) (by omega) (zz_rc F_S (zP_k5a2 (by omega) rfl) (zQ_k5a2 (by omega) rfl) (fun h => h) rfl) ?_
    refine zz_gets (q0 := 0) zd_9_3_13 rfl (by decide) zs_Reaches_44 ?_
    refine zz_iload_n (x := x1) rfl zd_9_3_16 ?_
    obtain ⟨v3, hv3, tv3⟩ := zz_sta0 (i := x1) (by omega)
    refine zz_tiald (N := 5) v3 zd_9_3_17 rfl (by decide) rfl (by decide) (by omega) tv3 ?_
    refine zz_icmp_ge (by omega) (by omega) zd_9_3_18 (fun c4 => ?_) (fun c4 => ?_)
    · refine zz_iconst zd_9_3_35 ?_
      exact zz_zret zd_9_3_36 rfl (by omega) (Nat.zero_le _) (Nat.zero_le _) ⟨_, _, rfl, zz_fr.eq F_S, by omega⟩
    · refine zz_aload_n (x := zz_rf 5 t) rfl zd_9_3_21 ?_
      refine zz_getr (kd := 0) (z := ((zz_rf 5 t + 4 : Nat) : Int)) zd_9_3_22 zf_Reaches_21 (zT_k5 (by omega)) rfl (zN_k5 hn (by omega)) (zE_k5a4 G_S (by omega)) (Int.natCast_nonneg _) (zz_rf 5 t + 4) (Int.toNat_natCast _) ?_
      refine zz_iload_n (x := x1) rfl zd_9_3_25 ?_
      have g5 := zz_G.r G_S0 (zz_rf 5 t + 4) x1.toNat (-2147483648) 2147483647 (zR_k5a4 (by omega)) (zB_k5a4 (by omega))
      refine zz_iald (z := S0 (zz_rf 5 t + 4) x1.toNat) zd_9_3_26 (zT_k5a4 (by omega)) rfl (zN_k5a4 hn (by omega)) (by decide) (by omega) (zz_rc F_S (zP_k5a4 (by omega) rfl) (zQ_k5a4 (by omega) rfl) (fun h => h) rfl) ?_
      refine zz_gets (q0 := 0) zd_9_3_27 rfl (by decide) zs_Reaches_44 ?_
      refine zz_iload_n (x := x1) rfl zd_9_3_30 ?_
      obtain ⟨v6, hv6, tv6⟩ := zz_sta0 (i := x1) (by omega)
      refine zz_tiald (N := 5) v6 zd_9_3_31 rfl (by decide) rfl (by decide) (by omega) tv6 ?_
      refine zz_icmp_lt (by omega) (by omega) zd_9_3_32 (fun c7 => ?_) (fun c7 => ?_)
      · refine zz_iinc [some (.ref (zz_rf 5 t)), some (zi (x1 + 1))] zd_9_3_37 rfl rfl ?_
        refine zz_goto zd_9_3_40 ?_
        refine zz_less (ls1 := [some (.ref (zz_rf 5 t)), some (zi (x1 + 1))]) ⟨rfl, ⟨rfl, trivial⟩⟩ ?_
        exact k2 (x1 + 1) S G_S F_S (by omega) (by omega)
      · refine zz_iconst zd_9_3_35 ?_
        exact zz_zret zd_9_3_36 rfl (by omega) (Nat.zero_le _) (Nat.zero_le _) ⟨_, _, rfl, zz_fr.eq F_S, by omega⟩
theorem zi_areThere_9_3 {g : mm_G} {l : Launch} (t : Int) (S0 : zz_S) (n : Nat) (hn : zz_end ≤ n) (G_S0 : zz_G S0) (ht : 0 ≤ t ∧ t ≤ 4) : ∀ N : Nat, (∀ (x1 : Int) (S : zz_S), zz_G S → zz_fr [] [] (fun _ _ => False) S0 S → (0 ≤ x1 ∧ x1 ≤ 5) → (5 - x1).toNat < N → zz_E g l zy_areThere_9_3 zr_areThere_9_3 (zz_QI n (zp_areThere_9_3 t S0)) S n 2 [some (.ref (zz_rf 5 t)), some (zi x1)] [] 0 0) := by
  intro N
  induction N with
  | zero => exact fun x1 S _ _ _ h => absurd h (Nat.not_lt_zero _)
  | succ N ih =>
    exact fun x1 S a b j0 hR => zb_areThere_9_3_2 t S0 n hn G_S0 ht x1 S a b j0 _ rfl (fun x1 S a b j0 h => ih x1 S a b j0 (Nat.lt_of_lt_of_le h (Nat.le_of_lt_succ hR)))
theorem zc_areThere_9_3 {g : mm_G} {l : Launch} (t : Int) (S0 : zz_S) (n : Nat) (hn : zz_end ≤ n) (G_S0 : zz_G S0) (ht : 0 ≤ t ∧ t ≤ 4) : mm_Met g l zy_areThere_9_3 zr_areThere_9_3 [.ref (zz_rf 5 t)] (zz_M S0 n) n (zz_QI n (zp_areThere_9_3 t S0)) := by
  refine zz_enter (by decide) (Nat.le_of_ble_eq_true rfl) (zz_less (ls1 := [some (.ref (zz_rf 5 t))]) ⟨rfl, trivial⟩ ?_)
  have F_S0 : zz_fr [] [] (fun _ _ => False) S0 S0 := zz_fr.refl
  have k2 : ∀ (x1 : Int) (S : zz_S), zz_G S → zz_fr [] [] (fun _ _ => False) S0 S → (0 ≤ x1 ∧ x1 ≤ 5) → zz_E g l zy_areThere_9_3 zr_areThere_9_3 (zz_QI n (zp_areThere_9_3 t S0)) S n 2 [some (.ref (zz_rf 5 t)), some (zi x1)] [] 0 0 := fun x1 S a b j0 => (zi_areThere_9_3 (g := g) (l := l) t S0 n hn G_S0 ht _) x1 S a b j0 (Nat.lt_succ_self _)
  have b_t := zz_rf5 (z := t) (by omega)
  refine zz_iconst zd_9_3_0 ?_
  refine zz_istore_n [some (.ref (zz_rf 5 t)), some (zi 0)] zd_9_3_1 (by decide) rfl ?_
  refine zz_less (ls1 := [some (.ref (zz_rf 5 t)), some (zi 0)]) ⟨rfl, ⟨rfl, trivial⟩⟩ ?_
  exact k2 0 S0 G_S0 F_S0 (by omega)

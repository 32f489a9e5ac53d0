-- TensorForge$Compiler makeGroup (ZZ)V
abbrev zr_makeGroup_3_5 : Room := { frames := 3, cells := 0, slots := 0, locals := 48 }
def zp_makeGroup_3_5 (p0 : Int) (p1 : Int) (S0 : zz_S) : zz_S → Prop := fun S => zz_G S ∧ zz_fr [(1076, 1)] [1029, 1030] (fun _ _ => False) S0 S ∧ (S0 1076 1 ≤ S 1076 1 ∧ S 1076 1 ≤ S0 1076 1 + 7)
theorem zc_makeGroup_3_5 {g : mm_G} {l : Launch} (p0 : Int) (p1 : Int) (S0 : zz_S) (n : Nat) (hn : zz_end ≤ n) (G_S0 : zz_G S0) (hp0 : 0 ≤ p0 ∧ p0 ≤ 1) (hp1 : 0 ≤ p1 ∧ p1 ≤ 1) (hq : S0 1076 1 ≤ 950000) (hl : 0 ≤ S0 1076 3 ∧ 0 ≤ S0 1076 4 ∧ 0 ≤ S0 1076 5) : mm_Met g l zy_makeGroup_3_5 zr_makeGroup_3_5 [.ref 1076, zi p0, zi p1] (zz_M S0 n) n (zz_QV n (zp_makeGroup_3_5 p0 p1 S0)) := by
  refine zz_enter (by decide) (Nat.le_of_ble_eq_true rfl) (zz_less (ls1 := [some (.ref 1076), some (zi p0), some (zi p1)]) ⟨rfl, ⟨rfl, ⟨rfl, trivial⟩⟩⟩ ?_)
  have F_S0 : zz_fr [(1076, 1)] [1029, 1030] (fun _ _ => False) S0 S0 := zz_fr.refl
  refine zz_aload_n (x := 1076) rfl zd_3_5_0 ?_
  have g1 := zz_G.r G_S0 1076 1 0 1000000 rfl rfl
  refine zz_geti (z := S0 1076 1) zd_3_5_1 zf_Compiler_15 zT_1076 rfl (zz_ltn hn rfl) rfl ?_
  refine zz_istore_n [some (.ref 1076), some (zi p0), some (zi p1), some (zi (S0 1076 1))] zd_3_5_4 (by decide) rfl ?_
  refine zz_aload_n (x := 1076) rfl zd_3_5_5 ?_
  have g2 := zz_G.r G_S0 1076 3 (-1) 23 rfl rfl
  refine zz_getr (kd := 4) (z := S0 1076 3) zd_3_5_6 zf_Compiler_51 zT_1076 rfl (zz_ltn hn rfl) rfl (by omega) (zz_rf 6 (S0 1076 3)) rfl ?_
  have g3 := zz_G.r G_S0 (zz_rf 6 (S0 1076 3)) 0 (-2147483648) 2147483647 (zR_k6_0 (by omega)) (zB_k6 (by omega))
  refine zz_geti (z := S0 (zz_rf 6 (S0 1076 3)) 0) zd_3_5_9 zf_Compiler_61 (zT_k6 (by omega)) rfl (zN_k6 hn (by omega)) rfl ?_
  refine zz_iconst zd_3_5_12 ?_
  refine zz_icmp_ne (by omega) (by omega) zd_3_5_13 (fun c4 => ?_) (fun c4 => ?_)
  · refine zz_aload_n (x := 1076) rfl zd_3_5_32 ?_
    refine zz_getr (kd := 4) (z := S0 1076 3) zd_3_5_33 zf_Compiler_51 zT_1076 rfl (zz_ltn hn rfl) rfl (by omega) (zz_rf 6 (S0 1076 3)) rfl ?_
    refine zz_geti (z := S0 (zz_rf 6 (S0 1076 3)) 0) zd_3_5_36 zf_Compiler_61 (zT_k6 (by omega)) rfl (zN_k6 hn (by omega)) rfl ?_
    refine zz_iconst zd_3_5_39 ?_
    refine zz_icmp_ne (by omega) (by omega) zd_3_5_40 (fun c5 => ?_) (fun c5 => ?_)
    · refine zz_aload_n (x := 1076) rfl zd_3_5_54 ?_
      have g6 := zz_G.r G_S0 1076 14 (-2147483648) 2147483647 rfl rfl
      refine zz_geti (z := S0 1076 14) zd_3_5_55 zf_Compiler_109 zT_1076 rfl (zz_ltn hn rfl) rfl ?_
      refine zz_if_ne (by omega) zd_3_5_58 (fun c7 => ?_) (fun c7 => ?_)
      · refine zz_aload_n (x := 1076) rfl zd_3_5_68 ?_
        have g8 := zz_G.r G_S0 1076 5 (-1) 23 rfl rfl
        refine zz_getr (kd := 4) (z := S0 1076 5) zd_3_5_69 zf_Compiler_58 zT_1076 rfl (zz_ltn hn rfl) rfl (by omega) (zz_rf 6 (S0 1076 5)) rfl ?_
        refine zz_astore [some (.ref 1076), some (zi p0), some (zi p1), some (zi (S0 1076 1)), some (.ref (zz_rf 6 (S0 1076 5)))] zd_3_5_72 (by decide) rfl ?_
        refine zz_aload_n (x := 1076) rfl zd_3_5_74 ?_
        refine zz_iconst zd_3_5_75 ?_
        refine zz_aload_n (x := 1076) rfl zd_3_5_76 ?_
        have g9 := zz_G.r G_S0 1076 11 (-2147483648) 2147483647 rfl rfl
        refine zz_geti (z := S0 1076 11) zd_3_5_77 zf_Compiler_91 zT_1076 rfl (zz_ltn hn rfl) rfl ?_
        refine zz_aload (x := zz_rf 6 (S0 1076 5)) rfl zd_3_5_80 ?_
        refine zz_iconst zd_3_5_82 ?_
        refine zz_aload_n (x := 1076) rfl zd_3_5_83 ?_
        have g10 := zz_G.r G_S0 1076 10 (-2147483648) 2147483647 rfl rfl
        refine zz_geti (z := S0 1076 10) zd_3_5_84 zf_Compiler_88 zT_1076 rfl (zz_ltn hn rfl) rfl ?_
        refine zz_aload_n (x := 1076) rfl zd_3_5_87 ?_
        have g11 := zz_G.r G_S0 1076 7 (-2147483648) 2147483647 rfl rfl
        refine zz_geti (z := S0 1076 7) zd_3_5_88 zf_Compiler_76 zT_1076 rfl (zz_ltn hn rfl) rfl ?_
        refine zz_callVI [zi 0, zi (S0 1076 10), zi (S0 1076 7)] zd_3_5_91 zk_Compiler_147 (zT_k6 (by omega)) (zN_k6 hn (by omega)) rfl rfl ⟨Nat.le_of_ble_eq_true rfl, Nat.le_of_ble_eq_true rfl⟩ ⟨rfl, rfl⟩ (Nat.zero_le _) (Nat.zero_le _) (zc_cellAt_4_15 (S0 1076 5) 0 (S0 1076 10) (S0 1076 7) S0 n hn G_S0 (by omega) (by omega) (by omega) (by omega)) (fun v13 S12 hP => ?_)
        obtain ⟨rfl, o14⟩ := hP
        refine zz_aload (x := zz_rf 6 (S0 1076 5)) rfl zd_3_5_94 ?_
        have g15 := zz_G.r G_S0 (zz_rf 6 (S0 1076 5)) 12 (-2147483648) 2147483647 (zR_k6_12 (by omega)) (zB_k6 (by omega))
        refine zz_geti (z := S0 (zz_rf 6 (S0 1076 5)) 12) zd_3_5_96 zf_Compiler_79 (zT_k6 (by omega)) rfl (zN_k6 hn (by omega)) rfl ?_
        have g16 := zz_G.r G_S0 1076 4 (-1) 23 rfl rfl
        refine zz_callVV [zi 0, zi (S0 1076 11), zi v13, zi (S0 (zz_rf 6 (S0 1076 5)) 12)] zd_3_5_99 zk_Compiler_159 zT_1076 (zz_ltn hn rfl) rfl rfl ⟨Nat.le_of_ble_eq_true rfl, Nat.le_of_ble_eq_true rfl⟩ ⟨rfl, rfl⟩ (Nat.zero_le _) (Nat.zero_le _) (zc_loadPlaces_3_10 0 (S0 1076 11) v13 (S0 (zz_rf 6 (S0 1076 5)) 12) S0 n hn G_S0 (by omega) (by omega) (by omega) (by omega) (by omega) (by omega)) (fun S17 hP => ?_)
        obtain ⟨G_S17, fS17, o19⟩ := hP
        have g20 := zz_G.r G_S0 1076 0 0 1 rfl rfl
        have F_S17 := zz_fr.trans F_S0 fS17 rfl (fun a i h => Or.inr (Or.inl (h ▸ zM_k4 (z := (S0 1076 0)) (by omega) rfl)))
        have b21 := zz_rf4 (z := (S0 1076 0)) (by omega)
        refine zz_aload_n (x := 1076) rfl zd_3_5_102 ?_
        have g22 := zz_G.r G_S0 1076 12 (-2147483648) 2147483647 rfl rfl
        refine zz_geti (z := S0 1076 12) zd_3_5_103 zf_Compiler_73 zT_1076 rfl (zz_ltn hn rfl) (zz_rc fS17 rfl rfl (by first | decide | omega) rfl) ?_
        refine zz_iconst zd_3_5_106 ?_
        refine zz_icmp_le (by omega) (by omega) zd_3_5_107 (fun c23 => ?_) (fun c23 => ?_)
        · refine zz_aload_n (x := 1076) rfl zd_3_5_116 ?_
          refine zz_aload_n (x := 1076) rfl zd_3_5_117 ?_
          have g24 := zz_G.r G_S17 1076 1 0 1000000 rfl rfl
          refine zz_geti (z := S17 1076 1) zd_3_5_118 zf_Compiler_15 zT_1076 rfl (zz_ltn hn rfl) rfl ?_
          refine zz_iconst zd_3_5_121 ?_
          refine zz_isub zd_3_5_122 ?_
          refine zz_iconst zd_3_5_123 ?_
          refine zz_callVV [zi ((S17 1076 1) - 1), zi 4] zd_3_5_124 zk_Compiler_163 zT_1076 (zz_ltn hn rfl) rfl rfl ⟨Nat.le_of_ble_eq_true rfl, Nat.le_of_ble_eq_true rfl⟩ ⟨rfl, rfl⟩ (Nat.zero_le _) (Nat.zero_le _) (zc_mark_3_16 ((S17 1076 1) - 1) 4 S17 n hn G_S17 (by omega) (by omega)) (fun S25 hP => ?_)
          obtain ⟨G_S25, fS25⟩ := hP
          have g27 := zz_G.r G_S17 1076 0 0 1 rfl rfl
          have F_S25 := zz_fr.trans F_S17 fS25 rfl (fun a i h => Or.inr (Or.inl (h ▸ zM_k4 (z := (S17 1076 0)) (by omega) rfl)))
          have b28 := zz_rf4 (z := (S17 1076 0)) (by omega)
          refine zz_aload_n (x := 1076) rfl zd_3_5_127 ?_
          refine zz_iload_n (x := p0) rfl zd_3_5_128 ?_
          have e29 : S25 1076 3 = S0 1076 3 := (zz_rc fS25 rfl rfl (by first | decide | omega) (zz_rc fS17 rfl rfl (by first | decide | omega) rfl))
          have e30 : S25 1076 4 = S0 1076 4 := (zz_rc fS25 rfl rfl (by first | decide | omega) (zz_rc fS17 rfl rfl (by first | decide | omega) rfl))
          have e31 : S25 1076 5 = S0 1076 5 := (zz_rc fS25 rfl rfl (by first | decide | omega) (zz_rc fS17 rfl rfl (by first | decide | omega) rfl))
          refine zz_callVJ [zi p0] zd_3_5_129 zk_Compiler_167 zT_1076 (zz_ltn hn rfl) rfl rfl ⟨Nat.le_of_ble_eq_true rfl, Nat.le_of_ble_eq_true rfl⟩ ⟨rfl, rfl⟩ (Nat.zero_le _) (Nat.zero_le _) (zc_workOf_3_11 p0 S25 n hn G_S25 (by omega) (by omega)) (fun v33 S32 hP => ?_)
          obtain ⟨rfl, o34⟩ := hP
          refine zz_iconst zd_3_5_132 ?_
          refine zz_callSJ [zi 1] zd_3_5_133 zk_Compiler_139 rfl rfl ⟨Nat.le_of_ble_eq_true rfl, Nat.le_of_ble_eq_true rfl⟩ ⟨rfl, rfl⟩ (Nat.zero_le _) (Nat.zero_le _) (zc_flag_12_5 1 S25 n hn G_S25 (by omega)) (fun v36 S35 hP => ?_)
          obtain ⟨rfl, o37⟩ := hP
          refine zz_lor zd_3_5_136 (fun v38 hv38 ev38 => ?_)
          refine zz_lstore [some (.ref 1076), some (zi p0), some (zi p1), some (zi (S0 1076 1)), some (zl v38), none] zd_3_5_137 (by decide) rfl ?_
          refine zz_aload_n (x := 1076) rfl zd_3_5_139 ?_
          refine zz_iload_n (x := p1) rfl zd_3_5_140 ?_
          refine zz_if_eq (by omega) zd_3_5_141 (fun c39 => ?_) (fun c39 => ?_)
          · refine zz_lload (x := v38) rfl zd_3_5_149 ?_
            refine zz_iconst zd_3_5_151 ?_
            refine zz_callSJ [zi 3] zd_3_5_152 zk_Compiler_139 rfl rfl ⟨Nat.le_of_ble_eq_true rfl, Nat.le_of_ble_eq_true rfl⟩ ⟨rfl, rfl⟩ (Nat.zero_le _) (Nat.zero_le _) (zc_flag_12_5 3 S25 n hn G_S25 (by omega)) (fun v41 S40 hP => ?_)
            obtain ⟨rfl, o42⟩ := hP
            refine zz_lor zd_3_5_155 (fun v43 hv43 ev43 => ?_)
            have e44 : S25 1076 1 = S17 1076 1 := (zz_rc fS25 rfl rfl (by first | decide | omega) rfl)
            refine zz_callVV [zl v43] zd_3_5_156 zk_Compiler_143 zT_1076 (zz_ltn hn rfl) rfl rfl ⟨Nat.le_of_ble_eq_true rfl, Nat.le_of_ble_eq_true rfl⟩ ⟨rfl, rfl⟩ (Nat.zero_le _) (Nat.zero_le _) (zc_emit_3_15 v43 S25 n hn G_S25 (by omega) (by omega)) (fun S45 hP => ?_)
            obtain ⟨G_S45, fS45, o47⟩ := hP
            have g48 := zz_G.r G_S25 1076 0 0 1 rfl rfl
            have F_S45 := zz_fr.trans F_S25 fS45 rfl (fun a i h => Or.inr (Or.inl (h ▸ zM_k4 (z := (S25 1076 0)) (by omega) rfl)))
            have b49 := zz_rf4 (z := (S25 1076 0)) (by omega)
            have g50 := zz_G.r G_S45 1076 1 0 1000000 rfl rfl
            exact zz_vret zd_3_5_159 rfl (Nat.zero_le _) (Nat.zero_le _) ⟨_, rfl, G_S45, F_S45, by omega⟩
          · refine zz_lload (x := v38) rfl zd_3_5_144 ?_
            refine zz_goto zd_3_5_146 ?_
            have e51 : S25 1076 1 = S17 1076 1 := (zz_rc fS25 rfl rfl (by first | decide | omega) rfl)
            refine zz_callVV [zl v38] zd_3_5_156 zk_Compiler_143 zT_1076 (zz_ltn hn rfl) rfl rfl ⟨Nat.le_of_ble_eq_true rfl, Nat.le_of_ble_eq_true rfl⟩ ⟨rfl, rfl⟩ (Nat.zero_le _) (Nat.zero_le _) (zc_emit_3_15 v38 S25 n hn G_S25 (by omega) (by omega)) (fun S52 hP => ?_)
            obtain ⟨G_S52, fS52, o54⟩ := hP
            have g55 := zz_G.r G_S25 1076 0 0 1 rfl rfl
            have F_S52 := zz_fr.trans F_S25 fS52 rfl (fun a i h => Or.inr (Or.inl (h ▸ zM_k4 (z := (S25 1076 0)) (by omega) rfl)))
            have b56 := zz_rf4 (z := (S25 1076 0)) (by omega)
            have g57 := zz_G.r G_S52 1076 1 0 1000000 rfl rfl
            exact zz_vret zd_3_5_159 rfl (Nat.zero_le _) (Nat.zero_le _) ⟨_, rfl, G_S52, F_S52, by omega⟩
        · refine zz_aload_n (x := 1076) rfl zd_3_5_110 ?_
          refine zz_iload_n (x := S0 1076 1) rfl zd_3_5_111 ?_
          refine zz_iconst zd_3_5_112 ?_
          refine zz_callVV [zi (S0 1076 1), zi 2] zd_3_5_113 zk_Compiler_163 zT_1076 (zz_ltn hn rfl) rfl rfl ⟨Nat.le_of_ble_eq_true rfl, Nat.le_of_ble_eq_true rfl⟩ ⟨rfl, rfl⟩ (Nat.zero_le _) (Nat.zero_le _) (zc_mark_3_16 (S0 1076 1) 2 S17 n hn G_S17 (by omega) (by omega)) (fun S58 hP => ?_)
          obtain ⟨G_S58, fS58⟩ := hP
          have g60 := zz_G.r G_S17 1076 0 0 1 rfl rfl
          have F_S58 := zz_fr.trans F_S17 fS58 rfl (fun a i h => Or.inr (Or.inl (h ▸ zM_k4 (z := (S17 1076 0)) (by omega) rfl)))
          have b61 := zz_rf4 (z := (S17 1076 0)) (by omega)
          refine zz_aload_n (x := 1076) rfl zd_3_5_116 ?_
          refine zz_aload_n (x := 1076) rfl zd_3_5_117 ?_
          have g62 := zz_G.r G_S17 1076 1 0 1000000 rfl rfl
          refine zz_geti (z := S17 1076 1) zd_3_5_118 zf_Compiler_15 zT_1076 rfl (zz_ltn hn rfl) (zz_rc fS58 rfl rfl (by first | decide | omega) rfl) ?_
          refine zz_iconst zd_3_5_121 ?_
          refine zz_isub zd_3_5_122 ?_
          refine zz_iconst zd_3_5_123 ?_
          refine zz_callVV [zi ((S17 1076 1) - 1), zi 4] zd_3_5_124 zk_Compiler_163 zT_1076 (zz_ltn hn rfl) rfl rfl ⟨Nat.le_of_ble_eq_true rfl, Nat.le_of_ble_eq_true rfl⟩ ⟨rfl, rfl⟩ (Nat.zero_le _) (Nat.zero_le _) (zc_mark_3_16 ((S17 1076 1) - 1) 4 S58 n hn G_S58 (by omega) (by omega)) (fun S63 hP => ?_)
          obtain ⟨G_S63, fS63⟩ := hP
          have g65 := zz_G.r G_S58 1076 0 0 1 rfl rfl
          have F_S63 := zz_fr.trans F_S58 fS63 rfl (fun a i h => Or.inr (Or.inl (h ▸ zM_k4 (z := (S58 1076 0)) (by omega) rfl)))
          have b66 := zz_rf4 (z := (S58 1076 0)) (by omega)
          refine zz_aload_n (x := 1076) rfl zd_3_5_127 ?_
          refine zz_iload_n (x := p0) rfl zd_3_5_128 ?_
          have e67 : S63 1076 3 = S0 1076 3 := (zz_rc fS63 rfl rfl (by first | decide | omega) (zz_rc fS58 rfl rfl (by first | decide | omega) (zz_rc fS17 rfl rfl (by first | decide | omega) rfl)))
          have e68 : S63 1076 4 = S0 1076 4 := (zz_rc fS63 rfl rfl (by first | decide | omega) (zz_rc fS58 rfl rfl (by first | decide | omega) (zz_rc fS17 rfl rfl (by first | decide | omega) rfl)))
          have e69 : S63 1076 5 = S0 1076 5 := (zz_rc fS63 rfl rfl (by first | decide | omega) (zz_rc fS58 rfl rfl (by first | decide | omega) (zz_rc fS17 rfl rfl (by first | decide | omega) rfl)))
          refine zz_callVJ [zi p0] zd_3_5_129 zk_Compiler_167 zT_1076 (zz_ltn hn rfl) rfl rfl ⟨Nat.le_of_ble_eq_true rfl, Nat.le_of_ble_eq_true rfl⟩ ⟨rfl, rfl⟩ (Nat.zero_le _) (Nat.zero_le _) (zc_workOf_3_11 p0 S63 n hn G_S63 (by omega) (by omega)) (fun v71 S70 hP => ?_)
          obtain ⟨rfl, o72⟩ := hP
          refine zz_iconst zd_3_5_132 ?_
          refine zz_callSJ [zi 1] zd_3_5_133 zk_Compiler_139 rfl rfl ⟨Nat.le_of_ble_eq_true rfl, Nat.le_of_ble_eq_true rfl⟩ ⟨rfl, rfl⟩ (Nat.zero_le _) (Nat.zero_le _) (zc_flag_12_5 1 S63 n hn G_S63 (by omega)) (fun v74 S73 hP => ?_)
          obtain ⟨rfl, o75⟩ := hP
          refine zz_lor zd_3_5_136 (fun v76 hv76 ev76 => ?_)
          refine zz_lstore [some (.ref 1076), some (zi p0), some (zi p1), some (zi (S0 1076 1)), some (zl v76), none] zd_3_5_137 (by decide) rfl ?_
          refine zz_aload_n (x := 1076) rfl zd_3_5_139 ?_
          refine zz_iload_n (x := p1) rfl zd_3_5_140 ?_
          refine zz_if_eq (by omega) zd_3_5_141 (fun c77 => ?_) (fun c77 => ?_)
          · refine zz_lload (x := v76) rfl zd_3_5_149 ?_
            refine zz_iconst zd_3_5_151 ?_
            refine zz_callSJ [zi 3] zd_3_5_152 zk_Compiler_139 rfl rfl ⟨Nat.le_of_ble_eq_true rfl, Nat.le_of_ble_eq_true rfl⟩ ⟨rfl, rfl⟩ (Nat.zero_le _) (Nat.zero_le _) (zc_flag_12_5 3 S63 n hn G_S63 (by omega)) (fun v79 S78 hP => ?_)
            obtain ⟨rfl, o80⟩ := hP
            refine zz_lor zd_3_5_155 (fun v81 hv81 ev81 => ?_)
            have e82 : S63 1076 1 = S17 1076 1 := (zz_rc fS63 rfl rfl (by first | decide | omega) (zz_rc fS58 rfl rfl (by first | decide | omega) rfl))
            refine zz_callVV [zl v81] zd_3_5_156 zk_Compiler_143 zT_1076 (zz_ltn hn rfl) rfl rfl ⟨Nat.le_of_ble_eq_true rfl, Nat.le_of_ble_eq_true rfl⟩ ⟨rfl, rfl⟩ (Nat.zero_le _) (Nat.zero_le _) (zc_emit_3_15 v81 S63 n hn G_S63 (by omega) (by omega)) (fun S83 hP => ?_)
            obtain ⟨G_S83, fS83, o85⟩ := hP
            have g86 := zz_G.r G_S63 1076 0 0 1 rfl rfl
            have F_S83 := zz_fr.trans F_S63 fS83 rfl (fun a i h => Or.inr (Or.inl (h ▸ zM_k4 (z := (S63 1076 0)) (by omega) rfl)))
            have b87 := zz_rf4 (z := (S63 1076 0)) (by omega)
            have g88 := zz_G.r G_S83 1076 1 0 1000000 rfl rfl
            exact zz_vret zd_3_5_159 rfl (Nat.zero_le _) (Nat.zero_le _) ⟨_, rfl, G_S83, F_S83, by omega⟩
          · refine zz_lload (x := v76) rfl zd_3_5_144 ?_
            refine zz_goto zd_3_5_146 ?_
            have e89 : S63 1076 1 = S17 1076 1 := (zz_rc fS63 rfl rfl (by first | decide | omega) (zz_rc fS58 rfl rfl (by first | decide | omega) rfl))
            refine zz_callVV [zl v76] zd_3_5_156 zk_Compiler_143 zT_1076 (zz_ltn hn rfl) rfl rfl ⟨Nat.le_of_ble_eq_true rfl, Nat.le_of_ble_eq_true rfl⟩ ⟨rfl, rfl⟩ (Nat.zero_le _) (Nat.zero_le _) (zc_emit_3_15 v76 S63 n hn G_S63 (by omega) (by omega)) (fun S90 hP => ?_)
            obtain ⟨G_S90, fS90, o92⟩ := hP
            have g93 := zz_G.r G_S63 1076 0 0 1 rfl rfl
            have F_S90 := zz_fr.trans F_S63 fS90 rfl (fun a i h => Or.inr (Or.inl (h ▸ zM_k4 (z := (S63 1076 0)) (by omega) rfl)))
            have b94 := zz_rf4 (z := (S63 1076 0)) (by omega)
            have g95 := zz_G.r G_S90 1076 1 0 1000000 rfl rfl
            exact zz_vret zd_3_5_159 rfl (Nat.zero_le _) (Nat.zero_le _) ⟨_, rfl, G_S90, F_S90, by omega⟩
      · refine zz_aload_n (x := 1076) rfl zd_3_5_61 ?_
        have g96 := zz_G.r G_S0 1076 4 (-1) 23 rfl rfl
        refine zz_getr (kd := 4) (z := S0 1076 4) zd_3_5_62 zf_Compiler_55 zT_1076 rfl (zz_ltn hn rfl) rfl (by omega) (zz_rf 6 (S0 1076 4)) rfl ?_
        refine zz_goto zd_3_5_65 ?_
        refine zz_astore [some (.ref 1076), some (zi p0), some (zi p1), some (zi (S0 1076 1)), some (.ref (zz_rf 6 (S0 1076 4)))] zd_3_5_72 (by decide) rfl ?_
        refine zz_aload_n (x := 1076) rfl zd_3_5_74 ?_
        refine zz_iconst zd_3_5_75 ?_
        refine zz_aload_n (x := 1076) rfl zd_3_5_76 ?_
        have g97 := zz_G.r G_S0 1076 11 (-2147483648) 2147483647 rfl rfl
        refine zz_geti (z := S0 1076 11) zd_3_5_77 zf_Compiler_91 zT_1076 rfl (zz_ltn hn rfl) rfl ?_
        refine zz_aload (x := zz_rf 6 (S0 1076 4)) rfl zd_3_5_80 ?_
        refine zz_iconst zd_3_5_82 ?_
        refine zz_aload_n (x := 1076) rfl zd_3_5_83 ?_
        have g98 := zz_G.r G_S0 1076 10 (-2147483648) 2147483647 rfl rfl
        refine zz_geti (z := S0 1076 10) zd_3_5_84 zf_Compiler_88 zT_1076 rfl (zz_ltn hn rfl) rfl ?_
        refine zz_aload_n (x := 1076) rfl zd_3_5_87 ?_
        have g99 := zz_G.r G_S0 1076 7 (-2147483648) 2147483647 rfl rfl
        refine zz_geti (z := S0 1076 7) zd_3_5_88 zf_Compiler_76 zT_1076 rfl (zz_ltn hn rfl) rfl ?_
        refine zz_callVI [zi 0, zi (S0 1076 10), zi (S0 1076 7)] zd_3_5_91 zk_Compiler_147 (zT_k6 (by omega)) (zN_k6 hn (by omega)) rfl rfl ⟨Nat.le_of_ble_eq_true rfl, Nat.le_of_ble_eq_true rfl⟩ ⟨rfl, rfl⟩ (Nat.zero_le _) (Nat.zero_le _) (zc_cellAt_4_15 (S0 1076 4) 0 (S0 1076 10) (S0 1076 7) S0 n hn G_S0 (by omega) (by omega) (by omega) (by omega)) (fun v101 S100 hP => ?_)
        obtain ⟨rfl, o102⟩ := hP
        refine zz_aload (x := zz_rf 6 (S0 1076 4)) rfl zd_3_5_94 ?_
        have g103 := zz_G.r G_S0 (zz_rf 6 (S0 1076 4)) 12 (-2147483648) 2147483647 (zR_k6_12 (by omega)) (zB_k6 (by omega))
        refine zz_geti (z := S0 (zz_rf 6 (S0 1076 4)) 12) zd_3_5_96 zf_Compiler_79 (zT_k6 (by omega)) rfl (zN_k6 hn (by omega)) rfl ?_
        have g104 := zz_G.r G_S0 1076 5 (-1) 23 rfl rfl
        refine zz_callVV [zi 0, zi (S0 1076 11), zi v101, zi (S0 (zz_rf 6 (S0 1076 4)) 12)] zd_3_5_99 zk_Compiler_159 zT_1076 (zz_ltn hn rfl) rfl rfl ⟨Nat.le_of_ble_eq_true rfl, Nat.le_of_ble_eq_true rfl⟩ ⟨rfl, rfl⟩ (Nat.zero_le _) (Nat.zero_le _) (zc_loadPlaces_3_10 0 (S0 1076 11) v101 (S0 (zz_rf 6 (S0 1076 4)) 12) S0 n hn G_S0 (by omega) (by omega) (by omega) (by omega) (by omega) (by omega)) (fun S105 hP => ?_)
        obtain ⟨G_S105, fS105, o107⟩ := hP
        have g108 := zz_G.r G_S0 1076 0 0 1 rfl rfl
        have F_S105 := zz_fr.trans F_S0 fS105 rfl (fun a i h => Or.inr (Or.inl (h ▸ zM_k4 (z := (S0 1076 0)) (by omega) rfl)))
        have b109 := zz_rf4 (z := (S0 1076 0)) (by omega)
        refine zz_aload_n (x := 1076) rfl zd_3_5_102 ?_
        have g110 := zz_G.r G_S0 1076 12 (-2147483648) 2147483647 rfl rfl
        refine zz_geti (z := S0 1076 12) zd_3_5_103 zf_Compiler_73 zT_1076 rfl (zz_ltn hn rfl) (zz_rc fS105 rfl rfl (by first | decide | omega) rfl) ?_
        refine zz_iconst zd_3_5_106 ?_
        refine zz_icmp_le (by omega) (by omega) zd_3_5_107 (fun c111 => ?_) (fun c111 => ?_)
        · refine zz_aload_n (x := 1076) rfl zd_3_5_116 ?_
          refine zz_aload_n (x := 1076) rfl zd_3_5_117 ?_
          have g112 := zz_G.r G_S105 1076 1 0 1000000 rfl rfl
          refine zz_geti (z := S105 1076 1) zd_3_5_118 zf_Compiler_15 zT_1076 rfl (zz_ltn hn rfl) rfl ?_
          refine zz_iconst zd_3_5_121 ?_
          refine zz_isub zd_3_5_122 ?_
          refine zz_iconst zd_3_5_123 ?_
          refine zz_callVV [zi ((S105 1076 1) - 1), zi 4] zd_3_5_124 zk_Compiler_163 zT_1076 (zz_ltn hn rfl) rfl rfl ⟨Nat.le_of_ble_eq_true rfl, Nat.le_of_ble_eq_true rfl⟩ ⟨rfl, rfl⟩ (Nat.zero_le _) (Nat.zero_le _) (zc_mark_3_16 ((S105 1076 1) - 1) 4 S105 n hn G_S105 (by omega) (by omega)) (fun S113 hP => ?_)
          obtain ⟨G_S113, fS113⟩ := hP
          have g115 := zz_G.r G_S105 1076 0 0 1 rfl rfl
          have F_S113 := zz_fr.trans F_S105 fS113 rfl (fun a i h => Or.inr (Or.inl (h ▸ zM_k4 (z := (S105 1076 0)) (by omega) rfl)))
          have b116 := zz_rf4 (z := (S105 1076 0)) (by omega)
          refine zz_aload_n (x := 1076) rfl zd_3_5_127 ?_
          refine zz_iload_n (x := p0) rfl zd_3_5_128 ?_
          have e117 : S113 1076 3 = S0 1076 3 := (zz_rc fS113 rfl rfl (by first | decide | omega) (zz_rc fS105 rfl rfl (by first | decide | omega) rfl))
          have e118 : S113 1076 4 = S0 1076 4 := (zz_rc fS113 rfl rfl (by first | decide | omega) (zz_rc fS105 rfl rfl (by first | decide | omega) rfl))
          have e119 : S113 1076 5 = S0 1076 5 := (zz_rc fS113 rfl rfl (by first | decide | omega) (zz_rc fS105 rfl rfl (by first | decide | omega) rfl))
          refine zz_callVJ [zi p0] zd_3_5_129 zk_Compiler_167 zT_1076 (zz_ltn hn rfl) rfl rfl ⟨Nat.le_of_ble_eq_true rfl, Nat.le_of_ble_eq_true rfl⟩ ⟨rfl, rfl⟩ (Nat.zero_le _) (Nat.zero_le _) (zc_workOf_3_11 p0 S113 n hn G_S113 (by omega) (by omega)) (fun v121 S120 hP => ?_)
          obtain ⟨rfl, o122⟩ := hP
          refine zz_iconst zd_3_5_132 ?_
          refine zz_callSJ [zi 1] zd_3_5_133 zk_Compiler_139 rfl rfl ⟨Nat.le_of_ble_eq_true rfl, Nat.le_of_ble_eq_true rfl⟩ ⟨rfl, rfl⟩ (Nat.zero_le _) (Nat.zero_le _) (zc_flag_12_5 1 S113 n hn G_S113 (by omega)) (fun v124 S123 hP => ?_)
          obtain ⟨rfl, o125⟩ := hP
          refine zz_lor zd_3_5_136 (fun v126 hv126 ev126 => ?_)
          refine zz_lstore [some (.ref 1076), some (zi p0), some (zi p1), some (zi (S0 1076 1)), some (zl v126), none] zd_3_5_137 (by decide) rfl ?_
          refine zz_aload_n (x := 1076) rfl zd_3_5_139 ?_
          refine zz_iload_n (x := p1) rfl zd_3_5_140 ?_
          refine zz_if_eq (by omega) zd_3_5_141 (fun c127 => ?_) (fun c127 => ?_)
          · refine zz_lload (x := v126) rfl zd_3_5_149 ?_
            refine zz_iconst zd_3_5_151 ?_
            refine zz_callSJ [zi 3] zd_3_5_152 zk_Compiler_139 rfl rfl ⟨Nat.le_of_ble_eq_true rfl, Nat.le_of_ble_eq_true rfl⟩ ⟨rfl, rfl⟩ (Nat.zero_le _) (Nat.zero_le _) (zc_flag_12_5 3 S113 n hn G_S113 (by omega)) (fun v129 S128 hP => ?_)
            obtain ⟨rfl, o130⟩ := hP
            refine zz_lor zd_3_5_155 (fun v131 hv131 ev131 => ?_)
            have e132 : S113 1076 1 = S105 1076 1 := (zz_rc fS113 rfl rfl (by first | decide | omega) rfl)
            refine zz_callVV [zl v131] zd_3_5_156 zk_Compiler_143 zT_1076 (zz_ltn hn rfl) rfl rfl ⟨Nat.le_of_ble_eq_true rfl, Nat.le_of_ble_eq_true rfl⟩ ⟨rfl, rfl⟩ (Nat.zero_le _) (Nat.zero_le _) (zc_emit_3_15 v131 S113 n hn G_S113 (by omega) (by omega)) (fun S133 hP => ?_)
            obtain ⟨G_S133, fS133, o135⟩ := hP
            have g136 := zz_G.r G_S113 1076 0 0 1 rfl rfl
            have F_S133 := zz_fr.trans F_S113 fS133 rfl (fun a i h => Or.inr (Or.inl (h ▸ zM_k4 (z := (S113 1076 0)) (by omega) rfl)))
            have b137 := zz_rf4 (z := (S113 1076 0)) (by omega)
            have g138 := zz_G.r G_S133 1076 1 0 1000000 rfl rfl
            exact zz_vret zd_3_5_159 rfl (Nat.zero_le _) (Nat.zero_le _) ⟨_, rfl, G_S133, F_S133, by omega⟩
          · refine zz_lload (x := v126) rfl zd_3_5_144 ?_
            refine zz_goto zd_3_5_146 ?_
            have e139 : S113 1076 1 = S105 1076 1 := (zz_rc fS113 rfl rfl (by first | decide | omega) rfl)
            refine zz_callVV [zl v126] zd_3_5_156 zk_Compiler_143 zT_1076 (zz_ltn hn rfl) rfl rfl ⟨Nat.le_of_ble_eq_true rfl, Nat.le_of_ble_eq_true rfl⟩ ⟨rfl, rfl⟩ (Nat.zero_le _) (Nat.zero_le _) (zc_emit_3_15 v126 S113 n hn G_S113 (by omega) (by omega)) (fun S140 hP => ?_)
            obtain ⟨G_S140, fS140, o142⟩ := hP
            have g143 := zz_G.r G_S113 1076 0 0 1 rfl rfl
            have F_S140 := zz_fr.trans F_S113 fS140 rfl (fun a i h => Or.inr (Or.inl (h ▸ zM_k4 (z := (S113 1076 0)) (by omega) rfl)))
            have b144 := zz_rf4 (z := (S113 1076 0)) (by omega)
            have g145 := zz_G.r G_S140 1076 1 0 1000000 rfl rfl
            exact zz_vret zd_3_5_159 rfl (Nat.zero_le _) (Nat.zero_le _) ⟨_, rfl, G_S140, F_S140, by omega⟩
        · refine zz_aload_n (x := 1076) rfl zd_3_5_110 ?_
          refine zz_iload_n (x := S0 1076 1) rfl zd_3_5_111 ?_
          refine zz_iconst zd_3_5_112 ?_
          refine zz_callVV [zi (S0 1076 1), zi 2] zd_3_5_113 zk_Compiler_163 zT_1076 (zz_ltn hn rfl) rfl rfl ⟨Nat.le_of_ble_eq_true rfl, Nat.le_of_ble_eq_true rfl⟩ ⟨rfl, rfl⟩ (Nat.zero_le _) (Nat.zero_le _) (zc_mark_3_16 (S0 1076 1) 2 S105 n hn G_S105 (by omega) (by omega)) (fun S146 hP => ?_)
          obtain ⟨G_S146, fS146⟩ := hP
          have g148 := zz_G.r G_S105 1076 0 0 1 rfl rfl
          have F_S146 := zz_fr.trans F_S105 fS146 rfl (fun a i h => Or.inr (Or.inl (h ▸ zM_k4 (z := (S105 1076 0)) (by omega) rfl)))
          have b149 := zz_rf4 (z := (S105 1076 0)) (by omega)
          refine zz_aload_n (x := 1076) rfl zd_3_5_116 ?_
          refine zz_aload_n (x := 1076) rfl zd_3_5_117 ?_
          have g150 := zz_G.r G_S105 1076 1 0 1000000 rfl rfl
          refine zz_geti (z := S105 1076 1) zd_3_5_118 zf_Compiler_15 zT_1076 rfl (zz_ltn hn rfl) (zz_rc fS146 rfl rfl (by first | decide | omega) rfl) ?_
          refine zz_iconst zd_3_5_121 ?_
          refine zz_isub zd_3_5_122 ?_
          refine zz_iconst zd_3_5_123 ?_
          refine zz_callVV [zi ((S105 1076 1) - 1), zi 4] zd_3_5_124 zk_Compiler_163 zT_1076 (zz_ltn hn rfl) rfl rfl ⟨Nat.le_of_ble_eq_true rfl, Nat.le_of_ble_eq_true rfl⟩ ⟨rfl, rfl⟩ (Nat.zero_le _) (Nat.zero_le _) (zc_mark_3_16 ((S105 1076 1) - 1) 4 S146 n hn G_S146 (by omega) (by omega)) (fun S151 hP => ?_)
          obtain ⟨G_S151, fS151⟩ := hP
          have g153 := zz_G.r G_S146 1076 0 0 1 rfl rfl
          have F_S151 := zz_fr.trans F_S146 fS151 rfl (fun a i h => Or.inr (Or.inl (h ▸ zM_k4 (z := (S146 1076 0)) (by omega) rfl)))
          have b154 := zz_rf4 (z := (S146 1076 0)) (by omega)
          refine zz_aload_n (x := 1076) rfl zd_3_5_127 ?_
          refine zz_iload_n (x := p0) rfl zd_3_5_128 ?_
          have e155 : S151 1076 3 = S0 1076 3 := (zz_rc fS151 rfl rfl (by first | decide | omega) (zz_rc fS146 rfl rfl (by first | decide | omega) (zz_rc fS105 rfl rfl (by first | decide | omega) rfl)))
          have e156 : S151 1076 4 = S0 1076 4 := (zz_rc fS151 rfl rfl (by first | decide | omega) (zz_rc fS146 rfl rfl (by first | decide | omega) (zz_rc fS105 rfl rfl (by first | decide | omega) rfl)))
          have e157 : S151 1076 5 = S0 1076 5 := (zz_rc fS151 rfl rfl (by first | decide | omega) (zz_rc fS146 rfl rfl (by first | decide | omega) (zz_rc fS105 rfl rfl (by first | decide | omega) rfl)))
          refine zz_callVJ [zi p0] zd_3_5_129 zk_Compiler_167 zT_1076 (zz_ltn hn rfl) rfl rfl ⟨Nat.le_of_ble_eq_true rfl, Nat.le_of_ble_eq_true rfl⟩ ⟨rfl, rfl⟩ (Nat.zero_le _) (Nat.zero_le _) (zc_workOf_3_11 p0 S151 n hn G_S151 (by omega) (by omega)) (fun v159 S158 hP => ?_)
          obtain ⟨rfl, o160⟩ := hP
          refine zz_iconst zd_3_5_132 ?_
          refine zz_callSJ [zi 1] zd_3_5_133 zk_Compiler_139 rfl rfl ⟨Nat.le_of_ble_eq_true rfl, Nat.le_of_ble_eq_true rfl⟩ ⟨rfl, rfl⟩ (Nat.zero_le _) (Nat.zero_le _) (zc_flag_12_5 1 S151 n hn G_S151 (by omega)) (fun v162 S161 hP => ?_)
          obtain ⟨rfl, o163⟩ := hP
          refine zz_lor zd_3_5_136 (fun v164 hv164 ev164 => ?_)
          refine zz_lstore [some (.ref 1076), some (zi p0), some (zi p1), some (zi (S0 1076 1)), some (zl v164), none] zd_3_5_137 (by decide) rfl ?_
          refine zz_aload_n (x := 1076) rfl zd_3_5_139 ?_
          refine zz_iload_n (x := p1) rfl zd_3_5_140 ?_
          refine zz_if_eq (by omega) zd_3_5_141 (fun c165 => ?_) (fun c165 => ?_)
          · refine zz_lload (x := v164) rfl zd_3_5_149 ?_
            refine zz_iconst zd_3_5_151 ?_
            refine zz_callSJ [zi 3] zd_3_5_152 zk_Compiler_139 rfl rfl ⟨Nat.le_of_ble_eq_true rfl, Nat.le_of_ble_eq_true rfl⟩ ⟨rfl, rfl⟩ (Nat.zero_le _) (Nat.zero_le _) (zc_flag_12_5 3 S151 n hn G_S151 (by omega)) (fun v167 S166 hP => ?_)
            obtain ⟨rfl, o168⟩ := hP
            refine zz_lor zd_3_5_155 (fun v169 hv169 ev169 => ?_)
            have e170 : S151 1076 1 = S105 1076 1 := (zz_rc fS151 rfl rfl (by first | decide | omega) (zz_rc fS146 rfl rfl (by first | decide | omega) rfl))
            refine zz_callVV [zl v169] zd_3_5_156 zk_Compiler_143 zT_1076 (zz_ltn hn rfl) rfl rfl ⟨Nat.le_of_ble_eq_true rfl, Nat.le_of_ble_eq_true rfl⟩ ⟨rfl, rfl⟩ (Nat.zero_le _) (Nat.zero_le _) (zc_emit_3_15 v169 S151 n hn G_S151 (by omega) (by omega)) (fun S171 hP => ?_)
            obtain ⟨G_S171, fS171, o173⟩ := hP
            have g174 := zz_G.r G_S151 1076 0 0 1 rfl rfl
            have F_S171 := zz_fr.trans F_S151 fS171 rfl (fun a i h => Or.inr (Or.inl (h ▸ zM_k4 (z := (S151 1076 0)) (by omega) rfl)))
            have b175 := zz_rf4 (z := (S151 1076 0)) (by omega)
            have g176 := zz_G.r G_S171 1076 1 0 1000000 rfl rfl
            exact zz_vret zd_3_5_159 rfl (Nat.zero_le _) (Nat.zero_le _) ⟨_, rfl, G_S171, F_S171, by omega⟩
          · refine zz_lload (x := v164) rfl zd_3_5_144 ?_
            refine zz_goto zd_3_5_146 ?_
            have e177 : S151 1076 1 = S105 1076 1 := (zz_rc fS151 rfl rfl (by first | decide | omega) (zz_rc fS146 rfl rfl (by first | decide | omega) rfl))
            refine zz_callVV [zl v164] zd_3_5_156 zk_Compiler_143 zT_1076 (zz_ltn hn rfl) rfl rfl ⟨Nat.le_of_ble_eq_true rfl, Nat.le_of_ble_eq_true rfl⟩ ⟨rfl, rfl⟩ (Nat.zero_le _) (Nat.zero_le _) (zc_emit_3_15 v164 S151 n hn G_S151 (by omega) (by omega)) (fun S178 hP => ?_)
            obtain ⟨G_S178, fS178, o180⟩ := hP
            have g181 := zz_G.r G_S151 1076 0 0 1 rfl rfl
            have F_S178 := zz_fr.trans F_S151 fS178 rfl (fun a i h => Or.inr (Or.inl (h ▸ zM_k4 (z := (S151 1076 0)) (by omega) rfl)))
            have b182 := zz_rf4 (z := (S151 1076 0)) (by omega)
            have g183 := zz_G.r G_S178 1076 1 0 1000000 rfl rfl
            exact zz_vret zd_3_5_159 rfl (Nat.zero_le _) (Nat.zero_le _) ⟨_, rfl, G_S178, F_S178, by omega⟩
    · refine zz_aload_n (x := 1076) rfl zd_3_5_43 ?_
      refine zz_aload_n (x := 1076) rfl zd_3_5_44 ?_
      have g184 := zz_G.r G_S0 1076 7 (-2147483648) 2147483647 rfl rfl
      refine zz_geti (z := S0 1076 7) zd_3_5_45 zf_Compiler_76 zT_1076 rfl (zz_ltn hn rfl) rfl ?_
      have g185 := zz_G.r G_S0 1076 4 (-1) 23 rfl rfl
      have g186 := zz_G.r G_S0 1076 5 (-1) 23 rfl rfl
      refine zz_callVV [zi (S0 1076 7)] zd_3_5_48 zk_Compiler_155 zT_1076 (zz_ltn hn rfl) rfl rfl ⟨Nat.le_of_ble_eq_true rfl, Nat.le_of_ble_eq_true rfl⟩ ⟨rfl, rfl⟩ (Nat.zero_le _) (Nat.zero_le _) (zc_loadMet_3_7 (S0 1076 7) S0 n hn G_S0 (by omega) (by omega) (by omega)) (fun S187 hP => ?_)
      obtain ⟨G_S187, fS187, o189⟩ := hP
      have F_S187 := zz_fr.trans F_S0 fS187 rfl zz_nv
      refine zz_goto zd_3_5_51 ?_
      refine zz_aload_n (x := 1076) rfl zd_3_5_102 ?_
      have g190 := zz_G.r G_S0 1076 12 (-2147483648) 2147483647 rfl rfl
      refine zz_geti (z := S0 1076 12) zd_3_5_103 zf_Compiler_73 zT_1076 rfl (zz_ltn hn rfl) (zz_rc fS187 rfl rfl (fun h => h) rfl) ?_
      refine zz_iconst zd_3_5_106 ?_
      refine zz_icmp_le (by omega) (by omega) zd_3_5_107 (fun c191 => ?_) (fun c191 => ?_)
      · refine zz_aload_n (x := 1076) rfl zd_3_5_116 ?_
        refine zz_aload_n (x := 1076) rfl zd_3_5_117 ?_
        have g192 := zz_G.r G_S187 1076 1 0 1000000 rfl rfl
        refine zz_geti (z := S187 1076 1) zd_3_5_118 zf_Compiler_15 zT_1076 rfl (zz_ltn hn rfl) rfl ?_
        refine zz_iconst zd_3_5_121 ?_
        refine zz_isub zd_3_5_122 ?_
        refine zz_iconst zd_3_5_123 ?_
        refine zz_callVV [zi ((S187 1076 1) - 1), zi 4] zd_3_5_124 zk_Compiler_163 zT_1076 (zz_ltn hn rfl) rfl rfl ⟨Nat.le_of_ble_eq_true rfl, Nat.le_of_ble_eq_true rfl⟩ ⟨rfl, rfl⟩ (Nat.zero_le _) (Nat.zero_le _) (zc_mark_3_16 ((S187 1076 1) - 1) 4 S187 n hn G_S187 (by omega) (by omega)) (fun S193 hP => ?_)
        obtain ⟨G_S193, fS193⟩ := hP
        have g195 := zz_G.r G_S187 1076 0 0 1 rfl rfl
        have F_S193 := zz_fr.trans F_S187 fS193 rfl (fun a i h => Or.inr (Or.inl (h ▸ zM_k4 (z := (S187 1076 0)) (by omega) rfl)))
        have b196 := zz_rf4 (z := (S187 1076 0)) (by omega)
        refine zz_aload_n (x := 1076) rfl zd_3_5_127 ?_
        refine zz_iload_n (x := p0) rfl zd_3_5_128 ?_
        have e197 : S193 1076 3 = S0 1076 3 := (zz_rc fS193 rfl rfl (by first | decide | omega) (zz_rc fS187 rfl rfl (fun h => h) rfl))
        have e198 : S193 1076 4 = S0 1076 4 := (zz_rc fS193 rfl rfl (by first | decide | omega) (zz_rc fS187 rfl rfl (fun h => h) rfl))
        have e199 : S193 1076 5 = S0 1076 5 := (zz_rc fS193 rfl rfl (by first | decide | omega) (zz_rc fS187 rfl rfl (fun h => h) rfl))
        refine zz_callVJ [zi p0] zd_3_5_129 zk_Compiler_167 zT_1076 (zz_ltn hn rfl) rfl rfl ⟨Nat.le_of_ble_eq_true rfl, Nat.le_of_ble_eq_true rfl⟩ ⟨rfl, rfl⟩ (Nat.zero_le _) (Nat.zero_le _) (zc_workOf_3_11 p0 S193 n hn G_S193 (by omega) (by omega)) (fun v201 S200 hP => ?_)
        obtain ⟨rfl, o202⟩ := hP
        refine zz_iconst zd_3_5_132 ?_
        refine zz_callSJ [zi 1] zd_3_5_133 zk_Compiler_139 rfl rfl ⟨Nat.le_of_ble_eq_true rfl, Nat.le_of_ble_eq_true rfl⟩ ⟨rfl, rfl⟩ (Nat.zero_le _) (Nat.zero_le _) (zc_flag_12_5 1 S193 n hn G_S193 (by omega)) (fun v204 S203 hP => ?_)
        obtain ⟨rfl, o205⟩ := hP
        refine zz_lor zd_3_5_136 (fun v206 hv206 ev206 => ?_)
        refine zz_lstore [some (.ref 1076), some (zi p0), some (zi p1), some (zi (S0 1076 1)), some (zl v206), none] zd_3_5_137 (by decide) rfl ?_
        refine zz_aload_n (x := 1076) rfl zd_3_5_139 ?_
        refine zz_iload_n (x := p1) rfl zd_3_5_140 ?_
        refine zz_if_eq (by omega) zd_3_5_141 (fun c207 => ?_) (fun c207 => ?_)
        · refine zz_lload (x := v206) rfl zd_3_5_149 ?_
          refine zz_iconst zd_3_5_151 ?_
          refine zz_callSJ [zi 3] zd_3_5_152 zk_Compiler_139 rfl rfl ⟨Nat.le_of_ble_eq_true rfl, Nat.le_of_ble_eq_true rfl⟩ ⟨rfl, rfl⟩ (Nat.zero_le _) (Nat.zero_le _) (zc_flag_12_5 3 S193 n hn G_S193 (by omega)) (fun v209 S208 hP => ?_)
          obtain ⟨rfl, o210⟩ := hP
          refine zz_lor zd_3_5_155 (fun v211 hv211 ev211 => ?_)
          have e212 : S193 1076 1 = S187 1076 1 := (zz_rc fS193 rfl rfl (by first | decide | omega) rfl)
          refine zz_callVV [zl v211] zd_3_5_156 zk_Compiler_143 zT_1076 (zz_ltn hn rfl) rfl rfl ⟨Nat.le_of_ble_eq_true rfl, Nat.le_of_ble_eq_true rfl⟩ ⟨rfl, rfl⟩ (Nat.zero_le _) (Nat.zero_le _) (zc_emit_3_15 v211 S193 n hn G_S193 (by omega) (by omega)) (fun S213 hP => ?_)
          obtain ⟨G_S213, fS213, o215⟩ := hP
          have g216 := zz_G.r G_S193 1076 0 0 1 rfl rfl
          have F_S213 := zz_fr.trans F_S193 fS213 rfl (fun a i h => Or.inr (Or.inl (h ▸ zM_k4 (z := (S193 1076 0)) (by omega) rfl)))
          have b217 := zz_rf4 (z := (S193 1076 0)) (by omega)
          have g218 := zz_G.r G_S213 1076 1 0 1000000 rfl rfl
          exact zz_vret zd_3_5_159 rfl (Nat.zero_le _) (Nat.zero_le _) ⟨_, rfl, G_S213, F_S213, by omega⟩
        · refine zz_lload (x := v206) rfl zd_3_5_144 ?_
          refine zz_goto zd_3_5_146 ?_
          have e219 : S193 1076 1 = S187 1076 1 := (zz_rc fS193 rfl rfl (by first | decide | omega) rfl)
          refine zz_callVV [zl v206] zd_3_5_156 zk_Compiler_143 zT_1076 (zz_ltn hn rfl) rfl rfl ⟨Nat.le_of_ble_eq_true rfl, Nat.le_of_ble_eq_true rfl⟩ ⟨rfl, rfl⟩ (Nat.zero_le _) (Nat.zero_le _) (zc_emit_3_15 v206 S193 n hn G_S193 (by omega) (by omega)) (fun S220 hP => ?_)
          obtain ⟨G_S220, fS220, o222⟩ := hP
          have g223 := zz_G.r G_S193 1076 0 0 1 rfl rfl
          have F_S220 := zz_fr.trans F_S193 fS220 rfl (fun a i h => Or.inr (Or.inl (h ▸ zM_k4 (z := (S193 1076 0)) (by omega) rfl)))
          have b224 := zz_rf4 (z := (S193 1076 0)) (by omega)
          have g225 := zz_G.r G_S220 1076 1 0 1000000 rfl rfl
          exact zz_vret zd_3_5_159 rfl (Nat.zero_le _) (Nat.zero_le _) ⟨_, rfl, G_S220, F_S220, by omega⟩
      · refine zz_aload_n (x := 1076) rfl zd_3_5_110 ?_
        refine zz_iload_n (x := S0 1076 1) rfl zd_3_5_111 ?_
        refine zz_iconst zd_3_5_112 ?_
        refine zz_callVV [zi (S0 1076 1), zi 2] zd_3_5_113 zk_Compiler_163 zT_1076 (zz_ltn hn rfl) rfl rfl ⟨Nat.le_of_ble_eq_true rfl, Nat.le_of_ble_eq_true rfl⟩ ⟨rfl, rfl⟩ (Nat.zero_le _) (Nat.zero_le _) (zc_mark_3_16 (S0 1076 1) 2 S187 n hn G_S187 (by omega) (by omega)) (fun S226 hP => ?_)
        obtain ⟨G_S226, fS226⟩ := hP
        have g228 := zz_G.r G_S187 1076 0 0 1 rfl rfl
        have F_S226 := zz_fr.trans F_S187 fS226 rfl (fun a i h => Or.inr (Or.inl (h ▸ zM_k4 (z := (S187 1076 0)) (by omega) rfl)))
        have b229 := zz_rf4 (z := (S187 1076 0)) (by omega)
        refine zz_aload_n (x := 1076) rfl zd_3_5_116 ?_
        refine zz_aload_n (x := 1076) rfl zd_3_5_117 ?_
        have g230 := zz_G.r G_S187 1076 1 0 1000000 rfl rfl
        refine zz_geti (z := S187 1076 1) zd_3_5_118 zf_Compiler_15 zT_1076 rfl (zz_ltn hn rfl) (zz_rc fS226 rfl rfl (by first | decide | omega) rfl) ?_
        refine zz_iconst zd_3_5_121 ?_
        refine zz_isub zd_3_5_122 ?_
        refine zz_iconst zd_3_5_123 ?_
        refine zz_callVV [zi ((S187 1076 1) - 1), zi 4] zd_3_5_124 zk_Compiler_163 zT_1076 (zz_ltn hn rfl) rfl rfl ⟨Nat.le_of_ble_eq_true rfl, Nat.le_of_ble_eq_true rfl⟩ ⟨rfl, rfl⟩ (Nat.zero_le _) (Nat.zero_le _) (zc_mark_3_16 ((S187 1076 1) - 1) 4 S226 n hn G_S226 (by omega) (by omega)) (fun S231 hP => ?_)
        obtain ⟨G_S231, fS231⟩ := hP
        have g233 := zz_G.r G_S226 1076 0 0 1 rfl rfl
        have F_S231 := zz_fr.trans F_S226 fS231 rfl (fun a i h => Or.inr (Or.inl (h ▸ zM_k4 (z := (S226 1076 0)) (by omega) rfl)))
        have b234 := zz_rf4 (z := (S226 1076 0)) (by omega)
        refine zz_aload_n (x := 1076) rfl zd_3_5_127 ?_
        refine zz_iload_n (x := p0) rfl zd_3_5_128 ?_
        have e235 : S231 1076 3 = S0 1076 3 := (zz_rc fS231 rfl rfl (by first | decide | omega) (zz_rc fS226 rfl rfl (by first | decide | omega) (zz_rc fS187 rfl rfl (fun h => h) rfl)))
        have e236 : S231 1076 4 = S0 1076 4 := (zz_rc fS231 rfl rfl (by first | decide | omega) (zz_rc fS226 rfl rfl (by first | decide | omega) (zz_rc fS187 rfl rfl (fun h => h) rfl)))
        have e237 : S231 1076 5 = S0 1076 5 := (zz_rc fS231 rfl rfl (by first | decide | omega) (zz_rc fS226 rfl rfl (by first | decide | omega) (zz_rc fS187 rfl rfl (fun h => h) rfl)))
        refine zz_callVJ [zi p0] zd_3_5_129 zk_Compiler_167 zT_1076 (zz_ltn hn rfl) rfl rfl ⟨Nat.le_of_ble_eq_true rfl, Nat.le_of_ble_eq_true rfl⟩ ⟨rfl, rfl⟩ (Nat.zero_le _) (Nat.zero_le _) (zc_workOf_3_11 p0 S231 n hn G_S231 (by omega) (by omega)) (fun v239 S238 hP => ?_)
        obtain ⟨rfl, o240⟩ := hP
        refine zz_iconst zd_3_5_132 ?_
        refine zz_callSJ [zi 1] zd_3_5_133 zk_Compiler_139 rfl rfl ⟨Nat.le_of_ble_eq_true rfl, Nat.le_of_ble_eq_true rfl⟩ ⟨rfl, rfl⟩ (Nat.zero_le _) (Nat.zero_le _) (zc_flag_12_5 1 S231 n hn G_S231 (by omega)) (fun v242 S241 hP => ?_)
        obtain ⟨rfl, o243⟩ := hP
        refine zz_lor zd_3_5_136 (fun v244 hv244 ev244 => ?_)
        refine zz_lstore [some (.ref 1076), some (zi p0), some (zi p1), some (zi (S0 1076 1)), some (zl v244), none] zd_3_5_137 (by decide) rfl ?_
        refine zz_aload_n (x := 1076) rfl zd_3_5_139 ?_
        refine zz_iload_n (x := p1) rfl zd_3_5_140 ?_
        refine zz_if_eq (by omega) zd_3_5_141 (fun c245 => ?_) (fun c245 => ?_)
        · refine zz_lload (x := v244) rfl zd_3_5_149 ?_
          refine zz_iconst zd_3_5_151 ?_
          refine zz_callSJ [zi 3] zd_3_5_152 zk_Compiler_139 rfl rfl ⟨Nat.le_of_ble_eq_true rfl, Nat.le_of_ble_eq_true rfl⟩ ⟨rfl, rfl⟩ (Nat.zero_le _) (Nat.zero_le _) (zc_flag_12_5 3 S231 n hn G_S231 (by omega)) (fun v247 S246 hP => ?_)
          obtain ⟨rfl, o248⟩ := hP
          refine zz_lor zd_3_5_155 (fun v249 hv249 ev249 => ?_)
          have e250 : S231 1076 1 = S187 1076 1 := (zz_rc fS231 rfl rfl (by first | decide | omega) (zz_rc fS226 rfl rfl (by first | decide | omega) rfl))
          refine zz_callVV [zl v249] zd_3_5_156 zk_Compiler_143 zT_1076 (zz_ltn hn rfl) rfl rfl ⟨Nat.le_of_ble_eq_true rfl, Nat.le_of_ble_eq_true rfl⟩ ⟨rfl, rfl⟩ (Nat.zero_le _) (Nat.zero_le _) (zc_emit_3_15 v249 S231 n hn G_S231 (by omega) (by omega)) (fun S251 hP => ?_)
          obtain ⟨G_S251, fS251, o253⟩ := hP
          have g254 := zz_G.r G_S231 1076 0 0 1 rfl rfl
          have F_S251 := zz_fr.trans F_S231 fS251 rfl (fun a i h => Or.inr (Or.inl (h ▸ zM_k4 (z := (S231 1076 0)) (by omega) rfl)))
          have b255 := zz_rf4 (z := (S231 1076 0)) (by omega)
          have g256 := zz_G.r G_S251 1076 1 0 1000000 rfl rfl
          exact zz_vret zd_3_5_159 rfl (Nat.zero_le _) (Nat.zero_le _) ⟨_, rfl, G_S251, F_S251, by omega⟩
        · refine zz_lload (x := v244) rfl zd_3_5_144 ?_
          refine zz_goto zd_3_5_146 ?_
          have e257 : S231 1076 1 = S187 1076 1 := (zz_rc fS231 rfl rfl (by first | decide | omega) (zz_rc fS226 rfl rfl (by first | decide | omega) rfl))
          refine zz_callVV [zl v244] zd_3_5_156 zk_Compiler_143 zT_1076 (zz_ltn hn rfl) rfl rfl ⟨Nat.le_of_ble_eq_true rfl, Nat.le_of_ble_eq_true rfl⟩ ⟨rfl, rfl⟩ (Nat.zero_le _) (Nat.zero_le _) (zc_emit_3_15 v244 S231 n hn G_S231 (by omega) (by omega)) (fun S258 hP => ?_)
          obtain ⟨G_S258, fS258, o260⟩ := hP
          have g261 := zz_G.r G_S231 1076 0 0 1 rfl rfl
          have F_S258 := zz_fr.trans F_S231 fS258 rfl (fun a i h => Or.inr (Or.inl (h ▸ zM_k4 (z := (S231 1076 0)) (by omega) rfl)))
          have b262 := zz_rf4 (z := (S231 1076 0)) (by omega)
          have g263 := zz_G.r G_S258 1076 1 0 1000000 rfl rfl
          exact zz_vret zd_3_5_159 rfl (Nat.zero_le _) (Nat.zero_le _) ⟨_, rfl, G_S258, F_S258, by omega⟩
  · refine zz_aload_n (x := 1076) rfl zd_3_5_16 ?_
    refine zz_iload_n (x := p0) rfl zd_3_5_17 ?_
    have g264 := zz_G.r G_S0 1076 4 (-1) 23 rfl rfl
    have g265 := zz_G.r G_S0 1076 5 (-1) 23 rfl rfl
    refine zz_callVV [zi p0] zd_3_5_18 zk_Compiler_151 zT_1076 (zz_ltn hn rfl) rfl rfl ⟨Nat.le_of_ble_eq_true rfl, Nat.le_of_ble_eq_true rfl⟩ ⟨rfl, rfl⟩ (Nat.zero_le _) (Nat.zero_le _) (zc_loadParameters_3_6 p0 S0 n hn G_S0 (by omega) (by omega) (by omega)) (fun S266 hP => ?_)
    obtain ⟨G_S266, fS266, o268⟩ := hP
    have F_S266 := zz_fr.trans F_S0 fS266 rfl zz_nv
    refine zz_aload_n (x := 1076) rfl zd_3_5_21 ?_
    refine zz_aload_n (x := 1076) rfl zd_3_5_22 ?_
    have g269 := zz_G.r G_S0 1076 15 (-2147483648) 2147483647 rfl rfl
    refine zz_geti (z := S0 1076 15) zd_3_5_23 zf_Compiler_112 zT_1076 rfl (zz_ltn hn rfl) (zz_rc fS266 rfl rfl (fun h => h) rfl) ?_
    have g270 := zz_G.r G_S266 1076 1 0 1000000 rfl rfl
    have e271 : S266 1076 3 = S0 1076 3 := (zz_rc fS266 rfl rfl (fun h => h) rfl)
    have e272 : S266 1076 4 = S0 1076 4 := (zz_rc fS266 rfl rfl (fun h => h) rfl)
    have e273 : S266 1076 5 = S0 1076 5 := (zz_rc fS266 rfl rfl (fun h => h) rfl)
    refine zz_callVV [zi (S0 1076 15)] zd_3_5_26 zk_Compiler_155 zT_1076 (zz_ltn hn rfl) rfl rfl ⟨Nat.le_of_ble_eq_true rfl, Nat.le_of_ble_eq_true rfl⟩ ⟨rfl, rfl⟩ (Nat.zero_le _) (Nat.zero_le _) (zc_loadMet_3_7 (S0 1076 15) S266 n hn G_S266 (by omega) (by omega) (by omega)) (fun S274 hP => ?_)
    obtain ⟨G_S274, fS274, o276⟩ := hP
    have F_S274 := zz_fr.trans F_S266 fS274 rfl zz_nv
    refine zz_goto zd_3_5_29 ?_
    refine zz_aload_n (x := 1076) rfl zd_3_5_102 ?_
    have g277 := zz_G.r G_S0 1076 12 (-2147483648) 2147483647 rfl rfl
    refine zz_geti (z := S0 1076 12) zd_3_5_103 zf_Compiler_73 zT_1076 rfl (zz_ltn hn rfl) (zz_rc fS274 rfl rfl (fun h => h) (zz_rc fS266 rfl rfl (fun h => h) rfl)) ?_
    refine zz_iconst zd_3_5_106 ?_
    refine zz_icmp_le (by omega) (by omega) zd_3_5_107 (fun c278 => ?_) (fun c278 => ?_)
    · refine zz_aload_n (x := 1076) rfl zd_3_5_116 ?_
      refine zz_aload_n (x := 1076) rfl zd_3_5_117 ?_
      have g279 := zz_G.r G_S274 1076 1 0 1000000 rfl rfl
      refine zz_geti (z := S274 1076 1) zd_3_5_118 zf_Compiler_15 zT_1076 rfl (zz_ltn hn rfl) rfl ?_
      refine zz_iconst zd_3_5_121 ?_
      refine zz_isub zd_3_5_122 ?_
      refine zz_iconst zd_3_5_123 ?_
      refine zz_callVV [zi ((S274 1076 1) - 1), zi 4] zd_3_5_124 zk_Compiler_163 zT_1076 (zz_ltn hn rfl) rfl rfl ⟨Nat.le_of_ble_eq_true rfl, Nat.le_of_ble_eq_true rfl⟩ ⟨rfl, rfl⟩ (Nat.zero_le _) (Nat.zero_le _) (zc_mark_3_16 ((S274 1076 1) - 1) 4 S274 n hn G_S274 (by omega) (by omega)) (fun S280 hP => ?_)
      obtain ⟨G_S280, fS280⟩ := hP
      have g282 := zz_G.r G_S274 1076 0 0 1 rfl rfl
      have F_S280 := zz_fr.trans F_S274 fS280 rfl (fun a i h => Or.inr (Or.inl (h ▸ zM_k4 (z := (S274 1076 0)) (by omega) rfl)))
      have b283 := zz_rf4 (z := (S274 1076 0)) (by omega)
      refine zz_aload_n (x := 1076) rfl zd_3_5_127 ?_
      refine zz_iload_n (x := p0) rfl zd_3_5_128 ?_
      have e284 : S280 1076 3 = S0 1076 3 := (zz_rc fS280 rfl rfl (by first | decide | omega) (zz_rc fS274 rfl rfl (fun h => h) (zz_rc fS266 rfl rfl (fun h => h) rfl)))
      have e285 : S280 1076 4 = S0 1076 4 := (zz_rc fS280 rfl rfl (by first | decide | omega) (zz_rc fS274 rfl rfl (fun h => h) (zz_rc fS266 rfl rfl (fun h => h) rfl)))
      have e286 : S280 1076 5 = S0 1076 5 := (zz_rc fS280 rfl rfl (by first | decide | omega) (zz_rc fS274 rfl rfl (fun h => h) (zz_rc fS266 rfl rfl (fun h => h) rfl)))
      refine zz_callVJ [zi p0] zd_3_5_129 zk_Compiler_167 zT_1076 (zz_ltn hn rfl) rfl rfl ⟨Nat.le_of_ble_eq_true rfl, Nat.le_of_ble_eq_true rfl⟩ ⟨rfl, rfl⟩ (Nat.zero_le _) (Nat.zero_le _) (zc_workOf_3_11 p0 S280 n hn G_S280 (by omega) (by omega)) (fun v288 S287 hP => ?_)
      obtain ⟨rfl, o289⟩ := hP
      refine zz_iconst zd_3_5_132 ?_
      refine zz_callSJ [zi 1] zd_3_5_133 zk_Compiler_139 rfl rfl ⟨Nat.le_of_ble_eq_true rfl, Nat.le_of_ble_eq_true rfl⟩ ⟨rfl, rfl⟩ (Nat.zero_le _) (Nat.zero_le _) (zc_flag_12_5 1 S280 n hn G_S280 (by omega)) (fun v291 S290 hP => ?_)
      obtain ⟨rfl, o292⟩ := hP
      refine zz_lor zd_3_5_136 (fun v293 hv293 ev293 => ?_)
      refine zz_lstore [some (.ref 1076), some (zi p0), some (zi p1), some (zi (S0 1076 1)), some (zl v293), none] zd_3_5_137 (by decide) rfl ?_
      refine zz_aload_n (x := 1076) rfl zd_3_5_139 ?_
      refine zz_iload_n (x := p1) rfl zd_3_5_140 ?_
      refine zz_if_eq (by omega) zd_3_5_141 (fun c294 => ?_) (fun c294 => ?_)
      · refine zz_lload (x := v293) rfl zd_3_5_149 ?_
        refine zz_iconst zd_3_5_151 ?_
        refine zz_callSJ [zi 3] zd_3_5_152 zk_Compiler_139 rfl rfl ⟨Nat.le_of_ble_eq_true rfl, Nat.le_of_ble_eq_true rfl⟩ ⟨rfl, rfl⟩ (Nat.zero_le _) (Nat.zero_le _) (zc_flag_12_5 3 S280 n hn G_S280 (by omega)) (fun v296 S295 hP => ?_)
        obtain ⟨rfl, o297⟩ := hP
        refine zz_lor zd_3_5_155 (fun v298 hv298 ev298 => ?_)
        have e299 : S280 1076 1 = S274 1076 1 := (zz_rc fS280 rfl rfl (by first | decide | omega) rfl)
        refine zz_callVV [zl v298] zd_3_5_156 zk_Compiler_143 zT_1076 (zz_ltn hn rfl) rfl rfl ⟨Nat.le_of_ble_eq_true rfl, Nat.le_of_ble_eq_true rfl⟩ ⟨rfl, rfl⟩ (Nat.zero_le _) (Nat.zero_le _) (zc_emit_3_15 v298 S280 n hn G_S280 (by omega) (by omega)) (fun S300 hP => ?_)
        obtain ⟨G_S300, fS300, o302⟩ := hP
        have g303 := zz_G.r G_S280 1076 0 0 1 rfl rfl
        have F_S300 := zz_fr.trans F_S280 fS300 rfl (fun a i h => Or.inr (Or.inl (h ▸ zM_k4 (z := (S280 1076 0)) (by omega) rfl)))
        have b304 := zz_rf4 (z := (S280 1076 0)) (by omega)
        have g305 := zz_G.r G_S300 1076 1 0 1000000 rfl rfl
        exact zz_vret zd_3_5_159 rfl (Nat.zero_le _) (Nat.zero_le _) ⟨_, rfl, G_S300, F_S300, by omega⟩
      · refine zz_lload (x := v293) rfl zd_3_5_144 ?_
        refine zz_goto zd_3_5_146 ?_
        have e306 : S280 1076 1 = S274 1076 1 := (zz_rc fS280 rfl rfl (by first | decide | omega) rfl)
        refine zz_callVV [zl v293] zd_3_5_156 zk_Compiler_143 zT_1076 (zz_ltn hn rfl) rfl rfl ⟨Nat.le_of_ble_eq_true rfl, Nat.le_of_ble_eq_true rfl⟩ ⟨rfl, rfl⟩ (Nat.zero_le _) (Nat.zero_le _) (zc_emit_3_15 v293 S280 n hn G_S280 (by omega) (by omega)) (fun S307 hP => ?_)
        obtain ⟨G_S307, fS307, o309⟩ := hP
        have g310 := zz_G.r G_S280 1076 0 0 1 rfl rfl
        have F_S307 := zz_fr.trans F_S280 fS307 rfl (fun a i h => Or.inr (Or.inl (h ▸ zM_k4 (z := (S280 1076 0)) (by omega) rfl)))
        have b311 := zz_rf4 (z := (S280 1076 0)) (by omega)
        have g312 := zz_G.r G_S307 1076 1 0 1000000 rfl rfl
        exact zz_vret zd_3_5_159 rfl (Nat.zero_le _) (Nat.zero_le _) ⟨_, rfl, G_S307, F_S307, by omega⟩
    · refine zz_aload_n (x := 1076) rfl zd_3_5_110 ?_
      refine zz_iload_n (x := S0 1076 1) rfl zd_3_5_111 ?_
      refine zz_iconst zd_3_5_112 ?_
      refine zz_callVV [zi (S0 1076 1), zi 2] zd_3_5_113 zk_Compiler_163 zT_1076 (zz_ltn hn rfl) rfl rfl ⟨Nat.le_of_ble_eq_true rfl, Nat.le_of_ble_eq_true rfl⟩ ⟨rfl, rfl⟩ (Nat.zero_le _) (Nat.zero_le _) (zc_mark_3_16 (S0 1076 1) 2 S274 n hn G_S274 (by omega) (by omega)) (fun S313 hP => ?_)
      obtain ⟨G_S313, fS313⟩ := hP
      have g315 := zz_G.r G_S274 1076 0 0 1 rfl rfl
      have F_S313 := zz_fr.trans F_S274 fS313 rfl (fun a i h => Or.inr (Or.inl (h ▸ zM_k4 (z := (S274 1076 0)) (by omega) rfl)))
      have b316 := zz_rf4 (z := (S274 1076 0)) (by omega)
      refine zz_aload_n (x := 1076) rfl zd_3_5_116 ?_
      refine zz_aload_n (x := 1076) rfl zd_3_5_117 ?_
      have g317 := zz_G.r G_S274 1076 1 0 1000000 rfl rfl
      refine zz_geti (z := S274 1076 1) zd_3_5_118 zf_Compiler_15 zT_1076 rfl (zz_ltn hn rfl) (zz_rc fS313 rfl rfl (by first | decide | omega) rfl) ?_
      refine zz_iconst zd_3_5_121 ?_
      refine zz_isub zd_3_5_122 ?_
      refine zz_iconst zd_3_5_123 ?_
      refine zz_callVV [zi ((S274 1076 1) - 1), zi 4] zd_3_5_124 zk_Compiler_163 zT_1076 (zz_ltn hn rfl) rfl rfl ⟨Nat.le_of_ble_eq_true rfl, Nat.le_of_ble_eq_true rfl⟩ ⟨rfl, rfl⟩ (Nat.zero_le _) (Nat.zero_le _) (zc_mark_3_16 ((S274 1076 1) - 1) 4 S313 n hn G_S313 (by omega) (by omega)) (fun S318 hP => ?_)
      obtain ⟨G_S318, fS318⟩ := hP
      have g320 := zz_G.r G_S313 1076 0 0 1 rfl rfl
      have F_S318 := zz_fr.trans F_S313 fS318 rfl (fun a i h => Or.inr (Or.inl (h ▸ zM_k4 (z := (S313 1076 0)) (by omega) rfl)))
      have b321 := zz_rf4 (z := (S313 1076 0)) (by omega)
      refine zz_aload_n (x := 1076) rfl zd_3_5_127 ?_
      refine zz_iload_n (x := p0) rfl zd_3_5_128 ?_
      have e322 : S318 1076 3 = S0 1076 3 := (zz_rc fS318 rfl rfl (by first | decide | omega) (zz_rc fS313 rfl rfl (by first | decide | omega) (zz_rc fS274 rfl rfl (fun h => h) (zz_rc fS266 rfl rfl (fun h => h) rfl))))
      have e323 : S318 1076 4 = S0 1076 4 := (zz_rc fS318 rfl rfl (by first | decide | omega) (zz_rc fS313 rfl rfl (by first | decide | omega) (zz_rc fS274 rfl rfl (fun h => h) (zz_rc fS266 rfl rfl (fun h => h) rfl))))
      have e324 : S318 1076 5 = S0 1076 5 := (zz_rc fS318 rfl rfl (by first | decide | omega) (zz_rc fS313 rfl rfl (by first | decide | omega) (zz_rc fS274 rfl rfl (fun h => h) (zz_rc fS266 rfl rfl (fun h => h) rfl))))
      refine zz_callVJ [zi p0] zd_3_5_129 zk_Compiler_167 zT_1076 (zz_ltn hn rfl) rfl rfl ⟨Nat.le_of_ble_eq_true rfl, Nat.le_of_ble_eq_true rfl⟩ ⟨rfl, rfl⟩ (Nat.zero_le _) (Nat.zero_le _) (zc_workOf_3_11 p0 S318 n hn G_S318 (by omega) (by omega)) (fun v326 S325 hP => ?_)
      obtain ⟨rfl, o327⟩ := hP
      refine zz_iconst zd_3_5_132 ?_
      refine zz_callSJ [zi 1] zd_3_5_133 zk_Compiler_139 rfl rfl ⟨Nat.le_of_ble_eq_true rfl, Nat.le_of_ble_eq_true rfl⟩ ⟨rfl, rfl⟩ (Nat.zero_le _) (Nat.zero_le _) (zc_flag_12_5 1 S318 n hn G_S318 (by omega)) (fun v329 S328 hP => ?_)
      obtain ⟨rfl, o330⟩ := hP
      refine zz_lor zd_3_5_136 (fun v331 hv331 ev331 => ?_)
      refine zz_lstore [some (.ref 1076), some (zi p0), some (zi p1), some (zi (S0 1076 1)), some (zl v331), none] zd_3_5_137 (by decide) rfl ?_
      refine zz_aload_n (x := 1076) rfl zd_3_5_139 ?_
      refine zz_iload_n (x := p1) rfl zd_3_5_140 ?_
      refine zz_if_eq (by omega) zd_3_5_141 (fun c332 => ?_) (fun c332 => ?_)
      · refine zz_lload (x := v331) rfl zd_3_5_149 ?_
        refine zz_iconst zd_3_5_151 ?_
        refine zz_callSJ [zi 3] zd_3_5_152 zk_Compiler_139 rfl rfl ⟨Nat.le_of_ble_eq_true rfl, Nat.le_of_ble_eq_true rfl⟩ ⟨rfl, rfl⟩ (Nat.zero_le _) (Nat.zero_le _) (zc_flag_12_5 3 S318 n hn G_S318 (by omega)) (fun v334 S333 hP => ?_)
        obtain ⟨rfl, o335⟩ := hP
        refine zz_lor zd_3_5_155 (fun v336 hv336 ev336 => ?_)
        have e337 : S318 1076 1 = S274 1076 1 := (zz_rc fS318 rfl rfl (by first | decide | omega) (zz_rc fS313 rfl rfl (by first | decide | omega) rfl))
        refine zz_callVV [zl v336] zd_3_5_156 zk_Compiler_143 zT_1076 (zz_ltn hn rfl) rfl rfl ⟨Nat.le_of_ble_eq_true rfl, Nat.le_of_ble_eq_true rfl⟩ ⟨rfl, rfl⟩ (Nat.zero_le _) (Nat.zero_le _) (zc_emit_3_15 v336 S318 n hn G_S318 (by omega) (by omega)) (fun S338 hP => ?_)
        obtain ⟨G_S338, fS338, o340⟩ := hP
        have g341 := zz_G.r G_S318 1076 0 0 1 rfl rfl
        have F_S338 := zz_fr.trans F_S318 fS338 rfl (fun a i h => Or.inr (Or.inl (h ▸ zM_k4 (z := (S318 1076 0)) (by omega) rfl)))
        have b342 := zz_rf4 (z := (S318 1076 0)) (by omega)
        have g343 := zz_G.r G_S338 1076 1 0 1000000 rfl rfl
        exact zz_vret zd_3_5_159 rfl (Nat.zero_le _) (Nat.zero_le _) ⟨_, rfl, G_S338, F_S338, by omega⟩
      · refine zz_lload (x := v331) rfl zd_3_5_144 ?_
        refine zz_goto zd_3_5_146 ?_
        have e344 : S318 1076 1 = S274 1076 1 := (zz_rc fS318 rfl rfl (by first | decide | omega) (zz_rc fS313 rfl rfl (by first | decide | omega) rfl))
        refine zz_callVV [zl v331] zd_3_5_156 zk_Compiler_143 zT_1076 (zz_ltn hn rfl) rfl rfl ⟨Nat.le_of_ble_eq_true rfl, Nat.le_of_ble_eq_true rfl⟩ ⟨rfl, rfl⟩ (Nat.zero_le _) (Nat.zero_le _) (zc_emit_3_15 v331 S318 n hn G_S318 (by omega) (by omega)) (fun S345 hP => ?_)
        obtain ⟨G_S345, fS345, o347⟩ := hP
        have g348 := zz_G.r G_S318 1076 0 0 1 rfl rfl
        have F_S345 := zz_fr.trans F_S318 fS345 rfl (fun a i h => Or.inr (Or.inl (h ▸ zM_k4 (z := (S318 1076 0)) (by omega) rfl)))
        have b349 := zz_rf4 (z := (S318 1076 0)) (by omega)
        have g350 := zz_G.r G_S345 1076 1 0 1000000 rfl rfl
        exact zz_vret zd_3_5_159 rfl (Nat.zero_le _) (Nat.zero_le _) ⟨_, rfl, G_S345, F_S345, by omega⟩
theorem zk_Compiler_118 : mm_Vl "TensorForge$Compiler" 118 9 2 zy_makeGroup_3_5 := ⟨zyw_makeGroup_3_5, (R_Compiler, F_Compiler, 17), rfl, mm_tb_1 1420 (by decide +kernel) rfl, mm_tb_1 1422 (by decide +kernel) rfl, mm_tb_s 64 (by decide +kernel) rfl⟩
theorem zg_3_4_227 : zq_at zy_makeTile_3_4.2.1 227 42 ∧ zq_at zy_makeTile_3_4.2.1 228 89 ∧ zq_at zy_makeTile_3_4.2.1 229 180 ∧ zq_at zy_makeTile_3_4.2.1 230 0 ∧ zq_at zy_makeTile_3_4.2.1 231 73 ∧ zq_at zy_makeTile_3_4.2.1 232 4 ∧ zq_at zy_makeTile_3_4.2.1 233 96 ∧ zq_at zy_makeTile_3_4.2.1 234 181 ∧ zq_at zy_makeTile_3_4.2.1 235 0 ∧ zq_at zy_makeTile_3_4.2.1 236 73 ∧ zq_at zy_makeTile_3_4.2.1 237 42 ∧ zq_at zy_makeTile_3_4.2.1 238 89 ∧ zq_at zy_makeTile_3_4.2.1 239 180 ∧ zq_at zy_makeTile_3_4.2.1 240 0 ∧ zq_at zy_makeTile_3_4.2.1 241 112 ∧ zq_at zy_makeTile_3_4.2.1 242 42 ∧ zq_at zy_makeTile_3_4.2.1 243 180 ∧ zq_at zy_makeTile_3_4.2.1 244 0 ∧ zq_at zy_makeTile_3_4.2.1 245 21 ∧ zq_at zy_makeTile_3_4.2.1 246 96 ∧ zq_at zy_makeTile_3_4.2.1 247 181 ∧ zq_at zy_makeTile_3_4.2.1 248 0 ∧ zq_at zy_makeTile_3_4.2.1 249 112 := by decide +kernel
theorem zd_3_4_227 : zz_D zy_makeTile_3_4 227 (.aload_n 0) 1 228 := ⟨zq_42 zg_3_4_227.1, rfl⟩
theorem zd_3_4_228 : zz_D zy_makeTile_3_4 228 (.dup) 1 229 := ⟨zq_89 zg_3_4_227.2.1, rfl⟩
theorem zd_3_4_229 : zz_D zy_makeTile_3_4 229 (.getfield 73) 3 232 := ⟨zq_180 zg_3_4_227.2.2.1 zg_3_4_227.2.2.2.1 zg_3_4_227.2.2.2.2.1 rfl, rfl⟩
theorem zd_3_4_232 : zz_D zy_makeTile_3_4 232 (.iconst 1) 1 233 := ⟨zq_4 zg_3_4_227.2.2.2.2.2.1, rfl⟩
theorem zd_3_4_233 : zz_D zy_makeTile_3_4 233 (.iadd) 1 234 := ⟨zq_96 zg_3_4_227.2.2.2.2.2.2.1, rfl⟩
theorem zd_3_4_234 : zz_D zy_makeTile_3_4 234 (.putfield 73) 3 237 := ⟨zq_181 zg_3_4_227.2.2.2.2.2.2.2.1 zg_3_4_227.2.2.2.2.2.2.2.2.1 zg_3_4_227.2.2.2.2.2.2.2.2.2.1 rfl, rfl⟩
theorem zd_3_4_237 : zz_D zy_makeTile_3_4 237 (.aload_n 0) 1 238 := ⟨zq_42 zg_3_4_227.2.2.2.2.2.2.2.2.2.2.1, rfl⟩
theorem zd_3_4_238 : zz_D zy_makeTile_3_4 238 (.dup) 1 239 := ⟨zq_89 zg_3_4_227.2.2.2.2.2.2.2.2.2.2.2.1, rfl⟩
theorem zd_3_4_239 : zz_D zy_makeTile_3_4 239 (.getfield 112) 3 242 := ⟨zq_180 zg_3_4_227.2.2.2.2.2.2.2.2.2.2.2.2.1 zg_3_4_227.2.2.2.2.2.2.2.2.2.2.2.2.2.1 zg_3_4_227.2.2.2.2.2.2.2.2.2.2.2.2.2.2.1 rfl, rfl⟩
theorem zd_3_4_242 : zz_D zy_makeTile_3_4 242 (.aload_n 0) 1 243 := ⟨zq_42 zg_3_4_227.2.2.2.2.2.2.2.2.2.2.2.2.2.2.2.1, rfl⟩
theorem zd_3_4_243 : zz_D zy_makeTile_3_4 243 (.getfield 21) 3 246 := ⟨zq_180 zg_3_4_227.2.2.2.2.2.2.2.2.2.2.2.2.2.2.2.2.1 zg_3_4_227.2.2.2.2.2.2.2.2.2.2.2.2.2.2.2.2.2.1 zg_3_4_227.2.2.2.2.2.2.2.2.2.2.2.2.2.2.2.2.2.2.1 rfl, rfl⟩
theorem zd_3_4_246 : zz_D zy_makeTile_3_4 246 (.iadd) 1 247 := ⟨zq_96 zg_3_4_227.2.2.2.2.2.2.2.2.2.2.2.2.2.2.2.2.2.2.2.1, rfl⟩
theorem zd_3_4_247 : zz_D zy_makeTile_3_4 247 (.putfield 112) 3 250 := ⟨zq_181 zg_3_4_227.2.2.2.2.2.2.2.2.2.2.2.2.2.2.2.2.2.2.2.2.1 zg_3_4_227.2.2.2.2.2.2.2.2.2.2.2.2.2.2.2.2.2.2.2.2.2.1 zg_3_4_227.2.2.2.2.2.2.2.2.2.2.2.2.2.2.2.2.2.2.2.2.2.2 rfl, rfl⟩
theorem zg_3_4_250 : zq_at zy_makeTile_3_4.2.1 250 167 ∧ zq_at zy_makeTile_3_4.2.1 251 255 ∧ zq_at zy_makeTile_3_4.2.1 252 128 ∧ zq_at zy_makeTile_3_4.2.1 217 4 ∧ zq_at zy_makeTile_3_4.2.1 218 167 ∧ zq_at zy_makeTile_3_4.2.1 219 0 ∧ zq_at zy_makeTile_3_4.2.1 220 4 ∧ zq_at zy_makeTile_3_4.2.1 175 42 ∧ zq_at zy_makeTile_3_4.2.1 176 180 ∧ zq_at zy_makeTile_3_4.2.1 177 0 ∧ zq_at zy_makeTile_3_4.2.1 178 109 ∧ zq_at zy_makeTile_3_4.2.1 179 21 ∧ zq_at zy_makeTile_3_4.2.1 180 4 ∧ zq_at zy_makeTile_3_4.2.1 181 4 ∧ zq_at zy_makeTile_3_4.2.1 182 100 ∧ zq_at zy_makeTile_3_4.2.1 183 160 ∧ zq_at zy_makeTile_3_4.2.1 184 0 ∧ zq_at zy_makeTile_3_4.2.1 185 21 ∧ zq_at zy_makeTile_3_4.2.1 186 42 ∧ zq_at zy_makeTile_3_4.2.1 187 180 ∧ zq_at zy_makeTile_3_4.2.1 188 0 ∧ zq_at zy_makeTile_3_4.2.1 189 112 ∧ zq_at zy_makeTile_3_4.2.1 190 42 := by decide +kernel
theorem zd_3_4_250 : zz_B zy_makeTile_3_4 250 Instr.goto 122 253 := ⟨(-128), zq_167 zg_3_4_250.1 zg_3_4_250.2.1 zg_3_4_250.2.2.1 (by decide), rfl, rfl⟩
theorem zd_3_4_217 : zz_D zy_makeTile_3_4 217 (.iconst 1) 1 218 := ⟨zq_4 zg_3_4_250.2.2.2.1, rfl⟩
theorem zd_3_4_218 : zz_B zy_makeTile_3_4 218 Instr.goto 222 221 := ⟨4, zq_167 zg_3_4_250.2.2.2.2.1 zg_3_4_250.2.2.2.2.2.1 zg_3_4_250.2.2.2.2.2.2.1 (by decide), rfl, rfl⟩
theorem zd_3_4_175 : zz_D zy_makeTile_3_4 175 (.aload_n 0) 1 176 := ⟨zq_42 zg_3_4_250.2.2.2.2.2.2.2.1, rfl⟩
theorem zd_3_4_176 : zz_D zy_makeTile_3_4 176 (.getfield 109) 3 179 := ⟨zq_180 zg_3_4_250.2.2.2.2.2.2.2.2.1 zg_3_4_250.2.2.2.2.2.2.2.2.2.1 zg_3_4_250.2.2.2.2.2.2.2.2.2.2.1 rfl, rfl⟩
theorem zd_3_4_179 : zz_D zy_makeTile_3_4 179 (.iload 4) 2 181 := ⟨zq_21 zg_3_4_250.2.2.2.2.2.2.2.2.2.2.2.1 zg_3_4_250.2.2.2.2.2.2.2.2.2.2.2.2.1, rfl⟩
theorem zd_3_4_181 : zz_D zy_makeTile_3_4 181 (.iconst 1) 1 182 := ⟨zq_4 zg_3_4_250.2.2.2.2.2.2.2.2.2.2.2.2.2.1, rfl⟩
theorem zd_3_4_182 : zz_D zy_makeTile_3_4 182 (.isub) 1 183 := ⟨zq_100 zg_3_4_250.2.2.2.2.2.2.2.2.2.2.2.2.2.2.1, rfl⟩
theorem zd_3_4_183 : zz_B zy_makeTile_3_4 183 (Instr.if_icmp .ne) 204 186 := ⟨21, zq_160 zg_3_4_250.2.2.2.2.2.2.2.2.2.2.2.2.2.2.2.1 zg_3_4_250.2.2.2.2.2.2.2.2.2.2.2.2.2.2.2.2.1 zg_3_4_250.2.2.2.2.2.2.2.2.2.2.2.2.2.2.2.2.2.1 (by decide), rfl, rfl⟩
theorem zd_3_4_186 : zz_D zy_makeTile_3_4 186 (.aload_n 0) 1 187 := ⟨zq_42 zg_3_4_250.2.2.2.2.2.2.2.2.2.2.2.2.2.2.2.2.2.2.1, rfl⟩
theorem zd_3_4_187 : zz_D zy_makeTile_3_4 187 (.getfield 112) 3 190 := ⟨zq_180 zg_3_4_250.2.2.2.2.2.2.2.2.2.2.2.2.2.2.2.2.2.2.2.1 zg_3_4_250.2.2.2.2.2.2.2.2.2.2.2.2.2.2.2.2.2.2.2.2.1 zg_3_4_250.2.2.2.2.2.2.2.2.2.2.2.2.2.2.2.2.2.2.2.2.2.1 rfl, rfl⟩
theorem zd_3_4_190 : zz_D zy_makeTile_3_4 190 (.aload_n 0) 1 191 := ⟨zq_42 zg_3_4_250.2.2.2.2.2.2.2.2.2.2.2.2.2.2.2.2.2.2.2.2.2.2, rfl⟩
theorem zg_3_4_191 : zq_at zy_makeTile_3_4.2.1 191 180 ∧ zq_at zy_makeTile_3_4.2.1 192 0 ∧ zq_at zy_makeTile_3_4.2.1 193 21 ∧ zq_at zy_makeTile_3_4.2.1 194 96 ∧ zq_at zy_makeTile_3_4.2.1 195 21 ∧ zq_at zy_makeTile_3_4.2.1 196 5 ∧ zq_at zy_makeTile_3_4.2.1 197 161 ∧ zq_at zy_makeTile_3_4.2.1 198 0 ∧ zq_at zy_makeTile_3_4.2.1 199 7 ∧ zq_at zy_makeTile_3_4.2.1 200 4 ∧ zq_at zy_makeTile_3_4.2.1 201 167 ∧ zq_at zy_makeTile_3_4.2.1 202 0 ∧ zq_at zy_makeTile_3_4.2.1 203 4 ∧ zq_at zy_makeTile_3_4.2.1 136 42 ∧ zq_at zy_makeTile_3_4.2.1 137 180 ∧ zq_at zy_makeTile_3_4.2.1 138 0 ∧ zq_at zy_makeTile_3_4.2.1 139 21 ∧ zq_at zy_makeTile_3_4.2.1 140 42 ∧ zq_at zy_makeTile_3_4.2.1 141 180 ∧ zq_at zy_makeTile_3_4.2.1 142 0 ∧ zq_at zy_makeTile_3_4.2.1 143 55 ∧ zq_at zy_makeTile_3_4.2.1 144 180 ∧ zq_at zy_makeTile_3_4.2.1 145 0 ∧ zq_at zy_makeTile_3_4.2.1 146 79 := by decide +kernel
theorem zd_3_4_191 : zz_D zy_makeTile_3_4 191 (.getfield 21) 3 194 := ⟨zq_180 zg_3_4_191.1 zg_3_4_191.2.1 zg_3_4_191.2.2.1 rfl, rfl⟩
theorem zd_3_4_194 : zz_D zy_makeTile_3_4 194 (.iadd) 1 195 := ⟨zq_96 zg_3_4_191.2.2.2.1, rfl⟩
theorem zd_3_4_195 : zz_D zy_makeTile_3_4 195 (.iload 5) 2 197 := ⟨zq_21 zg_3_4_191.2.2.2.2.1 zg_3_4_191.2.2.2.2.2.1, rfl⟩
theorem zd_3_4_197 : zz_B zy_makeTile_3_4 197 (Instr.if_icmp .lt) 204 200 := ⟨7, zq_161 zg_3_4_191.2.2.2.2.2.2.1 zg_3_4_191.2.2.2.2.2.2.2.1 zg_3_4_191.2.2.2.2.2.2.2.2.1 (by decide), rfl, rfl⟩
theorem zd_3_4_200 : zz_D zy_makeTile_3_4 200 (.iconst 1) 1 201 := ⟨zq_4 zg_3_4_191.2.2.2.2.2.2.2.2.2.1, rfl⟩
theorem zd_3_4_201 : zz_B zy_makeTile_3_4 201 Instr.goto 205 204 := ⟨4, zq_167 zg_3_4_191.2.2.2.2.2.2.2.2.2.2.1 zg_3_4_191.2.2.2.2.2.2.2.2.2.2.2.1 zg_3_4_191.2.2.2.2.2.2.2.2.2.2.2.2.1 (by decide), rfl, rfl⟩
theorem zd_3_4_136 : zz_D zy_makeTile_3_4 136 (.aload_n 0) 1 137 := ⟨zq_42 zg_3_4_191.2.2.2.2.2.2.2.2.2.2.2.2.2.1, rfl⟩
theorem zd_3_4_137 : zz_D zy_makeTile_3_4 137 (.getfield 21) 3 140 := ⟨zq_180 zg_3_4_191.2.2.2.2.2.2.2.2.2.2.2.2.2.2.1 zg_3_4_191.2.2.2.2.2.2.2.2.2.2.2.2.2.2.2.1 zg_3_4_191.2.2.2.2.2.2.2.2.2.2.2.2.2.2.2.2.1 rfl, rfl⟩
theorem zd_3_4_140 : zz_D zy_makeTile_3_4 140 (.aload_n 0) 1 141 := ⟨zq_42 zg_3_4_191.2.2.2.2.2.2.2.2.2.2.2.2.2.2.2.2.2.1, rfl⟩
theorem zd_3_4_141 : zz_D zy_makeTile_3_4 141 (.getfield 55) 3 144 := ⟨zq_180 zg_3_4_191.2.2.2.2.2.2.2.2.2.2.2.2.2.2.2.2.2.2.1 zg_3_4_191.2.2.2.2.2.2.2.2.2.2.2.2.2.2.2.2.2.2.2.1 zg_3_4_191.2.2.2.2.2.2.2.2.2.2.2.2.2.2.2.2.2.2.2.2.1 rfl, rfl⟩
theorem zd_3_4_144 : zz_D zy_makeTile_3_4 144 (.getfield 79) 3 147 := ⟨zq_180 zg_3_4_191.2.2.2.2.2.2.2.2.2.2.2.2.2.2.2.2.2.2.2.2.2.1 zg_3_4_191.2.2.2.2.2.2.2.2.2.2.2.2.2.2.2.2.2.2.2.2.2.2.1 zg_3_4_191.2.2.2.2.2.2.2.2.2.2.2.2.2.2.2.2.2.2.2.2.2.2.2 rfl, rfl⟩
theorem zg_3_4_147 : zq_at zy_makeTile_3_4.2.1 147 42 ∧ zq_at zy_makeTile_3_4.2.1 148 180 ∧ zq_at zy_makeTile_3_4.2.1 149 0 ∧ zq_at zy_makeTile_3_4.2.1 150 112 ∧ zq_at zy_makeTile_3_4.2.1 151 100 ∧ zq_at zy_makeTile_3_4.2.1 152 184 ∧ zq_at zy_makeTile_3_4.2.1 153 0 ∧ zq_at zy_makeTile_3_4.2.1 154 24 ∧ zq_at zy_makeTile_3_4.2.1 155 167 ∧ zq_at zy_makeTile_3_4.2.1 156 0 ∧ zq_at zy_makeTile_3_4.2.1 157 7 := by decide +kernel
theorem zd_3_4_147 : zz_D zy_makeTile_3_4 147 (.aload_n 0) 1 148 := ⟨zq_42 zg_3_4_147.1, rfl⟩
theorem zd_3_4_148 : zz_D zy_makeTile_3_4 148 (.getfield 112) 3 151 := ⟨zq_180 zg_3_4_147.2.1 zg_3_4_147.2.2.1 zg_3_4_147.2.2.2.1 rfl, rfl⟩
theorem zd_3_4_151 : zz_D zy_makeTile_3_4 151 (.isub) 1 152 := ⟨zq_100 zg_3_4_147.2.2.2.2.1, rfl⟩
theorem zd_3_4_152 : zz_D zy_makeTile_3_4 152 (.invokestatic 24) 3 155 := ⟨zq_184 zg_3_4_147.2.2.2.2.2.1 zg_3_4_147.2.2.2.2.2.2.1 zg_3_4_147.2.2.2.2.2.2.2.1 rfl, rfl⟩
theorem zd_3_4_155 : zz_B zy_makeTile_3_4 155 Instr.goto 162 158 := ⟨7, zq_167 zg_3_4_147.2.2.2.2.2.2.2.2.1 zg_3_4_147.2.2.2.2.2.2.2.2.2.1 zg_3_4_147.2.2.2.2.2.2.2.2.2.2 (by decide), rfl, rfl⟩
-- TensorForge$Compiler makeTile ()V
abbrev zr_makeTile_3_4 : Room := { frames := 4, cells := 0, slots := 0, locals := 65 }
def zp_makeTile_3_4  (S0 : zz_S) : zz_S → Prop := fun S => zz_G S ∧ zz_fr [(1076, 1), (1076, 6), (1076, 12), (1076, 13), (1076, 14), (1076, 15), (1076, 16)] [1029, 1030] (fun _ _ => False) S0 S ∧ (S0 1076 1 + 2 ≤ S 1076 1 ∧ S 1076 1 ≤ S0 1076 1 + 2600)
theorem zb_makeTile_3_4_95 {g : mm_G} {l : Launch}  (S0 : zz_S) (n : Nat) (hn : zz_end ≤ n) (G_S0 : zz_G S0) (hq : S0 1076 1 ≤ 600) (hl : 0 ≤ S0 1076 3 ∧ 0 ≤ S0 1076 4 ∧ 0 ≤ S0 1076 5) (hk : zz_ly S0 (S0 1076 3) ∧ S0 (zz_rf 6 (S0 1076 4)) 12 ≤ 63) (x1 : Int) (x3 : Int) (x4 : Int) (x5 : Int) (S : zz_S) (G_S : zz_G S) (F_S : zz_fr [(1076, 1), (1076, 6), (1076, 12), (1076, 13), (1076, 14), (1076, 15), (1076, 16)] [1029, 1030] (fun _ _ => False) S0 S) (i95_0 : 0 ≤ x1 ∧ x1 ≤ 1) (i95_1 : (-2147483648) ≤ x3 ∧ x3 ≤ 3) (i95_2 : (-2147483648) ≤ x4 ∧ x4 ≤ 3) (i95_3 : (-2147483648) ≤ x5 ∧ x5 ≤ 63) (i95_4 : 0 ≤ S 1076 13 ∧ S 1076 13 ≤ 3) (i95_5 : S0 1076 1 ≤ S 1076 1 ∧ S 1076 1 ≤ S0 1076 1 + 840 * S 1076 13) (R : Nat) (hR : (51539607552 + (3 - S 1076 13).toNat) * 1208925819614629174706176 + 1208925819614629174706175 = R) (k108 : ∀ (x1 : Int) (x3 : Int) (x4 : Int) (x5 : Int) (S : zz_S), zz_G S → zz_fr [(1076, 1), (1076, 6), (1076, 12), (1076, 13), (1076, 14), (1076, 15), (1076, 16)] [1029, 1030] (fun _ _ => False) S0 S → (0 ≤ x1 ∧ x1 ≤ 1) → ((-2147483648) ≤ x3 ∧ x3 ≤ 3) → ((-2147483648) ≤ x4 ∧ x4 ≤ 3) → ((-2147483648) ≤ x5 ∧ x5 ≤ 63) → (0 ≤ S 1076 13 ∧ S 1076 13 ≤ 2) → (0 ≤ S 1076 14 ∧ S 1076 14 ≤ 3) → (S 1076 13 < x3) → (S0 1076 1 ≤ S 1076 1 ∧ S 1076 1 ≤ S0 1076 1 + 840 * S 1076 13 + 280 * S 1076 14) → (51539607552 + (3 - S 1076 13).toNat) * 1208925819614629174706176 + (34359738368 + (3 - S 1076 14).toNat) * 1099511627776 + 1099511627775 < R → zz_E g l zy_makeTile_3_4 zr_makeTile_3_4 (zz_QV n (zp_makeTile_3_4  S0)) S n 108 [some (.ref 1076), some (zi x1), none, some (zi x3), some (zi x4), some (zi x5), some (zi (S0 1076 12))] [] 0 0) : zz_E g l zy_makeTile_3_4 zr_makeTile_3_4 (zz_QV n (zp_makeTile_3_4  S0)) S n 95 [some (.ref 1076), some (zi x1), none, some (zi x3), some (zi x4), some (zi x5), some (zi (S0 1076 12))] [] 0 0 := by
  refine zz_aload_n (x := 1076) rfl zd_3_4_95 ?_
  have g36 := zz_G.r G_S 1076 13 (-2147483648) 2147483647 rfl rfl
  refine zz_geti (z := S 1076 13) zd_3_4_96 zf_Compiler_106 zT_1076 rfl (zz_ltn hn rfl) rfl ?_
  refine zz_iload_n (x := x3) rfl zd_3_4_99 ?_
  refine zz_icmp_ge (by omega) (by omega) zd_3_4_100 (fun c37 => ?_) (fun c37 => ?_)
  · refine zz_aload_n (x := 1076) rfl zd_3_4_279 ?_
    refine zz_callVI [] zd_3_4_280 zk_Compiler_122 zT_1076 (zz_ltn hn rfl) rfl rfl ⟨Nat.le_of_ble_eq_true rfl, Nat.le_of_ble_eq_true rfl⟩ ⟨rfl, rfl⟩ (Nat.zero_le _) (Nat.zero_le _) (zc_tileHalf_3_13  S n hn G_S ) (fun v39 S38 hP => ?_)
    obtain ⟨rfl, o40⟩ := hP
    refine zz_istore [some (.ref 1076), some (zi x1), none, some (zi x3), some (zi x4), some (zi x5), some (zi (S0 1076 12)), some (zi v39)] zd_3_4_283 (by decide) rfl ?_
    refine zz_bipush (by decide) zd_3_4_285 ?_
    refine zz_aload_n (x := 1076) rfl zd_3_4_287 ?_
    have g41 := zz_G.r G_S0 1076 11 (-2147483648) 2147483647 rfl rfl
    refine zz_geti (z := S0 1076 11) zd_3_4_288 zf_Compiler_91 zT_1076 rfl (zz_ltn hn rfl) (zz_rc F_S rfl rfl (fun h => h) rfl) ?_
    refine zz_aload_n (x := 1076) rfl zd_3_4_291 ?_
    have g42 := zz_G.r G_S0 1076 8 (-2147483648) 2147483647 rfl rfl
    refine zz_geti (z := S0 1076 8) zd_3_4_292 zf_Compiler_82 zT_1076 rfl (zz_ltn hn rfl) (zz_rc F_S rfl rfl (fun h => h) rfl) ?_
    refine zz_callSJ [zi 7, zi (S0 1076 11), zi (S0 1076 8)] zd_3_4_295 zk_Compiler_128 rfl rfl ⟨Nat.le_of_ble_eq_true rfl, Nat.le_of_ble_eq_true rfl⟩ ⟨rfl, rfl⟩ (Nat.zero_le _) (Nat.zero_le _) (zc_shaped_12_6 7 (S0 1076 11) (S0 1076 8) S n hn G_S (by omega) (by omega) (by omega)) (fun v44 S43 hP => ?_)
    obtain ⟨rfl, o45⟩ := hP
    refine zz_bipush (by decide) zd_3_4_298 ?_
    refine zz_iload (x := v39) rfl zd_3_4_300 ?_
    refine zz_callSJ [zi 8, zi v39] zd_3_4_302 zk_Compiler_132 rfl rfl ⟨Nat.le_of_ble_eq_true rfl, Nat.le_of_ble_eq_true rfl⟩ ⟨rfl, rfl⟩ (Nat.zero_le _) (Nat.zero_le _) (zc_bits_12_4 8 v39 S n hn G_S (by omega) (by omega)) (fun v47 S46 hP => ?_)
    obtain ⟨rfl, o48⟩ := hP
    refine zz_lor zd_3_4_305 (fun v49 hv49 ev49 => ?_)
    refine zz_bipush (by decide) zd_3_4_306 ?_
    refine zz_iload (x := v39) rfl zd_3_4_308 ?_
    refine zz_callSJ [zi 9, zi v39] zd_3_4_310 zk_Compiler_132 rfl rfl ⟨Nat.le_of_ble_eq_true rfl, Nat.le_of_ble_eq_true rfl⟩ ⟨rfl, rfl⟩ (Nat.zero_le _) (Nat.zero_le _) (zc_bits_12_4 9 v39 S n hn G_S (by omega) (by omega)) (fun v51 S50 hP => ?_)
    obtain ⟨rfl, o52⟩ := hP
    refine zz_lor zd_3_4_313 (fun v53 hv53 ev53 => ?_)
    refine zz_bipush (by decide) zd_3_4_314 ?_
    refine zz_aload_n (x := 1076) rfl zd_3_4_316 ?_
    have g54 := zz_G.r G_S0 1076 3 (-1) 23 rfl rfl
    refine zz_getr (kd := 4) (z := S0 1076 3) zd_3_4_317 zf_Compiler_51 zT_1076 rfl (zz_ltn hn rfl) (zz_rc F_S rfl rfl (fun h => h) rfl) (by omega) (zz_rf 6 (S0 1076 3)) rfl ?_
    refine zz_callVI [] zd_3_4_320 zk_Compiler_136 (zT_k6 (by omega)) (zN_k6 hn (by omega)) rfl rfl ⟨Nat.le_of_ble_eq_true rfl, Nat.le_of_ble_eq_true rfl⟩ ⟨rfl, rfl⟩ (Nat.zero_le _) (Nat.zero_le _) (zc_narrowing_4_6 (S0 1076 3) S n hn G_S (by omega)) (fun v56 S55 hP => ?_)
    obtain ⟨rfl, o57⟩ := hP
    refine zz_callSJ [zi 11, zi v56] zd_3_4_323 zk_Compiler_132 rfl rfl ⟨Nat.le_of_ble_eq_true rfl, Nat.le_of_ble_eq_true rfl⟩ ⟨rfl, rfl⟩ (Nat.zero_le _) (Nat.zero_le _) (zc_bits_12_4 11 v56 S n hn G_S (by omega) (by omega)) (fun v59 S58 hP => ?_)
    obtain ⟨rfl, o60⟩ := hP
    refine zz_lor zd_3_4_326 (fun v61 hv61 ev61 => ?_)
    refine zz_iconst zd_3_4_327 ?_
    refine zz_callSJ [zi 3] zd_3_4_328 zk_Compiler_139 rfl rfl ⟨Nat.le_of_ble_eq_true rfl, Nat.le_of_ble_eq_true rfl⟩ ⟨rfl, rfl⟩ (Nat.zero_le _) (Nat.zero_le _) (zc_flag_12_5 3 S n hn G_S (by omega)) (fun v63 S62 hP => ?_)
    obtain ⟨rfl, o64⟩ := hP
    refine zz_lor zd_3_4_331 (fun v65 hv65 ev65 => ?_)
    refine zz_iconst zd_3_4_332 ?_
    refine zz_callSJ [zi 4] zd_3_4_333 zk_Compiler_139 rfl rfl ⟨Nat.le_of_ble_eq_true rfl, Nat.le_of_ble_eq_true rfl⟩ ⟨rfl, rfl⟩ (Nat.zero_le _) (Nat.zero_le _) (zc_flag_12_5 4 S n hn G_S (by omega)) (fun v67 S66 hP => ?_)
    obtain ⟨rfl, o68⟩ := hP
    refine zz_lor zd_3_4_336 (fun v69 hv69 ev69 => ?_)
    refine zz_lstore [some (.ref 1076), some (zi x1), none, some (zi x3), some (zi x4), some (zi x5), some (zi (S0 1076 12)), some (zi v39), some (zl v69), none] zd_3_4_337 (by decide) rfl ?_
    refine zz_aload_n (x := 1076) rfl zd_3_4_339 ?_
    refine zz_aload_n (x := 1076) rfl zd_3_4_340 ?_
    have g70 := zz_G.r G_S 1076 6 (-2147483648) 2147483647 rfl rfl
    refine zz_geti (z := S 1076 6) zd_3_4_341 zf_Compiler_70 zT_1076 rfl (zz_ltn hn rfl) rfl ?_
    refine zz_iconst zd_3_4_344 ?_
    refine zz_icmp_le (by omega) (by omega) zd_3_4_345 (fun c71 => ?_) (fun c71 => ?_)
    · refine zz_lload (x := v69) rfl zd_3_4_358 ?_
      have g72 := zz_G.r G_S 1076 1 0 1000000 rfl rfl
      refine zz_callVV [zl v69] zd_3_4_360 zk_Compiler_143 zT_1076 (zz_ltn hn rfl) rfl rfl ⟨Nat.le_of_ble_eq_true rfl, Nat.le_of_ble_eq_true rfl⟩ ⟨rfl, rfl⟩ (Nat.zero_le _) (Nat.zero_le _) (zc_emit_3_15 v69 S n hn G_S (by omega) (by omega)) (fun S73 hP => ?_)
      obtain ⟨G_S73, fS73, o75⟩ := hP
      have g76 := zz_G.r G_S 1076 0 0 1 rfl rfl
      have F_S73 := zz_fr.trans F_S fS73 rfl (fun a i h => Or.inr (Or.inl (h ▸ zM_k4 (z := (S 1076 0)) (by omega) rfl)))
      have b77 := zz_rf4 (z := (S 1076 0)) (by omega)
      refine zz_aload_n (x := 1076) rfl zd_3_4_363 ?_
      refine zz_bipush (by decide) zd_3_4_364 ?_
      refine zz_aload_n (x := 1076) rfl zd_3_4_366 ?_
      refine zz_geti (z := S0 1076 11) zd_3_4_367 zf_Compiler_91 zT_1076 rfl (zz_ltn hn rfl) (zz_rc fS73 rfl rfl (by first | decide | omega) (zz_rc F_S rfl rfl (fun h => h) rfl)) ?_
      refine zz_aload_n (x := 1076) rfl zd_3_4_370 ?_
      refine zz_geti (z := S0 1076 8) zd_3_4_371 zf_Compiler_82 zT_1076 rfl (zz_ltn hn rfl) (zz_rc fS73 rfl rfl (by first | decide | omega) (zz_rc F_S rfl rfl (fun h => h) rfl)) ?_
      refine zz_callSJ [zi 8, zi (S0 1076 11), zi (S0 1076 8)] zd_3_4_374 zk_Compiler_128 rfl rfl ⟨Nat.le_of_ble_eq_true rfl, Nat.le_of_ble_eq_true rfl⟩ ⟨rfl, rfl⟩ (Nat.zero_le _) (Nat.zero_le _) (zc_shaped_12_6 8 (S0 1076 11) (S0 1076 8) S73 n hn G_S73 (by omega) (by omega) (by omega)) (fun v79 S78 hP => ?_)
      obtain ⟨rfl, o80⟩ := hP
      refine zz_bipush (by decide) zd_3_4_377 ?_
      refine zz_iload (x := v39) rfl zd_3_4_379 ?_
      refine zz_callSJ [zi 8, zi v39] zd_3_4_381 zk_Compiler_132 rfl rfl ⟨Nat.le_of_ble_eq_true rfl, Nat.le_of_ble_eq_true rfl⟩ ⟨rfl, rfl⟩ (Nat.zero_le _) (Nat.zero_le _) (zc_bits_12_4 8 v39 S73 n hn G_S73 (by omega) (by omega)) (fun v82 S81 hP => ?_)
      obtain ⟨rfl, o83⟩ := hP
      refine zz_lor zd_3_4_384 (fun v84 hv84 ev84 => ?_)
      refine zz_iconst zd_3_4_385 ?_
      refine zz_aload_n (x := 1076) rfl zd_3_4_386 ?_
      refine zz_getr (kd := 4) (z := S0 1076 3) zd_3_4_387 zf_Compiler_51 zT_1076 rfl (zz_ltn hn rfl) (zz_rc fS73 rfl rfl (by first | decide | omega) (zz_rc F_S rfl rfl (fun h => h) rfl)) (by omega) (zz_rf 6 (S0 1076 3)) rfl ?_
      refine zz_aload_n (x := 1076) rfl zd_3_4_390 ?_
      have g85 := zz_G.r G_S0 1076 9 (-2147483648) 2147483647 rfl rfl
      refine zz_geti (z := S0 1076 9) zd_3_4_391 zf_Compiler_85 zT_1076 rfl (zz_ltn hn rfl) (zz_rc fS73 rfl rfl (by first | decide | omega) (zz_rc F_S rfl rfl (fun h => h) rfl)) ?_
      refine zz_aload_n (x := 1076) rfl zd_3_4_394 ?_
      have g86 := zz_G.r G_S0 1076 10 (-2147483648) 2147483647 rfl rfl
      refine zz_geti (z := S0 1076 10) zd_3_4_395 zf_Compiler_88 zT_1076 rfl (zz_ltn hn rfl) (zz_rc fS73 rfl rfl (by first | decide | omega) (zz_rc F_S rfl rfl (fun h => h) rfl)) ?_
      refine zz_aload_n (x := 1076) rfl zd_3_4_398 ?_
      have g87 := zz_G.r G_S0 1076 7 (-2147483648) 2147483647 rfl rfl
      refine zz_geti (z := S0 1076 7) zd_3_4_399 zf_Compiler_76 zT_1076 rfl (zz_ltn hn rfl) (zz_rc fS73 rfl rfl (by first | decide | omega) (zz_rc F_S rfl rfl (fun h => h) rfl)) ?_
      refine zz_callVI [zi (S0 1076 9), zi (S0 1076 10), zi (S0 1076 7)] zd_3_4_402 zk_Compiler_147 (zT_k6 (by omega)) (zN_k6 hn (by omega)) rfl rfl ⟨Nat.le_of_ble_eq_true rfl, Nat.le_of_ble_eq_true rfl⟩ ⟨rfl, rfl⟩ (Nat.zero_le _) (Nat.zero_le _) (zc_cellAt_4_15 (S0 1076 3) (S0 1076 9) (S0 1076 10) (S0 1076 7) S73 n hn G_S73 (by omega) (by omega) (by omega) (by omega)) (fun v89 S88 hP => ?_)
      obtain ⟨rfl, o90⟩ := hP
      refine zz_callSJ [zi 5, zi v89] zd_3_4_405 zk_Compiler_132 rfl rfl ⟨Nat.le_of_ble_eq_true rfl, Nat.le_of_ble_eq_true rfl⟩ ⟨rfl, rfl⟩ (Nat.zero_le _) (Nat.zero_le _) (zc_bits_12_4 5 v89 S73 n hn G_S73 (by omega) (by omega)) (fun v92 S91 hP => ?_)
      obtain ⟨rfl, o93⟩ := hP
      refine zz_lor zd_3_4_408 (fun v94 hv94 ev94 => ?_)
      refine zz_bipush (by decide) zd_3_4_409 ?_
      refine zz_aload_n (x := 1076) rfl zd_3_4_411 ?_
      refine zz_getr (kd := 4) (z := S0 1076 3) zd_3_4_412 zf_Compiler_51 zT_1076 rfl (zz_ltn hn rfl) (zz_rc fS73 rfl rfl (by first | decide | omega) (zz_rc F_S rfl rfl (fun h => h) rfl)) (by omega) (zz_rf 6 (S0 1076 3)) rfl ?_
      have g95 := zz_G.r G_S0 (zz_rf 6 (S0 1076 3)) 12 (-2147483648) 2147483647 (zR_k6_12 (by omega)) (zB_k6 (by omega))
      refine zz_geti (z := S0 (zz_rf 6 (S0 1076 3)) 12) zd_3_4_415 zf_Compiler_79 (zT_k6 (by omega)) rfl (zN_k6 hn (by omega)) (zz_rc fS73 (zP_k6 (by omega) rfl) (zQ_k6 (by omega) rfl) (by have hz_ := zz_rf6 (z := S0 1076 3) (by omega); omega) (zz_rc F_S (zP_k6 (by omega) rfl) (zQ_k6 (by omega) rfl) (fun h => h) rfl)) ?_
      refine zz_callSJ [zi 10, zi (S0 (zz_rf 6 (S0 1076 3)) 12)] zd_3_4_418 zk_Compiler_132 rfl rfl ⟨Nat.le_of_ble_eq_true rfl, Nat.le_of_ble_eq_true rfl⟩ ⟨rfl, rfl⟩ (Nat.zero_le _) (Nat.zero_le _) (zc_bits_12_4 10 (S0 (zz_rf 6 (S0 1076 3)) 12) S73 n hn G_S73 (by omega) (by omega)) (fun v97 S96 hP => ?_)
      obtain ⟨rfl, o98⟩ := hP
      refine zz_lor zd_3_4_421 (fun v99 hv99 ev99 => ?_)
      refine zz_iconst zd_3_4_422 ?_
      refine zz_callSJ [zi 1] zd_3_4_423 zk_Compiler_139 rfl rfl ⟨Nat.le_of_ble_eq_true rfl, Nat.le_of_ble_eq_true rfl⟩ ⟨rfl, rfl⟩ (Nat.zero_le _) (Nat.zero_le _) (zc_flag_12_5 1 S73 n hn G_S73 (by omega)) (fun v101 S100 hP => ?_)
      obtain ⟨rfl, o102⟩ := hP
      refine zz_lor zd_3_4_426 (fun v103 hv103 ev103 => ?_)
      refine zz_iconst zd_3_4_427 ?_
      refine zz_callSJ [zi 3] zd_3_4_428 zk_Compiler_139 rfl rfl ⟨Nat.le_of_ble_eq_true rfl, Nat.le_of_ble_eq_true rfl⟩ ⟨rfl, rfl⟩ (Nat.zero_le _) (Nat.zero_le _) (zc_flag_12_5 3 S73 n hn G_S73 (by omega)) (fun v105 S104 hP => ?_)
      obtain ⟨rfl, o106⟩ := hP
      refine zz_lor zd_3_4_431 (fun v107 hv107 ev107 => ?_)
      have g108 := zz_G.r G_S73 1076 1 0 1000000 rfl rfl
      refine zz_callVV [zl v107] zd_3_4_432 zk_Compiler_143 zT_1076 (zz_ltn hn rfl) rfl rfl ⟨Nat.le_of_ble_eq_true rfl, Nat.le_of_ble_eq_true rfl⟩ ⟨rfl, rfl⟩ (Nat.zero_le _) (Nat.zero_le _) (zc_emit_3_15 v107 S73 n hn G_S73 (by omega) (by omega)) (fun S109 hP => ?_)
      obtain ⟨G_S109, fS109, o111⟩ := hP
      have g112 := zz_G.r G_S73 1076 0 0 1 rfl rfl
      have F_S109 := zz_fr.trans F_S73 fS109 rfl (fun a i h => Or.inr (Or.inl (h ▸ zM_k4 (z := (S73 1076 0)) (by omega) rfl)))
      have b113 := zz_rf4 (z := (S73 1076 0)) (by omega)
      refine zz_aload_n (x := 1076) rfl zd_3_4_435 ?_
      refine zz_dup rfl zd_3_4_436 ?_
      refine zz_geti (z := S 1076 6) zd_3_4_437 zf_Compiler_70 zT_1076 rfl (zz_ltn hn rfl) (zz_rc fS109 rfl rfl (by first | decide | omega) (zz_rc fS73 rfl rfl (by first | decide | omega) rfl)) ?_
      refine zz_iconst zd_3_4_440 ?_
      refine zz_iadd zd_3_4_441 ?_
      refine zz_puti zd_3_4_442 zf_Compiler_70 zT_1076 rfl (zz_ltn hn rfl) (fun S114 qS114 => ?_)
      have G_S114 := zz_G.put G_S109 qS114 (-2147483648) 2147483647 rfl (by omega)
      have F_S114 := zz_fr.puts F_S109 qS114 rfl
      have g115 := zz_G.r G_S109 1076 1 0 1000000 rfl rfl
      have e116 : S114 1076 1 = S109 1076 1 := (zz_ro qS114 (fun h => absurd h.2 (by decide)) rfl)
      exact zz_vret zd_3_4_445 rfl (Nat.zero_le _) (Nat.zero_le _) ⟨_, rfl, G_S114, F_S114, by omega⟩
    · refine zz_lload (x := v69) rfl zd_3_4_348 ?_
      refine zz_iconst zd_3_4_350 ?_
      refine zz_callSJ [zi 2] zd_3_4_351 zk_Compiler_139 rfl rfl ⟨Nat.le_of_ble_eq_true rfl, Nat.le_of_ble_eq_true rfl⟩ ⟨rfl, rfl⟩ (Nat.zero_le _) (Nat.zero_le _) (zc_flag_12_5 2 S n hn G_S (by omega)) (fun v118 S117 hP => ?_)
      obtain ⟨rfl, o119⟩ := hP
      refine zz_lor zd_3_4_354 (fun v120 hv120 ev120 => ?_)
      refine zz_goto zd_3_4_355 ?_
      have g121 := zz_G.r G_S 1076 1 0 1000000 rfl rfl
      refine zz_callVV [zl v120] zd_3_4_360 zk_Compiler_143 zT_1076 (zz_ltn hn rfl) rfl rfl ⟨Nat.le_of_ble_eq_true rfl, Nat.le_of_ble_eq_true rfl⟩ ⟨rfl, rfl⟩ (Nat.zero_le _) (Nat.zero_le _) (zc_emit_3_15 v120 S n hn G_S (by omega) (by omega)) (fun S122 hP => ?_)
      obtain ⟨G_S122, fS122, o124⟩ := hP
      have g125 := zz_G.r G_S 1076 0 0 1 rfl rfl
      have F_S122 := zz_fr.trans F_S fS122 rfl (fun a i h => Or.inr (Or.inl (h ▸ zM_k4 (z := (S 1076 0)) (by omega) rfl)))
      have b126 := zz_rf4 (z := (S 1076 0)) (by omega)
      refine zz_aload_n (x := 1076) rfl zd_3_4_363 ?_
      refine zz_bipush (by decide) zd_3_4_364 ?_
      refine zz_aload_n (x := 1076) rfl zd_3_4_366 ?_
      refine zz_geti (z := S0 1076 11) zd_3_4_367 zf_Compiler_91 zT_1076 rfl (zz_ltn hn rfl) (zz_rc fS122 rfl rfl (by first | decide | omega) (zz_rc F_S rfl rfl (fun h => h) rfl)) ?_
      refine zz_aload_n (x := 1076) rfl zd_3_4_370 ?_
      refine zz_geti (z := S0 1076 8) zd_3_4_371 zf_Compiler_82 zT_1076 rfl (zz_ltn hn rfl) (zz_rc fS122 rfl rfl (by first | decide | omega) (zz_rc F_S rfl rfl (fun h => h) rfl)) ?_
      refine zz_callSJ [zi 8, zi (S0 1076 11), zi (S0 1076 8)] zd_3_4_374 zk_Compiler_128 rfl rfl ⟨Nat.le_of_ble_eq_true rfl, Nat.le_of_ble_eq_true rfl⟩ ⟨rfl, rfl⟩ (Nat.zero_le _) (Nat.zero_le _) (zc_shaped_12_6 8 (S0 1076 11) (S0 1076 8) S122 n hn G_S122 (by omega) (by omega) (by omega)) (fun v128 S127 hP => ?_)
      obtain ⟨rfl, o129⟩ := hP
      refine zz_bipush (by decide) zd_3_4_377 ?_
      refine zz_iload (x := v39) rfl zd_3_4_379 ?_
      refine zz_callSJ [zi 8, zi v39] zd_3_4_381 zk_Compiler_132 rfl rfl ⟨Nat.le_of_ble_eq_true rfl, Nat.le_of_ble_eq_true rfl⟩ ⟨rfl, rfl⟩ (Nat.zero_le _) (Nat.zero_le _) (zc_bits_12_4 8 v39 S122 n hn G_S122 (by omega) (by omega)) (fun v131 S130 hP => ?_)
      obtain ⟨rfl, o132⟩ := hP
      refine zz_lor zd_3_4_384 (fun v133 hv133 ev133 => ?_)
      refine zz_iconst zd_3_4_385 ?_
      refine zz_aload_n (x := 1076) rfl zd_3_4_386 ?_
      refine zz_getr (kd := 4) (z := S0 1076 3) zd_3_4_387 zf_Compiler_51 zT_1076 rfl (zz_ltn hn rfl) (zz_rc fS122 rfl rfl (by first | decide | omega) (zz_rc F_S rfl rfl (fun h => h) rfl)) (by omega) (zz_rf 6 (S0 1076 3)) rfl ?_
      refine zz_aload_n (x := 1076) rfl zd_3_4_390 ?_
      have g134 := zz_G.r G_S0 1076 9 (-2147483648) 2147483647 rfl rfl
      refine zz_geti (z := S0 1076 9) zd_3_4_391 zf_Compiler_85 zT_1076 rfl (zz_ltn hn rfl) (zz_rc fS122 rfl rfl (by first | decide | omega) (zz_rc F_S rfl rfl (fun h => h) rfl)) ?_
      refine zz_aload_n (x := 1076) rfl zd_3_4_394 ?_
      have g135 := zz_G.r G_S0 1076 10 (-2147483648) 2147483647 rfl rfl
      refine zz_geti (z := S0 1076 10) zd_3_4_395 zf_Compiler_88 zT_1076 rfl (zz_ltn hn rfl) (zz_rc fS122 rfl rfl (by first | decide | omega) (zz_rc F_S rfl rfl (fun h => h) rfl)) ?_
      refine zz_aload_n (x := 1076) rfl zd_3_4_398 ?_
      have g136 := zz_G.r G_S0 1076 7 (-2147483648) 2147483647 rfl rfl
      refine zz_geti (z := S0 1076 7) zd_3_4_399 zf_Compiler_76 zT_1076 rfl (zz_ltn hn rfl) (zz_rc fS122 rfl rfl (by first | decide | omega) (zz_rc F_S rfl rfl (fun h => h) rfl)) ?_
      refine zz_callVI [zi (S0 1076 9), zi (S0 1076 10), zi (S0 1076 7)] zd_3_4_402 zk_Compiler_147 (zT_k6 (by omega)) (zN_k6 hn (by omega)) rfl rfl ⟨Nat.le_of_ble_eq_true rfl, Nat.le_of_ble_eq_true rfl⟩ ⟨rfl, rfl⟩ (Nat.zero_le _) (Nat.zero_le _) (zc_cellAt_4_15 (S0 1076 3) (S0 1076 9) (S0 1076 10) (S0 1076 7) S122 n hn G_S122 (by omega) (by omega) (by omega) (by omega)) (fun v138 S137 hP => ?_)
      obtain ⟨rfl, o139⟩ := hP
      refine zz_callSJ [zi 5, zi v138] zd_3_4_405 zk_Compiler_132 rfl rfl ⟨Nat.le_of_ble_eq_true rfl, Nat.le_of_ble_eq_true rfl⟩ ⟨rfl, rfl⟩ (Nat.zero_le _) (Nat.zero_le _) (zc_bits_12_4 5 v138 S122 n hn G_S122 (by omega) (by omega)) (fun v141 S140 hP => ?_)
      obtain ⟨rfl, o142⟩ := hP
      refine zz_lor zd_3_4_408 (fun v143 hv143 ev143 => ?_)
      refine zz_bipush (by decide) zd_3_4_409 ?_
      refine zz_aload_n (x := 1076) rfl zd_3_4_411 ?_
      refine zz_getr (kd := 4) (z := S0 1076 3) zd_3_4_412 zf_Compiler_51 zT_1076 rfl (zz_ltn hn rfl) (zz_rc fS122 rfl rfl (by first | decide | omega) (zz_rc F_S rfl rfl (fun h => h) rfl)) (by omega) (zz_rf 6 (S0 1076 3)) rfl ?_
      have g144 := zz_G.r G_S0 (zz_rf 6 (S0 1076 3)) 12 (-2147483648) 2147483647 (zR_k6_12 (by omega)) (zB_k6 (by omega))
      refine zz_geti (z := S0 (zz_rf 6 (S0 1076 3)) 12) zd_3_4_415 zf_Compiler_79 (zT_k6 (by omega)) rfl (zN_k6 hn (by omega)) (zz_rc fS122 (zP_k6 (by omega) rfl) (zQ_k6 (by omega) rfl) (by have hz_ := zz_rf6 (z := S0 1076 3) (by omega); omega) (zz_rc F_S (zP_k6 (by omega) rfl) (zQ_k6 (by omega) rfl) (fun h => h) rfl)) ?_
      refine zz_callSJ [zi 10, zi (S0 (zz_rf 6 (S0 1076 3)) 12)] zd_3_4_418 zk_Compiler_132 rfl rfl ⟨Nat.le_of_ble_eq_true rfl, Nat.le_of_ble_eq_true rfl⟩ ⟨rfl, rfl⟩ (Nat.zero_le _) (Nat.zero_le _) (zc_bits_12_4 10 (S0 (zz_rf 6 (S0 1076 3)) 12) S122 n hn G_S122 (by omega) (by omega)) (fun v146 S145 hP => ?_)
      obtain ⟨rfl, o147⟩ := hP
      refine zz_lor zd_3_4_421 (fun v148 hv148 ev148 => ?_)
      refine zz_iconst zd_3_4_422 ?_
      refine zz_callSJ [zi 1] zd_3_4_423 zk_Compiler_139 rfl rfl ⟨Nat.le_of_ble_eq_true rfl, Nat.le_of_ble_eq_true rfl⟩ ⟨rfl, rfl⟩ (Nat.zero_le _) (Nat.zero_le _) (zc_flag_12_5 1 S122 n hn G_S122 (by omega)) (fun v150 S149 hP => ?_)
      obtain ⟨rfl, o151⟩ := hP
      refine zz_lor zd_3_4_426 (fun v152 hv152 ev152 => ?_)
      refine zz_iconst zd_3_4_427 ?_
      refine zz_callSJ [zi 3] zd_3_4_428 zk_Compiler_139 rfl rfl ⟨Nat.le_of_ble_eq_true rfl, Nat.le_of_ble_eq_true rfl⟩ ⟨rfl, rfl⟩ (Nat.zero_le _) (Nat.zero_le _) (zc_flag_12_5 3 S122 n hn G_S122 (by omega)) (fun v154 S153 hP => ?_)
      obtain ⟨rfl, o155⟩ := hP
      refine zz_lor zd_3_4_431 (fun v156 hv156 ev156 => ?_)
      have g157 := zz_G.r G_S122 1076 1 0 1000000 rfl rfl
      refine zz_callVV [zl v156] zd_3_4_432 zk_Compiler_143 zT_1076 (zz_ltn hn rfl) rfl rfl ⟨Nat.le_of_ble_eq_true rfl, Nat.le_of_ble_eq_true rfl⟩ ⟨rfl, rfl⟩ (Nat.zero_le _) (Nat.zero_le _) (zc_emit_3_15 v156 S122 n hn G_S122 (by omega) (by omega)) (fun S158 hP => ?_)
      obtain ⟨G_S158, fS158, o160⟩ := hP
      have g161 := zz_G.r G_S122 1076 0 0 1 rfl rfl
      have F_S158 := zz_fr.trans F_S122 fS158 rfl (fun a i h => Or.inr (Or.inl (h ▸ zM_k4 (z := (S122 1076 0)) (by omega) rfl)))
      have b162 := zz_rf4 (z := (S122 1076 0)) (by omega)
      refine zz_aload_n (x := 1076) rfl zd_3_4_435 ?_
      refine zz_dup rfl zd_3_4_436 ?_
      refine zz_geti (z := S 1076 6) zd_3_4_437 zf_Compiler_70 zT_1076 rfl (zz_ltn hn rfl) (zz_rc fS158 rfl rfl (by first | decide | omega) (zz_rc fS122 rfl rfl (by first | decide | omega) rfl)) ?_
      refine zz_iconst zd_3_4_440 ?_
      refine zz_iadd zd_3_4_441 ?_
      refine zz_nrm (fun v163 hv163 ev163 => ?_)
      refine zz_puti zd_3_4_442 zf_Compiler_70 zT_1076 rfl (zz_ltn hn rfl) (fun S164 qS164 => ?_)
      have G_S164 := zz_G.put G_S158 qS164 (-2147483648) 2147483647 rfl (by omega)
      have F_S164 := zz_fr.puts F_S158 qS164 rfl
      have g165 := zz_G.r G_S158 1076 1 0 1000000 rfl rfl
      have e166 : S164 1076 1 = S158 1076 1 := (zz_ro qS164 (fun h => absurd h.2 (by decide)) rfl)
      exact zz_vret zd_3_4_445 rfl (Nat.zero_le _) (Nat.zero_le _) ⟨_, rfl, G_S164, F_S164, by omega⟩
  · refine zz_aload_n (x := 1076) rfl zd_3_4_103 ?_
    refine zz_iconst zd_3_4_104 ?_
    refine zz_puti zd_3_4_105 zf_Compiler_109 zT_1076 rfl (zz_ltn hn rfl) (fun S167 qS167 => ?_)
    have G_S167 := zz_G.put G_S qS167 (-2147483648) 2147483647 rfl (by omega)
    have F_S167 := zz_fr.puts F_S qS167 rfl
    have e168 : S167 1076 13 = S 1076 13 := (zz_ro qS167 (fun h => absurd h.2 (by decide)) rfl)
    have e169 : S167 1076 14 = 0 := (zz_rs qS167)
    have g170 := zz_G.r G_S 1076 1 0 1000000 rfl rfl
    have e171 : S167 1076 1 = S 1076 1 := (zz_ro qS167 (fun h => absurd h.2 (by decide)) rfl)
    exact k108 x1 x3 x4 x5 S167 G_S167 F_S167 (by omega) (by omega) (by omega) (by omega) (by omega) (by omega) (by omega) (by omega) (by omega)
theorem zb_makeTile_3_4_108 {g : mm_G} {l : Launch}  (S0 : zz_S) (n : Nat) (hn : zz_end ≤ n) (G_S0 : zz_G S0) (hq : S0 1076 1 ≤ 600) (hl : 0 ≤ S0 1076 3 ∧ 0 ≤ S0 1076 4 ∧ 0 ≤ S0 1076 5) (hk : zz_ly S0 (S0 1076 3) ∧ S0 (zz_rf 6 (S0 1076 4)) 12 ≤ 63) (x1 : Int) (x3 : Int) (x4 : Int) (x5 : Int) (S : zz_S) (G_S : zz_G S) (F_S : zz_fr [(1076, 1), (1076, 6), (1076, 12), (1076, 13), (1076, 14), (1076, 15), (1076, 16)] [1029, 1030] (fun _ _ => False) S0 S) (i108_0 : 0 ≤ x1 ∧ x1 ≤ 1) (i108_1 : (-2147483648) ≤ x3 ∧ x3 ≤ 3) (i108_2 : (-2147483648) ≤ x4 ∧ x4 ≤ 3) (i108_3 : (-2147483648) ≤ x5 ∧ x5 ≤ 63) (i108_4 : 0 ≤ S 1076 13 ∧ S 1076 13 ≤ 2) (i108_5 : 0 ≤ S 1076 14 ∧ S 1076 14 ≤ 3) (i108_6 : S 1076 13 < x3) (i108_7 : S0 1076 1 ≤ S 1076 1 ∧ S 1076 1 ≤ S0 1076 1 + 840 * S 1076 13 + 280 * S 1076 14) (R : Nat) (hR : (51539607552 + (3 - S 1076 13).toNat) * 1208925819614629174706176 + (34359738368 + (3 - S 1076 14).toNat) * 1099511627776 + 1099511627775 = R) (k95 : ∀ (x1 : Int) (x3 : Int) (x4 : Int) (x5 : Int) (S : zz_S), zz_G S → zz_fr [(1076, 1), (1076, 6), (1076, 12), (1076, 13), (1076, 14), (1076, 15), (1076, 16)] [1029, 1030] (fun _ _ => False) S0 S → (0 ≤ x1 ∧ x1 ≤ 1) → ((-2147483648) ≤ x3 ∧ x3 ≤ 3) → ((-2147483648) ≤ x4 ∧ x4 ≤ 3) → ((-2147483648) ≤ x5 ∧ x5 ≤ 63) → (0 ≤ S 1076 13 ∧ S 1076 13 ≤ 3) → (S0 1076 1 ≤ S 1076 1 ∧ S 1076 1 ≤ S0 1076 1 + 840 * S 1076 13) → (51539607552 + (3 - S 1076 13).toNat) * 1208925819614629174706176 + 1208925819614629174706175 < R → zz_E g l zy_makeTile_3_4 zr_makeTile_3_4 (zz_QV n (zp_makeTile_3_4  S0)) S n 95 [some (.ref 1076), some (zi x1), none, some (zi x3), some (zi x4), some (zi x5), some (zi (S0 1076 12))] [] 0 0) (k122 : ∀ (x1 : Int) (x3 : Int) (x4 : Int) (x5 : Int) (S : zz_S), zz_G S → zz_fr [(1076, 1), (1076, 6), (1076, 12), (1076, 13), (1076, 14), (1076, 15), (1076, 16)] [1029, 1030] (fun _ _ => False) S0 S → (0 ≤ x1 ∧ x1 ≤ 1) → ((-2147483648) ≤ x3 ∧ x3 ≤ 3) → ((-2147483648) ≤ x4 ∧ x4 ≤ 3) → ((-2147483648) ≤ x5 ∧ x5 ≤ 63) → (0 ≤ S 1076 13 ∧ S 1076 13 ≤ 2) → (0 ≤ S 1076 14 ∧ S 1076 14 ≤ 2) → (S 1076 13 < x3) → (S 1076 14 < x4) → (0 ≤ S 1076 15 ∧ S 1076 15 ≤ 70) → (S0 1076 1 ≤ S 1076 1 ∧ S 1076 1 ≤ S0 1076 1 + 840 * S 1076 13 + 280 * S 1076 14 + 4 * S 1076 15) → (51539607552 + (3 - S 1076 13).toNat) * 1208925819614629174706176 + (34359738368 + (3 - S 1076 14).toNat) * 1099511627776 + (17179869184 + (80 - S 1076 15).toNat) < R → zz_E g l zy_makeTile_3_4 zr_makeTile_3_4 (zz_QV n (zp_makeTile_3_4  S0)) S n 122 [some (.ref 1076), some (zi x1), none, some (zi x3), some (zi x4), some (zi x5), some (zi (S0 1076 12))] [] 0 0) : zz_E g l zy_makeTile_3_4 zr_makeTile_3_4 (zz_QV n (zp_makeTile_3_4  S0)) S n 108 [some (.ref 1076), some (zi x1), none, some (zi x3), some (zi x4), some (zi x5), some (zi (S0 1076 12))] [] 0 0 := by
  refine zz_aload_n (x := 1076) rfl zd_3_4_108 ?_
  have g172 := zz_G.r G_S 1076 14 (-2147483648) 2147483647 rfl rfl
  refine zz_geti (z := S 1076 14) zd_3_4_109 zf_Compiler_109 zT_1076 rfl (zz_ltn hn rfl) rfl ?_
  refine zz_iload (x := x4) rfl zd_3_4_112 ?_
  refine zz_icmp_ge (by omega) (by omega) zd_3_4_114 (fun c173 => ?_) (fun c173 => ?_)
  · refine zz_aload_n (x := 1076) rfl zd_3_4_266 ?_
    refine zz_dup rfl zd_3_4_267 ?_
    have g174 := zz_G.r G_S 1076 13 (-2147483648) 2147483647 rfl rfl
    refine zz_geti (z := S 1076 13) zd_3_4_268 zf_Compiler_106 zT_1076 rfl (zz_ltn hn rfl) rfl ?_
    refine zz_iconst zd_3_4_271 ?_
    refine zz_iadd zd_3_4_272 ?_
    refine zz_nrm (fun v175 hv175 ev175 => ?_)
    refine zz_puti zd_3_4_273 zf_Compiler_106 zT_1076 rfl (zz_ltn hn rfl) (fun S176 qS176 => ?_)
    have G_S176 := zz_G.put G_S qS176 (-2147483648) 2147483647 rfl (by omega)
    have F_S176 := zz_fr.puts F_S qS176 rfl
    refine zz_goto zd_3_4_276 ?_
    have e177 : S176 1076 13 = v175 := (zz_rs qS176)
    have g178 := zz_G.r G_S 1076 1 0 1000000 rfl rfl
    have e179 : S176 1076 1 = S 1076 1 := (zz_ro qS176 (fun h => absurd h.2 (by decide)) rfl)
    exact k95 x1 x3 x4 x5 S176 G_S176 F_S176 (by omega) (by omega) (by omega) (by omega) (by omega) (by omega) (by omega)
  · refine zz_aload_n (x := 1076) rfl zd_3_4_117 ?_
    refine zz_iconst zd_3_4_118 ?_
    refine zz_puti zd_3_4_119 zf_Compiler_112 zT_1076 rfl (zz_ltn hn rfl) (fun S180 qS180 => ?_)
    have G_S180 := zz_G.put G_S qS180 (-2147483648) 2147483647 rfl (by omega)
    have F_S180 := zz_fr.puts F_S qS180 rfl
    have g181 := zz_G.r G_S 1076 13 (-2147483648) 2147483647 rfl rfl
    have e182 : S180 1076 13 = S 1076 13 := (zz_ro qS180 (fun h => absurd h.2 (by decide)) rfl)
    have e183 : S180 1076 14 = S 1076 14 := (zz_ro qS180 (fun h => absurd h.2 (by decide)) rfl)
    have e184 : S180 1076 15 = 0 := (zz_rs qS180)
    have g185 := zz_G.r G_S 1076 1 0 1000000 rfl rfl
    have e186 : S180 1076 1 = S 1076 1 := (zz_ro qS180 (fun h => absurd h.2 (by decide)) rfl)
    exact k122 x1 x3 x4 x5 S180 G_S180 F_S180 (by omega) (by omega) (by omega) (by omega) (by omega) (by omega) (by omega) (by omega) (by omega) (by omega) (by omega)
theorem zb_makeTile_3_4_122 {g : mm_G} {l : Launch}  (S0 : zz_S) (n : Nat) (hn : zz_end ≤ n) (G_S0 : zz_G S0) (hq : S0 1076 1 ≤ 600) (hl : 0 ≤ S0 1076 3 ∧ 0 ≤ S0 1076 4 ∧ 0 ≤ S0 1076 5) (hk : zz_ly S0 (S0 1076 3) ∧ S0 (zz_rf 6 (S0 1076 4)) 12 ≤ 63) (x1 : Int) (x3 : Int) (x4 : Int) (x5 : Int) (S : zz_S) (G_S : zz_G S) (F_S : zz_fr [(1076, 1), (1076, 6), (1076, 12), (1076, 13), (1076, 14), (1076, 15), (1076, 16)] [1029, 1030] (fun _ _ => False) S0 S) (i122_0 : 0 ≤ x1 ∧ x1 ≤ 1) (i122_1 : (-2147483648) ≤ x3 ∧ x3 ≤ 3) (i122_2 : (-2147483648) ≤ x4 ∧ x4 ≤ 3) (i122_3 : (-2147483648) ≤ x5 ∧ x5 ≤ 63) (i122_4 : 0 ≤ S 1076 13 ∧ S 1076 13 ≤ 2) (i122_5 : 0 ≤ S 1076 14 ∧ S 1076 14 ≤ 2) (i122_6 : S 1076 13 < x3) (i122_7 : S 1076 14 < x4) (i122_8 : 0 ≤ S 1076 15 ∧ S 1076 15 ≤ 70) (i122_9 : S0 1076 1 ≤ S 1076 1 ∧ S 1076 1 ≤ S0 1076 1 + 840 * S 1076 13 + 280 * S 1076 14 + 4 * S 1076 15) (R : Nat) (hR : (51539607552 + (3 - S 1076 13).toNat) * 1208925819614629174706176 + (34359738368 + (3 - S 1076 14).toNat) * 1099511627776 + (17179869184 + (80 - S 1076 15).toNat) = R) (k108 : ∀ (x1 : Int) (x3 : Int) (x4 : Int) (x5 : Int) (S : zz_S), zz_G S → zz_fr [(1076, 1), (1076, 6), (1076, 12), (1076, 13), (1076, 14), (1076, 15), (1076, 16)] [1029, 1030] (fun _ _ => False) S0 S → (0 ≤ x1 ∧ x1 ≤ 1) → ((-2147483648) ≤ x3 ∧ x3 ≤ 3) → ((-2147483648) ≤ x4 ∧ x4 ≤ 3) → ((-2147483648) ≤ x5 ∧ x5 ≤ 63) → (0 ≤ S 1076 13 ∧ S 1076 13 ≤ 2) → (0 ≤ S 1076 14 ∧ S 1076 14 ≤ 3) → (S 1076 13 < x3) → (S0 1076 1 ≤ S 1076 1 ∧ S 1076 1 ≤ S0 1076 1 + 840 * S 1076 13 + 280 * S 1076 14) → (51539607552 + (3 - S 1076 13).toNat) * 1208925819614629174706176 + (34359738368 + (3 - S 1076 14).toNat) * 1099511627776 + 1099511627775 < R → zz_E g l zy_makeTile_3_4 zr_makeTile_3_4 (zz_QV n (zp_makeTile_3_4  S0)) S n 108 [some (.ref 1076), some (zi x1), none, some (zi x3), some (zi x4), some (zi x5), some (zi (S0 1076 12))] [] 0 0) (k122 : ∀ (x1 : Int) (x3 : Int) (x4 : Int) (x5 : Int) (S : zz_S), zz_G S → zz_fr [(1076, 1), (1076, 6), (1076, 12), (1076, 13), (1076, 14), (1076, 15), (1076, 16)] [1029, 1030] (fun _ _ => False) S0 S → (0 ≤ x1 ∧ x1 ≤ 1) → ((-2147483648) ≤ x3 ∧ x3 ≤ 3) → ((-2147483648) ≤ x4 ∧ x4 ≤ 3) → ((-2147483648) ≤ x5 ∧ x5 ≤ 63) → (0 ≤ S 1076 13 ∧ S 1076 13 ≤ 2) → (0 ≤ S 1076 14 ∧ S 1076 14 ≤ 2) → (S 1076 13 < x3) → (S 1076 14 < x4) → (0 ≤ S 1076 15 ∧ S 1076 15 ≤ 70) → (S0 1076 1 ≤ S 1076 1 ∧ S 1076 1 ≤ S0 1076 1 + 840 * S 1076 13 + 280 * S 1076 14 + 4 * S 1076 15) → (51539607552 + (3 - S 1076 13).toNat) * 1208925819614629174706176 + (34359738368 + (3 - S 1076 14).toNat) * 1099511627776 + (17179869184 + (80 - S 1076 15).toNat) < R → zz_E g l zy_makeTile_3_4 zr_makeTile_3_4 (zz_QV n (zp_makeTile_3_4  S0)) S n 122 [some (.ref 1076), some (zi x1), none, some (zi x3), some (zi x4), some (zi x5), some (zi (S0 1076 12))] [] 0 0) : zz_E g l zy_makeTile_3_4 zr_makeTile_3_4 (zz_QV n (zp_makeTile_3_4  S0)) S n 122 [some (.ref 1076), some (zi x1), none, some (zi x3), some (zi x4), some (zi x5), some (zi (S0 1076 12))] [] 0 0 := by
  have g12_ := zz_G.r G_S0 1076 12 (-2147483648) 2147483647 rfl rfl
  refine zz_aload_n (x := 1076) rfl zd_3_4_122 ?_
  have g187 := zz_G.r G_S 1076 15 (-2147483648) 2147483647 rfl rfl
  refine zz_geti (z := S 1076 15) zd_3_4_123 zf_Compiler_112 zT_1076 rfl (zz_ltn hn rfl) rfl ?_
  refine zz_iload (x := x5) rfl zd_3_4_126 ?_
  refine zz_icmp_ge (by omega) (by omega) zd_3_4_128 (fun c188 => ?_) (fun c188 => ?_)
  · refine zz_aload_n (x := 1076) rfl zd_3_4_253 ?_
    refine zz_dup rfl zd_3_4_254 ?_
    have g189 := zz_G.r G_S 1076 14 (-2147483648) 2147483647 rfl rfl
    refine zz_geti (z := S 1076 14) zd_3_4_255 zf_Compiler_109 zT_1076 rfl (zz_ltn hn rfl) rfl ?_
    refine zz_iconst zd_3_4_258 ?_
    refine zz_iadd zd_3_4_259 ?_
    refine zz_nrm (fun v190 hv190 ev190 => ?_)
    refine zz_puti zd_3_4_260 zf_Compiler_109 zT_1076 rfl (zz_ltn hn rfl) (fun S191 qS191 => ?_)
    have G_S191 := zz_G.put G_S qS191 (-2147483648) 2147483647 rfl (by omega)
    have F_S191 := zz_fr.puts F_S qS191 rfl
    refine zz_goto zd_3_4_263 ?_
    have g192 := zz_G.r G_S 1076 13 (-2147483648) 2147483647 rfl rfl
    have e193 : S191 1076 13 = S 1076 13 := (zz_ro qS191 (fun h => absurd h.2 (by decide)) rfl)
    have e194 : S191 1076 14 = v190 := (zz_rs qS191)
    have g195 := zz_G.r G_S 1076 1 0 1000000 rfl rfl
    have e196 : S191 1076 1 = S 1076 1 := (zz_ro qS191 (fun h => absurd h.2 (by decide)) rfl)
    exact k108 x1 x3 x4 x5 S191 G_S191 F_S191 (by omega) (by omega) (by omega) (by omega) (by omega) (by omega) (by omega) (by omega) (by omega)
  · refine zz_aload_n (x := 1076) rfl zd_3_4_131 ?_
    refine zz_iload_n (x := x1) rfl zd_3_4_132 ?_
    refine zz_if_eq (by omega) zd_3_4_133 (fun c197 => ?_) (fun c197 => ?_)
    · refine zz_aload_n (x := 1076) rfl zd_3_4_158 ?_
      have g198 := zz_G.r G_S0 1076 8 (-2147483648) 2147483647 rfl rfl
      refine zz_geti (z := S0 1076 8) zd_3_4_159 zf_Compiler_82 zT_1076 rfl (zz_ltn hn rfl) (zz_rc F_S rfl rfl (fun h => h) rfl) ?_
      refine zz_puti zd_3_4_162 zf_Compiler_115 zT_1076 rfl (zz_ltn hn rfl) (fun S199 qS199 => ?_)
      have G_S199 := zz_G.put G_S qS199 (-2147483648) 2147483647 rfl (by omega)
      have F_S199 := zz_fr.puts F_S qS199 rfl
      refine zz_aload_n (x := 1076) rfl zd_3_4_165 ?_
      have g200 := zz_G.r G_S 1076 13 (-2147483648) 2147483647 rfl rfl
      refine zz_geti (z := S 1076 13) zd_3_4_166 zf_Compiler_106 zT_1076 rfl (zz_ltn hn rfl) (zz_ro qS199 (fun h => absurd h.2 (by decide)) rfl) ?_
      refine zz_iload_n (x := x3) rfl zd_3_4_169 ?_
      refine zz_iconst zd_3_4_170 ?_
      refine zz_isub zd_3_4_171 ?_
      refine zz_nrm (fun v201 hv201 ev201 => ?_)
      refine zz_icmp_ne (by omega) (by omega) zd_3_4_172 (fun c202 => ?_) (fun c202 => ?_)
      · refine zz_iconst zd_3_4_204 ?_
        refine zz_istore [some (.ref 1076), some (zi x1), none, some (zi x3), some (zi x4), some (zi x5), some (zi (S0 1076 12)), some (zi 0)] zd_3_4_205 (by decide) rfl ?_
        refine zz_aload_n (x := 1076) rfl zd_3_4_207 ?_
        refine zz_aload_n (x := 1076) rfl zd_3_4_208 ?_
        have g203 := zz_G.r G_S 1076 12 (-2147483648) 2147483647 rfl rfl
        refine zz_geti (z := S 1076 12) zd_3_4_209 zf_Compiler_73 zT_1076 rfl (zz_ltn hn rfl) (zz_ro qS199 (fun h => absurd h.2 (by decide)) rfl) ?_
        refine zz_iload (x := S0 1076 12) rfl zd_3_4_212 ?_
        refine zz_icmp_ne (by omega) (by omega) zd_3_4_214 (fun c204 => ?_) (fun c204 => ?_)
        · refine zz_iconst zd_3_4_221 ?_
          refine zz_iload (x := 0) rfl zd_3_4_222 ?_
          have g205 := zz_G.r G_S 1076 1 0 1000000 rfl rfl
          have e206 : S199 1076 1 = S 1076 1 := (zz_ro qS199 (fun h => absurd h.2 (by decide)) rfl)
          have g207 := zz_G.r G_S0 1076 3 (-1) 23 rfl rfl
          have e208 : S199 1076 3 = S0 1076 3 := (zz_ro qS199 (fun h => absurd h.2 (by decide)) (zz_rc F_S rfl rfl (fun h => h) rfl))
          have g209 := zz_G.r G_S0 1076 4 (-1) 23 rfl rfl
          have e210 : S199 1076 4 = S0 1076 4 := (zz_ro qS199 (fun h => absurd h.2 (by decide)) (zz_rc F_S rfl rfl (fun h => h) rfl))
          have g211 := zz_G.r G_S0 1076 5 (-1) 23 rfl rfl
          have e212 : S199 1076 5 = S0 1076 5 := (zz_ro qS199 (fun h => absurd h.2 (by decide)) (zz_rc F_S rfl rfl (fun h => h) rfl))
          refine zz_callVV [zi 0, zi 0] zd_3_4_224 zk_Compiler_118 zT_1076 (zz_ltn hn rfl) rfl rfl ⟨Nat.le_of_ble_eq_true rfl, Nat.le_of_ble_eq_true rfl⟩ ⟨rfl, rfl⟩ (Nat.zero_le _) (Nat.zero_le _) (zc_makeGroup_3_5 0 0 S199 n hn G_S199 (by omega) (by omega) (by omega) (by omega)) (fun S213 hP => ?_)
          obtain ⟨G_S213, fS213, o215⟩ := hP
          have F_S213 := zz_fr.trans F_S199 fS213 rfl zz_nv
          refine zz_aload_n (x := 1076) rfl zd_3_4_227 ?_
          refine zz_dup rfl zd_3_4_228 ?_
          refine zz_geti (z := S 1076 12) zd_3_4_229 zf_Compiler_73 zT_1076 rfl (zz_ltn hn rfl) (zz_rc fS213 rfl rfl (fun h => h) (zz_ro qS199 (fun h => absurd h.2 (by decide)) rfl)) ?_
          refine zz_iconst zd_3_4_232 ?_
          refine zz_iadd zd_3_4_233 ?_
          refine zz_nrm (fun v216 hv216 ev216 => ?_)
          refine zz_puti zd_3_4_234 zf_Compiler_73 zT_1076 rfl (zz_ltn hn rfl) (fun S217 qS217 => ?_)
          have G_S217 := zz_G.put G_S213 qS217 (-2147483648) 2147483647 rfl (by omega)
          have F_S217 := zz_fr.puts F_S213 qS217 rfl
          refine zz_aload_n (x := 1076) rfl zd_3_4_237 ?_
          refine zz_dup rfl zd_3_4_238 ?_
          refine zz_geti (z := S 1076 15) zd_3_4_239 zf_Compiler_112 zT_1076 rfl (zz_ltn hn rfl) (zz_ro qS217 (fun h => absurd h.2 (by decide)) (zz_rc fS213 rfl rfl (fun h => h) (zz_ro qS199 (fun h => absurd h.2 (by decide)) rfl))) ?_
          refine zz_aload_n (x := 1076) rfl zd_3_4_242 ?_
          have g218 := zz_G.r G_S0 1076 2 2 8 rfl rfl
          refine zz_geti (z := S0 1076 2) zd_3_4_243 zf_Compiler_21 zT_1076 rfl (zz_ltn hn rfl) (zz_ro qS217 (fun h => absurd h.2 (by decide)) (zz_rc fS213 rfl rfl (fun h => h) (zz_ro qS199 (fun h => absurd h.2 (by decide)) (zz_rc F_S rfl rfl (fun h => h) rfl)))) ?_
          refine zz_iadd zd_3_4_246 ?_
          refine zz_puti zd_3_4_247 zf_Compiler_112 zT_1076 rfl (zz_ltn hn rfl) (fun S219 qS219 => ?_)
          have G_S219 := zz_G.put G_S217 qS219 (-2147483648) 2147483647 rfl (by omega)
          have F_S219 := zz_fr.puts F_S217 qS219 rfl
          refine zz_goto zd_3_4_250 ?_
          have e220 : S219 1076 13 = S 1076 13 := (zz_ro qS219 (fun h => absurd h.2 (by decide)) (zz_ro qS217 (fun h => absurd h.2 (by decide)) (zz_rc fS213 rfl rfl (fun h => h) (zz_ro qS199 (fun h => absurd h.2 (by decide)) rfl))))
          have g221 := zz_G.r G_S 1076 14 (-2147483648) 2147483647 rfl rfl
          have e222 : S219 1076 14 = S 1076 14 := (zz_ro qS219 (fun h => absurd h.2 (by decide)) (zz_ro qS217 (fun h => absurd h.2 (by decide)) (zz_rc fS213 rfl rfl (fun h => h) (zz_ro qS199 (fun h => absurd h.2 (by decide)) rfl))))
          have e223 : S219 1076 15 = (S 1076 15) + (S0 1076 2) := (zz_rs qS219)
          have g224 := zz_G.r G_S213 1076 1 0 1000000 rfl rfl
          have e225 : S219 1076 1 = S213 1076 1 := (zz_ro qS219 (fun h => absurd h.2 (by decide)) (zz_ro qS217 (fun h => absurd h.2 (by decide)) rfl))
          refine zz_less (ls1 := [some (.ref 1076), some (zi x1), none, some (zi x3), some (zi x4), some (zi x5), some (zi (S0 1076 12))]) ⟨rfl, ⟨rfl, ⟨rfl, ⟨rfl, ⟨rfl, ⟨rfl, trivial⟩⟩⟩⟩⟩⟩ ?_
          exact k122 x1 x3 x4 x5 S219 G_S219 F_S219 (by omega) (by omega) (by omega) (by omega) (by omega) (by omega) (by omega) (by omega) (by omega) (by omega) (by omega)
        · refine zz_iconst zd_3_4_217 ?_
          refine zz_goto zd_3_4_218 ?_
          refine zz_iload (x := 0) rfl zd_3_4_222 ?_
          have g226 := zz_G.r G_S 1076 1 0 1000000 rfl rfl
          have e227 : S199 1076 1 = S 1076 1 := (zz_ro qS199 (fun h => absurd h.2 (by decide)) rfl)
          have g228 := zz_G.r G_S0 1076 3 (-1) 23 rfl rfl
          have e229 : S199 1076 3 = S0 1076 3 := (zz_ro qS199 (fun h => absurd h.2 (by decide)) (zz_rc F_S rfl rfl (fun h => h) rfl))
          have g230 := zz_G.r G_S0 1076 4 (-1) 23 rfl rfl
          have e231 : S199 1076 4 = S0 1076 4 := (zz_ro qS199 (fun h => absurd h.2 (by decide)) (zz_rc F_S rfl rfl (fun h => h) rfl))
          have g232 := zz_G.r G_S0 1076 5 (-1) 23 rfl rfl
          have e233 : S199 1076 5 = S0 1076 5 := (zz_ro qS199 (fun h => absurd h.2 (by decide)) (zz_rc F_S rfl rfl (fun h => h) rfl))
          refine zz_callVV [zi 1, zi 0] zd_3_4_224 zk_Compiler_118 zT_1076 (zz_ltn hn rfl) rfl rfl ⟨Nat.le_of_ble_eq_true rfl, Nat.le_of_ble_eq_true rfl⟩ ⟨rfl, rfl⟩ (Nat.zero_le _) (Nat.zero_le _) (zc_makeGroup_3_5 1 0 S199 n hn G_S199 (by omega) (by omega) (by omega) (by omega)) (fun S234 hP => ?_)
          obtain ⟨G_S234, fS234, o236⟩ := hP
          have F_S234 := zz_fr.trans F_S199 fS234 rfl zz_nv
          refine zz_aload_n (x := 1076) rfl zd_3_4_227 ?_
          refine zz_dup rfl zd_3_4_228 ?_
          refine zz_geti (z := S 1076 12) zd_3_4_229 zf_Compiler_73 zT_1076 rfl (zz_ltn hn rfl) (zz_rc fS234 rfl rfl (fun h => h) (zz_ro qS199 (fun h => absurd h.2 (by decide)) rfl)) ?_
          refine zz_iconst zd_3_4_232 ?_
          refine zz_iadd zd_3_4_233 ?_
          refine zz_nrm (fun v237 hv237 ev237 => ?_)
          refine zz_puti zd_3_4_234 zf_Compiler_73 zT_1076 rfl (zz_ltn hn rfl) (fun S238 qS238 => ?_)
          have G_S238 := zz_G.put G_S234 qS238 (-2147483648) 2147483647 rfl (by omega)
          have F_S238 := zz_fr.puts F_S234 qS238 rfl
          refine zz_aload_n (x := 1076) rfl zd_3_4_237 ?_
          refine zz_dup rfl zd_3_4_238 ?_
          refine zz_geti (z := S 1076 15) zd_3_4_239 zf_Compiler_112 zT_1076 rfl (zz_ltn hn rfl) (zz_ro qS238 (fun h => absurd h.2 (by decide)) (zz_rc fS234 rfl rfl (fun h => h) (zz_ro qS199 (fun h => absurd h.2 (by decide)) rfl))) ?_
          refine zz_aload_n (x := 1076) rfl zd_3_4_242 ?_
          have g239 := zz_G.r G_S0 1076 2 2 8 rfl rfl
          refine zz_geti (z := S0 1076 2) zd_3_4_243 zf_Compiler_21 zT_1076 rfl (zz_ltn hn rfl) (zz_ro qS238 (fun h => absurd h.2 (by decide)) (zz_rc fS234 rfl rfl (fun h => h) (zz_ro qS199 (fun h => absurd h.2 (by decide)) (zz_rc F_S rfl rfl (fun h => h) rfl)))) ?_
          refine zz_iadd zd_3_4_246 ?_
          refine zz_puti zd_3_4_247 zf_Compiler_112 zT_1076 rfl (zz_ltn hn rfl) (fun S240 qS240 => ?_)
          have G_S240 := zz_G.put G_S238 qS240 (-2147483648) 2147483647 rfl (by omega)
          have F_S240 := zz_fr.puts F_S238 qS240 rfl
          refine zz_goto zd_3_4_250 ?_
          have e241 : S240 1076 13 = S 1076 13 := (zz_ro qS240 (fun h => absurd h.2 (by decide)) (zz_ro qS238 (fun h => absurd h.2 (by decide)) (zz_rc fS234 rfl rfl (fun h => h) (zz_ro qS199 (fun h => absurd h.2 (by decide)) rfl))))
          have g242 := zz_G.r G_S 1076 14 (-2147483648) 2147483647 rfl rfl
          have e243 : S240 1076 14 = S 1076 14 := (zz_ro qS240 (fun h => absurd h.2 (by decide)) (zz_ro qS238 (fun h => absurd h.2 (by decide)) (zz_rc fS234 rfl rfl (fun h => h) (zz_ro qS199 (fun h => absurd h.2 (by decide)) rfl))))
          have e244 : S240 1076 15 = (S 1076 15) + (S0 1076 2) := (zz_rs qS240)
          have g245 := zz_G.r G_S234 1076 1 0 1000000 rfl rfl
          have e246 : S240 1076 1 = S234 1076 1 := (zz_ro qS240 (fun h => absurd h.2 (by decide)) (zz_ro qS238 (fun h => absurd h.2 (by decide)) rfl))
          refine zz_less (ls1 := [some (.ref 1076), some (zi x1), none, some (zi x3), some (zi x4), some (zi x5), some (zi (S0 1076 12))]) ⟨rfl, ⟨rfl, ⟨rfl, ⟨rfl, ⟨rfl, ⟨rfl, trivial⟩⟩⟩⟩⟩⟩ ?_
          exact k122 x1 x3 x4 x5 S240 G_S240 F_S240 (by omega) (by omega) (by omega) (by omega) (by omega) (by omega) (by omega) (by omega) (by omega) (by omega) (by omega)
      · refine zz_aload_n (x := 1076) rfl zd_3_4_175 ?_
        have g247 := zz_G.r G_S 1076 14 (-2147483648) 2147483647 rfl rfl
        refine zz_geti (z := S 1076 14) zd_3_4_176 zf_Compiler_109 zT_1076 rfl (zz_ltn hn rfl) (zz_ro qS199 (fun h => absurd h.2 (by decide)) rfl) ?_
        refine zz_iload (x := x4) rfl zd_3_4_179 ?_
        refine zz_iconst zd_3_4_181 ?_
        refine zz_isub zd_3_4_182 ?_
        refine zz_nrm (fun v248 hv248 ev248 => ?_)
        refine zz_icmp_ne (by omega) (by omega) zd_3_4_183 (fun c249 => ?_) (fun c249 => ?_)
        · refine zz_iconst zd_3_4_204 ?_
          refine zz_istore [some (.ref 1076), some (zi x1), none, some (zi x3), some (zi x4), some (zi x5), some (zi (S0 1076 12)), some (zi 0)] zd_3_4_205 (by decide) rfl ?_
          refine zz_aload_n (x := 1076) rfl zd_3_4_207 ?_
          refine zz_aload_n (x := 1076) rfl zd_3_4_208 ?_
          have g250 := zz_G.r G_S 1076 12 (-2147483648) 2147483647 rfl rfl
          refine zz_geti (z := S 1076 12) zd_3_4_209 zf_Compiler_73 zT_1076 rfl (zz_ltn hn rfl) (zz_ro qS199 (fun h => absurd h.2 (by decide)) rfl) ?_
          refine zz_iload (x := S0 1076 12) rfl zd_3_4_212 ?_
          refine zz_icmp_ne (by omega) (by omega) zd_3_4_214 (fun c251 => ?_) (fun c251 => ?_)
          · refine zz_iconst zd_3_4_221 ?_
            refine zz_iload (x := 0) rfl zd_3_4_222 ?_
            have g252 := zz_G.r G_S 1076 1 0 1000000 rfl rfl
            have e253 : S199 1076 1 = S 1076 1 := (zz_ro qS199 (fun h => absurd h.2 (by decide)) rfl)
            have g254 := zz_G.r G_S0 1076 3 (-1) 23 rfl rfl
            have e255 : S199 1076 3 = S0 1076 3 := (zz_ro qS199 (fun h => absurd h.2 (by decide)) (zz_rc F_S rfl rfl (fun h => h) rfl))
            have g256 := zz_G.r G_S0 1076 4 (-1) 23 rfl rfl
            have e257 : S199 1076 4 = S0 1076 4 := (zz_ro qS199 (fun h => absurd h.2 (by decide)) (zz_rc F_S rfl rfl (fun h => h) rfl))
            have g258 := zz_G.r G_S0 1076 5 (-1) 23 rfl rfl
            have e259 : S199 1076 5 = S0 1076 5 := (zz_ro qS199 (fun h => absurd h.2 (by decide)) (zz_rc F_S rfl rfl (fun h => h) rfl))
            refine zz_callVV [zi 0, zi 0] zd_3_4_224 zk_Compiler_118 zT_1076 (zz_ltn hn rfl) rfl rfl ⟨Nat.le_of_ble_eq_true rfl, Nat.le_of_ble_eq_true rfl⟩ ⟨rfl, rfl⟩ (Nat.zero_le _) (Nat.zero_le _) (zc_makeGroup_3_5 0 0 S199 n hn G_S199 (by omega) (by omega) (by omega) (by omega)) (fun S260 hP => ?_)
            obtain ⟨G_S260, fS260, o262⟩ := hP
            have F_S260 := zz_fr.trans F_S199 fS260 rfl zz_nv
            refine zz_aload_n (x := 1076) rfl zd_3_4_227 ?_
            refine zz_dup rfl zd_3_4_228 ?_
            refine zz_geti (z := S 1076 12) zd_3_4_229 zf_Compiler_73 zT_1076 rfl (zz_ltn hn rfl) (zz_rc fS260 rfl rfl (fun h => h) (zz_ro qS199 (fun h => absurd h.2 (by decide)) rfl)) ?_
            refine zz_iconst zd_3_4_232 ?_
            refine zz_iadd zd_3_4_233 ?_
            refine zz_nrm (fun v263 hv263 ev263 => ?_)
            refine zz_puti zd_3_4_234 zf_Compiler_73 zT_1076 rfl (zz_ltn hn rfl) (fun S264 qS264 => ?_)
            have G_S264 := zz_G.put G_S260 qS264 (-2147483648) 2147483647 rfl (by omega)
            have F_S264 := zz_fr.puts F_S260 qS264 rfl
            refine zz_aload_n (x := 1076) rfl zd_3_4_237 ?_
            refine zz_dup rfl zd_3_4_238 ?_
            refine zz_geti (z := S 1076 15) zd_3_4_239 zf_Compiler_112 zT_1076 rfl (zz_ltn hn rfl) (zz_ro qS264 (fun h => absurd h.2 (by decide)) (zz_rc fS260 rfl rfl (fun h => h) (zz_ro qS199 (fun h => absurd h.2 (by decide)) rfl))) ?_
            refine zz_aload_n (x := 1076) rfl zd_3_4_242 ?_
            have g265 := zz_G.r G_S0 1076 2 2 8 rfl rfl
            refine zz_geti (z := S0 1076 2) zd_3_4_243 zf_Compiler_21 zT_1076 rfl (zz_ltn hn rfl) (zz_ro qS264 (fun h => absurd h.2 (by decide)) (zz_rc fS260 rfl rfl (fun h => h) (zz_ro qS199 (fun h => absurd h.2 (by decide)) (zz_rc F_S rfl rfl (fun h => h) rfl)))) ?_
            refine zz_iadd zd_3_4_246 ?_
            refine zz_puti zd_3_4_247 zf_Compiler_112 zT_1076 rfl (zz_ltn hn rfl) (fun S266 qS266 => ?_)
            have G_S266 := zz_G.put G_S264 qS266 (-2147483648) 2147483647 rfl (by omega)
            have F_S266 := zz_fr.puts F_S264 qS266 rfl
            refine zz_goto zd_3_4_250 ?_
            have e267 : S266 1076 13 = S 1076 13 := (zz_ro qS266 (fun h => absurd h.2 (by decide)) (zz_ro qS264 (fun h => absurd h.2 (by decide)) (zz_rc fS260 rfl rfl (fun h => h) (zz_ro qS199 (fun h => absurd h.2 (by decide)) rfl))))
            have e268 : S266 1076 14 = S 1076 14 := (zz_ro qS266 (fun h => absurd h.2 (by decide)) (zz_ro qS264 (fun h => absurd h.2 (by decide)) (zz_rc fS260 rfl rfl (fun h => h) (zz_ro qS199 (fun h => absurd h.2 (by decide)) rfl))))
            have e269 : S266 1076 15 = (S 1076 15) + (S0 1076 2) := (zz_rs qS266)
            have g270 := zz_G.r G_S260 1076 1 0 1000000 rfl rfl
            have e271 : S266 1076 1 = S260 1076 1 := (zz_ro qS266 (fun h => absurd h.2 (by decide)) (zz_ro qS264 (fun h => absurd h.2 (by decide)) rfl))
            refine zz_less (ls1 := [some (.ref 1076), some (zi x1), none, some (zi x3), some (zi x4), some (zi x5), some (zi (S0 1076 12))]) ⟨rfl, ⟨rfl, ⟨rfl, ⟨rfl, ⟨rfl, ⟨rfl, trivial⟩⟩⟩⟩⟩⟩ ?_
            exact k122 x1 x3 x4 x5 S266 G_S266 F_S266 (by omega) (by omega) (by omega) (by omega) (by omega) (by omega) (by omega) (by omega) (by omega) (by omega) (by omega)
          · refine zz_iconst zd_3_4_217 ?_
            refine zz_goto zd_3_4_218 ?_
            refine zz_iload (x := 0) rfl zd_3_4_222 ?_
            have g272 := zz_G.r G_S 1076 1 0 1000000 rfl rfl
            have e273 : S199 1076 1 = S 1076 1 := (zz_ro qS199 (fun h => absurd h.2 (by decide)) rfl)
            have g274 := zz_G.r G_S0 1076 3 (-1) 23 rfl rfl
            have e275 : S199 1076 3 = S0 1076 3 := (zz_ro qS199 (fun h => absurd h.2 (by decide)) (zz_rc F_S rfl rfl (fun h => h) rfl))
            have g276 := zz_G.r G_S0 1076 4 (-1) 23 rfl rfl
            have e277 : S199 1076 4 = S0 1076 4 := (zz_ro qS199 (fun h => absurd h.2 (by decide)) (zz_rc F_S rfl rfl (fun h => h) rfl))
            have g278 := zz_G.r G_S0 1076 5 (-1) 23 rfl rfl
            have e279 : S199 1076 5 = S0 1076 5 := (zz_ro qS199 (fun h => absurd h.2 (by decide)) (zz_rc F_S rfl rfl (fun h => h) rfl))
            refine zz_callVV [zi 1, zi 0] zd_3_4_224 zk_Compiler_118 zT_1076 (zz_ltn hn rfl) rfl rfl ⟨Nat.le_of_ble_eq_true rfl, Nat.le_of_ble_eq_true rfl⟩ ⟨rfl, rfl⟩ (Nat.zero_le _) (Nat.zero_le _) (zc_makeGroup_3_5 1 0 S199 n hn G_S199 (by omega) (by omega) (by omega) (by omega)) (fun S280 hP => ?_)
            obtain ⟨G_S280, fS280, o282⟩ := hP
            have F_S280 := zz_fr.trans F_S199 fS280 rfl zz_nv
            refine zz_aload_n (x := 1076) rfl zd_3_4_227 ?_
            refine zz_dup rfl zd_3_4_228 ?_
            refine zz_geti (z := S 1076 12) zd_3_4_229 zf_Compiler_73 zT_1076 rfl (zz_ltn hn rfl) (zz_rc fS280 rfl rfl (fun h => h) (zz_ro qS199 (fun h => absurd h.2 (by decide)) rfl)) ?_
            refine zz_iconst zd_3_4_232 ?_
            refine zz_iadd zd_3_4_233 ?_
            refine zz_nrm (fun v283 hv283 ev283 => ?_)
            refine zz_puti zd_3_4_234 zf_Compiler_73 zT_1076 rfl (zz_ltn hn rfl) (fun S284 qS284 => ?_)
            have G_S284 := zz_G.put G_S280 qS284 (-2147483648) 2147483647 rfl (by omega)
            have F_S284 := zz_fr.puts F_S280 qS284 rfl
            refine zz_aload_n (x := 1076) rfl zd_3_4_237 ?_
            refine zz_dup rfl zd_3_4_238 ?_
            refine zz_geti (z := S 1076 15) zd_3_4_239 zf_Compiler_112 zT_1076 rfl (zz_ltn hn rfl) (zz_ro qS284 (fun h => absurd h.2 (by decide)) (zz_rc fS280 rfl rfl (fun h => h) (zz_ro qS199 (fun h => absurd h.2 (by decide)) rfl))) ?_
            refine zz_aload_n (x := 1076) rfl zd_3_4_242 ?_
            have g285 := zz_G.r G_S0 1076 2 2 8 rfl rfl
            refine zz_geti (z := S0 1076 2) zd_3_4_243 zf_Compiler_21 zT_1076 rfl (zz_ltn hn rfl) (zz_ro qS284 (fun h => absurd h.2 (by decide)) (zz_rc fS280 rfl rfl (fun h => h) (zz_ro qS199 (fun h => absurd h.2 (by decide)) (zz_rc F_S rfl rfl (fun h => h) rfl)))) ?_
            refine zz_iadd zd_3_4_246 ?_
            refine zz_puti zd_3_4_247 zf_Compiler_112 zT_1076 rfl (zz_ltn hn rfl) (fun S286 qS286 => ?_)
            have G_S286 := zz_G.put G_S284 qS286 (-2147483648) 2147483647 rfl (by omega)
            have F_S286 := zz_fr.puts F_S284 qS286 rfl
            refine zz_goto zd_3_4_250 ?_
            have e287 : S286 1076 13 = S 1076 13 := (zz_ro qS286 (fun h => absurd h.2 (by decide)) (zz_ro qS284 (fun h => absurd h.2 (by decide)) (zz_rc fS280 rfl rfl (fun h => h) (zz_ro qS199 (fun h => absurd h.2 (by decide)) rfl))))
            have e288 : S286 1076 14 = S 1076 14 := (zz_ro qS286 (fun h => absurd h.2 (by decide)) (zz_ro qS284 (fun h => absurd h.2 (by decide)) (zz_rc fS280 rfl rfl (fun h => h) (zz_ro qS199 (fun h => absurd h.2 (by decide)) rfl))))
            have e289 : S286 1076 15 = (S 1076 15) + (S0 1076 2) := (zz_rs qS286)
            have g290 := zz_G.r G_S280 1076 1 0 1000000 rfl rfl
            have e291 : S286 1076 1 = S280 1076 1 := (zz_ro qS286 (fun h => absurd h.2 (by decide)) (zz_ro qS284 (fun h => absurd h.2 (by decide)) rfl))
            refine zz_less (ls1 := [some (.ref 1076), some (zi x1), none, some (zi x3), some (zi x4), some (zi x5), some (zi (S0 1076 12))]) ⟨rfl, ⟨rfl, ⟨rfl, ⟨rfl, ⟨rfl, ⟨rfl, trivial⟩⟩⟩⟩⟩⟩ ?_
            exact k122 x1 x3 x4 x5 S286 G_S286 F_S286 (by omega) (by omega) (by omega) (by omega) (by omega) (by omega) (by omega) (by omega) (by omega) (by omega) (by omega)
        · refine zz_aload_n (x := 1076) rfl zd_3_4_186 ?_
          refine zz_geti (z := S 1076 15) zd_3_4_187 zf_Compiler_112 zT_1076 rfl (zz_ltn hn rfl) (zz_ro qS199 (fun h => absurd h.2 (by decide)) rfl) ?_
          refine zz_aload_n (x := 1076) rfl zd_3_4_190 ?_
          have g292 := zz_G.r G_S0 1076 2 2 8 rfl rfl
          refine zz_geti (z := S0 1076 2) zd_3_4_191 zf_Compiler_21 zT_1076 rfl (zz_ltn hn rfl) (zz_ro qS199 (fun h => absurd h.2 (by decide)) (zz_rc F_S rfl rfl (fun h => h) rfl)) ?_
          refine zz_iadd zd_3_4_194 ?_
          refine zz_iload (x := x5) rfl zd_3_4_195 ?_
          refine zz_icmp_lt (by omega) (by omega) zd_3_4_197 (fun c293 => ?_) (fun c293 => ?_)
          · refine zz_iconst zd_3_4_204 ?_
            refine zz_istore [some (.ref 1076), some (zi x1), none, some (zi x3), some (zi x4), some (zi x5), some (zi (S0 1076 12)), some (zi 0)] zd_3_4_205 (by decide) rfl ?_
            refine zz_aload_n (x := 1076) rfl zd_3_4_207 ?_
            refine zz_aload_n (x := 1076) rfl zd_3_4_208 ?_
            have g294 := zz_G.r G_S 1076 12 (-2147483648) 2147483647 rfl rfl
            refine zz_geti (z := S 1076 12) zd_3_4_209 zf_Compiler_73 zT_1076 rfl (zz_ltn hn rfl) (zz_ro qS199 (fun h => absurd h.2 (by decide)) rfl) ?_
            refine zz_iload (x := S0 1076 12) rfl zd_3_4_212 ?_
            refine zz_icmp_ne (by omega) (by omega) zd_3_4_214 (fun c295 => ?_) (fun c295 => ?_)
            · refine zz_iconst zd_3_4_221 ?_
              refine zz_iload (x := 0) rfl zd_3_4_222 ?_
              have g296 := zz_G.r G_S 1076 1 0 1000000 rfl rfl
              have e297 : S199 1076 1 = S 1076 1 := (zz_ro qS199 (fun h => absurd h.2 (by decide)) rfl)
              have g298 := zz_G.r G_S0 1076 3 (-1) 23 rfl rfl
              have e299 : S199 1076 3 = S0 1076 3 := (zz_ro qS199 (fun h => absurd h.2 (by decide)) (zz_rc F_S rfl rfl (fun h => h) rfl))
              have g300 := zz_G.r G_S0 1076 4 (-1) 23 rfl rfl
              have e301 : S199 1076 4 = S0 1076 4 := (zz_ro qS199 (fun h => absurd h.2 (by decide)) (zz_rc F_S rfl rfl (fun h => h) rfl))
              have g302 := zz_G.r G_S0 1076 5 (-1) 23 rfl rfl
              have e303 : S199 1076 5 = S0 1076 5 := (zz_ro qS199 (fun h => absurd h.2 (by decide)) (zz_rc F_S rfl rfl (fun h => h) rfl))
              refine zz_callVV [zi 0, zi 0] zd_3_4_224 zk_Compiler_118 zT_1076 (zz_ltn hn rfl) rfl rfl ⟨Nat.le_of_ble_eq_true rfl, Nat.le_of_ble_eq_true rfl⟩ ⟨rfl, rfl⟩ (Nat.zero_le _) (Nat.zero_le _) (zc_makeGroup_3_5 0 0 S199 n hn G_S199 (by omega) (by omega) (by omega) (by omega)) (fun S304 hP => ?_)
              obtain ⟨G_S304, fS304, o306⟩ := hP
              have F_S304 := zz_fr.trans F_S199 fS304 rfl zz_nv
              refine zz_aload_n (x := 1076) rfl zd_3_4_227 ?_
              refine zz_dup rfl zd_3_4_228 ?_
              refine zz_geti (z := S 1076 12) zd_3_4_229 zf_Compiler_73 zT_1076 rfl (zz_ltn hn rfl) (zz_rc fS304 rfl rfl (fun h => h) (zz_ro qS199 (fun h => absurd h.2 (by decide)) rfl)) ?_
              refine zz_iconst zd_3_4_232 ?_
              refine zz_iadd zd_3_4_233 ?_
              refine zz_nrm (fun v307 hv307 ev307 => ?_)
              refine zz_puti zd_3_4_234 zf_Compiler_73 zT_1076 rfl (zz_ltn hn rfl) (fun S308 qS308 => ?_)
              have G_S308 := zz_G.put G_S304 qS308 (-2147483648) 2147483647 rfl (by omega)
              have F_S308 := zz_fr.puts F_S304 qS308 rfl
              refine zz_aload_n (x := 1076) rfl zd_3_4_237 ?_
              refine zz_dup rfl zd_3_4_238 ?_
              refine zz_geti (z := S 1076 15) zd_3_4_239 zf_Compiler_112 zT_1076 rfl (zz_ltn hn rfl) (zz_ro qS308 (fun h => absurd h.2 (by decide)) (zz_rc fS304 rfl rfl (fun h => h) (zz_ro qS199 (fun h => absurd h.2 (by decide)) rfl))) ?_
              refine zz_aload_n (x := 1076) rfl zd_3_4_242 ?_
              refine zz_geti (z := S0 1076 2) zd_3_4_243 zf_Compiler_21 zT_1076 rfl (zz_ltn hn rfl) (zz_ro qS308 (fun h => absurd h.2 (by decide)) (zz_rc fS304 rfl rfl (fun h => h) (zz_ro qS199 (fun h => absurd h.2 (by decide)) (zz_rc F_S rfl rfl (fun h => h) rfl)))) ?_
              refine zz_iadd zd_3_4_246 ?_
              refine zz_puti zd_3_4_247 zf_Compiler_112 zT_1076 rfl (zz_ltn hn rfl) (fun S309 qS309 => ?_)
              have G_S309 := zz_G.put G_S308 qS309 (-2147483648) 2147483647 rfl (by omega)
              have F_S309 := zz_fr.puts F_S308 qS309 rfl
              refine zz_goto zd_3_4_250 ?_
              have e310 : S309 1076 13 = S 1076 13 := (zz_ro qS309 (fun h => absurd h.2 (by decide)) (zz_ro qS308 (fun h => absurd h.2 (by decide)) (zz_rc fS304 rfl rfl (fun h => h) (zz_ro qS199 (fun h => absurd h.2 (by decide)) rfl))))
              have e311 : S309 1076 14 = S 1076 14 := (zz_ro qS309 (fun h => absurd h.2 (by decide)) (zz_ro qS308 (fun h => absurd h.2 (by decide)) (zz_rc fS304 rfl rfl (fun h => h) (zz_ro qS199 (fun h => absurd h.2 (by decide)) rfl))))
              have e312 : S309 1076 15 = (S 1076 15) + (S0 1076 2) := (zz_rs qS309)
              have g313 := zz_G.r G_S304 1076 1 0 1000000 rfl rfl
              have e314 : S309 1076 1 = S304 1076 1 := (zz_ro qS309 (fun h => absurd h.2 (by decide)) (zz_ro qS308 (fun h => absurd h.2 (by decide)) rfl))
              refine zz_less (ls1 := [some (.ref 1076), some (zi x1), none, some (zi x3), some (zi x4), some (zi x5), some (zi (S0 1076 12))]) ⟨rfl, ⟨rfl, ⟨rfl, ⟨rfl, ⟨rfl, ⟨rfl, trivial⟩⟩⟩⟩⟩⟩ ?_
              exact k122 x1 x3 x4 x5 S309 G_S309 F_S309 (by omega) (by omega) (by omega) (by omega) (by omega) (by omega) (by omega) (by omega) (by omega) (by omega) (by omega)
            · refine zz_iconst zd_3_4_217 ?_
              refine zz_goto zd_3_4_218 ?_
              refine zz_iload (x := 0) rfl zd_3_4_222 ?_
              have g315 := zz_G.r G_S 1076 1 0 1000000 rfl rfl
              have e316 : S199 1076 1 = S 1076 1 := (zz_ro qS199 (fun h => absurd h.2 (by decide)) rfl)
              have g317 := zz_G.r G_S0 1076 3 (-1) 23 rfl rfl
              have e318 : S199 1076 3 = S0 1076 3 := (zz_ro qS199 (fun h => absurd h.2 (by decide)) (zz_rc F_S rfl rfl (fun h => h) rfl))
              have g319 := zz_G.r G_S0 1076 4 (-1) 23 rfl rfl
              have e320 : S199 1076 4 = S0 1076 4 := (zz_ro qS199 (fun h => absurd h.2 (by decide)) (zz_rc F_S rfl rfl (fun h => h) rfl))
              have g321 := zz_G.r G_S0 1076 5 (-1) 23 rfl rfl
              have e322 : S199 1076 5 = S0 1076 5 := (zz_ro qS199 (fun h => absurd h.2 (by decide)) (zz_rc F_S rfl rfl (fun h => h) rfl))
              refine zz_callVV [zi 1, zi 0] zd_3_4_224 zk_Compiler_118 zT_1076 (zz_ltn hn rfl) rfl rfl ⟨Nat.le_of_ble_eq_true rfl, Nat.le_of_ble_eq_true rfl⟩ ⟨rfl, rfl⟩ (Nat.zero_le _) (Nat.zero_le _) (zc_makeGroup_3_5 1 0 S199 n hn G_S199 (by omega) (by omega) (by omega) (by omega)) (fun S323 hP => ?_)
              obtain ⟨G_S323, fS323, o325⟩ := hP
              have F_S323 := zz_fr.trans F_S199 fS323 rfl zz_nv
              refine zz_aload_n (x := 1076) rfl zd_3_4_227 ?_
              refine zz_dup rfl zd_3_4_228 ?_
              refine zz_geti (z := S 1076 12) zd_3_4_229 zf_Compiler_73 zT_1076 rfl (zz_ltn hn rfl) (zz_rc fS323 rfl rfl (fun h => h) (zz_ro qS199 (fun h => absurd h.2 (by decide)) rfl)) ?_
              refine zz_iconst zd_3_4_232 ?_
              refine zz_iadd zd_3_4_233 ?_
              refine zz_nrm (fun v326 hv326 ev326 => ?_)
              refine zz_puti zd_3_4_234 zf_Compiler_73 zT_1076 rfl (zz_ltn hn rfl) (fun S327 qS327 => ?_)
              have G_S327 := zz_G.put G_S323 qS327 (-2147483648) 2147483647 rfl (by omega)
              have F_S327 := zz_fr.puts F_S323 qS327 rfl
              refine zz_aload_n (x := 1076) rfl zd_3_4_237 ?_
              refine zz_dup rfl zd_3_4_238 ?_
              refine zz_geti (z := S 1076 15) zd_3_4_239 zf_Compiler_112 zT_1076 rfl (zz_ltn hn rfl) (zz_ro qS327 (fun h => absurd h.2 (by decide)) (zz_rc fS323 rfl rfl (fun h => h) (zz_ro qS199 (fun h => absurd h.2 (by decide)) rfl))) ?_
              refine zz_aload_n (x := 1076) rfl zd_3_4_242 ?_
              refine zz_geti (z := S0 1076 2) zd_3_4_243 zf_Compiler_21 zT_1076 rfl (zz_ltn hn rfl) (zz_ro qS327 (fun h => absurd h.2 (by decide)) (zz_rc fS323 rfl rfl (fun h => h) (zz_ro qS199 (fun h => absurd h.2 (by decide)) (zz_rc F_S rfl rfl (fun h => h) rfl)))) ?_
              refine zz_iadd zd_3_4_246 ?_
              refine zz_puti zd_3_4_247 zf_Compiler_112 zT_1076 rfl (zz_ltn hn rfl) (fun S328 qS328 => ?_)
              have G_S328 := zz_G.put G_S327 qS328 (-2147483648) 2147483647 rfl (by omega)
              have F_S328 := zz_fr.puts F_S327 qS328 rfl
              refine zz_goto zd_3_4_250 ?_
              have e329 : S328 1076 13 = S 1076 13 := (zz_ro qS328 (fun h => absurd h.2 (by decide)) (zz_ro qS327 (fun h => absurd h.2 (by decide)) (zz_rc fS323 rfl rfl (fun h => h) (zz_ro qS199 (fun h => absurd h.2 (by decide)) rfl))))
              have e330 : S328 1076 14 = S 1076 14 := (zz_ro qS328 (fun h => absurd h.2 (by decide)) (zz_ro qS327 (fun h => absurd h.2 (by decide)) (zz_rc fS323 rfl rfl (fun h => h) (zz_ro qS199 (fun h => absurd h.2 (by decide)) rfl))))
              have e331 : S328 1076 15 = (S 1076 15) + (S0 1076 2) := (zz_rs qS328)
              have g332 := zz_G.r G_S323 1076 1 0 1000000 rfl rfl
              have e333 : S328 1076 1 = S323 1076 1 := (zz_ro qS328 (fun h => absurd h.2 (by decide)) (zz_ro qS327 (fun h => absurd h.2 (by decide)) rfl))
              refine zz_less (ls1 := [some (.ref 1076), some (zi x1), none, some (zi x3), some (zi x4), some (zi x5), some (zi (S0 1076 12))]) ⟨rfl, ⟨rfl, ⟨rfl, ⟨rfl, ⟨rfl, ⟨rfl, trivial⟩⟩⟩⟩⟩⟩ ?_
              exact k122 x1 x3 x4 x5 S328 G_S328 F_S328 (by omega) (by omega) (by omega) (by omega) (by omega) (by omega) (by omega) (by omega) (by omega) (by omega) (by omega)
          · refine zz_iconst zd_3_4_200 ?_
            refine zz_goto zd_3_4_201 ?_
            refine zz_istore [some (.ref 1076), some (zi x1), none, some (zi x3), some (zi x4), some (zi x5), some (zi (S0 1076 12)), some (zi 1)] zd_3_4_205 (by decide) rfl ?_
            refine zz_aload_n (x := 1076) rfl zd_3_4_207 ?_
            refine zz_aload_n (x := 1076) rfl zd_3_4_208 ?_
            have g334 := zz_G.r G_S 1076 12 (-2147483648) 2147483647 rfl rfl
            refine zz_geti (z := S 1076 12) zd_3_4_209 zf_Compiler_73 zT_1076 rfl (zz_ltn hn rfl) (zz_ro qS199 (fun h => absurd h.2 (by decide)) rfl) ?_
            refine zz_iload (x := S0 1076 12) rfl zd_3_4_212 ?_
            refine zz_icmp_ne (by omega) (by omega) zd_3_4_214 (fun c335 => ?_) (fun c335 => ?_)
            · refine zz_iconst zd_3_4_221 ?_
              refine zz_iload (x := 1) rfl zd_3_4_222 ?_
              have g336 := zz_G.r G_S 1076 1 0 1000000 rfl rfl
              have e337 : S199 1076 1 = S 1076 1 := (zz_ro qS199 (fun h => absurd h.2 (by decide)) rfl)
              have g338 := zz_G.r G_S0 1076 3 (-1) 23 rfl rfl
              have e339 : S199 1076 3 = S0 1076 3 := (zz_ro qS199 (fun h => absurd h.2 (by decide)) (zz_rc F_S rfl rfl (fun h => h) rfl))
              have g340 := zz_G.r G_S0 1076 4 (-1) 23 rfl rfl
              have e341 : S199 1076 4 = S0 1076 4 := (zz_ro qS199 (fun h => absurd h.2 (by decide)) (zz_rc F_S rfl rfl (fun h => h) rfl))
              have g342 := zz_G.r G_S0 1076 5 (-1) 23 rfl rfl
              have e343 : S199 1076 5 = S0 1076 5 := (zz_ro qS199 (fun h => absurd h.2 (by decide)) (zz_rc F_S rfl rfl (fun h => h) rfl))
              refine zz_callVV [zi 0, zi 1] zd_3_4_224 zk_Compiler_118 zT_1076 (zz_ltn hn rfl) rfl rfl ⟨Nat.le_of_ble_eq_true rfl, Nat.le_of_ble_eq_true rfl⟩ ⟨rfl, rfl⟩ (Nat.zero_le _) (Nat.zero_le _) (zc_makeGroup_3_5 0 1 S199 n hn G_S199 (by omega) (by omega) (by omega) (by omega)) (fun S344 hP => ?_)
              obtain ⟨G_S344, fS344, o346⟩ := hP
              have F_S344 := zz_fr.trans F_S199 fS344 rfl zz_nv
              refine zz_aload_n (x := 1076) rfl zd_3_4_227 ?_
              refine zz_dup rfl zd_3_4_228 ?_
              refine zz_geti (z := S 1076 12) zd_3_4_229 zf_Compiler_73 zT_1076 rfl (zz_ltn hn rfl) (zz_rc fS344 rfl rfl (fun h => h) (zz_ro qS199 (fun h => absurd h.2 (by decide)) rfl)) ?_
              refine zz_iconst zd_3_4_232 ?_
              refine zz_iadd zd_3_4_233 ?_
              refine zz_nrm (fun v347 hv347 ev347 => ?_)
              refine zz_puti zd_3_4_234 zf_Compiler_73 zT_1076 rfl (zz_ltn hn rfl) (fun S348 qS348 => ?_)
              have G_S348 := zz_G.put G_S344 qS348 (-2147483648) 2147483647 rfl (by omega)
              have F_S348 := zz_fr.puts F_S344 qS348 rfl
              refine zz_aload_n (x := 1076) rfl zd_3_4_237 ?_
              refine zz_dup rfl zd_3_4_238 ?_
              refine zz_geti (z := S 1076 15) zd_3_4_239 zf_Compiler_112 zT_1076 rfl (zz_ltn hn rfl) (zz_ro qS348 (fun h => absurd h.2 (by decide)) (zz_rc fS344 rfl rfl (fun h => h) (zz_ro qS199 (fun h => absurd h.2 (by decide)) rfl))) ?_
              refine zz_aload_n (x := 1076) rfl zd_3_4_242 ?_
              refine zz_geti (z := S0 1076 2) zd_3_4_243 zf_Compiler_21 zT_1076 rfl (zz_ltn hn rfl) (zz_ro qS348 (fun h => absurd h.2 (by decide)) (zz_rc fS344 rfl rfl (fun h => h) (zz_ro qS199 (fun h => absurd h.2 (by decide)) (zz_rc F_S rfl rfl (fun h => h) rfl)))) ?_
              refine zz_iadd zd_3_4_246 ?_
              refine zz_puti zd_3_4_247 zf_Compiler_112 zT_1076 rfl (zz_ltn hn rfl) (fun S349 qS349 => ?_)
              have G_S349 := zz_G.put G_S348 qS349 (-2147483648) 2147483647 rfl (by omega)
              have F_S349 := zz_fr.puts F_S348 qS349 rfl
              refine zz_goto zd_3_4_250 ?_
              have e350 : S349 1076 13 = S 1076 13 := (zz_ro qS349 (fun h => absurd h.2 (by decide)) (zz_ro qS348 (fun h => absurd h.2 (by decide)) (zz_rc fS344 rfl rfl (fun h => h) (zz_ro qS199 (fun h => absurd h.2 (by decide)) rfl))))
              have e351 : S349 1076 14 = S 1076 14 := (zz_ro qS349 (fun h => absurd h.2 (by decide)) (zz_ro qS348 (fun h => absurd h.2 (by decide)) (zz_rc fS344 rfl rfl (fun h => h) (zz_ro qS199 (fun h => absurd h.2 (by decide)) rfl))))
              have e352 : S349 1076 15 = (S 1076 15) + (S0 1076 2) := (zz_rs qS349)
              have g353 := zz_G.r G_S344 1076 1 0 1000000 rfl rfl
              have e354 : S349 1076 1 = S344 1076 1 := (zz_ro qS349 (fun h => absurd h.2 (by decide)) (zz_ro qS348 (fun h => absurd h.2 (by decide)) rfl))
              refine zz_less (ls1 := [some (.ref 1076), some (zi x1), none, some (zi x3), some (zi x4), some (zi x5), some (zi (S0 1076 12))]) ⟨rfl, ⟨rfl, ⟨rfl, ⟨rfl, ⟨rfl, ⟨rfl, trivial⟩⟩⟩⟩⟩⟩ ?_
              exact k122 x1 x3 x4 x5 S349 G_S349 F_S349 (by omega) (by omega) (by omega) (by omega) (by omega) (by omega) (by omega) (by omega) (by omega) (by omega) (by omega)
            · refine zz_iconst zd_3_4_217 ?_
              refine zz_goto zd_3_4_218 ?_
              refine zz_iload (x := 1) rfl zd_3_4_222 ?_
              have g355 := zz_G.r G_S 1076 1 0 1000000 rfl rfl
              have e356 : S199 1076 1 = S 1076 1 := (zz_ro qS199 (fun h => absurd h.2 (by decide)) rfl)
              have g357 := zz_G.r G_S0 1076 3 (-1) 23 rfl rfl
              have e358 : S199 1076 3 = S0 1076 3 := (zz_ro qS199 (fun h => absurd h.2 (by decide)) (zz_rc F_S rfl rfl (fun h => h) rfl))
              have g359 := zz_G.r G_S0 1076 4 (-1) 23 rfl rfl
              have e360 : S199 1076 4 = S0 1076 4 := (zz_ro qS199 (fun h => absurd h.2 (by decide)) (zz_rc F_S rfl rfl (fun h => h) rfl))
              have g361 := zz_G.r G_S0 1076 5 (-1) 23 rfl rfl
              have e362 : S199 1076 5 = S0 1076 5 := (zz_ro qS199 (fun h => absurd h.2 (by decide)) (zz_rc F_S rfl rfl (fun h => h) rfl))
              refine zz_callVV [zi 1, zi 1] zd_3_4_224 zk_Compiler_118 zT_1076 (zz_ltn hn rfl) rfl rfl ⟨Nat.le_of_ble_eq_true rfl, Nat.le_of_ble_eq_true rfl⟩ ⟨rfl, rfl⟩ (Nat.zero_le _) (Nat.zero_le _) (zc_makeGroup_3_5 1 1 S199 n hn G_S199 (by omega) (by omega) (by omega) (by omega)) (fun S363 hP => ?_)
              obtain ⟨G_S363, fS363, o365⟩ := hP
              have F_S363 := zz_fr.trans F_S199 fS363 rfl zz_nv
              refine zz_aload_n (x := 1076) rfl zd_3_4_227 ?_
              refine zz_dup rfl zd_3_4_228 ?_
              refine zz_geti (z := S 1076 12) zd_3_4_229 zf_Compiler_73 zT_1076 rfl (zz_ltn hn rfl) (zz_rc fS363 rfl rfl (fun h => h) (zz_ro qS199 (fun h => absurd h.2 (by decide)) rfl)) ?_
              refine zz_iconst zd_3_4_232 ?_
              refine zz_iadd zd_3_4_233 ?_
              refine zz_nrm (fun v366 hv366 ev366 => ?_)
              refine zz_puti zd_3_4_234 zf_Compiler_73 zT_1076 rfl (zz_ltn hn rfl) (fun S367 qS367 => ?_)
              have G_S367 := zz_G.put G_S363 qS367 (-2147483648) 2147483647 rfl (by omega)
              have F_S367 := zz_fr.puts F_S363 qS367 rfl
              refine zz_aload_n (x := 1076) rfl zd_3_4_237 ?_
              refine zz_dup rfl zd_3_4_238 ?_
              refine zz_geti (z := S 1076 15) zd_3_4_239 zf_Compiler_112 zT_1076 rfl (zz_ltn hn rfl) (zz_ro qS367 (fun h => absurd h.2 (by decide)) (zz_rc fS363 rfl rfl (fun h => h) (zz_ro qS199 (fun h => absurd h.2 (by decide)) rfl))) ?_
              refine zz_aload_n (x := 1076) rfl zd_3_4_242 ?_
              refine zz_geti (z := S0 1076 2) zd_3_4_243 zf_Compiler_21 zT_1076 rfl (zz_ltn hn rfl) (zz_ro qS367 (fun h => absurd h.2 (by decide)) (zz_rc fS363 rfl rfl (fun h => h) (zz_ro qS199 (fun h => absurd h.2 (by decide)) (zz_rc F_S rfl rfl (fun h => h) rfl)))) ?_
              refine zz_iadd zd_3_4_246 ?_
              refine zz_puti zd_3_4_247 zf_Compiler_112 zT_1076 rfl (zz_ltn hn rfl) (fun S368 qS368 => ?_)
              have G_S368 := zz_G.put G_S367 qS368 (-2147483648) 2147483647 rfl (by omega)
              have F_S368 := zz_fr.puts F_S367 qS368 rfl
              refine zz_goto zd_3_4_250 ?_
              have e369 : S368 1076 13 = S 1076 13 := (zz_ro qS368 (fun h => absurd h.2 (by decide)) (zz_ro qS367 (fun h => absurd h.2 (by decide)) (zz_rc fS363 rfl rfl (fun h => h) (zz_ro qS199 (fun h => absurd h.2 (by decide)) rfl))))
              have e370 : S368 1076 14 = S 1076 14 := (zz_ro qS368 (fun h => absurd h.2 (by decide)) (zz_ro qS367 (fun h => absurd h.2 (by decide)) (zz_rc fS363 rfl rfl (fun h => h) (zz_ro qS199 (fun h => absurd h.2 (by decide)) rfl))))
              have e371 : S368 1076 15 = (S 1076 15) + (S0 1076 2) := (zz_rs qS368)
              have g372 := zz_G.r G_S363 1076 1 0 1000000 rfl rfl
              have e373 : S368 1076 1 = S363 1076 1 := (zz_ro qS368 (fun h => absurd h.2 (by decide)) (zz_ro qS367 (fun h => absurd h.2 (by decide)) rfl))
              refine zz_less (ls1 := [some (.ref 1076), some (zi x1), none, some (zi x3), some (zi x4), some (zi x5), some (zi (S0 1076 12))]) ⟨rfl, ⟨rfl, ⟨rfl, ⟨rfl, ⟨rfl, ⟨rfl, trivial⟩⟩⟩⟩⟩⟩ ?_
              exact k122 x1 x3 x4 x5 S368 G_S368 F_S368 (by omega) (by omega) (by omega) (by omega) (by omega) (by omega) (by omega) (by omega) (by omega) (by omega) (by omega)
    · refine zz_aload_n (x := 1076) rfl zd_3_4_136 ?_
      have g374 := zz_G.r G_S0 1076 2 2 8 rfl rfl
      refine zz_geti (z := S0 1076 2) zd_3_4_137 zf_Compiler_21 zT_1076 rfl (zz_ltn hn rfl) (zz_rc F_S rfl rfl (fun h => h) rfl) ?_
      refine zz_aload_n (x := 1076) rfl zd_3_4_140 ?_
      have g375 := zz_G.r G_S0 1076 4 (-1) 23 rfl rfl
      refine zz_getr (kd := 4) (z := S0 1076 4) zd_3_4_141 zf_Compiler_55 zT_1076 rfl (zz_ltn hn rfl) (zz_rc F_S rfl rfl (fun h => h) rfl) (by omega) (zz_rf 6 (S0 1076 4)) rfl ?_
      have g376 := zz_G.r G_S0 (zz_rf 6 (S0 1076 4)) 12 (-2147483648) 2147483647 (zR_k6_12 (by omega)) (zB_k6 (by omega))
      refine zz_geti (z := S0 (zz_rf 6 (S0 1076 4)) 12) zd_3_4_144 zf_Compiler_79 (zT_k6 (by omega)) rfl (zN_k6 hn (by omega)) (zz_rc F_S (zP_k6 (by omega) rfl) (zQ_k6 (by omega) rfl) (fun h => h) rfl) ?_
      refine zz_aload_n (x := 1076) rfl zd_3_4_147 ?_
      refine zz_geti (z := S 1076 15) zd_3_4_148 zf_Compiler_112 zT_1076 rfl (zz_ltn hn rfl) rfl ?_
      refine zz_isub zd_3_4_151 ?_
      refine zz_nrm (fun v377 hv377 ev377 => ?_)
      refine zz_mmin (by omega) (by omega) zd_3_4_152 zm_Compiler_24 ⟨Nat.le_of_ble_eq_true rfl, Nat.le_of_ble_eq_true rfl⟩ (Nat.zero_le _) (Nat.zero_le _) (fun v378 hv378 => ?_)
      refine zz_goto zd_3_4_155 ?_
      refine zz_puti zd_3_4_162 zf_Compiler_115 zT_1076 rfl (zz_ltn hn rfl) (fun S379 qS379 => ?_)
      have G_S379 := zz_G.put G_S qS379 (-2147483648) 2147483647 rfl (by omega)
      have F_S379 := zz_fr.puts F_S qS379 rfl
      refine zz_aload_n (x := 1076) rfl zd_3_4_165 ?_
      have g380 := zz_G.r G_S 1076 13 (-2147483648) 2147483647 rfl rfl
      refine zz_geti (z := S 1076 13) zd_3_4_166 zf_Compiler_106 zT_1076 rfl (zz_ltn hn rfl) (zz_ro qS379 (fun h => absurd h.2 (by decide)) rfl) ?_
      refine zz_iload_n (x := x3) rfl zd_3_4_169 ?_
      refine zz_iconst zd_3_4_170 ?_
      refine zz_isub zd_3_4_171 ?_
      refine zz_nrm (fun v381 hv381 ev381 => ?_)
      refine zz_icmp_ne (by omega) (by omega) zd_3_4_172 (fun c382 => ?_) (fun c382 => ?_)
      · refine zz_iconst zd_3_4_204 ?_
        refine zz_istore [some (.ref 1076), some (zi x1), none, some (zi x3), some (zi x4), some (zi x5), some (zi (S0 1076 12)), some (zi 0)] zd_3_4_205 (by decide) rfl ?_
        refine zz_aload_n (x := 1076) rfl zd_3_4_207 ?_
        refine zz_aload_n (x := 1076) rfl zd_3_4_208 ?_
        have g383 := zz_G.r G_S 1076 12 (-2147483648) 2147483647 rfl rfl
        refine zz_geti (z := S 1076 12) zd_3_4_209 zf_Compiler_73 zT_1076 rfl (zz_ltn hn rfl) (zz_ro qS379 (fun h => absurd h.2 (by decide)) rfl) ?_
        refine zz_iload (x := S0 1076 12) rfl zd_3_4_212 ?_
        refine zz_icmp_ne (by omega) (by omega) zd_3_4_214 (fun c384 => ?_) (fun c384 => ?_)
        · refine zz_iconst zd_3_4_221 ?_
          refine zz_iload (x := 0) rfl zd_3_4_222 ?_
          have g385 := zz_G.r G_S 1076 1 0 1000000 rfl rfl
          have e386 : S379 1076 1 = S 1076 1 := (zz_ro qS379 (fun h => absurd h.2 (by decide)) rfl)
          have g387 := zz_G.r G_S0 1076 3 (-1) 23 rfl rfl
          have e388 : S379 1076 3 = S0 1076 3 := (zz_ro qS379 (fun h => absurd h.2 (by decide)) (zz_rc F_S rfl rfl (fun h => h) rfl))
          have e389 : S379 1076 4 = S0 1076 4 := (zz_ro qS379 (fun h => absurd h.2 (by decide)) (zz_rc F_S rfl rfl (fun h => h) rfl))
          have g390 := zz_G.r G_S0 1076 5 (-1) 23 rfl rfl
          have e391 : S379 1076 5 = S0 1076 5 := (zz_ro qS379 (fun h => absurd h.2 (by decide)) (zz_rc F_S rfl rfl (fun h => h) rfl))
          refine zz_callVV [zi 0, zi 0] zd_3_4_224 zk_Compiler_118 zT_1076 (zz_ltn hn rfl) rfl rfl ⟨Nat.le_of_ble_eq_true rfl, Nat.le_of_ble_eq_true rfl⟩ ⟨rfl, rfl⟩ (Nat.zero_le _) (Nat.zero_le _) (zc_makeGroup_3_5 0 0 S379 n hn G_S379 (by omega) (by omega) (by omega) (by omega)) (fun S392 hP => ?_)
          obtain ⟨G_S392, fS392, o394⟩ := hP
          have F_S392 := zz_fr.trans F_S379 fS392 rfl zz_nv
          refine zz_aload_n (x := 1076) rfl zd_3_4_227 ?_
          refine zz_dup rfl zd_3_4_228 ?_
          refine zz_geti (z := S 1076 12) zd_3_4_229 zf_Compiler_73 zT_1076 rfl (zz_ltn hn rfl) (zz_rc fS392 rfl rfl (fun h => h) (zz_ro qS379 (fun h => absurd h.2 (by decide)) rfl)) ?_
          refine zz_iconst zd_3_4_232 ?_
          refine zz_iadd zd_3_4_233 ?_
          refine zz_nrm (fun v395 hv395 ev395 => ?_)
          refine zz_puti zd_3_4_234 zf_Compiler_73 zT_1076 rfl (zz_ltn hn rfl) (fun S396 qS396 => ?_)
          have G_S396 := zz_G.put G_S392 qS396 (-2147483648) 2147483647 rfl (by omega)
          have F_S396 := zz_fr.puts F_S392 qS396 rfl
          refine zz_aload_n (x := 1076) rfl zd_3_4_237 ?_
          refine zz_dup rfl zd_3_4_238 ?_
          refine zz_geti (z := S 1076 15) zd_3_4_239 zf_Compiler_112 zT_1076 rfl (zz_ltn hn rfl) (zz_ro qS396 (fun h => absurd h.2 (by decide)) (zz_rc fS392 rfl rfl (fun h => h) (zz_ro qS379 (fun h => absurd h.2 (by decide)) rfl))) ?_
          refine zz_aload_n (x := 1076) rfl zd_3_4_242 ?_
          refine zz_geti (z := S0 1076 2) zd_3_4_243 zf_Compiler_21 zT_1076 rfl (zz_ltn hn rfl) (zz_ro qS396 (fun h => absurd h.2 (by decide)) (zz_rc fS392 rfl rfl (fun h => h) (zz_ro qS379 (fun h => absurd h.2 (by decide)) (zz_rc F_S rfl rfl (fun h => h) rfl)))) ?_
          refine zz_iadd zd_3_4_246 ?_
          refine zz_puti zd_3_4_247 zf_Compiler_112 zT_1076 rfl (zz_ltn hn rfl) (fun S397 qS397 => ?_)
          have G_S397 := zz_G.put G_S396 qS397 (-2147483648) 2147483647 rfl (by omega)
          have F_S397 := zz_fr.puts F_S396 qS397 rfl
          refine zz_goto zd_3_4_250 ?_
          have e398 : S397 1076 13 = S 1076 13 := (zz_ro qS397 (fun h => absurd h.2 (by decide)) (zz_ro qS396 (fun h => absurd h.2 (by decide)) (zz_rc fS392 rfl rfl (fun h => h) (zz_ro qS379 (fun h => absurd h.2 (by decide)) rfl))))
          have g399 := zz_G.r G_S 1076 14 (-2147483648) 2147483647 rfl rfl
          have e400 : S397 1076 14 = S 1076 14 := (zz_ro qS397 (fun h => absurd h.2 (by decide)) (zz_ro qS396 (fun h => absurd h.2 (by decide)) (zz_rc fS392 rfl rfl (fun h => h) (zz_ro qS379 (fun h => absurd h.2 (by decide)) rfl))))
          have e401 : S397 1076 15 = (S 1076 15) + (S0 1076 2) := (zz_rs qS397)
          have g402 := zz_G.r G_S392 1076 1 0 1000000 rfl rfl
          have e403 : S397 1076 1 = S392 1076 1 := (zz_ro qS397 (fun h => absurd h.2 (by decide)) (zz_ro qS396 (fun h => absurd h.2 (by decide)) rfl))
          refine zz_less (ls1 := [some (.ref 1076), some (zi x1), none, some (zi x3), some (zi x4), some (zi x5), some (zi (S0 1076 12))]) ⟨rfl, ⟨rfl, ⟨rfl, ⟨rfl, ⟨rfl, ⟨rfl, trivial⟩⟩⟩⟩⟩⟩ ?_
          exact k122 x1 x3 x4 x5 S397 G_S397 F_S397 (by omega) (by omega) (by omega) (by omega) (by omega) (by omega) (by omega) (by omega) (by omega) (by omega) (by omega)
        · refine zz_iconst zd_3_4_217 ?_
          refine zz_goto zd_3_4_218 ?_
          refine zz_iload (x := 0) rfl zd_3_4_222 ?_
          have g404 := zz_G.r G_S 1076 1 0 1000000 rfl rfl
          have e405 : S379 1076 1 = S 1076 1 := (zz_ro qS379 (fun h => absurd h.2 (by decide)) rfl)
          have g406 := zz_G.r G_S0 1076 3 (-1) 23 rfl rfl
          have e407 : S379 1076 3 = S0 1076 3 := (zz_ro qS379 (fun h => absurd h.2 (by decide)) (zz_rc F_S rfl rfl (fun h => h) rfl))
          have e408 : S379 1076 4 = S0 1076 4 := (zz_ro qS379 (fun h => absurd h.2 (by decide)) (zz_rc F_S rfl rfl (fun h => h) rfl))
          have g409 := zz_G.r G_S0 1076 5 (-1) 23 rfl rfl
          have e410 : S379 1076 5 = S0 1076 5 := (zz_ro qS379 (fun h => absurd h.2 (by decide)) (zz_rc F_S rfl rfl (fun h => h) rfl))
          refine zz_callVV [zi 1, zi 0] zd_3_4_224 zk_Compiler_118 zT_1076 (zz_ltn hn rfl) rfl rfl ⟨Nat.le_of_ble_eq_true rfl, Nat.le_of_ble_eq_true rfl⟩ ⟨rfl, rfl⟩ (Nat.zero_le _) (Nat.zero_le _) (zc_makeGroup_3_5 1 0 S379 n hn G_S379 (by omega) (by omega) (by omega) (by omega)) (fun S411 hP => ?_)
          obtain ⟨G_S411, fS411, o413⟩ := hP
          have F_S411 := zz_fr.trans F_S379 fS411 rfl zz_nv
          refine zz_aload_n (x := 1076) rfl zd_3_4_227 ?_
          refine zz_dup rfl zd_3_4_228 ?_
          refine zz_geti (z := S 1076 12) zd_3_4_229 zf_Compiler_73 zT_1076 rfl (zz_ltn hn rfl) (zz_rc fS411 rfl rfl (fun h => h) (zz_ro qS379 (fun h => absurd h.2 (by decide)) rfl)) ?_
          refine zz_iconst zd_3_4_232 ?_
          refine zz_iadd zd_3_4_233 ?_
          refine zz_nrm (fun v414 hv414 ev414 => ?_)
          refine zz_puti zd_3_4_234 zf_Compiler_73 zT_1076 rfl (zz_ltn hn rfl) (fun S415 qS415 => ?_)
          have G_S415 := zz_G.put G_S411 qS415 (-2147483648) 2147483647 rfl (by omega)
          have F_S415 := zz_fr.puts F_S411 qS415 rfl
          refine zz_aload_n (x := 1076) rfl zd_3_4_237 ?_
          refine zz_dup rfl zd_3_4_238 ?_
          refine zz_geti (z := S 1076 15) zd_3_4_239 zf_Compiler_112 zT_1076 rfl (zz_ltn hn rfl) (zz_ro qS415 (fun h => absurd h.2 (by decide)) (zz_rc fS411 rfl rfl (fun h => h) (zz_ro qS379 (fun h => absurd h.2 (by decide)) rfl))) ?_
          refine zz_aload_n (x := 1076) rfl zd_3_4_242 ?_
          refine zz_geti (z := S0 1076 2) zd_3_4_243 zf_Compiler_21 zT_1076 rfl (zz_ltn hn rfl) (zz_ro qS415 (fun h => absurd h.2 (by decide)) (zz_rc fS411 rfl rfl (fun h => h) (zz_ro qS379 (fun h => absurd h.2 (by decide)) (zz_rc F_S rfl rfl (fun h => h) rfl)))) ?_
          refine zz_iadd zd_3_4_246 ?_
          refine zz_puti zd_3_4_247 zf_Compiler_112 zT_1076 rfl (zz_ltn hn rfl) (fun S416 qS416 => ?_)
          have G_S416 := zz_G.put G_S415 qS416 (-2147483648) 2147483647 rfl (by omega)
          have F_S416 := zz_fr.puts F_S415 qS416 rfl
          refine zz_goto zd_3_4_250 ?_
          have e417 : S416 1076 13 = S 1076 13 := (zz_ro qS416 (fun h => absurd h.2 (by decide)) (zz_ro qS415 (fun h => absurd h.2 (by decide)) (zz_rc fS411 rfl rfl (fun h => h) (zz_ro qS379 (fun h => absurd h.2 (by decide)) rfl))))
          have g418 := zz_G.r G_S 1076 14 (-2147483648) 2147483647 rfl rfl
          have e419 : S416 1076 14 = S 1076 14 := (zz_ro qS416 (fun h => absurd h.2 (by decide)) (zz_ro qS415 (fun h => absurd h.2 (by decide)) (zz_rc fS411 rfl rfl (fun h => h) (zz_ro qS379 (fun h => absurd h.2 (by decide)) rfl))))
          have e420 : S416 1076 15 = (S 1076 15) + (S0 1076 2) := (zz_rs qS416)
          have g421 := zz_G.r G_S411 1076 1 0 1000000 rfl rfl
          have e422 : S416 1076 1 = S411 1076 1 := (zz_ro qS416 (fun h => absurd h.2 (by decide)) (zz_ro qS415 (fun h => absurd h.2 (by decide)) rfl))
          refine zz_less (ls1 := [some (.ref 1076), some (zi x1), none, some (zi x3), some (zi x4), some (zi x5), some (zi (S0 1076 12))]) ⟨rfl, ⟨rfl, ⟨rfl, ⟨rfl, ⟨rfl, ⟨rfl, trivial⟩⟩⟩⟩⟩⟩ ?_
          exact k122 x1 x3 x4 x5 S416 G_S416 F_S416 (by omega) (by omega) (by omega) (by omega) (by omega) (by omega) (by omega) (by omega) (by omega) (by omega) (by omega)
      · refine zz_aload_n (x := 1076) rfl zd_3_4_175 ?_
        have g423 := zz_G.r G_S 1076 14 (-2147483648) 2147483647 rfl rfl
        refine zz_geti (z := S 1076 14) zd_3_4_176 zf_Compiler_109 zT_1076 rfl (zz_ltn hn rfl) (zz_ro qS379 (fun h => absurd h.2 (by decide)) rfl) ?_
        refine zz_iload (x := x4) rfl zd_3_4_179 ?_
        refine zz_iconst zd_3_4_181 ?_
        refine zz_isub zd_3_4_182 ?_
        refine zz_nrm (fun v424 hv424 ev424 => ?_)
        refine zz_icmp_ne (by omega) (by omega) zd_3_4_183 (fun c425 => ?_) (fun c425 => ?_)
        · refine zz_iconst zd_3_4_204 ?_
          refine zz_istore [some (.ref 1076), some (zi x1), none, some (zi x3), some (zi x4), some (zi x5), some (zi (S0 1076 12)), some (zi 0)] zd_3_4_205 (by decide) rfl ?_
          refine zz_aload_n (x := 1076) rfl zd_3_4_207 ?_
          refine zz_aload_n (x := 1076) rfl zd_3_4_208 ?_
          have g426 := zz_G.r G_S 1076 12 (-2147483648) 2147483647 rfl rfl
          refine zz_geti (z := S 1076 12) zd_3_4_209 zf_Compiler_73 zT_1076 rfl (zz_ltn hn rfl) (zz_ro qS379 (fun h => absurd h.2 (by decide)) rfl) ?_
          refine zz_iload (x := S0 1076 12) rfl zd_3_4_212 ?_
          refine zz_icmp_ne (by omega) (by omega) zd_3_4_214 (fun c427 => ?_) (fun c427 => ?_)
          · refine zz_iconst zd_3_4_221 ?_
            refine zz_iload (x := 0) rfl zd_3_4_222 ?_
            have g428 := zz_G.r G_S 1076 1 0 1000000 rfl rfl
            have e429 : S379 1076 1 = S 1076 1 := (zz_ro qS379 (fun h => absurd h.2 (by decide)) rfl)
            have g430 := zz_G.r G_S0 1076 3 (-1) 23 rfl rfl
            have e431 : S379 1076 3 = S0 1076 3 := (zz_ro qS379 (fun h => absurd h.2 (by decide)) (zz_rc F_S rfl rfl (fun h => h) rfl))
            have e432 : S379 1076 4 = S0 1076 4 := (zz_ro qS379 (fun h => absurd h.2 (by decide)) (zz_rc F_S rfl rfl (fun h => h) rfl))
            have g433 := zz_G.r G_S0 1076 5 (-1) 23 rfl rfl
            have e434 : S379 1076 5 = S0 1076 5 := (zz_ro qS379 (fun h => absurd h.2 (by decide)) (zz_rc F_S rfl rfl (fun h => h) rfl))
            refine zz_callVV [zi 0, zi 0] zd_3_4_224 zk_Compiler_118 zT_1076 (zz_ltn hn rfl) rfl rfl ⟨Nat.le_of_ble_eq_true rfl, Nat.le_of_ble_eq_true rfl⟩ ⟨rfl, rfl⟩ (Nat.zero_le _) (Nat.zero_le _) (zc_makeGroup_3_5 0 0 S379 n hn G_S379 (by omega) (by omega) (by omega) (by omega)) (fun S435 hP => ?_)
            obtain ⟨G_S435, fS435, o437⟩ := hP
            have F_S435 := zz_fr.trans F_S379 fS435 rfl zz_nv
            refine zz_aload_n (x := 1076) rfl zd_3_4_227 ?_
            refine zz_dup rfl zd_3_4_228 ?_
            refine zz_geti (z := S 1076 12) zd_3_4_229 zf_Compiler_73 zT_1076 rfl (zz_ltn hn rfl) (zz_rc fS435 rfl rfl (fun h => h) (zz_ro qS379 (fun h => absurd h.2 (by decide)) rfl)) ?_
            refine zz_iconst zd_3_4_232 ?_
            refine zz_iadd zd_3_4_233 ?_
            refine zz_nrm (fun v438 hv438 ev438 => ?_)
            refine zz_puti zd_3_4_234 zf_Compiler_73 zT_1076 rfl (zz_ltn hn rfl) (fun S439 qS439 => ?_)
            have G_S439 := zz_G.put G_S435 qS439 (-2147483648) 2147483647 rfl (by omega)
            have F_S439 := zz_fr.puts F_S435 qS439 rfl
            refine zz_aload_n (x := 1076) rfl zd_3_4_237 ?_
            refine zz_dup rfl zd_3_4_238 ?_
            refine zz_geti (z := S 1076 15) zd_3_4_239 zf_Compiler_112 zT_1076 rfl (zz_ltn hn rfl) (zz_ro qS439 (fun h => absurd h.2 (by decide)) (zz_rc fS435 rfl rfl (fun h => h) (zz_ro qS379 (fun h => absurd h.2 (by decide)) rfl))) ?_
            refine zz_aload_n (x := 1076) rfl zd_3_4_242 ?_
            refine zz_geti (z := S0 1076 2) zd_3_4_243 zf_Compiler_21 zT_1076 rfl (zz_ltn hn rfl) (zz_ro qS439 (fun h => absurd h.2 (by decide)) (zz_rc fS435 rfl rfl (fun h => h) (zz_ro qS379 (fun h => absurd h.2 (by decide)) (zz_rc F_S rfl rfl (fun h => h) rfl)))) ?_
            refine zz_iadd zd_3_4_246 ?_
            refine zz_puti zd_3_4_247 zf_Compiler_112 zT_1076 rfl (zz_ltn hn rfl) (fun S440 qS440 => ?_)
            have G_S440 := zz_G.put G_S439 qS440 (-2147483648) 2147483647 rfl (by omega)
            have F_S440 := zz_fr.puts F_S439 qS440 rfl
            refine zz_goto zd_3_4_250 ?_
            have e441 : S440 1076 13 = S 1076 13 := (zz_ro qS440 (fun h => absurd h.2 (by decide)) (zz_ro qS439 (fun h => absurd h.2 (by decide)) (zz_rc fS435 rfl rfl (fun h => h) (zz_ro qS379 (fun h => absurd h.2 (by decide)) rfl))))
            have e442 : S440 1076 14 = S 1076 14 := (zz_ro qS440 (fun h => absurd h.2 (by decide)) (zz_ro qS439 (fun h => absurd h.2 (by decide)) (zz_rc fS435 rfl rfl (fun h => h) (zz_ro qS379 (fun h => absurd h.2 (by decide)) rfl))))
            have e443 : S440 1076 15 = (S 1076 15) + (S0 1076 2) := (zz_rs qS440)
            have g444 := zz_G.r G_S435 1076 1 0 1000000 rfl rfl
            have e445 : S440 1076 1 = S435 1076 1 := (zz_ro qS440 (fun h => absurd h.2 (by decide)) (zz_ro qS439 (fun h => absurd h.2 (by decide)) rfl))
            refine zz_less (ls1 := [some (.ref 1076), some (zi x1), none, some (zi x3), some (zi x4), some (zi x5), some (zi (S0 1076 12))]) ⟨rfl, ⟨rfl, ⟨rfl, ⟨rfl, ⟨rfl, ⟨rfl, trivial⟩⟩⟩⟩⟩⟩ ?_
            exact k122 x1 x3 x4 x5 S440 G_S440 F_S440 (by omega) (by omega) (by omega) (by omega) (by omega) (by omega) (by omega) (by omega) (by omega) (by omega) (by omega)
          · refine zz_iconst zd_3_4_217 ?_
            refine zz_goto zd_3_4_218 ?_
            refine zz_iload (x := 0) rfl zd_3_4_222 ?_
            have g446 := zz_G.r G_S 1076 1 0 1000000 rfl rfl
            have e447 : S379 1076 1 = S 1076 1 := (zz_ro qS379 (fun h => absurd h.2 (by decide)) rfl)
            have g448 := zz_G.r G_S0 1076 3 (-1) 23 rfl rfl
            have e449 : S379 1076 3 = S0 1076 3 := (zz_ro qS379 (fun h => absurd h.2 (by decide)) (zz_rc F_S rfl rfl (fun h => h) rfl))
            have e450 : S379 1076 4 = S0 1076 4 := (zz_ro qS379 (fun h => absurd h.2 (by decide)) (zz_rc F_S rfl rfl (fun h => h) rfl))
            have g451 := zz_G.r G_S0 1076 5 (-1) 23 rfl rfl
            have e452 : S379 1076 5 = S0 1076 5 := (zz_ro qS379 (fun h => absurd h.2 (by decide)) (zz_rc F_S rfl rfl (fun h => h) rfl))
            refine zz_callVV [zi 1, zi 0] zd_3_4_224 zk_Compiler_118 zT_1076 (zz_ltn hn rfl) rfl rfl ⟨Nat.le_of_ble_eq_true rfl, Nat.le_of_ble_eq_true rfl⟩ ⟨rfl, rfl⟩ (Nat.zero_le _) (Nat.zero_le _) (zc_makeGroup_3_5 1 0 S379 n hn G_S379 (by omega) (by omega) (by omega) (by omega)) (fun S453 hP => ?_)
            obtain ⟨G_S453, fS453, o455⟩ := hP
            have F_S453 := zz_fr.trans F_S379 fS453 rfl zz_nv
            refine zz_aload_n (x := 1076) rfl zd_3_4_227 ?_
            refine zz_dup rfl zd_3_4_228 ?_
            refine zz_geti (z := S 1076 12) zd_3_4_229 zf_Compiler_73 zT_1076 rfl (zz_ltn hn rfl) (zz_rc fS453 rfl rfl (fun h => h) (zz_ro qS379 (fun h => absurd h.2 (by decide)) rfl)) ?_
            refine zz_iconst zd_3_4_232 ?_
            refine zz_iadd zd_3_4_233 ?_
            refine zz_nrm (fun v456 hv456 ev456 => ?_)
            refine zz_puti zd_3_4_234 zf_Compiler_73 zT_1076 rfl (zz_ltn hn rfl) (fun S457 qS457 => ?_)
            have G_S457 := zz_G.put G_S453 qS457 (-2147483648) 2147483647 rfl (by omega)
            have F_S457 := zz_fr.puts F_S453 qS457 rfl
            refine zz_aload_n (x := 1076) rfl zd_3_4_237 ?_
            refine zz_dup rfl zd_3_4_238 ?_
            refine zz_geti (z := S 1076 15) zd_3_4_239 zf_Compiler_112 zT_1076 rfl (zz_ltn hn rfl) (zz_ro qS457 (fun h => absurd h.2 (by decide)) (zz_rc fS453 rfl rfl (fun h => h) (zz_ro qS379 (fun h => absurd h.2 (by decide)) rfl))) ?_
            refine zz_aload_n (x := 1076) rfl zd_3_4_242 ?_
            refine zz_geti (z := S0 1076 2) zd_3_4_243 zf_Compiler_21 zT_1076 rfl (zz_ltn hn rfl) (zz_ro qS457 (fun h => absurd h.2 (by decide)) (zz_rc fS453 rfl rfl (fun h => h) (zz_ro qS379 (fun h => absurd h.2 (by decide)) (zz_rc F_S rfl rfl (fun h => h) rfl)))) ?_
            refine zz_iadd zd_3_4_246 ?_
            refine zz_puti zd_3_4_247 zf_Compiler_112 zT_1076 rfl (zz_ltn hn rfl) (fun S458 qS458 => ?_)
            have G_S458 := zz_G.put G_S457 qS458 (-2147483648) 2147483647 rfl (by omega)
            have F_S458 := zz_fr.puts F_S457 qS458 rfl
            refine zz_goto zd_3_4_250 ?_
            have e459 : S458 1076 13 = S 1076 13 := (zz_ro qS458 (fun h => absurd h.2 (by decide)) (zz_ro qS457 (fun h => absurd h.2 (by decide)) (zz_rc fS453 rfl rfl (fun h => h) (zz_ro qS379 (fun h => absurd h.2 (by decide)) rfl))))
            have e460 : S458 1076 14 = S 1076 14 := (zz_ro qS458 (fun h => absurd h.2 (by decide)) (zz_ro qS457 (fun h => absurd h.2 (by decide)) (zz_rc fS453 rfl rfl (fun h => h) (zz_ro qS379 (fun h => absurd h.2 (by decide)) rfl))))
            have e461 : S458 1076 15 = (S 1076 15) + (S0 1076 2) := (zz_rs qS458)
            have g462 := zz_G.r G_S453 1076 1 0 1000000 rfl rfl
            have e463 : S458 1076 1 = S453 1076 1 := (zz_ro qS458 (fun h => absurd h.2 (by decide)) (zz_ro qS457 (fun h => absurd h.2 (by decide)) rfl))
            refine zz_less (ls1 := [some (.ref 1076), some (zi x1), none, some (zi x3), some (zi x4), some (zi x5), some (zi (S0 1076 12))]) ⟨rfl, ⟨rfl, ⟨rfl, ⟨rfl, ⟨rfl, ⟨rfl, trivial⟩⟩⟩⟩⟩⟩ ?_
            exact k122 x1 x3 x4 x5 S458 G_S458 F_S458 (by omega) (by omega) (by omega) (by omega) (by omega) (by omega) (by omega) (by omega) (by omega) (by omega) (by omega)
        · refine zz_aload_n (x := 1076) rfl zd_3_4_186 ?_
          refine zz_geti (z := S 1076 15) zd_3_4_187 zf_Compiler_112 zT_1076 rfl (zz_ltn hn rfl) (zz_ro qS379 (fun h => absurd h.2 (by decide)) rfl) ?_
          refine zz_aload_n (x := 1076) rfl zd_3_4_190 ?_
          refine zz_geti (z := S0 1076 2) zd_3_4_191 zf_Compiler_21 zT_1076 rfl (zz_ltn hn rfl) (zz_ro qS379 (fun h => absurd h.2 (by decide)) (zz_rc F_S rfl rfl (fun h => h) rfl)) ?_
          refine zz_iadd zd_3_4_194 ?_
          refine zz_iload (x := x5) rfl zd_3_4_195 ?_
          refine zz_icmp_lt (by omega) (by omega) zd_3_4_197 (fun c464 => ?_) (fun c464 => ?_)
          · refine zz_iconst zd_3_4_204 ?_
            refine zz_istore [some (.ref 1076), some (zi x1), none, some (zi x3), some (zi x4), some (zi x5), some (zi (S0 1076 12)), some (zi 0)] zd_3_4_205 (by decide) rfl ?_
            refine zz_aload_n (x := 1076) rfl zd_3_4_207 ?_
            refine zz_aload_n (x := 1076) rfl zd_3_4_208 ?_
            have g465 := zz_G.r G_S 1076 12 (-2147483648) 2147483647 rfl rfl
            refine zz_geti (z := S 1076 12) zd_3_4_209 zf_Compiler_73 zT_1076 rfl (zz_ltn hn rfl) (zz_ro qS379 (fun h => absurd h.2 (by decide)) rfl) ?_
            refine zz_iload (x := S0 1076 12) rfl zd_3_4_212 ?_
            refine zz_icmp_ne (by omega) (by omega) zd_3_4_214 (fun c466 => ?_) (fun c466 => ?_)
            · refine zz_iconst zd_3_4_221 ?_
              refine zz_iload (x := 0) rfl zd_3_4_222 ?_
              have g467 := zz_G.r G_S 1076 1 0 1000000 rfl rfl
              have e468 : S379 1076 1 = S 1076 1 := (zz_ro qS379 (fun h => absurd h.2 (by decide)) rfl)
              have g469 := zz_G.r G_S0 1076 3 (-1) 23 rfl rfl
              have e470 : S379 1076 3 = S0 1076 3 := (zz_ro qS379 (fun h => absurd h.2 (by decide)) (zz_rc F_S rfl rfl (fun h => h) rfl))
              have e471 : S379 1076 4 = S0 1076 4 := (zz_ro qS379 (fun h => absurd h.2 (by decide)) (zz_rc F_S rfl rfl (fun h => h) rfl))
              have g472 := zz_G.r G_S0 1076 5 (-1) 23 rfl rfl
              have e473 : S379 1076 5 = S0 1076 5 := (zz_ro qS379 (fun h => absurd h.2 (by decide)) (zz_rc F_S rfl rfl (fun h => h) rfl))
              refine zz_callVV [zi 0, zi 0] zd_3_4_224 zk_Compiler_118 zT_1076 (zz_ltn hn rfl) rfl rfl ⟨Nat.le_of_ble_eq_true rfl, Nat.le_of_ble_eq_true rfl⟩ ⟨rfl, rfl⟩ (Nat.zero_le _) (Nat.zero_le _) (zc_makeGroup_3_5 0 0 S379 n hn G_S379 (by omega) (by omega) (by omega) (by omega)) (fun S474 hP => ?_)
              obtain ⟨G_S474, fS474, o476⟩ := hP
              have F_S474 := zz_fr.trans F_S379 fS474 rfl zz_nv
              refine zz_aload_n (x := 1076) rfl zd_3_4_227 ?_
              refine zz_dup rfl zd_3_4_228 ?_
              refine zz_geti (z := S 1076 12) zd_3_4_229 zf_Compiler_73 zT_1076 rfl (zz_ltn hn rfl) (zz_rc fS474 rfl rfl (fun h => h) (zz_ro qS379 (fun h => absurd h.2 (by decide)) rfl)) ?_
              refine zz_iconst zd_3_4_232 ?_
              refine zz_iadd zd_3_4_233 ?_
              refine zz_nrm (fun v477 hv477 ev477 => ?_)
              refine zz_puti zd_3_4_234 zf_Compiler_73 zT_1076 rfl (zz_ltn hn rfl) (fun S478 qS478 => ?_)
              have G_S478 := zz_G.put G_S474 qS478 (-2147483648) 2147483647 rfl (by omega)
              have F_S478 := zz_fr.puts F_S474 qS478 rfl
              refine zz_aload_n (x := 1076) rfl zd_3_4_237 ?_
              refine zz_dup rfl zd_3_4_238 ?_
              refine zz_geti (z := S 1076 15) zd_3_4_239 zf_Compiler_112 zT_1076 rfl (zz_ltn hn rfl) (zz_ro qS478 (fun h => absurd h.2 (by decide)) (zz_rc fS474 rfl rfl (fun h => h) (zz_ro qS379 (fun h => absurd h.2 (by decide)) rfl))) ?_
              refine zz_aload_n (x := 1076) rfl zd_3_4_242 ?_
              refine zz_geti (z := S0 1076 2) zd_3_4_243 zf_Compiler_21 zT_1076 rfl (zz_ltn hn rfl) (zz_ro qS478 (fun h => absurd h.2 (by decide)) (zz_rc fS474 rfl rfl (fun h => h) (zz_ro qS379 (fun h => absurd h.2 (by decide)) (zz_rc F_S rfl rfl (fun h => h) rfl)))) ?_
              refine zz_iadd zd_3_4_246 ?_
              refine zz_puti zd_3_4_247 zf_Compiler_112 zT_1076 rfl (zz_ltn hn rfl) (fun S479 qS479 => ?_)
              have G_S479 := zz_G.put G_S478 qS479 (-2147483648) 2147483647 rfl (by omega)
              have F_S479 := zz_fr.puts F_S478 qS479 rfl
              refine zz_goto zd_3_4_250 ?_
              have e480 : S479 1076 13 = S 1076 13 := (zz_ro qS479 (fun h => absurd h.2 (by decide)) (zz_ro qS478 (fun h => absurd h.2 (by decide)) (zz_rc fS474 rfl rfl (fun h => h) (zz_ro qS379 (fun h => absurd h.2 (by decide)) rfl))))
              have e481 : S479 1076 14 = S 1076 14 := (zz_ro qS479 (fun h => absurd h.2 (by decide)) (zz_ro qS478 (fun h => absurd h.2 (by decide)) (zz_rc fS474 rfl rfl (fun h => h) (zz_ro qS379 (fun h => absurd h.2 (by decide)) rfl))))
              have e482 : S479 1076 15 = (S 1076 15) + (S0 1076 2) := (zz_rs qS479)
              have g483 := zz_G.r G_S474 1076 1 0 1000000 rfl rfl
              have e484 : S479 1076 1 = S474 1076 1 := (zz_ro qS479 (fun h => absurd h.2 (by decide)) (zz_ro qS478 (fun h => absurd h.2 (by decide)) rfl))
              refine zz_less (ls1 := [some (.ref 1076), some (zi x1), none, some (zi x3), some (zi x4), some (zi x5), some (zi (S0 1076 12))]) ⟨rfl, ⟨rfl, ⟨rfl, ⟨rfl, ⟨rfl, ⟨rfl, trivial⟩⟩⟩⟩⟩⟩ ?_
              exact k122 x1 x3 x4 x5 S479 G_S479 F_S479 (by omega) (by omega) (by omega) (by omega) (by omega) (by omega) (by omega) (by omega) (by omega) (by omega) (by omega)
            · refine zz_iconst zd_3_4_217 ?_
              refine zz_goto zd_3_4_218 ?_
              refine zz_iload (x := 0) rfl zd_3_4_222 ?_
              have g485 := zz_G.r G_S 1076 1 0 1000000 rfl rfl
              have e486 : S379 1076 1 = S 1076 1 := (zz_ro qS379 (fun h => absurd h.2 (by decide)) rfl)
              have g487 := zz_G.r G_S0 1076 3 (-1) 23 rfl rfl
              have e488 : S379 1076 3 = S0 1076 3 := (zz_ro qS379 (fun h => absurd h.2 (by decide)) (zz_rc F_S rfl rfl (fun h => h) rfl))
              have e489 : S379 1076 4 = S0 1076 4 := (zz_ro qS379 (fun h => absurd h.2 (by decide)) (zz_rc F_S rfl rfl (fun h => h) rfl))
              have g490 := zz_G.r G_S0 1076 5 (-1) 23 rfl rfl
              have e491 : S379 1076 5 = S0 1076 5 := (zz_ro qS379 (fun h => absurd h.2 (by decide)) (zz_rc F_S rfl rfl (fun h => h) rfl))
              refine zz_callVV [zi 1, zi 0] zd_3_4_224 zk_Compiler_118 zT_1076 (zz_ltn hn rfl) rfl rfl ⟨Nat.le_of_ble_eq_true rfl, Nat.le_of_ble_eq_true rfl⟩ ⟨rfl, rfl⟩ (Nat.zero_le _) (Nat.zero_le _) (zc_makeGroup_3_5 1 0 S379 n hn G_S379 (by omega) (by omega) (by omega) (by omega)) (fun S492 hP => ?_)
              obtain ⟨G_S492, fS492, o494⟩ := hP
              have F_S492 := zz_fr.trans F_S379 fS492 rfl zz_nv
              refine zz_aload_n (x := 1076) rfl zd_3_4_227 ?_
              refine zz_dup rfl zd_3_4_228 ?_
              refine zz_geti (z := S 1076 12) zd_3_4_229 zf_Compiler_73 zT_1076 rfl (zz_ltn hn rfl) (zz_rc fS492 rfl rfl (fun h => h) (zz_ro qS379 (fun h => absurd h.2 (by decide)) rfl)) ?_
              refine zz_iconst zd_3_4_232 ?_
              refine zz_iadd zd_3_4_233 ?_
              refine zz_nrm (fun v495 hv495 ev495 => ?_)
              refine zz_puti zd_3_4_234 zf_Compiler_73 zT_1076 rfl (zz_ltn hn rfl) (fun S496 qS496 => ?_)
              have G_S496 := zz_G.put G_S492 qS496 (-2147483648) 2147483647 rfl (by omega)
              have F_S496 := zz_fr.puts F_S492 qS496 rfl
              refine zz_aload_n (x := 1076) rfl zd_3_4_237 ?_
              refine zz_dup rfl zd_3_4_238 ?_
              refine zz_geti (z := S 1076 15) zd_3_4_239 zf_Compiler_112 zT_1076 rfl (zz_ltn hn rfl) (zz_ro qS496 (fun h => absurd h.2 (by decide)) (zz_rc fS492 rfl rfl (fun h => h) (zz_ro qS379 (fun h => absurd h.2 (by decide)) rfl))) ?_
              refine zz_aload_n (x := 1076) rfl zd_3_4_242 ?_
              refine zz_geti (z := S0 1076 2) zd_3_4_243 zf_Compiler_21 zT_1076 rfl (zz_ltn hn rfl) (zz_ro qS496 (fun h => absurd h.2 (by decide)) (zz_rc fS492 rfl rfl (fun h => h) (zz_ro qS379 (fun h => absurd h.2 (by decide)) (zz_rc F_S rfl rfl (fun h => h) rfl)))) ?_
              refine zz_iadd zd_3_4_246 ?_
              refine zz_puti zd_3_4_247 zf_Compiler_112 zT_1076 rfl (zz_ltn hn rfl) (fun S497 qS497 => ?_)
              have G_S497 := zz_G.put G_S496 qS497 (-2147483648) 2147483647 rfl (by omega)
              have F_S497 := zz_fr.puts F_S496 qS497 rfl
              refine zz_goto zd_3_4_250 ?_
              have e498 : S497 1076 13 = S 1076 13 := (zz_ro qS497 (fun h => absurd h.2 (by decide)) (zz_ro qS496 (fun h => absurd h.2 (by decide)) (zz_rc fS492 rfl rfl (fun h => h) (zz_ro qS379 (fun h => absurd h.2 (by decide)) rfl))))
              have e499 : S497 1076 14 = S 1076 14 := (zz_ro qS497 (fun h => absurd h.2 (by decide)) (zz_ro qS496 (fun h => absurd h.2 (by decide)) (zz_rc fS492 rfl rfl (fun h => h) (zz_ro qS379 (fun h => absurd h.2 (by decide)) rfl))))
              have e500 : S497 1076 15 = (S 1076 15) + (S0 1076 2) := (zz_rs qS497)
              have g501 := zz_G.r G_S492 1076 1 0 1000000 rfl rfl
              have e502 : S497 1076 1 = S492 1076 1 := (zz_ro qS497 (fun h => absurd h.2 (by decide)) (zz_ro qS496 (fun h => absurd h.2 (by decide)) rfl))
              refine zz_less (ls1 := [some (.ref 1076), some (zi x1), none, some (zi x3), some (zi x4), some (zi x5), some (zi (S0 1076 12))]) ⟨rfl, ⟨rfl, ⟨rfl, ⟨rfl, ⟨rfl, ⟨rfl, trivial⟩⟩⟩⟩⟩⟩ ?_
              exact k122 x1 x3 x4 x5 S497 G_S497 F_S497 (by omega) (by omega) (by omega) (by omega) (by omega) (by omega) (by omega) (by omega) (by omega) (by omega) (by omega)
          · refine zz_iconst zd_3_4_200 ?_
            refine zz_goto zd_3_4_201 ?_
            refine zz_istore [some (.ref 1076), some (zi x1), none, some (zi x3), some (zi x4), some (zi x5), some (zi (S0 1076 12)), some (zi 1)] zd_3_4_205 (by decide) rfl ?_
            refine zz_aload_n (x := 1076) rfl zd_3_4_207 ?_
            refine zz_aload_n (x := 1076) rfl zd_3_4_208 ?_
            have g503 := zz_G.r G_S 1076 12 (-2147483648) 2147483647 rfl rfl
            refine zz_geti (z := S 1076 12) zd_3_4_209 zf_Compiler_73 zT_1076 rfl (zz_ltn hn rfl) (zz_ro qS379 (fun h => absurd h.2 (by decide)) rfl) ?_
            refine zz_iload (x := S0 1076 12) rfl zd_3_4_212 ?_
            refine zz_icmp_ne (by omega) (by omega) zd_3_4_214 (fun c504 => ?_) (fun c504 => ?_)
            · refine zz_iconst zd_3_4_221 ?_
              refine zz_iload (x := 1) rfl zd_3_4_222 ?_
              have g505 := zz_G.r G_S 1076 1 0 1000000 rfl rfl
              have e506 : S379 1076 1 = S 1076 1 := (zz_ro qS379 (fun h => absurd h.2 (by decide)) rfl)
              have g507 := zz_G.r G_S0 1076 3 (-1) 23 rfl rfl
              have e508 : S379 1076 3 = S0 1076 3 := (zz_ro qS379 (fun h => absurd h.2 (by decide)) (zz_rc F_S rfl rfl (fun h => h) rfl))
              have e509 : S379 1076 4 = S0 1076 4 := (zz_ro qS379 (fun h => absurd h.2 (by decide)) (zz_rc F_S rfl rfl (fun h => h) rfl))
              have g510 := zz_G.r G_S0 1076 5 (-1) 23 rfl rfl
              have e511 : S379 1076 5 = S0 1076 5 := (zz_ro qS379 (fun h => absurd h.2 (by decide)) (zz_rc F_S rfl rfl (fun h => h) rfl))
              refine zz_callVV [zi 0, zi 1] zd_3_4_224 zk_Compiler_118 zT_1076 (zz_ltn hn rfl) rfl rfl ⟨Nat.le_of_ble_eq_true rfl, Nat.le_of_ble_eq_true rfl⟩ ⟨rfl, rfl⟩ (Nat.zero_le _) (Nat.zero_le _) (zc_makeGroup_3_5 0 1 S379 n hn G_S379 (by omega) (by omega) (by omega) (by omega)) (fun S512 hP => ?_)
              obtain ⟨G_S512, fS512, o514⟩ := hP
              have F_S512 := zz_fr.trans F_S379 fS512 rfl zz_nv
              refine zz_aload_n (x := 1076) rfl zd_3_4_227 ?_
              refine zz_dup rfl zd_3_4_228 ?_
              refine zz_geti (z := S 1076 12) zd_3_4_229 zf_Compiler_73 zT_1076 rfl (zz_ltn hn rfl) (zz_rc fS512 rfl rfl (fun h => h) (zz_ro qS379 (fun h => absurd h.2 (by decide)) rfl)) ?_
              refine zz_iconst zd_3_4_232 ?_
              refine zz_iadd zd_3_4_233 ?_
              refine zz_nrm (fun v515 hv515 ev515 => ?_)
              refine zz_puti zd_3_4_234 zf_Compiler_73 zT_1076 rfl (zz_ltn hn rfl) (fun S516 qS516 => ?_)
              have G_S516 := zz_G.put G_S512 qS516 (-2147483648) 2147483647 rfl (by omega)
              have F_S516 := zz_fr.puts F_S512 qS516 rfl
              refine zz_aload_n (x := 1076) rfl zd_3_4_237 ?_
              refine zz_dup rfl zd_3_4_238 ?_
              refine zz_geti (z := S 1076 15) zd_3_4_239 zf_Compiler_112 zT_1076 rfl (zz_ltn hn rfl) (zz_ro qS516 (fun h => absurd h.2 (by decide)) (zz_rc fS512 rfl rfl (fun h => h) (zz_ro qS379 (fun h => absurd h.2 (by decide)) rfl))) ?_
              refine zz_aload_n (x := 1076) rfl zd_3_4_242 ?_
              refine zz_geti (z := S0 1076 2) zd_3_4_243 zf_Compiler_21 zT_1076 rfl (zz_ltn hn rfl) (zz_ro qS516 (fun h => absurd h.2 (by decide)) (zz_rc fS512 rfl rfl (fun h => h) (zz_ro qS379 (fun h => absurd h.2 (by decide)) (zz_rc F_S rfl rfl (fun h => h) rfl)))) ?_
              refine zz_iadd zd_3_4_246 ?_
              refine zz_puti zd_3_4_247 zf_Compiler_112 zT_1076 rfl (zz_ltn hn rfl) (fun S517 qS517 => ?_)
              have G_S517 := zz_G.put G_S516 qS517 (-2147483648) 2147483647 rfl (by omega)
              have F_S517 := zz_fr.puts F_S516 qS517 rfl
              refine zz_goto zd_3_4_250 ?_
              have e518 : S517 1076 13 = S 1076 13 := (zz_ro qS517 (fun h => absurd h.2 (by decide)) (zz_ro qS516 (fun h => absurd h.2 (by decide)) (zz_rc fS512 rfl rfl (fun h => h) (zz_ro qS379 (fun h => absurd h.2 (by decide)) rfl))))
              have e519 : S517 1076 14 = S 1076 14 := (zz_ro qS517 (fun h => absurd h.2 (by decide)) (zz_ro qS516 (fun h => absurd h.2 (by decide)) (zz_rc fS512 rfl rfl (fun h => h) (zz_ro qS379 (fun h => absurd h.2 (by decide)) rfl))))
              have e520 : S517 1076 15 = (S 1076 15) + (S0 1076 2) := (zz_rs qS517)
              have g521 := zz_G.r G_S512 1076 1 0 1000000 rfl rfl
              have e522 : S517 1076 1 = S512 1076 1 := (zz_ro qS517 (fun h => absurd h.2 (by decide)) (zz_ro qS516 (fun h => absurd h.2 (by decide)) rfl))
              refine zz_less (ls1 := [some (.ref 1076), some (zi x1), none, some (zi x3), some (zi x4), some (zi x5), some (zi (S0 1076 12))]) ⟨rfl, ⟨rfl, ⟨rfl, ⟨rfl, ⟨rfl, ⟨rfl, trivial⟩⟩⟩⟩⟩⟩ ?_
              exact k122 x1 x3 x4 x5 S517 G_S517 F_S517 (by omega) (by omega) (by omega) (by omega) (by omega) (by omega) (by omega) (by omega) (by omega) (by omega) (by omega)
            · refine zz_iconst zd_3_4_217 ?_
              refine zz_goto zd_3_4_218 ?_
              refine zz_iload (x := 1) rfl zd_3_4_222 ?_
              have g523 := zz_G.r G_S 1076 1 0 1000000 rfl rfl
              have e524 : S379 1076 1 = S 1076 1 := (zz_ro qS379 (fun h => absurd h.2 (by decide)) rfl)
              have g525 := zz_G.r G_S0 1076 3 (-1) 23 rfl rfl
              have e526 : S379 1076 3 = S0 1076 3 := (zz_ro qS379 (fun h => absurd h.2 (by decide)) (zz_rc F_S rfl rfl (fun h => h) rfl))
              have e527 : S379 1076 4 = S0 1076 4 := (zz_ro qS379 (fun h => absurd h.2 (by decide)) (zz_rc F_S rfl rfl (fun h => h) rfl))
              have g528 := zz_G.r G_S0 1076 5 (-1) 23 rfl rfl
              have e529 : S379 1076 5 = S0 1076 5 := (zz_ro qS379 (fun h => absurd h.2 (by decide)) (zz_rc F_S rfl rfl (fun h => h) rfl))
              refine zz_callVV [zi 1, zi 1] zd_3_4_224 zk_Compiler_118 zT_1076 (zz_ltn hn rfl) rfl rfl ⟨Nat.le_of_ble_eq_true rfl, Nat.le_of_ble_eq_true rfl⟩ ⟨rfl, rfl⟩ (Nat.zero_le _) (Nat.zero_le _) (zc_makeGroup_3_5 1 1 S379 n hn G_S379 (by omega) (by omega) (by omega) (by omega)) (fun S530 hP => ?_)
              obtain ⟨G_S530, fS530, o532⟩ := hP
              have F_S530 := zz_fr.trans F_S379 fS530 rfl zz_nv
              refine zz_aload_n (x := 1076) rfl zd_3_4_227 ?_
              refine zz_dup rfl zd_3_4_228 ?_
              refine zz_geti (z := S 1076 12) zd_3_4_229 zf_Compiler_73 zT_1076 rfl (zz_ltn hn rfl) (zz_rc fS530 rfl rfl (fun h => h) (zz_ro qS379 (fun h => absurd h.2 (by decide)) rfl)) ?_
              refine zz_iconst zd_3_4_232 ?_
              refine zz_iadd zd_3_4_233 ?_
              refine zz_nrm (fun v533 hv533 ev533 => ?_)
              refine zz_puti zd_3_4_234 zf_Compiler_73 zT_1076 rfl (zz_ltn hn rfl) (fun S534 qS534 => ?_)
              have G_S534 := zz_G.put G_S530 qS534 (-2147483648) 2147483647 rfl (by omega)
              have F_S534 := zz_fr.puts F_S530 qS534 rfl
              refine zz_aload_n (x := 1076) rfl zd_3_4_237 ?_
              refine zz_dup rfl zd_3_4_238 ?_
              refine zz_geti (z := S 1076 15) zd_3_4_239 zf_Compiler_112 zT_1076 rfl (zz_ltn hn rfl) (zz_ro qS534 (fun h => absurd h.2 (by decide)) (zz_rc fS530 rfl rfl (fun h => h) (zz_ro qS379 (fun h => absurd h.2 (by decide)) rfl))) ?_
              refine zz_aload_n (x := 1076) rfl zd_3_4_242 ?_
              refine zz_geti (z := S0 1076 2) zd_3_4_243 zf_Compiler_21 zT_1076 rfl (zz_ltn hn rfl) (zz_ro qS534 (fun h => absurd h.2 (by decide)) (zz_rc fS530 rfl rfl (fun h => h) (zz_ro qS379 (fun h => absurd h.2 (by decide)) (zz_rc F_S rfl rfl (fun h => h) rfl)))) ?_
              refine zz_iadd zd_3_4_246 ?_
              refine zz_puti zd_3_4_247 zf_Compiler_112 zT_1076 rfl (zz_ltn hn rfl) (fun S535 qS535 => ?_)
              have G_S535 := zz_G.put G_S534 qS535 (-2147483648) 2147483647 rfl (by omega)
              have F_S535 := zz_fr.puts F_S534 qS535 rfl
              refine zz_goto zd_3_4_250 ?_
              have e536 : S535 1076 13 = S 1076 13 := (zz_ro qS535 (fun h => absurd h.2 (by decide)) (zz_ro qS534 (fun h => absurd h.2 (by decide)) (zz_rc fS530 rfl rfl (fun h => h) (zz_ro qS379 (fun h => absurd h.2 (by decide)) rfl))))
              have e537 : S535 1076 14 = S 1076 14 := (zz_ro qS535 (fun h => absurd h.2 (by decide)) (zz_ro qS534 (fun h => absurd h.2 (by decide)) (zz_rc fS530 rfl rfl (fun h => h) (zz_ro qS379 (fun h => absurd h.2 (by decide)) rfl))))
              have e538 : S535 1076 15 = (S 1076 15) + (S0 1076 2) := (zz_rs qS535)
              have g539 := zz_G.r G_S530 1076 1 0 1000000 rfl rfl
              have e540 : S535 1076 1 = S530 1076 1 := (zz_ro qS535 (fun h => absurd h.2 (by decide)) (zz_ro qS534 (fun h => absurd h.2 (by decide)) rfl))
              refine zz_less (ls1 := [some (.ref 1076), some (zi x1), none, some (zi x3), some (zi x4), some (zi x5), some (zi (S0 1076 12))]) ⟨rfl, ⟨rfl, ⟨rfl, ⟨rfl, ⟨rfl, ⟨rfl, trivial⟩⟩⟩⟩⟩⟩ ?_
              exact k122 x1 x3 x4 x5 S535 G_S535 F_S535 (by omega) (by omega) (by omega) (by omega) (by omega) (by omega) (by omega) (by omega) (by omega) (by omega) (by omega)

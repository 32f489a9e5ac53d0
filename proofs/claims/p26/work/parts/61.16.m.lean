-- TensorForgeModel readInput ()Z
abbrev zr_readInput_14_103 : Room := { frames := 6, cells := 0, slots := 0, locals := 89 }
def zp_readInput_14_103  (S0 : zz_S) : Int → zz_S → Prop := fun r S => zz_G S ∧ zz_fr [(1079, 0), (1079, 30), (1079, 31), (1079, 32), (1079, 36), (1079, 61), (1079, 64), (1079, 65), (1102, 0), (1103, 0), (1104, 0), (1105, 0), (1105, 1), (1117, 0), (1118, 7)] [1118] (fun _ _ => False) S0 S ∧ (0 ≤ r ∧ r ≤ 1) ∧ (r = 1 → S 1079 36 = 1) ∧ (∀ a : Int, zt_MK (S0 1099) (S0 1079 33) a (S0 1079 30) (S0 1079 32) (S0 1079 31) (S0 1079 61) → 0 ≤ a → (r = 1 ∧ zn_ig (zt_km (S0 1099) (S0 1079 33)) (zt_tn (S0 1099) (S0 1079 33)) (zt_tv (S0 1099) (S0 1079 33)) (zt_kd (S0 1099) (S0 1079 33)) a ∧ zn_M S (zn_iv (zt_km (S0 1099) (S0 1079 33)) (zt_tn (S0 1099) (S0 1079 33)) (zt_tv (S0 1099) (S0 1079 33)) (zt_kd (S0 1099) (S0 1079 33)) a) ∧ S 1117 0 = zn_io (zt_km (S0 1099) (S0 1079 33)) (zt_tn (S0 1099) (S0 1079 33)) (zt_tv (S0 1099) (S0 1079 33)) (zt_kd (S0 1099) (S0 1079 33)) (zt_tn (S0 1099) (S0 1079 33) (zt_tn (S0 1099) (S0 1079 33) (zt_tn (S0 1099) (S0 1079 33) (zt_tn (S0 1099) (S0 1079 33) (zt_tn (S0 1099) (S0 1079 33) (zt_tn (S0 1099) (S0 1079 33) a)))))) 9) ∨ (r = 0 ∧ ¬ zn_ig (zt_km (S0 1099) (S0 1079 33)) (zt_tn (S0 1099) (S0 1079 33)) (zt_tv (S0 1099) (S0 1079 33)) (zt_kd (S0 1099) (S0 1079 33)) a)) ∧ (zz_Hr S)
set_option maxHeartbeats 4000000 in
theorem zc_readInput_14_103 {g : mm_G} {l : Launch}  (S0 : zz_S) (n : Nat) (hn : zz_end ≤ n) (G_S0 : zz_G S0) (R_S0 : zz_Hr S0) (hN : ∀ w : Nat, 1 ≤ w → w ≤ 20 → S0 1100 w = zt_cd (zt_nw.getD w [])) : mm_Met g l zy_readInput_14_103 zr_readInput_14_103 [.ref 1079] (zz_M S0 n) n (zz_QI n (zp_readInput_14_103  S0)) := by
  refine zz_enter (by decide) (Nat.le_of_ble_eq_true rfl) (zz_less (ls1 := [some (.ref 1079)]) ⟨rfl, trivial⟩ ?_)
  have F_S0 : zz_fr [(1079, 0), (1079, 30), (1079, 31), (1079, 32), (1079, 36), (1079, 61), (1079, 64), (1079, 65), (1102, 0), (1103, 0), (1104, 0), (1105, 0), (1105, 1), (1117, 0), (1118, 7)] [1118] (fun _ _ => False) S0 S0 := zz_fr.refl
  refine zz_aload_n (x := 1079) rfl zd_14_103_0 ?_
  refine zz_ldc2 (z := 21676489) zq_Md_532 (by decide) zd_14_103_1 ?_
  have g1 := zz_G.r G_S0 1079 30 0 102 rfl rfl
  refine zz_callVI [zl 21676489] zd_14_103_4 zk_Md_529 zT_1079 (zz_ltn hn rfl) rfl rfl ⟨Nat.le_of_ble_eq_true rfl, Nat.le_of_ble_eq_true rfl⟩ ⟨rfl, rfl⟩ (Nat.zero_le _) (Nat.zero_le _) (zc_isWord_14_94 21676489 S0 n hn G_S0 (by omega)) (fun v3 S2 hP => ?_)
  obtain ⟨rfl, o4, o5⟩ := hP
  rcases (by omega : v3 = 0 ∨ v3 = 1) with rfl | rfl
  · try (replace o4 := o4.resolve_left (fun h => absurd h.1 (by decide)))
    try (replace o5 := o5.resolve_left (fun h => absurd h.1 (by decide)))
    refine zz_if_ne (by omega) zd_14_103_7 (fun c6 => ?_) (fun c6 => ?_)
    · exfalso; omega
    · refine zz_iconst zd_14_103_10 ?_
      have g7 := zz_G.r G_S0 1079 36 0 11 rfl rfl
      have g8 := zz_G.r G_S0 1079 0 0 3 rfl rfl
      exact zz_zret zd_14_103_11 rfl (by omega) (Nat.zero_le _) (Nat.zero_le _) ⟨_, _, rfl, G_S0, F_S0, by omega, by omega, (fun a hM ha => by have m1 := hM.1; have m2 := hM.2.1; exact Or.inr ⟨rfl, fun g => by have y := g.1; have z := hM.2.2.2 (by omega); omega⟩), R_S0⟩
  · try (replace o4 := o4.resolve_right (fun h => absurd h.1 (by decide)))
    try (replace o5 := o5.resolve_right (fun h => absurd h.1 (by decide)))
    refine zz_if_ne (by omega) zd_14_103_7 (fun c9 => ?_) (fun c9 => ?_)
    · refine zz_aload_n (x := 1079) rfl zd_14_103_12 ?_
      have g10 := zz_G.r G_S0 1079 32 0 1500 rfl rfl
      have g11 := zz_G.r G_S0 1079 33 0 1500 rfl rfl
      refine zz_callVV [] zd_14_103_13 zk_Md_526 zT_1079 (zz_ltn hn rfl) rfl rfl ⟨Nat.le_of_ble_eq_true rfl, Nat.le_of_ble_eq_true rfl⟩ ⟨rfl, rfl⟩ (Nat.zero_le _) (Nat.zero_le _) (zc_advanceNet_14_93  S0 n hn G_S0 hN) (fun S12 hP => ?_)
      obtain ⟨G_S12, fS12, o14, o15, o16, o17, o18, o19⟩ := hP
      have F_S12 := zz_fr.trans F_S0 fS12 rfl zz_nv
      have R_S12 : zz_Hr S12 := zz_Hr.fr fS12 rfl rfl (fun b j h => h.elim) R_S0
      skip
      refine zz_aload_n (x := 1079) rfl zd_14_103_16 ?_
      refine zz_iconst zd_14_103_17 ?_
      have g20 := zz_G.r G_S12 1079 30 0 102 rfl rfl
      have g21 := zz_G.r G_S12 1079 32 0 1500 rfl rfl
      have g22 := zz_G.r G_S12 1079 31 0 9999 rfl rfl
      have e23 : S12 1079 33 = S0 1079 33 := (zz_rc fS12 rfl rfl (fun h => h) rfl)
      refine zz_callVI [zi 0] zd_14_103_18 zk_Md_550 zT_1079 (zz_ltn hn rfl) rfl rfl ⟨Nat.le_of_ble_eq_true rfl, Nat.le_of_ble_eq_true rfl⟩ ⟨rfl, rfl⟩ (Nat.zero_le _) (Nat.zero_le _) (zc_takeNet_14_95 0 S12 n hn G_S12 (by omega) (fun u h1 h2 => ((zz_rc fS12 (zz_nc1 rfl) rfl (fun h => h) rfl)).trans (hN u h1 h2))) (fun v25 S24 hP => ?_)
      obtain ⟨G_S24, fS24, o26, o27, o28, o29⟩ := hP
      have o26 : 0 ≤ v25 ∧ v25 ≤ 1 := o26
      have o27 : S24 1079 32 > S12 1079 32 ∨ (S24 1079 32 = S12 1079 32 ∧ (S24 1079 30 = S12 1079 30 ∨ S24 1079 30 = 0 ∨ S24 1079 30 = 101)) := o27
      have o28 : (v25 = 1 ∧ S12 1079 30 = 100 ∧ S24 1118 0 = S12 1079 31) ∨ (v25 = 0 ∧ S12 1079 30 ≠ 100) := o28
      have o29 : v25 = 1 → zt_MK (S12 1099) (S12 1079 33) (S12 1079 32) (S24 1079 30) (S24 1079 32) (S24 1079 31) (S24 1079 61) := o29
      rw [show S12 1099 = S0 1099 from funext (fun u => (zz_rc fS12 (zz_nc1 rfl) rfl (fun h => h) rfl)), show S12 1079 33 = S0 1079 33 from (zz_rc fS12 rfl rfl (fun h => h) rfl)] at o29
      have F_S24 := zz_fr.trans F_S12 fS24 rfl (fun a i h => Or.inr (Or.inl (by rw [h.1]; rfl)))
      have R_S24 : zz_Hr S24 := zz_Hr.fr fS24 rfl rfl (fun b j h => by omega) R_S12
      rcases (by omega : v25 = 0 ∨ v25 = 1) with rfl | rfl
      · try (replace o26 := o26.resolve_left (fun h => absurd h.1 (by decide)))
        try (replace o27 := o27.resolve_left (fun h => absurd h.1 (by decide)))
        try (replace o28 := o28.resolve_left (fun h => absurd h.1 (by decide)))
        try (replace o29 := o29.resolve_left (fun h => absurd h.1 (by decide)))
        skip
        refine zz_if_eq (by omega) zd_14_103_21 (fun c30 => ?_) (fun c30 => ?_)
        · refine zz_iconst zd_14_103_58 ?_
          refine zz_istore_n [some (.ref 1079), some (zi 0)] zd_14_103_59 (by decide) rfl ?_
          refine zz_aload_n (x := 1079) rfl zd_14_103_60 ?_
          refine zz_getr (kd := 0) (z := 1118) zd_14_103_61 zf_Md_136 zT_1079 rfl (zz_ltn hn rfl) (zz_G.eq G_S24 1079 63 1118 rfl rfl) (by decide) 1118 rfl ?_
          refine zz_iconst zd_14_103_64 ?_
          have g31 := zz_G.r G_S24 1118 0 0 9999 rfl rfl
          refine zz_iald (z := S24 1118 0) zd_14_103_65 zT_1118 rfl (zz_ltn hn rfl) (by decide) (by decide) rfl ?_
          refine zz_istore_n [some (.ref 1079), some (zi 0), some (zi (S24 1118 0))] zd_14_103_66 (by decide) rfl ?_
          refine zz_aload_n (x := 1079) rfl zd_14_103_67 ?_
          refine zz_getr (kd := 0) (z := 1118) zd_14_103_68 zf_Md_136 zT_1079 rfl (zz_ltn hn rfl) (zz_G.eq G_S24 1079 63 1118 rfl rfl) (by decide) 1118 rfl ?_
          refine zz_iconst zd_14_103_71 ?_
          have g32 := zz_G.r G_S0 1118 1 0 9999 rfl rfl
          refine zz_iald (z := S0 1118 1) zd_14_103_72 zT_1118 rfl (zz_ltn hn rfl) (by decide) (by decide) (zz_rc fS24 rfl rfl (by first | decide | (intro h; exact absurd h.2 (by decide)) | omega) (zz_rc fS12 rfl rfl (fun h => h) rfl)) ?_
          refine zz_istore_n [some (.ref 1079), some (zi 0), some (zi (S24 1118 0)), some (zi (S0 1118 1))] zd_14_103_73 (by decide) rfl ?_
          refine zz_aload_n (x := 1079) rfl zd_14_103_74 ?_
          refine zz_getr (kd := 0) (z := 1118) zd_14_103_75 zf_Md_136 zT_1079 rfl (zz_ltn hn rfl) (zz_G.eq G_S24 1079 63 1118 rfl rfl) (by decide) 1118 rfl ?_
          refine zz_iconst zd_14_103_78 ?_
          have g33 := zz_G.r G_S0 1118 2 0 9999 rfl rfl
          refine zz_iald (z := S0 1118 2) zd_14_103_79 zT_1118 rfl (zz_ltn hn rfl) (by decide) (by decide) (zz_rc fS24 rfl rfl (by first | decide | (intro h; exact absurd h.2 (by decide)) | omega) (zz_rc fS12 rfl rfl (fun h => h) rfl)) ?_
          refine zz_istore [some (.ref 1079), some (zi 0), some (zi (S24 1118 0)), some (zi (S0 1118 1)), some (zi (S0 1118 2))] zd_14_103_80 (by decide) rfl ?_
          skip
          refine zz_aload_n (x := 1079) rfl zd_14_103_82 ?_
          refine zz_iconst zd_14_103_83 ?_
          refine zz_puti zd_14_103_84 zf_Md_85 zT_1079 rfl (zz_ltn hn rfl) (fun S34 qS34 => ?_)
          have G_S34 := zz_G.put G_S24 qS34 0 11 rfl (by omega)
          have F_S34 := zz_fr.puts F_S24 qS34 rfl
          have R_S34 : zz_Hr S34 := zz_Hr.none (by rw [zz_rs qS34]; decide)
          refine zz_iload_n (x := 0) rfl zd_14_103_87 ?_
          refine zz_if_eq (by omega) zd_14_103_88 (fun c35 => ?_) (fun c35 => ?_)
          · refine zz_iconst zd_14_103_101 ?_
            have e36 : S34 1079 36 = 0 := (zz_rs qS34)
            have e37 : S34 1117 0 = S0 1117 0 := (zz_ro qS34 (fun h => absurd h.1 (by decide)) (zz_rc fS24 rfl rfl (by first | decide | (intro h; exact absurd h.1 (by decide)) | omega) (zz_rc fS12 rfl rfl (fun h => h) rfl)))
            have g38 := zz_G.r G_S0 1079 0 0 3 rfl rfl
            have e39 : S34 1079 0 = S0 1079 0 := (zz_ro qS34 (fun h => absurd h.2 (by decide)) (zz_rc fS24 rfl rfl (by first | decide | (intro h; exact absurd h.1 (by decide)) | omega) (zz_rc fS12 rfl rfl (fun h => h) rfl)))
            exact zz_zret zd_14_103_102 rfl (by omega) (Nat.zero_le _) (Nat.zero_le _) ⟨_, _, rfl, G_S34, F_S34, by omega, by omega, (fun a hM ha => by have m1 := hM.1; have m2 := hM.2.1; have z0 := hM.2.2.2 (by omega); have k0 := o19; rw [m2] at k0; have a0 := k0.1; have b0 := k0.2.1; have c0 := k0.2.2.1; have d0 := k0.2.2.2; exact Or.inr ⟨rfl, fun g => by have y := g.2.1; omega⟩), R_S34⟩
          · exfalso; omega
        · exfalso; omega
      · try (replace o26 := o26.resolve_right (fun h => absurd h.1 (by decide)))
        try (replace o27 := o27.resolve_right (fun h => absurd h.1 (by decide)))
        try (replace o28 := o28.resolve_right (fun h => absurd h.1 (by decide)))
        try (replace o29 := o29.resolve_right (fun h => absurd h.1 (by decide)))
        skip
        refine zz_if_eq (by omega) zd_14_103_21 (fun c40 => ?_) (fun c40 => ?_)
        · exfalso; omega
        · refine zz_aload_n (x := 1079) rfl zd_14_103_24 ?_
          have g41 := zz_G.r G_S24 1079 30 0 102 rfl rfl
          have g42 := zz_G.r G_S24 1079 32 0 1500 rfl rfl
          have e43 : S24 1079 33 = S0 1079 33 := (zz_rc fS24 rfl rfl (by first | decide | (intro h; exact absurd h.1 (by decide)) | omega) (zz_rc fS12 rfl rfl (fun h => h) rfl))
          refine zz_callVI [] zd_14_103_25 zk_Md_553 zT_1079 (zz_ltn hn rfl) rfl rfl ⟨Nat.le_of_ble_eq_true rfl, Nat.le_of_ble_eq_true rfl⟩ ⟨rfl, rfl⟩ (Nat.zero_le _) (Nat.zero_le _) (zc_takeX_14_96  S24 n hn G_S24 (fun u h1 h2 => ((zz_rc fS24 (zz_nc1 rfl) rfl (by first | decide | (intro h; exact absurd h.1 (by decide)) | omega) (zz_rc fS12 (zz_nc1 rfl) rfl (fun h => h) rfl))).trans (hN u h1 h2))) (fun v45 S44 hP => ?_)
          obtain ⟨G_S44, fS44, o46, o47, o48, o49⟩ := hP
          rw [show S24 1099 = S0 1099 from funext (fun u => (zz_rc fS24 (zz_nc1 rfl) rfl (by first | decide | (intro h; exact absurd h.1 (by decide)) | omega) (zz_rc fS12 (zz_nc1 rfl) rfl (fun h => h) rfl))), show S24 1079 33 = S0 1079 33 from (zz_rc fS24 rfl rfl (by first | decide | (intro h; exact absurd h.1 (by decide)) | omega) (zz_rc fS12 rfl rfl (fun h => h) rfl))] at o49
          have F_S44 := zz_fr.trans F_S24 fS44 rfl zz_nv
          have R_S44 : zz_Hr S44 := zz_Hr.fr fS44 rfl rfl (fun b j h => h.elim) R_S24
          rcases (by omega : v45 = 0 ∨ v45 = 1) with rfl | rfl
          · try (replace o46 := o46.resolve_left (fun h => absurd h.1 (by decide)))
            try (replace o47 := o47.resolve_left (fun h => absurd h.1 (by decide)))
            try (replace o48 := o48.resolve_left (fun h => absurd h.1 (by decide)))
            try (replace o49 := o49.resolve_left (fun h => absurd h.1 (by decide)))
            skip
            refine zz_if_eq (by omega) zd_14_103_28 (fun c50 => ?_) (fun c50 => ?_)
            · refine zz_iconst zd_14_103_58 ?_
              refine zz_istore_n [some (.ref 1079), some (zi 0)] zd_14_103_59 (by decide) rfl ?_
              refine zz_aload_n (x := 1079) rfl zd_14_103_60 ?_
              refine zz_getr (kd := 0) (z := 1118) zd_14_103_61 zf_Md_136 zT_1079 rfl (zz_ltn hn rfl) (zz_G.eq G_S44 1079 63 1118 rfl rfl) (by decide) 1118 rfl ?_
              refine zz_iconst zd_14_103_64 ?_
              have g51 := zz_G.r G_S24 1118 0 0 9999 rfl rfl
              refine zz_iald (z := S24 1118 0) zd_14_103_65 zT_1118 rfl (zz_ltn hn rfl) (by decide) (by decide) (zz_rc fS44 rfl rfl (fun h => h) rfl) ?_
              refine zz_istore_n [some (.ref 1079), some (zi 0), some (zi (S24 1118 0))] zd_14_103_66 (by decide) rfl ?_
              refine zz_aload_n (x := 1079) rfl zd_14_103_67 ?_
              refine zz_getr (kd := 0) (z := 1118) zd_14_103_68 zf_Md_136 zT_1079 rfl (zz_ltn hn rfl) (zz_G.eq G_S44 1079 63 1118 rfl rfl) (by decide) 1118 rfl ?_
              refine zz_iconst zd_14_103_71 ?_
              have g52 := zz_G.r G_S0 1118 1 0 9999 rfl rfl
              refine zz_iald (z := S0 1118 1) zd_14_103_72 zT_1118 rfl (zz_ltn hn rfl) (by decide) (by decide) (zz_rc fS44 rfl rfl (fun h => h) (zz_rc fS24 rfl rfl (by first | decide | (intro h; exact absurd h.2 (by decide)) | omega) (zz_rc fS12 rfl rfl (fun h => h) rfl))) ?_
              refine zz_istore_n [some (.ref 1079), some (zi 0), some (zi (S24 1118 0)), some (zi (S0 1118 1))] zd_14_103_73 (by decide) rfl ?_
              refine zz_aload_n (x := 1079) rfl zd_14_103_74 ?_
              refine zz_getr (kd := 0) (z := 1118) zd_14_103_75 zf_Md_136 zT_1079 rfl (zz_ltn hn rfl) (zz_G.eq G_S44 1079 63 1118 rfl rfl) (by decide) 1118 rfl ?_
              refine zz_iconst zd_14_103_78 ?_
              have g53 := zz_G.r G_S0 1118 2 0 9999 rfl rfl
              refine zz_iald (z := S0 1118 2) zd_14_103_79 zT_1118 rfl (zz_ltn hn rfl) (by decide) (by decide) (zz_rc fS44 rfl rfl (fun h => h) (zz_rc fS24 rfl rfl (by first | decide | (intro h; exact absurd h.2 (by decide)) | omega) (zz_rc fS12 rfl rfl (fun h => h) rfl))) ?_
              refine zz_istore [some (.ref 1079), some (zi 0), some (zi (S24 1118 0)), some (zi (S0 1118 1)), some (zi (S0 1118 2))] zd_14_103_80 (by decide) rfl ?_
              skip
              refine zz_aload_n (x := 1079) rfl zd_14_103_82 ?_
              refine zz_iconst zd_14_103_83 ?_
              refine zz_puti zd_14_103_84 zf_Md_85 zT_1079 rfl (zz_ltn hn rfl) (fun S54 qS54 => ?_)
              have G_S54 := zz_G.put G_S44 qS54 0 11 rfl (by omega)
              have F_S54 := zz_fr.puts F_S44 qS54 rfl
              have R_S54 : zz_Hr S54 := zz_Hr.none (by rw [zz_rs qS54]; decide)
              refine zz_iload_n (x := 0) rfl zd_14_103_87 ?_
              refine zz_if_eq (by omega) zd_14_103_88 (fun c55 => ?_) (fun c55 => ?_)
              · refine zz_iconst zd_14_103_101 ?_
                have e56 : S54 1079 36 = 0 := (zz_rs qS54)
                have e57 : S54 1117 0 = S0 1117 0 := (zz_ro qS54 (fun h => absurd h.1 (by decide)) (zz_rc fS44 rfl rfl (fun h => h) (zz_rc fS24 rfl rfl (by first | decide | (intro h; exact absurd h.1 (by decide)) | omega) (zz_rc fS12 rfl rfl (fun h => h) rfl))))
                have g58 := zz_G.r G_S0 1079 0 0 3 rfl rfl
                have e59 : S54 1079 0 = S0 1079 0 := (zz_ro qS54 (fun h => absurd h.2 (by decide)) (zz_rc fS44 rfl rfl (fun h => h) (zz_rc fS24 rfl rfl (by first | decide | (intro h; exact absurd h.1 (by decide)) | omega) (zz_rc fS12 rfl rfl (fun h => h) rfl))))
                exact zz_zret zd_14_103_102 rfl (by omega) (Nat.zero_le _) (Nat.zero_le _) ⟨_, _, rfl, G_S54, F_S54, by omega, by omega, (fun a hM ha => by have m1 := hM.1; have m2 := hM.2.1; have z0 := hM.2.2.2 (by omega); have k0 := o19; rw [m2] at k0; have a0 := k0.1; have b0 := k0.2.1; have c0 := k0.2.2.1; have d0 := k0.2.2.2; have k1 := o29 rfl; rw [b0] at k1; have v0 := c0 (by omega); have a1 := k1.1; have b1 := k1.2.1; have c1 := k1.2.2.1; have d1 := k1.2.2.2; exact Or.inr ⟨rfl, fun g => by have y := g.2.2.1; have z := d1 (by omega); omega⟩), R_S54⟩
              · exfalso; omega
            · exfalso; omega
          · try (replace o46 := o46.resolve_right (fun h => absurd h.1 (by decide)))
            try (replace o47 := o47.resolve_right (fun h => absurd h.1 (by decide)))
            try (replace o48 := o48.resolve_right (fun h => absurd h.1 (by decide)))
            try (replace o49 := o49.resolve_right (fun h => absurd h.1 (by decide)))
            skip
            refine zz_if_eq (by omega) zd_14_103_28 (fun c60 => ?_) (fun c60 => ?_)
            · exfalso; omega
            · refine zz_aload_n (x := 1079) rfl zd_14_103_31 ?_
              refine zz_iconst zd_14_103_32 ?_
              have g61 := zz_G.r G_S44 1079 30 0 102 rfl rfl
              have g62 := zz_G.r G_S44 1079 32 0 1500 rfl rfl
              have g63 := zz_G.r G_S44 1079 31 0 9999 rfl rfl
              have e64 : S44 1079 33 = S0 1079 33 := (zz_rc fS44 rfl rfl (fun h => h) (zz_rc fS24 rfl rfl (by first | decide | (intro h; exact absurd h.1 (by decide)) | omega) (zz_rc fS12 rfl rfl (fun h => h) rfl)))
              refine zz_callVI [zi 1] zd_14_103_33 zk_Md_550 zT_1079 (zz_ltn hn rfl) rfl rfl ⟨Nat.le_of_ble_eq_true rfl, Nat.le_of_ble_eq_true rfl⟩ ⟨rfl, rfl⟩ (Nat.zero_le _) (Nat.zero_le _) (zc_takeNet_14_95 1 S44 n hn G_S44 (by omega) (fun u h1 h2 => ((zz_rc fS44 (zz_nc1 rfl) rfl (fun h => h) (zz_rc fS24 (zz_nc1 rfl) rfl (by first | decide | (intro h; exact absurd h.1 (by decide)) | omega) (zz_rc fS12 (zz_nc1 rfl) rfl (fun h => h) rfl)))).trans (hN u h1 h2))) (fun v66 S65 hP => ?_)
              obtain ⟨G_S65, fS65, o67, o68, o69, o70⟩ := hP
              have o67 : 0 ≤ v66 ∧ v66 ≤ 1 := o67
              have o68 : S65 1079 32 > S44 1079 32 ∨ (S65 1079 32 = S44 1079 32 ∧ (S65 1079 30 = S44 1079 30 ∨ S65 1079 30 = 0 ∨ S65 1079 30 = 101)) := o68
              have o69 : (v66 = 1 ∧ S44 1079 30 = 100 ∧ S65 1118 1 = S44 1079 31) ∨ (v66 = 0 ∧ S44 1079 30 ≠ 100) := o69
              have o70 : v66 = 1 → zt_MK (S44 1099) (S44 1079 33) (S44 1079 32) (S65 1079 30) (S65 1079 32) (S65 1079 31) (S65 1079 61) := o70
              rw [show S44 1099 = S0 1099 from funext (fun u => (zz_rc fS44 (zz_nc1 rfl) rfl (fun h => h) (zz_rc fS24 (zz_nc1 rfl) rfl (by first | decide | (intro h; exact absurd h.1 (by decide)) | omega) (zz_rc fS12 (zz_nc1 rfl) rfl (fun h => h) rfl)))), show S44 1079 33 = S0 1079 33 from (zz_rc fS44 rfl rfl (fun h => h) (zz_rc fS24 rfl rfl (by first | decide | (intro h; exact absurd h.1 (by decide)) | omega) (zz_rc fS12 rfl rfl (fun h => h) rfl)))] at o70
              have F_S65 := zz_fr.trans F_S44 fS65 rfl (fun a i h => Or.inr (Or.inl (by rw [h.1]; rfl)))
              have R_S65 : zz_Hr S65 := zz_Hr.fr fS65 rfl rfl (fun b j h => by omega) R_S44
              rcases (by omega : v66 = 0 ∨ v66 = 1) with rfl | rfl
              · try (replace o67 := o67.resolve_left (fun h => absurd h.1 (by decide)))
                try (replace o68 := o68.resolve_left (fun h => absurd h.1 (by decide)))
                try (replace o69 := o69.resolve_left (fun h => absurd h.1 (by decide)))
                try (replace o70 := o70.resolve_left (fun h => absurd h.1 (by decide)))
                skip
                refine zz_if_eq (by omega) zd_14_103_36 (fun c71 => ?_) (fun c71 => ?_)
                · refine zz_iconst zd_14_103_58 ?_
                  refine zz_istore_n [some (.ref 1079), some (zi 0)] zd_14_103_59 (by decide) rfl ?_
                  refine zz_aload_n (x := 1079) rfl zd_14_103_60 ?_
                  refine zz_getr (kd := 0) (z := 1118) zd_14_103_61 zf_Md_136 zT_1079 rfl (zz_ltn hn rfl) (zz_G.eq G_S65 1079 63 1118 rfl rfl) (by decide) 1118 rfl ?_
                  refine zz_iconst zd_14_103_64 ?_
                  have g72 := zz_G.r G_S24 1118 0 0 9999 rfl rfl
                  refine zz_iald (z := S24 1118 0) zd_14_103_65 zT_1118 rfl (zz_ltn hn rfl) (by decide) (by decide) (zz_rc fS65 rfl rfl (by first | decide | (intro h; exact absurd h.2 (by decide)) | omega) (zz_rc fS44 rfl rfl (fun h => h) rfl)) ?_
                  refine zz_istore_n [some (.ref 1079), some (zi 0), some (zi (S24 1118 0))] zd_14_103_66 (by decide) rfl ?_
                  refine zz_aload_n (x := 1079) rfl zd_14_103_67 ?_
                  refine zz_getr (kd := 0) (z := 1118) zd_14_103_68 zf_Md_136 zT_1079 rfl (zz_ltn hn rfl) (zz_G.eq G_S65 1079 63 1118 rfl rfl) (by decide) 1118 rfl ?_
                  refine zz_iconst zd_14_103_71 ?_
                  have g73 := zz_G.r G_S65 1118 1 0 9999 rfl rfl
                  refine zz_iald (z := S65 1118 1) zd_14_103_72 zT_1118 rfl (zz_ltn hn rfl) (by decide) (by decide) rfl ?_
                  refine zz_istore_n [some (.ref 1079), some (zi 0), some (zi (S24 1118 0)), some (zi (S65 1118 1))] zd_14_103_73 (by decide) rfl ?_
                  refine zz_aload_n (x := 1079) rfl zd_14_103_74 ?_
                  refine zz_getr (kd := 0) (z := 1118) zd_14_103_75 zf_Md_136 zT_1079 rfl (zz_ltn hn rfl) (zz_G.eq G_S65 1079 63 1118 rfl rfl) (by decide) 1118 rfl ?_
                  refine zz_iconst zd_14_103_78 ?_
                  have g74 := zz_G.r G_S0 1118 2 0 9999 rfl rfl
                  refine zz_iald (z := S0 1118 2) zd_14_103_79 zT_1118 rfl (zz_ltn hn rfl) (by decide) (by decide) (zz_rc fS65 rfl rfl (by first | decide | (intro h; exact absurd h.2 (by decide)) | omega) (zz_rc fS44 rfl rfl (fun h => h) (zz_rc fS24 rfl rfl (by first | decide | (intro h; exact absurd h.2 (by decide)) | omega) (zz_rc fS12 rfl rfl (fun h => h) rfl)))) ?_
                  refine zz_istore [some (.ref 1079), some (zi 0), some (zi (S24 1118 0)), some (zi (S65 1118 1)), some (zi (S0 1118 2))] zd_14_103_80 (by decide) rfl ?_
                  skip
                  refine zz_aload_n (x := 1079) rfl zd_14_103_82 ?_
                  refine zz_iconst zd_14_103_83 ?_
                  refine zz_puti zd_14_103_84 zf_Md_85 zT_1079 rfl (zz_ltn hn rfl) (fun S75 qS75 => ?_)
                  have G_S75 := zz_G.put G_S65 qS75 0 11 rfl (by omega)
                  have F_S75 := zz_fr.puts F_S65 qS75 rfl
                  have R_S75 : zz_Hr S75 := zz_Hr.none (by rw [zz_rs qS75]; decide)
                  refine zz_iload_n (x := 0) rfl zd_14_103_87 ?_
                  refine zz_if_eq (by omega) zd_14_103_88 (fun c76 => ?_) (fun c76 => ?_)
                  · refine zz_iconst zd_14_103_101 ?_
                    have e77 : S75 1079 36 = 0 := (zz_rs qS75)
                    have e78 : S75 1117 0 = S0 1117 0 := (zz_ro qS75 (fun h => absurd h.1 (by decide)) (zz_rc fS65 rfl rfl (by first | decide | (intro h; exact absurd h.1 (by decide)) | omega) (zz_rc fS44 rfl rfl (fun h => h) (zz_rc fS24 rfl rfl (by first | decide | (intro h; exact absurd h.1 (by decide)) | omega) (zz_rc fS12 rfl rfl (fun h => h) rfl)))))
                    have g79 := zz_G.r G_S0 1079 0 0 3 rfl rfl
                    have e80 : S75 1079 0 = S0 1079 0 := (zz_ro qS75 (fun h => absurd h.2 (by decide)) (zz_rc fS65 rfl rfl (by first | decide | (intro h; exact absurd h.1 (by decide)) | omega) (zz_rc fS44 rfl rfl (fun h => h) (zz_rc fS24 rfl rfl (by first | decide | (intro h; exact absurd h.1 (by decide)) | omega) (zz_rc fS12 rfl rfl (fun h => h) rfl)))))
                    exact zz_zret zd_14_103_102 rfl (by omega) (Nat.zero_le _) (Nat.zero_le _) ⟨_, _, rfl, G_S75, F_S75, by omega, by omega, (fun a hM ha => by have m1 := hM.1; have m2 := hM.2.1; have z0 := hM.2.2.2 (by omega); have k0 := o19; rw [m2] at k0; have a0 := k0.1; have b0 := k0.2.1; have c0 := k0.2.2.1; have d0 := k0.2.2.2; have k1 := o29 rfl; rw [b0] at k1; have v0 := c0 (by omega); have a1 := k1.1; have b1 := k1.2.1; have c1 := k1.2.2.1; have d1 := k1.2.2.2; have k2 := o49; rw [b1] at k2; have v1 := d1 (by omega); have a2 := k2.1; have b2 := k2.2.1; have c2 := k2.2.2.1; have d2 := k2.2.2.2; exact Or.inr ⟨rfl, fun g => by have y := g.2.2.2.1; omega⟩), R_S75⟩
                  · exfalso; omega
                · exfalso; omega
              · try (replace o67 := o67.resolve_right (fun h => absurd h.1 (by decide)))
                try (replace o68 := o68.resolve_right (fun h => absurd h.1 (by decide)))
                try (replace o69 := o69.resolve_right (fun h => absurd h.1 (by decide)))
                try (replace o70 := o70.resolve_right (fun h => absurd h.1 (by decide)))
                skip
                refine zz_if_eq (by omega) zd_14_103_36 (fun c81 => ?_) (fun c81 => ?_)
                · exfalso; omega
                · refine zz_aload_n (x := 1079) rfl zd_14_103_39 ?_
                  have g82 := zz_G.r G_S65 1079 30 0 102 rfl rfl
                  have g83 := zz_G.r G_S65 1079 32 0 1500 rfl rfl
                  have e84 : S65 1079 33 = S0 1079 33 := (zz_rc fS65 rfl rfl (by first | decide | (intro h; exact absurd h.1 (by decide)) | omega) (zz_rc fS44 rfl rfl (fun h => h) (zz_rc fS24 rfl rfl (by first | decide | (intro h; exact absurd h.1 (by decide)) | omega) (zz_rc fS12 rfl rfl (fun h => h) rfl))))
                  refine zz_callVI [] zd_14_103_40 zk_Md_553 zT_1079 (zz_ltn hn rfl) rfl rfl ⟨Nat.le_of_ble_eq_true rfl, Nat.le_of_ble_eq_true rfl⟩ ⟨rfl, rfl⟩ (Nat.zero_le _) (Nat.zero_le _) (zc_takeX_14_96  S65 n hn G_S65 (fun u h1 h2 => ((zz_rc fS65 (zz_nc1 rfl) rfl (by first | decide | (intro h; exact absurd h.1 (by decide)) | omega) (zz_rc fS44 (zz_nc1 rfl) rfl (fun h => h) (zz_rc fS24 (zz_nc1 rfl) rfl (by first | decide | (intro h; exact absurd h.1 (by decide)) | omega) (zz_rc fS12 (zz_nc1 rfl) rfl (fun h => h) rfl))))).trans (hN u h1 h2))) (fun v86 S85 hP => ?_)
                  obtain ⟨G_S85, fS85, o87, o88, o89, o90⟩ := hP
                  rw [show S65 1099 = S0 1099 from funext (fun u => (zz_rc fS65 (zz_nc1 rfl) rfl (by first | decide | (intro h; exact absurd h.1 (by decide)) | omega) (zz_rc fS44 (zz_nc1 rfl) rfl (fun h => h) (zz_rc fS24 (zz_nc1 rfl) rfl (by first | decide | (intro h; exact absurd h.1 (by decide)) | omega) (zz_rc fS12 (zz_nc1 rfl) rfl (fun h => h) rfl))))), show S65 1079 33 = S0 1079 33 from (zz_rc fS65 rfl rfl (by first | decide | (intro h; exact absurd h.1 (by decide)) | omega) (zz_rc fS44 rfl rfl (fun h => h) (zz_rc fS24 rfl rfl (by first | decide | (intro h; exact absurd h.1 (by decide)) | omega) (zz_rc fS12 rfl rfl (fun h => h) rfl))))] at o90
                  have F_S85 := zz_fr.trans F_S65 fS85 rfl zz_nv
                  have R_S85 : zz_Hr S85 := zz_Hr.fr fS85 rfl rfl (fun b j h => h.elim) R_S65
                  rcases (by omega : v86 = 0 ∨ v86 = 1) with rfl | rfl
                  · try (replace o87 := o87.resolve_left (fun h => absurd h.1 (by decide)))
                    try (replace o88 := o88.resolve_left (fun h => absurd h.1 (by decide)))
                    try (replace o89 := o89.resolve_left (fun h => absurd h.1 (by decide)))
                    try (replace o90 := o90.resolve_left (fun h => absurd h.1 (by decide)))
                    skip
                    refine zz_if_eq (by omega) zd_14_103_43 (fun c91 => ?_) (fun c91 => ?_)
                    · refine zz_iconst zd_14_103_58 ?_
                      refine zz_istore_n [some (.ref 1079), some (zi 0)] zd_14_103_59 (by decide) rfl ?_
                      refine zz_aload_n (x := 1079) rfl zd_14_103_60 ?_
                      refine zz_getr (kd := 0) (z := 1118) zd_14_103_61 zf_Md_136 zT_1079 rfl (zz_ltn hn rfl) (zz_G.eq G_S85 1079 63 1118 rfl rfl) (by decide) 1118 rfl ?_
                      refine zz_iconst zd_14_103_64 ?_
                      have g92 := zz_G.r G_S24 1118 0 0 9999 rfl rfl
                      refine zz_iald (z := S24 1118 0) zd_14_103_65 zT_1118 rfl (zz_ltn hn rfl) (by decide) (by decide) (zz_rc fS85 rfl rfl (fun h => h) (zz_rc fS65 rfl rfl (by first | decide | (intro h; exact absurd h.2 (by decide)) | omega) (zz_rc fS44 rfl rfl (fun h => h) rfl))) ?_
                      refine zz_istore_n [some (.ref 1079), some (zi 0), some (zi (S24 1118 0))] zd_14_103_66 (by decide) rfl ?_
                      refine zz_aload_n (x := 1079) rfl zd_14_103_67 ?_
                      refine zz_getr (kd := 0) (z := 1118) zd_14_103_68 zf_Md_136 zT_1079 rfl (zz_ltn hn rfl) (zz_G.eq G_S85 1079 63 1118 rfl rfl) (by decide) 1118 rfl ?_
                      refine zz_iconst zd_14_103_71 ?_
                      have g93 := zz_G.r G_S65 1118 1 0 9999 rfl rfl
                      refine zz_iald (z := S65 1118 1) zd_14_103_72 zT_1118 rfl (zz_ltn hn rfl) (by decide) (by decide) (zz_rc fS85 rfl rfl (fun h => h) rfl) ?_
                      refine zz_istore_n [some (.ref 1079), some (zi 0), some (zi (S24 1118 0)), some (zi (S65 1118 1))] zd_14_103_73 (by decide) rfl ?_
                      refine zz_aload_n (x := 1079) rfl zd_14_103_74 ?_
                      refine zz_getr (kd := 0) (z := 1118) zd_14_103_75 zf_Md_136 zT_1079 rfl (zz_ltn hn rfl) (zz_G.eq G_S85 1079 63 1118 rfl rfl) (by decide) 1118 rfl ?_
                      refine zz_iconst zd_14_103_78 ?_
                      have g94 := zz_G.r G_S0 1118 2 0 9999 rfl rfl
                      refine zz_iald (z := S0 1118 2) zd_14_103_79 zT_1118 rfl (zz_ltn hn rfl) (by decide) (by decide) (zz_rc fS85 rfl rfl (fun h => h) (zz_rc fS65 rfl rfl (by first | decide | (intro h; exact absurd h.2 (by decide)) | omega) (zz_rc fS44 rfl rfl (fun h => h) (zz_rc fS24 rfl rfl (by first | decide | (intro h; exact absurd h.2 (by decide)) | omega) (zz_rc fS12 rfl rfl (fun h => h) rfl))))) ?_
                      refine zz_istore [some (.ref 1079), some (zi 0), some (zi (S24 1118 0)), some (zi (S65 1118 1)), some (zi (S0 1118 2))] zd_14_103_80 (by decide) rfl ?_
                      skip
                      refine zz_aload_n (x := 1079) rfl zd_14_103_82 ?_
                      refine zz_iconst zd_14_103_83 ?_
                      refine zz_puti zd_14_103_84 zf_Md_85 zT_1079 rfl (zz_ltn hn rfl) (fun S95 qS95 => ?_)
                      have G_S95 := zz_G.put G_S85 qS95 0 11 rfl (by omega)
                      have F_S95 := zz_fr.puts F_S85 qS95 rfl
                      have R_S95 : zz_Hr S95 := zz_Hr.none (by rw [zz_rs qS95]; decide)
                      refine zz_iload_n (x := 0) rfl zd_14_103_87 ?_
                      refine zz_if_eq (by omega) zd_14_103_88 (fun c96 => ?_) (fun c96 => ?_)
                      · refine zz_iconst zd_14_103_101 ?_
                        have e97 : S95 1079 36 = 0 := (zz_rs qS95)
                        have e98 : S95 1117 0 = S0 1117 0 := (zz_ro qS95 (fun h => absurd h.1 (by decide)) (zz_rc fS85 rfl rfl (fun h => h) (zz_rc fS65 rfl rfl (by first | decide | (intro h; exact absurd h.1 (by decide)) | omega) (zz_rc fS44 rfl rfl (fun h => h) (zz_rc fS24 rfl rfl (by first | decide | (intro h; exact absurd h.1 (by decide)) | omega) (zz_rc fS12 rfl rfl (fun h => h) rfl))))))
                        have g99 := zz_G.r G_S0 1079 0 0 3 rfl rfl
                        have e100 : S95 1079 0 = S0 1079 0 := (zz_ro qS95 (fun h => absurd h.2 (by decide)) (zz_rc fS85 rfl rfl (fun h => h) (zz_rc fS65 rfl rfl (by first | decide | (intro h; exact absurd h.1 (by decide)) | omega) (zz_rc fS44 rfl rfl (fun h => h) (zz_rc fS24 rfl rfl (by first | decide | (intro h; exact absurd h.1 (by decide)) | omega) (zz_rc fS12 rfl rfl (fun h => h) rfl))))))
                        exact zz_zret zd_14_103_102 rfl (by omega) (Nat.zero_le _) (Nat.zero_le _) ⟨_, _, rfl, G_S95, F_S95, by omega, by omega, (fun a hM ha => by have m1 := hM.1; have m2 := hM.2.1; have z0 := hM.2.2.2 (by omega); have k0 := o19; rw [m2] at k0; have a0 := k0.1; have b0 := k0.2.1; have c0 := k0.2.2.1; have d0 := k0.2.2.2; have k1 := o29 rfl; rw [b0] at k1; have v0 := c0 (by omega); have a1 := k1.1; have b1 := k1.2.1; have c1 := k1.2.2.1; have d1 := k1.2.2.2; have k2 := o49; rw [b1] at k2; have v1 := d1 (by omega); have a2 := k2.1; have b2 := k2.2.1; have c2 := k2.2.2.1; have d2 := k2.2.2.2; have k3 := o70 rfl; rw [b2] at k3; have v2 := c2 (by omega); have a3 := k3.1; have b3 := k3.2.1; have c3 := k3.2.2.1; have d3 := k3.2.2.2; exact Or.inr ⟨rfl, fun g => by have y := g.2.2.2.2.1; have z := d3 (by omega); omega⟩), R_S95⟩
                      · exfalso; omega
                    · exfalso; omega
                  · try (replace o87 := o87.resolve_right (fun h => absurd h.1 (by decide)))
                    try (replace o88 := o88.resolve_right (fun h => absurd h.1 (by decide)))
                    try (replace o89 := o89.resolve_right (fun h => absurd h.1 (by decide)))
                    try (replace o90 := o90.resolve_right (fun h => absurd h.1 (by decide)))
                    skip
                    refine zz_if_eq (by omega) zd_14_103_43 (fun c101 => ?_) (fun c101 => ?_)
                    · exfalso; omega
                    · refine zz_aload_n (x := 1079) rfl zd_14_103_46 ?_
                      refine zz_iconst zd_14_103_47 ?_
                      have g102 := zz_G.r G_S85 1079 30 0 102 rfl rfl
                      have g103 := zz_G.r G_S85 1079 32 0 1500 rfl rfl
                      have g104 := zz_G.r G_S85 1079 31 0 9999 rfl rfl
                      have e105 : S85 1079 33 = S0 1079 33 := (zz_rc fS85 rfl rfl (fun h => h) (zz_rc fS65 rfl rfl (by first | decide | (intro h; exact absurd h.1 (by decide)) | omega) (zz_rc fS44 rfl rfl (fun h => h) (zz_rc fS24 rfl rfl (by first | decide | (intro h; exact absurd h.1 (by decide)) | omega) (zz_rc fS12 rfl rfl (fun h => h) rfl)))))
                      refine zz_callVI [zi 2] zd_14_103_48 zk_Md_550 zT_1079 (zz_ltn hn rfl) rfl rfl ⟨Nat.le_of_ble_eq_true rfl, Nat.le_of_ble_eq_true rfl⟩ ⟨rfl, rfl⟩ (Nat.zero_le _) (Nat.zero_le _) (zc_takeNet_14_95 2 S85 n hn G_S85 (by omega) (fun u h1 h2 => ((zz_rc fS85 (zz_nc1 rfl) rfl (fun h => h) (zz_rc fS65 (zz_nc1 rfl) rfl (by first | decide | (intro h; exact absurd h.1 (by decide)) | omega) (zz_rc fS44 (zz_nc1 rfl) rfl (fun h => h) (zz_rc fS24 (zz_nc1 rfl) rfl (by first | decide | (intro h; exact absurd h.1 (by decide)) | omega) (zz_rc fS12 (zz_nc1 rfl) rfl (fun h => h) rfl)))))).trans (hN u h1 h2))) (fun v107 S106 hP => ?_)
                      obtain ⟨G_S106, fS106, o108, o109, o110, o111⟩ := hP
                      have o108 : 0 ≤ v107 ∧ v107 ≤ 1 := o108
                      have o109 : S106 1079 32 > S85 1079 32 ∨ (S106 1079 32 = S85 1079 32 ∧ (S106 1079 30 = S85 1079 30 ∨ S106 1079 30 = 0 ∨ S106 1079 30 = 101)) := o109
                      have o110 : (v107 = 1 ∧ S85 1079 30 = 100 ∧ S106 1118 2 = S85 1079 31) ∨ (v107 = 0 ∧ S85 1079 30 ≠ 100) := o110
                      have o111 : v107 = 1 → zt_MK (S85 1099) (S85 1079 33) (S85 1079 32) (S106 1079 30) (S106 1079 32) (S106 1079 31) (S106 1079 61) := o111
                      rw [show S85 1099 = S0 1099 from funext (fun u => (zz_rc fS85 (zz_nc1 rfl) rfl (fun h => h) (zz_rc fS65 (zz_nc1 rfl) rfl (by first | decide | (intro h; exact absurd h.1 (by decide)) | omega) (zz_rc fS44 (zz_nc1 rfl) rfl (fun h => h) (zz_rc fS24 (zz_nc1 rfl) rfl (by first | decide | (intro h; exact absurd h.1 (by decide)) | omega) (zz_rc fS12 (zz_nc1 rfl) rfl (fun h => h) rfl)))))), show S85 1079 33 = S0 1079 33 from (zz_rc fS85 rfl rfl (fun h => h) (zz_rc fS65 rfl rfl (by first | decide | (intro h; exact absurd h.1 (by decide)) | omega) (zz_rc fS44 rfl rfl (fun h => h) (zz_rc fS24 rfl rfl (by first | decide | (intro h; exact absurd h.1 (by decide)) | omega) (zz_rc fS12 rfl rfl (fun h => h) rfl)))))] at o111
                      have F_S106 := zz_fr.trans F_S85 fS106 rfl (fun a i h => Or.inr (Or.inl (by rw [h.1]; rfl)))
                      have R_S106 : zz_Hr S106 := zz_Hr.fr fS106 rfl rfl (fun b j h => by omega) R_S85
                      rcases (by omega : v107 = 0 ∨ v107 = 1) with rfl | rfl
                      · try (replace o108 := o108.resolve_left (fun h => absurd h.1 (by decide)))
                        try (replace o109 := o109.resolve_left (fun h => absurd h.1 (by decide)))
                        try (replace o110 := o110.resolve_left (fun h => absurd h.1 (by decide)))
                        try (replace o111 := o111.resolve_left (fun h => absurd h.1 (by decide)))
                        skip
                        refine zz_if_eq (by omega) zd_14_103_51 (fun c112 => ?_) (fun c112 => ?_)
                        · refine zz_iconst zd_14_103_58 ?_
                          refine zz_istore_n [some (.ref 1079), some (zi 0)] zd_14_103_59 (by decide) rfl ?_
                          refine zz_aload_n (x := 1079) rfl zd_14_103_60 ?_
                          refine zz_getr (kd := 0) (z := 1118) zd_14_103_61 zf_Md_136 zT_1079 rfl (zz_ltn hn rfl) (zz_G.eq G_S106 1079 63 1118 rfl rfl) (by decide) 1118 rfl ?_
                          refine zz_iconst zd_14_103_64 ?_
                          have g113 := zz_G.r G_S24 1118 0 0 9999 rfl rfl
                          refine zz_iald (z := S24 1118 0) zd_14_103_65 zT_1118 rfl (zz_ltn hn rfl) (by decide) (by decide) (zz_rc fS106 rfl rfl (by first | decide | (intro h; exact absurd h.2 (by decide)) | omega) (zz_rc fS85 rfl rfl (fun h => h) (zz_rc fS65 rfl rfl (by first | decide | (intro h; exact absurd h.2 (by decide)) | omega) (zz_rc fS44 rfl rfl (fun h => h) rfl)))) ?_
                          refine zz_istore_n [some (.ref 1079), some (zi 0), some (zi (S24 1118 0))] zd_14_103_66 (by decide) rfl ?_
                          refine zz_aload_n (x := 1079) rfl zd_14_103_67 ?_
                          refine zz_getr (kd := 0) (z := 1118) zd_14_103_68 zf_Md_136 zT_1079 rfl (zz_ltn hn rfl) (zz_G.eq G_S106 1079 63 1118 rfl rfl) (by decide) 1118 rfl ?_
                          refine zz_iconst zd_14_103_71 ?_
                          have g114 := zz_G.r G_S65 1118 1 0 9999 rfl rfl
                          refine zz_iald (z := S65 1118 1) zd_14_103_72 zT_1118 rfl (zz_ltn hn rfl) (by decide) (by decide) (zz_rc fS106 rfl rfl (by first | decide | (intro h; exact absurd h.2 (by decide)) | omega) (zz_rc fS85 rfl rfl (fun h => h) rfl)) ?_
                          refine zz_istore_n [some (.ref 1079), some (zi 0), some (zi (S24 1118 0)), some (zi (S65 1118 1))] zd_14_103_73 (by decide) rfl ?_
                          refine zz_aload_n (x := 1079) rfl zd_14_103_74 ?_
                          refine zz_getr (kd := 0) (z := 1118) zd_14_103_75 zf_Md_136 zT_1079 rfl (zz_ltn hn rfl) (zz_G.eq G_S106 1079 63 1118 rfl rfl) (by decide) 1118 rfl ?_
                          refine zz_iconst zd_14_103_78 ?_
                          have g115 := zz_G.r G_S106 1118 2 0 9999 rfl rfl
                          refine zz_iald (z := S106 1118 2) zd_14_103_79 zT_1118 rfl (zz_ltn hn rfl) (by decide) (by decide) rfl ?_
                          refine zz_istore [some (.ref 1079), some (zi 0), some (zi (S24 1118 0)), some (zi (S65 1118 1)), some (zi (S106 1118 2))] zd_14_103_80 (by decide) rfl ?_
                          skip
                          refine zz_aload_n (x := 1079) rfl zd_14_103_82 ?_
                          refine zz_iconst zd_14_103_83 ?_
                          refine zz_puti zd_14_103_84 zf_Md_85 zT_1079 rfl (zz_ltn hn rfl) (fun S116 qS116 => ?_)
                          have G_S116 := zz_G.put G_S106 qS116 0 11 rfl (by omega)
                          have F_S116 := zz_fr.puts F_S106 qS116 rfl
                          have R_S116 : zz_Hr S116 := zz_Hr.none (by rw [zz_rs qS116]; decide)
                          refine zz_iload_n (x := 0) rfl zd_14_103_87 ?_
                          refine zz_if_eq (by omega) zd_14_103_88 (fun c117 => ?_) (fun c117 => ?_)
                          · refine zz_iconst zd_14_103_101 ?_
                            have e118 : S116 1079 36 = 0 := (zz_rs qS116)
                            have e119 : S116 1117 0 = S0 1117 0 := (zz_ro qS116 (fun h => absurd h.1 (by decide)) (zz_rc fS106 rfl rfl (by first | decide | (intro h; exact absurd h.1 (by decide)) | omega) (zz_rc fS85 rfl rfl (fun h => h) (zz_rc fS65 rfl rfl (by first | decide | (intro h; exact absurd h.1 (by decide)) | omega) (zz_rc fS44 rfl rfl (fun h => h) (zz_rc fS24 rfl rfl (by first | decide | (intro h; exact absurd h.1 (by decide)) | omega) (zz_rc fS12 rfl rfl (fun h => h) rfl)))))))
                            have g120 := zz_G.r G_S0 1079 0 0 3 rfl rfl
                            have e121 : S116 1079 0 = S0 1079 0 := (zz_ro qS116 (fun h => absurd h.2 (by decide)) (zz_rc fS106 rfl rfl (by first | decide | (intro h; exact absurd h.1 (by decide)) | omega) (zz_rc fS85 rfl rfl (fun h => h) (zz_rc fS65 rfl rfl (by first | decide | (intro h; exact absurd h.1 (by decide)) | omega) (zz_rc fS44 rfl rfl (fun h => h) (zz_rc fS24 rfl rfl (by first | decide | (intro h; exact absurd h.1 (by decide)) | omega) (zz_rc fS12 rfl rfl (fun h => h) rfl)))))))
                            exact zz_zret zd_14_103_102 rfl (by omega) (Nat.zero_le _) (Nat.zero_le _) ⟨_, _, rfl, G_S116, F_S116, by omega, by omega, (fun a hM ha => by have m1 := hM.1; have m2 := hM.2.1; have z0 := hM.2.2.2 (by omega); have k0 := o19; rw [m2] at k0; have a0 := k0.1; have b0 := k0.2.1; have c0 := k0.2.2.1; have d0 := k0.2.2.2; have k1 := o29 rfl; rw [b0] at k1; have v0 := c0 (by omega); have a1 := k1.1; have b1 := k1.2.1; have c1 := k1.2.2.1; have d1 := k1.2.2.2; have k2 := o49; rw [b1] at k2; have v1 := d1 (by omega); have a2 := k2.1; have b2 := k2.2.1; have c2 := k2.2.2.1; have d2 := k2.2.2.2; have k3 := o70 rfl; rw [b2] at k3; have v2 := c2 (by omega); have a3 := k3.1; have b3 := k3.2.1; have c3 := k3.2.2.1; have d3 := k3.2.2.2; have k4 := o90; rw [b3] at k4; have v3 := d3 (by omega); have a4 := k4.1; have b4 := k4.2.1; have c4 := k4.2.2.1; have d4 := k4.2.2.2; exact Or.inr ⟨rfl, fun g => by have y := g.2.2.2.2.2.1; omega⟩), R_S116⟩
                          · exfalso; omega
                        · exfalso; omega
                      · try (replace o108 := o108.resolve_right (fun h => absurd h.1 (by decide)))
                        try (replace o109 := o109.resolve_right (fun h => absurd h.1 (by decide)))
                        try (replace o110 := o110.resolve_right (fun h => absurd h.1 (by decide)))
                        try (replace o111 := o111.resolve_right (fun h => absurd h.1 (by decide)))
                        skip
                        refine zz_if_eq (by omega) zd_14_103_51 (fun c122 => ?_) (fun c122 => ?_)
                        · exfalso; omega
                        · refine zz_iconst zd_14_103_54 ?_
                          refine zz_goto zd_14_103_55 ?_
                          refine zz_istore_n [some (.ref 1079), some (zi 1)] zd_14_103_59 (by decide) rfl ?_
                          refine zz_aload_n (x := 1079) rfl zd_14_103_60 ?_
                          refine zz_getr (kd := 0) (z := 1118) zd_14_103_61 zf_Md_136 zT_1079 rfl (zz_ltn hn rfl) (zz_G.eq G_S106 1079 63 1118 rfl rfl) (by decide) 1118 rfl ?_
                          refine zz_iconst zd_14_103_64 ?_
                          have g123 := zz_G.r G_S24 1118 0 0 9999 rfl rfl
                          refine zz_iald (z := S24 1118 0) zd_14_103_65 zT_1118 rfl (zz_ltn hn rfl) (by decide) (by decide) (zz_rc fS106 rfl rfl (by first | decide | (intro h; exact absurd h.2 (by decide)) | omega) (zz_rc fS85 rfl rfl (fun h => h) (zz_rc fS65 rfl rfl (by first | decide | (intro h; exact absurd h.2 (by decide)) | omega) (zz_rc fS44 rfl rfl (fun h => h) rfl)))) ?_
                          refine zz_istore_n [some (.ref 1079), some (zi 1), some (zi (S24 1118 0))] zd_14_103_66 (by decide) rfl ?_
                          refine zz_aload_n (x := 1079) rfl zd_14_103_67 ?_
                          refine zz_getr (kd := 0) (z := 1118) zd_14_103_68 zf_Md_136 zT_1079 rfl (zz_ltn hn rfl) (zz_G.eq G_S106 1079 63 1118 rfl rfl) (by decide) 1118 rfl ?_
                          refine zz_iconst zd_14_103_71 ?_
                          have g124 := zz_G.r G_S65 1118 1 0 9999 rfl rfl
                          refine zz_iald (z := S65 1118 1) zd_14_103_72 zT_1118 rfl (zz_ltn hn rfl) (by decide) (by decide) (zz_rc fS106 rfl rfl (by first | decide | (intro h; exact absurd h.2 (by decide)) | omega) (zz_rc fS85 rfl rfl (fun h => h) rfl)) ?_
                          refine zz_istore_n [some (.ref 1079), some (zi 1), some (zi (S24 1118 0)), some (zi (S65 1118 1))] zd_14_103_73 (by decide) rfl ?_
                          refine zz_aload_n (x := 1079) rfl zd_14_103_74 ?_
                          refine zz_getr (kd := 0) (z := 1118) zd_14_103_75 zf_Md_136 zT_1079 rfl (zz_ltn hn rfl) (zz_G.eq G_S106 1079 63 1118 rfl rfl) (by decide) 1118 rfl ?_
                          refine zz_iconst zd_14_103_78 ?_
                          have g125 := zz_G.r G_S106 1118 2 0 9999 rfl rfl
                          refine zz_iald (z := S106 1118 2) zd_14_103_79 zT_1118 rfl (zz_ltn hn rfl) (by decide) (by decide) rfl ?_
                          refine zz_istore [some (.ref 1079), some (zi 1), some (zi (S24 1118 0)), some (zi (S65 1118 1)), some (zi (S106 1118 2))] zd_14_103_80 (by decide) rfl ?_
                          skip
                          refine zz_aload_n (x := 1079) rfl zd_14_103_82 ?_
                          refine zz_iconst zd_14_103_83 ?_
                          refine zz_puti zd_14_103_84 zf_Md_85 zT_1079 rfl (zz_ltn hn rfl) (fun S126 qS126 => ?_)
                          have G_S126 := zz_G.put G_S106 qS126 0 11 rfl (by omega)
                          have F_S126 := zz_fr.puts F_S106 qS126 rfl
                          have R_S126 : zz_Hr S126 := zz_Hr.none (by rw [zz_rs qS126]; decide)
                          refine zz_iload_n (x := 1) rfl zd_14_103_87 ?_
                          refine zz_if_eq (by omega) zd_14_103_88 (fun c127 => ?_) (fun c127 => ?_)
                          · exfalso; omega
                          · refine zz_aload_n (x := 1079) rfl zd_14_103_91 ?_
                            refine zz_sipush (by decide) zd_14_103_92 ?_
                            have g128 := zz_G.r G_S106 1079 30 0 102 rfl rfl
                            have e129 : S126 1079 30 = S106 1079 30 := (zz_ro qS126 (fun h => absurd h.2 (by decide)) rfl)
                            have g130 := zz_G.r G_S106 1079 31 0 9999 rfl rfl
                            have e131 : S126 1079 31 = S106 1079 31 := (zz_ro qS126 (fun h => absurd h.2 (by decide)) rfl)
                            have g132 := zz_G.r G_S106 1079 32 0 1500 rfl rfl
                            have e133 : S126 1079 32 = S106 1079 32 := (zz_ro qS126 (fun h => absurd h.2 (by decide)) rfl)
                            have e134 : S126 1079 33 = S0 1079 33 := (zz_ro qS126 (fun h => absurd h.2 (by decide)) (zz_rc fS106 rfl rfl (by first | decide | (intro h; exact absurd h.1 (by decide)) | omega) (zz_rc fS85 rfl rfl (fun h => h) (zz_rc fS65 rfl rfl (by first | decide | (intro h; exact absurd h.1 (by decide)) | omega) (zz_rc fS44 rfl rfl (fun h => h) (zz_rc fS24 rfl rfl (by first | decide | (intro h; exact absurd h.1 (by decide)) | omega) (zz_rc fS12 rfl rfl (fun h => h) rfl)))))))
                            have e135 : S126 1079 36 = 0 := (zz_rs qS126)
                            have e136 : S126 1079 61 = S106 1079 61 := (zz_ro qS126 (fun h => absurd h.2 (by decide)) rfl)
                            refine zz_callVI [zi 128] zd_14_103_95 zk_Md_576 zT_1079 (zz_ltn hn rfl) rfl rfl ⟨Nat.le_of_ble_eq_true rfl, Nat.le_of_ble_eq_true rfl⟩ ⟨rfl, rfl⟩ (Nat.zero_le _) (Nat.zero_le _) (zc_takeParts_14_101 128 S126 n hn G_S126 (by omega) (fun u h1 h2 => ((zz_ro qS126 (fun h => absurd h.1 (by decide)) (zz_rc fS106 (zz_nc1 rfl) rfl (by first | decide | (intro h; exact absurd h.1 (by decide)) | omega) (zz_rc fS85 (zz_nc1 rfl) rfl (fun h => h) (zz_rc fS65 (zz_nc1 rfl) rfl (by first | decide | (intro h; exact absurd h.1 (by decide)) | omega) (zz_rc fS44 (zz_nc1 rfl) rfl (fun h => h) (zz_rc fS24 (zz_nc1 rfl) rfl (by first | decide | (intro h; exact absurd h.1 (by decide)) | omega) (zz_rc fS12 (zz_nc1 rfl) rfl (fun h => h) rfl)))))))).trans (hN u h1 h2))) (fun v138 S137 hP => ?_)
                            obtain ⟨G_S137, fS137, o139, o140⟩ := hP
                            rw [show S126 1099 = S0 1099 from funext (fun u => (zz_ro qS126 (fun h => absurd h.1 (by decide)) (zz_rc fS106 (zz_nc1 rfl) rfl (by first | decide | (intro h; exact absurd h.1 (by decide)) | omega) (zz_rc fS85 (zz_nc1 rfl) rfl (fun h => h) (zz_rc fS65 (zz_nc1 rfl) rfl (by first | decide | (intro h; exact absurd h.1 (by decide)) | omega) (zz_rc fS44 (zz_nc1 rfl) rfl (fun h => h) (zz_rc fS24 (zz_nc1 rfl) rfl (by first | decide | (intro h; exact absurd h.1 (by decide)) | omega) (zz_rc fS12 (zz_nc1 rfl) rfl (fun h => h) rfl)))))))), show S126 1117 = S0 1117 from funext (fun u => (zz_ro qS126 (fun h => absurd h.1 (by decide)) (zz_rc fS106 (zz_nc1 rfl) rfl (by first | decide | (intro h; exact absurd h.1 (by decide)) | omega) (zz_rc fS85 (zz_nc1 rfl) rfl (fun h => h) (zz_rc fS65 (zz_nc1 rfl) rfl (by first | decide | (intro h; exact absurd h.1 (by decide)) | omega) (zz_rc fS44 (zz_nc1 rfl) rfl (fun h => h) (zz_rc fS24 (zz_nc1 rfl) rfl (by first | decide | (intro h; exact absurd h.1 (by decide)) | omega) (zz_rc fS12 (zz_nc1 rfl) rfl (fun h => h) rfl)))))))), show S126 1079 36 = 0 from (zz_rs qS126), show S126 1079 33 = S0 1079 33 from (zz_ro qS126 (fun h => absurd h.2 (by decide)) (zz_rc fS106 rfl rfl (by first | decide | (intro h; exact absurd h.1 (by decide)) | omega) (zz_rc fS85 rfl rfl (fun h => h) (zz_rc fS65 rfl rfl (by first | decide | (intro h; exact absurd h.1 (by decide)) | omega) (zz_rc fS44 rfl rfl (fun h => h) (zz_rc fS24 rfl rfl (by first | decide | (intro h; exact absurd h.1 (by decide)) | omega) (zz_rc fS12 rfl rfl (fun h => h) rfl))))))), show S126 1079 32 = S106 1079 32 from (zz_ro qS126 (fun h => absurd h.2 (by decide)) rfl), show S126 1079 30 = S106 1079 30 from (zz_ro qS126 (fun h => absurd h.2 (by decide)) rfl), show S126 1079 31 = S106 1079 31 from (zz_ro qS126 (fun h => absurd h.2 (by decide)) rfl), show S126 1079 61 = S106 1079 61 from (zz_ro qS126 (fun h => absurd h.2 (by decide)) rfl)] at o140
                            have F_S137 := zz_fr.trans F_S126 fS137 rfl zz_nv
                            have R_S137 : zz_Hr S137 := zz_Hr.fr fS137 rfl rfl (fun b j h => h.elim) R_S126
                            rcases (by omega : v138 = 0 ∨ v138 = 1) with rfl | rfl
                            · refine zz_if_ne (by omega) zd_14_103_98 (fun c141 => ?_) (fun c141 => ?_)
                              · exfalso; omega
                              · refine zz_iconst zd_14_103_101 ?_
                                have e142 : S137 1079 36 = 0 := (zz_rc fS137 rfl rfl (fun h => h) (zz_rs qS126))
                                have e143 : S137 1117 0 = S0 1117 0 := (zz_rc fS137 rfl rfl (fun h => h) (zz_ro qS126 (fun h => absurd h.1 (by decide)) (zz_rc fS106 rfl rfl (by first | decide | (intro h; exact absurd h.1 (by decide)) | omega) (zz_rc fS85 rfl rfl (fun h => h) (zz_rc fS65 rfl rfl (by first | decide | (intro h; exact absurd h.1 (by decide)) | omega) (zz_rc fS44 rfl rfl (fun h => h) (zz_rc fS24 rfl rfl (by first | decide | (intro h; exact absurd h.1 (by decide)) | omega) (zz_rc fS12 rfl rfl (fun h => h) rfl))))))))
                                have g144 := zz_G.r G_S0 1079 0 0 3 rfl rfl
                                have e145 : S137 1079 0 = S0 1079 0 := (zz_rc fS137 rfl rfl (fun h => h) (zz_ro qS126 (fun h => absurd h.2 (by decide)) (zz_rc fS106 rfl rfl (by first | decide | (intro h; exact absurd h.1 (by decide)) | omega) (zz_rc fS85 rfl rfl (fun h => h) (zz_rc fS65 rfl rfl (by first | decide | (intro h; exact absurd h.1 (by decide)) | omega) (zz_rc fS44 rfl rfl (fun h => h) (zz_rc fS24 rfl rfl (by first | decide | (intro h; exact absurd h.1 (by decide)) | omega) (zz_rc fS12 rfl rfl (fun h => h) rfl))))))))
                                exact zz_zret zd_14_103_102 rfl (by omega) (Nat.zero_le _) (Nat.zero_le _) ⟨_, _, rfl, G_S137, F_S137, by omega, by omega, (fun a hM ha => by have m1 := hM.1; have m2 := hM.2.1; have z0 := hM.2.2.2 (by omega); have k0 := o19; rw [m2] at k0; have a0 := k0.1; have b0 := k0.2.1; have c0 := k0.2.2.1; have d0 := k0.2.2.2; have k1 := o29 rfl; rw [b0] at k1; have v0 := c0 (by omega); have a1 := k1.1; have b1 := k1.2.1; have c1 := k1.2.2.1; have d1 := k1.2.2.2; have k2 := o49; rw [b1] at k2; have v1 := d1 (by omega); have a2 := k2.1; have b2 := k2.2.1; have c2 := k2.2.2.1; have d2 := k2.2.2.2; have k3 := o70 rfl; rw [b2] at k3; have v2 := c2 (by omega); have a3 := k3.1; have b3 := k3.2.1; have c3 := k3.2.2.1; have d3 := k3.2.2.2; have k4 := o90; rw [b3] at k4; have v3 := d3 (by omega); have a4 := k4.1; have b4 := k4.2.1; have c4 := k4.2.2.1; have d4 := k4.2.2.2; have k5 := o111 rfl; rw [b4] at k5; have v4 := c4 (by omega); have p9 := o140 (zt_tn (S0 1099) (S0 1079 33) (zt_tn (S0 1099) (S0 1079 33) (zt_tn (S0 1099) (S0 1079 33) (zt_tn (S0 1099) (S0 1079 33) (zt_tn (S0 1099) (S0 1079 33) (zt_tn (S0 1099) (S0 1079 33) a)))))) 0 (by have z := k5; first | exact z | (rw [show S126 1079 30 = S106 1079 30 by omega, show S126 1079 32 = S106 1079 32 by omega, show S126 1079 31 = S106 1079 31 by omega, show S126 1079 61 = S106 1079 61 by omega]; exact z)) (by have z1 := zt_tnge (f := (S0 1099)) (e := S0 1079 33) (p := a); have z2 := zt_tnge (f := (S0 1099)) (e := S0 1079 33) (p := (zt_tn (S0 1099) (S0 1079 33) a)); have z3 := zt_tnge (f := (S0 1099)) (e := S0 1079 33) (p := (zt_tn (S0 1099) (S0 1079 33) (zt_tn (S0 1099) (S0 1079 33) a))); have z4 := zt_tnge (f := (S0 1099)) (e := S0 1079 33) (p := (zt_tn (S0 1099) (S0 1079 33) (zt_tn (S0 1099) (S0 1079 33) (zt_tn (S0 1099) (S0 1079 33) a)))); have z5 := zt_tnge (f := (S0 1099)) (e := S0 1079 33) (p := (zt_tn (S0 1099) (S0 1079 33) (zt_tn (S0 1099) (S0 1079 33) (zt_tn (S0 1099) (S0 1079 33) (zt_tn (S0 1099) (S0 1079 33) a))))); have z6 := zt_tnge (f := (S0 1099)) (e := S0 1079 33) (p := (zt_tn (S0 1099) (S0 1079 33) (zt_tn (S0 1099) (S0 1079 33) (zt_tn (S0 1099) (S0 1079 33) (zt_tn (S0 1099) (S0 1079 33) (zt_tn (S0 1099) (S0 1079 33) a)))))); omega) (by decide) rfl; have e9 : zn_io (zt_km (S0 1099) (S0 1079 33)) (zt_tn (S0 1099) (S0 1079 33)) (zt_tv (S0 1099) (S0 1079 33)) (zt_kd (S0 1099) (S0 1079 33)) (zt_tn (S0 1099) (S0 1079 33) (zt_tn (S0 1099) (S0 1079 33) (zt_tn (S0 1099) (S0 1079 33) (zt_tn (S0 1099) (S0 1079 33) (zt_tn (S0 1099) (S0 1079 33) (zt_tn (S0 1099) (S0 1079 33) a)))))) = zt_no (zt_km (S0 1099) (S0 1079 33)) (zt_tn (S0 1099) (S0 1079 33)) (zt_tv (S0 1099) (S0 1079 33)) (zt_kd (S0 1099) (S0 1079 33)) (zn_al 0) (S0 1117) (0 : Int).toNat 1600 ((zt_km (S0 1099) (S0 1079 33)) (zt_tn (S0 1099) (S0 1079 33) (zt_tn (S0 1099) (S0 1079 33) (zt_tn (S0 1099) (S0 1079 33) (zt_tn (S0 1099) (S0 1079 33) (zt_tn (S0 1099) (S0 1079 33) (zt_tn (S0 1099) (S0 1079 33) a))))))) ((zt_kd (S0 1099) (S0 1079 33)) (zt_tn (S0 1099) (S0 1079 33) (zt_tn (S0 1099) (S0 1079 33) (zt_tn (S0 1099) (S0 1079 33) (zt_tn (S0 1099) (S0 1079 33) (zt_tn (S0 1099) (S0 1079 33) (zt_tn (S0 1099) (S0 1079 33) a))))))) ((zt_tn (S0 1099) (S0 1079 33)) (zt_tn (S0 1099) (S0 1079 33) (zt_tn (S0 1099) (S0 1079 33) (zt_tn (S0 1099) (S0 1079 33) (zt_tn (S0 1099) (S0 1079 33) (zt_tn (S0 1099) (S0 1079 33) (zt_tn (S0 1099) (S0 1079 33) a))))))) zn_o0 := zn_no00 _ _ 1600 _ _ _ _; rw [← e9] at p9; exact Or.inr ⟨rfl, fun g => (p9.resolve_left (fun h => absurd h.1 (by decide))).2 (zn_igx.mp g).2⟩), R_S137⟩
                            · refine zz_if_ne (by omega) zd_14_103_98 (fun c146 => ?_) (fun c146 => ?_)
                              · refine zz_aload_n (x := 1079) rfl zd_14_103_103 ?_
                                refine zz_iload_n (x := S24 1118 0) rfl zd_14_103_104 ?_
                                refine zz_iload_n (x := S65 1118 1) rfl zd_14_103_105 ?_
                                refine zz_iload (x := S106 1118 2) rfl zd_14_103_106 ?_
                                have e147 : S137 1079 36 = 0 := (zz_rc fS137 rfl rfl (fun h => h) (zz_rs qS126))
                                refine zz_callVV [zi (S24 1118 0), zi (S65 1118 1), zi (S106 1118 2)] zd_14_103_108 zk_Md_579 zT_1079 (zz_ltn hn rfl) rfl rfl ⟨Nat.le_of_ble_eq_true rfl, Nat.le_of_ble_eq_true rfl⟩ ⟨rfl, rfl⟩ (Nat.zero_le _) (Nat.zero_le _) (zc_input_14_63 (S24 1118 0) (S65 1118 1) (S106 1118 2) S137 n hn G_S137 (by omega) (by omega) (by omega) R_S137) (fun S148 hP => ?_)
                                obtain ⟨G_S148, fS148, o150, o151, o152, o153, o154, o155⟩ := hP
                                have F_S148 := zz_fr.trans F_S137 fS148 rfl zz_nv
                                have R_S148 : zz_Hr S148 := o155
                                refine zz_aload_n (x := 1079) rfl zd_14_103_111 ?_
                                refine zz_getr (kd := 0) (z := 1117) zd_14_103_112 zf_Md_133 zT_1079 rfl (zz_ltn hn rfl) (zz_G.eq G_S148 1079 62 1117 rfl rfl) (by decide) 1117 rfl ?_
                                refine zz_iconst zd_14_103_115 ?_
                                refine zz_aload_n (x := 1079) rfl zd_14_103_116 ?_
                                have g156 := zz_G.r G_S137 1079 64 (-9223372036854775808) 9223372036854775807 rfl rfl
                                refine zz_getl (z := S137 1079 64) zd_14_103_117 zf_Md_564 zT_1079 rfl (zz_ltn hn rfl) (zz_rc fS148 rfl rfl (fun h => h) rfl) ?_
                                refine zz_last zd_14_103_120 zT_1117 rfl (zz_ltn hn rfl) (by decide) (by decide) (fun S157 qS157 => ?_)
                                have G_S157 := zz_G.put G_S148 qS157 (-9223372036854775808) 9223372036854775807 rfl (by omega)
                                have F_S157 := zz_fr.puts F_S148 qS157 rfl
                                have R_S157 : zz_Hr S157 := zz_Hr.fr (zz_fr.put1 qS157) rfl rfl (fun b j h => by omega) R_S148
                                refine zz_aload_n (x := 1079) rfl zd_14_103_121 ?_
                                have g158 := zz_G.r G_S148 1079 0 0 3 rfl rfl
                                refine zz_geti (z := S148 1079 0) zd_14_103_122 zf_Md_187 zT_1079 rfl (zz_ltn hn rfl) (zz_ro qS157 (fun h => absurd h.1 (by decide)) rfl) ?_
                                refine zz_if_ne (by omega) zd_14_103_125 (fun c159 => ?_) (fun c159 => ?_)
                                · refine zz_iconst zd_14_103_132 ?_
                                  have g160 := zz_G.r G_S148 1079 36 0 11 rfl rfl
                                  have e161 : S157 1079 36 = S148 1079 36 := (zz_ro qS157 (fun h => absurd h.1 (by decide)) rfl)
                                  have e162 : S157 1117 0 = S137 1079 64 := (zz_rs qS157)
                                  have e163 : S157 1079 0 = S148 1079 0 := (zz_ro qS157 (fun h => absurd h.1 (by decide)) rfl)
                                  exact zz_zret zd_14_103_133 rfl (by omega) (Nat.zero_le _) (Nat.zero_le _) ⟨_, _, rfl, G_S157, F_S157, by omega, by omega, (fun a hM ha => by have m1 := hM.1; have m2 := hM.2.1; have z0 := hM.2.2.2 (by omega); have k0 := o19; rw [m2] at k0; have a0 := k0.1; have b0 := k0.2.1; have c0 := k0.2.2.1; have d0 := k0.2.2.2; have k1 := o29 rfl; rw [b0] at k1; have v0 := c0 (by omega); have a1 := k1.1; have b1 := k1.2.1; have c1 := k1.2.2.1; have d1 := k1.2.2.2; have k2 := o49; rw [b1] at k2; have v1 := d1 (by omega); have a2 := k2.1; have b2 := k2.2.1; have c2 := k2.2.2.1; have d2 := k2.2.2.2; have k3 := o70 rfl; rw [b2] at k3; have v2 := c2 (by omega); have a3 := k3.1; have b3 := k3.2.1; have c3 := k3.2.2.1; have d3 := k3.2.2.2; have k4 := o90; rw [b3] at k4; have v3 := d3 (by omega); have a4 := k4.1; have b4 := k4.2.1; have c4 := k4.2.2.1; have d4 := k4.2.2.2; have k5 := o111 rfl; rw [b4] at k5; have v4 := c4 (by omega); have p9 := o140 (zt_tn (S0 1099) (S0 1079 33) (zt_tn (S0 1099) (S0 1079 33) (zt_tn (S0 1099) (S0 1079 33) (zt_tn (S0 1099) (S0 1079 33) (zt_tn (S0 1099) (S0 1079 33) (zt_tn (S0 1099) (S0 1079 33) a)))))) 0 (by have z := k5; first | exact z | (rw [show S126 1079 30 = S106 1079 30 by omega, show S126 1079 32 = S106 1079 32 by omega, show S126 1079 31 = S106 1079 31 by omega, show S126 1079 61 = S106 1079 61 by omega]; exact z)) (by have z1 := zt_tnge (f := (S0 1099)) (e := S0 1079 33) (p := a); have z2 := zt_tnge (f := (S0 1099)) (e := S0 1079 33) (p := (zt_tn (S0 1099) (S0 1079 33) a)); have z3 := zt_tnge (f := (S0 1099)) (e := S0 1079 33) (p := (zt_tn (S0 1099) (S0 1079 33) (zt_tn (S0 1099) (S0 1079 33) a))); have z4 := zt_tnge (f := (S0 1099)) (e := S0 1079 33) (p := (zt_tn (S0 1099) (S0 1079 33) (zt_tn (S0 1099) (S0 1079 33) (zt_tn (S0 1099) (S0 1079 33) a)))); have z5 := zt_tnge (f := (S0 1099)) (e := S0 1079 33) (p := (zt_tn (S0 1099) (S0 1079 33) (zt_tn (S0 1099) (S0 1079 33) (zt_tn (S0 1099) (S0 1079 33) (zt_tn (S0 1099) (S0 1079 33) a))))); have z6 := zt_tnge (f := (S0 1099)) (e := S0 1079 33) (p := (zt_tn (S0 1099) (S0 1079 33) (zt_tn (S0 1099) (S0 1079 33) (zt_tn (S0 1099) (S0 1079 33) (zt_tn (S0 1099) (S0 1079 33) (zt_tn (S0 1099) (S0 1079 33) a)))))); omega) (by decide) rfl; have e9 : zn_io (zt_km (S0 1099) (S0 1079 33)) (zt_tn (S0 1099) (S0 1079 33)) (zt_tv (S0 1099) (S0 1079 33)) (zt_kd (S0 1099) (S0 1079 33)) (zt_tn (S0 1099) (S0 1079 33) (zt_tn (S0 1099) (S0 1079 33) (zt_tn (S0 1099) (S0 1079 33) (zt_tn (S0 1099) (S0 1079 33) (zt_tn (S0 1099) (S0 1079 33) (zt_tn (S0 1099) (S0 1079 33) a)))))) = zt_no (zt_km (S0 1099) (S0 1079 33)) (zt_tn (S0 1099) (S0 1079 33)) (zt_tv (S0 1099) (S0 1079 33)) (zt_kd (S0 1099) (S0 1079 33)) (zn_al 0) (S0 1117) (0 : Int).toNat 1600 ((zt_km (S0 1099) (S0 1079 33)) (zt_tn (S0 1099) (S0 1079 33) (zt_tn (S0 1099) (S0 1079 33) (zt_tn (S0 1099) (S0 1079 33) (zt_tn (S0 1099) (S0 1079 33) (zt_tn (S0 1099) (S0 1079 33) (zt_tn (S0 1099) (S0 1079 33) a))))))) ((zt_kd (S0 1099) (S0 1079 33)) (zt_tn (S0 1099) (S0 1079 33) (zt_tn (S0 1099) (S0 1079 33) (zt_tn (S0 1099) (S0 1079 33) (zt_tn (S0 1099) (S0 1079 33) (zt_tn (S0 1099) (S0 1079 33) (zt_tn (S0 1099) (S0 1079 33) a))))))) ((zt_tn (S0 1099) (S0 1079 33)) (zt_tn (S0 1099) (S0 1079 33) (zt_tn (S0 1099) (S0 1079 33) (zt_tn (S0 1099) (S0 1079 33) (zt_tn (S0 1099) (S0 1079 33) (zt_tn (S0 1099) (S0 1079 33) (zt_tn (S0 1099) (S0 1079 33) a))))))) zn_o0 := zn_no00 _ _ 1600 _ _ _ _; rw [← e9] at p9; have q9 := (p9.resolve_right (fun h => absurd h.1 (by decide))).2; have y1 : (zt_tv (S0 1099) (S0 1079 33)) (zt_tn (S0 1099) (S0 1079 33) a) = S24 1118 0 := (by omega); have y3 : (zt_tv (S0 1099) (S0 1079 33)) (zt_tn (S0 1099) (S0 1079 33) (zt_tn (S0 1099) (S0 1079 33) (zt_tn (S0 1099) (S0 1079 33) a))) = S65 1118 1 := (by omega); have y5 : (zt_tv (S0 1099) (S0 1079 33)) (zt_tn (S0 1099) (S0 1079 33) (zt_tn (S0 1099) (S0 1079 33) (zt_tn (S0 1099) (S0 1079 33) (zt_tn (S0 1099) (S0 1079 33) (zt_tn (S0 1099) (S0 1079 33) a))))) = S106 1118 2 := (by omega); have f9 := o152; exact Or.inr ⟨rfl, fun g => by have y := (zn_igx.mp g).1.2.2.2.2.2.2; rw [zn_fpx, y1, y3, y5] at y; omega⟩), R_S157⟩
                                · refine zz_iconst zd_14_103_128 ?_
                                  refine zz_goto zd_14_103_129 ?_
                                  have g164 := zz_G.r G_S148 1079 36 0 11 rfl rfl
                                  have e165 : S157 1079 36 = S148 1079 36 := (zz_ro qS157 (fun h => absurd h.1 (by decide)) rfl)
                                  have e166 : S157 1117 0 = S137 1079 64 := (zz_rs qS157)
                                  have e167 : S157 1079 0 = S148 1079 0 := (zz_ro qS157 (fun h => absurd h.1 (by decide)) rfl)
                                  exact zz_zret zd_14_103_133 rfl (by omega) (Nat.zero_le _) (Nat.zero_le _) ⟨_, _, rfl, G_S157, F_S157, by omega, by omega, (fun a hM ha => by have m1 := hM.1; have m2 := hM.2.1; have z0 := hM.2.2.2 (by omega); have k0 := o19; rw [m2] at k0; have a0 := k0.1; have b0 := k0.2.1; have c0 := k0.2.2.1; have d0 := k0.2.2.2; have k1 := o29 rfl; rw [b0] at k1; have v0 := c0 (by omega); have a1 := k1.1; have b1 := k1.2.1; have c1 := k1.2.2.1; have d1 := k1.2.2.2; have k2 := o49; rw [b1] at k2; have v1 := d1 (by omega); have a2 := k2.1; have b2 := k2.2.1; have c2 := k2.2.2.1; have d2 := k2.2.2.2; have k3 := o70 rfl; rw [b2] at k3; have v2 := c2 (by omega); have a3 := k3.1; have b3 := k3.2.1; have c3 := k3.2.2.1; have d3 := k3.2.2.2; have k4 := o90; rw [b3] at k4; have v3 := d3 (by omega); have a4 := k4.1; have b4 := k4.2.1; have c4 := k4.2.2.1; have d4 := k4.2.2.2; have k5 := o111 rfl; rw [b4] at k5; have v4 := c4 (by omega); have p9 := o140 (zt_tn (S0 1099) (S0 1079 33) (zt_tn (S0 1099) (S0 1079 33) (zt_tn (S0 1099) (S0 1079 33) (zt_tn (S0 1099) (S0 1079 33) (zt_tn (S0 1099) (S0 1079 33) (zt_tn (S0 1099) (S0 1079 33) a)))))) 0 (by have z := k5; first | exact z | (rw [show S126 1079 30 = S106 1079 30 by omega, show S126 1079 32 = S106 1079 32 by omega, show S126 1079 31 = S106 1079 31 by omega, show S126 1079 61 = S106 1079 61 by omega]; exact z)) (by have z1 := zt_tnge (f := (S0 1099)) (e := S0 1079 33) (p := a); have z2 := zt_tnge (f := (S0 1099)) (e := S0 1079 33) (p := (zt_tn (S0 1099) (S0 1079 33) a)); have z3 := zt_tnge (f := (S0 1099)) (e := S0 1079 33) (p := (zt_tn (S0 1099) (S0 1079 33) (zt_tn (S0 1099) (S0 1079 33) a))); have z4 := zt_tnge (f := (S0 1099)) (e := S0 1079 33) (p := (zt_tn (S0 1099) (S0 1079 33) (zt_tn (S0 1099) (S0 1079 33) (zt_tn (S0 1099) (S0 1079 33) a)))); have z5 := zt_tnge (f := (S0 1099)) (e := S0 1079 33) (p := (zt_tn (S0 1099) (S0 1079 33) (zt_tn (S0 1099) (S0 1079 33) (zt_tn (S0 1099) (S0 1079 33) (zt_tn (S0 1099) (S0 1079 33) a))))); have z6 := zt_tnge (f := (S0 1099)) (e := S0 1079 33) (p := (zt_tn (S0 1099) (S0 1079 33) (zt_tn (S0 1099) (S0 1079 33) (zt_tn (S0 1099) (S0 1079 33) (zt_tn (S0 1099) (S0 1079 33) (zt_tn (S0 1099) (S0 1079 33) a)))))); omega) (by decide) rfl; have e9 : zn_io (zt_km (S0 1099) (S0 1079 33)) (zt_tn (S0 1099) (S0 1079 33)) (zt_tv (S0 1099) (S0 1079 33)) (zt_kd (S0 1099) (S0 1079 33)) (zt_tn (S0 1099) (S0 1079 33) (zt_tn (S0 1099) (S0 1079 33) (zt_tn (S0 1099) (S0 1079 33) (zt_tn (S0 1099) (S0 1079 33) (zt_tn (S0 1099) (S0 1079 33) (zt_tn (S0 1099) (S0 1079 33) a)))))) = zt_no (zt_km (S0 1099) (S0 1079 33)) (zt_tn (S0 1099) (S0 1079 33)) (zt_tv (S0 1099) (S0 1079 33)) (zt_kd (S0 1099) (S0 1079 33)) (zn_al 0) (S0 1117) (0 : Int).toNat 1600 ((zt_km (S0 1099) (S0 1079 33)) (zt_tn (S0 1099) (S0 1079 33) (zt_tn (S0 1099) (S0 1079 33) (zt_tn (S0 1099) (S0 1079 33) (zt_tn (S0 1099) (S0 1079 33) (zt_tn (S0 1099) (S0 1079 33) (zt_tn (S0 1099) (S0 1079 33) a))))))) ((zt_kd (S0 1099) (S0 1079 33)) (zt_tn (S0 1099) (S0 1079 33) (zt_tn (S0 1099) (S0 1079 33) (zt_tn (S0 1099) (S0 1079 33) (zt_tn (S0 1099) (S0 1079 33) (zt_tn (S0 1099) (S0 1079 33) (zt_tn (S0 1099) (S0 1079 33) a))))))) ((zt_tn (S0 1099) (S0 1079 33)) (zt_tn (S0 1099) (S0 1079 33) (zt_tn (S0 1099) (S0 1079 33) (zt_tn (S0 1099) (S0 1079 33) (zt_tn (S0 1099) (S0 1079 33) (zt_tn (S0 1099) (S0 1079 33) (zt_tn (S0 1099) (S0 1079 33) a))))))) zn_o0 := zn_no00 _ _ 1600 _ _ _ _; rw [← e9] at p9; have q9 := (p9.resolve_right (fun h => absurd h.1 (by decide))).2; have y1 : (zt_tv (S0 1099) (S0 1079 33)) (zt_tn (S0 1099) (S0 1079 33) a) = S24 1118 0 := (by omega); have y3 : (zt_tv (S0 1099) (S0 1079 33)) (zt_tn (S0 1099) (S0 1079 33) (zt_tn (S0 1099) (S0 1079 33) (zt_tn (S0 1099) (S0 1079 33) a))) = S65 1118 1 := (by omega); have y5 : (zt_tv (S0 1099) (S0 1079 33)) (zt_tn (S0 1099) (S0 1079 33) (zt_tn (S0 1099) (S0 1079 33) (zt_tn (S0 1099) (S0 1079 33) (zt_tn (S0 1099) (S0 1079 33) (zt_tn (S0 1099) (S0 1079 33) a))))) = S106 1118 2 := (by omega); have f9 := o152; refine Or.inl ⟨rfl, zn_igx.mpr ⟨⟨⟨by omega, by omega⟩, by omega, ⟨by omega, by omega⟩, by omega, ⟨by omega, by omega⟩, by omega, by rw [zn_fpx, y1, y3, y5]; omega⟩, q9.1⟩, ?_, ?_⟩; show zn_M S157 (zn_ip ((zt_tv (S0 1099) (S0 1079 33)) (zt_tn (S0 1099) (S0 1079 33) a)) ((zt_tv (S0 1099) (S0 1079 33)) (zt_tn (S0 1099) (S0 1079 33) (zt_tn (S0 1099) (S0 1079 33) (zt_tn (S0 1099) (S0 1079 33) a)))) ((zt_tv (S0 1099) (S0 1079 33)) (zt_tn (S0 1099) (S0 1079 33) (zt_tn (S0 1099) (S0 1079 33) (zt_tn (S0 1099) (S0 1079 33) (zt_tn (S0 1099) (S0 1079 33) (zt_tn (S0 1099) (S0 1079 33) a)))))) _); rw [y1, y3, y5]; exact zn_M.fr (o153 (by omega) _) (zz_fr.put1 qS157) rfl rfl (fun a i h => by omega) (by omega); have n9 := q9.2.1.2; omega), R_S157⟩
                              · exfalso; omega
    · exfalso; omega
abbrev zy_readLayer_14_104 : mm_Y := (⟨"TensorForgeModel", "readLayer", "()Z"⟩, prog_14_method_104_code, 9, (some .boolean))
theorem zyw_readLayer_14_104 : mm_Yw zy_readLayer_14_104 0 := ⟨mm_tb_1 2203 (by decide +kernel) rfl, mm_tb_1 12 (by decide +kernel) rfl, ⟨by decide, by decide⟩, by decide +kernel⟩
theorem zk_Md_582 : mm_Vl "TensorForgeModel" 582 11 0 zy_takeTensor_14_102 := ⟨zyw_takeTensor_14_102, (R_Md, F_Md, 69), rfl, mm_tb_1 2211 (by decide +kernel) rfl, mm_tb_1 2213 (by decide +kernel) rfl, mm_tb_s 143 (by decide +kernel) rfl⟩
theorem zk_Md_592 : mm_Vl "TensorForgeModel" 592 11 3 zy_addition_14_70 := ⟨zyw_addition_14_70, (R_Md, F_Md, 69), rfl, mm_tb_1 2251 (by decide +kernel) rfl, mm_tb_1 2106 (by decide +kernel) rfl, mm_tb_1 2107 (by decide +kernel) rfl⟩
theorem zk_Md_589 : mm_Vl "TensorForgeModel" 589 11 3 zy_pool_14_69 := ⟨zyw_pool_14_69, (R_Md, F_Md, 69), rfl, mm_tb_1 2250 (by decide +kernel) rfl, mm_tb_1 2102 (by decide +kernel) rfl, mm_tb_1 2103 (by decide +kernel) rfl⟩
theorem zk_Md_585 : mm_Vl "TensorForgeModel" 585 11 6 zy_convolution_14_67 := ⟨zyw_convolution_14_67, (R_Md, F_Md, 69), rfl, mm_tb_1 2249 (by decide +kernel) rfl, mm_tb_1 2079 (by decide +kernel) rfl, mm_tb_1 2080 (by decide +kernel) rfl⟩
theorem zg_14_104_0 : zq_at zy_readLayer_14_104.2.1 0 42 ∧ zq_at zy_readLayer_14_104.2.1 1 20 ∧ zq_at zy_readLayer_14_104.2.1 2 2 ∧ zq_at zy_readLayer_14_104.2.1 3 22 ∧ zq_at zy_readLayer_14_104.2.1 4 182 ∧ zq_at zy_readLayer_14_104.2.1 5 2 ∧ zq_at zy_readLayer_14_104.2.1 6 17 ∧ zq_at zy_readLayer_14_104.2.1 7 60 ∧ zq_at zy_readLayer_14_104.2.1 8 42 ∧ zq_at zy_readLayer_14_104.2.1 9 20 ∧ zq_at zy_readLayer_14_104.2.1 10 2 ∧ zq_at zy_readLayer_14_104.2.1 11 24 ∧ zq_at zy_readLayer_14_104.2.1 12 182 ∧ zq_at zy_readLayer_14_104.2.1 13 2 ∧ zq_at zy_readLayer_14_104.2.1 14 17 ∧ zq_at zy_readLayer_14_104.2.1 15 61 ∧ zq_at zy_readLayer_14_104.2.1 16 27 ∧ zq_at zy_readLayer_14_104.2.1 17 154 ∧ zq_at zy_readLayer_14_104.2.1 18 0 ∧ zq_at zy_readLayer_14_104.2.1 19 19 ∧ zq_at zy_readLayer_14_104.2.1 20 28 ∧ zq_at zy_readLayer_14_104.2.1 21 154 ∧ zq_at zy_readLayer_14_104.2.1 22 0 ∧ zq_at zy_readLayer_14_104.2.1 23 15 := by decide +kernel
theorem zd_14_104_0 : zz_D zy_readLayer_14_104 0 (.aload_n 0) 1 1 := ⟨zq_42 zg_14_104_0.1, rfl⟩
theorem zd_14_104_1 : zz_D zy_readLayer_14_104 1 (.ldc2_w 534) 3 4 := ⟨zq_20 zg_14_104_0.2.1 zg_14_104_0.2.2.1 zg_14_104_0.2.2.2.1 rfl, rfl⟩
theorem zd_14_104_4 : zz_D zy_readLayer_14_104 4 (.invokevirtual 529) 3 7 := ⟨zq_182 zg_14_104_0.2.2.2.2.1 zg_14_104_0.2.2.2.2.2.1 zg_14_104_0.2.2.2.2.2.2.1 rfl, rfl⟩
theorem zd_14_104_7 : zz_D zy_readLayer_14_104 7 (.istore_n 1) 1 8 := ⟨zq_60 zg_14_104_0.2.2.2.2.2.2.2.1, rfl⟩
theorem zd_14_104_8 : zz_D zy_readLayer_14_104 8 (.aload_n 0) 1 9 := ⟨zq_42 zg_14_104_0.2.2.2.2.2.2.2.2.1, rfl⟩
theorem zd_14_104_9 : zz_D zy_readLayer_14_104 9 (.ldc2_w 536) 3 12 := ⟨zq_20 zg_14_104_0.2.2.2.2.2.2.2.2.2.1 zg_14_104_0.2.2.2.2.2.2.2.2.2.2.1 zg_14_104_0.2.2.2.2.2.2.2.2.2.2.2.1 rfl, rfl⟩
theorem zd_14_104_12 : zz_D zy_readLayer_14_104 12 (.invokevirtual 529) 3 15 := ⟨zq_182 zg_14_104_0.2.2.2.2.2.2.2.2.2.2.2.2.1 zg_14_104_0.2.2.2.2.2.2.2.2.2.2.2.2.2.1 zg_14_104_0.2.2.2.2.2.2.2.2.2.2.2.2.2.2.1 rfl, rfl⟩
theorem zd_14_104_15 : zz_D zy_readLayer_14_104 15 (.istore_n 2) 1 16 := ⟨zq_61 zg_14_104_0.2.2.2.2.2.2.2.2.2.2.2.2.2.2.2.1, rfl⟩
theorem zd_14_104_16 : zz_D zy_readLayer_14_104 16 (.iload_n 1) 1 17 := ⟨zq_27 zg_14_104_0.2.2.2.2.2.2.2.2.2.2.2.2.2.2.2.2.1, rfl⟩
theorem zd_14_104_17 : zz_B zy_readLayer_14_104 17 (Instr.ifCond .ne) 36 20 := ⟨19, zq_154 zg_14_104_0.2.2.2.2.2.2.2.2.2.2.2.2.2.2.2.2.2.1 zg_14_104_0.2.2.2.2.2.2.2.2.2.2.2.2.2.2.2.2.2.2.1 zg_14_104_0.2.2.2.2.2.2.2.2.2.2.2.2.2.2.2.2.2.2.2.1 (by decide), rfl, rfl⟩
theorem zd_14_104_20 : zz_D zy_readLayer_14_104 20 (.iload_n 2) 1 21 := ⟨zq_28 zg_14_104_0.2.2.2.2.2.2.2.2.2.2.2.2.2.2.2.2.2.2.2.2.1, rfl⟩
theorem zd_14_104_21 : zz_B zy_readLayer_14_104 21 (Instr.ifCond .ne) 36 24 := ⟨15, zq_154 zg_14_104_0.2.2.2.2.2.2.2.2.2.2.2.2.2.2.2.2.2.2.2.2.2.1 zg_14_104_0.2.2.2.2.2.2.2.2.2.2.2.2.2.2.2.2.2.2.2.2.2.2.1 zg_14_104_0.2.2.2.2.2.2.2.2.2.2.2.2.2.2.2.2.2.2.2.2.2.2.2 (by decide), rfl, rfl⟩
theorem zg_14_104_24 : zq_at zy_readLayer_14_104.2.1 24 42 ∧ zq_at zy_readLayer_14_104.2.1 25 20 ∧ zq_at zy_readLayer_14_104.2.1 26 2 ∧ zq_at zy_readLayer_14_104.2.1 27 26 ∧ zq_at zy_readLayer_14_104.2.1 28 182 ∧ zq_at zy_readLayer_14_104.2.1 29 2 ∧ zq_at zy_readLayer_14_104.2.1 30 17 ∧ zq_at zy_readLayer_14_104.2.1 31 154 ∧ zq_at zy_readLayer_14_104.2.1 32 0 ∧ zq_at zy_readLayer_14_104.2.1 33 5 ∧ zq_at zy_readLayer_14_104.2.1 34 3 ∧ zq_at zy_readLayer_14_104.2.1 35 172 ∧ zq_at zy_readLayer_14_104.2.1 36 42 ∧ zq_at zy_readLayer_14_104.2.1 37 182 ∧ zq_at zy_readLayer_14_104.2.1 38 2 ∧ zq_at zy_readLayer_14_104.2.1 39 14 ∧ zq_at zy_readLayer_14_104.2.1 40 42 ∧ zq_at zy_readLayer_14_104.2.1 41 182 ∧ zq_at zy_readLayer_14_104.2.1 42 2 ∧ zq_at zy_readLayer_14_104.2.1 43 70 ∧ zq_at zy_readLayer_14_104.2.1 44 62 ∧ zq_at zy_readLayer_14_104.2.1 45 27 := by decide +kernel
theorem zd_14_104_24 : zz_D zy_readLayer_14_104 24 (.aload_n 0) 1 25 := ⟨zq_42 zg_14_104_24.1, rfl⟩
theorem zd_14_104_25 : zz_D zy_readLayer_14_104 25 (.ldc2_w 538) 3 28 := ⟨zq_20 zg_14_104_24.2.1 zg_14_104_24.2.2.1 zg_14_104_24.2.2.2.1 rfl, rfl⟩
theorem zd_14_104_28 : zz_D zy_readLayer_14_104 28 (.invokevirtual 529) 3 31 := ⟨zq_182 zg_14_104_24.2.2.2.2.1 zg_14_104_24.2.2.2.2.2.1 zg_14_104_24.2.2.2.2.2.2.1 rfl, rfl⟩
theorem zd_14_104_31 : zz_B zy_readLayer_14_104 31 (Instr.ifCond .ne) 36 34 := ⟨5, zq_154 zg_14_104_24.2.2.2.2.2.2.2.1 zg_14_104_24.2.2.2.2.2.2.2.2.1 zg_14_104_24.2.2.2.2.2.2.2.2.2.1 (by decide), rfl, rfl⟩
theorem zd_14_104_34 : zz_D zy_readLayer_14_104 34 (.iconst 0) 1 35 := ⟨zq_3 zg_14_104_24.2.2.2.2.2.2.2.2.2.2.1, rfl⟩
theorem zd_14_104_35 : zz_D zy_readLayer_14_104 35 (.ireturn) 1 36 := ⟨zq_172 zg_14_104_24.2.2.2.2.2.2.2.2.2.2.2.1, rfl⟩
theorem zd_14_104_36 : zz_D zy_readLayer_14_104 36 (.aload_n 0) 1 37 := ⟨zq_42 zg_14_104_24.2.2.2.2.2.2.2.2.2.2.2.2.1, rfl⟩
theorem zd_14_104_37 : zz_D zy_readLayer_14_104 37 (.invokevirtual 526) 3 40 := ⟨zq_182 zg_14_104_24.2.2.2.2.2.2.2.2.2.2.2.2.2.1 zg_14_104_24.2.2.2.2.2.2.2.2.2.2.2.2.2.2.1 zg_14_104_24.2.2.2.2.2.2.2.2.2.2.2.2.2.2.2.1 rfl, rfl⟩
theorem zd_14_104_40 : zz_D zy_readLayer_14_104 40 (.aload_n 0) 1 41 := ⟨zq_42 zg_14_104_24.2.2.2.2.2.2.2.2.2.2.2.2.2.2.2.2.1, rfl⟩
theorem zd_14_104_41 : zz_D zy_readLayer_14_104 41 (.invokevirtual 582) 3 44 := ⟨zq_182 zg_14_104_24.2.2.2.2.2.2.2.2.2.2.2.2.2.2.2.2.2.1 zg_14_104_24.2.2.2.2.2.2.2.2.2.2.2.2.2.2.2.2.2.2.1 zg_14_104_24.2.2.2.2.2.2.2.2.2.2.2.2.2.2.2.2.2.2.2.1 rfl, rfl⟩
theorem zd_14_104_44 : zz_D zy_readLayer_14_104 44 (.istore_n 3) 1 45 := ⟨zq_62 zg_14_104_24.2.2.2.2.2.2.2.2.2.2.2.2.2.2.2.2.2.2.2.2.1, rfl⟩
theorem zd_14_104_45 : zz_D zy_readLayer_14_104 45 (.iload_n 1) 1 46 := ⟨zq_27 zg_14_104_24.2.2.2.2.2.2.2.2.2.2.2.2.2.2.2.2.2.2.2.2.2, rfl⟩
theorem zg_14_104_46 : zq_at zy_readLayer_14_104.2.1 46 154 ∧ zq_at zy_readLayer_14_104.2.1 47 0 ∧ zq_at zy_readLayer_14_104.2.1 48 18 ∧ zq_at zy_readLayer_14_104.2.1 49 28 ∧ zq_at zy_readLayer_14_104.2.1 50 154 ∧ zq_at zy_readLayer_14_104.2.1 51 0 ∧ zq_at zy_readLayer_14_104.2.1 52 14 ∧ zq_at zy_readLayer_14_104.2.1 53 29 ∧ zq_at zy_readLayer_14_104.2.1 54 155 ∧ zq_at zy_readLayer_14_104.2.1 55 0 ∧ zq_at zy_readLayer_14_104.2.1 56 10 ∧ zq_at zy_readLayer_14_104.2.1 64 3 ∧ zq_at zy_readLayer_14_104.2.1 65 54 ∧ zq_at zy_readLayer_14_104.2.1 66 4 ∧ zq_at zy_readLayer_14_104.2.1 67 29 ∧ zq_at zy_readLayer_14_104.2.1 68 155 ∧ zq_at zy_readLayer_14_104.2.1 69 0 ∧ zq_at zy_readLayer_14_104.2.1 70 38 ∧ zq_at zy_readLayer_14_104.2.1 106 3 ∧ zq_at zy_readLayer_14_104.2.1 107 172 ∧ zq_at zy_readLayer_14_104.2.1 57 42 ∧ zq_at zy_readLayer_14_104.2.1 58 182 ∧ zq_at zy_readLayer_14_104.2.1 59 2 ∧ zq_at zy_readLayer_14_104.2.1 60 70 := by decide +kernel
theorem zd_14_104_46 : zz_B zy_readLayer_14_104 46 (Instr.ifCond .ne) 64 49 := ⟨18, zq_154 zg_14_104_46.1 zg_14_104_46.2.1 zg_14_104_46.2.2.1 (by decide), rfl, rfl⟩
theorem zd_14_104_49 : zz_D zy_readLayer_14_104 49 (.iload_n 2) 1 50 := ⟨zq_28 zg_14_104_46.2.2.2.1, rfl⟩
theorem zd_14_104_50 : zz_B zy_readLayer_14_104 50 (Instr.ifCond .ne) 64 53 := ⟨14, zq_154 zg_14_104_46.2.2.2.2.1 zg_14_104_46.2.2.2.2.2.1 zg_14_104_46.2.2.2.2.2.2.1 (by decide), rfl, rfl⟩
theorem zd_14_104_53 : zz_D zy_readLayer_14_104 53 (.iload_n 3) 1 54 := ⟨zq_29 zg_14_104_46.2.2.2.2.2.2.2.1, rfl⟩
theorem zd_14_104_54 : zz_B zy_readLayer_14_104 54 (Instr.ifCond .lt) 64 57 := ⟨10, zq_155 zg_14_104_46.2.2.2.2.2.2.2.2.1 zg_14_104_46.2.2.2.2.2.2.2.2.2.1 zg_14_104_46.2.2.2.2.2.2.2.2.2.2.1 (by decide), rfl, rfl⟩
theorem zd_14_104_64 : zz_D zy_readLayer_14_104 64 (.iconst 0) 1 65 := ⟨zq_3 zg_14_104_46.2.2.2.2.2.2.2.2.2.2.2.1, rfl⟩
theorem zd_14_104_65 : zz_D zy_readLayer_14_104 65 (.istore 4) 2 67 := ⟨zq_54 zg_14_104_46.2.2.2.2.2.2.2.2.2.2.2.2.1 zg_14_104_46.2.2.2.2.2.2.2.2.2.2.2.2.2.1, rfl⟩
theorem zd_14_104_67 : zz_D zy_readLayer_14_104 67 (.iload_n 3) 1 68 := ⟨zq_29 zg_14_104_46.2.2.2.2.2.2.2.2.2.2.2.2.2.2.1, rfl⟩
theorem zd_14_104_68 : zz_B zy_readLayer_14_104 68 (Instr.ifCond .lt) 106 71 := ⟨38, zq_155 zg_14_104_46.2.2.2.2.2.2.2.2.2.2.2.2.2.2.2.1 zg_14_104_46.2.2.2.2.2.2.2.2.2.2.2.2.2.2.2.2.1 zg_14_104_46.2.2.2.2.2.2.2.2.2.2.2.2.2.2.2.2.2.1 (by decide), rfl, rfl⟩
theorem zd_14_104_106 : zz_D zy_readLayer_14_104 106 (.iconst 0) 1 107 := ⟨zq_3 zg_14_104_46.2.2.2.2.2.2.2.2.2.2.2.2.2.2.2.2.2.2.1, rfl⟩
theorem zd_14_104_107 : zz_D zy_readLayer_14_104 107 (.ireturn) 1 108 := ⟨zq_172 zg_14_104_46.2.2.2.2.2.2.2.2.2.2.2.2.2.2.2.2.2.2.2.1, rfl⟩
theorem zd_14_104_57 : zz_D zy_readLayer_14_104 57 (.aload_n 0) 1 58 := ⟨zq_42 zg_14_104_46.2.2.2.2.2.2.2.2.2.2.2.2.2.2.2.2.2.2.2.2.1, rfl⟩
theorem zd_14_104_58 : zz_D zy_readLayer_14_104 58 (.invokevirtual 582) 3 61 := ⟨zq_182 zg_14_104_46.2.2.2.2.2.2.2.2.2.2.2.2.2.2.2.2.2.2.2.2.2.1 zg_14_104_46.2.2.2.2.2.2.2.2.2.2.2.2.2.2.2.2.2.2.2.2.2.2.1 zg_14_104_46.2.2.2.2.2.2.2.2.2.2.2.2.2.2.2.2.2.2.2.2.2.2.2 rfl, rfl⟩
theorem zg_14_104_61 : zq_at zy_readLayer_14_104.2.1 61 167 ∧ zq_at zy_readLayer_14_104.2.1 62 0 ∧ zq_at zy_readLayer_14_104.2.1 63 4 ∧ zq_at zy_readLayer_14_104.2.1 71 21 ∧ zq_at zy_readLayer_14_104.2.1 72 4 ∧ zq_at zy_readLayer_14_104.2.1 73 155 ∧ zq_at zy_readLayer_14_104.2.1 74 0 ∧ zq_at zy_readLayer_14_104.2.1 75 33 ∧ zq_at zy_readLayer_14_104.2.1 76 42 ∧ zq_at zy_readLayer_14_104.2.1 77 27 ∧ zq_at zy_readLayer_14_104.2.1 78 153 ∧ zq_at zy_readLayer_14_104.2.1 79 0 ∧ zq_at zy_readLayer_14_104.2.1 80 9 ∧ zq_at zy_readLayer_14_104.2.1 87 28 ∧ zq_at zy_readLayer_14_104.2.1 88 153 ∧ zq_at zy_readLayer_14_104.2.1 89 0 ∧ zq_at zy_readLayer_14_104.2.1 90 9 ∧ zq_at zy_readLayer_14_104.2.1 97 17 ∧ zq_at zy_readLayer_14_104.2.1 98 0 ∧ zq_at zy_readLayer_14_104.2.1 99 224 ∧ zq_at zy_readLayer_14_104.2.1 100 182 ∧ zq_at zy_readLayer_14_104.2.1 101 2 ∧ zq_at zy_readLayer_14_104.2.1 102 64 := by decide +kernel
theorem zd_14_104_61 : zz_B zy_readLayer_14_104 61 Instr.goto 65 64 := ⟨4, zq_167 zg_14_104_61.1 zg_14_104_61.2.1 zg_14_104_61.2.2.1 (by decide), rfl, rfl⟩
theorem zd_14_104_71 : zz_D zy_readLayer_14_104 71 (.iload 4) 2 73 := ⟨zq_21 zg_14_104_61.2.2.2.1 zg_14_104_61.2.2.2.2.1, rfl⟩
theorem zd_14_104_73 : zz_B zy_readLayer_14_104 73 (Instr.ifCond .lt) 106 76 := ⟨33, zq_155 zg_14_104_61.2.2.2.2.2.1 zg_14_104_61.2.2.2.2.2.2.1 zg_14_104_61.2.2.2.2.2.2.2.1 (by decide), rfl, rfl⟩
theorem zd_14_104_76 : zz_D zy_readLayer_14_104 76 (.aload_n 0) 1 77 := ⟨zq_42 zg_14_104_61.2.2.2.2.2.2.2.2.1, rfl⟩
theorem zd_14_104_77 : zz_D zy_readLayer_14_104 77 (.iload_n 1) 1 78 := ⟨zq_27 zg_14_104_61.2.2.2.2.2.2.2.2.2.1, rfl⟩
theorem zd_14_104_78 : zz_B zy_readLayer_14_104 78 (Instr.ifCond .eq) 87 81 := ⟨9, zq_153 zg_14_104_61.2.2.2.2.2.2.2.2.2.2.1 zg_14_104_61.2.2.2.2.2.2.2.2.2.2.2.1 zg_14_104_61.2.2.2.2.2.2.2.2.2.2.2.2.1 (by decide), rfl, rfl⟩
theorem zd_14_104_87 : zz_D zy_readLayer_14_104 87 (.iload_n 2) 1 88 := ⟨zq_28 zg_14_104_61.2.2.2.2.2.2.2.2.2.2.2.2.2.1, rfl⟩
theorem zd_14_104_88 : zz_B zy_readLayer_14_104 88 (Instr.ifCond .eq) 97 91 := ⟨9, zq_153 zg_14_104_61.2.2.2.2.2.2.2.2.2.2.2.2.2.2.1 zg_14_104_61.2.2.2.2.2.2.2.2.2.2.2.2.2.2.2.1 zg_14_104_61.2.2.2.2.2.2.2.2.2.2.2.2.2.2.2.2.1 (by decide), rfl, rfl⟩
theorem zd_14_104_97 : zz_D zy_readLayer_14_104 97 (.sipush 224) 3 100 := ⟨zq_17 zg_14_104_61.2.2.2.2.2.2.2.2.2.2.2.2.2.2.2.2.2.1 zg_14_104_61.2.2.2.2.2.2.2.2.2.2.2.2.2.2.2.2.2.2.1 zg_14_104_61.2.2.2.2.2.2.2.2.2.2.2.2.2.2.2.2.2.2.2.1 (by decide), rfl⟩
theorem zd_14_104_100 : zz_D zy_readLayer_14_104 100 (.invokevirtual 576) 3 103 := ⟨zq_182 zg_14_104_61.2.2.2.2.2.2.2.2.2.2.2.2.2.2.2.2.2.2.2.2.1 zg_14_104_61.2.2.2.2.2.2.2.2.2.2.2.2.2.2.2.2.2.2.2.2.2.1 zg_14_104_61.2.2.2.2.2.2.2.2.2.2.2.2.2.2.2.2.2.2.2.2.2.2 rfl, rfl⟩
theorem zg_14_104_103 : zq_at zy_readLayer_14_104.2.1 103 154 ∧ zq_at zy_readLayer_14_104.2.1 104 0 ∧ zq_at zy_readLayer_14_104.2.1 105 5 ∧ zq_at zy_readLayer_14_104.2.1 108 42 ∧ zq_at zy_readLayer_14_104.2.1 109 180 ∧ zq_at zy_readLayer_14_104.2.1 110 0 ∧ zq_at zy_readLayer_14_104.2.1 111 136 ∧ zq_at zy_readLayer_14_104.2.1 112 16 ∧ zq_at zy_readLayer_14_104.2.1 113 6 ∧ zq_at zy_readLayer_14_104.2.1 114 46 ∧ zq_at zy_readLayer_14_104.2.1 115 16 ∧ zq_at zy_readLayer_14_104.2.1 116 16 ∧ zq_at zy_readLayer_14_104.2.1 117 42 ∧ zq_at zy_readLayer_14_104.2.1 118 180 ∧ zq_at zy_readLayer_14_104.2.1 119 0 ∧ zq_at zy_readLayer_14_104.2.1 120 136 ∧ zq_at zy_readLayer_14_104.2.1 121 16 ∧ zq_at zy_readLayer_14_104.2.1 122 7 ∧ zq_at zy_readLayer_14_104.2.1 123 46 ∧ zq_at zy_readLayer_14_104.2.1 124 104 ∧ zq_at zy_readLayer_14_104.2.1 125 96 ∧ zq_at zy_readLayer_14_104.2.1 126 54 ∧ zq_at zy_readLayer_14_104.2.1 127 5 := by decide +kernel
theorem zd_14_104_103 : zz_B zy_readLayer_14_104 103 (Instr.ifCond .ne) 108 106 := ⟨5, zq_154 zg_14_104_103.1 zg_14_104_103.2.1 zg_14_104_103.2.2.1 (by decide), rfl, rfl⟩
theorem zd_14_104_108 : zz_D zy_readLayer_14_104 108 (.aload_n 0) 1 109 := ⟨zq_42 zg_14_104_103.2.2.2.1, rfl⟩
theorem zd_14_104_109 : zz_D zy_readLayer_14_104 109 (.getfield 136) 3 112 := ⟨zq_180 zg_14_104_103.2.2.2.2.1 zg_14_104_103.2.2.2.2.2.1 zg_14_104_103.2.2.2.2.2.2.1 rfl, rfl⟩
theorem zd_14_104_112 : zz_D zy_readLayer_14_104 112 (.bipush 6) 2 114 := ⟨zq_16 zg_14_104_103.2.2.2.2.2.2.2.1 zg_14_104_103.2.2.2.2.2.2.2.2.1 (by decide), rfl⟩
theorem zd_14_104_114 : zz_D zy_readLayer_14_104 114 (.iaload) 1 115 := ⟨zq_46 zg_14_104_103.2.2.2.2.2.2.2.2.2.1, rfl⟩
theorem zd_14_104_115 : zz_D zy_readLayer_14_104 115 (.bipush 16) 2 117 := ⟨zq_16 zg_14_104_103.2.2.2.2.2.2.2.2.2.2.1 zg_14_104_103.2.2.2.2.2.2.2.2.2.2.2.1 (by decide), rfl⟩
theorem zd_14_104_117 : zz_D zy_readLayer_14_104 117 (.aload_n 0) 1 118 := ⟨zq_42 zg_14_104_103.2.2.2.2.2.2.2.2.2.2.2.2.1, rfl⟩
theorem zd_14_104_118 : zz_D zy_readLayer_14_104 118 (.getfield 136) 3 121 := ⟨zq_180 zg_14_104_103.2.2.2.2.2.2.2.2.2.2.2.2.2.1 zg_14_104_103.2.2.2.2.2.2.2.2.2.2.2.2.2.2.1 zg_14_104_103.2.2.2.2.2.2.2.2.2.2.2.2.2.2.2.1 rfl, rfl⟩
theorem zd_14_104_121 : zz_D zy_readLayer_14_104 121 (.bipush 7) 2 123 := ⟨zq_16 zg_14_104_103.2.2.2.2.2.2.2.2.2.2.2.2.2.2.2.2.1 zg_14_104_103.2.2.2.2.2.2.2.2.2.2.2.2.2.2.2.2.2.1 (by decide), rfl⟩
theorem zd_14_104_123 : zz_D zy_readLayer_14_104 123 (.iaload) 1 124 := ⟨zq_46 zg_14_104_103.2.2.2.2.2.2.2.2.2.2.2.2.2.2.2.2.2.2.1, rfl⟩
theorem zd_14_104_124 : zz_D zy_readLayer_14_104 124 (.imul) 1 125 := ⟨zq_104 zg_14_104_103.2.2.2.2.2.2.2.2.2.2.2.2.2.2.2.2.2.2.2.1, rfl⟩
theorem zd_14_104_125 : zz_D zy_readLayer_14_104 125 (.iadd) 1 126 := ⟨zq_96 zg_14_104_103.2.2.2.2.2.2.2.2.2.2.2.2.2.2.2.2.2.2.2.2.1, rfl⟩
theorem zd_14_104_126 : zz_D zy_readLayer_14_104 126 (.istore 5) 2 128 := ⟨zq_54 zg_14_104_103.2.2.2.2.2.2.2.2.2.2.2.2.2.2.2.2.2.2.2.2.2.1 zg_14_104_103.2.2.2.2.2.2.2.2.2.2.2.2.2.2.2.2.2.2.2.2.2.2, rfl⟩
theorem zg_14_104_128 : zq_at zy_readLayer_14_104.2.1 128 16 ∧ zq_at zy_readLayer_14_104.2.1 129 10 ∧ zq_at zy_readLayer_14_104.2.1 130 42 ∧ zq_at zy_readLayer_14_104.2.1 131 180 ∧ zq_at zy_readLayer_14_104.2.1 132 0 ∧ zq_at zy_readLayer_14_104.2.1 133 136 ∧ zq_at zy_readLayer_14_104.2.1 134 3 ∧ zq_at zy_readLayer_14_104.2.1 135 46 ∧ zq_at zy_readLayer_14_104.2.1 136 104 ∧ zq_at zy_readLayer_14_104.2.1 137 42 ∧ zq_at zy_readLayer_14_104.2.1 138 180 ∧ zq_at zy_readLayer_14_104.2.1 139 0 ∧ zq_at zy_readLayer_14_104.2.1 140 136 ∧ zq_at zy_readLayer_14_104.2.1 141 4 ∧ zq_at zy_readLayer_14_104.2.1 142 46 ∧ zq_at zy_readLayer_14_104.2.1 143 96 ∧ zq_at zy_readLayer_14_104.2.1 144 54 ∧ zq_at zy_readLayer_14_104.2.1 145 6 ∧ zq_at zy_readLayer_14_104.2.1 146 42 ∧ zq_at zy_readLayer_14_104.2.1 147 180 ∧ zq_at zy_readLayer_14_104.2.1 148 0 ∧ zq_at zy_readLayer_14_104.2.1 149 136 ∧ zq_at zy_readLayer_14_104.2.1 150 3 ∧ zq_at zy_readLayer_14_104.2.1 151 46 := by decide +kernel
theorem zd_14_104_128 : zz_D zy_readLayer_14_104 128 (.bipush 10) 2 130 := ⟨zq_16 zg_14_104_128.1 zg_14_104_128.2.1 (by decide), rfl⟩
theorem zd_14_104_130 : zz_D zy_readLayer_14_104 130 (.aload_n 0) 1 131 := ⟨zq_42 zg_14_104_128.2.2.1, rfl⟩
theorem zd_14_104_131 : zz_D zy_readLayer_14_104 131 (.getfield 136) 3 134 := ⟨zq_180 zg_14_104_128.2.2.2.1 zg_14_104_128.2.2.2.2.1 zg_14_104_128.2.2.2.2.2.1 rfl, rfl⟩
theorem zd_14_104_134 : zz_D zy_readLayer_14_104 134 (.iconst 0) 1 135 := ⟨zq_3 zg_14_104_128.2.2.2.2.2.2.1, rfl⟩
theorem zd_14_104_135 : zz_D zy_readLayer_14_104 135 (.iaload) 1 136 := ⟨zq_46 zg_14_104_128.2.2.2.2.2.2.2.1, rfl⟩
theorem zd_14_104_136 : zz_D zy_readLayer_14_104 136 (.imul) 1 137 := ⟨zq_104 zg_14_104_128.2.2.2.2.2.2.2.2.1, rfl⟩
theorem zd_14_104_137 : zz_D zy_readLayer_14_104 137 (.aload_n 0) 1 138 := ⟨zq_42 zg_14_104_128.2.2.2.2.2.2.2.2.2.1, rfl⟩
theorem zd_14_104_138 : zz_D zy_readLayer_14_104 138 (.getfield 136) 3 141 := ⟨zq_180 zg_14_104_128.2.2.2.2.2.2.2.2.2.2.1 zg_14_104_128.2.2.2.2.2.2.2.2.2.2.2.1 zg_14_104_128.2.2.2.2.2.2.2.2.2.2.2.2.1 rfl, rfl⟩
theorem zd_14_104_141 : zz_D zy_readLayer_14_104 141 (.iconst 1) 1 142 := ⟨zq_4 zg_14_104_128.2.2.2.2.2.2.2.2.2.2.2.2.2.1, rfl⟩
theorem zd_14_104_142 : zz_D zy_readLayer_14_104 142 (.iaload) 1 143 := ⟨zq_46 zg_14_104_128.2.2.2.2.2.2.2.2.2.2.2.2.2.2.1, rfl⟩
theorem zd_14_104_143 : zz_D zy_readLayer_14_104 143 (.iadd) 1 144 := ⟨zq_96 zg_14_104_128.2.2.2.2.2.2.2.2.2.2.2.2.2.2.2.1, rfl⟩
theorem zd_14_104_144 : zz_D zy_readLayer_14_104 144 (.istore 6) 2 146 := ⟨zq_54 zg_14_104_128.2.2.2.2.2.2.2.2.2.2.2.2.2.2.2.2.1 zg_14_104_128.2.2.2.2.2.2.2.2.2.2.2.2.2.2.2.2.2.1, rfl⟩
theorem zd_14_104_146 : zz_D zy_readLayer_14_104 146 (.aload_n 0) 1 147 := ⟨zq_42 zg_14_104_128.2.2.2.2.2.2.2.2.2.2.2.2.2.2.2.2.2.2.1, rfl⟩
theorem zd_14_104_147 : zz_D zy_readLayer_14_104 147 (.getfield 136) 3 150 := ⟨zq_180 zg_14_104_128.2.2.2.2.2.2.2.2.2.2.2.2.2.2.2.2.2.2.2.1 zg_14_104_128.2.2.2.2.2.2.2.2.2.2.2.2.2.2.2.2.2.2.2.2.1 zg_14_104_128.2.2.2.2.2.2.2.2.2.2.2.2.2.2.2.2.2.2.2.2.2.1 rfl, rfl⟩
theorem zd_14_104_150 : zz_D zy_readLayer_14_104 150 (.iconst 0) 1 151 := ⟨zq_3 zg_14_104_128.2.2.2.2.2.2.2.2.2.2.2.2.2.2.2.2.2.2.2.2.2.2.1, rfl⟩
theorem zd_14_104_151 : zz_D zy_readLayer_14_104 151 (.iaload) 1 152 := ⟨zq_46 zg_14_104_128.2.2.2.2.2.2.2.2.2.2.2.2.2.2.2.2.2.2.2.2.2.2.2, rfl⟩
theorem zg_14_104_152 : zq_at zy_readLayer_14_104.2.1 152 133 ∧ zq_at zy_readLayer_14_104.2.1 153 10 ∧ zq_at zy_readLayer_14_104.2.1 154 20 ∧ zq_at zy_readLayer_14_104.2.1 155 1 ∧ zq_at zy_readLayer_14_104.2.1 156 160 ∧ zq_at zy_readLayer_14_104.2.1 157 184 ∧ zq_at zy_readLayer_14_104.2.1 158 0 ∧ zq_at zy_readLayer_14_104.2.1 159 192 ∧ zq_at zy_readLayer_14_104.2.1 160 153 ∧ zq_at zy_readLayer_14_104.2.1 161 0 ∧ zq_at zy_readLayer_14_104.2.1 162 24 ∧ zq_at zy_readLayer_14_104.2.1 184 3 ∧ zq_at zy_readLayer_14_104.2.1 185 54 ∧ zq_at zy_readLayer_14_104.2.1 186 7 ∧ zq_at zy_readLayer_14_104.2.1 187 2 ∧ zq_at zy_readLayer_14_104.2.1 188 54 ∧ zq_at zy_readLayer_14_104.2.1 189 8 ∧ zq_at zy_readLayer_14_104.2.1 190 27 ∧ zq_at zy_readLayer_14_104.2.1 191 153 ∧ zq_at zy_readLayer_14_104.2.1 192 0 ∧ zq_at zy_readLayer_14_104.2.1 193 108 ∧ zq_at zy_readLayer_14_104.2.1 299 28 := by decide +kernel
theorem zd_14_104_152 : zz_D zy_readLayer_14_104 152 (.i2l) 1 153 := ⟨zq_133 zg_14_104_152.1, rfl⟩
theorem zd_14_104_153 : zz_D zy_readLayer_14_104 153 (.lconst 1) 1 154 := ⟨zq_10 zg_14_104_152.2.1, rfl⟩
theorem zd_14_104_154 : zz_D zy_readLayer_14_104 154 (.ldc2_w 416) 3 157 := ⟨zq_20 zg_14_104_152.2.2.1 zg_14_104_152.2.2.2.1 zg_14_104_152.2.2.2.2.1 rfl, rfl⟩
theorem zd_14_104_157 : zz_D zy_readLayer_14_104 157 (.invokestatic 192) 3 160 := ⟨zq_184 zg_14_104_152.2.2.2.2.2.1 zg_14_104_152.2.2.2.2.2.2.1 zg_14_104_152.2.2.2.2.2.2.2.1 rfl, rfl⟩
theorem zd_14_104_160 : zz_B zy_readLayer_14_104 160 (Instr.ifCond .eq) 184 163 := ⟨24, zq_153 zg_14_104_152.2.2.2.2.2.2.2.2.1 zg_14_104_152.2.2.2.2.2.2.2.2.2.1 zg_14_104_152.2.2.2.2.2.2.2.2.2.2.1 (by decide), rfl, rfl⟩
theorem zd_14_104_184 : zz_D zy_readLayer_14_104 184 (.iconst 0) 1 185 := ⟨zq_3 zg_14_104_152.2.2.2.2.2.2.2.2.2.2.2.1, rfl⟩
theorem zd_14_104_185 : zz_D zy_readLayer_14_104 185 (.istore 7) 2 187 := ⟨zq_54 zg_14_104_152.2.2.2.2.2.2.2.2.2.2.2.2.1 zg_14_104_152.2.2.2.2.2.2.2.2.2.2.2.2.2.1, rfl⟩
theorem zd_14_104_187 : zz_D zy_readLayer_14_104 187 (.iconst (-1)) 1 188 := ⟨zq_2 zg_14_104_152.2.2.2.2.2.2.2.2.2.2.2.2.2.2.1, rfl⟩
theorem zd_14_104_188 : zz_D zy_readLayer_14_104 188 (.istore 8) 2 190 := ⟨zq_54 zg_14_104_152.2.2.2.2.2.2.2.2.2.2.2.2.2.2.2.1 zg_14_104_152.2.2.2.2.2.2.2.2.2.2.2.2.2.2.2.2.1, rfl⟩
theorem zd_14_104_190 : zz_D zy_readLayer_14_104 190 (.iload_n 1) 1 191 := ⟨zq_27 zg_14_104_152.2.2.2.2.2.2.2.2.2.2.2.2.2.2.2.2.2.1, rfl⟩
theorem zd_14_104_191 : zz_B zy_readLayer_14_104 191 (Instr.ifCond .eq) 299 194 := ⟨108, zq_153 zg_14_104_152.2.2.2.2.2.2.2.2.2.2.2.2.2.2.2.2.2.2.1 zg_14_104_152.2.2.2.2.2.2.2.2.2.2.2.2.2.2.2.2.2.2.2.1 zg_14_104_152.2.2.2.2.2.2.2.2.2.2.2.2.2.2.2.2.2.2.2.2.1 (by decide), rfl, rfl⟩
theorem zd_14_104_299 : zz_D zy_readLayer_14_104 299 (.iload_n 2) 1 300 := ⟨zq_28 zg_14_104_152.2.2.2.2.2.2.2.2.2.2.2.2.2.2.2.2.2.2.2.2.2, rfl⟩
theorem zg_14_104_300 : zq_at zy_readLayer_14_104.2.1 300 153 ∧ zq_at zy_readLayer_14_104.2.1 301 0 ∧ zq_at zy_readLayer_14_104.2.1 302 37 ∧ zq_at zy_readLayer_14_104.2.1 337 42 ∧ zq_at zy_readLayer_14_104.2.1 338 180 ∧ zq_at zy_readLayer_14_104.2.1 339 0 ∧ zq_at zy_readLayer_14_104.2.1 340 136 ∧ zq_at zy_readLayer_14_104.2.1 341 16 ∧ zq_at zy_readLayer_14_104.2.1 342 6 ∧ zq_at zy_readLayer_14_104.2.1 343 46 ∧ zq_at zy_readLayer_14_104.2.1 344 16 ∧ zq_at zy_readLayer_14_104.2.1 345 15 ∧ zq_at zy_readLayer_14_104.2.1 346 164 ∧ zq_at zy_readLayer_14_104.2.1 347 0 ∧ zq_at zy_readLayer_14_104.2.1 348 5 ∧ zq_at zy_readLayer_14_104.2.1 351 42 ∧ zq_at zy_readLayer_14_104.2.1 352 29 ∧ zq_at zy_readLayer_14_104.2.1 353 21 ∧ zq_at zy_readLayer_14_104.2.1 354 4 ∧ zq_at zy_readLayer_14_104.2.1 355 21 ∧ zq_at zy_readLayer_14_104.2.1 356 5 ∧ zq_at zy_readLayer_14_104.2.1 357 182 ∧ zq_at zy_readLayer_14_104.2.1 358 2 ∧ zq_at zy_readLayer_14_104.2.1 359 80 := by decide +kernel
theorem zd_14_104_300 : zz_B zy_readLayer_14_104 300 (Instr.ifCond .eq) 337 303 := ⟨37, zq_153 zg_14_104_300.1 zg_14_104_300.2.1 zg_14_104_300.2.2.1 (by decide), rfl, rfl⟩
theorem zd_14_104_337 : zz_D zy_readLayer_14_104 337 (.aload_n 0) 1 338 := ⟨zq_42 zg_14_104_300.2.2.2.1, rfl⟩
theorem zd_14_104_338 : zz_D zy_readLayer_14_104 338 (.getfield 136) 3 341 := ⟨zq_180 zg_14_104_300.2.2.2.2.1 zg_14_104_300.2.2.2.2.2.1 zg_14_104_300.2.2.2.2.2.2.1 rfl, rfl⟩
theorem zd_14_104_341 : zz_D zy_readLayer_14_104 341 (.bipush 6) 2 343 := ⟨zq_16 zg_14_104_300.2.2.2.2.2.2.2.1 zg_14_104_300.2.2.2.2.2.2.2.2.1 (by decide), rfl⟩
theorem zd_14_104_343 : zz_D zy_readLayer_14_104 343 (.iaload) 1 344 := ⟨zq_46 zg_14_104_300.2.2.2.2.2.2.2.2.2.1, rfl⟩
theorem zd_14_104_344 : zz_D zy_readLayer_14_104 344 (.bipush 15) 2 346 := ⟨zq_16 zg_14_104_300.2.2.2.2.2.2.2.2.2.2.1 zg_14_104_300.2.2.2.2.2.2.2.2.2.2.2.1 (by decide), rfl⟩
theorem zd_14_104_346 : zz_B zy_readLayer_14_104 346 (Instr.if_icmp .le) 351 349 := ⟨5, zq_164 zg_14_104_300.2.2.2.2.2.2.2.2.2.2.2.2.1 zg_14_104_300.2.2.2.2.2.2.2.2.2.2.2.2.2.1 zg_14_104_300.2.2.2.2.2.2.2.2.2.2.2.2.2.2.1 (by decide), rfl, rfl⟩
theorem zd_14_104_351 : zz_D zy_readLayer_14_104 351 (.aload_n 0) 1 352 := ⟨zq_42 zg_14_104_300.2.2.2.2.2.2.2.2.2.2.2.2.2.2.2.1, rfl⟩
theorem zd_14_104_352 : zz_D zy_readLayer_14_104 352 (.iload_n 3) 1 353 := ⟨zq_29 zg_14_104_300.2.2.2.2.2.2.2.2.2.2.2.2.2.2.2.2.1, rfl⟩
theorem zd_14_104_353 : zz_D zy_readLayer_14_104 353 (.iload 4) 2 355 := ⟨zq_21 zg_14_104_300.2.2.2.2.2.2.2.2.2.2.2.2.2.2.2.2.2.1 zg_14_104_300.2.2.2.2.2.2.2.2.2.2.2.2.2.2.2.2.2.2.1, rfl⟩
theorem zd_14_104_355 : zz_D zy_readLayer_14_104 355 (.iload 5) 2 357 := ⟨zq_21 zg_14_104_300.2.2.2.2.2.2.2.2.2.2.2.2.2.2.2.2.2.2.2.1 zg_14_104_300.2.2.2.2.2.2.2.2.2.2.2.2.2.2.2.2.2.2.2.2.1, rfl⟩
theorem zd_14_104_357 : zz_D zy_readLayer_14_104 357 (.invokevirtual 592) 3 360 := ⟨zq_182 zg_14_104_300.2.2.2.2.2.2.2.2.2.2.2.2.2.2.2.2.2.2.2.2.2.1 zg_14_104_300.2.2.2.2.2.2.2.2.2.2.2.2.2.2.2.2.2.2.2.2.2.2.1 zg_14_104_300.2.2.2.2.2.2.2.2.2.2.2.2.2.2.2.2.2.2.2.2.2.2.2 rfl, rfl⟩
theorem zg_14_104_360 : zq_at zy_readLayer_14_104.2.1 360 54 ∧ zq_at zy_readLayer_14_104.2.1 361 8 ∧ zq_at zy_readLayer_14_104.2.1 362 42 ∧ zq_at zy_readLayer_14_104.2.1 363 180 ∧ zq_at zy_readLayer_14_104.2.1 364 0 ∧ zq_at zy_readLayer_14_104.2.1 365 187 ∧ zq_at zy_readLayer_14_104.2.1 366 158 ∧ zq_at zy_readLayer_14_104.2.1 367 0 ∧ zq_at zy_readLayer_14_104.2.1 368 5 ∧ zq_at zy_readLayer_14_104.2.1 371 42 ∧ zq_at zy_readLayer_14_104.2.1 372 180 ∧ zq_at zy_readLayer_14_104.2.1 373 0 ∧ zq_at zy_readLayer_14_104.2.1 374 133 ∧ zq_at zy_readLayer_14_104.2.1 375 21 ∧ zq_at zy_readLayer_14_104.2.1 376 8 ∧ zq_at zy_readLayer_14_104.2.1 377 42 ∧ zq_at zy_readLayer_14_104.2.1 378 180 ∧ zq_at zy_readLayer_14_104.2.1 379 2 ∧ zq_at zy_readLayer_14_104.2.1 380 52 ∧ zq_at zy_readLayer_14_104.2.1 381 80 ∧ zq_at zy_readLayer_14_104.2.1 382 4 ∧ zq_at zy_readLayer_14_104.2.1 383 172 ∧ zq_at zy_readLayer_14_104.2.1 369 3 ∧ zq_at zy_readLayer_14_104.2.1 370 172 := by decide +kernel
theorem zd_14_104_360 : zz_D zy_readLayer_14_104 360 (.istore 8) 2 362 := ⟨zq_54 zg_14_104_360.1 zg_14_104_360.2.1, rfl⟩
theorem zd_14_104_362 : zz_D zy_readLayer_14_104 362 (.aload_n 0) 1 363 := ⟨zq_42 zg_14_104_360.2.2.1, rfl⟩
theorem zd_14_104_363 : zz_D zy_readLayer_14_104 363 (.getfield 187) 3 366 := ⟨zq_180 zg_14_104_360.2.2.2.1 zg_14_104_360.2.2.2.2.1 zg_14_104_360.2.2.2.2.2.1 rfl, rfl⟩
theorem zd_14_104_366 : zz_B zy_readLayer_14_104 366 (Instr.ifCond .le) 371 369 := ⟨5, zq_158 zg_14_104_360.2.2.2.2.2.2.1 zg_14_104_360.2.2.2.2.2.2.2.1 zg_14_104_360.2.2.2.2.2.2.2.2.1 (by decide), rfl, rfl⟩
theorem zd_14_104_371 : zz_D zy_readLayer_14_104 371 (.aload_n 0) 1 372 := ⟨zq_42 zg_14_104_360.2.2.2.2.2.2.2.2.2.1, rfl⟩
theorem zd_14_104_372 : zz_D zy_readLayer_14_104 372 (.getfield 133) 3 375 := ⟨zq_180 zg_14_104_360.2.2.2.2.2.2.2.2.2.2.1 zg_14_104_360.2.2.2.2.2.2.2.2.2.2.2.1 zg_14_104_360.2.2.2.2.2.2.2.2.2.2.2.2.1 rfl, rfl⟩
theorem zd_14_104_375 : zz_D zy_readLayer_14_104 375 (.iload 8) 2 377 := ⟨zq_21 zg_14_104_360.2.2.2.2.2.2.2.2.2.2.2.2.2.1 zg_14_104_360.2.2.2.2.2.2.2.2.2.2.2.2.2.2.1, rfl⟩
theorem zd_14_104_377 : zz_D zy_readLayer_14_104 377 (.aload_n 0) 1 378 := ⟨zq_42 zg_14_104_360.2.2.2.2.2.2.2.2.2.2.2.2.2.2.2.1, rfl⟩
theorem zd_14_104_378 : zz_D zy_readLayer_14_104 378 (.getfield 564) 3 381 := ⟨zq_180 zg_14_104_360.2.2.2.2.2.2.2.2.2.2.2.2.2.2.2.2.1 zg_14_104_360.2.2.2.2.2.2.2.2.2.2.2.2.2.2.2.2.2.1 zg_14_104_360.2.2.2.2.2.2.2.2.2.2.2.2.2.2.2.2.2.2.1 rfl, rfl⟩
theorem zd_14_104_381 : zz_D zy_readLayer_14_104 381 (.lastore) 1 382 := ⟨zq_80 zg_14_104_360.2.2.2.2.2.2.2.2.2.2.2.2.2.2.2.2.2.2.2.1, rfl⟩
theorem zd_14_104_382 : zz_D zy_readLayer_14_104 382 (.iconst 1) 1 383 := ⟨zq_4 zg_14_104_360.2.2.2.2.2.2.2.2.2.2.2.2.2.2.2.2.2.2.2.2.1, rfl⟩
theorem zd_14_104_383 : zz_D zy_readLayer_14_104 383 (.ireturn) 1 384 := ⟨zq_172 zg_14_104_360.2.2.2.2.2.2.2.2.2.2.2.2.2.2.2.2.2.2.2.2.2.1, rfl⟩
theorem zd_14_104_369 : zz_D zy_readLayer_14_104 369 (.iconst 0) 1 370 := ⟨zq_3 zg_14_104_360.2.2.2.2.2.2.2.2.2.2.2.2.2.2.2.2.2.2.2.2.2.2.1, rfl⟩
theorem zd_14_104_370 : zz_D zy_readLayer_14_104 370 (.ireturn) 1 371 := ⟨zq_172 zg_14_104_360.2.2.2.2.2.2.2.2.2.2.2.2.2.2.2.2.2.2.2.2.2.2.2, rfl⟩
theorem zg_14_104_349 : zq_at zy_readLayer_14_104.2.1 349 3 ∧ zq_at zy_readLayer_14_104.2.1 350 172 ∧ zq_at zy_readLayer_14_104.2.1 163 42 ∧ zq_at zy_readLayer_14_104.2.1 164 180 ∧ zq_at zy_readLayer_14_104.2.1 165 0 ∧ zq_at zy_readLayer_14_104.2.1 166 136 ∧ zq_at zy_readLayer_14_104.2.1 167 4 ∧ zq_at zy_readLayer_14_104.2.1 168 46 ∧ zq_at zy_readLayer_14_104.2.1 169 133 ∧ zq_at zy_readLayer_14_104.2.1 170 10 ∧ zq_at zy_readLayer_14_104.2.1 171 20 ∧ zq_at zy_readLayer_14_104.2.1 172 1 ∧ zq_at zy_readLayer_14_104.2.1 173 160 ∧ zq_at zy_readLayer_14_104.2.1 174 184 ∧ zq_at zy_readLayer_14_104.2.1 175 0 ∧ zq_at zy_readLayer_14_104.2.1 176 192 ∧ zq_at zy_readLayer_14_104.2.1 177 153 ∧ zq_at zy_readLayer_14_104.2.1 178 0 ∧ zq_at zy_readLayer_14_104.2.1 179 7 ∧ zq_at zy_readLayer_14_104.2.1 180 4 ∧ zq_at zy_readLayer_14_104.2.1 181 167 ∧ zq_at zy_readLayer_14_104.2.1 182 0 ∧ zq_at zy_readLayer_14_104.2.1 183 4 := by decide +kernel
theorem zd_14_104_349 : zz_D zy_readLayer_14_104 349 (.iconst 0) 1 350 := ⟨zq_3 zg_14_104_349.1, rfl⟩
theorem zd_14_104_350 : zz_D zy_readLayer_14_104 350 (.ireturn) 1 351 := ⟨zq_172 zg_14_104_349.2.1, rfl⟩
theorem zd_14_104_163 : zz_D zy_readLayer_14_104 163 (.aload_n 0) 1 164 := ⟨zq_42 zg_14_104_349.2.2.1, rfl⟩
theorem zd_14_104_164 : zz_D zy_readLayer_14_104 164 (.getfield 136) 3 167 := ⟨zq_180 zg_14_104_349.2.2.2.1 zg_14_104_349.2.2.2.2.1 zg_14_104_349.2.2.2.2.2.1 rfl, rfl⟩
theorem zd_14_104_167 : zz_D zy_readLayer_14_104 167 (.iconst 1) 1 168 := ⟨zq_4 zg_14_104_349.2.2.2.2.2.2.1, rfl⟩
theorem zd_14_104_168 : zz_D zy_readLayer_14_104 168 (.iaload) 1 169 := ⟨zq_46 zg_14_104_349.2.2.2.2.2.2.2.1, rfl⟩
theorem zd_14_104_169 : zz_D zy_readLayer_14_104 169 (.i2l) 1 170 := ⟨zq_133 zg_14_104_349.2.2.2.2.2.2.2.2.1, rfl⟩
theorem zd_14_104_170 : zz_D zy_readLayer_14_104 170 (.lconst 1) 1 171 := ⟨zq_10 zg_14_104_349.2.2.2.2.2.2.2.2.2.1, rfl⟩
theorem zd_14_104_171 : zz_D zy_readLayer_14_104 171 (.ldc2_w 416) 3 174 := ⟨zq_20 zg_14_104_349.2.2.2.2.2.2.2.2.2.2.1 zg_14_104_349.2.2.2.2.2.2.2.2.2.2.2.1 zg_14_104_349.2.2.2.2.2.2.2.2.2.2.2.2.1 rfl, rfl⟩
theorem zd_14_104_174 : zz_D zy_readLayer_14_104 174 (.invokestatic 192) 3 177 := ⟨zq_184 zg_14_104_349.2.2.2.2.2.2.2.2.2.2.2.2.2.1 zg_14_104_349.2.2.2.2.2.2.2.2.2.2.2.2.2.2.1 zg_14_104_349.2.2.2.2.2.2.2.2.2.2.2.2.2.2.2.1 rfl, rfl⟩
theorem zd_14_104_177 : zz_B zy_readLayer_14_104 177 (Instr.ifCond .eq) 184 180 := ⟨7, zq_153 zg_14_104_349.2.2.2.2.2.2.2.2.2.2.2.2.2.2.2.2.1 zg_14_104_349.2.2.2.2.2.2.2.2.2.2.2.2.2.2.2.2.2.1 zg_14_104_349.2.2.2.2.2.2.2.2.2.2.2.2.2.2.2.2.2.2.1 (by decide), rfl, rfl⟩
theorem zd_14_104_180 : zz_D zy_readLayer_14_104 180 (.iconst 1) 1 181 := ⟨zq_4 zg_14_104_349.2.2.2.2.2.2.2.2.2.2.2.2.2.2.2.2.2.2.2.1, rfl⟩
theorem zd_14_104_181 : zz_B zy_readLayer_14_104 181 Instr.goto 185 184 := ⟨4, zq_167 zg_14_104_349.2.2.2.2.2.2.2.2.2.2.2.2.2.2.2.2.2.2.2.2.1 zg_14_104_349.2.2.2.2.2.2.2.2.2.2.2.2.2.2.2.2.2.2.2.2.2.1 zg_14_104_349.2.2.2.2.2.2.2.2.2.2.2.2.2.2.2.2.2.2.2.2.2.2 (by decide), rfl, rfl⟩
theorem zg_14_104_91 : zq_at zy_readLayer_14_104.2.1 91 17 ∧ zq_at zy_readLayer_14_104.2.1 92 0 ∧ zq_at zy_readLayer_14_104.2.1 93 137 ∧ zq_at zy_readLayer_14_104.2.1 94 167 ∧ zq_at zy_readLayer_14_104.2.1 95 0 ∧ zq_at zy_readLayer_14_104.2.1 96 6 ∧ zq_at zy_readLayer_14_104.2.1 303 42 ∧ zq_at zy_readLayer_14_104.2.1 304 180 ∧ zq_at zy_readLayer_14_104.2.1 305 2 ∧ zq_at zy_readLayer_14_104.2.1 306 55 ∧ zq_at zy_readLayer_14_104.2.1 307 4 ∧ zq_at zy_readLayer_14_104.2.1 308 126 ∧ zq_at zy_readLayer_14_104.2.1 309 153 ∧ zq_at zy_readLayer_14_104.2.1 310 0 ∧ zq_at zy_readLayer_14_104.2.1 311 8 ∧ zq_at zy_readLayer_14_104.2.1 317 3 ∧ zq_at zy_readLayer_14_104.2.1 318 172 ∧ zq_at zy_readLayer_14_104.2.1 312 21 ∧ zq_at zy_readLayer_14_104.2.1 313 7 ∧ zq_at zy_readLayer_14_104.2.1 314 154 ∧ zq_at zy_readLayer_14_104.2.1 315 0 ∧ zq_at zy_readLayer_14_104.2.1 316 5 ∧ zq_at zy_readLayer_14_104.2.1 319 42 ∧ zq_at zy_readLayer_14_104.2.1 320 29 := by decide +kernel
theorem zd_14_104_91 : zz_D zy_readLayer_14_104 91 (.sipush 137) 3 94 := ⟨zq_17 zg_14_104_91.1 zg_14_104_91.2.1 zg_14_104_91.2.2.1 (by decide), rfl⟩
theorem zd_14_104_94 : zz_B zy_readLayer_14_104 94 Instr.goto 100 97 := ⟨6, zq_167 zg_14_104_91.2.2.2.1 zg_14_104_91.2.2.2.2.1 zg_14_104_91.2.2.2.2.2.1 (by decide), rfl, rfl⟩
theorem zd_14_104_303 : zz_D zy_readLayer_14_104 303 (.aload_n 0) 1 304 := ⟨zq_42 zg_14_104_91.2.2.2.2.2.2.1, rfl⟩
theorem zd_14_104_304 : zz_D zy_readLayer_14_104 304 (.getfield 567) 3 307 := ⟨zq_180 zg_14_104_91.2.2.2.2.2.2.2.1 zg_14_104_91.2.2.2.2.2.2.2.2.1 zg_14_104_91.2.2.2.2.2.2.2.2.2.1 rfl, rfl⟩
theorem zd_14_104_307 : zz_D zy_readLayer_14_104 307 (.iconst 1) 1 308 := ⟨zq_4 zg_14_104_91.2.2.2.2.2.2.2.2.2.2.1, rfl⟩
theorem zd_14_104_308 : zz_D zy_readLayer_14_104 308 (.iand) 1 309 := ⟨zq_126 zg_14_104_91.2.2.2.2.2.2.2.2.2.2.2.1, rfl⟩
theorem zd_14_104_309 : zz_B zy_readLayer_14_104 309 (Instr.ifCond .eq) 317 312 := ⟨8, zq_153 zg_14_104_91.2.2.2.2.2.2.2.2.2.2.2.2.1 zg_14_104_91.2.2.2.2.2.2.2.2.2.2.2.2.2.1 zg_14_104_91.2.2.2.2.2.2.2.2.2.2.2.2.2.2.1 (by decide), rfl, rfl⟩
theorem zd_14_104_317 : zz_D zy_readLayer_14_104 317 (.iconst 0) 1 318 := ⟨zq_3 zg_14_104_91.2.2.2.2.2.2.2.2.2.2.2.2.2.2.2.1, rfl⟩
theorem zd_14_104_318 : zz_D zy_readLayer_14_104 318 (.ireturn) 1 319 := ⟨zq_172 zg_14_104_91.2.2.2.2.2.2.2.2.2.2.2.2.2.2.2.2.1, rfl⟩
theorem zd_14_104_312 : zz_D zy_readLayer_14_104 312 (.iload 7) 2 314 := ⟨zq_21 zg_14_104_91.2.2.2.2.2.2.2.2.2.2.2.2.2.2.2.2.2.1 zg_14_104_91.2.2.2.2.2.2.2.2.2.2.2.2.2.2.2.2.2.2.1, rfl⟩
theorem zd_14_104_314 : zz_B zy_readLayer_14_104 314 (Instr.ifCond .ne) 319 317 := ⟨5, zq_154 zg_14_104_91.2.2.2.2.2.2.2.2.2.2.2.2.2.2.2.2.2.2.2.1 zg_14_104_91.2.2.2.2.2.2.2.2.2.2.2.2.2.2.2.2.2.2.2.2.1 zg_14_104_91.2.2.2.2.2.2.2.2.2.2.2.2.2.2.2.2.2.2.2.2.2.1 (by decide), rfl, rfl⟩
theorem zd_14_104_319 : zz_D zy_readLayer_14_104 319 (.aload_n 0) 1 320 := ⟨zq_42 zg_14_104_91.2.2.2.2.2.2.2.2.2.2.2.2.2.2.2.2.2.2.2.2.2.2.1, rfl⟩
theorem zd_14_104_320 : zz_D zy_readLayer_14_104 320 (.iload_n 3) 1 321 := ⟨zq_29 zg_14_104_91.2.2.2.2.2.2.2.2.2.2.2.2.2.2.2.2.2.2.2.2.2.2.2, rfl⟩
theorem zg_14_104_321 : zq_at zy_readLayer_14_104.2.1 321 21 ∧ zq_at zy_readLayer_14_104.2.1 322 6 ∧ zq_at zy_readLayer_14_104.2.1 323 42 ∧ zq_at zy_readLayer_14_104.2.1 324 180 ∧ zq_at zy_readLayer_14_104.2.1 325 0 ∧ zq_at zy_readLayer_14_104.2.1 326 136 ∧ zq_at zy_readLayer_14_104.2.1 327 7 ∧ zq_at zy_readLayer_14_104.2.1 328 46 ∧ zq_at zy_readLayer_14_104.2.1 329 182 ∧ zq_at zy_readLayer_14_104.2.1 330 2 ∧ zq_at zy_readLayer_14_104.2.1 331 77 ∧ zq_at zy_readLayer_14_104.2.1 332 54 ∧ zq_at zy_readLayer_14_104.2.1 333 8 ∧ zq_at zy_readLayer_14_104.2.1 334 167 ∧ zq_at zy_readLayer_14_104.2.1 335 0 ∧ zq_at zy_readLayer_14_104.2.1 336 28 ∧ zq_at zy_readLayer_14_104.2.1 81 17 ∧ zq_at zy_readLayer_14_104.2.1 82 0 ∧ zq_at zy_readLayer_14_104.2.1 83 255 ∧ zq_at zy_readLayer_14_104.2.1 84 167 ∧ zq_at zy_readLayer_14_104.2.1 85 0 ∧ zq_at zy_readLayer_14_104.2.1 86 16 ∧ zq_at zy_readLayer_14_104.2.1 194 42 := by decide +kernel
theorem zd_14_104_321 : zz_D zy_readLayer_14_104 321 (.iload 6) 2 323 := ⟨zq_21 zg_14_104_321.1 zg_14_104_321.2.1, rfl⟩
theorem zd_14_104_323 : zz_D zy_readLayer_14_104 323 (.aload_n 0) 1 324 := ⟨zq_42 zg_14_104_321.2.2.1, rfl⟩
theorem zd_14_104_324 : zz_D zy_readLayer_14_104 324 (.getfield 136) 3 327 := ⟨zq_180 zg_14_104_321.2.2.2.1 zg_14_104_321.2.2.2.2.1 zg_14_104_321.2.2.2.2.2.1 rfl, rfl⟩
theorem zd_14_104_327 : zz_D zy_readLayer_14_104 327 (.iconst 4) 1 328 := ⟨zq_7 zg_14_104_321.2.2.2.2.2.2.1, rfl⟩
theorem zd_14_104_328 : zz_D zy_readLayer_14_104 328 (.iaload) 1 329 := ⟨zq_46 zg_14_104_321.2.2.2.2.2.2.2.1, rfl⟩
theorem zd_14_104_329 : zz_D zy_readLayer_14_104 329 (.invokevirtual 589) 3 332 := ⟨zq_182 zg_14_104_321.2.2.2.2.2.2.2.2.1 zg_14_104_321.2.2.2.2.2.2.2.2.2.1 zg_14_104_321.2.2.2.2.2.2.2.2.2.2.1 rfl, rfl⟩
theorem zd_14_104_332 : zz_D zy_readLayer_14_104 332 (.istore 8) 2 334 := ⟨zq_54 zg_14_104_321.2.2.2.2.2.2.2.2.2.2.2.1 zg_14_104_321.2.2.2.2.2.2.2.2.2.2.2.2.1, rfl⟩
theorem zd_14_104_334 : zz_B zy_readLayer_14_104 334 Instr.goto 362 337 := ⟨28, zq_167 zg_14_104_321.2.2.2.2.2.2.2.2.2.2.2.2.2.1 zg_14_104_321.2.2.2.2.2.2.2.2.2.2.2.2.2.2.1 zg_14_104_321.2.2.2.2.2.2.2.2.2.2.2.2.2.2.2.1 (by decide), rfl, rfl⟩
theorem zd_14_104_81 : zz_D zy_readLayer_14_104 81 (.sipush 255) 3 84 := ⟨zq_17 zg_14_104_321.2.2.2.2.2.2.2.2.2.2.2.2.2.2.2.2.1 zg_14_104_321.2.2.2.2.2.2.2.2.2.2.2.2.2.2.2.2.2.1 zg_14_104_321.2.2.2.2.2.2.2.2.2.2.2.2.2.2.2.2.2.2.1 (by decide), rfl⟩
theorem zd_14_104_84 : zz_B zy_readLayer_14_104 84 Instr.goto 100 87 := ⟨16, zq_167 zg_14_104_321.2.2.2.2.2.2.2.2.2.2.2.2.2.2.2.2.2.2.2.1 zg_14_104_321.2.2.2.2.2.2.2.2.2.2.2.2.2.2.2.2.2.2.2.2.1 zg_14_104_321.2.2.2.2.2.2.2.2.2.2.2.2.2.2.2.2.2.2.2.2.2.1 (by decide), rfl, rfl⟩
theorem zd_14_104_194 : zz_D zy_readLayer_14_104 194 (.aload_n 0) 1 195 := ⟨zq_42 zg_14_104_321.2.2.2.2.2.2.2.2.2.2.2.2.2.2.2.2.2.2.2.2.2.2, rfl⟩
theorem zg_14_104_195 : zq_at zy_readLayer_14_104.2.1 195 180 ∧ zq_at zy_readLayer_14_104.2.1 196 2 ∧ zq_at zy_readLayer_14_104.2.1 197 55 ∧ zq_at zy_readLayer_14_104.2.1 198 16 ∧ zq_at zy_readLayer_14_104.2.1 199 7 ∧ zq_at zy_readLayer_14_104.2.1 200 126 ∧ zq_at zy_readLayer_14_104.2.1 201 16 ∧ zq_at zy_readLayer_14_104.2.1 202 7 ∧ zq_at zy_readLayer_14_104.2.1 203 160 ∧ zq_at zy_readLayer_14_104.2.1 204 0 ∧ zq_at zy_readLayer_14_104.2.1 205 52 ∧ zq_at zy_readLayer_14_104.2.1 255 3 ∧ zq_at zy_readLayer_14_104.2.1 256 172 ∧ zq_at zy_readLayer_14_104.2.1 206 21 ∧ zq_at zy_readLayer_14_104.2.1 207 7 ∧ zq_at zy_readLayer_14_104.2.1 208 153 ∧ zq_at zy_readLayer_14_104.2.1 209 0 ∧ zq_at zy_readLayer_14_104.2.1 210 47 ∧ zq_at zy_readLayer_14_104.2.1 211 42 ∧ zq_at zy_readLayer_14_104.2.1 212 180 ∧ zq_at zy_readLayer_14_104.2.1 213 0 ∧ zq_at zy_readLayer_14_104.2.1 214 136 ∧ zq_at zy_readLayer_14_104.2.1 215 7 ∧ zq_at zy_readLayer_14_104.2.1 216 46 := by decide +kernel
theorem zd_14_104_195 : zz_D zy_readLayer_14_104 195 (.getfield 567) 3 198 := ⟨zq_180 zg_14_104_195.1 zg_14_104_195.2.1 zg_14_104_195.2.2.1 rfl, rfl⟩
theorem zd_14_104_198 : zz_D zy_readLayer_14_104 198 (.bipush 7) 2 200 := ⟨zq_16 zg_14_104_195.2.2.2.1 zg_14_104_195.2.2.2.2.1 (by decide), rfl⟩
theorem zd_14_104_200 : zz_D zy_readLayer_14_104 200 (.iand) 1 201 := ⟨zq_126 zg_14_104_195.2.2.2.2.2.1, rfl⟩
theorem zd_14_104_201 : zz_D zy_readLayer_14_104 201 (.bipush 7) 2 203 := ⟨zq_16 zg_14_104_195.2.2.2.2.2.2.1 zg_14_104_195.2.2.2.2.2.2.2.1 (by decide), rfl⟩
theorem zd_14_104_203 : zz_B zy_readLayer_14_104 203 (Instr.if_icmp .ne) 255 206 := ⟨52, zq_160 zg_14_104_195.2.2.2.2.2.2.2.2.1 zg_14_104_195.2.2.2.2.2.2.2.2.2.1 zg_14_104_195.2.2.2.2.2.2.2.2.2.2.1 (by decide), rfl, rfl⟩
theorem zd_14_104_255 : zz_D zy_readLayer_14_104 255 (.iconst 0) 1 256 := ⟨zq_3 zg_14_104_195.2.2.2.2.2.2.2.2.2.2.2.1, rfl⟩
theorem zd_14_104_256 : zz_D zy_readLayer_14_104 256 (.ireturn) 1 257 := ⟨zq_172 zg_14_104_195.2.2.2.2.2.2.2.2.2.2.2.2.1, rfl⟩
theorem zd_14_104_206 : zz_D zy_readLayer_14_104 206 (.iload 7) 2 208 := ⟨zq_21 zg_14_104_195.2.2.2.2.2.2.2.2.2.2.2.2.2.1 zg_14_104_195.2.2.2.2.2.2.2.2.2.2.2.2.2.2.1, rfl⟩
theorem zd_14_104_208 : zz_B zy_readLayer_14_104 208 (Instr.ifCond .eq) 255 211 := ⟨47, zq_153 zg_14_104_195.2.2.2.2.2.2.2.2.2.2.2.2.2.2.2.1 zg_14_104_195.2.2.2.2.2.2.2.2.2.2.2.2.2.2.2.2.1 zg_14_104_195.2.2.2.2.2.2.2.2.2.2.2.2.2.2.2.2.2.1 (by decide), rfl, rfl⟩
theorem zd_14_104_211 : zz_D zy_readLayer_14_104 211 (.aload_n 0) 1 212 := ⟨zq_42 zg_14_104_195.2.2.2.2.2.2.2.2.2.2.2.2.2.2.2.2.2.2.1, rfl⟩
theorem zd_14_104_212 : zz_D zy_readLayer_14_104 212 (.getfield 136) 3 215 := ⟨zq_180 zg_14_104_195.2.2.2.2.2.2.2.2.2.2.2.2.2.2.2.2.2.2.2.1 zg_14_104_195.2.2.2.2.2.2.2.2.2.2.2.2.2.2.2.2.2.2.2.2.1 zg_14_104_195.2.2.2.2.2.2.2.2.2.2.2.2.2.2.2.2.2.2.2.2.2.1 rfl, rfl⟩
theorem zd_14_104_215 : zz_D zy_readLayer_14_104 215 (.iconst 4) 1 216 := ⟨zq_7 zg_14_104_195.2.2.2.2.2.2.2.2.2.2.2.2.2.2.2.2.2.2.2.2.2.2.1, rfl⟩
theorem zd_14_104_216 : zz_D zy_readLayer_14_104 216 (.iaload) 1 217 := ⟨zq_46 zg_14_104_195.2.2.2.2.2.2.2.2.2.2.2.2.2.2.2.2.2.2.2.2.2.2.2, rfl⟩
theorem zg_14_104_217 : zq_at zy_readLayer_14_104.2.1 217 133 ∧ zq_at zy_readLayer_14_104.2.1 218 10 ∧ zq_at zy_readLayer_14_104.2.1 219 20 ∧ zq_at zy_readLayer_14_104.2.1 220 0 ∧ zq_at zy_readLayer_14_104.2.1 221 169 ∧ zq_at zy_readLayer_14_104.2.1 222 184 ∧ zq_at zy_readLayer_14_104.2.1 223 0 ∧ zq_at zy_readLayer_14_104.2.1 224 192 ∧ zq_at zy_readLayer_14_104.2.1 225 153 ∧ zq_at zy_readLayer_14_104.2.1 226 0 ∧ zq_at zy_readLayer_14_104.2.1 227 30 ∧ zq_at zy_readLayer_14_104.2.1 228 42 ∧ zq_at zy_readLayer_14_104.2.1 229 180 ∧ zq_at zy_readLayer_14_104.2.1 230 0 ∧ zq_at zy_readLayer_14_104.2.1 231 136 ∧ zq_at zy_readLayer_14_104.2.1 232 8 ∧ zq_at zy_readLayer_14_104.2.1 233 46 ∧ zq_at zy_readLayer_14_104.2.1 234 133 ∧ zq_at zy_readLayer_14_104.2.1 235 9 ∧ zq_at zy_readLayer_14_104.2.1 236 10 ∧ zq_at zy_readLayer_14_104.2.1 237 184 ∧ zq_at zy_readLayer_14_104.2.1 238 0 ∧ zq_at zy_readLayer_14_104.2.1 239 192 := by decide +kernel
theorem zd_14_104_217 : zz_D zy_readLayer_14_104 217 (.i2l) 1 218 := ⟨zq_133 zg_14_104_217.1, rfl⟩
theorem zd_14_104_218 : zz_D zy_readLayer_14_104 218 (.lconst 1) 1 219 := ⟨zq_10 zg_14_104_217.2.1, rfl⟩
theorem zd_14_104_219 : zz_D zy_readLayer_14_104 219 (.ldc2_w 169) 3 222 := ⟨zq_20 zg_14_104_217.2.2.1 zg_14_104_217.2.2.2.1 zg_14_104_217.2.2.2.2.1 rfl, rfl⟩
theorem zd_14_104_222 : zz_D zy_readLayer_14_104 222 (.invokestatic 192) 3 225 := ⟨zq_184 zg_14_104_217.2.2.2.2.2.1 zg_14_104_217.2.2.2.2.2.2.1 zg_14_104_217.2.2.2.2.2.2.2.1 rfl, rfl⟩
theorem zd_14_104_225 : zz_B zy_readLayer_14_104 225 (Instr.ifCond .eq) 255 228 := ⟨30, zq_153 zg_14_104_217.2.2.2.2.2.2.2.2.1 zg_14_104_217.2.2.2.2.2.2.2.2.2.1 zg_14_104_217.2.2.2.2.2.2.2.2.2.2.1 (by decide), rfl, rfl⟩
theorem zd_14_104_228 : zz_D zy_readLayer_14_104 228 (.aload_n 0) 1 229 := ⟨zq_42 zg_14_104_217.2.2.2.2.2.2.2.2.2.2.2.1, rfl⟩
theorem zd_14_104_229 : zz_D zy_readLayer_14_104 229 (.getfield 136) 3 232 := ⟨zq_180 zg_14_104_217.2.2.2.2.2.2.2.2.2.2.2.2.1 zg_14_104_217.2.2.2.2.2.2.2.2.2.2.2.2.2.1 zg_14_104_217.2.2.2.2.2.2.2.2.2.2.2.2.2.2.1 rfl, rfl⟩
theorem zd_14_104_232 : zz_D zy_readLayer_14_104 232 (.iconst 5) 1 233 := ⟨zq_8 zg_14_104_217.2.2.2.2.2.2.2.2.2.2.2.2.2.2.2.1, rfl⟩
theorem zd_14_104_233 : zz_D zy_readLayer_14_104 233 (.iaload) 1 234 := ⟨zq_46 zg_14_104_217.2.2.2.2.2.2.2.2.2.2.2.2.2.2.2.2.1, rfl⟩
theorem zd_14_104_234 : zz_D zy_readLayer_14_104 234 (.i2l) 1 235 := ⟨zq_133 zg_14_104_217.2.2.2.2.2.2.2.2.2.2.2.2.2.2.2.2.2.1, rfl⟩
theorem zd_14_104_235 : zz_D zy_readLayer_14_104 235 (.lconst 0) 1 236 := ⟨zq_9 zg_14_104_217.2.2.2.2.2.2.2.2.2.2.2.2.2.2.2.2.2.2.1, rfl⟩
theorem zd_14_104_236 : zz_D zy_readLayer_14_104 236 (.lconst 1) 1 237 := ⟨zq_10 zg_14_104_217.2.2.2.2.2.2.2.2.2.2.2.2.2.2.2.2.2.2.2.1, rfl⟩
theorem zd_14_104_237 : zz_D zy_readLayer_14_104 237 (.invokestatic 192) 3 240 := ⟨zq_184 zg_14_104_217.2.2.2.2.2.2.2.2.2.2.2.2.2.2.2.2.2.2.2.2.1 zg_14_104_217.2.2.2.2.2.2.2.2.2.2.2.2.2.2.2.2.2.2.2.2.2.1 zg_14_104_217.2.2.2.2.2.2.2.2.2.2.2.2.2.2.2.2.2.2.2.2.2.2 rfl, rfl⟩
theorem zg_14_104_240 : zq_at zy_readLayer_14_104.2.1 240 153 ∧ zq_at zy_readLayer_14_104.2.1 241 0 ∧ zq_at zy_readLayer_14_104.2.1 242 15 ∧ zq_at zy_readLayer_14_104.2.1 243 42 ∧ zq_at zy_readLayer_14_104.2.1 244 180 ∧ zq_at zy_readLayer_14_104.2.1 245 0 ∧ zq_at zy_readLayer_14_104.2.1 246 136 ∧ zq_at zy_readLayer_14_104.2.1 247 16 ∧ zq_at zy_readLayer_14_104.2.1 248 6 ∧ zq_at zy_readLayer_14_104.2.1 249 46 ∧ zq_at zy_readLayer_14_104.2.1 250 16 ∧ zq_at zy_readLayer_14_104.2.1 251 15 ∧ zq_at zy_readLayer_14_104.2.1 252 164 ∧ zq_at zy_readLayer_14_104.2.1 253 0 ∧ zq_at zy_readLayer_14_104.2.1 254 5 ∧ zq_at zy_readLayer_14_104.2.1 257 42 ∧ zq_at zy_readLayer_14_104.2.1 258 29 ∧ zq_at zy_readLayer_14_104.2.1 259 21 ∧ zq_at zy_readLayer_14_104.2.1 260 6 ∧ zq_at zy_readLayer_14_104.2.1 261 42 ∧ zq_at zy_readLayer_14_104.2.1 262 180 ∧ zq_at zy_readLayer_14_104.2.1 263 0 ∧ zq_at zy_readLayer_14_104.2.1 264 136 ∧ zq_at zy_readLayer_14_104.2.1 265 5 := by decide +kernel
theorem zd_14_104_240 : zz_B zy_readLayer_14_104 240 (Instr.ifCond .eq) 255 243 := ⟨15, zq_153 zg_14_104_240.1 zg_14_104_240.2.1 zg_14_104_240.2.2.1 (by decide), rfl, rfl⟩
theorem zd_14_104_243 : zz_D zy_readLayer_14_104 243 (.aload_n 0) 1 244 := ⟨zq_42 zg_14_104_240.2.2.2.1, rfl⟩
theorem zd_14_104_244 : zz_D zy_readLayer_14_104 244 (.getfield 136) 3 247 := ⟨zq_180 zg_14_104_240.2.2.2.2.1 zg_14_104_240.2.2.2.2.2.1 zg_14_104_240.2.2.2.2.2.2.1 rfl, rfl⟩
theorem zd_14_104_247 : zz_D zy_readLayer_14_104 247 (.bipush 6) 2 249 := ⟨zq_16 zg_14_104_240.2.2.2.2.2.2.2.1 zg_14_104_240.2.2.2.2.2.2.2.2.1 (by decide), rfl⟩
theorem zd_14_104_249 : zz_D zy_readLayer_14_104 249 (.iaload) 1 250 := ⟨zq_46 zg_14_104_240.2.2.2.2.2.2.2.2.2.1, rfl⟩
theorem zd_14_104_250 : zz_D zy_readLayer_14_104 250 (.bipush 15) 2 252 := ⟨zq_16 zg_14_104_240.2.2.2.2.2.2.2.2.2.2.1 zg_14_104_240.2.2.2.2.2.2.2.2.2.2.2.1 (by decide), rfl⟩
theorem zd_14_104_252 : zz_B zy_readLayer_14_104 252 (Instr.if_icmp .le) 257 255 := ⟨5, zq_164 zg_14_104_240.2.2.2.2.2.2.2.2.2.2.2.2.1 zg_14_104_240.2.2.2.2.2.2.2.2.2.2.2.2.2.1 zg_14_104_240.2.2.2.2.2.2.2.2.2.2.2.2.2.2.1 (by decide), rfl, rfl⟩
theorem zd_14_104_257 : zz_D zy_readLayer_14_104 257 (.aload_n 0) 1 258 := ⟨zq_42 zg_14_104_240.2.2.2.2.2.2.2.2.2.2.2.2.2.2.2.1, rfl⟩
theorem zd_14_104_258 : zz_D zy_readLayer_14_104 258 (.iload_n 3) 1 259 := ⟨zq_29 zg_14_104_240.2.2.2.2.2.2.2.2.2.2.2.2.2.2.2.2.1, rfl⟩
theorem zd_14_104_259 : zz_D zy_readLayer_14_104 259 (.iload 6) 2 261 := ⟨zq_21 zg_14_104_240.2.2.2.2.2.2.2.2.2.2.2.2.2.2.2.2.2.1 zg_14_104_240.2.2.2.2.2.2.2.2.2.2.2.2.2.2.2.2.2.2.1, rfl⟩
theorem zd_14_104_261 : zz_D zy_readLayer_14_104 261 (.aload_n 0) 1 262 := ⟨zq_42 zg_14_104_240.2.2.2.2.2.2.2.2.2.2.2.2.2.2.2.2.2.2.2.1, rfl⟩
theorem zd_14_104_262 : zz_D zy_readLayer_14_104 262 (.getfield 136) 3 265 := ⟨zq_180 zg_14_104_240.2.2.2.2.2.2.2.2.2.2.2.2.2.2.2.2.2.2.2.2.1 zg_14_104_240.2.2.2.2.2.2.2.2.2.2.2.2.2.2.2.2.2.2.2.2.2.1 zg_14_104_240.2.2.2.2.2.2.2.2.2.2.2.2.2.2.2.2.2.2.2.2.2.2.1 rfl, rfl⟩
theorem zd_14_104_265 : zz_D zy_readLayer_14_104 265 (.iconst 2) 1 266 := ⟨zq_5 zg_14_104_240.2.2.2.2.2.2.2.2.2.2.2.2.2.2.2.2.2.2.2.2.2.2.2, rfl⟩
theorem zg_14_104_266 : zq_at zy_readLayer_14_104.2.1 266 46 ∧ zq_at zy_readLayer_14_104.2.1 267 16 ∧ zq_at zy_readLayer_14_104.2.1 268 10 ∧ zq_at zy_readLayer_14_104.2.1 269 42 ∧ zq_at zy_readLayer_14_104.2.1 270 180 ∧ zq_at zy_readLayer_14_104.2.1 271 0 ∧ zq_at zy_readLayer_14_104.2.1 272 136 ∧ zq_at zy_readLayer_14_104.2.1 273 7 ∧ zq_at zy_readLayer_14_104.2.1 274 46 ∧ zq_at zy_readLayer_14_104.2.1 275 104 ∧ zq_at zy_readLayer_14_104.2.1 276 42 ∧ zq_at zy_readLayer_14_104.2.1 277 180 ∧ zq_at zy_readLayer_14_104.2.1 278 0 ∧ zq_at zy_readLayer_14_104.2.1 279 136 ∧ zq_at zy_readLayer_14_104.2.1 280 8 ∧ zq_at zy_readLayer_14_104.2.1 281 46 ∧ zq_at zy_readLayer_14_104.2.1 282 96 ∧ zq_at zy_readLayer_14_104.2.1 283 21 ∧ zq_at zy_readLayer_14_104.2.1 284 5 ∧ zq_at zy_readLayer_14_104.2.1 285 42 ∧ zq_at zy_readLayer_14_104.2.1 286 180 ∧ zq_at zy_readLayer_14_104.2.1 287 0 ∧ zq_at zy_readLayer_14_104.2.1 288 136 ∧ zq_at zy_readLayer_14_104.2.1 289 6 := by decide +kernel
theorem zd_14_104_266 : zz_D zy_readLayer_14_104 266 (.iaload) 1 267 := ⟨zq_46 zg_14_104_266.1, rfl⟩
theorem zd_14_104_267 : zz_D zy_readLayer_14_104 267 (.bipush 10) 2 269 := ⟨zq_16 zg_14_104_266.2.1 zg_14_104_266.2.2.1 (by decide), rfl⟩
theorem zd_14_104_269 : zz_D zy_readLayer_14_104 269 (.aload_n 0) 1 270 := ⟨zq_42 zg_14_104_266.2.2.2.1, rfl⟩
theorem zd_14_104_270 : zz_D zy_readLayer_14_104 270 (.getfield 136) 3 273 := ⟨zq_180 zg_14_104_266.2.2.2.2.1 zg_14_104_266.2.2.2.2.2.1 zg_14_104_266.2.2.2.2.2.2.1 rfl, rfl⟩
theorem zd_14_104_273 : zz_D zy_readLayer_14_104 273 (.iconst 4) 1 274 := ⟨zq_7 zg_14_104_266.2.2.2.2.2.2.2.1, rfl⟩
theorem zd_14_104_274 : zz_D zy_readLayer_14_104 274 (.iaload) 1 275 := ⟨zq_46 zg_14_104_266.2.2.2.2.2.2.2.2.1, rfl⟩
theorem zd_14_104_275 : zz_D zy_readLayer_14_104 275 (.imul) 1 276 := ⟨zq_104 zg_14_104_266.2.2.2.2.2.2.2.2.2.1, rfl⟩
theorem zd_14_104_276 : zz_D zy_readLayer_14_104 276 (.aload_n 0) 1 277 := ⟨zq_42 zg_14_104_266.2.2.2.2.2.2.2.2.2.2.1, rfl⟩
theorem zd_14_104_277 : zz_D zy_readLayer_14_104 277 (.getfield 136) 3 280 := ⟨zq_180 zg_14_104_266.2.2.2.2.2.2.2.2.2.2.2.1 zg_14_104_266.2.2.2.2.2.2.2.2.2.2.2.2.1 zg_14_104_266.2.2.2.2.2.2.2.2.2.2.2.2.2.1 rfl, rfl⟩
theorem zd_14_104_280 : zz_D zy_readLayer_14_104 280 (.iconst 5) 1 281 := ⟨zq_8 zg_14_104_266.2.2.2.2.2.2.2.2.2.2.2.2.2.2.1, rfl⟩
theorem zd_14_104_281 : zz_D zy_readLayer_14_104 281 (.iaload) 1 282 := ⟨zq_46 zg_14_104_266.2.2.2.2.2.2.2.2.2.2.2.2.2.2.2.1, rfl⟩
theorem zd_14_104_282 : zz_D zy_readLayer_14_104 282 (.iadd) 1 283 := ⟨zq_96 zg_14_104_266.2.2.2.2.2.2.2.2.2.2.2.2.2.2.2.2.1, rfl⟩
theorem zd_14_104_283 : zz_D zy_readLayer_14_104 283 (.iload 5) 2 285 := ⟨zq_21 zg_14_104_266.2.2.2.2.2.2.2.2.2.2.2.2.2.2.2.2.2.1 zg_14_104_266.2.2.2.2.2.2.2.2.2.2.2.2.2.2.2.2.2.2.1, rfl⟩
theorem zd_14_104_285 : zz_D zy_readLayer_14_104 285 (.aload_n 0) 1 286 := ⟨zq_42 zg_14_104_266.2.2.2.2.2.2.2.2.2.2.2.2.2.2.2.2.2.2.2.1, rfl⟩
theorem zd_14_104_286 : zz_D zy_readLayer_14_104 286 (.getfield 136) 3 289 := ⟨zq_180 zg_14_104_266.2.2.2.2.2.2.2.2.2.2.2.2.2.2.2.2.2.2.2.2.1 zg_14_104_266.2.2.2.2.2.2.2.2.2.2.2.2.2.2.2.2.2.2.2.2.2.1 zg_14_104_266.2.2.2.2.2.2.2.2.2.2.2.2.2.2.2.2.2.2.2.2.2.2.1 rfl, rfl⟩
theorem zd_14_104_289 : zz_D zy_readLayer_14_104 289 (.iconst 3) 1 290 := ⟨zq_6 zg_14_104_266.2.2.2.2.2.2.2.2.2.2.2.2.2.2.2.2.2.2.2.2.2.2.2, rfl⟩
theorem zg_14_104_290 : zq_at zy_readLayer_14_104.2.1 290 46 ∧ zq_at zy_readLayer_14_104.2.1 291 182 ∧ zq_at zy_readLayer_14_104.2.1 292 2 ∧ zq_at zy_readLayer_14_104.2.1 293 73 ∧ zq_at zy_readLayer_14_104.2.1 294 54 ∧ zq_at zy_readLayer_14_104.2.1 295 8 ∧ zq_at zy_readLayer_14_104.2.1 296 167 ∧ zq_at zy_readLayer_14_104.2.1 297 0 ∧ zq_at zy_readLayer_14_104.2.1 298 66 := by decide +kernel
theorem zd_14_104_290 : zz_D zy_readLayer_14_104 290 (.iaload) 1 291 := ⟨zq_46 zg_14_104_290.1, rfl⟩
theorem zd_14_104_291 : zz_D zy_readLayer_14_104 291 (.invokevirtual 585) 3 294 := ⟨zq_182 zg_14_104_290.2.1 zg_14_104_290.2.2.1 zg_14_104_290.2.2.2.1 rfl, rfl⟩
theorem zd_14_104_294 : zz_D zy_readLayer_14_104 294 (.istore 8) 2 296 := ⟨zq_54 zg_14_104_290.2.2.2.2.1 zg_14_104_290.2.2.2.2.2.1, rfl⟩
theorem zd_14_104_296 : zz_B zy_readLayer_14_104 296 Instr.goto 362 299 := ⟨66, zq_167 zg_14_104_290.2.2.2.2.2.2.1 zg_14_104_290.2.2.2.2.2.2.2.1 zg_14_104_290.2.2.2.2.2.2.2.2 (by decide), rfl, rfl⟩

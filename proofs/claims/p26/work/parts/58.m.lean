-- TensorForgeModel put (I)I
abbrev zr_put_14_47 : Room := { frames := 1, cells := 0, slots := 0, locals := 17 }
def zp_put_14_47 (p0 : Int) (S0 : zz_S) : Int → zz_S → Prop := fun r S => zz_G S ∧ zz_fr [(1079, 0), (1079, 28)] [1099] (fun _ _ => False) S0 S ∧ (0 ≤ r ∧ r ≤ 1500) ∧ ((S 1079 0 = 0 ∧ zz_gk p0 4 = 1 ∧ S0 1079 28 + zz_ct p0 4 ≤ 1500 ∧ S 1079 28 = S0 1079 28 + zz_ct p0 4 ∧ r = S 1079 28) ∨ (S 1079 0 = 1 ∧ zz_gk p0 4 = 0 ∧ S 1079 28 = S0 1079 28) ∨ (S 1079 0 = 2 ∧ zz_gk p0 4 = 1 ∧ S0 1079 28 + zz_ct p0 4 > 1500 ∧ S 1079 28 = S0 1079 28)) ∧ (zt_pt (S0 1099) (S 1099) (S0 1079 28) p0 (S 1079 0))
theorem zb_put_14_47_7 {g : mm_G} {l : Launch} (p0 : Int) (S0 : zz_S) (n : Nat) (hn : zz_end ≤ n) (G_S0 : zz_G S0) (hp0 : (-2147483648) ≤ p0 ∧ p0 ≤ 2147483647) (x2 : Int) (x3 : Int) (x4 : Int) (S : zz_S) (G_S : zz_G S) (F_S : zz_fr [(1079, 0), (1079, 28)] [1099] (fun _ _ => False) S0 S) (i7_0 : 0 ≤ x2 ∧ x2 ≤ 4) (i7_1 : 0 ≤ x3 ∧ x3 ≤ 1) (i7_2 : 0 ≤ x4 ∧ x4 ≤ 4) (i7_3 : x2 = zz_ct p0 x4.toNat) (i7_4 : S 1079 28 = S0 1079 28) (i7_5 : x2 ≤ x4) (i7_6 : x3 = zz_gk p0 x4.toNat) (i7_7 : ∀ u : Nat, S 1099 u = S0 1099 u) (R : Nat) (hR : (34359738368 + (4 - x4).toNat) = R) (k7 : ∀ (x2 : Int) (x3 : Int) (x4 : Int) (S : zz_S), zz_G S → zz_fr [(1079, 0), (1079, 28)] [1099] (fun _ _ => False) S0 S → (0 ≤ x2 ∧ x2 ≤ 4) → (0 ≤ x3 ∧ x3 ≤ 1) → (0 ≤ x4 ∧ x4 ≤ 4) → (x2 = zz_ct p0 x4.toNat) → (S 1079 28 = S0 1079 28) → (x2 ≤ x4) → (x3 = zz_gk p0 x4.toNat) → (∀ u : Nat, S 1099 u = S0 1099 u) → (34359738368 + (4 - x4).toNat) < R → zz_E g l zy_put_14_47 zr_put_14_47 (zz_QI n (zp_put_14_47 p0 S0)) S n 7 [some (.ref 1079), some (zi p0), some (zi x2), some (zi x3), some (zi x4)] [] 0 0) (k121 : ∀ (x4 : Int) (S : zz_S), zz_G S → zz_fr [(1079, 0), (1079, 28)] [1099] (fun _ _ => False) S0 S → (0 ≤ x4 ∧ x4 ≤ 4) → (S 1079 28 = S0 1079 28 + zz_ct p0 x4.toNat) → (S0 1079 28 + zz_ct p0 4 ≤ 1500) → (zz_gk p0 4 = 1) → (S 1079 0 = 0) → (∀ u : Nat, S 1099 u = zt_tx (S0 1099) (S0 1079 28) p0 x4.toNat u) → (17179869184 + (4 - x4).toNat) < R → zz_E g l zy_put_14_47 zr_put_14_47 (zz_QI n (zp_put_14_47 p0 S0)) S n 121 [some (.ref 1079), some (zi p0), none, none, some (zi x4)] [] 0 0) : zz_E g l zy_put_14_47 zr_put_14_47 (zz_QI n (zp_put_14_47 p0 S0)) S n 7 [some (.ref 1079), some (zi p0), some (zi x2), some (zi x3), some (zi x4)] [] 0 0 := by
  refine zz_iload (x := x4) rfl zd_14_47_7 ?_
  refine zz_iconst zd_14_47_9 ?_
  refine zz_icmp_ge (by omega) (by omega) zd_14_47_10 (fun c2 => ?_) (fun c2 => ?_)
  · have e4 : zz_ct p0 x4.toNat = zz_ct p0 4 := by have h9 : x4 = 4 := (by omega); rw [h9]; rfl
    have h49 := zz_gk14 (p := p0) (x := x4) (by omega)
    refine zz_aload_n (x := 1079) rfl zd_14_47_82 ?_
    refine zz_iload_n (x := x3) rfl zd_14_47_83 ?_
    refine zz_if_ne (by omega) zd_14_47_84 (fun c3 => ?_) (fun c3 => ?_)
    · refine zz_iconst zd_14_47_91 ?_
      refine zz_aload_n (x := 1079) rfl zd_14_47_92 ?_
      have g4 := zz_G.r G_S 1079 28 0 1500 rfl rfl
      refine zz_geti (z := S 1079 28) zd_14_47_93 zf_Md_331 zT_1079 rfl (zz_ltn hn rfl) rfl ?_
      refine zz_iload_n (x := x2) rfl zd_14_47_96 ?_
      refine zz_iadd zd_14_47_97 ?_
      refine zz_sipush (by decide) zd_14_47_98 ?_
      refine zz_icmp_le (by omega) (by omega) zd_14_47_101 (fun c5 => ?_) (fun c5 => ?_)
      · refine zz_iconst zd_14_47_108 ?_
        refine zz_iconst zd_14_47_109 ?_
        have g6 := zz_G.r G_S 1079 0 0 3 rfl rfl
        refine zz_callVI [zi 0, zi 0, zi 0] zd_14_47_110 zk_Md_196 zT_1079 (zz_ltn hn rfl) rfl rfl ⟨Nat.le_of_ble_eq_true rfl, Nat.le_of_ble_eq_true rfl⟩ ⟨rfl, rfl⟩ (Nat.zero_le _) (Nat.zero_le _) (zc_refuse_14_3 0 0 0 S n hn G_S (by omega) (by omega) (by omega)) (fun v8 S7 hP => ?_)
        obtain ⟨G_S7, fS7, o9, o10⟩ := hP
        have F_S7 := zz_fr.trans F_S fS7 rfl zz_nv
        rcases (by omega : v8 = 0 ∨ v8 = 1) with rfl | rfl
        · have e11 : S7 1079 0 = 0 := by omega
          clear o10
          refine zz_if_eq (by omega) zd_14_47_113 (fun c12 => ?_) (fun c12 => ?_)
          · refine zz_iconst zd_14_47_118 ?_
            refine zz_istore [some (.ref 1079), some (zi p0), some (zi x2), some (zi x3), some (zi 0)] zd_14_47_119 (by decide) rfl ?_
            have e13 : S7 1079 28 = S 1079 28 := (zz_rc fS7 rfl rfl (fun h => h) rfl)
            refine zz_less (ls1 := [some (.ref 1079), some (zi p0), none, none, some (zi 0)]) ⟨rfl, ⟨rfl, ⟨rfl, trivial⟩⟩⟩ ?_
            exact k121 0 S7 G_S7 F_S7 (by omega) (by have h9 : zz_ct p0 (0 : Int).toNat = 0 := rfl; omega) (by omega) (by omega) (by omega) (fun u => ((zz_rc fS7 (zz_nc1 rfl) rfl (fun h => h) rfl) : S7 1099 u = S 1099 u).trans (i7_7 u)) (by omega)
          · exfalso; omega
        · exfalso; omega
      · refine zz_iconst zd_14_47_104 ?_
        refine zz_goto zd_14_47_105 ?_
        refine zz_iconst zd_14_47_109 ?_
        have g14 := zz_G.r G_S 1079 0 0 3 rfl rfl
        refine zz_callVI [zi 0, zi 1, zi 0] zd_14_47_110 zk_Md_196 zT_1079 (zz_ltn hn rfl) rfl rfl ⟨Nat.le_of_ble_eq_true rfl, Nat.le_of_ble_eq_true rfl⟩ ⟨rfl, rfl⟩ (Nat.zero_le _) (Nat.zero_le _) (zc_refuse_14_3 0 1 0 S n hn G_S (by omega) (by omega) (by omega)) (fun v16 S15 hP => ?_)
        obtain ⟨G_S15, fS15, o17, o18⟩ := hP
        have F_S15 := zz_fr.trans F_S fS15 rfl zz_nv
        rcases (by omega : v16 = 0 ∨ v16 = 1) with rfl | rfl
        · exfalso; omega
        · have e19 : S15 1079 0 = 2 := by omega
          clear o18
          refine zz_if_eq (by omega) zd_14_47_113 (fun c20 => ?_) (fun c20 => ?_)
          · exfalso; omega
          · refine zz_iconst zd_14_47_116 ?_
            have e21 : S15 1079 28 = S 1079 28 := (zz_rc fS15 rfl rfl (fun h => h) rfl)
            exact zz_iret zd_14_47_117 rfl (Nat.zero_le _) (Nat.zero_le _) ⟨_, _, rfl, G_S15, F_S15, by omega, by omega, ⟨fun h9 => absurd h9 (by omega), fun _ u => ((zz_rc fS15 (zz_nc1 rfl) rfl (fun h => h) rfl) : S15 1099 u = S 1099 u).trans (i7_7 u)⟩⟩
    · refine zz_iconst zd_14_47_87 ?_
      refine zz_goto zd_14_47_88 ?_
      refine zz_aload_n (x := 1079) rfl zd_14_47_92 ?_
      have g22 := zz_G.r G_S 1079 28 0 1500 rfl rfl
      refine zz_geti (z := S 1079 28) zd_14_47_93 zf_Md_331 zT_1079 rfl (zz_ltn hn rfl) rfl ?_
      refine zz_iload_n (x := x2) rfl zd_14_47_96 ?_
      refine zz_iadd zd_14_47_97 ?_
      refine zz_sipush (by decide) zd_14_47_98 ?_
      refine zz_icmp_le (by omega) (by omega) zd_14_47_101 (fun c23 => ?_) (fun c23 => ?_)
      · refine zz_iconst zd_14_47_108 ?_
        refine zz_iconst zd_14_47_109 ?_
        have g24 := zz_G.r G_S 1079 0 0 3 rfl rfl
        refine zz_callVI [zi 1, zi 0, zi 0] zd_14_47_110 zk_Md_196 zT_1079 (zz_ltn hn rfl) rfl rfl ⟨Nat.le_of_ble_eq_true rfl, Nat.le_of_ble_eq_true rfl⟩ ⟨rfl, rfl⟩ (Nat.zero_le _) (Nat.zero_le _) (zc_refuse_14_3 1 0 0 S n hn G_S (by omega) (by omega) (by omega)) (fun v26 S25 hP => ?_)
        obtain ⟨G_S25, fS25, o27, o28⟩ := hP
        have F_S25 := zz_fr.trans F_S fS25 rfl zz_nv
        rcases (by omega : v26 = 0 ∨ v26 = 1) with rfl | rfl
        · exfalso; omega
        · have e29 : S25 1079 0 = 1 := by omega
          clear o28
          refine zz_if_eq (by omega) zd_14_47_113 (fun c30 => ?_) (fun c30 => ?_)
          · exfalso; omega
          · refine zz_iconst zd_14_47_116 ?_
            have e31 : S25 1079 28 = S 1079 28 := (zz_rc fS25 rfl rfl (fun h => h) rfl)
            exact zz_iret zd_14_47_117 rfl (Nat.zero_le _) (Nat.zero_le _) ⟨_, _, rfl, G_S25, F_S25, by omega, by omega, ⟨fun h9 => absurd h9 (by omega), fun _ u => ((zz_rc fS25 (zz_nc1 rfl) rfl (fun h => h) rfl) : S25 1099 u = S 1099 u).trans (i7_7 u)⟩⟩
      · refine zz_iconst zd_14_47_104 ?_
        refine zz_goto zd_14_47_105 ?_
        refine zz_iconst zd_14_47_109 ?_
        have g32 := zz_G.r G_S 1079 0 0 3 rfl rfl
        refine zz_callVI [zi 1, zi 1, zi 0] zd_14_47_110 zk_Md_196 zT_1079 (zz_ltn hn rfl) rfl rfl ⟨Nat.le_of_ble_eq_true rfl, Nat.le_of_ble_eq_true rfl⟩ ⟨rfl, rfl⟩ (Nat.zero_le _) (Nat.zero_le _) (zc_refuse_14_3 1 1 0 S n hn G_S (by omega) (by omega) (by omega)) (fun v34 S33 hP => ?_)
        obtain ⟨G_S33, fS33, o35, o36⟩ := hP
        have F_S33 := zz_fr.trans F_S fS33 rfl zz_nv
        rcases (by omega : v34 = 0 ∨ v34 = 1) with rfl | rfl
        · exfalso; omega
        · have e37 : S33 1079 0 = 1 := by omega
          clear o36
          refine zz_if_eq (by omega) zd_14_47_113 (fun c38 => ?_) (fun c38 => ?_)
          · exfalso; omega
          · refine zz_iconst zd_14_47_116 ?_
            have e39 : S33 1079 28 = S 1079 28 := (zz_rc fS33 rfl rfl (fun h => h) rfl)
            exact zz_iret zd_14_47_117 rfl (Nat.zero_le _) (Nat.zero_le _) ⟨_, _, rfl, G_S33, F_S33, by omega, by omega, ⟨fun h9 => absurd h9 (by omega), fun _ u => ((zz_rc fS33 (zz_nc1 rfl) rfl (fun h => h) rfl) : S33 1099 u = S 1099 u).trans (i7_7 u)⟩⟩
  · refine zz_iload_n (x := p0) rfl zd_14_47_13 ?_
    refine zz_bipush (by decide) zd_14_47_14 ?_
    refine zz_iload (x := x4) rfl zd_14_47_16 ?_
    refine zz_imul zd_14_47_18 ?_
    refine zz_ishr zd_14_47_19 (fun v40 hv40 ev40 => ?_)
    refine zz_sipush (by decide) zd_14_47_20 ?_
    refine zz_iand (by omega) (by omega) zd_14_47_23 (fun v41 hv41 av41 bv41 ev41 => ?_)
    refine zz_istore [some (.ref 1079), some (zi p0), some (zi x2), some (zi x3), some (zi x4), some (zi v41)] zd_14_47_24 (by decide) rfl ?_
    have hc := zz_cts (p := p0) (x := x4) (by omega) (by assumption) (by assumption)
    have hb9 := zz_sge (p := p0) (x := x4) (by omega) (by assumption) (by assumption)
    have hg9 := zz_gks (p := p0) (x := x4) (by omega) hb9
    have h01 := zz_gk01 p0 x4.toNat
    refine zz_iload_n (x := x3) rfl zd_14_47_26 ?_
    refine zz_if_eq (by omega) zd_14_47_27 (fun c42 => ?_) (fun c42 => ?_)
    · refine zz_iconst zd_14_47_61 ?_
      refine zz_istore_n [some (.ref 1079), some (zi p0), some (zi x2), some (zi 0), some (zi x4), some (zi v41)] zd_14_47_62 (by decide) rfl ?_
      refine zz_iload (x := v41) rfl zd_14_47_63 ?_
      refine zz_if_le (by omega) zd_14_47_65 (fun c43 => ?_) (fun c43 => ?_)
      · refine zz_iload_n (x := x2) rfl zd_14_47_74 ?_
        refine zz_istore_n [some (.ref 1079), some (zi p0), some (zi x2), some (zi 0), some (zi x4), some (zi v41)] zd_14_47_75 (by decide) rfl ?_
        refine zz_iinc [some (.ref 1079), some (zi p0), some (zi x2), some (zi 0), some (zi (x4 + 1)), some (zi v41)] zd_14_47_76 rfl rfl ?_
        refine zz_goto zd_14_47_79 ?_
        have g44 := zz_G.r G_S 1079 28 0 1500 rfl rfl
        refine zz_less (ls1 := [some (.ref 1079), some (zi p0), some (zi x2), some (zi 0), some (zi (x4 + 1))]) ⟨rfl, ⟨rfl, ⟨rfl, ⟨rfl, ⟨rfl, trivial⟩⟩⟩⟩⟩ ?_
        exact k7 x2 0 (x4 + 1) S G_S F_S (by omega) (by omega) (by omega) (by omega) (by omega) (by omega) (by omega) i7_7 (by omega)
      · refine zz_iload_n (x := x2) rfl zd_14_47_68 ?_
        refine zz_iconst zd_14_47_69 ?_
        refine zz_iadd zd_14_47_70 ?_
        refine zz_goto zd_14_47_71 ?_
        refine zz_istore_n [some (.ref 1079), some (zi p0), some (zi (x2 + 1)), some (zi 0), some (zi x4), some (zi v41)] zd_14_47_75 (by decide) rfl ?_
        refine zz_iinc [some (.ref 1079), some (zi p0), some (zi (x2 + 1)), some (zi 0), some (zi (x4 + 1)), some (zi v41)] zd_14_47_76 rfl rfl ?_
        refine zz_goto zd_14_47_79 ?_
        have g45 := zz_G.r G_S 1079 28 0 1500 rfl rfl
        refine zz_less (ls1 := [some (.ref 1079), some (zi p0), some (zi (x2 + 1)), some (zi 0), some (zi (x4 + 1))]) ⟨rfl, ⟨rfl, ⟨rfl, ⟨rfl, ⟨rfl, trivial⟩⟩⟩⟩⟩ ?_
        exact k7 (x2 + 1) 0 (x4 + 1) S G_S F_S (by omega) (by omega) (by omega) (by omega) (by omega) (by omega) (by omega) i7_7 (by omega)
    · refine zz_iload (x := v41) rfl zd_14_47_30 ?_
      refine zz_if_eq (by omega) zd_14_47_32 (fun c46 => ?_) (fun c46 => ?_)
      · refine zz_iconst zd_14_47_57 ?_
        refine zz_goto zd_14_47_58 ?_
        refine zz_istore_n [some (.ref 1079), some (zi p0), some (zi x2), some (zi 1), some (zi x4), some (zi v41)] zd_14_47_62 (by decide) rfl ?_
        refine zz_iload (x := v41) rfl zd_14_47_63 ?_
        refine zz_if_le (by omega) zd_14_47_65 (fun c47 => ?_) (fun c47 => ?_)
        · refine zz_iload_n (x := x2) rfl zd_14_47_74 ?_
          refine zz_istore_n [some (.ref 1079), some (zi p0), some (zi x2), some (zi 1), some (zi x4), some (zi v41)] zd_14_47_75 (by decide) rfl ?_
          refine zz_iinc [some (.ref 1079), some (zi p0), some (zi x2), some (zi 1), some (zi (x4 + 1)), some (zi v41)] zd_14_47_76 rfl rfl ?_
          refine zz_goto zd_14_47_79 ?_
          have g48 := zz_G.r G_S 1079 28 0 1500 rfl rfl
          refine zz_less (ls1 := [some (.ref 1079), some (zi p0), some (zi x2), some (zi 1), some (zi (x4 + 1))]) ⟨rfl, ⟨rfl, ⟨rfl, ⟨rfl, ⟨rfl, trivial⟩⟩⟩⟩⟩ ?_
          exact k7 x2 1 (x4 + 1) S G_S F_S (by omega) (by omega) (by omega) (by omega) (by omega) (by omega) (by omega) i7_7 (by omega)
        · exfalso; omega
      · refine zz_iload (x := v41) rfl zd_14_47_35 ?_
        refine zz_bipush (by decide) zd_14_47_37 ?_
        refine zz_icmp_eq (by omega) (by omega) zd_14_47_39 (fun c49 => ?_) (fun c49 => ?_)
        · refine zz_iconst zd_14_47_57 ?_
          refine zz_goto zd_14_47_58 ?_
          refine zz_istore_n [some (.ref 1079), some (zi p0), some (zi x2), some (zi 1), some (zi x4), some (zi v41)] zd_14_47_62 (by decide) rfl ?_
          refine zz_iload (x := v41) rfl zd_14_47_63 ?_
          refine zz_if_le (by omega) zd_14_47_65 (fun c50 => ?_) (fun c50 => ?_)
          · exfalso; omega
          · refine zz_iload_n (x := x2) rfl zd_14_47_68 ?_
            refine zz_iconst zd_14_47_69 ?_
            refine zz_iadd zd_14_47_70 ?_
            refine zz_goto zd_14_47_71 ?_
            refine zz_istore_n [some (.ref 1079), some (zi p0), some (zi (x2 + 1)), some (zi 1), some (zi x4), some (zi v41)] zd_14_47_75 (by decide) rfl ?_
            refine zz_iinc [some (.ref 1079), some (zi p0), some (zi (x2 + 1)), some (zi 1), some (zi (x4 + 1)), some (zi v41)] zd_14_47_76 rfl rfl ?_
            refine zz_goto zd_14_47_79 ?_
            have g51 := zz_G.r G_S 1079 28 0 1500 rfl rfl
            refine zz_less (ls1 := [some (.ref 1079), some (zi p0), some (zi (x2 + 1)), some (zi 1), some (zi (x4 + 1))]) ⟨rfl, ⟨rfl, ⟨rfl, ⟨rfl, ⟨rfl, trivial⟩⟩⟩⟩⟩ ?_
            exact k7 (x2 + 1) 1 (x4 + 1) S G_S F_S (by omega) (by omega) (by omega) (by omega) (by omega) (by omega) (by omega) i7_7 (by omega)
        · refine zz_iload (x := v41) rfl zd_14_47_42 ?_
          refine zz_i2l (by omega) zd_14_47_44 ?_
          refine zz_ldc2 (z := 32) zq_Md_327 (by decide) zd_14_47_45 ?_
          refine zz_ldc2 (z := 126) zq_Md_329 (by decide) zd_14_47_48 ?_
          refine zz_callSI [zl v41, zl 32, zl 126] zd_14_47_51 zk_Md_192 rfl rfl ⟨Nat.le_of_ble_eq_true rfl, Nat.le_of_ble_eq_true rfl⟩ ⟨rfl, rfl⟩ (Nat.zero_le _) (Nat.zero_le _) (zc_in_14_4 v41 32 126 S n hn G_S (by omega) (by omega) (by omega)) (fun v53 S52 hP => ?_)
          obtain ⟨rfl, o54, o55⟩ := hP
          rcases (by omega : v53 = 0 ∨ v53 = 1) with rfl | rfl
          · have n56 : v41 < 32 ∨ 126 < v41 := by omega
            clear o55
            refine zz_if_eq (by omega) zd_14_47_54 (fun c57 => ?_) (fun c57 => ?_)
            · refine zz_iconst zd_14_47_61 ?_
              refine zz_istore_n [some (.ref 1079), some (zi p0), some (zi x2), some (zi 0), some (zi x4), some (zi v41)] zd_14_47_62 (by decide) rfl ?_
              refine zz_iload (x := v41) rfl zd_14_47_63 ?_
              refine zz_if_le (by omega) zd_14_47_65 (fun c58 => ?_) (fun c58 => ?_)
              · exfalso; omega
              · refine zz_iload_n (x := x2) rfl zd_14_47_68 ?_
                refine zz_iconst zd_14_47_69 ?_
                refine zz_iadd zd_14_47_70 ?_
                refine zz_goto zd_14_47_71 ?_
                refine zz_istore_n [some (.ref 1079), some (zi p0), some (zi (x2 + 1)), some (zi 0), some (zi x4), some (zi v41)] zd_14_47_75 (by decide) rfl ?_
                refine zz_iinc [some (.ref 1079), some (zi p0), some (zi (x2 + 1)), some (zi 0), some (zi (x4 + 1)), some (zi v41)] zd_14_47_76 rfl rfl ?_
                refine zz_goto zd_14_47_79 ?_
                have g59 := zz_G.r G_S 1079 28 0 1500 rfl rfl
                refine zz_less (ls1 := [some (.ref 1079), some (zi p0), some (zi (x2 + 1)), some (zi 0), some (zi (x4 + 1))]) ⟨rfl, ⟨rfl, ⟨rfl, ⟨rfl, ⟨rfl, trivial⟩⟩⟩⟩⟩ ?_
                exact k7 (x2 + 1) 0 (x4 + 1) S G_S F_S (by omega) (by omega) (by omega) (by omega) (by omega) (by omega) (by omega) i7_7 (by omega)
            · exfalso; omega
          · have n60 : 32 ≤ v41 ∧ v41 ≤ 126 := by omega
            clear o55
            refine zz_if_eq (by omega) zd_14_47_54 (fun c61 => ?_) (fun c61 => ?_)
            · exfalso; omega
            · refine zz_iconst zd_14_47_57 ?_
              refine zz_goto zd_14_47_58 ?_
              refine zz_istore_n [some (.ref 1079), some (zi p0), some (zi x2), some (zi 1), some (zi x4), some (zi v41)] zd_14_47_62 (by decide) rfl ?_
              refine zz_iload (x := v41) rfl zd_14_47_63 ?_
              refine zz_if_le (by omega) zd_14_47_65 (fun c62 => ?_) (fun c62 => ?_)
              · exfalso; omega
              · refine zz_iload_n (x := x2) rfl zd_14_47_68 ?_
                refine zz_iconst zd_14_47_69 ?_
                refine zz_iadd zd_14_47_70 ?_
                refine zz_goto zd_14_47_71 ?_
                refine zz_istore_n [some (.ref 1079), some (zi p0), some (zi (x2 + 1)), some (zi 1), some (zi x4), some (zi v41)] zd_14_47_75 (by decide) rfl ?_
                refine zz_iinc [some (.ref 1079), some (zi p0), some (zi (x2 + 1)), some (zi 1), some (zi (x4 + 1)), some (zi v41)] zd_14_47_76 rfl rfl ?_
                refine zz_goto zd_14_47_79 ?_
                have g63 := zz_G.r G_S 1079 28 0 1500 rfl rfl
                refine zz_less (ls1 := [some (.ref 1079), some (zi p0), some (zi (x2 + 1)), some (zi 1), some (zi (x4 + 1))]) ⟨rfl, ⟨rfl, ⟨rfl, ⟨rfl, ⟨rfl, trivial⟩⟩⟩⟩⟩ ?_
                exact k7 (x2 + 1) 1 (x4 + 1) S G_S F_S (by omega) (by omega) (by omega) (by omega) (by omega) (by omega) (by omega) i7_7 (by omega)
theorem zb_put_14_47_121 {g : mm_G} {l : Launch} (p0 : Int) (S0 : zz_S) (n : Nat) (hn : zz_end ≤ n) (G_S0 : zz_G S0) (hp0 : (-2147483648) ≤ p0 ∧ p0 ≤ 2147483647) (x4 : Int) (S : zz_S) (G_S : zz_G S) (F_S : zz_fr [(1079, 0), (1079, 28)] [1099] (fun _ _ => False) S0 S) (i121_0 : 0 ≤ x4 ∧ x4 ≤ 4) (i121_1 : S 1079 28 = S0 1079 28 + zz_ct p0 x4.toNat) (i121_2 : S0 1079 28 + zz_ct p0 4 ≤ 1500) (i121_3 : zz_gk p0 4 = 1) (i121_4 : S 1079 0 = 0) (i121_5 : ∀ u : Nat, S 1099 u = zt_tx (S0 1099) (S0 1079 28) p0 x4.toNat u) (R : Nat) (hR : (17179869184 + (4 - x4).toNat) = R) (k121 : ∀ (x4 : Int) (S : zz_S), zz_G S → zz_fr [(1079, 0), (1079, 28)] [1099] (fun _ _ => False) S0 S → (0 ≤ x4 ∧ x4 ≤ 4) → (S 1079 28 = S0 1079 28 + zz_ct p0 x4.toNat) → (S0 1079 28 + zz_ct p0 4 ≤ 1500) → (zz_gk p0 4 = 1) → (S 1079 0 = 0) → (∀ u : Nat, S 1099 u = zt_tx (S0 1099) (S0 1079 28) p0 x4.toNat u) → (17179869184 + (4 - x4).toNat) < R → zz_E g l zy_put_14_47 zr_put_14_47 (zz_QI n (zp_put_14_47 p0 S0)) S n 121 [some (.ref 1079), some (zi p0), none, none, some (zi x4)] [] 0 0) : zz_E g l zy_put_14_47 zr_put_14_47 (zz_QI n (zp_put_14_47 p0 S0)) S n 121 [some (.ref 1079), some (zi p0), none, none, some (zi x4)] [] 0 0 := by
  refine zz_iload (x := x4) rfl zd_14_47_121 ?_
  refine zz_iconst zd_14_47_123 ?_
  refine zz_icmp_ge (by omega) (by omega) zd_14_47_124 (fun c64 => ?_) (fun c64 => ?_)
  · have h49 := zz_gk14 (p := p0) (x := x4) (by omega)
    refine zz_aload_n (x := 1079) rfl zd_14_47_172 ?_
    have g65 := zz_G.r G_S 1079 28 0 1500 rfl rfl
    refine zz_geti (z := S 1079 28) zd_14_47_173 zf_Md_331 zT_1079 rfl (zz_ltn hn rfl) rfl ?_
    have g66 := zz_G.r G_S 1079 0 0 3 rfl rfl
    exact zz_iret zd_14_47_176 rfl (Nat.zero_le _) (Nat.zero_le _) ⟨_, _, rfl, G_S, F_S, by omega, by omega, ⟨fun _ u => (rfl : S 1099 u = S 1099 u).trans (by have e9 : x4.toNat = 4 := (by omega); have h9 := i121_5 u; rw [e9] at h9; exact h9), fun h9 => absurd (show S 1079 0 = 0 by omega) h9⟩⟩
  · refine zz_iload_n (x := p0) rfl zd_14_47_127 ?_
    refine zz_bipush (by decide) zd_14_47_128 ?_
    refine zz_iload (x := x4) rfl zd_14_47_130 ?_
    refine zz_imul zd_14_47_132 ?_
    refine zz_ishr zd_14_47_133 (fun v67 hv67 ev67 => ?_)
    refine zz_sipush (by decide) zd_14_47_134 ?_
    refine zz_iand (by omega) (by omega) zd_14_47_137 (fun v68 hv68 av68 bv68 ev68 => ?_)
    refine zz_istore [some (.ref 1079), some (zi p0), none, none, some (zi x4), some (zi v68)] zd_14_47_138 (by decide) rfl ?_
    have hc := zz_cts (p := p0) (x := x4) (by omega) (by assumption) (by assumption)
    have hm := zz_ctm (p := p0) (x := x4) (by omega)
    have hb9 := zz_sge (p := p0) (x := x4) (by omega) (by assumption) (by assumption)
    refine zz_iload (x := v68) rfl zd_14_47_140 ?_
    refine zz_if_le (by omega) zd_14_47_142 (fun c69 => ?_) (fun c69 => ?_)
    · refine zz_iinc [some (.ref 1079), some (zi p0), none, none, some (zi (x4 + 1)), some (zi v68)] zd_14_47_166 rfl rfl ?_
      refine zz_goto zd_14_47_169 ?_
      have g70 := zz_G.r G_S 1079 28 0 1500 rfl rfl
      have g71 := zz_G.r G_S 1079 0 0 3 rfl rfl
      refine zz_less (ls1 := [some (.ref 1079), some (zi p0), none, none, some (zi (x4 + 1))]) ⟨rfl, ⟨rfl, ⟨rfl, trivial⟩⟩⟩ ?_
      exact k121 (x4 + 1) S G_S F_S (by omega) (by omega) (by omega) (by omega) (by omega) (fun u => (rfl : S 1099 u = S 1099 u).trans ((i121_5 u).trans (zt_tx2 (i := S 1079 28) (by omega) hb9 (by omega) (Or.inl (by omega))))) (by omega)
    · refine zz_aload_n (x := 1079) rfl zd_14_47_145 ?_
      refine zz_getr (kd := 0) (z := 1099) zd_14_47_146 zf_Md_76 zT_1079 rfl (zz_ltn hn rfl) (zz_G.eq G_S 1079 27 1099 rfl rfl) (by decide) 1099 rfl ?_
      refine zz_aload_n (x := 1079) rfl zd_14_47_149 ?_
      have g72 := zz_G.r G_S 1079 28 0 1500 rfl rfl
      refine zz_geti (z := S 1079 28) zd_14_47_150 zf_Md_331 zT_1079 rfl (zz_ltn hn rfl) rfl ?_
      refine zz_iload (x := v68) rfl zd_14_47_153 ?_
      refine zz_iast zd_14_47_155 zT_1099 rfl (zz_ltn hn rfl) (by decide) (by omega) (fun S73 qS73 => ?_)
      have G_S73 := zz_G.put G_S qS73 0 255 rfl (by omega)
      have F_S73 := zz_fr.putc F_S qS73 rfl
      refine zz_aload_n (x := 1079) rfl zd_14_47_156 ?_
      refine zz_dup rfl zd_14_47_157 ?_
      refine zz_geti (z := S 1079 28) zd_14_47_158 zf_Md_331 zT_1079 rfl (zz_ltn hn rfl) (zz_ro qS73 (fun h => absurd h.1 (by decide)) rfl) ?_
      refine zz_iconst zd_14_47_161 ?_
      refine zz_iadd zd_14_47_162 ?_
      refine zz_puti zd_14_47_163 zf_Md_331 zT_1079 rfl (zz_ltn hn rfl) (fun S74 qS74 => ?_)
      have G_S74 := zz_G.put G_S73 qS74 0 1500 rfl (by omega)
      have F_S74 := zz_fr.puts F_S73 qS74 rfl
      refine zz_iinc [some (.ref 1079), some (zi p0), none, none, some (zi (x4 + 1)), some (zi v68)] zd_14_47_166 rfl rfl ?_
      refine zz_goto zd_14_47_169 ?_
      have e75 : S74 1079 28 = (S 1079 28) + 1 := (zz_rs qS74)
      have g76 := zz_G.r G_S 1079 0 0 3 rfl rfl
      have e77 : S74 1079 0 = S 1079 0 := (zz_ro qS74 (fun h => absurd h.2 (by decide)) (zz_ro qS73 (fun h => absurd h.1 (by decide)) rfl))
      refine zz_less (ls1 := [some (.ref 1079), some (zi p0), none, none, some (zi (x4 + 1))]) ⟨rfl, ⟨rfl, ⟨rfl, trivial⟩⟩⟩ ?_
      exact k121 (x4 + 1) S74 G_S74 F_S74 (by omega) (by omega) (by omega) (by omega) (by omega) (fun u => (Decidable.em (u = (S 1079 28).toNat)).elim (fun h => by subst h; exact (zz_ro qS74 (fun h => absurd h.1 (by decide)) (zz_rs qS73)).trans (zt_tx1 (by omega) hb9 (by omega) (by omega))) (fun h => (zz_ro qS74 (fun h => absurd h.1 (by decide)) (zz_ro qS73 (fun h9 => h h9.2) rfl)).trans ((i121_5 u).trans (zt_tx2 (i := S 1079 28) (by omega) hb9 (by omega) (Or.inr h))))) (by omega)
theorem zi_put_14_47 {g : mm_G} {l : Launch} (p0 : Int) (S0 : zz_S) (n : Nat) (hn : zz_end ≤ n) (G_S0 : zz_G S0) (hp0 : (-2147483648) ≤ p0 ∧ p0 ≤ 2147483647) : ∀ N : Nat, (∀ (x2 : Int) (x3 : Int) (x4 : Int) (S : zz_S), zz_G S → zz_fr [(1079, 0), (1079, 28)] [1099] (fun _ _ => False) S0 S → (0 ≤ x2 ∧ x2 ≤ 4) → (0 ≤ x3 ∧ x3 ≤ 1) → (0 ≤ x4 ∧ x4 ≤ 4) → (x2 = zz_ct p0 x4.toNat) → (S 1079 28 = S0 1079 28) → (x2 ≤ x4) → (x3 = zz_gk p0 x4.toNat) → (∀ u : Nat, S 1099 u = S0 1099 u) → (34359738368 + (4 - x4).toNat) < N → zz_E g l zy_put_14_47 zr_put_14_47 (zz_QI n (zp_put_14_47 p0 S0)) S n 7 [some (.ref 1079), some (zi p0), some (zi x2), some (zi x3), some (zi x4)] [] 0 0) ∧ (∀ (x4 : Int) (S : zz_S), zz_G S → zz_fr [(1079, 0), (1079, 28)] [1099] (fun _ _ => False) S0 S → (0 ≤ x4 ∧ x4 ≤ 4) → (S 1079 28 = S0 1079 28 + zz_ct p0 x4.toNat) → (S0 1079 28 + zz_ct p0 4 ≤ 1500) → (zz_gk p0 4 = 1) → (S 1079 0 = 0) → (∀ u : Nat, S 1099 u = zt_tx (S0 1099) (S0 1079 28) p0 x4.toNat u) → (17179869184 + (4 - x4).toNat) < N → zz_E g l zy_put_14_47 zr_put_14_47 (zz_QI n (zp_put_14_47 p0 S0)) S n 121 [some (.ref 1079), some (zi p0), none, none, some (zi x4)] [] 0 0) := by
  intro N
  induction N with
  | zero => exact ⟨fun x2 x3 x4 S _ _ _ _ _ _ _ _ _ _ h => absurd h (Nat.not_lt_zero _), fun x4 S _ _ _ _ _ _ _ _ h => absurd h (Nat.not_lt_zero _)⟩
  | succ N ih =>
    exact ⟨fun x2 x3 x4 S a b j0 j1 j2 j3 j4 j5 j6 j7 hR => zb_put_14_47_7 p0 S0 n hn G_S0 hp0 x2 x3 x4 S a b j0 j1 j2 j3 j4 j5 j6 j7 _ rfl (fun x2 x3 x4 S a b j0 j1 j2 j3 j4 j5 j6 j7 h => ih.1 x2 x3 x4 S a b j0 j1 j2 j3 j4 j5 j6 j7 (Nat.lt_of_lt_of_le h (Nat.le_of_lt_succ hR))) (fun x4 S a b j0 j1 j2 j3 j4 j5 h => ih.2 x4 S a b j0 j1 j2 j3 j4 j5 (Nat.lt_of_lt_of_le h (Nat.le_of_lt_succ hR))),
      fun x4 S a b j0 j1 j2 j3 j4 j5 hR => zb_put_14_47_121 p0 S0 n hn G_S0 hp0 x4 S a b j0 j1 j2 j3 j4 j5 _ rfl (fun x4 S a b j0 j1 j2 j3 j4 j5 h => ih.2 x4 S a b j0 j1 j2 j3 j4 j5 (Nat.lt_of_lt_of_le h (Nat.le_of_lt_succ hR)))⟩
theorem zc_put_14_47 {g : mm_G} {l : Launch} (p0 : Int) (S0 : zz_S) (n : Nat) (hn : zz_end ≤ n) (G_S0 : zz_G S0) (hp0 : (-2147483648) ≤ p0 ∧ p0 ≤ 2147483647) : mm_Met g l zy_put_14_47 zr_put_14_47 [.ref 1079, zi p0] (zz_M S0 n) n (zz_QI n (zp_put_14_47 p0 S0)) := by
  refine zz_enter (by decide) (Nat.le_of_ble_eq_true rfl) (zz_less (ls1 := [some (.ref 1079), some (zi p0)]) ⟨rfl, ⟨rfl, trivial⟩⟩ ?_)
  have F_S0 : zz_fr [(1079, 0), (1079, 28)] [1099] (fun _ _ => False) S0 S0 := zz_fr.refl
  have k7 : ∀ (x2 : Int) (x3 : Int) (x4 : Int) (S : zz_S), zz_G S → zz_fr [(1079, 0), (1079, 28)] [1099] (fun _ _ => False) S0 S → (0 ≤ x2 ∧ x2 ≤ 4) → (0 ≤ x3 ∧ x3 ≤ 1) → (0 ≤ x4 ∧ x4 ≤ 4) → (x2 = zz_ct p0 x4.toNat) → (S 1079 28 = S0 1079 28) → (x2 ≤ x4) → (x3 = zz_gk p0 x4.toNat) → (∀ u : Nat, S 1099 u = S0 1099 u) → zz_E g l zy_put_14_47 zr_put_14_47 (zz_QI n (zp_put_14_47 p0 S0)) S n 7 [some (.ref 1079), some (zi p0), some (zi x2), some (zi x3), some (zi x4)] [] 0 0 := fun x2 x3 x4 S a b j0 j1 j2 j3 j4 j5 j6 j7 => (zi_put_14_47 (g := g) (l := l) p0 S0 n hn G_S0 hp0 _).1 x2 x3 x4 S a b j0 j1 j2 j3 j4 j5 j6 j7 (Nat.lt_succ_self _)
  refine zz_iconst zd_14_47_0 ?_
  refine zz_istore_n [some (.ref 1079), some (zi p0), some (zi 0)] zd_14_47_1 (by decide) rfl ?_
  refine zz_iconst zd_14_47_2 ?_
  refine zz_istore_n [some (.ref 1079), some (zi p0), some (zi 0), some (zi 1)] zd_14_47_3 (by decide) rfl ?_
  refine zz_iconst zd_14_47_4 ?_
  refine zz_istore [some (.ref 1079), some (zi p0), some (zi 0), some (zi 1), some (zi 0)] zd_14_47_5 (by decide) rfl ?_
  have g1 := zz_G.r G_S0 1079 28 0 1500 rfl rfl
  refine zz_less (ls1 := [some (.ref 1079), some (zi p0), some (zi 0), some (zi 1), some (zi 0)]) ⟨rfl, ⟨rfl, ⟨rfl, ⟨rfl, ⟨rfl, trivial⟩⟩⟩⟩⟩ ?_
  exact k7 0 1 0 S0 G_S0 F_S0 (by omega) (by omega) (by omega) (by exact rfl) (by omega) (by omega) (by exact rfl) (fun u => rfl)
abbrev zy_end_14_48 : mm_Y := (⟨"TensorForgeModel", "end", "(I)V"⟩, prog_14_method_48_code, 2, none)
theorem zyw_end_14_48 : mm_Yw zy_end_14_48 1 := ⟨mm_tb_1 2006 (by decide +kernel) rfl, mm_tb_1 12 (by decide +kernel) rfl, ⟨by decide, by decide⟩, by decide +kernel⟩
theorem zg_14_48_0 : zq_at zy_end_14_48.2.1 0 42 ∧ zq_at zy_end_14_48.2.1 1 27 ∧ zq_at zy_end_14_48.2.1 2 133 ∧ zq_at zy_end_14_48.2.1 3 9 ∧ zq_at zy_end_14_48.2.1 4 42 ∧ zq_at zy_end_14_48.2.1 5 180 ∧ zq_at zy_end_14_48.2.1 6 1 ∧ zq_at zy_end_14_48.2.1 7 75 ∧ zq_at zy_end_14_48.2.1 8 133 ∧ zq_at zy_end_14_48.2.1 9 184 ∧ zq_at zy_end_14_48.2.1 10 0 ∧ zq_at zy_end_14_48.2.1 11 192 ∧ zq_at zy_end_14_48.2.1 12 154 ∧ zq_at zy_end_14_48.2.1 13 0 ∧ zq_at zy_end_14_48.2.1 14 7 ∧ zq_at zy_end_14_48.2.1 15 4 ∧ zq_at zy_end_14_48.2.1 16 167 ∧ zq_at zy_end_14_48.2.1 17 0 ∧ zq_at zy_end_14_48.2.1 18 4 ∧ zq_at zy_end_14_48.2.1 20 3 ∧ zq_at zy_end_14_48.2.1 21 3 ∧ zq_at zy_end_14_48.2.1 22 182 ∧ zq_at zy_end_14_48.2.1 23 0 ∧ zq_at zy_end_14_48.2.1 24 196 := by decide +kernel
theorem zd_14_48_0 : zz_D zy_end_14_48 0 (.aload_n 0) 1 1 := ⟨zq_42 zg_14_48_0.1, rfl⟩
theorem zd_14_48_1 : zz_D zy_end_14_48 1 (.iload_n 1) 1 2 := ⟨zq_27 zg_14_48_0.2.1, rfl⟩
theorem zd_14_48_2 : zz_D zy_end_14_48 2 (.i2l) 1 3 := ⟨zq_133 zg_14_48_0.2.2.1, rfl⟩
theorem zd_14_48_3 : zz_D zy_end_14_48 3 (.lconst 0) 1 4 := ⟨zq_9 zg_14_48_0.2.2.2.1, rfl⟩
theorem zd_14_48_4 : zz_D zy_end_14_48 4 (.aload_n 0) 1 5 := ⟨zq_42 zg_14_48_0.2.2.2.2.1, rfl⟩
theorem zd_14_48_5 : zz_D zy_end_14_48 5 (.getfield 331) 3 8 := ⟨zq_180 zg_14_48_0.2.2.2.2.2.1 zg_14_48_0.2.2.2.2.2.2.1 zg_14_48_0.2.2.2.2.2.2.2.1 rfl, rfl⟩
theorem zd_14_48_8 : zz_D zy_end_14_48 8 (.i2l) 1 9 := ⟨zq_133 zg_14_48_0.2.2.2.2.2.2.2.2.1, rfl⟩
theorem zd_14_48_9 : zz_D zy_end_14_48 9 (.invokestatic 192) 3 12 := ⟨zq_184 zg_14_48_0.2.2.2.2.2.2.2.2.2.1 zg_14_48_0.2.2.2.2.2.2.2.2.2.2.1 zg_14_48_0.2.2.2.2.2.2.2.2.2.2.2.1 rfl, rfl⟩
theorem zd_14_48_12 : zz_B zy_end_14_48 12 (Instr.ifCond .ne) 19 15 := ⟨7, zq_154 zg_14_48_0.2.2.2.2.2.2.2.2.2.2.2.2.1 zg_14_48_0.2.2.2.2.2.2.2.2.2.2.2.2.2.1 zg_14_48_0.2.2.2.2.2.2.2.2.2.2.2.2.2.2.1 (by decide), rfl, rfl⟩
theorem zd_14_48_15 : zz_D zy_end_14_48 15 (.iconst 1) 1 16 := ⟨zq_4 zg_14_48_0.2.2.2.2.2.2.2.2.2.2.2.2.2.2.2.1, rfl⟩
theorem zd_14_48_16 : zz_B zy_end_14_48 16 Instr.goto 20 19 := ⟨4, zq_167 zg_14_48_0.2.2.2.2.2.2.2.2.2.2.2.2.2.2.2.2.1 zg_14_48_0.2.2.2.2.2.2.2.2.2.2.2.2.2.2.2.2.2.1 zg_14_48_0.2.2.2.2.2.2.2.2.2.2.2.2.2.2.2.2.2.2.1 (by decide), rfl, rfl⟩
theorem zd_14_48_20 : zz_D zy_end_14_48 20 (.iconst 0) 1 21 := ⟨zq_3 zg_14_48_0.2.2.2.2.2.2.2.2.2.2.2.2.2.2.2.2.2.2.2.1, rfl⟩
theorem zd_14_48_21 : zz_D zy_end_14_48 21 (.iconst 0) 1 22 := ⟨zq_3 zg_14_48_0.2.2.2.2.2.2.2.2.2.2.2.2.2.2.2.2.2.2.2.2.1, rfl⟩
theorem zd_14_48_22 : zz_D zy_end_14_48 22 (.invokevirtual 196) 3 25 := ⟨zq_182 zg_14_48_0.2.2.2.2.2.2.2.2.2.2.2.2.2.2.2.2.2.2.2.2.2.1 zg_14_48_0.2.2.2.2.2.2.2.2.2.2.2.2.2.2.2.2.2.2.2.2.2.2.1 zg_14_48_0.2.2.2.2.2.2.2.2.2.2.2.2.2.2.2.2.2.2.2.2.2.2.2 rfl, rfl⟩
theorem zg_14_48_25 : zq_at zy_end_14_48.2.1 25 154 ∧ zq_at zy_end_14_48.2.1 26 0 ∧ zq_at zy_end_14_48.2.1 27 8 ∧ zq_at zy_end_14_48.2.1 33 177 ∧ zq_at zy_end_14_48.2.1 19 3 ∧ zq_at zy_end_14_48.2.1 28 42 ∧ zq_at zy_end_14_48.2.1 29 27 ∧ zq_at zy_end_14_48.2.1 30 181 ∧ zq_at zy_end_14_48.2.1 31 1 ∧ zq_at zy_end_14_48.2.1 32 75 := by decide +kernel
theorem zd_14_48_25 : zz_B zy_end_14_48 25 (Instr.ifCond .ne) 33 28 := ⟨8, zq_154 zg_14_48_25.1 zg_14_48_25.2.1 zg_14_48_25.2.2.1 (by decide), rfl, rfl⟩
theorem zd_14_48_33 : zz_D zy_end_14_48 33 (.return_) 1 34 := ⟨zq_177 zg_14_48_25.2.2.2.1, rfl⟩
theorem zd_14_48_19 : zz_D zy_end_14_48 19 (.iconst 0) 1 20 := ⟨zq_3 zg_14_48_25.2.2.2.2.1, rfl⟩
theorem zd_14_48_28 : zz_D zy_end_14_48 28 (.aload_n 0) 1 29 := ⟨zq_42 zg_14_48_25.2.2.2.2.2.1, rfl⟩
theorem zd_14_48_29 : zz_D zy_end_14_48 29 (.iload_n 1) 1 30 := ⟨zq_27 zg_14_48_25.2.2.2.2.2.2.1, rfl⟩
theorem zd_14_48_30 : zz_D zy_end_14_48 30 (.putfield 331) 3 33 := ⟨zq_181 zg_14_48_25.2.2.2.2.2.2.2.1 zg_14_48_25.2.2.2.2.2.2.2.2.1 zg_14_48_25.2.2.2.2.2.2.2.2.2 rfl, rfl⟩
-- TensorForgeModel end (I)V
abbrev zr_end_14_48 : Room := { frames := 1, cells := 0, slots := 0, locals := 18 }
def zp_end_14_48 (p0 : Int) (S0 : zz_S) : zz_S → Prop := fun S => zz_G S ∧ zz_fr [(1079, 0), (1079, 28)] [] (fun _ _ => False) S0 S ∧ ((0 ≤ p0 ∧ p0 ≤ S0 1079 28 ∧ S 1079 0 = 0 ∧ S 1079 28 = p0) ∨ ((p0 < 0 ∨ S0 1079 28 < p0) ∧ S 1079 0 = 1 ∧ S 1079 28 = S0 1079 28))
theorem zc_end_14_48 {g : mm_G} {l : Launch} (p0 : Int) (S0 : zz_S) (n : Nat) (hn : zz_end ≤ n) (G_S0 : zz_G S0) (hp0 : (-2147483648) ≤ p0 ∧ p0 ≤ 2147483647) : mm_Met g l zy_end_14_48 zr_end_14_48 [.ref 1079, zi p0] (zz_M S0 n) n (zz_QV n (zp_end_14_48 p0 S0)) := by
  refine zz_enter (by decide) (Nat.le_of_ble_eq_true rfl) (zz_less (ls1 := [some (.ref 1079), some (zi p0)]) ⟨rfl, ⟨rfl, trivial⟩⟩ ?_)
  have F_S0 : zz_fr [(1079, 0), (1079, 28)] [] (fun _ _ => False) S0 S0 := zz_fr.refl
  refine zz_aload_n (x := 1079) rfl zd_14_48_0 ?_
  refine zz_iload_n (x := p0) rfl zd_14_48_1 ?_
  refine zz_i2l (by omega) zd_14_48_2 ?_
  refine zz_lconst (z := 0) (by decide) zd_14_48_3 ?_
  refine zz_aload_n (x := 1079) rfl zd_14_48_4 ?_
  have g1 := zz_G.r G_S0 1079 28 0 1500 rfl rfl
  refine zz_geti (z := S0 1079 28) zd_14_48_5 zf_Md_331 zT_1079 rfl (zz_ltn hn rfl) rfl ?_
  refine zz_i2l (by omega) zd_14_48_8 ?_
  refine zz_callSI [zl p0, zl 0, zl (S0 1079 28)] zd_14_48_9 zk_Md_192 rfl rfl ⟨Nat.le_of_ble_eq_true rfl, Nat.le_of_ble_eq_true rfl⟩ ⟨rfl, rfl⟩ (Nat.zero_le _) (Nat.zero_le _) (zc_in_14_4 p0 0 (S0 1079 28) S0 n hn G_S0 (by omega) (by omega) (by omega)) (fun v3 S2 hP => ?_)
  obtain ⟨rfl, o4, o5⟩ := hP
  rcases (by omega : v3 = 0 ∨ v3 = 1) with rfl | rfl
  · have n6 : p0 < 0 ∨ S0 1079 28 < p0 := by omega
    clear o5
    refine zz_if_ne (by omega) zd_14_48_12 (fun c7 => ?_) (fun c7 => ?_)
    · exfalso; omega
    · refine zz_iconst zd_14_48_15 ?_
      refine zz_goto zd_14_48_16 ?_
      refine zz_iconst zd_14_48_20 ?_
      refine zz_iconst zd_14_48_21 ?_
      refine zz_callVI [zi 1, zi 0, zi 0] zd_14_48_22 zk_Md_196 zT_1079 (zz_ltn hn rfl) rfl rfl ⟨Nat.le_of_ble_eq_true rfl, Nat.le_of_ble_eq_true rfl⟩ ⟨rfl, rfl⟩ (Nat.zero_le _) (Nat.zero_le _) (zc_refuse_14_3 1 0 0 S0 n hn G_S0 (by omega) (by omega) (by omega)) (fun v9 S8 hP => ?_)
      obtain ⟨G_S8, fS8, o10, o11⟩ := hP
      have F_S8 := zz_fr.trans F_S0 fS8 rfl zz_nv
      rcases (by omega : v9 = 0 ∨ v9 = 1) with rfl | rfl
      · exfalso; omega
      · have e12 : S8 1079 0 = 1 := by omega
        clear o11
        refine zz_if_ne (by omega) zd_14_48_25 (fun c13 => ?_) (fun c13 => ?_)
        · have e14 : S8 1079 28 = S0 1079 28 := (zz_rc fS8 rfl rfl (fun h => h) rfl)
          exact zz_vret zd_14_48_33 rfl (Nat.zero_le _) (Nat.zero_le _) ⟨_, rfl, G_S8, F_S8, by omega⟩
        · exfalso; omega
  · have n15 : 0 ≤ p0 ∧ p0 ≤ S0 1079 28 := by omega
    clear o5
    refine zz_if_ne (by omega) zd_14_48_12 (fun c16 => ?_) (fun c16 => ?_)
    · refine zz_iconst zd_14_48_19 ?_
      refine zz_iconst zd_14_48_20 ?_
      refine zz_iconst zd_14_48_21 ?_
      refine zz_callVI [zi 0, zi 0, zi 0] zd_14_48_22 zk_Md_196 zT_1079 (zz_ltn hn rfl) rfl rfl ⟨Nat.le_of_ble_eq_true rfl, Nat.le_of_ble_eq_true rfl⟩ ⟨rfl, rfl⟩ (Nat.zero_le _) (Nat.zero_le _) (zc_refuse_14_3 0 0 0 S0 n hn G_S0 (by omega) (by omega) (by omega)) (fun v18 S17 hP => ?_)
      obtain ⟨G_S17, fS17, o19, o20⟩ := hP
      have F_S17 := zz_fr.trans F_S0 fS17 rfl zz_nv
      rcases (by omega : v18 = 0 ∨ v18 = 1) with rfl | rfl
      · have e21 : S17 1079 0 = 0 := by omega
        clear o20
        refine zz_if_ne (by omega) zd_14_48_25 (fun c22 => ?_) (fun c22 => ?_)
        · exfalso; omega
        · refine zz_aload_n (x := 1079) rfl zd_14_48_28 ?_
          refine zz_iload_n (x := p0) rfl zd_14_48_29 ?_
          refine zz_puti zd_14_48_30 zf_Md_331 zT_1079 rfl (zz_ltn hn rfl) (fun S23 qS23 => ?_)
          have G_S23 := zz_G.put G_S17 qS23 0 1500 rfl (by omega)
          have F_S23 := zz_fr.puts F_S17 qS23 rfl
          have e24 : S23 1079 0 = S17 1079 0 := (zz_ro qS23 (fun h => absurd h.2 (by decide)) rfl)
          have e25 : S23 1079 28 = p0 := (zz_rs qS23)
          exact zz_vret zd_14_48_33 rfl (Nat.zero_le _) (Nat.zero_le _) ⟨_, rfl, G_S23, F_S23, by omega⟩
      · exfalso; omega
    · exfalso; omega
abbrev zy_advance_14_49 : mm_Y := (⟨"TensorForgeModel", "advance", "()V"⟩, prog_14_method_49_code, 4, none)
theorem zyw_advance_14_49 : mm_Yw zy_advance_14_49 0 := ⟨mm_tb_1 2018 (by decide +kernel) rfl, mm_tb_1 12 (by decide +kernel) rfl, ⟨by decide, by decide⟩, by decide +kernel⟩
theorem zf_Md_334 : mm_Fl "TensorForgeModel" 334 11 32 .int false := ⟨R_Md, F_Md, 69, t_Md, rfl, i_Md, by decide, mm_tb_1 1643 (by decide +kernel) rfl, rfl, t_Md_ok, n_Md, rfl, by decide +kernel⟩
theorem zf_Md_337 : mm_Fl "TensorForgeModel" 337 11 33 .int false := ⟨R_Md, F_Md, 69, t_Md, rfl, i_Md, by decide, mm_tb_1 1644 (by decide +kernel) rfl, rfl, t_Md_ok, n_Md, rfl, by decide +kernel⟩
theorem zq_Md_340 : Cond.constantLong "TensorForgeModel" 340 (97 : Int64) ∈ mm_tb := mm_tb_1 2019 (by decide +kernel) rfl
theorem zq_Md_342 : Cond.constantLong "TensorForgeModel" 342 (122 : Int64) ∈ mm_tb := mm_tb_1 2020 (by decide +kernel) rfl
theorem zq_Md_350 : Cond.constantLong "TensorForgeModel" 350 (48 : Int64) ∈ mm_tb := mm_tb_1 2026 (by decide +kernel) rfl
theorem zq_Md_352 : Cond.constantLong "TensorForgeModel" 352 (57 : Int64) ∈ mm_tb := mm_tb_1 2027 (by decide +kernel) rfl
theorem zf_Md_347 : mm_Fl "TensorForgeModel" 347 11 30 .int false := ⟨R_Md, F_Md, 69, t_Md, rfl, i_Md, by decide, mm_tb_1 1641 (by decide +kernel) rfl, rfl, t_Md_ok, n_Md, rfl, by decide +kernel⟩
theorem zf_Md_354 : mm_Fl "TensorForgeModel" 354 11 31 .int false := ⟨R_Md, F_Md, 69, t_Md, rfl, i_Md, by decide, mm_tb_1 1642 (by decide +kernel) rfl, rfl, t_Md_ok, n_Md, rfl, by decide +kernel⟩
abbrev zy_wordAt_14_50 : mm_Y := (⟨"TensorForgeModel", "wordAt", "(II)I"⟩, prog_14_method_50_code, 8, (some .int))
theorem zyw_wordAt_14_50 : mm_Yw zy_wordAt_14_50 2 := ⟨mm_tb_1 2024 (by decide +kernel) rfl, mm_tb_1 12 (by decide +kernel) rfl, ⟨by decide, by decide⟩, by decide +kernel⟩
theorem zf_Md_79 : mm_Fl "TensorForgeModel" 79 11 29 (.array .long) true := ⟨R_Md, F_Md, 69, t_Md, rfl, i_Md, by decide, mm_tb_1 1640 (by decide +kernel) rfl, rfl, t_Md_ok, n_Md, rfl, by decide +kernel⟩
theorem zq_Md_357 : Cond.constantLong "TensorForgeModel" 357 (31 : Int64) ∈ mm_tb := mm_tb_1 2025 (by decide +kernel) rfl
theorem zg_14_49_0 : zq_at zy_advance_14_49.2.1 0 42 ∧ zq_at zy_advance_14_49.2.1 1 180 ∧ zq_at zy_advance_14_49.2.1 2 1 ∧ zq_at zy_advance_14_49.2.1 3 78 ∧ zq_at zy_advance_14_49.2.1 4 42 ∧ zq_at zy_advance_14_49.2.1 5 180 ∧ zq_at zy_advance_14_49.2.1 6 1 ∧ zq_at zy_advance_14_49.2.1 7 81 ∧ zq_at zy_advance_14_49.2.1 8 162 ∧ zq_at zy_advance_14_49.2.1 9 0 ∧ zq_at zy_advance_14_49.2.1 10 30 ∧ zq_at zy_advance_14_49.2.1 38 42 ∧ zq_at zy_advance_14_49.2.1 39 180 ∧ zq_at zy_advance_14_49.2.1 40 1 ∧ zq_at zy_advance_14_49.2.1 41 78 ∧ zq_at zy_advance_14_49.2.1 42 60 ∧ zq_at zy_advance_14_49.2.1 43 42 ∧ zq_at zy_advance_14_49.2.1 44 180 ∧ zq_at zy_advance_14_49.2.1 45 1 ∧ zq_at zy_advance_14_49.2.1 46 78 ∧ zq_at zy_advance_14_49.2.1 47 42 ∧ zq_at zy_advance_14_49.2.1 48 180 ∧ zq_at zy_advance_14_49.2.1 49 1 ∧ zq_at zy_advance_14_49.2.1 50 81 := by decide +kernel
theorem zd_14_49_0 : zz_D zy_advance_14_49 0 (.aload_n 0) 1 1 := ⟨zq_42 zg_14_49_0.1, rfl⟩
theorem zd_14_49_1 : zz_D zy_advance_14_49 1 (.getfield 334) 3 4 := ⟨zq_180 zg_14_49_0.2.1 zg_14_49_0.2.2.1 zg_14_49_0.2.2.2.1 rfl, rfl⟩
theorem zd_14_49_4 : zz_D zy_advance_14_49 4 (.aload_n 0) 1 5 := ⟨zq_42 zg_14_49_0.2.2.2.2.1, rfl⟩
theorem zd_14_49_5 : zz_D zy_advance_14_49 5 (.getfield 337) 3 8 := ⟨zq_180 zg_14_49_0.2.2.2.2.2.1 zg_14_49_0.2.2.2.2.2.2.1 zg_14_49_0.2.2.2.2.2.2.2.1 rfl, rfl⟩
theorem zd_14_49_8 : zz_B zy_advance_14_49 8 (Instr.if_icmp .ge) 38 11 := ⟨30, zq_162 zg_14_49_0.2.2.2.2.2.2.2.2.1 zg_14_49_0.2.2.2.2.2.2.2.2.2.1 zg_14_49_0.2.2.2.2.2.2.2.2.2.2.1 (by decide), rfl, rfl⟩
theorem zd_14_49_38 : zz_D zy_advance_14_49 38 (.aload_n 0) 1 39 := ⟨zq_42 zg_14_49_0.2.2.2.2.2.2.2.2.2.2.2.1, rfl⟩
theorem zd_14_49_39 : zz_D zy_advance_14_49 39 (.getfield 334) 3 42 := ⟨zq_180 zg_14_49_0.2.2.2.2.2.2.2.2.2.2.2.2.1 zg_14_49_0.2.2.2.2.2.2.2.2.2.2.2.2.2.1 zg_14_49_0.2.2.2.2.2.2.2.2.2.2.2.2.2.2.1 rfl, rfl⟩
theorem zd_14_49_42 : zz_D zy_advance_14_49 42 (.istore_n 1) 1 43 := ⟨zq_60 zg_14_49_0.2.2.2.2.2.2.2.2.2.2.2.2.2.2.2.1, rfl⟩
theorem zd_14_49_43 : zz_D zy_advance_14_49 43 (.aload_n 0) 1 44 := ⟨zq_42 zg_14_49_0.2.2.2.2.2.2.2.2.2.2.2.2.2.2.2.2.1, rfl⟩
theorem zd_14_49_44 : zz_D zy_advance_14_49 44 (.getfield 334) 3 47 := ⟨zq_180 zg_14_49_0.2.2.2.2.2.2.2.2.2.2.2.2.2.2.2.2.2.1 zg_14_49_0.2.2.2.2.2.2.2.2.2.2.2.2.2.2.2.2.2.2.1 zg_14_49_0.2.2.2.2.2.2.2.2.2.2.2.2.2.2.2.2.2.2.2.1 rfl, rfl⟩
theorem zd_14_49_47 : zz_D zy_advance_14_49 47 (.aload_n 0) 1 48 := ⟨zq_42 zg_14_49_0.2.2.2.2.2.2.2.2.2.2.2.2.2.2.2.2.2.2.2.2.1, rfl⟩
theorem zd_14_49_48 : zz_D zy_advance_14_49 48 (.getfield 337) 3 51 := ⟨zq_180 zg_14_49_0.2.2.2.2.2.2.2.2.2.2.2.2.2.2.2.2.2.2.2.2.2.1 zg_14_49_0.2.2.2.2.2.2.2.2.2.2.2.2.2.2.2.2.2.2.2.2.2.2.1 zg_14_49_0.2.2.2.2.2.2.2.2.2.2.2.2.2.2.2.2.2.2.2.2.2.2.2 rfl, rfl⟩
theorem zg_14_49_51 : zq_at zy_advance_14_49.2.1 51 162 ∧ zq_at zy_advance_14_49.2.1 52 0 ∧ zq_at zy_advance_14_49.2.1 53 15 ∧ zq_at zy_advance_14_49.2.1 66 3 ∧ zq_at zy_advance_14_49.2.1 67 61 ∧ zq_at zy_advance_14_49.2.1 68 28 ∧ zq_at zy_advance_14_49.2.1 69 133 ∧ zq_at zy_advance_14_49.2.1 70 20 ∧ zq_at zy_advance_14_49.2.1 71 1 ∧ zq_at zy_advance_14_49.2.1 72 84 ∧ zq_at zy_advance_14_49.2.1 73 20 ∧ zq_at zy_advance_14_49.2.1 74 1 ∧ zq_at zy_advance_14_49.2.1 75 86 ∧ zq_at zy_advance_14_49.2.1 76 184 ∧ zq_at zy_advance_14_49.2.1 77 0 ∧ zq_at zy_advance_14_49.2.1 78 192 ∧ zq_at zy_advance_14_49.2.1 79 153 ∧ zq_at zy_advance_14_49.2.1 80 0 ∧ zq_at zy_advance_14_49.2.1 81 65 ∧ zq_at zy_advance_14_49.2.1 144 28 ∧ zq_at zy_advance_14_49.2.1 145 133 ∧ zq_at zy_advance_14_49.2.1 146 20 ∧ zq_at zy_advance_14_49.2.1 147 1 ∧ zq_at zy_advance_14_49.2.1 148 94 := by decide +kernel
theorem zd_14_49_51 : zz_B zy_advance_14_49 51 (Instr.if_icmp .ge) 66 54 := ⟨15, zq_162 zg_14_49_51.1 zg_14_49_51.2.1 zg_14_49_51.2.2.1 (by decide), rfl, rfl⟩
theorem zd_14_49_66 : zz_D zy_advance_14_49 66 (.iconst 0) 1 67 := ⟨zq_3 zg_14_49_51.2.2.2.1, rfl⟩
theorem zd_14_49_67 : zz_D zy_advance_14_49 67 (.istore_n 2) 1 68 := ⟨zq_61 zg_14_49_51.2.2.2.2.1, rfl⟩
theorem zd_14_49_68 : zz_D zy_advance_14_49 68 (.iload_n 2) 1 69 := ⟨zq_28 zg_14_49_51.2.2.2.2.2.1, rfl⟩
theorem zd_14_49_69 : zz_D zy_advance_14_49 69 (.i2l) 1 70 := ⟨zq_133 zg_14_49_51.2.2.2.2.2.2.1, rfl⟩
theorem zd_14_49_70 : zz_D zy_advance_14_49 70 (.ldc2_w 340) 3 73 := ⟨zq_20 zg_14_49_51.2.2.2.2.2.2.2.1 zg_14_49_51.2.2.2.2.2.2.2.2.1 zg_14_49_51.2.2.2.2.2.2.2.2.2.1 rfl, rfl⟩
theorem zd_14_49_73 : zz_D zy_advance_14_49 73 (.ldc2_w 342) 3 76 := ⟨zq_20 zg_14_49_51.2.2.2.2.2.2.2.2.2.2.1 zg_14_49_51.2.2.2.2.2.2.2.2.2.2.2.1 zg_14_49_51.2.2.2.2.2.2.2.2.2.2.2.2.1 rfl, rfl⟩
theorem zd_14_49_76 : zz_D zy_advance_14_49 76 (.invokestatic 192) 3 79 := ⟨zq_184 zg_14_49_51.2.2.2.2.2.2.2.2.2.2.2.2.2.1 zg_14_49_51.2.2.2.2.2.2.2.2.2.2.2.2.2.2.1 zg_14_49_51.2.2.2.2.2.2.2.2.2.2.2.2.2.2.2.1 rfl, rfl⟩
theorem zd_14_49_79 : zz_B zy_advance_14_49 79 (Instr.ifCond .eq) 144 82 := ⟨65, zq_153 zg_14_49_51.2.2.2.2.2.2.2.2.2.2.2.2.2.2.2.2.1 zg_14_49_51.2.2.2.2.2.2.2.2.2.2.2.2.2.2.2.2.2.1 zg_14_49_51.2.2.2.2.2.2.2.2.2.2.2.2.2.2.2.2.2.2.1 (by decide), rfl, rfl⟩
theorem zd_14_49_144 : zz_D zy_advance_14_49 144 (.iload_n 2) 1 145 := ⟨zq_28 zg_14_49_51.2.2.2.2.2.2.2.2.2.2.2.2.2.2.2.2.2.2.2.1, rfl⟩
theorem zd_14_49_145 : zz_D zy_advance_14_49 145 (.i2l) 1 146 := ⟨zq_133 zg_14_49_51.2.2.2.2.2.2.2.2.2.2.2.2.2.2.2.2.2.2.2.2.1, rfl⟩
theorem zd_14_49_146 : zz_D zy_advance_14_49 146 (.ldc2_w 350) 3 149 := ⟨zq_20 zg_14_49_51.2.2.2.2.2.2.2.2.2.2.2.2.2.2.2.2.2.2.2.2.2.1 zg_14_49_51.2.2.2.2.2.2.2.2.2.2.2.2.2.2.2.2.2.2.2.2.2.2.1 zg_14_49_51.2.2.2.2.2.2.2.2.2.2.2.2.2.2.2.2.2.2.2.2.2.2.2 rfl, rfl⟩
theorem zg_14_49_149 : zq_at zy_advance_14_49.2.1 149 20 ∧ zq_at zy_advance_14_49.2.1 150 1 ∧ zq_at zy_advance_14_49.2.1 151 96 ∧ zq_at zy_advance_14_49.2.1 152 184 ∧ zq_at zy_advance_14_49.2.1 153 0 ∧ zq_at zy_advance_14_49.2.1 154 192 ∧ zq_at zy_advance_14_49.2.1 155 153 ∧ zq_at zy_advance_14_49.2.1 156 0 ∧ zq_at zy_advance_14_49.2.1 157 112 ∧ zq_at zy_advance_14_49.2.1 267 42 ∧ zq_at zy_advance_14_49.2.1 268 42 ∧ zq_at zy_advance_14_49.2.1 269 180 ∧ zq_at zy_advance_14_49.2.1 270 1 ∧ zq_at zy_advance_14_49.2.1 271 78 ∧ zq_at zy_advance_14_49.2.1 272 42 ∧ zq_at zy_advance_14_49.2.1 273 180 ∧ zq_at zy_advance_14_49.2.1 274 1 ∧ zq_at zy_advance_14_49.2.1 275 81 ∧ zq_at zy_advance_14_49.2.1 276 162 ∧ zq_at zy_advance_14_49.2.1 277 0 ∧ zq_at zy_advance_14_49.2.1 278 8 ∧ zq_at zy_advance_14_49.2.1 284 3 := by decide +kernel
theorem zd_14_49_149 : zz_D zy_advance_14_49 149 (.ldc2_w 352) 3 152 := ⟨zq_20 zg_14_49_149.1 zg_14_49_149.2.1 zg_14_49_149.2.2.1 rfl, rfl⟩
theorem zd_14_49_152 : zz_D zy_advance_14_49 152 (.invokestatic 192) 3 155 := ⟨zq_184 zg_14_49_149.2.2.2.1 zg_14_49_149.2.2.2.2.1 zg_14_49_149.2.2.2.2.2.1 rfl, rfl⟩
theorem zd_14_49_155 : zz_B zy_advance_14_49 155 (Instr.ifCond .eq) 267 158 := ⟨112, zq_153 zg_14_49_149.2.2.2.2.2.2.1 zg_14_49_149.2.2.2.2.2.2.2.1 zg_14_49_149.2.2.2.2.2.2.2.2.1 (by decide), rfl, rfl⟩
theorem zd_14_49_267 : zz_D zy_advance_14_49 267 (.aload_n 0) 1 268 := ⟨zq_42 zg_14_49_149.2.2.2.2.2.2.2.2.2.1, rfl⟩
theorem zd_14_49_268 : zz_D zy_advance_14_49 268 (.aload_n 0) 1 269 := ⟨zq_42 zg_14_49_149.2.2.2.2.2.2.2.2.2.2.1, rfl⟩
theorem zd_14_49_269 : zz_D zy_advance_14_49 269 (.getfield 334) 3 272 := ⟨zq_180 zg_14_49_149.2.2.2.2.2.2.2.2.2.2.2.1 zg_14_49_149.2.2.2.2.2.2.2.2.2.2.2.2.1 zg_14_49_149.2.2.2.2.2.2.2.2.2.2.2.2.2.1 rfl, rfl⟩
theorem zd_14_49_272 : zz_D zy_advance_14_49 272 (.aload_n 0) 1 273 := ⟨zq_42 zg_14_49_149.2.2.2.2.2.2.2.2.2.2.2.2.2.2.1, rfl⟩
theorem zd_14_49_273 : zz_D zy_advance_14_49 273 (.getfield 337) 3 276 := ⟨zq_180 zg_14_49_149.2.2.2.2.2.2.2.2.2.2.2.2.2.2.2.1 zg_14_49_149.2.2.2.2.2.2.2.2.2.2.2.2.2.2.2.2.1 zg_14_49_149.2.2.2.2.2.2.2.2.2.2.2.2.2.2.2.2.2.1 rfl, rfl⟩
theorem zd_14_49_276 : zz_B zy_advance_14_49 276 (Instr.if_icmp .ge) 284 279 := ⟨8, zq_162 zg_14_49_149.2.2.2.2.2.2.2.2.2.2.2.2.2.2.2.2.2.2.1 zg_14_49_149.2.2.2.2.2.2.2.2.2.2.2.2.2.2.2.2.2.2.2.1 zg_14_49_149.2.2.2.2.2.2.2.2.2.2.2.2.2.2.2.2.2.2.2.2.1 (by decide), rfl, rfl⟩
theorem zd_14_49_284 : zz_D zy_advance_14_49 284 (.iconst 0) 1 285 := ⟨zq_3 zg_14_49_149.2.2.2.2.2.2.2.2.2.2.2.2.2.2.2.2.2.2.2.2.2, rfl⟩
theorem zg_14_49_285 : zq_at zy_advance_14_49.2.1 285 181 ∧ zq_at zy_advance_14_49.2.1 286 1 ∧ zq_at zy_advance_14_49.2.1 287 91 ∧ zq_at zy_advance_14_49.2.1 288 177 ∧ zq_at zy_advance_14_49.2.1 279 16 ∧ zq_at zy_advance_14_49.2.1 280 101 ∧ zq_at zy_advance_14_49.2.1 281 167 ∧ zq_at zy_advance_14_49.2.1 282 0 ∧ zq_at zy_advance_14_49.2.1 283 4 ∧ zq_at zy_advance_14_49.2.1 54 42 ∧ zq_at zy_advance_14_49.2.1 55 180 ∧ zq_at zy_advance_14_49.2.1 56 0 ∧ zq_at zy_advance_14_49.2.1 57 76 ∧ zq_at zy_advance_14_49.2.1 58 42 ∧ zq_at zy_advance_14_49.2.1 59 180 ∧ zq_at zy_advance_14_49.2.1 60 1 ∧ zq_at zy_advance_14_49.2.1 61 78 ∧ zq_at zy_advance_14_49.2.1 62 46 ∧ zq_at zy_advance_14_49.2.1 63 167 ∧ zq_at zy_advance_14_49.2.1 64 0 ∧ zq_at zy_advance_14_49.2.1 65 4 ∧ zq_at zy_advance_14_49.2.1 158 3 ∧ zq_at zy_advance_14_49.2.1 159 62 ∧ zq_at zy_advance_14_49.2.1 11 42 := by decide +kernel
theorem zd_14_49_285 : zz_D zy_advance_14_49 285 (.putfield 347) 3 288 := ⟨zq_181 zg_14_49_285.1 zg_14_49_285.2.1 zg_14_49_285.2.2.1 rfl, rfl⟩
theorem zd_14_49_288 : zz_D zy_advance_14_49 288 (.return_) 1 289 := ⟨zq_177 zg_14_49_285.2.2.2.1, rfl⟩
theorem zd_14_49_279 : zz_D zy_advance_14_49 279 (.bipush 101) 2 281 := ⟨zq_16 zg_14_49_285.2.2.2.2.1 zg_14_49_285.2.2.2.2.2.1 (by decide), rfl⟩
theorem zd_14_49_281 : zz_B zy_advance_14_49 281 Instr.goto 285 284 := ⟨4, zq_167 zg_14_49_285.2.2.2.2.2.2.1 zg_14_49_285.2.2.2.2.2.2.2.1 zg_14_49_285.2.2.2.2.2.2.2.2.1 (by decide), rfl, rfl⟩
theorem zd_14_49_54 : zz_D zy_advance_14_49 54 (.aload_n 0) 1 55 := ⟨zq_42 zg_14_49_285.2.2.2.2.2.2.2.2.2.1, rfl⟩
theorem zd_14_49_55 : zz_D zy_advance_14_49 55 (.getfield 76) 3 58 := ⟨zq_180 zg_14_49_285.2.2.2.2.2.2.2.2.2.2.1 zg_14_49_285.2.2.2.2.2.2.2.2.2.2.2.1 zg_14_49_285.2.2.2.2.2.2.2.2.2.2.2.2.1 rfl, rfl⟩
theorem zd_14_49_58 : zz_D zy_advance_14_49 58 (.aload_n 0) 1 59 := ⟨zq_42 zg_14_49_285.2.2.2.2.2.2.2.2.2.2.2.2.2.1, rfl⟩
theorem zd_14_49_59 : zz_D zy_advance_14_49 59 (.getfield 334) 3 62 := ⟨zq_180 zg_14_49_285.2.2.2.2.2.2.2.2.2.2.2.2.2.2.1 zg_14_49_285.2.2.2.2.2.2.2.2.2.2.2.2.2.2.2.1 zg_14_49_285.2.2.2.2.2.2.2.2.2.2.2.2.2.2.2.2.1 rfl, rfl⟩
theorem zd_14_49_62 : zz_D zy_advance_14_49 62 (.iaload) 1 63 := ⟨zq_46 zg_14_49_285.2.2.2.2.2.2.2.2.2.2.2.2.2.2.2.2.2.1, rfl⟩
theorem zd_14_49_63 : zz_B zy_advance_14_49 63 Instr.goto 67 66 := ⟨4, zq_167 zg_14_49_285.2.2.2.2.2.2.2.2.2.2.2.2.2.2.2.2.2.2.1 zg_14_49_285.2.2.2.2.2.2.2.2.2.2.2.2.2.2.2.2.2.2.2.1 zg_14_49_285.2.2.2.2.2.2.2.2.2.2.2.2.2.2.2.2.2.2.2.2.1 (by decide), rfl, rfl⟩
theorem zd_14_49_158 : zz_D zy_advance_14_49 158 (.iconst 0) 1 159 := ⟨zq_3 zg_14_49_285.2.2.2.2.2.2.2.2.2.2.2.2.2.2.2.2.2.2.2.2.2.1, rfl⟩
theorem zd_14_49_159 : zz_D zy_advance_14_49 159 (.istore_n 3) 1 160 := ⟨zq_62 zg_14_49_285.2.2.2.2.2.2.2.2.2.2.2.2.2.2.2.2.2.2.2.2.2.2.1, rfl⟩
theorem zd_14_49_11 : zz_D zy_advance_14_49 11 (.aload_n 0) 1 12 := ⟨zq_42 zg_14_49_285.2.2.2.2.2.2.2.2.2.2.2.2.2.2.2.2.2.2.2.2.2.2.2, rfl⟩
theorem zg_14_49_12 : zq_at zy_advance_14_49.2.1 12 180 ∧ zq_at zy_advance_14_49.2.1 13 0 ∧ zq_at zy_advance_14_49.2.1 14 76 ∧ zq_at zy_advance_14_49.2.1 15 42 ∧ zq_at zy_advance_14_49.2.1 16 180 ∧ zq_at zy_advance_14_49.2.1 17 1 ∧ zq_at zy_advance_14_49.2.1 18 78 ∧ zq_at zy_advance_14_49.2.1 19 46 ∧ zq_at zy_advance_14_49.2.1 20 16 ∧ zq_at zy_advance_14_49.2.1 21 32 ∧ zq_at zy_advance_14_49.2.1 22 160 ∧ zq_at zy_advance_14_49.2.1 23 0 ∧ zq_at zy_advance_14_49.2.1 24 16 ∧ zq_at zy_advance_14_49.2.1 25 42 ∧ zq_at zy_advance_14_49.2.1 26 89 ∧ zq_at zy_advance_14_49.2.1 27 180 ∧ zq_at zy_advance_14_49.2.1 28 1 ∧ zq_at zy_advance_14_49.2.1 29 78 ∧ zq_at zy_advance_14_49.2.1 30 4 ∧ zq_at zy_advance_14_49.2.1 31 96 ∧ zq_at zy_advance_14_49.2.1 32 181 ∧ zq_at zy_advance_14_49.2.1 33 1 ∧ zq_at zy_advance_14_49.2.1 34 78 := by decide +kernel
theorem zd_14_49_12 : zz_D zy_advance_14_49 12 (.getfield 76) 3 15 := ⟨zq_180 zg_14_49_12.1 zg_14_49_12.2.1 zg_14_49_12.2.2.1 rfl, rfl⟩
theorem zd_14_49_15 : zz_D zy_advance_14_49 15 (.aload_n 0) 1 16 := ⟨zq_42 zg_14_49_12.2.2.2.1, rfl⟩
theorem zd_14_49_16 : zz_D zy_advance_14_49 16 (.getfield 334) 3 19 := ⟨zq_180 zg_14_49_12.2.2.2.2.1 zg_14_49_12.2.2.2.2.2.1 zg_14_49_12.2.2.2.2.2.2.1 rfl, rfl⟩
theorem zd_14_49_19 : zz_D zy_advance_14_49 19 (.iaload) 1 20 := ⟨zq_46 zg_14_49_12.2.2.2.2.2.2.2.1, rfl⟩
theorem zd_14_49_20 : zz_D zy_advance_14_49 20 (.bipush 32) 2 22 := ⟨zq_16 zg_14_49_12.2.2.2.2.2.2.2.2.1 zg_14_49_12.2.2.2.2.2.2.2.2.2.1 (by decide), rfl⟩
theorem zd_14_49_22 : zz_B zy_advance_14_49 22 (Instr.if_icmp .ne) 38 25 := ⟨16, zq_160 zg_14_49_12.2.2.2.2.2.2.2.2.2.2.1 zg_14_49_12.2.2.2.2.2.2.2.2.2.2.2.1 zg_14_49_12.2.2.2.2.2.2.2.2.2.2.2.2.1 (by decide), rfl, rfl⟩
theorem zd_14_49_25 : zz_D zy_advance_14_49 25 (.aload_n 0) 1 26 := ⟨zq_42 zg_14_49_12.2.2.2.2.2.2.2.2.2.2.2.2.2.1, rfl⟩
theorem zd_14_49_26 : zz_D zy_advance_14_49 26 (.dup) 1 27 := ⟨zq_89 zg_14_49_12.2.2.2.2.2.2.2.2.2.2.2.2.2.2.1, rfl⟩
theorem zd_14_49_27 : zz_D zy_advance_14_49 27 (.getfield 334) 3 30 := ⟨zq_180 zg_14_49_12.2.2.2.2.2.2.2.2.2.2.2.2.2.2.2.1 zg_14_49_12.2.2.2.2.2.2.2.2.2.2.2.2.2.2.2.2.1 zg_14_49_12.2.2.2.2.2.2.2.2.2.2.2.2.2.2.2.2.2.1 rfl, rfl⟩
theorem zd_14_49_30 : zz_D zy_advance_14_49 30 (.iconst 1) 1 31 := ⟨zq_4 zg_14_49_12.2.2.2.2.2.2.2.2.2.2.2.2.2.2.2.2.2.2.1, rfl⟩
theorem zd_14_49_31 : zz_D zy_advance_14_49 31 (.iadd) 1 32 := ⟨zq_96 zg_14_49_12.2.2.2.2.2.2.2.2.2.2.2.2.2.2.2.2.2.2.2.1, rfl⟩
theorem zd_14_49_32 : zz_D zy_advance_14_49 32 (.putfield 334) 3 35 := ⟨zq_181 zg_14_49_12.2.2.2.2.2.2.2.2.2.2.2.2.2.2.2.2.2.2.2.2.1 zg_14_49_12.2.2.2.2.2.2.2.2.2.2.2.2.2.2.2.2.2.2.2.2.2.1 zg_14_49_12.2.2.2.2.2.2.2.2.2.2.2.2.2.2.2.2.2.2.2.2.2.2 rfl, rfl⟩
theorem zg_14_49_35 : zq_at zy_advance_14_49.2.1 35 167 ∧ zq_at zy_advance_14_49.2.1 36 255 ∧ zq_at zy_advance_14_49.2.1 37 221 ∧ zq_at zy_advance_14_49.2.1 160 42 ∧ zq_at zy_advance_14_49.2.1 161 180 ∧ zq_at zy_advance_14_49.2.1 162 1 ∧ zq_at zy_advance_14_49.2.1 163 78 ∧ zq_at zy_advance_14_49.2.1 164 42 ∧ zq_at zy_advance_14_49.2.1 165 180 ∧ zq_at zy_advance_14_49.2.1 166 1 ∧ zq_at zy_advance_14_49.2.1 167 81 ∧ zq_at zy_advance_14_49.2.1 168 162 ∧ zq_at zy_advance_14_49.2.1 169 0 ∧ zq_at zy_advance_14_49.2.1 170 70 ∧ zq_at zy_advance_14_49.2.1 238 42 ∧ zq_at zy_advance_14_49.2.1 239 42 ∧ zq_at zy_advance_14_49.2.1 240 180 ∧ zq_at zy_advance_14_49.2.1 241 1 ∧ zq_at zy_advance_14_49.2.1 242 78 ∧ zq_at zy_advance_14_49.2.1 243 27 ∧ zq_at zy_advance_14_49.2.1 244 100 ∧ zq_at zy_advance_14_49.2.1 245 7 := by decide +kernel
theorem zd_14_49_35 : zz_B zy_advance_14_49 35 Instr.goto 0 38 := ⟨(-35), zq_167 zg_14_49_35.1 zg_14_49_35.2.1 zg_14_49_35.2.2.1 (by decide), rfl, rfl⟩
theorem zd_14_49_160 : zz_D zy_advance_14_49 160 (.aload_n 0) 1 161 := ⟨zq_42 zg_14_49_35.2.2.2.1, rfl⟩
theorem zd_14_49_161 : zz_D zy_advance_14_49 161 (.getfield 334) 3 164 := ⟨zq_180 zg_14_49_35.2.2.2.2.1 zg_14_49_35.2.2.2.2.2.1 zg_14_49_35.2.2.2.2.2.2.1 rfl, rfl⟩
theorem zd_14_49_164 : zz_D zy_advance_14_49 164 (.aload_n 0) 1 165 := ⟨zq_42 zg_14_49_35.2.2.2.2.2.2.2.1, rfl⟩
theorem zd_14_49_165 : zz_D zy_advance_14_49 165 (.getfield 337) 3 168 := ⟨zq_180 zg_14_49_35.2.2.2.2.2.2.2.2.1 zg_14_49_35.2.2.2.2.2.2.2.2.2.1 zg_14_49_35.2.2.2.2.2.2.2.2.2.2.1 rfl, rfl⟩
theorem zd_14_49_168 : zz_B zy_advance_14_49 168 (Instr.if_icmp .ge) 238 171 := ⟨70, zq_162 zg_14_49_35.2.2.2.2.2.2.2.2.2.2.2.1 zg_14_49_35.2.2.2.2.2.2.2.2.2.2.2.2.1 zg_14_49_35.2.2.2.2.2.2.2.2.2.2.2.2.2.1 (by decide), rfl, rfl⟩
theorem zd_14_49_238 : zz_D zy_advance_14_49 238 (.aload_n 0) 1 239 := ⟨zq_42 zg_14_49_35.2.2.2.2.2.2.2.2.2.2.2.2.2.2.1, rfl⟩
theorem zd_14_49_239 : zz_D zy_advance_14_49 239 (.aload_n 0) 1 240 := ⟨zq_42 zg_14_49_35.2.2.2.2.2.2.2.2.2.2.2.2.2.2.2.1, rfl⟩
theorem zd_14_49_240 : zz_D zy_advance_14_49 240 (.getfield 334) 3 243 := ⟨zq_180 zg_14_49_35.2.2.2.2.2.2.2.2.2.2.2.2.2.2.2.2.1 zg_14_49_35.2.2.2.2.2.2.2.2.2.2.2.2.2.2.2.2.2.1 zg_14_49_35.2.2.2.2.2.2.2.2.2.2.2.2.2.2.2.2.2.2.1 rfl, rfl⟩
theorem zd_14_49_243 : zz_D zy_advance_14_49 243 (.iload_n 1) 1 244 := ⟨zq_27 zg_14_49_35.2.2.2.2.2.2.2.2.2.2.2.2.2.2.2.2.2.2.2.1, rfl⟩
theorem zd_14_49_244 : zz_D zy_advance_14_49 244 (.isub) 1 245 := ⟨zq_100 zg_14_49_35.2.2.2.2.2.2.2.2.2.2.2.2.2.2.2.2.2.2.2.2.1, rfl⟩
theorem zd_14_49_245 : zz_D zy_advance_14_49 245 (.iconst 4) 1 246 := ⟨zq_7 zg_14_49_35.2.2.2.2.2.2.2.2.2.2.2.2.2.2.2.2.2.2.2.2.2, rfl⟩
theorem zg_14_49_246 : zq_at zy_advance_14_49.2.1 246 164 ∧ zq_at zy_advance_14_49.2.1 247 0 ∧ zq_at zy_advance_14_49.2.1 248 8 ∧ zq_at zy_advance_14_49.2.1 254 16 ∧ zq_at zy_advance_14_49.2.1 255 100 ∧ zq_at zy_advance_14_49.2.1 256 181 ∧ zq_at zy_advance_14_49.2.1 257 1 ∧ zq_at zy_advance_14_49.2.1 258 91 ∧ zq_at zy_advance_14_49.2.1 259 42 ∧ zq_at zy_advance_14_49.2.1 260 29 ∧ zq_at zy_advance_14_49.2.1 261 181 ∧ zq_at zy_advance_14_49.2.1 262 1 ∧ zq_at zy_advance_14_49.2.1 263 98 ∧ zq_at zy_advance_14_49.2.1 264 167 ∧ zq_at zy_advance_14_49.2.1 265 0 ∧ zq_at zy_advance_14_49.2.1 266 24 ∧ zq_at zy_advance_14_49.2.1 249 16 ∧ zq_at zy_advance_14_49.2.1 250 101 ∧ zq_at zy_advance_14_49.2.1 251 167 ∧ zq_at zy_advance_14_49.2.1 252 0 ∧ zq_at zy_advance_14_49.2.1 253 5 ∧ zq_at zy_advance_14_49.2.1 171 42 := by decide +kernel
theorem zd_14_49_246 : zz_B zy_advance_14_49 246 (Instr.if_icmp .le) 254 249 := ⟨8, zq_164 zg_14_49_246.1 zg_14_49_246.2.1 zg_14_49_246.2.2.1 (by decide), rfl, rfl⟩
theorem zd_14_49_254 : zz_D zy_advance_14_49 254 (.bipush 100) 2 256 := ⟨zq_16 zg_14_49_246.2.2.2.1 zg_14_49_246.2.2.2.2.1 (by decide), rfl⟩
theorem zd_14_49_256 : zz_D zy_advance_14_49 256 (.putfield 347) 3 259 := ⟨zq_181 zg_14_49_246.2.2.2.2.2.1 zg_14_49_246.2.2.2.2.2.2.1 zg_14_49_246.2.2.2.2.2.2.2.1 rfl, rfl⟩
theorem zd_14_49_259 : zz_D zy_advance_14_49 259 (.aload_n 0) 1 260 := ⟨zq_42 zg_14_49_246.2.2.2.2.2.2.2.2.1, rfl⟩
theorem zd_14_49_260 : zz_D zy_advance_14_49 260 (.iload_n 3) 1 261 := ⟨zq_29 zg_14_49_246.2.2.2.2.2.2.2.2.2.1, rfl⟩
theorem zd_14_49_261 : zz_D zy_advance_14_49 261 (.putfield 354) 3 264 := ⟨zq_181 zg_14_49_246.2.2.2.2.2.2.2.2.2.2.1 zg_14_49_246.2.2.2.2.2.2.2.2.2.2.2.1 zg_14_49_246.2.2.2.2.2.2.2.2.2.2.2.2.1 rfl, rfl⟩
theorem zd_14_49_264 : zz_B zy_advance_14_49 264 Instr.goto 288 267 := ⟨24, zq_167 zg_14_49_246.2.2.2.2.2.2.2.2.2.2.2.2.2.1 zg_14_49_246.2.2.2.2.2.2.2.2.2.2.2.2.2.2.1 zg_14_49_246.2.2.2.2.2.2.2.2.2.2.2.2.2.2.2.1 (by decide), rfl, rfl⟩
theorem zd_14_49_249 : zz_D zy_advance_14_49 249 (.bipush 101) 2 251 := ⟨zq_16 zg_14_49_246.2.2.2.2.2.2.2.2.2.2.2.2.2.2.2.2.1 zg_14_49_246.2.2.2.2.2.2.2.2.2.2.2.2.2.2.2.2.2.1 (by decide), rfl⟩
theorem zd_14_49_251 : zz_B zy_advance_14_49 251 Instr.goto 256 254 := ⟨5, zq_167 zg_14_49_246.2.2.2.2.2.2.2.2.2.2.2.2.2.2.2.2.2.2.1 zg_14_49_246.2.2.2.2.2.2.2.2.2.2.2.2.2.2.2.2.2.2.2.1 zg_14_49_246.2.2.2.2.2.2.2.2.2.2.2.2.2.2.2.2.2.2.2.2.1 (by decide), rfl, rfl⟩
theorem zd_14_49_171 : zz_D zy_advance_14_49 171 (.aload_n 0) 1 172 := ⟨zq_42 zg_14_49_246.2.2.2.2.2.2.2.2.2.2.2.2.2.2.2.2.2.2.2.2.2, rfl⟩
theorem zg_14_49_172 : zq_at zy_advance_14_49.2.1 172 180 ∧ zq_at zy_advance_14_49.2.1 173 0 ∧ zq_at zy_advance_14_49.2.1 174 76 ∧ zq_at zy_advance_14_49.2.1 175 42 ∧ zq_at zy_advance_14_49.2.1 176 180 ∧ zq_at zy_advance_14_49.2.1 177 1 ∧ zq_at zy_advance_14_49.2.1 178 78 ∧ zq_at zy_advance_14_49.2.1 179 46 ∧ zq_at zy_advance_14_49.2.1 180 133 ∧ zq_at zy_advance_14_49.2.1 181 20 ∧ zq_at zy_advance_14_49.2.1 182 1 ∧ zq_at zy_advance_14_49.2.1 183 94 ∧ zq_at zy_advance_14_49.2.1 184 20 ∧ zq_at zy_advance_14_49.2.1 185 1 ∧ zq_at zy_advance_14_49.2.1 186 96 ∧ zq_at zy_advance_14_49.2.1 187 184 ∧ zq_at zy_advance_14_49.2.1 188 0 ∧ zq_at zy_advance_14_49.2.1 189 192 ∧ zq_at zy_advance_14_49.2.1 190 153 ∧ zq_at zy_advance_14_49.2.1 191 0 ∧ zq_at zy_advance_14_49.2.1 192 48 ∧ zq_at zy_advance_14_49.2.1 193 42 := by decide +kernel
theorem zd_14_49_172 : zz_D zy_advance_14_49 172 (.getfield 76) 3 175 := ⟨zq_180 zg_14_49_172.1 zg_14_49_172.2.1 zg_14_49_172.2.2.1 rfl, rfl⟩
theorem zd_14_49_175 : zz_D zy_advance_14_49 175 (.aload_n 0) 1 176 := ⟨zq_42 zg_14_49_172.2.2.2.1, rfl⟩
theorem zd_14_49_176 : zz_D zy_advance_14_49 176 (.getfield 334) 3 179 := ⟨zq_180 zg_14_49_172.2.2.2.2.1 zg_14_49_172.2.2.2.2.2.1 zg_14_49_172.2.2.2.2.2.2.1 rfl, rfl⟩
theorem zd_14_49_179 : zz_D zy_advance_14_49 179 (.iaload) 1 180 := ⟨zq_46 zg_14_49_172.2.2.2.2.2.2.2.1, rfl⟩
theorem zd_14_49_180 : zz_D zy_advance_14_49 180 (.i2l) 1 181 := ⟨zq_133 zg_14_49_172.2.2.2.2.2.2.2.2.1, rfl⟩
theorem zd_14_49_181 : zz_D zy_advance_14_49 181 (.ldc2_w 350) 3 184 := ⟨zq_20 zg_14_49_172.2.2.2.2.2.2.2.2.2.1 zg_14_49_172.2.2.2.2.2.2.2.2.2.2.1 zg_14_49_172.2.2.2.2.2.2.2.2.2.2.2.1 rfl, rfl⟩
theorem zd_14_49_184 : zz_D zy_advance_14_49 184 (.ldc2_w 352) 3 187 := ⟨zq_20 zg_14_49_172.2.2.2.2.2.2.2.2.2.2.2.2.1 zg_14_49_172.2.2.2.2.2.2.2.2.2.2.2.2.2.1 zg_14_49_172.2.2.2.2.2.2.2.2.2.2.2.2.2.2.1 rfl, rfl⟩
theorem zd_14_49_187 : zz_D zy_advance_14_49 187 (.invokestatic 192) 3 190 := ⟨zq_184 zg_14_49_172.2.2.2.2.2.2.2.2.2.2.2.2.2.2.2.1 zg_14_49_172.2.2.2.2.2.2.2.2.2.2.2.2.2.2.2.2.1 zg_14_49_172.2.2.2.2.2.2.2.2.2.2.2.2.2.2.2.2.2.1 rfl, rfl⟩
theorem zd_14_49_190 : zz_B zy_advance_14_49 190 (Instr.ifCond .eq) 238 193 := ⟨48, zq_153 zg_14_49_172.2.2.2.2.2.2.2.2.2.2.2.2.2.2.2.2.2.2.1 zg_14_49_172.2.2.2.2.2.2.2.2.2.2.2.2.2.2.2.2.2.2.2.1 zg_14_49_172.2.2.2.2.2.2.2.2.2.2.2.2.2.2.2.2.2.2.2.2.1 (by decide), rfl, rfl⟩
theorem zd_14_49_193 : zz_D zy_advance_14_49 193 (.aload_n 0) 1 194 := ⟨zq_42 zg_14_49_172.2.2.2.2.2.2.2.2.2.2.2.2.2.2.2.2.2.2.2.2.2, rfl⟩
theorem zg_14_49_194 : zq_at zy_advance_14_49.2.1 194 180 ∧ zq_at zy_advance_14_49.2.1 195 1 ∧ zq_at zy_advance_14_49.2.1 196 78 ∧ zq_at zy_advance_14_49.2.1 197 27 ∧ zq_at zy_advance_14_49.2.1 198 100 ∧ zq_at zy_advance_14_49.2.1 199 7 ∧ zq_at zy_advance_14_49.2.1 200 162 ∧ zq_at zy_advance_14_49.2.1 201 0 ∧ zq_at zy_advance_14_49.2.1 202 23 ∧ zq_at zy_advance_14_49.2.1 223 29 ∧ zq_at zy_advance_14_49.2.1 224 62 ∧ zq_at zy_advance_14_49.2.1 225 42 ∧ zq_at zy_advance_14_49.2.1 226 89 ∧ zq_at zy_advance_14_49.2.1 227 180 ∧ zq_at zy_advance_14_49.2.1 228 1 ∧ zq_at zy_advance_14_49.2.1 229 78 ∧ zq_at zy_advance_14_49.2.1 230 4 ∧ zq_at zy_advance_14_49.2.1 231 96 ∧ zq_at zy_advance_14_49.2.1 232 181 ∧ zq_at zy_advance_14_49.2.1 233 1 ∧ zq_at zy_advance_14_49.2.1 234 78 ∧ zq_at zy_advance_14_49.2.1 235 167 ∧ zq_at zy_advance_14_49.2.1 236 255 ∧ zq_at zy_advance_14_49.2.1 237 181 := by decide +kernel
theorem zd_14_49_194 : zz_D zy_advance_14_49 194 (.getfield 334) 3 197 := ⟨zq_180 zg_14_49_194.1 zg_14_49_194.2.1 zg_14_49_194.2.2.1 rfl, rfl⟩
theorem zd_14_49_197 : zz_D zy_advance_14_49 197 (.iload_n 1) 1 198 := ⟨zq_27 zg_14_49_194.2.2.2.1, rfl⟩
theorem zd_14_49_198 : zz_D zy_advance_14_49 198 (.isub) 1 199 := ⟨zq_100 zg_14_49_194.2.2.2.2.1, rfl⟩
theorem zd_14_49_199 : zz_D zy_advance_14_49 199 (.iconst 4) 1 200 := ⟨zq_7 zg_14_49_194.2.2.2.2.2.1, rfl⟩
theorem zd_14_49_200 : zz_B zy_advance_14_49 200 (Instr.if_icmp .ge) 223 203 := ⟨23, zq_162 zg_14_49_194.2.2.2.2.2.2.1 zg_14_49_194.2.2.2.2.2.2.2.1 zg_14_49_194.2.2.2.2.2.2.2.2.1 (by decide), rfl, rfl⟩
theorem zd_14_49_223 : zz_D zy_advance_14_49 223 (.iload_n 3) 1 224 := ⟨zq_29 zg_14_49_194.2.2.2.2.2.2.2.2.2.1, rfl⟩
theorem zd_14_49_224 : zz_D zy_advance_14_49 224 (.istore_n 3) 1 225 := ⟨zq_62 zg_14_49_194.2.2.2.2.2.2.2.2.2.2.1, rfl⟩
theorem zd_14_49_225 : zz_D zy_advance_14_49 225 (.aload_n 0) 1 226 := ⟨zq_42 zg_14_49_194.2.2.2.2.2.2.2.2.2.2.2.1, rfl⟩
theorem zd_14_49_226 : zz_D zy_advance_14_49 226 (.dup) 1 227 := ⟨zq_89 zg_14_49_194.2.2.2.2.2.2.2.2.2.2.2.2.1, rfl⟩
theorem zd_14_49_227 : zz_D zy_advance_14_49 227 (.getfield 334) 3 230 := ⟨zq_180 zg_14_49_194.2.2.2.2.2.2.2.2.2.2.2.2.2.1 zg_14_49_194.2.2.2.2.2.2.2.2.2.2.2.2.2.2.1 zg_14_49_194.2.2.2.2.2.2.2.2.2.2.2.2.2.2.2.1 rfl, rfl⟩
theorem zd_14_49_230 : zz_D zy_advance_14_49 230 (.iconst 1) 1 231 := ⟨zq_4 zg_14_49_194.2.2.2.2.2.2.2.2.2.2.2.2.2.2.2.2.1, rfl⟩
theorem zd_14_49_231 : zz_D zy_advance_14_49 231 (.iadd) 1 232 := ⟨zq_96 zg_14_49_194.2.2.2.2.2.2.2.2.2.2.2.2.2.2.2.2.2.1, rfl⟩
theorem zd_14_49_232 : zz_D zy_advance_14_49 232 (.putfield 334) 3 235 := ⟨zq_181 zg_14_49_194.2.2.2.2.2.2.2.2.2.2.2.2.2.2.2.2.2.2.1 zg_14_49_194.2.2.2.2.2.2.2.2.2.2.2.2.2.2.2.2.2.2.2.1 zg_14_49_194.2.2.2.2.2.2.2.2.2.2.2.2.2.2.2.2.2.2.2.2.1 rfl, rfl⟩
theorem zd_14_49_235 : zz_B zy_advance_14_49 235 Instr.goto 160 238 := ⟨(-75), zq_167 zg_14_49_194.2.2.2.2.2.2.2.2.2.2.2.2.2.2.2.2.2.2.2.2.2.1 zg_14_49_194.2.2.2.2.2.2.2.2.2.2.2.2.2.2.2.2.2.2.2.2.2.2.1 zg_14_49_194.2.2.2.2.2.2.2.2.2.2.2.2.2.2.2.2.2.2.2.2.2.2.2 (by decide), rfl, rfl⟩
theorem zg_14_49_203 : zq_at zy_advance_14_49.2.1 203 16 ∧ zq_at zy_advance_14_49.2.1 204 10 ∧ zq_at zy_advance_14_49.2.1 205 29 ∧ zq_at zy_advance_14_49.2.1 206 104 ∧ zq_at zy_advance_14_49.2.1 207 42 ∧ zq_at zy_advance_14_49.2.1 208 180 ∧ zq_at zy_advance_14_49.2.1 209 0 ∧ zq_at zy_advance_14_49.2.1 210 76 ∧ zq_at zy_advance_14_49.2.1 211 42 ∧ zq_at zy_advance_14_49.2.1 212 180 ∧ zq_at zy_advance_14_49.2.1 213 1 ∧ zq_at zy_advance_14_49.2.1 214 78 ∧ zq_at zy_advance_14_49.2.1 215 46 ∧ zq_at zy_advance_14_49.2.1 216 96 ∧ zq_at zy_advance_14_49.2.1 217 16 ∧ zq_at zy_advance_14_49.2.1 218 48 ∧ zq_at zy_advance_14_49.2.1 219 100 ∧ zq_at zy_advance_14_49.2.1 220 167 ∧ zq_at zy_advance_14_49.2.1 221 0 ∧ zq_at zy_advance_14_49.2.1 222 4 ∧ zq_at zy_advance_14_49.2.1 82 42 ∧ zq_at zy_advance_14_49.2.1 83 180 ∧ zq_at zy_advance_14_49.2.1 84 1 ∧ zq_at zy_advance_14_49.2.1 85 78 := by decide +kernel
theorem zd_14_49_203 : zz_D zy_advance_14_49 203 (.bipush 10) 2 205 := ⟨zq_16 zg_14_49_203.1 zg_14_49_203.2.1 (by decide), rfl⟩
theorem zd_14_49_205 : zz_D zy_advance_14_49 205 (.iload_n 3) 1 206 := ⟨zq_29 zg_14_49_203.2.2.1, rfl⟩
theorem zd_14_49_206 : zz_D zy_advance_14_49 206 (.imul) 1 207 := ⟨zq_104 zg_14_49_203.2.2.2.1, rfl⟩
theorem zd_14_49_207 : zz_D zy_advance_14_49 207 (.aload_n 0) 1 208 := ⟨zq_42 zg_14_49_203.2.2.2.2.1, rfl⟩
theorem zd_14_49_208 : zz_D zy_advance_14_49 208 (.getfield 76) 3 211 := ⟨zq_180 zg_14_49_203.2.2.2.2.2.1 zg_14_49_203.2.2.2.2.2.2.1 zg_14_49_203.2.2.2.2.2.2.2.1 rfl, rfl⟩
theorem zd_14_49_211 : zz_D zy_advance_14_49 211 (.aload_n 0) 1 212 := ⟨zq_42 zg_14_49_203.2.2.2.2.2.2.2.2.1, rfl⟩
theorem zd_14_49_212 : zz_D zy_advance_14_49 212 (.getfield 334) 3 215 := ⟨zq_180 zg_14_49_203.2.2.2.2.2.2.2.2.2.1 zg_14_49_203.2.2.2.2.2.2.2.2.2.2.1 zg_14_49_203.2.2.2.2.2.2.2.2.2.2.2.1 rfl, rfl⟩
theorem zd_14_49_215 : zz_D zy_advance_14_49 215 (.iaload) 1 216 := ⟨zq_46 zg_14_49_203.2.2.2.2.2.2.2.2.2.2.2.2.1, rfl⟩
theorem zd_14_49_216 : zz_D zy_advance_14_49 216 (.iadd) 1 217 := ⟨zq_96 zg_14_49_203.2.2.2.2.2.2.2.2.2.2.2.2.2.1, rfl⟩
theorem zd_14_49_217 : zz_D zy_advance_14_49 217 (.bipush 48) 2 219 := ⟨zq_16 zg_14_49_203.2.2.2.2.2.2.2.2.2.2.2.2.2.2.1 zg_14_49_203.2.2.2.2.2.2.2.2.2.2.2.2.2.2.2.1 (by decide), rfl⟩
theorem zd_14_49_219 : zz_D zy_advance_14_49 219 (.isub) 1 220 := ⟨zq_100 zg_14_49_203.2.2.2.2.2.2.2.2.2.2.2.2.2.2.2.2.1, rfl⟩
theorem zd_14_49_220 : zz_B zy_advance_14_49 220 Instr.goto 224 223 := ⟨4, zq_167 zg_14_49_203.2.2.2.2.2.2.2.2.2.2.2.2.2.2.2.2.2.1 zg_14_49_203.2.2.2.2.2.2.2.2.2.2.2.2.2.2.2.2.2.2.1 zg_14_49_203.2.2.2.2.2.2.2.2.2.2.2.2.2.2.2.2.2.2.2.1 (by decide), rfl, rfl⟩
theorem zd_14_49_82 : zz_D zy_advance_14_49 82 (.aload_n 0) 1 83 := ⟨zq_42 zg_14_49_203.2.2.2.2.2.2.2.2.2.2.2.2.2.2.2.2.2.2.2.2.1, rfl⟩
theorem zd_14_49_83 : zz_D zy_advance_14_49 83 (.getfield 334) 3 86 := ⟨zq_180 zg_14_49_203.2.2.2.2.2.2.2.2.2.2.2.2.2.2.2.2.2.2.2.2.2.1 zg_14_49_203.2.2.2.2.2.2.2.2.2.2.2.2.2.2.2.2.2.2.2.2.2.2.1 zg_14_49_203.2.2.2.2.2.2.2.2.2.2.2.2.2.2.2.2.2.2.2.2.2.2.2 rfl, rfl⟩
theorem zg_14_49_86 : zq_at zy_advance_14_49.2.1 86 42 ∧ zq_at zy_advance_14_49.2.1 87 180 ∧ zq_at zy_advance_14_49.2.1 88 1 ∧ zq_at zy_advance_14_49.2.1 89 81 ∧ zq_at zy_advance_14_49.2.1 90 162 ∧ zq_at zy_advance_14_49.2.1 91 0 ∧ zq_at zy_advance_14_49.2.1 92 38 ∧ zq_at zy_advance_14_49.2.1 128 42 ∧ zq_at zy_advance_14_49.2.1 129 42 ∧ zq_at zy_advance_14_49.2.1 130 27 ∧ zq_at zy_advance_14_49.2.1 131 42 ∧ zq_at zy_advance_14_49.2.1 132 180 ∧ zq_at zy_advance_14_49.2.1 133 1 ∧ zq_at zy_advance_14_49.2.1 134 78 ∧ zq_at zy_advance_14_49.2.1 135 182 ∧ zq_at zy_advance_14_49.2.1 136 1 ∧ zq_at zy_advance_14_49.2.1 137 88 := by decide +kernel
theorem zd_14_49_86 : zz_D zy_advance_14_49 86 (.aload_n 0) 1 87 := ⟨zq_42 zg_14_49_86.1, rfl⟩
theorem zd_14_49_87 : zz_D zy_advance_14_49 87 (.getfield 337) 3 90 := ⟨zq_180 zg_14_49_86.2.1 zg_14_49_86.2.2.1 zg_14_49_86.2.2.2.1 rfl, rfl⟩
theorem zd_14_49_90 : zz_B zy_advance_14_49 90 (Instr.if_icmp .ge) 128 93 := ⟨38, zq_162 zg_14_49_86.2.2.2.2.1 zg_14_49_86.2.2.2.2.2.1 zg_14_49_86.2.2.2.2.2.2.1 (by decide), rfl, rfl⟩
theorem zd_14_49_128 : zz_D zy_advance_14_49 128 (.aload_n 0) 1 129 := ⟨zq_42 zg_14_49_86.2.2.2.2.2.2.2.1, rfl⟩
theorem zd_14_49_129 : zz_D zy_advance_14_49 129 (.aload_n 0) 1 130 := ⟨zq_42 zg_14_49_86.2.2.2.2.2.2.2.2.1, rfl⟩
theorem zd_14_49_130 : zz_D zy_advance_14_49 130 (.iload_n 1) 1 131 := ⟨zq_27 zg_14_49_86.2.2.2.2.2.2.2.2.2.1, rfl⟩
theorem zd_14_49_131 : zz_D zy_advance_14_49 131 (.aload_n 0) 1 132 := ⟨zq_42 zg_14_49_86.2.2.2.2.2.2.2.2.2.2.1, rfl⟩
theorem zd_14_49_132 : zz_D zy_advance_14_49 132 (.getfield 334) 3 135 := ⟨zq_180 zg_14_49_86.2.2.2.2.2.2.2.2.2.2.2.1 zg_14_49_86.2.2.2.2.2.2.2.2.2.2.2.2.1 zg_14_49_86.2.2.2.2.2.2.2.2.2.2.2.2.2.1 rfl, rfl⟩
theorem zd_14_49_135 : zz_D zy_advance_14_49 135 (.invokevirtual 344) 3 138 := ⟨zq_182 zg_14_49_86.2.2.2.2.2.2.2.2.2.2.2.2.2.2.1 zg_14_49_86.2.2.2.2.2.2.2.2.2.2.2.2.2.2.2.1 zg_14_49_86.2.2.2.2.2.2.2.2.2.2.2.2.2.2.2.2 rfl, rfl⟩
theorem zg_14_50_0 : zq_at zy_wordAt_14_50.2.1 0 16 ∧ zq_at zy_wordAt_14_50.2.1 1 101 ∧ zq_at zy_wordAt_14_50.2.1 2 62 ∧ zq_at zy_wordAt_14_50.2.1 3 4 ∧ zq_at zy_wordAt_14_50.2.1 4 54 ∧ zq_at zy_wordAt_14_50.2.1 5 4 ∧ zq_at zy_wordAt_14_50.2.1 6 21 ∧ zq_at zy_wordAt_14_50.2.1 7 4 ∧ zq_at zy_wordAt_14_50.2.1 8 16 ∧ zq_at zy_wordAt_14_50.2.1 9 21 ∧ zq_at zy_wordAt_14_50.2.1 10 162 ∧ zq_at zy_wordAt_14_50.2.1 11 0 ∧ zq_at zy_wordAt_14_50.2.1 12 86 ∧ zq_at zy_wordAt_14_50.2.1 96 29 ∧ zq_at zy_wordAt_14_50.2.1 97 172 ∧ zq_at zy_wordAt_14_50.2.1 13 27 ∧ zq_at zy_wordAt_14_50.2.1 14 54 ∧ zq_at zy_wordAt_14_50.2.1 15 5 ∧ zq_at zy_wordAt_14_50.2.1 16 42 ∧ zq_at zy_wordAt_14_50.2.1 17 180 ∧ zq_at zy_wordAt_14_50.2.1 18 0 ∧ zq_at zy_wordAt_14_50.2.1 19 79 ∧ zq_at zy_wordAt_14_50.2.1 20 21 ∧ zq_at zy_wordAt_14_50.2.1 21 4 := by decide +kernel
theorem zd_14_50_0 : zz_D zy_wordAt_14_50 0 (.bipush 101) 2 2 := ⟨zq_16 zg_14_50_0.1 zg_14_50_0.2.1 (by decide), rfl⟩
theorem zd_14_50_2 : zz_D zy_wordAt_14_50 2 (.istore_n 3) 1 3 := ⟨zq_62 zg_14_50_0.2.2.1, rfl⟩
theorem zd_14_50_3 : zz_D zy_wordAt_14_50 3 (.iconst 1) 1 4 := ⟨zq_4 zg_14_50_0.2.2.2.1, rfl⟩
theorem zd_14_50_4 : zz_D zy_wordAt_14_50 4 (.istore 4) 2 6 := ⟨zq_54 zg_14_50_0.2.2.2.2.1 zg_14_50_0.2.2.2.2.2.1, rfl⟩
theorem zd_14_50_6 : zz_D zy_wordAt_14_50 6 (.iload 4) 2 8 := ⟨zq_21 zg_14_50_0.2.2.2.2.2.2.1 zg_14_50_0.2.2.2.2.2.2.2.1, rfl⟩
theorem zd_14_50_8 : zz_D zy_wordAt_14_50 8 (.bipush 21) 2 10 := ⟨zq_16 zg_14_50_0.2.2.2.2.2.2.2.2.1 zg_14_50_0.2.2.2.2.2.2.2.2.2.1 (by decide), rfl⟩
theorem zd_14_50_10 : zz_B zy_wordAt_14_50 10 (Instr.if_icmp .ge) 96 13 := ⟨86, zq_162 zg_14_50_0.2.2.2.2.2.2.2.2.2.2.1 zg_14_50_0.2.2.2.2.2.2.2.2.2.2.2.1 zg_14_50_0.2.2.2.2.2.2.2.2.2.2.2.2.1 (by decide), rfl, rfl⟩
theorem zd_14_50_96 : zz_D zy_wordAt_14_50 96 (.iload_n 3) 1 97 := ⟨zq_29 zg_14_50_0.2.2.2.2.2.2.2.2.2.2.2.2.2.1, rfl⟩
theorem zd_14_50_97 : zz_D zy_wordAt_14_50 97 (.ireturn) 1 98 := ⟨zq_172 zg_14_50_0.2.2.2.2.2.2.2.2.2.2.2.2.2.2.1, rfl⟩
theorem zd_14_50_13 : zz_D zy_wordAt_14_50 13 (.iload_n 1) 1 14 := ⟨zq_27 zg_14_50_0.2.2.2.2.2.2.2.2.2.2.2.2.2.2.2.1, rfl⟩
theorem zd_14_50_14 : zz_D zy_wordAt_14_50 14 (.istore 5) 2 16 := ⟨zq_54 zg_14_50_0.2.2.2.2.2.2.2.2.2.2.2.2.2.2.2.2.1 zg_14_50_0.2.2.2.2.2.2.2.2.2.2.2.2.2.2.2.2.2.1, rfl⟩
theorem zd_14_50_16 : zz_D zy_wordAt_14_50 16 (.aload_n 0) 1 17 := ⟨zq_42 zg_14_50_0.2.2.2.2.2.2.2.2.2.2.2.2.2.2.2.2.2.2.1, rfl⟩
theorem zd_14_50_17 : zz_D zy_wordAt_14_50 17 (.getfield 79) 3 20 := ⟨zq_180 zg_14_50_0.2.2.2.2.2.2.2.2.2.2.2.2.2.2.2.2.2.2.2.1 zg_14_50_0.2.2.2.2.2.2.2.2.2.2.2.2.2.2.2.2.2.2.2.2.1 zg_14_50_0.2.2.2.2.2.2.2.2.2.2.2.2.2.2.2.2.2.2.2.2.2.1 rfl, rfl⟩
theorem zd_14_50_20 : zz_D zy_wordAt_14_50 20 (.iload 4) 2 22 := ⟨zq_21 zg_14_50_0.2.2.2.2.2.2.2.2.2.2.2.2.2.2.2.2.2.2.2.2.2.2.1 zg_14_50_0.2.2.2.2.2.2.2.2.2.2.2.2.2.2.2.2.2.2.2.2.2.2.2, rfl⟩
theorem zg_14_50_22 : zq_at zy_wordAt_14_50.2.1 22 47 ∧ zq_at zy_wordAt_14_50.2.1 23 55 ∧ zq_at zy_wordAt_14_50.2.1 24 6 ∧ zq_at zy_wordAt_14_50.2.1 25 21 ∧ zq_at zy_wordAt_14_50.2.1 26 5 ∧ zq_at zy_wordAt_14_50.2.1 27 28 ∧ zq_at zy_wordAt_14_50.2.1 28 162 ∧ zq_at zy_wordAt_14_50.2.1 29 0 ∧ zq_at zy_wordAt_14_50.2.1 30 42 ∧ zq_at zy_wordAt_14_50.2.1 70 21 ∧ zq_at zy_wordAt_14_50.2.1 71 5 ∧ zq_at zy_wordAt_14_50.2.1 72 28 ∧ zq_at zy_wordAt_14_50.2.1 73 160 ∧ zq_at zy_wordAt_14_50.2.1 74 0 ∧ zq_at zy_wordAt_14_50.2.1 75 15 ∧ zq_at zy_wordAt_14_50.2.1 88 29 ∧ zq_at zy_wordAt_14_50.2.1 89 62 ∧ zq_at zy_wordAt_14_50.2.1 90 132 ∧ zq_at zy_wordAt_14_50.2.1 91 4 ∧ zq_at zy_wordAt_14_50.2.1 92 1 ∧ zq_at zy_wordAt_14_50.2.1 93 167 ∧ zq_at zy_wordAt_14_50.2.1 94 255 ∧ zq_at zy_wordAt_14_50.2.1 95 169 := by decide +kernel
theorem zd_14_50_22 : zz_D zy_wordAt_14_50 22 (.laload) 1 23 := ⟨zq_47 zg_14_50_22.1, rfl⟩
theorem zd_14_50_23 : zz_D zy_wordAt_14_50 23 (.lstore 6) 2 25 := ⟨zq_55 zg_14_50_22.2.1 zg_14_50_22.2.2.1, rfl⟩
theorem zd_14_50_25 : zz_D zy_wordAt_14_50 25 (.iload 5) 2 27 := ⟨zq_21 zg_14_50_22.2.2.2.1 zg_14_50_22.2.2.2.2.1, rfl⟩
theorem zd_14_50_27 : zz_D zy_wordAt_14_50 27 (.iload_n 2) 1 28 := ⟨zq_28 zg_14_50_22.2.2.2.2.2.1, rfl⟩
theorem zd_14_50_28 : zz_B zy_wordAt_14_50 28 (Instr.if_icmp .ge) 70 31 := ⟨42, zq_162 zg_14_50_22.2.2.2.2.2.2.1 zg_14_50_22.2.2.2.2.2.2.2.1 zg_14_50_22.2.2.2.2.2.2.2.2.1 (by decide), rfl, rfl⟩
theorem zd_14_50_70 : zz_D zy_wordAt_14_50 70 (.iload 5) 2 72 := ⟨zq_21 zg_14_50_22.2.2.2.2.2.2.2.2.2.1 zg_14_50_22.2.2.2.2.2.2.2.2.2.2.1, rfl⟩
theorem zd_14_50_72 : zz_D zy_wordAt_14_50 72 (.iload_n 2) 1 73 := ⟨zq_28 zg_14_50_22.2.2.2.2.2.2.2.2.2.2.2.1, rfl⟩
theorem zd_14_50_73 : zz_B zy_wordAt_14_50 73 (Instr.if_icmp .ne) 88 76 := ⟨15, zq_160 zg_14_50_22.2.2.2.2.2.2.2.2.2.2.2.2.1 zg_14_50_22.2.2.2.2.2.2.2.2.2.2.2.2.2.1 zg_14_50_22.2.2.2.2.2.2.2.2.2.2.2.2.2.2.1 (by decide), rfl, rfl⟩
theorem zd_14_50_88 : zz_D zy_wordAt_14_50 88 (.iload_n 3) 1 89 := ⟨zq_29 zg_14_50_22.2.2.2.2.2.2.2.2.2.2.2.2.2.2.2.1, rfl⟩
theorem zd_14_50_89 : zz_D zy_wordAt_14_50 89 (.istore_n 3) 1 90 := ⟨zq_62 zg_14_50_22.2.2.2.2.2.2.2.2.2.2.2.2.2.2.2.2.1, rfl⟩
theorem zd_14_50_90 : zz_D zy_wordAt_14_50 90 (.iinc 4 1) 3 93 := ⟨zq_132 zg_14_50_22.2.2.2.2.2.2.2.2.2.2.2.2.2.2.2.2.2.1 zg_14_50_22.2.2.2.2.2.2.2.2.2.2.2.2.2.2.2.2.2.2.1 zg_14_50_22.2.2.2.2.2.2.2.2.2.2.2.2.2.2.2.2.2.2.2.1 (by decide), rfl⟩
theorem zd_14_50_93 : zz_B zy_wordAt_14_50 93 Instr.goto 6 96 := ⟨(-87), zq_167 zg_14_50_22.2.2.2.2.2.2.2.2.2.2.2.2.2.2.2.2.2.2.2.2.1 zg_14_50_22.2.2.2.2.2.2.2.2.2.2.2.2.2.2.2.2.2.2.2.2.2.1 zg_14_50_22.2.2.2.2.2.2.2.2.2.2.2.2.2.2.2.2.2.2.2.2.2.2 (by decide), rfl, rfl⟩
theorem zg_14_50_76 : zq_at zy_wordAt_14_50.2.1 76 22 ∧ zq_at zy_wordAt_14_50.2.1 77 6 ∧ zq_at zy_wordAt_14_50.2.1 78 9 ∧ zq_at zy_wordAt_14_50.2.1 79 148 ∧ zq_at zy_wordAt_14_50.2.1 80 154 ∧ zq_at zy_wordAt_14_50.2.1 81 0 ∧ zq_at zy_wordAt_14_50.2.1 82 8 ∧ zq_at zy_wordAt_14_50.2.1 83 21 ∧ zq_at zy_wordAt_14_50.2.1 84 4 ∧ zq_at zy_wordAt_14_50.2.1 85 167 ∧ zq_at zy_wordAt_14_50.2.1 86 0 ∧ zq_at zy_wordAt_14_50.2.1 87 4 ∧ zq_at zy_wordAt_14_50.2.1 31 22 ∧ zq_at zy_wordAt_14_50.2.1 32 6 ∧ zq_at zy_wordAt_14_50.2.1 33 9 ∧ zq_at zy_wordAt_14_50.2.1 34 148 ∧ zq_at zy_wordAt_14_50.2.1 35 158 ∧ zq_at zy_wordAt_14_50.2.1 36 0 ∧ zq_at zy_wordAt_14_50.2.1 37 35 ∧ zq_at zy_wordAt_14_50.2.1 38 42 ∧ zq_at zy_wordAt_14_50.2.1 39 180 ∧ zq_at zy_wordAt_14_50.2.1 40 0 ∧ zq_at zy_wordAt_14_50.2.1 41 76 := by decide +kernel
theorem zd_14_50_76 : zz_D zy_wordAt_14_50 76 (.lload 6) 2 78 := ⟨zq_22 zg_14_50_76.1 zg_14_50_76.2.1, rfl⟩
theorem zd_14_50_78 : zz_D zy_wordAt_14_50 78 (.lconst 0) 1 79 := ⟨zq_9 zg_14_50_76.2.2.1, rfl⟩
theorem zd_14_50_79 : zz_D zy_wordAt_14_50 79 (.lcmp) 1 80 := ⟨zq_148 zg_14_50_76.2.2.2.1, rfl⟩
theorem zd_14_50_80 : zz_B zy_wordAt_14_50 80 (Instr.ifCond .ne) 88 83 := ⟨8, zq_154 zg_14_50_76.2.2.2.2.1 zg_14_50_76.2.2.2.2.2.1 zg_14_50_76.2.2.2.2.2.2.1 (by decide), rfl, rfl⟩
theorem zd_14_50_83 : zz_D zy_wordAt_14_50 83 (.iload 4) 2 85 := ⟨zq_21 zg_14_50_76.2.2.2.2.2.2.2.1 zg_14_50_76.2.2.2.2.2.2.2.2.1, rfl⟩
theorem zd_14_50_85 : zz_B zy_wordAt_14_50 85 Instr.goto 89 88 := ⟨4, zq_167 zg_14_50_76.2.2.2.2.2.2.2.2.2.1 zg_14_50_76.2.2.2.2.2.2.2.2.2.2.1 zg_14_50_76.2.2.2.2.2.2.2.2.2.2.2.1 (by decide), rfl, rfl⟩
theorem zd_14_50_31 : zz_D zy_wordAt_14_50 31 (.lload 6) 2 33 := ⟨zq_22 zg_14_50_76.2.2.2.2.2.2.2.2.2.2.2.2.1 zg_14_50_76.2.2.2.2.2.2.2.2.2.2.2.2.2.1, rfl⟩
theorem zd_14_50_33 : zz_D zy_wordAt_14_50 33 (.lconst 0) 1 34 := ⟨zq_9 zg_14_50_76.2.2.2.2.2.2.2.2.2.2.2.2.2.2.1, rfl⟩
theorem zd_14_50_34 : zz_D zy_wordAt_14_50 34 (.lcmp) 1 35 := ⟨zq_148 zg_14_50_76.2.2.2.2.2.2.2.2.2.2.2.2.2.2.2.1, rfl⟩
theorem zd_14_50_35 : zz_B zy_wordAt_14_50 35 (Instr.ifCond .le) 70 38 := ⟨35, zq_158 zg_14_50_76.2.2.2.2.2.2.2.2.2.2.2.2.2.2.2.2.1 zg_14_50_76.2.2.2.2.2.2.2.2.2.2.2.2.2.2.2.2.2.1 zg_14_50_76.2.2.2.2.2.2.2.2.2.2.2.2.2.2.2.2.2.2.1 (by decide), rfl, rfl⟩
theorem zd_14_50_38 : zz_D zy_wordAt_14_50 38 (.aload_n 0) 1 39 := ⟨zq_42 zg_14_50_76.2.2.2.2.2.2.2.2.2.2.2.2.2.2.2.2.2.2.2.1, rfl⟩
theorem zd_14_50_39 : zz_D zy_wordAt_14_50 39 (.getfield 76) 3 42 := ⟨zq_180 zg_14_50_76.2.2.2.2.2.2.2.2.2.2.2.2.2.2.2.2.2.2.2.2.1 zg_14_50_76.2.2.2.2.2.2.2.2.2.2.2.2.2.2.2.2.2.2.2.2.2.1 zg_14_50_76.2.2.2.2.2.2.2.2.2.2.2.2.2.2.2.2.2.2.2.2.2.2 rfl, rfl⟩
theorem zg_14_50_42 : zq_at zy_wordAt_14_50.2.1 42 21 ∧ zq_at zy_wordAt_14_50.2.1 43 5 ∧ zq_at zy_wordAt_14_50.2.1 44 46 ∧ zq_at zy_wordAt_14_50.2.1 45 16 ∧ zq_at zy_wordAt_14_50.2.1 46 96 ∧ zq_at zy_wordAt_14_50.2.1 47 22 ∧ zq_at zy_wordAt_14_50.2.1 48 6 ∧ zq_at zy_wordAt_14_50.2.1 49 20 ∧ zq_at zy_wordAt_14_50.2.1 50 1 ∧ zq_at zy_wordAt_14_50.2.1 51 101 ∧ zq_at zy_wordAt_14_50.2.1 52 127 ∧ zq_at zy_wordAt_14_50.2.1 53 136 ∧ zq_at zy_wordAt_14_50.2.1 54 96 ∧ zq_at zy_wordAt_14_50.2.1 55 160 ∧ zq_at zy_wordAt_14_50.2.1 56 0 ∧ zq_at zy_wordAt_14_50.2.1 57 15 ∧ zq_at zy_wordAt_14_50.2.1 58 132 ∧ zq_at zy_wordAt_14_50.2.1 59 5 ∧ zq_at zy_wordAt_14_50.2.1 60 1 ∧ zq_at zy_wordAt_14_50.2.1 61 22 ∧ zq_at zy_wordAt_14_50.2.1 62 6 ∧ zq_at zy_wordAt_14_50.2.1 63 8 ∧ zq_at zy_wordAt_14_50.2.1 64 123 := by decide +kernel
theorem zd_14_50_42 : zz_D zy_wordAt_14_50 42 (.iload 5) 2 44 := ⟨zq_21 zg_14_50_42.1 zg_14_50_42.2.1, rfl⟩
theorem zd_14_50_44 : zz_D zy_wordAt_14_50 44 (.iaload) 1 45 := ⟨zq_46 zg_14_50_42.2.2.1, rfl⟩
theorem zd_14_50_45 : zz_D zy_wordAt_14_50 45 (.bipush 96) 2 47 := ⟨zq_16 zg_14_50_42.2.2.2.1 zg_14_50_42.2.2.2.2.1 (by decide), rfl⟩
theorem zd_14_50_47 : zz_D zy_wordAt_14_50 47 (.lload 6) 2 49 := ⟨zq_22 zg_14_50_42.2.2.2.2.2.1 zg_14_50_42.2.2.2.2.2.2.1, rfl⟩
theorem zd_14_50_49 : zz_D zy_wordAt_14_50 49 (.ldc2_w 357) 3 52 := ⟨zq_20 zg_14_50_42.2.2.2.2.2.2.2.1 zg_14_50_42.2.2.2.2.2.2.2.2.1 zg_14_50_42.2.2.2.2.2.2.2.2.2.1 rfl, rfl⟩
theorem zd_14_50_52 : zz_D zy_wordAt_14_50 52 (.land) 1 53 := ⟨zq_127 zg_14_50_42.2.2.2.2.2.2.2.2.2.2.1, rfl⟩
theorem zd_14_50_53 : zz_D zy_wordAt_14_50 53 (.l2i) 1 54 := ⟨zq_136 zg_14_50_42.2.2.2.2.2.2.2.2.2.2.2.1, rfl⟩
theorem zd_14_50_54 : zz_D zy_wordAt_14_50 54 (.iadd) 1 55 := ⟨zq_96 zg_14_50_42.2.2.2.2.2.2.2.2.2.2.2.2.1, rfl⟩
theorem zd_14_50_55 : zz_B zy_wordAt_14_50 55 (Instr.if_icmp .ne) 70 58 := ⟨15, zq_160 zg_14_50_42.2.2.2.2.2.2.2.2.2.2.2.2.2.1 zg_14_50_42.2.2.2.2.2.2.2.2.2.2.2.2.2.2.1 zg_14_50_42.2.2.2.2.2.2.2.2.2.2.2.2.2.2.2.1 (by decide), rfl, rfl⟩
theorem zd_14_50_58 : zz_D zy_wordAt_14_50 58 (.iinc 5 1) 3 61 := ⟨zq_132 zg_14_50_42.2.2.2.2.2.2.2.2.2.2.2.2.2.2.2.2.1 zg_14_50_42.2.2.2.2.2.2.2.2.2.2.2.2.2.2.2.2.2.1 zg_14_50_42.2.2.2.2.2.2.2.2.2.2.2.2.2.2.2.2.2.2.1 (by decide), rfl⟩
theorem zd_14_50_61 : zz_D zy_wordAt_14_50 61 (.lload 6) 2 63 := ⟨zq_22 zg_14_50_42.2.2.2.2.2.2.2.2.2.2.2.2.2.2.2.2.2.2.2.1 zg_14_50_42.2.2.2.2.2.2.2.2.2.2.2.2.2.2.2.2.2.2.2.2.1, rfl⟩
theorem zd_14_50_63 : zz_D zy_wordAt_14_50 63 (.iconst 5) 1 64 := ⟨zq_8 zg_14_50_42.2.2.2.2.2.2.2.2.2.2.2.2.2.2.2.2.2.2.2.2.2.1, rfl⟩
theorem zd_14_50_64 : zz_D zy_wordAt_14_50 64 (.lshr) 1 65 := ⟨zq_123 zg_14_50_42.2.2.2.2.2.2.2.2.2.2.2.2.2.2.2.2.2.2.2.2.2.2, rfl⟩
theorem zg_14_50_65 : zq_at zy_wordAt_14_50.2.1 65 55 ∧ zq_at zy_wordAt_14_50.2.1 66 6 ∧ zq_at zy_wordAt_14_50.2.1 67 167 ∧ zq_at zy_wordAt_14_50.2.1 68 255 ∧ zq_at zy_wordAt_14_50.2.1 69 214 := by decide +kernel
theorem zd_14_50_65 : zz_D zy_wordAt_14_50 65 (.lstore 6) 2 67 := ⟨zq_55 zg_14_50_65.1 zg_14_50_65.2.1, rfl⟩
theorem zd_14_50_67 : zz_B zy_wordAt_14_50 67 Instr.goto 25 70 := ⟨(-42), zq_167 zg_14_50_65.2.2.1 zg_14_50_65.2.2.2.1 zg_14_50_65.2.2.2.2 (by decide), rfl, rfl⟩
-- TensorForgeModel wordAt (II)I
abbrev zr_wordAt_14_50 : Room := { frames := 0, cells := 0, slots := 0, locals := 0 }
def zp_wordAt_14_50 (p0 : Int) (p1 : Int) (S0 : zz_S) : Int → zz_S → Prop := fun r S => S0 = S ∧ (1 ≤ r ∧ r ≤ 101) ∧ (r = 101 ∨ r ≤ 20) ∧ (r = zt_wl (S0 1099) p0 p1 20)
theorem zb_wordAt_14_50_6 {g : mm_G} {l : Launch} (p0 : Int) (p1 : Int) (S0 : zz_S) (n : Nat) (hn : zz_end ≤ n) (G_S0 : zz_G S0) (hp0 : 0 ≤ p0 ∧ p0 ≤ 1500) (hp1 : 0 ≤ p1 ∧ p1 ≤ 1500) (hN : ∀ w : Nat, 1 ≤ w → w ≤ 20 → S0 1100 w = zt_cd (zt_nw.getD w [])) (x3 : Int) (x4 : Int) (S : zz_S) (G_S : zz_G S) (F_S : zz_fr [] [] (fun _ _ => False) S0 S) (i6_0 : 1 ≤ x3 ∧ x3 ≤ 101) (i6_1 : 1 ≤ x4 ∧ x4 ≤ 21) (i6_2 : x3 = 101 ∨ x3 ≤ 20) (i6_3 : x3 = zt_wl (S0 1099) p0 p1 (x4 - 1).toNat) (R : Nat) (hR : (34359738368 + (21 - x4).toNat) * 1099511627776 + 1099511627775 = R) (k25 : ∀ (x3 : Int) (x4 : Int) (x5 : Int) (x6 : Int) (S : zz_S), zz_G S → zz_fr [] [] (fun _ _ => False) S0 S → (1 ≤ x3 ∧ x3 ≤ 101) → (1 ≤ x4 ∧ x4 ≤ 20) → (0 ≤ x5 ∧ x5 ≤ 1500) → (0 ≤ x6 ∧ x6 ≤ 1099511627775) → (1 ≤ x4 ∧ x4 ≤ 21) → (x3 = 101 ∨ x3 ≤ 20) → (x4 < 21) → (x3 = 101 ∨ x3 ≤ 20) → (x3 = zt_wl (S0 1099) p0 p1 (x4 - 1).toNat) → (zt_wv (S0 1099) p0 (zt_nw.getD x4.toNat []) x5 x6) → (34359738368 + (21 - x4).toNat) * 1099511627776 + (17179869184 + (p1 - x5).toNat) < R → zz_E g l zy_wordAt_14_50 zr_wordAt_14_50 (zz_QI n (zp_wordAt_14_50 p0 p1 S0)) S n 25 [some (.ref 1079), some (zi p0), some (zi p1), some (zi x3), some (zi x4), some (zi x5), some (zl x6)] [] 0 0) : zz_E g l zy_wordAt_14_50 zr_wordAt_14_50 (zz_QI n (zp_wordAt_14_50 p0 p1 S0)) S n 6 [some (.ref 1079), some (zi p0), some (zi p1), some (zi x3), some (zi x4)] [] 0 0 := by
  refine zz_iload (x := x4) rfl zd_14_50_6 ?_
  refine zz_bipush (by decide) zd_14_50_8 ?_
  refine zz_icmp_ge (by omega) (by omega) zd_14_50_10 (fun c1 => ?_) (fun c1 => ?_)
  · refine zz_iload_n (x := x3) rfl zd_14_50_96 ?_
    exact zz_iret zd_14_50_97 rfl (Nat.zero_le _) (Nat.zero_le _) ⟨_, _, rfl, zz_fr.eq F_S, by omega, by omega, by have e9 : (x4 - 1).toNat = 20 := (by omega); rw [e9] at i6_3; exact i6_3⟩
  · refine zz_iload_n (x := p0) rfl zd_14_50_13 ?_
    refine zz_istore [some (.ref 1079), some (zi p0), some (zi p1), some (zi x3), some (zi x4), some (zi p0)] zd_14_50_14 (by decide) rfl ?_
    refine zz_aload_n (x := 1079) rfl zd_14_50_16 ?_
    refine zz_getr (kd := 0) (z := 1100) zd_14_50_17 zf_Md_79 zT_1079 rfl (zz_ltn hn rfl) (zz_G.eq G_S 1079 29 1100 rfl rfl) (by decide) 1100 rfl ?_
    refine zz_iload (x := x4) rfl zd_14_50_20 ?_
    have g2 := zz_G.r G_S0 1100 x4.toNat 0 1099511627775 rfl rfl
    refine zz_lald (z := S0 1100 x4.toNat) zd_14_50_22 zT_1100 rfl (zz_ltn hn rfl) (by decide) (by omega) (zz_rc F_S (zz_nc1 rfl) rfl (fun h => h) rfl) ?_
    refine zz_lstore [some (.ref 1079), some (zi p0), some (zi p1), some (zi x3), some (zi x4), some (zi p0), some (zl (S0 1100 x4.toNat)), none] zd_14_50_23 (by decide) rfl ?_
    refine zz_less (ls1 := [some (.ref 1079), some (zi p0), some (zi p1), some (zi x3), some (zi x4), some (zi p0), some (zl (S0 1100 x4.toNat))]) ⟨rfl, ⟨rfl, ⟨rfl, ⟨rfl, ⟨rfl, ⟨rfl, ⟨rfl, trivial⟩⟩⟩⟩⟩⟩⟩ ?_
    exact k25 x3 x4 p0 (S0 1100 x4.toNat) S G_S F_S (by omega) (by omega) (by omega) (by omega) (by omega) (by omega) (by omega) (by omega) i6_3 (zt_wv0 (hN x4.toNat (by omega) (by omega))) (by omega)
theorem zb_wordAt_14_50_25 {g : mm_G} {l : Launch} (p0 : Int) (p1 : Int) (S0 : zz_S) (n : Nat) (hn : zz_end ≤ n) (G_S0 : zz_G S0) (hp0 : 0 ≤ p0 ∧ p0 ≤ 1500) (hp1 : 0 ≤ p1 ∧ p1 ≤ 1500) (hN : ∀ w : Nat, 1 ≤ w → w ≤ 20 → S0 1100 w = zt_cd (zt_nw.getD w [])) (x3 : Int) (x4 : Int) (x5 : Int) (x6 : Int) (S : zz_S) (G_S : zz_G S) (F_S : zz_fr [] [] (fun _ _ => False) S0 S) (i25_0 : 1 ≤ x3 ∧ x3 ≤ 101) (i25_1 : 1 ≤ x4 ∧ x4 ≤ 20) (i25_2 : 0 ≤ x5 ∧ x5 ≤ 1500) (i25_3 : 0 ≤ x6 ∧ x6 ≤ 1099511627775) (i25_4 : 1 ≤ x4 ∧ x4 ≤ 21) (i25_5 : x3 = 101 ∨ x3 ≤ 20) (i25_6 : x4 < 21) (i25_7 : x3 = 101 ∨ x3 ≤ 20) (i25_8 : x3 = zt_wl (S0 1099) p0 p1 (x4 - 1).toNat) (i25_9 : zt_wv (S0 1099) p0 (zt_nw.getD x4.toNat []) x5 x6) (R : Nat) (hR : (34359738368 + (21 - x4).toNat) * 1099511627776 + (17179869184 + (p1 - x5).toNat) = R) (k6 : ∀ (x3 : Int) (x4 : Int) (S : zz_S), zz_G S → zz_fr [] [] (fun _ _ => False) S0 S → (1 ≤ x3 ∧ x3 ≤ 101) → (1 ≤ x4 ∧ x4 ≤ 21) → (x3 = 101 ∨ x3 ≤ 20) → (x3 = zt_wl (S0 1099) p0 p1 (x4 - 1).toNat) → (34359738368 + (21 - x4).toNat) * 1099511627776 + 1099511627775 < R → zz_E g l zy_wordAt_14_50 zr_wordAt_14_50 (zz_QI n (zp_wordAt_14_50 p0 p1 S0)) S n 6 [some (.ref 1079), some (zi p0), some (zi p1), some (zi x3), some (zi x4)] [] 0 0) (k25 : ∀ (x3 : Int) (x4 : Int) (x5 : Int) (x6 : Int) (S : zz_S), zz_G S → zz_fr [] [] (fun _ _ => False) S0 S → (1 ≤ x3 ∧ x3 ≤ 101) → (1 ≤ x4 ∧ x4 ≤ 20) → (0 ≤ x5 ∧ x5 ≤ 1500) → (0 ≤ x6 ∧ x6 ≤ 1099511627775) → (1 ≤ x4 ∧ x4 ≤ 21) → (x3 = 101 ∨ x3 ≤ 20) → (x4 < 21) → (x3 = 101 ∨ x3 ≤ 20) → (x3 = zt_wl (S0 1099) p0 p1 (x4 - 1).toNat) → (zt_wv (S0 1099) p0 (zt_nw.getD x4.toNat []) x5 x6) → (34359738368 + (21 - x4).toNat) * 1099511627776 + (17179869184 + (p1 - x5).toNat) < R → zz_E g l zy_wordAt_14_50 zr_wordAt_14_50 (zz_QI n (zp_wordAt_14_50 p0 p1 S0)) S n 25 [some (.ref 1079), some (zi p0), some (zi p1), some (zi x3), some (zi x4), some (zi x5), some (zl x6)] [] 0 0) : zz_E g l zy_wordAt_14_50 zr_wordAt_14_50 (zz_QI n (zp_wordAt_14_50 p0 p1 S0)) S n 25 [some (.ref 1079), some (zi p0), some (zi p1), some (zi x3), some (zi x4), some (zi x5), some (zl x6)] [] 0 0 := by
  refine zz_iload (x := x5) rfl zd_14_50_25 ?_
  refine zz_iload_n (x := p1) rfl zd_14_50_27 ?_
  refine zz_icmp_ge (by omega) (by omega) zd_14_50_28 (fun c3 => ?_) (fun c3 => ?_)
  · refine zz_iload (x := x5) rfl zd_14_50_70 ?_
    refine zz_iload_n (x := p1) rfl zd_14_50_72 ?_
    refine zz_icmp_ne (by omega) (by omega) zd_14_50_73 (fun c4 => ?_) (fun c4 => ?_)
    · refine zz_iload_n (x := x3) rfl zd_14_50_88 ?_
      refine zz_istore_n [some (.ref 1079), some (zi p0), some (zi p1), some (zi x3), some (zi x4), some (zi x5), some (zl x6)] zd_14_50_89 (by decide) rfl ?_
      refine zz_iinc [some (.ref 1079), some (zi p0), some (zi p1), some (zi x3), some (zi (x4 + 1)), some (zi x5), some (zl x6)] zd_14_50_90 rfl rfl ?_
      refine zz_goto zd_14_50_93 ?_
      refine zz_less (ls1 := [some (.ref 1079), some (zi p0), some (zi p1), some (zi x3), some (zi (x4 + 1))]) ⟨rfl, ⟨rfl, ⟨rfl, ⟨rfl, ⟨rfl, trivial⟩⟩⟩⟩⟩ ?_
      exact k6 x3 (x4 + 1) S G_S F_S (by omega) (by omega) (by omega) (by have e9 : (x4 + 1 - 1).toNat = (x4.toNat - 1) + 1 := (by omega); have e8 : (x4 - 1).toNat = x4.toNat - 1 := (by omega); have e7 : x4.toNat - 1 + 1 = x4.toNat := (by omega); rw [e9, zt_wl0 (by rw [e7]; exact zt_wvN (zt_nwl x4.toNat (by omega)) i25_9 (by omega) (by omega)), ← e8]; exact i25_8) (by omega)
    · refine zz_lload (x := x6) rfl zd_14_50_76 ?_
      refine zz_lconst (z := 0) (by decide) zd_14_50_78 ?_
      refine zz_lcmp (by omega) (by omega) zd_14_50_79 (fun v5 hv5 => ?_)
      refine zz_if_ne (by omega) zd_14_50_80 (fun c6 => ?_) (fun c6 => ?_)
      · refine zz_iload_n (x := x3) rfl zd_14_50_88 ?_
        refine zz_istore_n [some (.ref 1079), some (zi p0), some (zi p1), some (zi x3), some (zi x4), some (zi x5), some (zl x6)] zd_14_50_89 (by decide) rfl ?_
        refine zz_iinc [some (.ref 1079), some (zi p0), some (zi p1), some (zi x3), some (zi (x4 + 1)), some (zi x5), some (zl x6)] zd_14_50_90 rfl rfl ?_
        refine zz_goto zd_14_50_93 ?_
        refine zz_less (ls1 := [some (.ref 1079), some (zi p0), some (zi p1), some (zi x3), some (zi (x4 + 1))]) ⟨rfl, ⟨rfl, ⟨rfl, ⟨rfl, ⟨rfl, trivial⟩⟩⟩⟩⟩ ?_
        exact k6 x3 (x4 + 1) S G_S F_S (by omega) (by omega) (by omega) (by have e9 : (x4 + 1 - 1).toNat = (x4.toNat - 1) + 1 := (by omega); have e8 : (x4 - 1).toNat = x4.toNat - 1 := (by omega); have e7 : x4.toNat - 1 + 1 = x4.toNat := (by omega); rw [e9, zt_wl0 (by rw [e7]; exact zt_wvN (zt_nwl x4.toNat (by omega)) i25_9 (by omega) (by omega)), ← e8]; exact i25_8) (by omega)
      · refine zz_iload (x := x4) rfl zd_14_50_83 ?_
        refine zz_goto zd_14_50_85 ?_
        refine zz_istore_n [some (.ref 1079), some (zi p0), some (zi p1), some (zi x4), some (zi x4), some (zi x5), some (zl x6)] zd_14_50_89 (by decide) rfl ?_
        refine zz_iinc [some (.ref 1079), some (zi p0), some (zi p1), some (zi x4), some (zi (x4 + 1)), some (zi x5), some (zl x6)] zd_14_50_90 rfl rfl ?_
        refine zz_goto zd_14_50_93 ?_
        refine zz_less (ls1 := [some (.ref 1079), some (zi p0), some (zi p1), some (zi x4), some (zi (x4 + 1))]) ⟨rfl, ⟨rfl, ⟨rfl, ⟨rfl, ⟨rfl, trivial⟩⟩⟩⟩⟩ ?_
        exact k6 x4 (x4 + 1) S G_S F_S (by omega) (by omega) (by omega) (by have e9 : (x4 + 1 - 1).toNat = (x4.toNat - 1) + 1 := (by omega); have e8 : (x4 - 1).toNat = x4.toNat - 1 := (by omega); have e7 : x4.toNat - 1 + 1 = x4.toNat := (by omega); rw [e9, zt_wl1 (by rw [e7]; exact zt_wvY (zt_nwl x4.toNat (by omega)) i25_9 (by omega) (by omega))]; omega) (by omega)
  · refine zz_lload (x := x6) rfl zd_14_50_31 ?_
    refine zz_lconst (z := 0) (by decide) zd_14_50_33 ?_
    refine zz_lcmp (by omega) (by omega) zd_14_50_34 (fun v7 hv7 => ?_)
    refine zz_if_le (by omega) zd_14_50_35 (fun c8 => ?_) (fun c8 => ?_)
    · refine zz_iload (x := x5) rfl zd_14_50_70 ?_
      refine zz_iload_n (x := p1) rfl zd_14_50_72 ?_
      refine zz_icmp_ne (by omega) (by omega) zd_14_50_73 (fun c9 => ?_) (fun c9 => ?_)
      · refine zz_iload_n (x := x3) rfl zd_14_50_88 ?_
        refine zz_istore_n [some (.ref 1079), some (zi p0), some (zi p1), some (zi x3), some (zi x4), some (zi x5), some (zl x6)] zd_14_50_89 (by decide) rfl ?_
        refine zz_iinc [some (.ref 1079), some (zi p0), some (zi p1), some (zi x3), some (zi (x4 + 1)), some (zi x5), some (zl x6)] zd_14_50_90 rfl rfl ?_
        refine zz_goto zd_14_50_93 ?_
        refine zz_less (ls1 := [some (.ref 1079), some (zi p0), some (zi p1), some (zi x3), some (zi (x4 + 1))]) ⟨rfl, ⟨rfl, ⟨rfl, ⟨rfl, ⟨rfl, trivial⟩⟩⟩⟩⟩ ?_
        exact k6 x3 (x4 + 1) S G_S F_S (by omega) (by omega) (by omega) (by have e9 : (x4 + 1 - 1).toNat = (x4.toNat - 1) + 1 := (by omega); have e8 : (x4 - 1).toNat = x4.toNat - 1 := (by omega); have e7 : x4.toNat - 1 + 1 = x4.toNat := (by omega); rw [e9, zt_wl0 (by rw [e7]; exact zt_wvN (zt_nwl x4.toNat (by omega)) i25_9 (by omega) (by omega)), ← e8]; exact i25_8) (by omega)
      · refine zz_lload (x := x6) rfl zd_14_50_76 ?_
        refine zz_lconst (z := 0) (by decide) zd_14_50_78 ?_
        refine zz_lcmp (by omega) (by omega) zd_14_50_79 (fun v10 hv10 => ?_)
        refine zz_if_ne (by omega) zd_14_50_80 (fun c11 => ?_) (fun c11 => ?_)
        · refine zz_iload_n (x := x3) rfl zd_14_50_88 ?_
          refine zz_istore_n [some (.ref 1079), some (zi p0), some (zi p1), some (zi x3), some (zi x4), some (zi x5), some (zl x6)] zd_14_50_89 (by decide) rfl ?_
          refine zz_iinc [some (.ref 1079), some (zi p0), some (zi p1), some (zi x3), some (zi (x4 + 1)), some (zi x5), some (zl x6)] zd_14_50_90 rfl rfl ?_
          refine zz_goto zd_14_50_93 ?_
          refine zz_less (ls1 := [some (.ref 1079), some (zi p0), some (zi p1), some (zi x3), some (zi (x4 + 1))]) ⟨rfl, ⟨rfl, ⟨rfl, ⟨rfl, ⟨rfl, trivial⟩⟩⟩⟩⟩ ?_
          exact k6 x3 (x4 + 1) S G_S F_S (by omega) (by omega) (by omega) (by have e9 : (x4 + 1 - 1).toNat = (x4.toNat - 1) + 1 := (by omega); have e8 : (x4 - 1).toNat = x4.toNat - 1 := (by omega); have e7 : x4.toNat - 1 + 1 = x4.toNat := (by omega); rw [e9, zt_wl0 (by rw [e7]; exact zt_wvN (zt_nwl x4.toNat (by omega)) i25_9 (by omega) (by omega)), ← e8]; exact i25_8) (by omega)
        · refine zz_iload (x := x4) rfl zd_14_50_83 ?_
          refine zz_goto zd_14_50_85 ?_
          refine zz_istore_n [some (.ref 1079), some (zi p0), some (zi p1), some (zi x4), some (zi x4), some (zi x5), some (zl x6)] zd_14_50_89 (by decide) rfl ?_
          refine zz_iinc [some (.ref 1079), some (zi p0), some (zi p1), some (zi x4), some (zi (x4 + 1)), some (zi x5), some (zl x6)] zd_14_50_90 rfl rfl ?_
          refine zz_goto zd_14_50_93 ?_
          refine zz_less (ls1 := [some (.ref 1079), some (zi p0), some (zi p1), some (zi x4), some (zi (x4 + 1))]) ⟨rfl, ⟨rfl, ⟨rfl, ⟨rfl, ⟨rfl, trivial⟩⟩⟩⟩⟩ ?_
          exact k6 x4 (x4 + 1) S G_S F_S (by omega) (by omega) (by omega) (by have e9 : (x4 + 1 - 1).toNat = (x4.toNat - 1) + 1 := (by omega); have e8 : (x4 - 1).toNat = x4.toNat - 1 := (by omega); have e7 : x4.toNat - 1 + 1 = x4.toNat := (by omega); rw [e9, zt_wl1 (by rw [e7]; exact zt_wvY (zt_nwl x4.toNat (by omega)) i25_9 (by omega) (by omega))]; omega) (by omega)
    · refine zz_aload_n (x := 1079) rfl zd_14_50_38 ?_
      refine zz_getr (kd := 0) (z := 1099) zd_14_50_39 zf_Md_76 zT_1079 rfl (zz_ltn hn rfl) (zz_G.eq G_S 1079 27 1099 rfl rfl) (by decide) 1099 rfl ?_
      refine zz_iload (x := x5) rfl zd_14_50_42 ?_
      have g12 := zz_G.r G_S0 1099 x5.toNat 0 255 rfl rfl
      refine zz_iald (z := S0 1099 x5.toNat) zd_14_50_44 zT_1099 rfl (zz_ltn hn rfl) (by decide) (by omega) (zz_rc F_S (zz_nc1 rfl) rfl (fun h => h) rfl) ?_
      refine zz_bipush (by decide) zd_14_50_45 ?_
      refine zz_lload (x := x6) rfl zd_14_50_47 ?_
      refine zz_ldc2 (z := 31) zq_Md_357 (by decide) zd_14_50_49 ?_
      refine zz_land zd_14_50_52 (fun v13 hv13 ev13 => ?_)
      have av13 := zz_band64 (by omega) (by omega) ev13
      have ha9 := zt_and31 (by omega) (by assumption)
      refine zz_l2i (by omega) zd_14_50_53 (fun v14 hv14 av14 ev14 => ?_)
      refine zz_iadd zd_14_50_54 ?_
      refine zz_icmp_ne (by omega) (by omega) zd_14_50_55 (fun c15 => ?_) (fun c15 => ?_)
      · refine zz_iload (x := x5) rfl zd_14_50_70 ?_
        refine zz_iload_n (x := p1) rfl zd_14_50_72 ?_
        refine zz_icmp_ne (by omega) (by omega) zd_14_50_73 (fun c16 => ?_) (fun c16 => ?_)
        · refine zz_iload_n (x := x3) rfl zd_14_50_88 ?_
          refine zz_istore_n [some (.ref 1079), some (zi p0), some (zi p1), some (zi x3), some (zi x4), some (zi x5), some (zl x6)] zd_14_50_89 (by decide) rfl ?_
          refine zz_iinc [some (.ref 1079), some (zi p0), some (zi p1), some (zi x3), some (zi (x4 + 1)), some (zi x5), some (zl x6)] zd_14_50_90 rfl rfl ?_
          refine zz_goto zd_14_50_93 ?_
          refine zz_less (ls1 := [some (.ref 1079), some (zi p0), some (zi p1), some (zi x3), some (zi (x4 + 1))]) ⟨rfl, ⟨rfl, ⟨rfl, ⟨rfl, ⟨rfl, trivial⟩⟩⟩⟩⟩ ?_
          exact k6 x3 (x4 + 1) S G_S F_S (by omega) (by omega) (by omega) (by have e9 : (x4 + 1 - 1).toNat = (x4.toNat - 1) + 1 := (by omega); have e8 : (x4 - 1).toNat = x4.toNat - 1 := (by omega); have e7 : x4.toNat - 1 + 1 = x4.toNat := (by omega); rw [e9, zt_wl0 (by rw [e7]; exact zt_wvN (zt_nwl x4.toNat (by omega)) i25_9 (by omega) (by omega)), ← e8]; exact i25_8) (by omega)
        · refine zz_lload (x := x6) rfl zd_14_50_76 ?_
          refine zz_lconst (z := 0) (by decide) zd_14_50_78 ?_
          refine zz_lcmp (by omega) (by omega) zd_14_50_79 (fun v17 hv17 => ?_)
          refine zz_if_ne (by omega) zd_14_50_80 (fun c18 => ?_) (fun c18 => ?_)
          · refine zz_iload_n (x := x3) rfl zd_14_50_88 ?_
            refine zz_istore_n [some (.ref 1079), some (zi p0), some (zi p1), some (zi x3), some (zi x4), some (zi x5), some (zl x6)] zd_14_50_89 (by decide) rfl ?_
            refine zz_iinc [some (.ref 1079), some (zi p0), some (zi p1), some (zi x3), some (zi (x4 + 1)), some (zi x5), some (zl x6)] zd_14_50_90 rfl rfl ?_
            refine zz_goto zd_14_50_93 ?_
            refine zz_less (ls1 := [some (.ref 1079), some (zi p0), some (zi p1), some (zi x3), some (zi (x4 + 1))]) ⟨rfl, ⟨rfl, ⟨rfl, ⟨rfl, ⟨rfl, trivial⟩⟩⟩⟩⟩ ?_
            exact k6 x3 (x4 + 1) S G_S F_S (by omega) (by omega) (by omega) (by have e9 : (x4 + 1 - 1).toNat = (x4.toNat - 1) + 1 := (by omega); have e8 : (x4 - 1).toNat = x4.toNat - 1 := (by omega); have e7 : x4.toNat - 1 + 1 = x4.toNat := (by omega); rw [e9, zt_wl0 (by rw [e7]; exact zt_wvN (zt_nwl x4.toNat (by omega)) i25_9 (by omega) (by omega)), ← e8]; exact i25_8) (by omega)
          · refine zz_iload (x := x4) rfl zd_14_50_83 ?_
            refine zz_goto zd_14_50_85 ?_
            refine zz_istore_n [some (.ref 1079), some (zi p0), some (zi p1), some (zi x4), some (zi x4), some (zi x5), some (zl x6)] zd_14_50_89 (by decide) rfl ?_
            refine zz_iinc [some (.ref 1079), some (zi p0), some (zi p1), some (zi x4), some (zi (x4 + 1)), some (zi x5), some (zl x6)] zd_14_50_90 rfl rfl ?_
            refine zz_goto zd_14_50_93 ?_
            refine zz_less (ls1 := [some (.ref 1079), some (zi p0), some (zi p1), some (zi x4), some (zi (x4 + 1))]) ⟨rfl, ⟨rfl, ⟨rfl, ⟨rfl, ⟨rfl, trivial⟩⟩⟩⟩⟩ ?_
            exact k6 x4 (x4 + 1) S G_S F_S (by omega) (by omega) (by omega) (by have e9 : (x4 + 1 - 1).toNat = (x4.toNat - 1) + 1 := (by omega); have e8 : (x4 - 1).toNat = x4.toNat - 1 := (by omega); have e7 : x4.toNat - 1 + 1 = x4.toNat := (by omega); rw [e9, zt_wl1 (by rw [e7]; exact zt_wvY (zt_nwl x4.toNat (by omega)) i25_9 (by omega) (by omega))]; omega) (by omega)
      · refine zz_iinc [some (.ref 1079), some (zi p0), some (zi p1), some (zi x3), some (zi x4), some (zi (x5 + 1)), some (zl x6)] zd_14_50_58 rfl rfl ?_
        refine zz_lload (x := x6) rfl zd_14_50_61 ?_
        refine zz_iconst zd_14_50_63 ?_
        refine zz_lshr zd_14_50_64 (fun v19 hv19 ev19 => ?_)
        have av19 := zz_lsr5 (by omega) ev19
        refine zz_lstore [some (.ref 1079), some (zi p0), some (zi p1), some (zi x3), some (zi x4), some (zi (x5 + 1)), some (zl v19), none] zd_14_50_65 (by decide) rfl ?_
        refine zz_goto zd_14_50_67 ?_
        refine zz_less (ls1 := [some (.ref 1079), some (zi p0), some (zi p1), some (zi x3), some (zi x4), some (zi (x5 + 1)), some (zl v19)]) ⟨rfl, ⟨rfl, ⟨rfl, ⟨rfl, ⟨rfl, ⟨rfl, ⟨rfl, trivial⟩⟩⟩⟩⟩⟩⟩ ?_
        exact k25 x3 x4 (x5 + 1) v19 S G_S F_S (by omega) (by omega) (by omega) (by omega) (by omega) (by omega) (by omega) (by omega) i25_8 (zt_wvS (zt_nwl x4.toNat (by omega)) i25_9 (by omega) rfl (by omega) (by omega)) (by omega)
theorem zi_wordAt_14_50 {g : mm_G} {l : Launch} (p0 : Int) (p1 : Int) (S0 : zz_S) (n : Nat) (hn : zz_end ≤ n) (G_S0 : zz_G S0) (hp0 : 0 ≤ p0 ∧ p0 ≤ 1500) (hp1 : 0 ≤ p1 ∧ p1 ≤ 1500) (hN : ∀ w : Nat, 1 ≤ w → w ≤ 20 → S0 1100 w = zt_cd (zt_nw.getD w [])) : ∀ N : Nat, (∀ (x3 : Int) (x4 : Int) (S : zz_S), zz_G S → zz_fr [] [] (fun _ _ => False) S0 S → (1 ≤ x3 ∧ x3 ≤ 101) → (1 ≤ x4 ∧ x4 ≤ 21) → (x3 = 101 ∨ x3 ≤ 20) → (x3 = zt_wl (S0 1099) p0 p1 (x4 - 1).toNat) → (34359738368 + (21 - x4).toNat) * 1099511627776 + 1099511627775 < N → zz_E g l zy_wordAt_14_50 zr_wordAt_14_50 (zz_QI n (zp_wordAt_14_50 p0 p1 S0)) S n 6 [some (.ref 1079), some (zi p0), some (zi p1), some (zi x3), some (zi x4)] [] 0 0) ∧ (∀ (x3 : Int) (x4 : Int) (x5 : Int) (x6 : Int) (S : zz_S), zz_G S → zz_fr [] [] (fun _ _ => False) S0 S → (1 ≤ x3 ∧ x3 ≤ 101) → (1 ≤ x4 ∧ x4 ≤ 20) → (0 ≤ x5 ∧ x5 ≤ 1500) → (0 ≤ x6 ∧ x6 ≤ 1099511627775) → (1 ≤ x4 ∧ x4 ≤ 21) → (x3 = 101 ∨ x3 ≤ 20) → (x4 < 21) → (x3 = 101 ∨ x3 ≤ 20) → (x3 = zt_wl (S0 1099) p0 p1 (x4 - 1).toNat) → (zt_wv (S0 1099) p0 (zt_nw.getD x4.toNat []) x5 x6) → (34359738368 + (21 - x4).toNat) * 1099511627776 + (17179869184 + (p1 - x5).toNat) < N → zz_E g l zy_wordAt_14_50 zr_wordAt_14_50 (zz_QI n (zp_wordAt_14_50 p0 p1 S0)) S n 25 [some (.ref 1079), some (zi p0), some (zi p1), some (zi x3), some (zi x4), some (zi x5), some (zl x6)] [] 0 0) := by
  intro N
  induction N with
  | zero => exact ⟨fun x3 x4 S _ _ _ _ _ _ h => absurd h (Nat.not_lt_zero _), fun x3 x4 x5 x6 S _ _ _ _ _ _ _ _ _ _ _ _ h => absurd h (Nat.not_lt_zero _)⟩
  | succ N ih =>
    exact ⟨fun x3 x4 S a b j0 j1 j2 j3 hR => zb_wordAt_14_50_6 p0 p1 S0 n hn G_S0 hp0 hp1 hN x3 x4 S a b j0 j1 j2 j3 _ rfl (fun x3 x4 x5 x6 S a b j0 j1 j2 j3 j4 j5 j6 j7 j8 j9 h => ih.2 x3 x4 x5 x6 S a b j0 j1 j2 j3 j4 j5 j6 j7 j8 j9 (Nat.lt_of_lt_of_le h (Nat.le_of_lt_succ hR))),
      fun x3 x4 x5 x6 S a b j0 j1 j2 j3 j4 j5 j6 j7 j8 j9 hR => zb_wordAt_14_50_25 p0 p1 S0 n hn G_S0 hp0 hp1 hN x3 x4 x5 x6 S a b j0 j1 j2 j3 j4 j5 j6 j7 j8 j9 _ rfl (fun x3 x4 S a b j0 j1 j2 j3 h => ih.1 x3 x4 S a b j0 j1 j2 j3 (Nat.lt_of_lt_of_le h (Nat.le_of_lt_succ hR))) (fun x3 x4 x5 x6 S a b j0 j1 j2 j3 j4 j5 j6 j7 j8 j9 h => ih.2 x3 x4 x5 x6 S a b j0 j1 j2 j3 j4 j5 j6 j7 j8 j9 (Nat.lt_of_lt_of_le h (Nat.le_of_lt_succ hR)))⟩
theorem zc_wordAt_14_50 {g : mm_G} {l : Launch} (p0 : Int) (p1 : Int) (S0 : zz_S) (n : Nat) (hn : zz_end ≤ n) (G_S0 : zz_G S0) (hp0 : 0 ≤ p0 ∧ p0 ≤ 1500) (hp1 : 0 ≤ p1 ∧ p1 ≤ 1500) (hN : ∀ w : Nat, 1 ≤ w → w ≤ 20 → S0 1100 w = zt_cd (zt_nw.getD w [])) : mm_Met g l zy_wordAt_14_50 zr_wordAt_14_50 [.ref 1079, zi p0, zi p1] (zz_M S0 n) n (zz_QI n (zp_wordAt_14_50 p0 p1 S0)) := by
  refine zz_enter (by decide) (Nat.le_of_ble_eq_true rfl) (zz_less (ls1 := [some (.ref 1079), some (zi p0), some (zi p1)]) ⟨rfl, ⟨rfl, ⟨rfl, trivial⟩⟩⟩ ?_)
  have F_S0 : zz_fr [] [] (fun _ _ => False) S0 S0 := zz_fr.refl
  have k6 : ∀ (x3 : Int) (x4 : Int) (S : zz_S), zz_G S → zz_fr [] [] (fun _ _ => False) S0 S → (1 ≤ x3 ∧ x3 ≤ 101) → (1 ≤ x4 ∧ x4 ≤ 21) → (x3 = 101 ∨ x3 ≤ 20) → (x3 = zt_wl (S0 1099) p0 p1 (x4 - 1).toNat) → zz_E g l zy_wordAt_14_50 zr_wordAt_14_50 (zz_QI n (zp_wordAt_14_50 p0 p1 S0)) S n 6 [some (.ref 1079), some (zi p0), some (zi p1), some (zi x3), some (zi x4)] [] 0 0 := fun x3 x4 S a b j0 j1 j2 j3 => (zi_wordAt_14_50 (g := g) (l := l) p0 p1 S0 n hn G_S0 hp0 hp1 hN _).1 x3 x4 S a b j0 j1 j2 j3 (Nat.lt_succ_self _)
  refine zz_bipush (by decide) zd_14_50_0 ?_
  refine zz_istore_n [some (.ref 1079), some (zi p0), some (zi p1), some (zi 101)] zd_14_50_2 (by decide) rfl ?_
  refine zz_iconst zd_14_50_3 ?_
  refine zz_istore [some (.ref 1079), some (zi p0), some (zi p1), some (zi 101), some (zi 1)] zd_14_50_4 (by decide) rfl ?_
  refine zz_less (ls1 := [some (.ref 1079), some (zi p0), some (zi p1), some (zi 101), some (zi 1)]) ⟨rfl, ⟨rfl, ⟨rfl, ⟨rfl, ⟨rfl, trivial⟩⟩⟩⟩⟩ ?_
  exact k6 101 1 S0 G_S0 F_S0 (by omega) (by omega) (by omega) (by exact rfl)
theorem zk_Md_344 : mm_Vl "TensorForgeModel" 344 11 2 zy_wordAt_14_50 := ⟨zyw_wordAt_14_50, (R_Md, F_Md, 69), rfl, mm_tb_1 2021 (by decide +kernel) rfl, mm_tb_1 2023 (by decide +kernel) rfl, mm_tb_s 110 (by decide +kernel) rfl⟩
theorem zg_14_49_138 : zq_at zy_advance_14_49.2.1 138 181 ∧ zq_at zy_advance_14_49.2.1 139 1 ∧ zq_at zy_advance_14_49.2.1 140 91 ∧ zq_at zy_advance_14_49.2.1 141 167 ∧ zq_at zy_advance_14_49.2.1 142 0 ∧ zq_at zy_advance_14_49.2.1 143 147 ∧ zq_at zy_advance_14_49.2.1 93 42 ∧ zq_at zy_advance_14_49.2.1 94 180 ∧ zq_at zy_advance_14_49.2.1 95 0 ∧ zq_at zy_advance_14_49.2.1 96 76 ∧ zq_at zy_advance_14_49.2.1 97 42 ∧ zq_at zy_advance_14_49.2.1 98 180 ∧ zq_at zy_advance_14_49.2.1 99 1 ∧ zq_at zy_advance_14_49.2.1 100 78 ∧ zq_at zy_advance_14_49.2.1 101 46 ∧ zq_at zy_advance_14_49.2.1 102 133 ∧ zq_at zy_advance_14_49.2.1 103 20 ∧ zq_at zy_advance_14_49.2.1 104 1 ∧ zq_at zy_advance_14_49.2.1 105 84 ∧ zq_at zy_advance_14_49.2.1 106 20 ∧ zq_at zy_advance_14_49.2.1 107 1 ∧ zq_at zy_advance_14_49.2.1 108 86 := by decide +kernel
theorem zd_14_49_138 : zz_D zy_advance_14_49 138 (.putfield 347) 3 141 := ⟨zq_181 zg_14_49_138.1 zg_14_49_138.2.1 zg_14_49_138.2.2.1 rfl, rfl⟩
theorem zd_14_49_141 : zz_B zy_advance_14_49 141 Instr.goto 288 144 := ⟨147, zq_167 zg_14_49_138.2.2.2.1 zg_14_49_138.2.2.2.2.1 zg_14_49_138.2.2.2.2.2.1 (by decide), rfl, rfl⟩
theorem zd_14_49_93 : zz_D zy_advance_14_49 93 (.aload_n 0) 1 94 := ⟨zq_42 zg_14_49_138.2.2.2.2.2.2.1, rfl⟩
theorem zd_14_49_94 : zz_D zy_advance_14_49 94 (.getfield 76) 3 97 := ⟨zq_180 zg_14_49_138.2.2.2.2.2.2.2.1 zg_14_49_138.2.2.2.2.2.2.2.2.1 zg_14_49_138.2.2.2.2.2.2.2.2.2.1 rfl, rfl⟩
theorem zd_14_49_97 : zz_D zy_advance_14_49 97 (.aload_n 0) 1 98 := ⟨zq_42 zg_14_49_138.2.2.2.2.2.2.2.2.2.2.1, rfl⟩
theorem zd_14_49_98 : zz_D zy_advance_14_49 98 (.getfield 334) 3 101 := ⟨zq_180 zg_14_49_138.2.2.2.2.2.2.2.2.2.2.2.1 zg_14_49_138.2.2.2.2.2.2.2.2.2.2.2.2.1 zg_14_49_138.2.2.2.2.2.2.2.2.2.2.2.2.2.1 rfl, rfl⟩
theorem zd_14_49_101 : zz_D zy_advance_14_49 101 (.iaload) 1 102 := ⟨zq_46 zg_14_49_138.2.2.2.2.2.2.2.2.2.2.2.2.2.2.1, rfl⟩
theorem zd_14_49_102 : zz_D zy_advance_14_49 102 (.i2l) 1 103 := ⟨zq_133 zg_14_49_138.2.2.2.2.2.2.2.2.2.2.2.2.2.2.2.1, rfl⟩
theorem zd_14_49_103 : zz_D zy_advance_14_49 103 (.ldc2_w 340) 3 106 := ⟨zq_20 zg_14_49_138.2.2.2.2.2.2.2.2.2.2.2.2.2.2.2.2.1 zg_14_49_138.2.2.2.2.2.2.2.2.2.2.2.2.2.2.2.2.2.1 zg_14_49_138.2.2.2.2.2.2.2.2.2.2.2.2.2.2.2.2.2.2.1 rfl, rfl⟩
theorem zd_14_49_106 : zz_D zy_advance_14_49 106 (.ldc2_w 342) 3 109 := ⟨zq_20 zg_14_49_138.2.2.2.2.2.2.2.2.2.2.2.2.2.2.2.2.2.2.2.1 zg_14_49_138.2.2.2.2.2.2.2.2.2.2.2.2.2.2.2.2.2.2.2.2.1 zg_14_49_138.2.2.2.2.2.2.2.2.2.2.2.2.2.2.2.2.2.2.2.2.2 rfl, rfl⟩
theorem zg_14_49_109 : zq_at zy_advance_14_49.2.1 109 184 ∧ zq_at zy_advance_14_49.2.1 110 0 ∧ zq_at zy_advance_14_49.2.1 111 192 ∧ zq_at zy_advance_14_49.2.1 112 153 ∧ zq_at zy_advance_14_49.2.1 113 0 ∧ zq_at zy_advance_14_49.2.1 114 16 ∧ zq_at zy_advance_14_49.2.1 115 42 ∧ zq_at zy_advance_14_49.2.1 116 89 ∧ zq_at zy_advance_14_49.2.1 117 180 ∧ zq_at zy_advance_14_49.2.1 118 1 ∧ zq_at zy_advance_14_49.2.1 119 78 ∧ zq_at zy_advance_14_49.2.1 120 4 ∧ zq_at zy_advance_14_49.2.1 121 96 ∧ zq_at zy_advance_14_49.2.1 122 181 ∧ zq_at zy_advance_14_49.2.1 123 1 ∧ zq_at zy_advance_14_49.2.1 124 78 ∧ zq_at zy_advance_14_49.2.1 125 167 ∧ zq_at zy_advance_14_49.2.1 126 255 ∧ zq_at zy_advance_14_49.2.1 127 213 := by decide +kernel
theorem zd_14_49_109 : zz_D zy_advance_14_49 109 (.invokestatic 192) 3 112 := ⟨zq_184 zg_14_49_109.1 zg_14_49_109.2.1 zg_14_49_109.2.2.1 rfl, rfl⟩
theorem zd_14_49_112 : zz_B zy_advance_14_49 112 (Instr.ifCond .eq) 128 115 := ⟨16, zq_153 zg_14_49_109.2.2.2.1 zg_14_49_109.2.2.2.2.1 zg_14_49_109.2.2.2.2.2.1 (by decide), rfl, rfl⟩
theorem zd_14_49_115 : zz_D zy_advance_14_49 115 (.aload_n 0) 1 116 := ⟨zq_42 zg_14_49_109.2.2.2.2.2.2.1, rfl⟩
theorem zd_14_49_116 : zz_D zy_advance_14_49 116 (.dup) 1 117 := ⟨zq_89 zg_14_49_109.2.2.2.2.2.2.2.1, rfl⟩
theorem zd_14_49_117 : zz_D zy_advance_14_49 117 (.getfield 334) 3 120 := ⟨zq_180 zg_14_49_109.2.2.2.2.2.2.2.2.1 zg_14_49_109.2.2.2.2.2.2.2.2.2.1 zg_14_49_109.2.2.2.2.2.2.2.2.2.2.1 rfl, rfl⟩
theorem zd_14_49_120 : zz_D zy_advance_14_49 120 (.iconst 1) 1 121 := ⟨zq_4 zg_14_49_109.2.2.2.2.2.2.2.2.2.2.2.1, rfl⟩
theorem zd_14_49_121 : zz_D zy_advance_14_49 121 (.iadd) 1 122 := ⟨zq_96 zg_14_49_109.2.2.2.2.2.2.2.2.2.2.2.2.1, rfl⟩
theorem zd_14_49_122 : zz_D zy_advance_14_49 122 (.putfield 334) 3 125 := ⟨zq_181 zg_14_49_109.2.2.2.2.2.2.2.2.2.2.2.2.2.1 zg_14_49_109.2.2.2.2.2.2.2.2.2.2.2.2.2.2.1 zg_14_49_109.2.2.2.2.2.2.2.2.2.2.2.2.2.2.2.1 rfl, rfl⟩
theorem zd_14_49_125 : zz_B zy_advance_14_49 125 Instr.goto 82 128 := ⟨(-43), zq_167 zg_14_49_109.2.2.2.2.2.2.2.2.2.2.2.2.2.2.2.2.1 zg_14_49_109.2.2.2.2.2.2.2.2.2.2.2.2.2.2.2.2.2.1 zg_14_49_109.2.2.2.2.2.2.2.2.2.2.2.2.2.2.2.2.2.2 (by decide), rfl, rfl⟩
-- TensorForgeModel advance ()V
abbrev zr_advance_14_49 : Room := { frames := 1, cells := 0, slots := 0, locals := 20 }
def zp_advance_14_49  (S0 : zz_S) : zz_S → Prop := fun S => zz_G S ∧ zz_fr [(1079, 30), (1079, 31), (1079, 32)] [] (fun _ _ => False) S0 S ∧ (S 1079 32 ≥ S0 1079 32) ∧ ((S 1079 30 = 100 ∨ (1 ≤ S 1079 30 ∧ S 1079 30 ≤ 20)) → S 1079 32 > S0 1079 32) ∧ (S 1079 30 = 101 ∨ S 1079 30 = 100 ∨ S 1079 30 ≤ 20) ∧ (S 1079 30 = zt_tm (S0 1099) (S0 1079 33) (S0 1079 32)) ∧ (S 1079 32 = zt_tn (S0 1099) (S0 1079 33) (S0 1079 32)) ∧ (S 1079 30 = 100 → S 1079 31 = zt_tv (S0 1099) (S0 1079 33) (S0 1079 32))
theorem zb_advance_14_49_0 {g : mm_G} {l : Launch}  (S0 : zz_S) (n : Nat) (hn : zz_end ≤ n) (G_S0 : zz_G S0) (hN : ∀ w : Nat, 1 ≤ w → w ≤ 20 → S0 1100 w = zt_cd (zt_nw.getD w []))  (S : zz_S) (G_S : zz_G S) (F_S : zz_fr [(1079, 30), (1079, 31), (1079, 32)] [] (fun _ _ => False) S0 S) (i0_0 : S0 1079 32 < S0 1079 33) (i0_1 : S0 1099 ((S0 1079 32).toNat) = 32) (i0_2 : S 1079 32 ≥ S0 1079 32) (i0_3 : zt_R 32 32 (S0 1099) (S0 1079 33) (S 1079 32) = zt_R 32 32 (S0 1099) (S0 1079 33) (S0 1079 32)) (R : Nat) (hR : (51539607552 + (S0 1079 33 - S 1079 32).toNat) = R) (k0 : ∀  (S : zz_S), zz_G S → zz_fr [(1079, 30), (1079, 31), (1079, 32)] [] (fun _ _ => False) S0 S → (S0 1079 32 < S0 1079 33) → (S0 1099 ((S0 1079 32).toNat) = 32) → (S 1079 32 ≥ S0 1079 32) → (zt_R 32 32 (S0 1099) (S0 1079 33) (S 1079 32) = zt_R 32 32 (S0 1099) (S0 1079 33) (S0 1079 32)) → (51539607552 + (S0 1079 33 - S 1079 32).toNat) < R → zz_E g l zy_advance_14_49 zr_advance_14_49 (zz_QV n (zp_advance_14_49  S0)) S n 0 [some (.ref 1079)] [] 0 0) (k82 : ∀ (x1 : Int) (S : zz_S), zz_G S → zz_fr [(1079, 30), (1079, 31), (1079, 32)] [] (fun _ _ => False) S0 S → (0 ≤ x1 ∧ x1 ≤ 1500) → (S0 1079 32 < S0 1079 33) → (x1 ≥ S0 1079 32) → (x1 < S 1079 32 ∨ (S 1079 32 = x1 ∧ x1 < S0 1079 33 ∧ 97 ≤ S0 1099 (S 1079 32).toNat ∧ S0 1099 (S 1079 32).toNat ≤ 122)) → (x1 = zt_R 32 32 (S0 1099) (S0 1079 33) (S0 1079 32)) → (x1 < S0 1079 33 ∧ 97 ≤ S0 1099 x1.toNat ∧ S0 1099 x1.toNat ≤ 122) → (zt_R 97 122 (S0 1099) (S0 1079 33) (S 1079 32) = zt_R 97 122 (S0 1099) (S0 1079 33) x1) → (34359738368 + (S0 1079 33 - S 1079 32).toNat) < R → zz_E g l zy_advance_14_49 zr_advance_14_49 (zz_QV n (zp_advance_14_49  S0)) S n 82 [some (.ref 1079), some (zi x1)] [] 0 0) (k160 : ∀ (x1 : Int) (x3 : Int) (S : zz_S), zz_G S → zz_fr [(1079, 30), (1079, 31), (1079, 32)] [] (fun _ _ => False) S0 S → (0 ≤ x1 ∧ x1 ≤ 1500) → (0 ≤ x3 ∧ x3 ≤ 9999) → (S0 1079 32 < S0 1079 33) → (x1 ≥ S0 1079 32) → (x1 < S 1079 32 ∨ (S 1079 32 = x1 ∧ x1 < S0 1079 33 ∧ 48 ≤ S0 1099 (S 1079 32).toNat ∧ S0 1099 (S 1079 32).toNat ≤ 57)) → ((S 1079 32 = x1 ∧ x3 = 0) ∨ (S 1079 32 = x1 + 1 ∧ x3 ≤ 9) ∨ (S 1079 32 = x1 + 2 ∧ x3 ≤ 99) ∨ (S 1079 32 = x1 + 3 ∧ x3 ≤ 999) ∨ S 1079 32 ≥ x1 + 4) → (x1 = zt_R 32 32 (S0 1099) (S0 1079 33) (S0 1079 32)) → (x1 < S0 1079 33 ∧ 48 ≤ S0 1099 x1.toNat ∧ S0 1099 x1.toNat ≤ 57) → (zt_R 48 57 (S0 1099) (S0 1079 33) (S 1079 32) = zt_R 48 57 (S0 1099) (S0 1079 33) x1) → (x3 = zt_n4 (S0 1099) x1 (S 1079 32 - x1)) → (17179869184 + (S0 1079 33 - S 1079 32).toNat) < R → zz_E g l zy_advance_14_49 zr_advance_14_49 (zz_QV n (zp_advance_14_49  S0)) S n 160 [some (.ref 1079), some (zi x1), none, some (zi x3)] [] 0 0) : zz_E g l zy_advance_14_49 zr_advance_14_49 (zz_QV n (zp_advance_14_49  S0)) S n 0 [some (.ref 1079)] [] 0 0 := by
  refine zz_aload_n (x := 1079) rfl zd_14_49_0 ?_
  have g184 := zz_G.r G_S 1079 32 0 1500 rfl rfl
  refine zz_geti (z := S 1079 32) zd_14_49_1 zf_Md_334 zT_1079 rfl (zz_ltn hn rfl) rfl ?_
  refine zz_aload_n (x := 1079) rfl zd_14_49_4 ?_
  have g185 := zz_G.r G_S0 1079 33 0 1500 rfl rfl
  refine zz_geti (z := S0 1079 33) zd_14_49_5 zf_Md_337 zT_1079 rfl (zz_ltn hn rfl) (zz_rc F_S rfl rfl (fun h => h) rfl) ?_
  refine zz_icmp_ge (by omega) (by omega) zd_14_49_8 (fun c186 => ?_) (fun c186 => ?_)
  · refine zz_aload_n (x := 1079) rfl zd_14_49_38 ?_
    refine zz_geti (z := S 1079 32) zd_14_49_39 zf_Md_334 zT_1079 rfl (zz_ltn hn rfl) rfl ?_
    refine zz_istore_n [some (.ref 1079), some (zi (S 1079 32))] zd_14_49_42 (by decide) rfl ?_
    refine zz_aload_n (x := 1079) rfl zd_14_49_43 ?_
    refine zz_geti (z := S 1079 32) zd_14_49_44 zf_Md_334 zT_1079 rfl (zz_ltn hn rfl) rfl ?_
    refine zz_aload_n (x := 1079) rfl zd_14_49_47 ?_
    refine zz_geti (z := S0 1079 33) zd_14_49_48 zf_Md_337 zT_1079 rfl (zz_ltn hn rfl) (zz_rc F_S rfl rfl (fun h => h) rfl) ?_
    refine zz_icmp_ge (by omega) (by omega) zd_14_49_51 (fun c187 => ?_) (fun c187 => ?_)
    · refine zz_iconst zd_14_49_66 ?_
      refine zz_istore_n [some (.ref 1079), some (zi (S 1079 32)), some (zi 0)] zd_14_49_67 (by decide) rfl ?_
      refine zz_iload_n (x := 0) rfl zd_14_49_68 ?_
      refine zz_i2l (by omega) zd_14_49_69 ?_
      refine zz_ldc2 (z := 97) zq_Md_340 (by decide) zd_14_49_70 ?_
      refine zz_ldc2 (z := 122) zq_Md_342 (by decide) zd_14_49_73 ?_
      refine zz_callSI [zl 0, zl 97, zl 122] zd_14_49_76 zk_Md_192 rfl rfl ⟨Nat.le_of_ble_eq_true rfl, Nat.le_of_ble_eq_true rfl⟩ ⟨rfl, rfl⟩ (Nat.zero_le _) (Nat.zero_le _) (zc_in_14_4 0 97 122 S n hn G_S (by omega) (by omega) (by omega)) (fun v189 S188 hP => ?_)
      obtain ⟨rfl, o190, o191⟩ := hP
      rcases (by omega : v189 = 0 ∨ v189 = 1) with rfl | rfl
      · have n192 : 0 < 97 ∨ 122 < 0 := by omega
        clear o191
        refine zz_if_eq (by omega) zd_14_49_79 (fun c193 => ?_) (fun c193 => ?_)
        · refine zz_iload_n (x := 0) rfl zd_14_49_144 ?_
          refine zz_i2l (by omega) zd_14_49_145 ?_
          refine zz_ldc2 (z := 48) zq_Md_350 (by decide) zd_14_49_146 ?_
          refine zz_ldc2 (z := 57) zq_Md_352 (by decide) zd_14_49_149 ?_
          refine zz_callSI [zl 0, zl 48, zl 57] zd_14_49_152 zk_Md_192 rfl rfl ⟨Nat.le_of_ble_eq_true rfl, Nat.le_of_ble_eq_true rfl⟩ ⟨rfl, rfl⟩ (Nat.zero_le _) (Nat.zero_le _) (zc_in_14_4 0 48 57 S n hn G_S (by omega) (by omega) (by omega)) (fun v195 S194 hP => ?_)
          obtain ⟨rfl, o196, o197⟩ := hP
          rcases (by omega : v195 = 0 ∨ v195 = 1) with rfl | rfl
          · have n198 : 0 < 48 ∨ 57 < 0 := by omega
            clear o197
            refine zz_if_eq (by omega) zd_14_49_155 (fun c199 => ?_) (fun c199 => ?_)
            · have hq9 : S 1079 32 = zt_R 32 32 (S0 1099) (S0 1079 33) (S0 1079 32) := (zt_R0 (by omega)).symm.trans i0_3
              refine zz_aload_n (x := 1079) rfl zd_14_49_267 ?_
              refine zz_aload_n (x := 1079) rfl zd_14_49_268 ?_
              refine zz_geti (z := S 1079 32) zd_14_49_269 zf_Md_334 zT_1079 rfl (zz_ltn hn rfl) rfl ?_
              refine zz_aload_n (x := 1079) rfl zd_14_49_272 ?_
              refine zz_geti (z := S0 1079 33) zd_14_49_273 zf_Md_337 zT_1079 rfl (zz_ltn hn rfl) (zz_rc F_S rfl rfl (fun h => h) rfl) ?_
              refine zz_icmp_ge (by omega) (by omega) zd_14_49_276 (fun c200 => ?_) (fun c200 => ?_)
              · refine zz_iconst zd_14_49_284 ?_
                refine zz_puti zd_14_49_285 zf_Md_347 zT_1079 rfl (zz_ltn hn rfl) (fun S201 qS201 => ?_)
                have G_S201 := zz_G.put G_S qS201 0 102 rfl (by omega)
                have F_S201 := zz_fr.puts F_S qS201 rfl
                have e202 : S201 1079 32 = S 1079 32 := (zz_ro qS201 (fun h => absurd h.2 (by decide)) rfl)
                have e203 : S201 1079 30 = 0 := (zz_rs qS201)
                have g204 := zz_G.r G_S 1079 31 0 9999 rfl rfl
                have e205 : S201 1079 31 = S 1079 31 := (zz_ro qS201 (fun h => absurd h.2 (by decide)) rfl)
                exact zz_vret zd_14_49_288 rfl (Nat.zero_le _) (Nat.zero_le _) ⟨_, rfl, G_S201, F_S201, by omega, by omega, by omega, (Int.lt_or_le (S 1079 32) (S0 1079 33)).elim (fun h9 => by have h8 := zt_tmb (f := (S0 1099)) (e := S0 1079 33) (p := S0 1079 32) hq9 h9 (by omega) (by omega); omega) (fun h9 => by have h8 := zt_tm0 (f := (S0 1099)) (e := S0 1079 33) (p := S0 1079 32) hq9 h9; omega), (Int.lt_or_le (S 1079 32) (S0 1079 33)).elim (fun h9 => by have h8 := zt_tmb (f := (S0 1099)) (e := S0 1079 33) (p := S0 1079 32) hq9 h9 (by omega) (by omega); omega) (fun h9 => by have h8 := zt_tm0 (f := (S0 1099)) (e := S0 1079 33) (p := S0 1079 32) hq9 h9; omega), by intro h9; omega⟩
              · refine zz_bipush (by decide) zd_14_49_279 ?_
                refine zz_goto zd_14_49_281 ?_
                refine zz_puti zd_14_49_285 zf_Md_347 zT_1079 rfl (zz_ltn hn rfl) (fun S206 qS206 => ?_)
                have G_S206 := zz_G.put G_S qS206 0 102 rfl (by omega)
                have F_S206 := zz_fr.puts F_S qS206 rfl
                have e207 : S206 1079 32 = S 1079 32 := (zz_ro qS206 (fun h => absurd h.2 (by decide)) rfl)
                have e208 : S206 1079 30 = 101 := (zz_rs qS206)
                have g209 := zz_G.r G_S 1079 31 0 9999 rfl rfl
                have e210 : S206 1079 31 = S 1079 31 := (zz_ro qS206 (fun h => absurd h.2 (by decide)) rfl)
                exact zz_vret zd_14_49_288 rfl (Nat.zero_le _) (Nat.zero_le _) ⟨_, rfl, G_S206, F_S206, by omega, by omega, by omega, (Int.lt_or_le (S 1079 32) (S0 1079 33)).elim (fun h9 => by have h8 := zt_tmb (f := (S0 1099)) (e := S0 1079 33) (p := S0 1079 32) hq9 h9 (by omega) (by omega); omega) (fun h9 => by have h8 := zt_tm0 (f := (S0 1099)) (e := S0 1079 33) (p := S0 1079 32) hq9 h9; omega), (Int.lt_or_le (S 1079 32) (S0 1079 33)).elim (fun h9 => by have h8 := zt_tmb (f := (S0 1099)) (e := S0 1079 33) (p := S0 1079 32) hq9 h9 (by omega) (by omega); omega) (fun h9 => by have h8 := zt_tm0 (f := (S0 1099)) (e := S0 1079 33) (p := S0 1079 32) hq9 h9; omega), by intro h9; omega⟩
            · exfalso; omega
          · exfalso; omega
        · exfalso; omega
      · exfalso; omega
    · refine zz_aload_n (x := 1079) rfl zd_14_49_54 ?_
      refine zz_getr (kd := 0) (z := 1099) zd_14_49_55 zf_Md_76 zT_1079 rfl (zz_ltn hn rfl) (zz_G.eq G_S 1079 27 1099 rfl rfl) (by decide) 1099 rfl ?_
      refine zz_aload_n (x := 1079) rfl zd_14_49_58 ?_
      refine zz_geti (z := S 1079 32) zd_14_49_59 zf_Md_334 zT_1079 rfl (zz_ltn hn rfl) rfl ?_
      have g211 := zz_G.r G_S0 1099 ((S 1079 32).toNat) 0 255 rfl rfl
      refine zz_iald (z := S0 1099 ((S 1079 32).toNat)) zd_14_49_62 zT_1099 rfl (zz_ltn hn rfl) (by decide) (by omega) (zz_rc F_S (zz_nc1 rfl) rfl (fun h => h) rfl) ?_
      refine zz_goto zd_14_49_63 ?_
      refine zz_istore_n [some (.ref 1079), some (zi (S 1079 32)), some (zi (S0 1099 ((S 1079 32).toNat)))] zd_14_49_67 (by decide) rfl ?_
      refine zz_iload_n (x := S0 1099 ((S 1079 32).toNat)) rfl zd_14_49_68 ?_
      refine zz_i2l (by omega) zd_14_49_69 ?_
      refine zz_ldc2 (z := 97) zq_Md_340 (by decide) zd_14_49_70 ?_
      refine zz_ldc2 (z := 122) zq_Md_342 (by decide) zd_14_49_73 ?_
      refine zz_callSI [zl (S0 1099 ((S 1079 32).toNat)), zl 97, zl 122] zd_14_49_76 zk_Md_192 rfl rfl ⟨Nat.le_of_ble_eq_true rfl, Nat.le_of_ble_eq_true rfl⟩ ⟨rfl, rfl⟩ (Nat.zero_le _) (Nat.zero_le _) (zc_in_14_4 (S0 1099 ((S 1079 32).toNat)) 97 122 S n hn G_S (by omega) (by omega) (by omega)) (fun v213 S212 hP => ?_)
      obtain ⟨rfl, o214, o215⟩ := hP
      rcases (by omega : v213 = 0 ∨ v213 = 1) with rfl | rfl
      · have n216 : S0 1099 ((S 1079 32).toNat) < 97 ∨ 122 < S0 1099 ((S 1079 32).toNat) := by omega
        clear o215
        refine zz_if_eq (by omega) zd_14_49_79 (fun c217 => ?_) (fun c217 => ?_)
        · refine zz_iload_n (x := S0 1099 ((S 1079 32).toNat)) rfl zd_14_49_144 ?_
          refine zz_i2l (by omega) zd_14_49_145 ?_
          refine zz_ldc2 (z := 48) zq_Md_350 (by decide) zd_14_49_146 ?_
          refine zz_ldc2 (z := 57) zq_Md_352 (by decide) zd_14_49_149 ?_
          refine zz_callSI [zl (S0 1099 ((S 1079 32).toNat)), zl 48, zl 57] zd_14_49_152 zk_Md_192 rfl rfl ⟨Nat.le_of_ble_eq_true rfl, Nat.le_of_ble_eq_true rfl⟩ ⟨rfl, rfl⟩ (Nat.zero_le _) (Nat.zero_le _) (zc_in_14_4 (S0 1099 ((S 1079 32).toNat)) 48 57 S n hn G_S (by omega) (by omega) (by omega)) (fun v219 S218 hP => ?_)
          obtain ⟨rfl, o220, o221⟩ := hP
          rcases (by omega : v219 = 0 ∨ v219 = 1) with rfl | rfl
          · have n222 : S0 1099 ((S 1079 32).toNat) < 48 ∨ 57 < S0 1099 ((S 1079 32).toNat) := by omega
            clear o221
            refine zz_if_eq (by omega) zd_14_49_155 (fun c223 => ?_) (fun c223 => ?_)
            · have hq9 : S 1079 32 = zt_R 32 32 (S0 1099) (S0 1079 33) (S0 1079 32) := (zt_R0 (by omega)).symm.trans i0_3
              refine zz_aload_n (x := 1079) rfl zd_14_49_267 ?_
              refine zz_aload_n (x := 1079) rfl zd_14_49_268 ?_
              refine zz_geti (z := S 1079 32) zd_14_49_269 zf_Md_334 zT_1079 rfl (zz_ltn hn rfl) rfl ?_
              refine zz_aload_n (x := 1079) rfl zd_14_49_272 ?_
              refine zz_geti (z := S0 1079 33) zd_14_49_273 zf_Md_337 zT_1079 rfl (zz_ltn hn rfl) (zz_rc F_S rfl rfl (fun h => h) rfl) ?_
              refine zz_icmp_ge (by omega) (by omega) zd_14_49_276 (fun c224 => ?_) (fun c224 => ?_)
              · refine zz_iconst zd_14_49_284 ?_
                refine zz_puti zd_14_49_285 zf_Md_347 zT_1079 rfl (zz_ltn hn rfl) (fun S225 qS225 => ?_)
                have G_S225 := zz_G.put G_S qS225 0 102 rfl (by omega)
                have F_S225 := zz_fr.puts F_S qS225 rfl
                have e226 : S225 1079 32 = S 1079 32 := (zz_ro qS225 (fun h => absurd h.2 (by decide)) rfl)
                have e227 : S225 1079 30 = 0 := (zz_rs qS225)
                have g228 := zz_G.r G_S 1079 31 0 9999 rfl rfl
                have e229 : S225 1079 31 = S 1079 31 := (zz_ro qS225 (fun h => absurd h.2 (by decide)) rfl)
                exact zz_vret zd_14_49_288 rfl (Nat.zero_le _) (Nat.zero_le _) ⟨_, rfl, G_S225, F_S225, by omega, by omega, by omega, (Int.lt_or_le (S 1079 32) (S0 1079 33)).elim (fun h9 => by have h8 := zt_tmb (f := (S0 1099)) (e := S0 1079 33) (p := S0 1079 32) hq9 h9 (by omega) (by omega); omega) (fun h9 => by have h8 := zt_tm0 (f := (S0 1099)) (e := S0 1079 33) (p := S0 1079 32) hq9 h9; omega), (Int.lt_or_le (S 1079 32) (S0 1079 33)).elim (fun h9 => by have h8 := zt_tmb (f := (S0 1099)) (e := S0 1079 33) (p := S0 1079 32) hq9 h9 (by omega) (by omega); omega) (fun h9 => by have h8 := zt_tm0 (f := (S0 1099)) (e := S0 1079 33) (p := S0 1079 32) hq9 h9; omega), by intro h9; omega⟩
              · refine zz_bipush (by decide) zd_14_49_279 ?_
                refine zz_goto zd_14_49_281 ?_
                refine zz_puti zd_14_49_285 zf_Md_347 zT_1079 rfl (zz_ltn hn rfl) (fun S230 qS230 => ?_)
                have G_S230 := zz_G.put G_S qS230 0 102 rfl (by omega)
                have F_S230 := zz_fr.puts F_S qS230 rfl
                have e231 : S230 1079 32 = S 1079 32 := (zz_ro qS230 (fun h => absurd h.2 (by decide)) rfl)
                have e232 : S230 1079 30 = 101 := (zz_rs qS230)
                have g233 := zz_G.r G_S 1079 31 0 9999 rfl rfl
                have e234 : S230 1079 31 = S 1079 31 := (zz_ro qS230 (fun h => absurd h.2 (by decide)) rfl)
                exact zz_vret zd_14_49_288 rfl (Nat.zero_le _) (Nat.zero_le _) ⟨_, rfl, G_S230, F_S230, by omega, by omega, by omega, (Int.lt_or_le (S 1079 32) (S0 1079 33)).elim (fun h9 => by have h8 := zt_tmb (f := (S0 1099)) (e := S0 1079 33) (p := S0 1079 32) hq9 h9 (by omega) (by omega); omega) (fun h9 => by have h8 := zt_tm0 (f := (S0 1099)) (e := S0 1079 33) (p := S0 1079 32) hq9 h9; omega), (Int.lt_or_le (S 1079 32) (S0 1079 33)).elim (fun h9 => by have h8 := zt_tmb (f := (S0 1099)) (e := S0 1079 33) (p := S0 1079 32) hq9 h9 (by omega) (by omega); omega) (fun h9 => by have h8 := zt_tm0 (f := (S0 1099)) (e := S0 1079 33) (p := S0 1079 32) hq9 h9; omega), by intro h9; omega⟩
            · exfalso; omega
          · have n235 : 48 ≤ S0 1099 ((S 1079 32).toNat) ∧ S0 1099 ((S 1079 32).toNat) ≤ 57 := by omega
            clear o221
            refine zz_if_eq (by omega) zd_14_49_155 (fun c236 => ?_) (fun c236 => ?_)
            · exfalso; omega
            · refine zz_iconst zd_14_49_158 ?_
              refine zz_istore_n [some (.ref 1079), some (zi (S 1079 32)), some (zi (S0 1099 ((S 1079 32).toNat))), some (zi 0)] zd_14_49_159 (by decide) rfl ?_
              refine zz_less (ls1 := [some (.ref 1079), some (zi (S 1079 32)), none, some (zi 0)]) ⟨rfl, ⟨rfl, ⟨rfl, trivial⟩⟩⟩ ?_
              exact k160 (S 1079 32) 0 S G_S F_S (by omega) (by omega) (by omega) (by omega) (by omega) (by omega) ((zt_R0 (by omega)).symm.trans i0_3) (by omega) (by exact rfl) (zt_n40 ..).symm (by omega)
        · exfalso; omega
      · have n237 : 97 ≤ S0 1099 ((S 1079 32).toNat) ∧ S0 1099 ((S 1079 32).toNat) ≤ 122 := by omega
        clear o215
        refine zz_if_eq (by omega) zd_14_49_79 (fun c238 => ?_) (fun c238 => ?_)
        · exfalso; omega
        · refine zz_less (ls1 := [some (.ref 1079), some (zi (S 1079 32))]) ⟨rfl, ⟨rfl, trivial⟩⟩ ?_
          exact k82 (S 1079 32) S G_S F_S (by omega) (by omega) (by omega) (by omega) ((zt_R0 (by omega)).symm.trans i0_3) (by omega) (by exact rfl) (by omega)
  · refine zz_aload_n (x := 1079) rfl zd_14_49_11 ?_
    refine zz_getr (kd := 0) (z := 1099) zd_14_49_12 zf_Md_76 zT_1079 rfl (zz_ltn hn rfl) (zz_G.eq G_S 1079 27 1099 rfl rfl) (by decide) 1099 rfl ?_
    refine zz_aload_n (x := 1079) rfl zd_14_49_15 ?_
    refine zz_geti (z := S 1079 32) zd_14_49_16 zf_Md_334 zT_1079 rfl (zz_ltn hn rfl) rfl ?_
    have g239 := zz_G.r G_S0 1099 ((S 1079 32).toNat) 0 255 rfl rfl
    refine zz_iald (z := S0 1099 ((S 1079 32).toNat)) zd_14_49_19 zT_1099 rfl (zz_ltn hn rfl) (by decide) (by omega) (zz_rc F_S (zz_nc1 rfl) rfl (fun h => h) rfl) ?_
    refine zz_bipush (by decide) zd_14_49_20 ?_
    refine zz_icmp_ne (by omega) (by omega) zd_14_49_22 (fun c240 => ?_) (fun c240 => ?_)
    · refine zz_aload_n (x := 1079) rfl zd_14_49_38 ?_
      refine zz_geti (z := S 1079 32) zd_14_49_39 zf_Md_334 zT_1079 rfl (zz_ltn hn rfl) rfl ?_
      refine zz_istore_n [some (.ref 1079), some (zi (S 1079 32))] zd_14_49_42 (by decide) rfl ?_
      refine zz_aload_n (x := 1079) rfl zd_14_49_43 ?_
      refine zz_geti (z := S 1079 32) zd_14_49_44 zf_Md_334 zT_1079 rfl (zz_ltn hn rfl) rfl ?_
      refine zz_aload_n (x := 1079) rfl zd_14_49_47 ?_
      refine zz_geti (z := S0 1079 33) zd_14_49_48 zf_Md_337 zT_1079 rfl (zz_ltn hn rfl) (zz_rc F_S rfl rfl (fun h => h) rfl) ?_
      refine zz_icmp_ge (by omega) (by omega) zd_14_49_51 (fun c241 => ?_) (fun c241 => ?_)
      · refine zz_iconst zd_14_49_66 ?_
        refine zz_istore_n [some (.ref 1079), some (zi (S 1079 32)), some (zi 0)] zd_14_49_67 (by decide) rfl ?_
        refine zz_iload_n (x := 0) rfl zd_14_49_68 ?_
        refine zz_i2l (by omega) zd_14_49_69 ?_
        refine zz_ldc2 (z := 97) zq_Md_340 (by decide) zd_14_49_70 ?_
        refine zz_ldc2 (z := 122) zq_Md_342 (by decide) zd_14_49_73 ?_
        refine zz_callSI [zl 0, zl 97, zl 122] zd_14_49_76 zk_Md_192 rfl rfl ⟨Nat.le_of_ble_eq_true rfl, Nat.le_of_ble_eq_true rfl⟩ ⟨rfl, rfl⟩ (Nat.zero_le _) (Nat.zero_le _) (zc_in_14_4 0 97 122 S n hn G_S (by omega) (by omega) (by omega)) (fun v243 S242 hP => ?_)
        obtain ⟨rfl, o244, o245⟩ := hP
        rcases (by omega : v243 = 0 ∨ v243 = 1) with rfl | rfl
        · have n246 : 0 < 97 ∨ 122 < 0 := by omega
          clear o245
          refine zz_if_eq (by omega) zd_14_49_79 (fun c247 => ?_) (fun c247 => ?_)
          · refine zz_iload_n (x := 0) rfl zd_14_49_144 ?_
            refine zz_i2l (by omega) zd_14_49_145 ?_
            refine zz_ldc2 (z := 48) zq_Md_350 (by decide) zd_14_49_146 ?_
            refine zz_ldc2 (z := 57) zq_Md_352 (by decide) zd_14_49_149 ?_
            refine zz_callSI [zl 0, zl 48, zl 57] zd_14_49_152 zk_Md_192 rfl rfl ⟨Nat.le_of_ble_eq_true rfl, Nat.le_of_ble_eq_true rfl⟩ ⟨rfl, rfl⟩ (Nat.zero_le _) (Nat.zero_le _) (zc_in_14_4 0 48 57 S n hn G_S (by omega) (by omega) (by omega)) (fun v249 S248 hP => ?_)
            obtain ⟨rfl, o250, o251⟩ := hP
            rcases (by omega : v249 = 0 ∨ v249 = 1) with rfl | rfl
            · have n252 : 0 < 48 ∨ 57 < 0 := by omega
              clear o251
              refine zz_if_eq (by omega) zd_14_49_155 (fun c253 => ?_) (fun c253 => ?_)
              · have hq9 : S 1079 32 = zt_R 32 32 (S0 1099) (S0 1079 33) (S0 1079 32) := (zt_R0 (by omega)).symm.trans i0_3
                refine zz_aload_n (x := 1079) rfl zd_14_49_267 ?_
                refine zz_aload_n (x := 1079) rfl zd_14_49_268 ?_
                refine zz_geti (z := S 1079 32) zd_14_49_269 zf_Md_334 zT_1079 rfl (zz_ltn hn rfl) rfl ?_
                refine zz_aload_n (x := 1079) rfl zd_14_49_272 ?_
                refine zz_geti (z := S0 1079 33) zd_14_49_273 zf_Md_337 zT_1079 rfl (zz_ltn hn rfl) (zz_rc F_S rfl rfl (fun h => h) rfl) ?_
                refine zz_icmp_ge (by omega) (by omega) zd_14_49_276 (fun c254 => ?_) (fun c254 => ?_)
                · refine zz_iconst zd_14_49_284 ?_
                  refine zz_puti zd_14_49_285 zf_Md_347 zT_1079 rfl (zz_ltn hn rfl) (fun S255 qS255 => ?_)
                  have G_S255 := zz_G.put G_S qS255 0 102 rfl (by omega)
                  have F_S255 := zz_fr.puts F_S qS255 rfl
                  have e256 : S255 1079 32 = S 1079 32 := (zz_ro qS255 (fun h => absurd h.2 (by decide)) rfl)
                  have e257 : S255 1079 30 = 0 := (zz_rs qS255)
                  have g258 := zz_G.r G_S 1079 31 0 9999 rfl rfl
                  have e259 : S255 1079 31 = S 1079 31 := (zz_ro qS255 (fun h => absurd h.2 (by decide)) rfl)
                  exact zz_vret zd_14_49_288 rfl (Nat.zero_le _) (Nat.zero_le _) ⟨_, rfl, G_S255, F_S255, by omega, by omega, by omega, (Int.lt_or_le (S 1079 32) (S0 1079 33)).elim (fun h9 => by have h8 := zt_tmb (f := (S0 1099)) (e := S0 1079 33) (p := S0 1079 32) hq9 h9 (by omega) (by omega); omega) (fun h9 => by have h8 := zt_tm0 (f := (S0 1099)) (e := S0 1079 33) (p := S0 1079 32) hq9 h9; omega), (Int.lt_or_le (S 1079 32) (S0 1079 33)).elim (fun h9 => by have h8 := zt_tmb (f := (S0 1099)) (e := S0 1079 33) (p := S0 1079 32) hq9 h9 (by omega) (by omega); omega) (fun h9 => by have h8 := zt_tm0 (f := (S0 1099)) (e := S0 1079 33) (p := S0 1079 32) hq9 h9; omega), by intro h9; omega⟩
                · refine zz_bipush (by decide) zd_14_49_279 ?_
                  refine zz_goto zd_14_49_281 ?_
                  refine zz_puti zd_14_49_285 zf_Md_347 zT_1079 rfl (zz_ltn hn rfl) (fun S260 qS260 => ?_)
                  have G_S260 := zz_G.put G_S qS260 0 102 rfl (by omega)
                  have F_S260 := zz_fr.puts F_S qS260 rfl
                  have e261 : S260 1079 32 = S 1079 32 := (zz_ro qS260 (fun h => absurd h.2 (by decide)) rfl)
                  have e262 : S260 1079 30 = 101 := (zz_rs qS260)
                  have g263 := zz_G.r G_S 1079 31 0 9999 rfl rfl
                  have e264 : S260 1079 31 = S 1079 31 := (zz_ro qS260 (fun h => absurd h.2 (by decide)) rfl)
                  exact zz_vret zd_14_49_288 rfl (Nat.zero_le _) (Nat.zero_le _) ⟨_, rfl, G_S260, F_S260, by omega, by omega, by omega, (Int.lt_or_le (S 1079 32) (S0 1079 33)).elim (fun h9 => by have h8 := zt_tmb (f := (S0 1099)) (e := S0 1079 33) (p := S0 1079 32) hq9 h9 (by omega) (by omega); omega) (fun h9 => by have h8 := zt_tm0 (f := (S0 1099)) (e := S0 1079 33) (p := S0 1079 32) hq9 h9; omega), (Int.lt_or_le (S 1079 32) (S0 1079 33)).elim (fun h9 => by have h8 := zt_tmb (f := (S0 1099)) (e := S0 1079 33) (p := S0 1079 32) hq9 h9 (by omega) (by omega); omega) (fun h9 => by have h8 := zt_tm0 (f := (S0 1099)) (e := S0 1079 33) (p := S0 1079 32) hq9 h9; omega), by intro h9; omega⟩
              · exfalso; omega
            · exfalso; omega
          · exfalso; omega
        · exfalso; omega
      · refine zz_aload_n (x := 1079) rfl zd_14_49_54 ?_
        refine zz_getr (kd := 0) (z := 1099) zd_14_49_55 zf_Md_76 zT_1079 rfl (zz_ltn hn rfl) (zz_G.eq G_S 1079 27 1099 rfl rfl) (by decide) 1099 rfl ?_
        refine zz_aload_n (x := 1079) rfl zd_14_49_58 ?_
        refine zz_geti (z := S 1079 32) zd_14_49_59 zf_Md_334 zT_1079 rfl (zz_ltn hn rfl) rfl ?_
        refine zz_iald (z := S0 1099 ((S 1079 32).toNat)) zd_14_49_62 zT_1099 rfl (zz_ltn hn rfl) (by decide) (by omega) (zz_rc F_S (zz_nc1 rfl) rfl (fun h => h) rfl) ?_
        refine zz_goto zd_14_49_63 ?_
        refine zz_istore_n [some (.ref 1079), some (zi (S 1079 32)), some (zi (S0 1099 ((S 1079 32).toNat)))] zd_14_49_67 (by decide) rfl ?_
        refine zz_iload_n (x := S0 1099 ((S 1079 32).toNat)) rfl zd_14_49_68 ?_
        refine zz_i2l (by omega) zd_14_49_69 ?_
        refine zz_ldc2 (z := 97) zq_Md_340 (by decide) zd_14_49_70 ?_
        refine zz_ldc2 (z := 122) zq_Md_342 (by decide) zd_14_49_73 ?_
        refine zz_callSI [zl (S0 1099 ((S 1079 32).toNat)), zl 97, zl 122] zd_14_49_76 zk_Md_192 rfl rfl ⟨Nat.le_of_ble_eq_true rfl, Nat.le_of_ble_eq_true rfl⟩ ⟨rfl, rfl⟩ (Nat.zero_le _) (Nat.zero_le _) (zc_in_14_4 (S0 1099 ((S 1079 32).toNat)) 97 122 S n hn G_S (by omega) (by omega) (by omega)) (fun v266 S265 hP => ?_)
        obtain ⟨rfl, o267, o268⟩ := hP
        rcases (by omega : v266 = 0 ∨ v266 = 1) with rfl | rfl
        · have n269 : S0 1099 ((S 1079 32).toNat) < 97 ∨ 122 < S0 1099 ((S 1079 32).toNat) := by omega
          clear o268
          refine zz_if_eq (by omega) zd_14_49_79 (fun c270 => ?_) (fun c270 => ?_)
          · refine zz_iload_n (x := S0 1099 ((S 1079 32).toNat)) rfl zd_14_49_144 ?_
            refine zz_i2l (by omega) zd_14_49_145 ?_
            refine zz_ldc2 (z := 48) zq_Md_350 (by decide) zd_14_49_146 ?_
            refine zz_ldc2 (z := 57) zq_Md_352 (by decide) zd_14_49_149 ?_
            refine zz_callSI [zl (S0 1099 ((S 1079 32).toNat)), zl 48, zl 57] zd_14_49_152 zk_Md_192 rfl rfl ⟨Nat.le_of_ble_eq_true rfl, Nat.le_of_ble_eq_true rfl⟩ ⟨rfl, rfl⟩ (Nat.zero_le _) (Nat.zero_le _) (zc_in_14_4 (S0 1099 ((S 1079 32).toNat)) 48 57 S n hn G_S (by omega) (by omega) (by omega)) (fun v272 S271 hP => ?_)
            obtain ⟨rfl, o273, o274⟩ := hP
            rcases (by omega : v272 = 0 ∨ v272 = 1) with rfl | rfl
            · have n275 : S0 1099 ((S 1079 32).toNat) < 48 ∨ 57 < S0 1099 ((S 1079 32).toNat) := by omega
              clear o274
              refine zz_if_eq (by omega) zd_14_49_155 (fun c276 => ?_) (fun c276 => ?_)
              · have hq9 : S 1079 32 = zt_R 32 32 (S0 1099) (S0 1079 33) (S0 1079 32) := (zt_R0 (by omega)).symm.trans i0_3
                refine zz_aload_n (x := 1079) rfl zd_14_49_267 ?_
                refine zz_aload_n (x := 1079) rfl zd_14_49_268 ?_
                refine zz_geti (z := S 1079 32) zd_14_49_269 zf_Md_334 zT_1079 rfl (zz_ltn hn rfl) rfl ?_
                refine zz_aload_n (x := 1079) rfl zd_14_49_272 ?_
                refine zz_geti (z := S0 1079 33) zd_14_49_273 zf_Md_337 zT_1079 rfl (zz_ltn hn rfl) (zz_rc F_S rfl rfl (fun h => h) rfl) ?_
                refine zz_icmp_ge (by omega) (by omega) zd_14_49_276 (fun c277 => ?_) (fun c277 => ?_)
                · refine zz_iconst zd_14_49_284 ?_
                  refine zz_puti zd_14_49_285 zf_Md_347 zT_1079 rfl (zz_ltn hn rfl) (fun S278 qS278 => ?_)
                  have G_S278 := zz_G.put G_S qS278 0 102 rfl (by omega)
                  have F_S278 := zz_fr.puts F_S qS278 rfl
                  have e279 : S278 1079 32 = S 1079 32 := (zz_ro qS278 (fun h => absurd h.2 (by decide)) rfl)
                  have e280 : S278 1079 30 = 0 := (zz_rs qS278)
                  have g281 := zz_G.r G_S 1079 31 0 9999 rfl rfl
                  have e282 : S278 1079 31 = S 1079 31 := (zz_ro qS278 (fun h => absurd h.2 (by decide)) rfl)
                  exact zz_vret zd_14_49_288 rfl (Nat.zero_le _) (Nat.zero_le _) ⟨_, rfl, G_S278, F_S278, by omega, by omega, by omega, (Int.lt_or_le (S 1079 32) (S0 1079 33)).elim (fun h9 => by have h8 := zt_tmb (f := (S0 1099)) (e := S0 1079 33) (p := S0 1079 32) hq9 h9 (by omega) (by omega); omega) (fun h9 => by have h8 := zt_tm0 (f := (S0 1099)) (e := S0 1079 33) (p := S0 1079 32) hq9 h9; omega), (Int.lt_or_le (S 1079 32) (S0 1079 33)).elim (fun h9 => by have h8 := zt_tmb (f := (S0 1099)) (e := S0 1079 33) (p := S0 1079 32) hq9 h9 (by omega) (by omega); omega) (fun h9 => by have h8 := zt_tm0 (f := (S0 1099)) (e := S0 1079 33) (p := S0 1079 32) hq9 h9; omega), by intro h9; omega⟩
                · refine zz_bipush (by decide) zd_14_49_279 ?_
                  refine zz_goto zd_14_49_281 ?_
                  refine zz_puti zd_14_49_285 zf_Md_347 zT_1079 rfl (zz_ltn hn rfl) (fun S283 qS283 => ?_)
                  have G_S283 := zz_G.put G_S qS283 0 102 rfl (by omega)
                  have F_S283 := zz_fr.puts F_S qS283 rfl
                  have e284 : S283 1079 32 = S 1079 32 := (zz_ro qS283 (fun h => absurd h.2 (by decide)) rfl)
                  have e285 : S283 1079 30 = 101 := (zz_rs qS283)
                  have g286 := zz_G.r G_S 1079 31 0 9999 rfl rfl
                  have e287 : S283 1079 31 = S 1079 31 := (zz_ro qS283 (fun h => absurd h.2 (by decide)) rfl)
                  exact zz_vret zd_14_49_288 rfl (Nat.zero_le _) (Nat.zero_le _) ⟨_, rfl, G_S283, F_S283, by omega, by omega, by omega, (Int.lt_or_le (S 1079 32) (S0 1079 33)).elim (fun h9 => by have h8 := zt_tmb (f := (S0 1099)) (e := S0 1079 33) (p := S0 1079 32) hq9 h9 (by omega) (by omega); omega) (fun h9 => by have h8 := zt_tm0 (f := (S0 1099)) (e := S0 1079 33) (p := S0 1079 32) hq9 h9; omega), (Int.lt_or_le (S 1079 32) (S0 1079 33)).elim (fun h9 => by have h8 := zt_tmb (f := (S0 1099)) (e := S0 1079 33) (p := S0 1079 32) hq9 h9 (by omega) (by omega); omega) (fun h9 => by have h8 := zt_tm0 (f := (S0 1099)) (e := S0 1079 33) (p := S0 1079 32) hq9 h9; omega), by intro h9; omega⟩
              · exfalso; omega
            · have n288 : 48 ≤ S0 1099 ((S 1079 32).toNat) ∧ S0 1099 ((S 1079 32).toNat) ≤ 57 := by omega
              clear o274
              refine zz_if_eq (by omega) zd_14_49_155 (fun c289 => ?_) (fun c289 => ?_)
              · exfalso; omega
              · refine zz_iconst zd_14_49_158 ?_
                refine zz_istore_n [some (.ref 1079), some (zi (S 1079 32)), some (zi (S0 1099 ((S 1079 32).toNat))), some (zi 0)] zd_14_49_159 (by decide) rfl ?_
                refine zz_less (ls1 := [some (.ref 1079), some (zi (S 1079 32)), none, some (zi 0)]) ⟨rfl, ⟨rfl, ⟨rfl, trivial⟩⟩⟩ ?_
                exact k160 (S 1079 32) 0 S G_S F_S (by omega) (by omega) (by omega) (by omega) (by omega) (by omega) ((zt_R0 (by omega)).symm.trans i0_3) (by omega) (by exact rfl) (zt_n40 ..).symm (by omega)
          · exfalso; omega
        · have n290 : 97 ≤ S0 1099 ((S 1079 32).toNat) ∧ S0 1099 ((S 1079 32).toNat) ≤ 122 := by omega
          clear o268
          refine zz_if_eq (by omega) zd_14_49_79 (fun c291 => ?_) (fun c291 => ?_)
          · exfalso; omega
          · refine zz_less (ls1 := [some (.ref 1079), some (zi (S 1079 32))]) ⟨rfl, ⟨rfl, trivial⟩⟩ ?_
            exact k82 (S 1079 32) S G_S F_S (by omega) (by omega) (by omega) (by omega) ((zt_R0 (by omega)).symm.trans i0_3) (by omega) (by exact rfl) (by omega)
    · refine zz_aload_n (x := 1079) rfl zd_14_49_25 ?_
      refine zz_dup rfl zd_14_49_26 ?_
      refine zz_geti (z := S 1079 32) zd_14_49_27 zf_Md_334 zT_1079 rfl (zz_ltn hn rfl) rfl ?_
      refine zz_iconst zd_14_49_30 ?_
      refine zz_iadd zd_14_49_31 ?_
      refine zz_puti zd_14_49_32 zf_Md_334 zT_1079 rfl (zz_ltn hn rfl) (fun S292 qS292 => ?_)
      have G_S292 := zz_G.put G_S qS292 0 1500 rfl (by omega)
      have F_S292 := zz_fr.puts F_S qS292 rfl
      refine zz_goto zd_14_49_35 ?_
      have e293 : S292 1079 32 = (S 1079 32) + 1 := (zz_rs qS292)
      exact k0 S292 G_S292 F_S292 (by omega) (by omega) (by omega) (by rw [show S292 1079 32 = S 1079 32 + 1 by omega, zt_RS (by omega) (by omega)]; exact i0_3) (by omega)
theorem zb_advance_14_49_82 {g : mm_G} {l : Launch}  (S0 : zz_S) (n : Nat) (hn : zz_end ≤ n) (G_S0 : zz_G S0) (hN : ∀ w : Nat, 1 ≤ w → w ≤ 20 → S0 1100 w = zt_cd (zt_nw.getD w [])) (x1 : Int) (S : zz_S) (G_S : zz_G S) (F_S : zz_fr [(1079, 30), (1079, 31), (1079, 32)] [] (fun _ _ => False) S0 S) (i82_0 : 0 ≤ x1 ∧ x1 ≤ 1500) (i82_1 : S0 1079 32 < S0 1079 33) (i82_2 : x1 ≥ S0 1079 32) (i82_3 : x1 < S 1079 32 ∨ (S 1079 32 = x1 ∧ x1 < S0 1079 33 ∧ 97 ≤ S0 1099 (S 1079 32).toNat ∧ S0 1099 (S 1079 32).toNat ≤ 122)) (i82_4 : x1 = zt_R 32 32 (S0 1099) (S0 1079 33) (S0 1079 32)) (i82_5 : x1 < S0 1079 33 ∧ 97 ≤ S0 1099 x1.toNat ∧ S0 1099 x1.toNat ≤ 122) (i82_6 : zt_R 97 122 (S0 1099) (S0 1079 33) (S 1079 32) = zt_R 97 122 (S0 1099) (S0 1079 33) x1) (R : Nat) (hR : (34359738368 + (S0 1079 33 - S 1079 32).toNat) = R) (k82 : ∀ (x1 : Int) (S : zz_S), zz_G S → zz_fr [(1079, 30), (1079, 31), (1079, 32)] [] (fun _ _ => False) S0 S → (0 ≤ x1 ∧ x1 ≤ 1500) → (S0 1079 32 < S0 1079 33) → (x1 ≥ S0 1079 32) → (x1 < S 1079 32 ∨ (S 1079 32 = x1 ∧ x1 < S0 1079 33 ∧ 97 ≤ S0 1099 (S 1079 32).toNat ∧ S0 1099 (S 1079 32).toNat ≤ 122)) → (x1 = zt_R 32 32 (S0 1099) (S0 1079 33) (S0 1079 32)) → (x1 < S0 1079 33 ∧ 97 ≤ S0 1099 x1.toNat ∧ S0 1099 x1.toNat ≤ 122) → (zt_R 97 122 (S0 1099) (S0 1079 33) (S 1079 32) = zt_R 97 122 (S0 1099) (S0 1079 33) x1) → (34359738368 + (S0 1079 33 - S 1079 32).toNat) < R → zz_E g l zy_advance_14_49 zr_advance_14_49 (zz_QV n (zp_advance_14_49  S0)) S n 82 [some (.ref 1079), some (zi x1)] [] 0 0) : zz_E g l zy_advance_14_49 zr_advance_14_49 (zz_QV n (zp_advance_14_49  S0)) S n 82 [some (.ref 1079), some (zi x1)] [] 0 0 := by
  refine zz_aload_n (x := 1079) rfl zd_14_49_82 ?_
  have g150 := zz_G.r G_S 1079 32 0 1500 rfl rfl
  refine zz_geti (z := S 1079 32) zd_14_49_83 zf_Md_334 zT_1079 rfl (zz_ltn hn rfl) rfl ?_
  refine zz_aload_n (x := 1079) rfl zd_14_49_86 ?_
  have g151 := zz_G.r G_S0 1079 33 0 1500 rfl rfl
  refine zz_geti (z := S0 1079 33) zd_14_49_87 zf_Md_337 zT_1079 rfl (zz_ltn hn rfl) (zz_rc F_S rfl rfl (fun h => h) rfl) ?_
  refine zz_icmp_ge (by omega) (by omega) zd_14_49_90 (fun c152 => ?_) (fun c152 => ?_)
  · have hr9 := zt_R0 (lo := 97) (hi := 122) (f := (S0 1099)) (e := S0 1079 33) (p := S 1079 32) (by omega)
    have ht9 := zt_tmw (f := (S0 1099)) (e := S0 1079 33) (p := S0 1079 32) (q := x1) (by omega) (by omega) (by omega)
    rw [show zt_R 97 122 (S0 1099) (S0 1079 33) x1 = S 1079 32 by omega] at ht9
    refine zz_aload_n (x := 1079) rfl zd_14_49_128 ?_
    refine zz_aload_n (x := 1079) rfl zd_14_49_129 ?_
    refine zz_iload_n (x := x1) rfl zd_14_49_130 ?_
    refine zz_aload_n (x := 1079) rfl zd_14_49_131 ?_
    refine zz_geti (z := S 1079 32) zd_14_49_132 zf_Md_334 zT_1079 rfl (zz_ltn hn rfl) rfl ?_
    refine zz_callVI [zi x1, zi (S 1079 32)] zd_14_49_135 zk_Md_344 zT_1079 (zz_ltn hn rfl) rfl rfl ⟨Nat.le_of_ble_eq_true rfl, Nat.le_of_ble_eq_true rfl⟩ ⟨rfl, rfl⟩ (Nat.zero_le _) (Nat.zero_le _) (zc_wordAt_14_50 x1 (S 1079 32) S n hn G_S (by omega) (by omega) (fun u h1 h2 => ((zz_rc F_S (zz_nc1 rfl) rfl (fun h => h) rfl)).trans (hN u h1 h2))) (fun v154 S153 hP => ?_)
    obtain ⟨rfl, o155, o156, o157⟩ := hP
    rw [show S 1099 = S0 1099 from funext (fun u => (zz_rc F_S (zz_nc1 rfl) rfl (fun h => h) rfl))] at o157
    refine zz_puti zd_14_49_138 zf_Md_347 zT_1079 rfl (zz_ltn hn rfl) (fun S158 qS158 => ?_)
    have G_S158 := zz_G.put G_S qS158 0 102 rfl (by omega)
    have F_S158 := zz_fr.puts F_S qS158 rfl
    refine zz_goto zd_14_49_141 ?_
    have e159 : S158 1079 32 = S 1079 32 := (zz_ro qS158 (fun h => absurd h.2 (by decide)) rfl)
    have e160 : S158 1079 30 = v154 := (zz_rs qS158)
    have g161 := zz_G.r G_S 1079 31 0 9999 rfl rfl
    have e162 : S158 1079 31 = S 1079 31 := (zz_ro qS158 (fun h => absurd h.2 (by decide)) rfl)
    exact zz_vret zd_14_49_288 rfl (Nat.zero_le _) (Nat.zero_le _) ⟨_, rfl, G_S158, F_S158, by omega, by omega, by omega, by omega, by omega, by intro h9; omega⟩
  · refine zz_aload_n (x := 1079) rfl zd_14_49_93 ?_
    refine zz_getr (kd := 0) (z := 1099) zd_14_49_94 zf_Md_76 zT_1079 rfl (zz_ltn hn rfl) (zz_G.eq G_S 1079 27 1099 rfl rfl) (by decide) 1099 rfl ?_
    refine zz_aload_n (x := 1079) rfl zd_14_49_97 ?_
    refine zz_geti (z := S 1079 32) zd_14_49_98 zf_Md_334 zT_1079 rfl (zz_ltn hn rfl) rfl ?_
    have g163 := zz_G.r G_S0 1099 ((S 1079 32).toNat) 0 255 rfl rfl
    refine zz_iald (z := S0 1099 ((S 1079 32).toNat)) zd_14_49_101 zT_1099 rfl (zz_ltn hn rfl) (by decide) (by omega) (zz_rc F_S (zz_nc1 rfl) rfl (fun h => h) rfl) ?_
    refine zz_i2l (by omega) zd_14_49_102 ?_
    refine zz_ldc2 (z := 97) zq_Md_340 (by decide) zd_14_49_103 ?_
    refine zz_ldc2 (z := 122) zq_Md_342 (by decide) zd_14_49_106 ?_
    refine zz_callSI [zl (S0 1099 ((S 1079 32).toNat)), zl 97, zl 122] zd_14_49_109 zk_Md_192 rfl rfl ⟨Nat.le_of_ble_eq_true rfl, Nat.le_of_ble_eq_true rfl⟩ ⟨rfl, rfl⟩ (Nat.zero_le _) (Nat.zero_le _) (zc_in_14_4 (S0 1099 ((S 1079 32).toNat)) 97 122 S n hn G_S (by omega) (by omega) (by omega)) (fun v165 S164 hP => ?_)
    obtain ⟨rfl, o166, o167⟩ := hP
    rcases (by omega : v165 = 0 ∨ v165 = 1) with rfl | rfl
    · have n168 : S0 1099 ((S 1079 32).toNat) < 97 ∨ 122 < S0 1099 ((S 1079 32).toNat) := by omega
      clear o167
      refine zz_if_eq (by omega) zd_14_49_112 (fun c169 => ?_) (fun c169 => ?_)
      · have hr9 := zt_R0 (lo := 97) (hi := 122) (f := (S0 1099)) (e := S0 1079 33) (p := S 1079 32) (by omega)
        have ht9 := zt_tmw (f := (S0 1099)) (e := S0 1079 33) (p := S0 1079 32) (q := x1) (by omega) (by omega) (by omega)
        rw [show zt_R 97 122 (S0 1099) (S0 1079 33) x1 = S 1079 32 by omega] at ht9
        refine zz_aload_n (x := 1079) rfl zd_14_49_128 ?_
        refine zz_aload_n (x := 1079) rfl zd_14_49_129 ?_
        refine zz_iload_n (x := x1) rfl zd_14_49_130 ?_
        refine zz_aload_n (x := 1079) rfl zd_14_49_131 ?_
        refine zz_geti (z := S 1079 32) zd_14_49_132 zf_Md_334 zT_1079 rfl (zz_ltn hn rfl) rfl ?_
        refine zz_callVI [zi x1, zi (S 1079 32)] zd_14_49_135 zk_Md_344 zT_1079 (zz_ltn hn rfl) rfl rfl ⟨Nat.le_of_ble_eq_true rfl, Nat.le_of_ble_eq_true rfl⟩ ⟨rfl, rfl⟩ (Nat.zero_le _) (Nat.zero_le _) (zc_wordAt_14_50 x1 (S 1079 32) S n hn G_S (by omega) (by omega) (fun u h1 h2 => ((zz_rc F_S (zz_nc1 rfl) rfl (fun h => h) rfl)).trans (hN u h1 h2))) (fun v171 S170 hP => ?_)
        obtain ⟨rfl, o172, o173, o174⟩ := hP
        rw [show S 1099 = S0 1099 from funext (fun u => (zz_rc F_S (zz_nc1 rfl) rfl (fun h => h) rfl))] at o174
        refine zz_puti zd_14_49_138 zf_Md_347 zT_1079 rfl (zz_ltn hn rfl) (fun S175 qS175 => ?_)
        have G_S175 := zz_G.put G_S qS175 0 102 rfl (by omega)
        have F_S175 := zz_fr.puts F_S qS175 rfl
        refine zz_goto zd_14_49_141 ?_
        have e176 : S175 1079 32 = S 1079 32 := (zz_ro qS175 (fun h => absurd h.2 (by decide)) rfl)
        have e177 : S175 1079 30 = v171 := (zz_rs qS175)
        have g178 := zz_G.r G_S 1079 31 0 9999 rfl rfl
        have e179 : S175 1079 31 = S 1079 31 := (zz_ro qS175 (fun h => absurd h.2 (by decide)) rfl)
        exact zz_vret zd_14_49_288 rfl (Nat.zero_le _) (Nat.zero_le _) ⟨_, rfl, G_S175, F_S175, by omega, by omega, by omega, by omega, by omega, by intro h9; omega⟩
      · exfalso; omega
    · have n180 : 97 ≤ S0 1099 ((S 1079 32).toNat) ∧ S0 1099 ((S 1079 32).toNat) ≤ 122 := by omega
      clear o167
      refine zz_if_eq (by omega) zd_14_49_112 (fun c181 => ?_) (fun c181 => ?_)
      · exfalso; omega
      · refine zz_aload_n (x := 1079) rfl zd_14_49_115 ?_
        refine zz_dup rfl zd_14_49_116 ?_
        refine zz_geti (z := S 1079 32) zd_14_49_117 zf_Md_334 zT_1079 rfl (zz_ltn hn rfl) rfl ?_
        refine zz_iconst zd_14_49_120 ?_
        refine zz_iadd zd_14_49_121 ?_
        refine zz_puti zd_14_49_122 zf_Md_334 zT_1079 rfl (zz_ltn hn rfl) (fun S182 qS182 => ?_)
        have G_S182 := zz_G.put G_S qS182 0 1500 rfl (by omega)
        have F_S182 := zz_fr.puts F_S qS182 rfl
        refine zz_goto zd_14_49_125 ?_
        have e183 : S182 1079 32 = (S 1079 32) + 1 := (zz_rs qS182)
        exact k82 x1 S182 G_S182 F_S182 (by omega) (by omega) (by omega) (by omega) i82_4 (by omega) (by rw [show S182 1079 32 = S 1079 32 + 1 by omega, zt_RS (by omega) (by omega)]; exact i82_6) (by omega)
theorem zb_advance_14_49_160 {g : mm_G} {l : Launch}  (S0 : zz_S) (n : Nat) (hn : zz_end ≤ n) (G_S0 : zz_G S0) (hN : ∀ w : Nat, 1 ≤ w → w ≤ 20 → S0 1100 w = zt_cd (zt_nw.getD w [])) (x1 : Int) (x3 : Int) (S : zz_S) (G_S : zz_G S) (F_S : zz_fr [(1079, 30), (1079, 31), (1079, 32)] [] (fun _ _ => False) S0 S) (i160_0 : 0 ≤ x1 ∧ x1 ≤ 1500) (i160_1 : 0 ≤ x3 ∧ x3 ≤ 9999) (i160_2 : S0 1079 32 < S0 1079 33) (i160_3 : x1 ≥ S0 1079 32) (i160_4 : x1 < S 1079 32 ∨ (S 1079 32 = x1 ∧ x1 < S0 1079 33 ∧ 48 ≤ S0 1099 (S 1079 32).toNat ∧ S0 1099 (S 1079 32).toNat ≤ 57)) (i160_5 : (S 1079 32 = x1 ∧ x3 = 0) ∨ (S 1079 32 = x1 + 1 ∧ x3 ≤ 9) ∨ (S 1079 32 = x1 + 2 ∧ x3 ≤ 99) ∨ (S 1079 32 = x1 + 3 ∧ x3 ≤ 999) ∨ S 1079 32 ≥ x1 + 4) (i160_6 : x1 = zt_R 32 32 (S0 1099) (S0 1079 33) (S0 1079 32)) (i160_7 : x1 < S0 1079 33 ∧ 48 ≤ S0 1099 x1.toNat ∧ S0 1099 x1.toNat ≤ 57) (i160_8 : zt_R 48 57 (S0 1099) (S0 1079 33) (S 1079 32) = zt_R 48 57 (S0 1099) (S0 1079 33) x1) (i160_9 : x3 = zt_n4 (S0 1099) x1 (S 1079 32 - x1)) (R : Nat) (hR : (17179869184 + (S0 1079 33 - S 1079 32).toNat) = R) (k160 : ∀ (x1 : Int) (x3 : Int) (S : zz_S), zz_G S → zz_fr [(1079, 30), (1079, 31), (1079, 32)] [] (fun _ _ => False) S0 S → (0 ≤ x1 ∧ x1 ≤ 1500) → (0 ≤ x3 ∧ x3 ≤ 9999) → (S0 1079 32 < S0 1079 33) → (x1 ≥ S0 1079 32) → (x1 < S 1079 32 ∨ (S 1079 32 = x1 ∧ x1 < S0 1079 33 ∧ 48 ≤ S0 1099 (S 1079 32).toNat ∧ S0 1099 (S 1079 32).toNat ≤ 57)) → ((S 1079 32 = x1 ∧ x3 = 0) ∨ (S 1079 32 = x1 + 1 ∧ x3 ≤ 9) ∨ (S 1079 32 = x1 + 2 ∧ x3 ≤ 99) ∨ (S 1079 32 = x1 + 3 ∧ x3 ≤ 999) ∨ S 1079 32 ≥ x1 + 4) → (x1 = zt_R 32 32 (S0 1099) (S0 1079 33) (S0 1079 32)) → (x1 < S0 1079 33 ∧ 48 ≤ S0 1099 x1.toNat ∧ S0 1099 x1.toNat ≤ 57) → (zt_R 48 57 (S0 1099) (S0 1079 33) (S 1079 32) = zt_R 48 57 (S0 1099) (S0 1079 33) x1) → (x3 = zt_n4 (S0 1099) x1 (S 1079 32 - x1)) → (17179869184 + (S0 1079 33 - S 1079 32).toNat) < R → zz_E g l zy_advance_14_49 zr_advance_14_49 (zz_QV n (zp_advance_14_49  S0)) S n 160 [some (.ref 1079), some (zi x1), none, some (zi x3)] [] 0 0) : zz_E g l zy_advance_14_49 zr_advance_14_49 (zz_QV n (zp_advance_14_49  S0)) S n 160 [some (.ref 1079), some (zi x1), none, some (zi x3)] [] 0 0 := by
  refine zz_aload_n (x := 1079) rfl zd_14_49_160 ?_
  have g111 := zz_G.r G_S 1079 32 0 1500 rfl rfl
  refine zz_geti (z := S 1079 32) zd_14_49_161 zf_Md_334 zT_1079 rfl (zz_ltn hn rfl) rfl ?_
  refine zz_aload_n (x := 1079) rfl zd_14_49_164 ?_
  have g112 := zz_G.r G_S0 1079 33 0 1500 rfl rfl
  refine zz_geti (z := S0 1079 33) zd_14_49_165 zf_Md_337 zT_1079 rfl (zz_ltn hn rfl) (zz_rc F_S rfl rfl (fun h => h) rfl) ?_
  refine zz_icmp_ge (by omega) (by omega) zd_14_49_168 (fun c113 => ?_) (fun c113 => ?_)
  · have hr9 := zt_R0 (lo := 48) (hi := 57) (f := (S0 1099)) (e := S0 1079 33) (p := S 1079 32) (by omega)
    have ht9 := zt_tmn (f := (S0 1099)) (e := S0 1079 33) (p := S0 1079 32) (q := x1) (by omega) (by omega) (by omega)
    rw [show zt_R 48 57 (S0 1099) (S0 1079 33) x1 = S 1079 32 by omega] at ht9
    have hv9 := zt_tvx (f := (S0 1099)) (e := S0 1079 33) (p := S0 1079 32) (q := x1) (x := S 1079 32) (by omega) (by omega)
    have hn9 := zt_n4v (f := (S0 1099)) (q := x1) (d := S 1079 32 - x1)
    refine zz_aload_n (x := 1079) rfl zd_14_49_238 ?_
    refine zz_aload_n (x := 1079) rfl zd_14_49_239 ?_
    refine zz_geti (z := S 1079 32) zd_14_49_240 zf_Md_334 zT_1079 rfl (zz_ltn hn rfl) rfl ?_
    refine zz_iload_n (x := x1) rfl zd_14_49_243 ?_
    refine zz_isub zd_14_49_244 ?_
    refine zz_iconst zd_14_49_245 ?_
    refine zz_icmp_le (by omega) (by omega) zd_14_49_246 (fun c114 => ?_) (fun c114 => ?_)
    · refine zz_bipush (by decide) zd_14_49_254 ?_
      refine zz_puti zd_14_49_256 zf_Md_347 zT_1079 rfl (zz_ltn hn rfl) (fun S115 qS115 => ?_)
      have G_S115 := zz_G.put G_S qS115 0 102 rfl (by omega)
      have F_S115 := zz_fr.puts F_S qS115 rfl
      refine zz_aload_n (x := 1079) rfl zd_14_49_259 ?_
      refine zz_iload_n (x := x3) rfl zd_14_49_260 ?_
      refine zz_puti zd_14_49_261 zf_Md_354 zT_1079 rfl (zz_ltn hn rfl) (fun S116 qS116 => ?_)
      have G_S116 := zz_G.put G_S115 qS116 0 9999 rfl (by omega)
      have F_S116 := zz_fr.puts F_S115 qS116 rfl
      refine zz_goto zd_14_49_264 ?_
      have e117 : S116 1079 32 = S 1079 32 := (zz_ro qS116 (fun h => absurd h.2 (by decide)) (zz_ro qS115 (fun h => absurd h.2 (by decide)) rfl))
      have e118 : S116 1079 30 = 100 := (zz_ro qS116 (fun h => absurd h.2 (by decide)) (zz_rs qS115))
      have e119 : S116 1079 31 = x3 := (zz_rs qS116)
      exact zz_vret zd_14_49_288 rfl (Nat.zero_le _) (Nat.zero_le _) ⟨_, rfl, G_S116, F_S116, by omega, by omega, by omega, (by rw [ht9.1]; split <;> omega), by omega, fun h9 => by omega⟩
    · refine zz_bipush (by decide) zd_14_49_249 ?_
      refine zz_goto zd_14_49_251 ?_
      refine zz_puti zd_14_49_256 zf_Md_347 zT_1079 rfl (zz_ltn hn rfl) (fun S120 qS120 => ?_)
      have G_S120 := zz_G.put G_S qS120 0 102 rfl (by omega)
      have F_S120 := zz_fr.puts F_S qS120 rfl
      refine zz_aload_n (x := 1079) rfl zd_14_49_259 ?_
      refine zz_iload_n (x := x3) rfl zd_14_49_260 ?_
      refine zz_puti zd_14_49_261 zf_Md_354 zT_1079 rfl (zz_ltn hn rfl) (fun S121 qS121 => ?_)
      have G_S121 := zz_G.put G_S120 qS121 0 9999 rfl (by omega)
      have F_S121 := zz_fr.puts F_S120 qS121 rfl
      refine zz_goto zd_14_49_264 ?_
      have e122 : S121 1079 32 = S 1079 32 := (zz_ro qS121 (fun h => absurd h.2 (by decide)) (zz_ro qS120 (fun h => absurd h.2 (by decide)) rfl))
      have e123 : S121 1079 30 = 101 := (zz_ro qS121 (fun h => absurd h.2 (by decide)) (zz_rs qS120))
      have e124 : S121 1079 31 = x3 := (zz_rs qS121)
      exact zz_vret zd_14_49_288 rfl (Nat.zero_le _) (Nat.zero_le _) ⟨_, rfl, G_S121, F_S121, by omega, by omega, by omega, (by rw [ht9.1]; split <;> omega), by omega, fun h9 => by omega⟩
  · refine zz_aload_n (x := 1079) rfl zd_14_49_171 ?_
    refine zz_getr (kd := 0) (z := 1099) zd_14_49_172 zf_Md_76 zT_1079 rfl (zz_ltn hn rfl) (zz_G.eq G_S 1079 27 1099 rfl rfl) (by decide) 1099 rfl ?_
    refine zz_aload_n (x := 1079) rfl zd_14_49_175 ?_
    refine zz_geti (z := S 1079 32) zd_14_49_176 zf_Md_334 zT_1079 rfl (zz_ltn hn rfl) rfl ?_
    have g125 := zz_G.r G_S0 1099 ((S 1079 32).toNat) 0 255 rfl rfl
    refine zz_iald (z := S0 1099 ((S 1079 32).toNat)) zd_14_49_179 zT_1099 rfl (zz_ltn hn rfl) (by decide) (by omega) (zz_rc F_S (zz_nc1 rfl) rfl (fun h => h) rfl) ?_
    refine zz_i2l (by omega) zd_14_49_180 ?_
    refine zz_ldc2 (z := 48) zq_Md_350 (by decide) zd_14_49_181 ?_
    refine zz_ldc2 (z := 57) zq_Md_352 (by decide) zd_14_49_184 ?_
    refine zz_callSI [zl (S0 1099 ((S 1079 32).toNat)), zl 48, zl 57] zd_14_49_187 zk_Md_192 rfl rfl ⟨Nat.le_of_ble_eq_true rfl, Nat.le_of_ble_eq_true rfl⟩ ⟨rfl, rfl⟩ (Nat.zero_le _) (Nat.zero_le _) (zc_in_14_4 (S0 1099 ((S 1079 32).toNat)) 48 57 S n hn G_S (by omega) (by omega) (by omega)) (fun v127 S126 hP => ?_)
    obtain ⟨rfl, o128, o129⟩ := hP
    rcases (by omega : v127 = 0 ∨ v127 = 1) with rfl | rfl
    · have n130 : S0 1099 ((S 1079 32).toNat) < 48 ∨ 57 < S0 1099 ((S 1079 32).toNat) := by omega
      clear o129
      refine zz_if_eq (by omega) zd_14_49_190 (fun c131 => ?_) (fun c131 => ?_)
      · have hr9 := zt_R0 (lo := 48) (hi := 57) (f := (S0 1099)) (e := S0 1079 33) (p := S 1079 32) (by omega)
        have ht9 := zt_tmn (f := (S0 1099)) (e := S0 1079 33) (p := S0 1079 32) (q := x1) (by omega) (by omega) (by omega)
        rw [show zt_R 48 57 (S0 1099) (S0 1079 33) x1 = S 1079 32 by omega] at ht9
        have hv9 := zt_tvx (f := (S0 1099)) (e := S0 1079 33) (p := S0 1079 32) (q := x1) (x := S 1079 32) (by omega) (by omega)
        have hn9 := zt_n4v (f := (S0 1099)) (q := x1) (d := S 1079 32 - x1)
        refine zz_aload_n (x := 1079) rfl zd_14_49_238 ?_
        refine zz_aload_n (x := 1079) rfl zd_14_49_239 ?_
        refine zz_geti (z := S 1079 32) zd_14_49_240 zf_Md_334 zT_1079 rfl (zz_ltn hn rfl) rfl ?_
        refine zz_iload_n (x := x1) rfl zd_14_49_243 ?_
        refine zz_isub zd_14_49_244 ?_
        refine zz_iconst zd_14_49_245 ?_
        refine zz_icmp_le (by omega) (by omega) zd_14_49_246 (fun c132 => ?_) (fun c132 => ?_)
        · refine zz_bipush (by decide) zd_14_49_254 ?_
          refine zz_puti zd_14_49_256 zf_Md_347 zT_1079 rfl (zz_ltn hn rfl) (fun S133 qS133 => ?_)
          have G_S133 := zz_G.put G_S qS133 0 102 rfl (by omega)
          have F_S133 := zz_fr.puts F_S qS133 rfl
          refine zz_aload_n (x := 1079) rfl zd_14_49_259 ?_
          refine zz_iload_n (x := x3) rfl zd_14_49_260 ?_
          refine zz_puti zd_14_49_261 zf_Md_354 zT_1079 rfl (zz_ltn hn rfl) (fun S134 qS134 => ?_)
          have G_S134 := zz_G.put G_S133 qS134 0 9999 rfl (by omega)
          have F_S134 := zz_fr.puts F_S133 qS134 rfl
          refine zz_goto zd_14_49_264 ?_
          have e135 : S134 1079 32 = S 1079 32 := (zz_ro qS134 (fun h => absurd h.2 (by decide)) (zz_ro qS133 (fun h => absurd h.2 (by decide)) rfl))
          have e136 : S134 1079 30 = 100 := (zz_ro qS134 (fun h => absurd h.2 (by decide)) (zz_rs qS133))
          have e137 : S134 1079 31 = x3 := (zz_rs qS134)
          exact zz_vret zd_14_49_288 rfl (Nat.zero_le _) (Nat.zero_le _) ⟨_, rfl, G_S134, F_S134, by omega, by omega, by omega, (by rw [ht9.1]; split <;> omega), by omega, fun h9 => by omega⟩
        · refine zz_bipush (by decide) zd_14_49_249 ?_
          refine zz_goto zd_14_49_251 ?_
          refine zz_puti zd_14_49_256 zf_Md_347 zT_1079 rfl (zz_ltn hn rfl) (fun S138 qS138 => ?_)
          have G_S138 := zz_G.put G_S qS138 0 102 rfl (by omega)
          have F_S138 := zz_fr.puts F_S qS138 rfl
          refine zz_aload_n (x := 1079) rfl zd_14_49_259 ?_
          refine zz_iload_n (x := x3) rfl zd_14_49_260 ?_
          refine zz_puti zd_14_49_261 zf_Md_354 zT_1079 rfl (zz_ltn hn rfl) (fun S139 qS139 => ?_)
          have G_S139 := zz_G.put G_S138 qS139 0 9999 rfl (by omega)
          have F_S139 := zz_fr.puts F_S138 qS139 rfl
          refine zz_goto zd_14_49_264 ?_
          have e140 : S139 1079 32 = S 1079 32 := (zz_ro qS139 (fun h => absurd h.2 (by decide)) (zz_ro qS138 (fun h => absurd h.2 (by decide)) rfl))
          have e141 : S139 1079 30 = 101 := (zz_ro qS139 (fun h => absurd h.2 (by decide)) (zz_rs qS138))
          have e142 : S139 1079 31 = x3 := (zz_rs qS139)
          exact zz_vret zd_14_49_288 rfl (Nat.zero_le _) (Nat.zero_le _) ⟨_, rfl, G_S139, F_S139, by omega, by omega, by omega, (by rw [ht9.1]; split <;> omega), by omega, fun h9 => by omega⟩
      · exfalso; omega
    · have n143 : 48 ≤ S0 1099 ((S 1079 32).toNat) ∧ S0 1099 ((S 1079 32).toNat) ≤ 57 := by omega
      clear o129
      refine zz_if_eq (by omega) zd_14_49_190 (fun c144 => ?_) (fun c144 => ?_)
      · exfalso; omega
      · refine zz_aload_n (x := 1079) rfl zd_14_49_193 ?_
        refine zz_geti (z := S 1079 32) zd_14_49_194 zf_Md_334 zT_1079 rfl (zz_ltn hn rfl) rfl ?_
        refine zz_iload_n (x := x1) rfl zd_14_49_197 ?_
        refine zz_isub zd_14_49_198 ?_
        refine zz_iconst zd_14_49_199 ?_
        refine zz_icmp_ge (by omega) (by omega) zd_14_49_200 (fun c145 => ?_) (fun c145 => ?_)
        · refine zz_iload_n (x := x3) rfl zd_14_49_223 ?_
          refine zz_istore_n [some (.ref 1079), some (zi x1), none, some (zi x3)] zd_14_49_224 (by decide) rfl ?_
          refine zz_aload_n (x := 1079) rfl zd_14_49_225 ?_
          refine zz_dup rfl zd_14_49_226 ?_
          refine zz_geti (z := S 1079 32) zd_14_49_227 zf_Md_334 zT_1079 rfl (zz_ltn hn rfl) rfl ?_
          refine zz_iconst zd_14_49_230 ?_
          refine zz_iadd zd_14_49_231 ?_
          refine zz_puti zd_14_49_232 zf_Md_334 zT_1079 rfl (zz_ltn hn rfl) (fun S146 qS146 => ?_)
          have G_S146 := zz_G.put G_S qS146 0 1500 rfl (by omega)
          have F_S146 := zz_fr.puts F_S qS146 rfl
          refine zz_goto zd_14_49_235 ?_
          have e147 : S146 1079 32 = (S 1079 32) + 1 := (zz_rs qS146)
          exact k160 x1 x3 S146 G_S146 F_S146 (by omega) (by omega) (by omega) (by omega) (by omega) (by omega) i160_6 (by omega) (by rw [show S146 1079 32 = S 1079 32 + 1 by omega, zt_RS (by omega) (by omega)]; exact i160_8) (zt_n4S (p := S 1079 32) (by omega) (by omega) (by omega) (by omega) i160_9) (by omega)
        · refine zz_bipush (by decide) zd_14_49_203 ?_
          refine zz_iload_n (x := x3) rfl zd_14_49_205 ?_
          refine zz_imul zd_14_49_206 ?_
          refine zz_aload_n (x := 1079) rfl zd_14_49_207 ?_
          refine zz_getr (kd := 0) (z := 1099) zd_14_49_208 zf_Md_76 zT_1079 rfl (zz_ltn hn rfl) (zz_G.eq G_S 1079 27 1099 rfl rfl) (by decide) 1099 rfl ?_
          refine zz_aload_n (x := 1079) rfl zd_14_49_211 ?_
          refine zz_geti (z := S 1079 32) zd_14_49_212 zf_Md_334 zT_1079 rfl (zz_ltn hn rfl) rfl ?_
          refine zz_iald (z := S0 1099 ((S 1079 32).toNat)) zd_14_49_215 zT_1099 rfl (zz_ltn hn rfl) (by decide) (by omega) (zz_rc F_S (zz_nc1 rfl) rfl (fun h => h) rfl) ?_
          refine zz_iadd zd_14_49_216 ?_
          refine zz_bipush (by decide) zd_14_49_217 ?_
          refine zz_isub zd_14_49_219 ?_
          refine zz_goto zd_14_49_220 ?_
          refine zz_istore_n [some (.ref 1079), some (zi x1), none, some (zi (((10 * x3) + (S0 1099 ((S 1079 32).toNat))) - 48))] zd_14_49_224 (by decide) rfl ?_
          refine zz_aload_n (x := 1079) rfl zd_14_49_225 ?_
          refine zz_dup rfl zd_14_49_226 ?_
          refine zz_geti (z := S 1079 32) zd_14_49_227 zf_Md_334 zT_1079 rfl (zz_ltn hn rfl) rfl ?_
          refine zz_iconst zd_14_49_230 ?_
          refine zz_iadd zd_14_49_231 ?_
          refine zz_puti zd_14_49_232 zf_Md_334 zT_1079 rfl (zz_ltn hn rfl) (fun S148 qS148 => ?_)
          have G_S148 := zz_G.put G_S qS148 0 1500 rfl (by omega)
          have F_S148 := zz_fr.puts F_S qS148 rfl
          refine zz_goto zd_14_49_235 ?_
          have e149 : S148 1079 32 = (S 1079 32) + 1 := (zz_rs qS148)
          refine zz_less (ls1 := [some (.ref 1079), some (zi x1), none, some (zi (((10 * x3) + (S0 1099 ((S 1079 32).toNat))) - 48))]) ⟨rfl, ⟨rfl, ⟨rfl, trivial⟩⟩⟩ ?_
          exact k160 x1 (((10 * x3) + (S0 1099 ((S 1079 32).toNat))) - 48) S148 G_S148 F_S148 (by omega) (by omega) (by omega) (by omega) (by omega) (by omega) i160_6 (by omega) (by rw [show S148 1079 32 = S 1079 32 + 1 by omega, zt_RS (by omega) (by omega)]; exact i160_8) (zt_n4S (p := S 1079 32) (by omega) (by omega) (by omega) (by omega) i160_9) (by omega)
theorem zi_advance_14_49 {g : mm_G} {l : Launch}  (S0 : zz_S) (n : Nat) (hn : zz_end ≤ n) (G_S0 : zz_G S0) (hN : ∀ w : Nat, 1 ≤ w → w ≤ 20 → S0 1100 w = zt_cd (zt_nw.getD w [])) : ∀ N : Nat, (∀  (S : zz_S), zz_G S → zz_fr [(1079, 30), (1079, 31), (1079, 32)] [] (fun _ _ => False) S0 S → (S0 1079 32 < S0 1079 33) → (S0 1099 ((S0 1079 32).toNat) = 32) → (S 1079 32 ≥ S0 1079 32) → (zt_R 32 32 (S0 1099) (S0 1079 33) (S 1079 32) = zt_R 32 32 (S0 1099) (S0 1079 33) (S0 1079 32)) → (51539607552 + (S0 1079 33 - S 1079 32).toNat) < N → zz_E g l zy_advance_14_49 zr_advance_14_49 (zz_QV n (zp_advance_14_49  S0)) S n 0 [some (.ref 1079)] [] 0 0) ∧ (∀ (x1 : Int) (S : zz_S), zz_G S → zz_fr [(1079, 30), (1079, 31), (1079, 32)] [] (fun _ _ => False) S0 S → (0 ≤ x1 ∧ x1 ≤ 1500) → (S0 1079 32 < S0 1079 33) → (x1 ≥ S0 1079 32) → (x1 < S 1079 32 ∨ (S 1079 32 = x1 ∧ x1 < S0 1079 33 ∧ 97 ≤ S0 1099 (S 1079 32).toNat ∧ S0 1099 (S 1079 32).toNat ≤ 122)) → (x1 = zt_R 32 32 (S0 1099) (S0 1079 33) (S0 1079 32)) → (x1 < S0 1079 33 ∧ 97 ≤ S0 1099 x1.toNat ∧ S0 1099 x1.toNat ≤ 122) → (zt_R 97 122 (S0 1099) (S0 1079 33) (S 1079 32) = zt_R 97 122 (S0 1099) (S0 1079 33) x1) → (34359738368 + (S0 1079 33 - S 1079 32).toNat) < N → zz_E g l zy_advance_14_49 zr_advance_14_49 (zz_QV n (zp_advance_14_49  S0)) S n 82 [some (.ref 1079), some (zi x1)] [] 0 0) ∧ (∀ (x1 : Int) (x3 : Int) (S : zz_S), zz_G S → zz_fr [(1079, 30), (1079, 31), (1079, 32)] [] (fun _ _ => False) S0 S → (0 ≤ x1 ∧ x1 ≤ 1500) → (0 ≤ x3 ∧ x3 ≤ 9999) → (S0 1079 32 < S0 1079 33) → (x1 ≥ S0 1079 32) → (x1 < S 1079 32 ∨ (S 1079 32 = x1 ∧ x1 < S0 1079 33 ∧ 48 ≤ S0 1099 (S 1079 32).toNat ∧ S0 1099 (S 1079 32).toNat ≤ 57)) → ((S 1079 32 = x1 ∧ x3 = 0) ∨ (S 1079 32 = x1 + 1 ∧ x3 ≤ 9) ∨ (S 1079 32 = x1 + 2 ∧ x3 ≤ 99) ∨ (S 1079 32 = x1 + 3 ∧ x3 ≤ 999) ∨ S 1079 32 ≥ x1 + 4) → (x1 = zt_R 32 32 (S0 1099) (S0 1079 33) (S0 1079 32)) → (x1 < S0 1079 33 ∧ 48 ≤ S0 1099 x1.toNat ∧ S0 1099 x1.toNat ≤ 57) → (zt_R 48 57 (S0 1099) (S0 1079 33) (S 1079 32) = zt_R 48 57 (S0 1099) (S0 1079 33) x1) → (x3 = zt_n4 (S0 1099) x1 (S 1079 32 - x1)) → (17179869184 + (S0 1079 33 - S 1079 32).toNat) < N → zz_E g l zy_advance_14_49 zr_advance_14_49 (zz_QV n (zp_advance_14_49  S0)) S n 160 [some (.ref 1079), some (zi x1), none, some (zi x3)] [] 0 0) := by
  intro N
  induction N with
  | zero => exact ⟨fun  S _ _ _ _ _ _ h => absurd h (Nat.not_lt_zero _), fun x1 S _ _ _ _ _ _ _ _ _ h => absurd h (Nat.not_lt_zero _), fun x1 x3 S _ _ _ _ _ _ _ _ _ _ _ _ h => absurd h (Nat.not_lt_zero _)⟩
  | succ N ih =>
    exact ⟨fun  S a b j0 j1 j2 j3 hR => zb_advance_14_49_0  S0 n hn G_S0 hN  S a b j0 j1 j2 j3 _ rfl (fun  S a b j0 j1 j2 j3 h => ih.1  S a b j0 j1 j2 j3 (Nat.lt_of_lt_of_le h (Nat.le_of_lt_succ hR))) (fun x1 S a b j0 j1 j2 j3 j4 j5 j6 h => ih.2.1 x1 S a b j0 j1 j2 j3 j4 j5 j6 (Nat.lt_of_lt_of_le h (Nat.le_of_lt_succ hR))) (fun x1 x3 S a b j0 j1 j2 j3 j4 j5 j6 j7 j8 j9 h => ih.2.2 x1 x3 S a b j0 j1 j2 j3 j4 j5 j6 j7 j8 j9 (Nat.lt_of_lt_of_le h (Nat.le_of_lt_succ hR))),
      fun x1 S a b j0 j1 j2 j3 j4 j5 j6 hR => zb_advance_14_49_82  S0 n hn G_S0 hN x1 S a b j0 j1 j2 j3 j4 j5 j6 _ rfl (fun x1 S a b j0 j1 j2 j3 j4 j5 j6 h => ih.2.1 x1 S a b j0 j1 j2 j3 j4 j5 j6 (Nat.lt_of_lt_of_le h (Nat.le_of_lt_succ hR))),
      fun x1 x3 S a b j0 j1 j2 j3 j4 j5 j6 j7 j8 j9 hR => zb_advance_14_49_160  S0 n hn G_S0 hN x1 x3 S a b j0 j1 j2 j3 j4 j5 j6 j7 j8 j9 _ rfl (fun x1 x3 S a b j0 j1 j2 j3 j4 j5 j6 j7 j8 j9 h => ih.2.2 x1 x3 S a b j0 j1 j2 j3 j4 j5 j6 j7 j8 j9 (Nat.lt_of_lt_of_le h (Nat.le_of_lt_succ hR)))⟩
theorem zc_advance_14_49 {g : mm_G} {l : Launch}  (S0 : zz_S) (n : Nat) (hn : zz_end ≤ n) (G_S0 : zz_G S0) (hN : ∀ w : Nat, 1 ≤ w → w ≤ 20 → S0 1100 w = zt_cd (zt_nw.getD w [])) : mm_Met g l zy_advance_14_49 zr_advance_14_49 [.ref 1079] (zz_M S0 n) n (zz_QV n (zp_advance_14_49  S0)) := by
  refine zz_enter (by decide) (Nat.le_of_ble_eq_true rfl) (zz_less (ls1 := [some (.ref 1079)]) ⟨rfl, trivial⟩ ?_)
  have F_S0 : zz_fr [(1079, 30), (1079, 31), (1079, 32)] [] (fun _ _ => False) S0 S0 := zz_fr.refl
  have k0 : ∀  (S : zz_S), zz_G S → zz_fr [(1079, 30), (1079, 31), (1079, 32)] [] (fun _ _ => False) S0 S → (S0 1079 32 < S0 1079 33) → (S0 1099 ((S0 1079 32).toNat) = 32) → (S 1079 32 ≥ S0 1079 32) → (zt_R 32 32 (S0 1099) (S0 1079 33) (S 1079 32) = zt_R 32 32 (S0 1099) (S0 1079 33) (S0 1079 32)) → zz_E g l zy_advance_14_49 zr_advance_14_49 (zz_QV n (zp_advance_14_49  S0)) S n 0 [some (.ref 1079)] [] 0 0 := fun  S a b j0 j1 j2 j3 => (zi_advance_14_49 (g := g) (l := l)  S0 n hn G_S0 hN _).1  S a b j0 j1 j2 j3 (Nat.lt_succ_self _)
  have k82 : ∀ (x1 : Int) (S : zz_S), zz_G S → zz_fr [(1079, 30), (1079, 31), (1079, 32)] [] (fun _ _ => False) S0 S → (0 ≤ x1 ∧ x1 ≤ 1500) → (S0 1079 32 < S0 1079 33) → (x1 ≥ S0 1079 32) → (x1 < S 1079 32 ∨ (S 1079 32 = x1 ∧ x1 < S0 1079 33 ∧ 97 ≤ S0 1099 (S 1079 32).toNat ∧ S0 1099 (S 1079 32).toNat ≤ 122)) → (x1 = zt_R 32 32 (S0 1099) (S0 1079 33) (S0 1079 32)) → (x1 < S0 1079 33 ∧ 97 ≤ S0 1099 x1.toNat ∧ S0 1099 x1.toNat ≤ 122) → (zt_R 97 122 (S0 1099) (S0 1079 33) (S 1079 32) = zt_R 97 122 (S0 1099) (S0 1079 33) x1) → zz_E g l zy_advance_14_49 zr_advance_14_49 (zz_QV n (zp_advance_14_49  S0)) S n 82 [some (.ref 1079), some (zi x1)] [] 0 0 := fun x1 S a b j0 j1 j2 j3 j4 j5 j6 => (zi_advance_14_49 (g := g) (l := l)  S0 n hn G_S0 hN _).2.1 x1 S a b j0 j1 j2 j3 j4 j5 j6 (Nat.lt_succ_self _)
  have k160 : ∀ (x1 : Int) (x3 : Int) (S : zz_S), zz_G S → zz_fr [(1079, 30), (1079, 31), (1079, 32)] [] (fun _ _ => False) S0 S → (0 ≤ x1 ∧ x1 ≤ 1500) → (0 ≤ x3 ∧ x3 ≤ 9999) → (S0 1079 32 < S0 1079 33) → (x1 ≥ S0 1079 32) → (x1 < S 1079 32 ∨ (S 1079 32 = x1 ∧ x1 < S0 1079 33 ∧ 48 ≤ S0 1099 (S 1079 32).toNat ∧ S0 1099 (S 1079 32).toNat ≤ 57)) → ((S 1079 32 = x1 ∧ x3 = 0) ∨ (S 1079 32 = x1 + 1 ∧ x3 ≤ 9) ∨ (S 1079 32 = x1 + 2 ∧ x3 ≤ 99) ∨ (S 1079 32 = x1 + 3 ∧ x3 ≤ 999) ∨ S 1079 32 ≥ x1 + 4) → (x1 = zt_R 32 32 (S0 1099) (S0 1079 33) (S0 1079 32)) → (x1 < S0 1079 33 ∧ 48 ≤ S0 1099 x1.toNat ∧ S0 1099 x1.toNat ≤ 57) → (zt_R 48 57 (S0 1099) (S0 1079 33) (S 1079 32) = zt_R 48 57 (S0 1099) (S0 1079 33) x1) → (x3 = zt_n4 (S0 1099) x1 (S 1079 32 - x1)) → zz_E g l zy_advance_14_49 zr_advance_14_49 (zz_QV n (zp_advance_14_49  S0)) S n 160 [some (.ref 1079), some (zi x1), none, some (zi x3)] [] 0 0 := fun x1 x3 S a b j0 j1 j2 j3 j4 j5 j6 j7 j8 j9 => (zi_advance_14_49 (g := g) (l := l)  S0 n hn G_S0 hN _).2.2 x1 x3 S a b j0 j1 j2 j3 j4 j5 j6 j7 j8 j9 (Nat.lt_succ_self _)
  refine zz_aload_n (x := 1079) rfl zd_14_49_0 ?_
  have g1 := zz_G.r G_S0 1079 32 0 1500 rfl rfl
  refine zz_geti (z := S0 1079 32) zd_14_49_1 zf_Md_334 zT_1079 rfl (zz_ltn hn rfl) rfl ?_
  refine zz_aload_n (x := 1079) rfl zd_14_49_4 ?_
  have g2 := zz_G.r G_S0 1079 33 0 1500 rfl rfl
  refine zz_geti (z := S0 1079 33) zd_14_49_5 zf_Md_337 zT_1079 rfl (zz_ltn hn rfl) rfl ?_
  refine zz_icmp_ge (by omega) (by omega) zd_14_49_8 (fun c3 => ?_) (fun c3 => ?_)
  · refine zz_aload_n (x := 1079) rfl zd_14_49_38 ?_
    refine zz_geti (z := S0 1079 32) zd_14_49_39 zf_Md_334 zT_1079 rfl (zz_ltn hn rfl) rfl ?_
    refine zz_istore_n [some (.ref 1079), some (zi (S0 1079 32))] zd_14_49_42 (by decide) rfl ?_
    refine zz_aload_n (x := 1079) rfl zd_14_49_43 ?_
    refine zz_geti (z := S0 1079 32) zd_14_49_44 zf_Md_334 zT_1079 rfl (zz_ltn hn rfl) rfl ?_
    refine zz_aload_n (x := 1079) rfl zd_14_49_47 ?_
    refine zz_geti (z := S0 1079 33) zd_14_49_48 zf_Md_337 zT_1079 rfl (zz_ltn hn rfl) rfl ?_
    refine zz_icmp_ge (by omega) (by omega) zd_14_49_51 (fun c4 => ?_) (fun c4 => ?_)
    · refine zz_iconst zd_14_49_66 ?_
      refine zz_istore_n [some (.ref 1079), some (zi (S0 1079 32)), some (zi 0)] zd_14_49_67 (by decide) rfl ?_
      refine zz_iload_n (x := 0) rfl zd_14_49_68 ?_
      refine zz_i2l (by omega) zd_14_49_69 ?_
      refine zz_ldc2 (z := 97) zq_Md_340 (by decide) zd_14_49_70 ?_
      refine zz_ldc2 (z := 122) zq_Md_342 (by decide) zd_14_49_73 ?_
      refine zz_callSI [zl 0, zl 97, zl 122] zd_14_49_76 zk_Md_192 rfl rfl ⟨Nat.le_of_ble_eq_true rfl, Nat.le_of_ble_eq_true rfl⟩ ⟨rfl, rfl⟩ (Nat.zero_le _) (Nat.zero_le _) (zc_in_14_4 0 97 122 S0 n hn G_S0 (by omega) (by omega) (by omega)) (fun v6 S5 hP => ?_)
      obtain ⟨rfl, o7, o8⟩ := hP
      rcases (by omega : v6 = 0 ∨ v6 = 1) with rfl | rfl
      · have n9 : 0 < 97 ∨ 122 < 0 := by omega
        clear o8
        refine zz_if_eq (by omega) zd_14_49_79 (fun c10 => ?_) (fun c10 => ?_)
        · refine zz_iload_n (x := 0) rfl zd_14_49_144 ?_
          refine zz_i2l (by omega) zd_14_49_145 ?_
          refine zz_ldc2 (z := 48) zq_Md_350 (by decide) zd_14_49_146 ?_
          refine zz_ldc2 (z := 57) zq_Md_352 (by decide) zd_14_49_149 ?_
          refine zz_callSI [zl 0, zl 48, zl 57] zd_14_49_152 zk_Md_192 rfl rfl ⟨Nat.le_of_ble_eq_true rfl, Nat.le_of_ble_eq_true rfl⟩ ⟨rfl, rfl⟩ (Nat.zero_le _) (Nat.zero_le _) (zc_in_14_4 0 48 57 S0 n hn G_S0 (by omega) (by omega) (by omega)) (fun v12 S11 hP => ?_)
          obtain ⟨rfl, o13, o14⟩ := hP
          rcases (by omega : v12 = 0 ∨ v12 = 1) with rfl | rfl
          · have n15 : 0 < 48 ∨ 57 < 0 := by omega
            clear o14
            refine zz_if_eq (by omega) zd_14_49_155 (fun c16 => ?_) (fun c16 => ?_)
            · have hq9 : S0 1079 32 = zt_R 32 32 (S0 1099) (S0 1079 33) (S0 1079 32) := (zt_R0 (by omega)).symm
              refine zz_aload_n (x := 1079) rfl zd_14_49_267 ?_
              refine zz_aload_n (x := 1079) rfl zd_14_49_268 ?_
              refine zz_geti (z := S0 1079 32) zd_14_49_269 zf_Md_334 zT_1079 rfl (zz_ltn hn rfl) rfl ?_
              refine zz_aload_n (x := 1079) rfl zd_14_49_272 ?_
              refine zz_geti (z := S0 1079 33) zd_14_49_273 zf_Md_337 zT_1079 rfl (zz_ltn hn rfl) rfl ?_
              refine zz_icmp_ge (by omega) (by omega) zd_14_49_276 (fun c17 => ?_) (fun c17 => ?_)
              · refine zz_iconst zd_14_49_284 ?_
                refine zz_puti zd_14_49_285 zf_Md_347 zT_1079 rfl (zz_ltn hn rfl) (fun S18 qS18 => ?_)
                have G_S18 := zz_G.put G_S0 qS18 0 102 rfl (by omega)
                have F_S18 := zz_fr.puts F_S0 qS18 rfl
                have e19 : S18 1079 32 = S0 1079 32 := (zz_ro qS18 (fun h => absurd h.2 (by decide)) rfl)
                have e20 : S18 1079 30 = 0 := (zz_rs qS18)
                have g21 := zz_G.r G_S0 1079 31 0 9999 rfl rfl
                have e22 : S18 1079 31 = S0 1079 31 := (zz_ro qS18 (fun h => absurd h.2 (by decide)) rfl)
                exact zz_vret zd_14_49_288 rfl (Nat.zero_le _) (Nat.zero_le _) ⟨_, rfl, G_S18, F_S18, by omega, by omega, by omega, (Int.lt_or_le (S0 1079 32) (S0 1079 33)).elim (fun h9 => by have h8 := zt_tmb (f := (S0 1099)) (e := S0 1079 33) (p := S0 1079 32) hq9 h9 (by omega) (by omega); omega) (fun h9 => by have h8 := zt_tm0 (f := (S0 1099)) (e := S0 1079 33) (p := S0 1079 32) hq9 h9; omega), (Int.lt_or_le (S0 1079 32) (S0 1079 33)).elim (fun h9 => by have h8 := zt_tmb (f := (S0 1099)) (e := S0 1079 33) (p := S0 1079 32) hq9 h9 (by omega) (by omega); omega) (fun h9 => by have h8 := zt_tm0 (f := (S0 1099)) (e := S0 1079 33) (p := S0 1079 32) hq9 h9; omega), by intro h9; omega⟩
              · refine zz_bipush (by decide) zd_14_49_279 ?_
                refine zz_goto zd_14_49_281 ?_
                refine zz_puti zd_14_49_285 zf_Md_347 zT_1079 rfl (zz_ltn hn rfl) (fun S23 qS23 => ?_)
                have G_S23 := zz_G.put G_S0 qS23 0 102 rfl (by omega)
                have F_S23 := zz_fr.puts F_S0 qS23 rfl
                have e24 : S23 1079 32 = S0 1079 32 := (zz_ro qS23 (fun h => absurd h.2 (by decide)) rfl)
                have e25 : S23 1079 30 = 101 := (zz_rs qS23)
                have g26 := zz_G.r G_S0 1079 31 0 9999 rfl rfl
                have e27 : S23 1079 31 = S0 1079 31 := (zz_ro qS23 (fun h => absurd h.2 (by decide)) rfl)
                exact zz_vret zd_14_49_288 rfl (Nat.zero_le _) (Nat.zero_le _) ⟨_, rfl, G_S23, F_S23, by omega, by omega, by omega, (Int.lt_or_le (S0 1079 32) (S0 1079 33)).elim (fun h9 => by have h8 := zt_tmb (f := (S0 1099)) (e := S0 1079 33) (p := S0 1079 32) hq9 h9 (by omega) (by omega); omega) (fun h9 => by have h8 := zt_tm0 (f := (S0 1099)) (e := S0 1079 33) (p := S0 1079 32) hq9 h9; omega), (Int.lt_or_le (S0 1079 32) (S0 1079 33)).elim (fun h9 => by have h8 := zt_tmb (f := (S0 1099)) (e := S0 1079 33) (p := S0 1079 32) hq9 h9 (by omega) (by omega); omega) (fun h9 => by have h8 := zt_tm0 (f := (S0 1099)) (e := S0 1079 33) (p := S0 1079 32) hq9 h9; omega), by intro h9; omega⟩
            · exfalso; omega
          · exfalso; omega
        · exfalso; omega
      · exfalso; omega
    · refine zz_aload_n (x := 1079) rfl zd_14_49_54 ?_
      refine zz_getr (kd := 0) (z := 1099) zd_14_49_55 zf_Md_76 zT_1079 rfl (zz_ltn hn rfl) (zz_G.eq G_S0 1079 27 1099 rfl rfl) (by decide) 1099 rfl ?_
      refine zz_aload_n (x := 1079) rfl zd_14_49_58 ?_
      refine zz_geti (z := S0 1079 32) zd_14_49_59 zf_Md_334 zT_1079 rfl (zz_ltn hn rfl) rfl ?_
      have g28 := zz_G.r G_S0 1099 ((S0 1079 32).toNat) 0 255 rfl rfl
      refine zz_iald (z := S0 1099 ((S0 1079 32).toNat)) zd_14_49_62 zT_1099 rfl (zz_ltn hn rfl) (by decide) (by omega) rfl ?_
      refine zz_goto zd_14_49_63 ?_
      refine zz_istore_n [some (.ref 1079), some (zi (S0 1079 32)), some (zi (S0 1099 ((S0 1079 32).toNat)))] zd_14_49_67 (by decide) rfl ?_
      refine zz_iload_n (x := S0 1099 ((S0 1079 32).toNat)) rfl zd_14_49_68 ?_
      refine zz_i2l (by omega) zd_14_49_69 ?_
      refine zz_ldc2 (z := 97) zq_Md_340 (by decide) zd_14_49_70 ?_
      refine zz_ldc2 (z := 122) zq_Md_342 (by decide) zd_14_49_73 ?_
      refine zz_callSI [zl (S0 1099 ((S0 1079 32).toNat)), zl 97, zl 122] zd_14_49_76 zk_Md_192 rfl rfl ⟨Nat.le_of_ble_eq_true rfl, Nat.le_of_ble_eq_true rfl⟩ ⟨rfl, rfl⟩ (Nat.zero_le _) (Nat.zero_le _) (zc_in_14_4 (S0 1099 ((S0 1079 32).toNat)) 97 122 S0 n hn G_S0 (by omega) (by omega) (by omega)) (fun v30 S29 hP => ?_)
      obtain ⟨rfl, o31, o32⟩ := hP
      rcases (by omega : v30 = 0 ∨ v30 = 1) with rfl | rfl
      · have n33 : S0 1099 ((S0 1079 32).toNat) < 97 ∨ 122 < S0 1099 ((S0 1079 32).toNat) := by omega
        clear o32
        refine zz_if_eq (by omega) zd_14_49_79 (fun c34 => ?_) (fun c34 => ?_)
        · refine zz_iload_n (x := S0 1099 ((S0 1079 32).toNat)) rfl zd_14_49_144 ?_
          refine zz_i2l (by omega) zd_14_49_145 ?_
          refine zz_ldc2 (z := 48) zq_Md_350 (by decide) zd_14_49_146 ?_
          refine zz_ldc2 (z := 57) zq_Md_352 (by decide) zd_14_49_149 ?_
          refine zz_callSI [zl (S0 1099 ((S0 1079 32).toNat)), zl 48, zl 57] zd_14_49_152 zk_Md_192 rfl rfl ⟨Nat.le_of_ble_eq_true rfl, Nat.le_of_ble_eq_true rfl⟩ ⟨rfl, rfl⟩ (Nat.zero_le _) (Nat.zero_le _) (zc_in_14_4 (S0 1099 ((S0 1079 32).toNat)) 48 57 S0 n hn G_S0 (by omega) (by omega) (by omega)) (fun v36 S35 hP => ?_)
          obtain ⟨rfl, o37, o38⟩ := hP
          rcases (by omega : v36 = 0 ∨ v36 = 1) with rfl | rfl
          · have n39 : S0 1099 ((S0 1079 32).toNat) < 48 ∨ 57 < S0 1099 ((S0 1079 32).toNat) := by omega
            clear o38
            refine zz_if_eq (by omega) zd_14_49_155 (fun c40 => ?_) (fun c40 => ?_)
            · have hq9 : S0 1079 32 = zt_R 32 32 (S0 1099) (S0 1079 33) (S0 1079 32) := (zt_R0 (by omega)).symm
              refine zz_aload_n (x := 1079) rfl zd_14_49_267 ?_
              refine zz_aload_n (x := 1079) rfl zd_14_49_268 ?_
              refine zz_geti (z := S0 1079 32) zd_14_49_269 zf_Md_334 zT_1079 rfl (zz_ltn hn rfl) rfl ?_
              refine zz_aload_n (x := 1079) rfl zd_14_49_272 ?_
              refine zz_geti (z := S0 1079 33) zd_14_49_273 zf_Md_337 zT_1079 rfl (zz_ltn hn rfl) rfl ?_
              refine zz_icmp_ge (by omega) (by omega) zd_14_49_276 (fun c41 => ?_) (fun c41 => ?_)
              · refine zz_iconst zd_14_49_284 ?_
                refine zz_puti zd_14_49_285 zf_Md_347 zT_1079 rfl (zz_ltn hn rfl) (fun S42 qS42 => ?_)
                have G_S42 := zz_G.put G_S0 qS42 0 102 rfl (by omega)
                have F_S42 := zz_fr.puts F_S0 qS42 rfl
                have e43 : S42 1079 32 = S0 1079 32 := (zz_ro qS42 (fun h => absurd h.2 (by decide)) rfl)
                have e44 : S42 1079 30 = 0 := (zz_rs qS42)
                have g45 := zz_G.r G_S0 1079 31 0 9999 rfl rfl
                have e46 : S42 1079 31 = S0 1079 31 := (zz_ro qS42 (fun h => absurd h.2 (by decide)) rfl)
                exact zz_vret zd_14_49_288 rfl (Nat.zero_le _) (Nat.zero_le _) ⟨_, rfl, G_S42, F_S42, by omega, by omega, by omega, (Int.lt_or_le (S0 1079 32) (S0 1079 33)).elim (fun h9 => by have h8 := zt_tmb (f := (S0 1099)) (e := S0 1079 33) (p := S0 1079 32) hq9 h9 (by omega) (by omega); omega) (fun h9 => by have h8 := zt_tm0 (f := (S0 1099)) (e := S0 1079 33) (p := S0 1079 32) hq9 h9; omega), (Int.lt_or_le (S0 1079 32) (S0 1079 33)).elim (fun h9 => by have h8 := zt_tmb (f := (S0 1099)) (e := S0 1079 33) (p := S0 1079 32) hq9 h9 (by omega) (by omega); omega) (fun h9 => by have h8 := zt_tm0 (f := (S0 1099)) (e := S0 1079 33) (p := S0 1079 32) hq9 h9; omega), by intro h9; omega⟩
              · refine zz_bipush (by decide) zd_14_49_279 ?_
                refine zz_goto zd_14_49_281 ?_
                refine zz_puti zd_14_49_285 zf_Md_347 zT_1079 rfl (zz_ltn hn rfl) (fun S47 qS47 => ?_)
                have G_S47 := zz_G.put G_S0 qS47 0 102 rfl (by omega)
                have F_S47 := zz_fr.puts F_S0 qS47 rfl
                have e48 : S47 1079 32 = S0 1079 32 := (zz_ro qS47 (fun h => absurd h.2 (by decide)) rfl)
                have e49 : S47 1079 30 = 101 := (zz_rs qS47)
                have g50 := zz_G.r G_S0 1079 31 0 9999 rfl rfl
                have e51 : S47 1079 31 = S0 1079 31 := (zz_ro qS47 (fun h => absurd h.2 (by decide)) rfl)
                exact zz_vret zd_14_49_288 rfl (Nat.zero_le _) (Nat.zero_le _) ⟨_, rfl, G_S47, F_S47, by omega, by omega, by omega, (Int.lt_or_le (S0 1079 32) (S0 1079 33)).elim (fun h9 => by have h8 := zt_tmb (f := (S0 1099)) (e := S0 1079 33) (p := S0 1079 32) hq9 h9 (by omega) (by omega); omega) (fun h9 => by have h8 := zt_tm0 (f := (S0 1099)) (e := S0 1079 33) (p := S0 1079 32) hq9 h9; omega), (Int.lt_or_le (S0 1079 32) (S0 1079 33)).elim (fun h9 => by have h8 := zt_tmb (f := (S0 1099)) (e := S0 1079 33) (p := S0 1079 32) hq9 h9 (by omega) (by omega); omega) (fun h9 => by have h8 := zt_tm0 (f := (S0 1099)) (e := S0 1079 33) (p := S0 1079 32) hq9 h9; omega), by intro h9; omega⟩
            · exfalso; omega
          · have n52 : 48 ≤ S0 1099 ((S0 1079 32).toNat) ∧ S0 1099 ((S0 1079 32).toNat) ≤ 57 := by omega
            clear o38
            refine zz_if_eq (by omega) zd_14_49_155 (fun c53 => ?_) (fun c53 => ?_)
            · exfalso; omega
            · refine zz_iconst zd_14_49_158 ?_
              refine zz_istore_n [some (.ref 1079), some (zi (S0 1079 32)), some (zi (S0 1099 ((S0 1079 32).toNat))), some (zi 0)] zd_14_49_159 (by decide) rfl ?_
              refine zz_less (ls1 := [some (.ref 1079), some (zi (S0 1079 32)), none, some (zi 0)]) ⟨rfl, ⟨rfl, ⟨rfl, trivial⟩⟩⟩ ?_
              exact k160 (S0 1079 32) 0 S0 G_S0 F_S0 (by omega) (by omega) (by omega) (by omega) (by omega) (by omega) (zt_R0 (by omega)).symm (by omega) (by exact rfl) (zt_n40 ..).symm
        · exfalso; omega
      · have n54 : 97 ≤ S0 1099 ((S0 1079 32).toNat) ∧ S0 1099 ((S0 1079 32).toNat) ≤ 122 := by omega
        clear o32
        refine zz_if_eq (by omega) zd_14_49_79 (fun c55 => ?_) (fun c55 => ?_)
        · exfalso; omega
        · refine zz_less (ls1 := [some (.ref 1079), some (zi (S0 1079 32))]) ⟨rfl, ⟨rfl, trivial⟩⟩ ?_
          exact k82 (S0 1079 32) S0 G_S0 F_S0 (by omega) (by omega) (by omega) (by omega) (zt_R0 (by omega)).symm (by omega) (by exact rfl)
  · refine zz_aload_n (x := 1079) rfl zd_14_49_11 ?_
    refine zz_getr (kd := 0) (z := 1099) zd_14_49_12 zf_Md_76 zT_1079 rfl (zz_ltn hn rfl) (zz_G.eq G_S0 1079 27 1099 rfl rfl) (by decide) 1099 rfl ?_
    refine zz_aload_n (x := 1079) rfl zd_14_49_15 ?_
    refine zz_geti (z := S0 1079 32) zd_14_49_16 zf_Md_334 zT_1079 rfl (zz_ltn hn rfl) rfl ?_
    have g56 := zz_G.r G_S0 1099 ((S0 1079 32).toNat) 0 255 rfl rfl
    refine zz_iald (z := S0 1099 ((S0 1079 32).toNat)) zd_14_49_19 zT_1099 rfl (zz_ltn hn rfl) (by decide) (by omega) rfl ?_
    refine zz_bipush (by decide) zd_14_49_20 ?_
    refine zz_icmp_ne (by omega) (by omega) zd_14_49_22 (fun c57 => ?_) (fun c57 => ?_)
    · refine zz_aload_n (x := 1079) rfl zd_14_49_38 ?_
      refine zz_geti (z := S0 1079 32) zd_14_49_39 zf_Md_334 zT_1079 rfl (zz_ltn hn rfl) rfl ?_
      refine zz_istore_n [some (.ref 1079), some (zi (S0 1079 32))] zd_14_49_42 (by decide) rfl ?_
      refine zz_aload_n (x := 1079) rfl zd_14_49_43 ?_
      refine zz_geti (z := S0 1079 32) zd_14_49_44 zf_Md_334 zT_1079 rfl (zz_ltn hn rfl) rfl ?_
      refine zz_aload_n (x := 1079) rfl zd_14_49_47 ?_
      refine zz_geti (z := S0 1079 33) zd_14_49_48 zf_Md_337 zT_1079 rfl (zz_ltn hn rfl) rfl ?_
      refine zz_icmp_ge (by omega) (by omega) zd_14_49_51 (fun c58 => ?_) (fun c58 => ?_)
      · refine zz_iconst zd_14_49_66 ?_
        refine zz_istore_n [some (.ref 1079), some (zi (S0 1079 32)), some (zi 0)] zd_14_49_67 (by decide) rfl ?_
        refine zz_iload_n (x := 0) rfl zd_14_49_68 ?_
        refine zz_i2l (by omega) zd_14_49_69 ?_
        refine zz_ldc2 (z := 97) zq_Md_340 (by decide) zd_14_49_70 ?_
        refine zz_ldc2 (z := 122) zq_Md_342 (by decide) zd_14_49_73 ?_
        refine zz_callSI [zl 0, zl 97, zl 122] zd_14_49_76 zk_Md_192 rfl rfl ⟨Nat.le_of_ble_eq_true rfl, Nat.le_of_ble_eq_true rfl⟩ ⟨rfl, rfl⟩ (Nat.zero_le _) (Nat.zero_le _) (zc_in_14_4 0 97 122 S0 n hn G_S0 (by omega) (by omega) (by omega)) (fun v60 S59 hP => ?_)
        obtain ⟨rfl, o61, o62⟩ := hP
        rcases (by omega : v60 = 0 ∨ v60 = 1) with rfl | rfl
        · have n63 : 0 < 97 ∨ 122 < 0 := by omega
          clear o62
          refine zz_if_eq (by omega) zd_14_49_79 (fun c64 => ?_) (fun c64 => ?_)
          · refine zz_iload_n (x := 0) rfl zd_14_49_144 ?_
            refine zz_i2l (by omega) zd_14_49_145 ?_
            refine zz_ldc2 (z := 48) zq_Md_350 (by decide) zd_14_49_146 ?_
            refine zz_ldc2 (z := 57) zq_Md_352 (by decide) zd_14_49_149 ?_
            refine zz_callSI [zl 0, zl 48, zl 57] zd_14_49_152 zk_Md_192 rfl rfl ⟨Nat.le_of_ble_eq_true rfl, Nat.le_of_ble_eq_true rfl⟩ ⟨rfl, rfl⟩ (Nat.zero_le _) (Nat.zero_le _) (zc_in_14_4 0 48 57 S0 n hn G_S0 (by omega) (by omega) (by omega)) (fun v66 S65 hP => ?_)
            obtain ⟨rfl, o67, o68⟩ := hP
            rcases (by omega : v66 = 0 ∨ v66 = 1) with rfl | rfl
            · have n69 : 0 < 48 ∨ 57 < 0 := by omega
              clear o68
              refine zz_if_eq (by omega) zd_14_49_155 (fun c70 => ?_) (fun c70 => ?_)
              · have hq9 : S0 1079 32 = zt_R 32 32 (S0 1099) (S0 1079 33) (S0 1079 32) := (zt_R0 (by omega)).symm
                refine zz_aload_n (x := 1079) rfl zd_14_49_267 ?_
                refine zz_aload_n (x := 1079) rfl zd_14_49_268 ?_
                refine zz_geti (z := S0 1079 32) zd_14_49_269 zf_Md_334 zT_1079 rfl (zz_ltn hn rfl) rfl ?_
                refine zz_aload_n (x := 1079) rfl zd_14_49_272 ?_
                refine zz_geti (z := S0 1079 33) zd_14_49_273 zf_Md_337 zT_1079 rfl (zz_ltn hn rfl) rfl ?_
                refine zz_icmp_ge (by omega) (by omega) zd_14_49_276 (fun c71 => ?_) (fun c71 => ?_)
                · refine zz_iconst zd_14_49_284 ?_
                  refine zz_puti zd_14_49_285 zf_Md_347 zT_1079 rfl (zz_ltn hn rfl) (fun S72 qS72 => ?_)
                  have G_S72 := zz_G.put G_S0 qS72 0 102 rfl (by omega)
                  have F_S72 := zz_fr.puts F_S0 qS72 rfl
                  have e73 : S72 1079 32 = S0 1079 32 := (zz_ro qS72 (fun h => absurd h.2 (by decide)) rfl)
                  have e74 : S72 1079 30 = 0 := (zz_rs qS72)
                  have g75 := zz_G.r G_S0 1079 31 0 9999 rfl rfl
                  have e76 : S72 1079 31 = S0 1079 31 := (zz_ro qS72 (fun h => absurd h.2 (by decide)) rfl)
                  exact zz_vret zd_14_49_288 rfl (Nat.zero_le _) (Nat.zero_le _) ⟨_, rfl, G_S72, F_S72, by omega, by omega, by omega, (Int.lt_or_le (S0 1079 32) (S0 1079 33)).elim (fun h9 => by have h8 := zt_tmb (f := (S0 1099)) (e := S0 1079 33) (p := S0 1079 32) hq9 h9 (by omega) (by omega); omega) (fun h9 => by have h8 := zt_tm0 (f := (S0 1099)) (e := S0 1079 33) (p := S0 1079 32) hq9 h9; omega), (Int.lt_or_le (S0 1079 32) (S0 1079 33)).elim (fun h9 => by have h8 := zt_tmb (f := (S0 1099)) (e := S0 1079 33) (p := S0 1079 32) hq9 h9 (by omega) (by omega); omega) (fun h9 => by have h8 := zt_tm0 (f := (S0 1099)) (e := S0 1079 33) (p := S0 1079 32) hq9 h9; omega), by intro h9; omega⟩
                · refine zz_bipush (by decide) zd_14_49_279 ?_
                  refine zz_goto zd_14_49_281 ?_
                  refine zz_puti zd_14_49_285 zf_Md_347 zT_1079 rfl (zz_ltn hn rfl) (fun S77 qS77 => ?_)
                  have G_S77 := zz_G.put G_S0 qS77 0 102 rfl (by omega)
                  have F_S77 := zz_fr.puts F_S0 qS77 rfl
                  have e78 : S77 1079 32 = S0 1079 32 := (zz_ro qS77 (fun h => absurd h.2 (by decide)) rfl)
                  have e79 : S77 1079 30 = 101 := (zz_rs qS77)
                  have g80 := zz_G.r G_S0 1079 31 0 9999 rfl rfl
                  have e81 : S77 1079 31 = S0 1079 31 := (zz_ro qS77 (fun h => absurd h.2 (by decide)) rfl)
                  exact zz_vret zd_14_49_288 rfl (Nat.zero_le _) (Nat.zero_le _) ⟨_, rfl, G_S77, F_S77, by omega, by omega, by omega, (Int.lt_or_le (S0 1079 32) (S0 1079 33)).elim (fun h9 => by have h8 := zt_tmb (f := (S0 1099)) (e := S0 1079 33) (p := S0 1079 32) hq9 h9 (by omega) (by omega); omega) (fun h9 => by have h8 := zt_tm0 (f := (S0 1099)) (e := S0 1079 33) (p := S0 1079 32) hq9 h9; omega), (Int.lt_or_le (S0 1079 32) (S0 1079 33)).elim (fun h9 => by have h8 := zt_tmb (f := (S0 1099)) (e := S0 1079 33) (p := S0 1079 32) hq9 h9 (by omega) (by omega); omega) (fun h9 => by have h8 := zt_tm0 (f := (S0 1099)) (e := S0 1079 33) (p := S0 1079 32) hq9 h9; omega), by intro h9; omega⟩
              · exfalso; omega
            · exfalso; omega
          · exfalso; omega
        · exfalso; omega
      · refine zz_aload_n (x := 1079) rfl zd_14_49_54 ?_
        refine zz_getr (kd := 0) (z := 1099) zd_14_49_55 zf_Md_76 zT_1079 rfl (zz_ltn hn rfl) (zz_G.eq G_S0 1079 27 1099 rfl rfl) (by decide) 1099 rfl ?_
        refine zz_aload_n (x := 1079) rfl zd_14_49_58 ?_
        refine zz_geti (z := S0 1079 32) zd_14_49_59 zf_Md_334 zT_1079 rfl (zz_ltn hn rfl) rfl ?_
        refine zz_iald (z := S0 1099 ((S0 1079 32).toNat)) zd_14_49_62 zT_1099 rfl (zz_ltn hn rfl) (by decide) (by omega) rfl ?_
        refine zz_goto zd_14_49_63 ?_
        refine zz_istore_n [some (.ref 1079), some (zi (S0 1079 32)), some (zi (S0 1099 ((S0 1079 32).toNat)))] zd_14_49_67 (by decide) rfl ?_
        refine zz_iload_n (x := S0 1099 ((S0 1079 32).toNat)) rfl zd_14_49_68 ?_
        refine zz_i2l (by omega) zd_14_49_69 ?_
        refine zz_ldc2 (z := 97) zq_Md_340 (by decide) zd_14_49_70 ?_
        refine zz_ldc2 (z := 122) zq_Md_342 (by decide) zd_14_49_73 ?_
        refine zz_callSI [zl (S0 1099 ((S0 1079 32).toNat)), zl 97, zl 122] zd_14_49_76 zk_Md_192 rfl rfl ⟨Nat.le_of_ble_eq_true rfl, Nat.le_of_ble_eq_true rfl⟩ ⟨rfl, rfl⟩ (Nat.zero_le _) (Nat.zero_le _) (zc_in_14_4 (S0 1099 ((S0 1079 32).toNat)) 97 122 S0 n hn G_S0 (by omega) (by omega) (by omega)) (fun v83 S82 hP => ?_)
        obtain ⟨rfl, o84, o85⟩ := hP
        rcases (by omega : v83 = 0 ∨ v83 = 1) with rfl | rfl
        · have n86 : S0 1099 ((S0 1079 32).toNat) < 97 ∨ 122 < S0 1099 ((S0 1079 32).toNat) := by omega
          clear o85
          refine zz_if_eq (by omega) zd_14_49_79 (fun c87 => ?_) (fun c87 => ?_)
          · refine zz_iload_n (x := S0 1099 ((S0 1079 32).toNat)) rfl zd_14_49_144 ?_
            refine zz_i2l (by omega) zd_14_49_145 ?_
            refine zz_ldc2 (z := 48) zq_Md_350 (by decide) zd_14_49_146 ?_
            refine zz_ldc2 (z := 57) zq_Md_352 (by decide) zd_14_49_149 ?_
            refine zz_callSI [zl (S0 1099 ((S0 1079 32).toNat)), zl 48, zl 57] zd_14_49_152 zk_Md_192 rfl rfl ⟨Nat.le_of_ble_eq_true rfl, Nat.le_of_ble_eq_true rfl⟩ ⟨rfl, rfl⟩ (Nat.zero_le _) (Nat.zero_le _) (zc_in_14_4 (S0 1099 ((S0 1079 32).toNat)) 48 57 S0 n hn G_S0 (by omega) (by omega) (by omega)) (fun v89 S88 hP => ?_)
            obtain ⟨rfl, o90, o91⟩ := hP
            rcases (by omega : v89 = 0 ∨ v89 = 1) with rfl | rfl
            · have n92 : S0 1099 ((S0 1079 32).toNat) < 48 ∨ 57 < S0 1099 ((S0 1079 32).toNat) := by omega
              clear o91
              refine zz_if_eq (by omega) zd_14_49_155 (fun c93 => ?_) (fun c93 => ?_)
              · have hq9 : S0 1079 32 = zt_R 32 32 (S0 1099) (S0 1079 33) (S0 1079 32) := (zt_R0 (by omega)).symm
                refine zz_aload_n (x := 1079) rfl zd_14_49_267 ?_
                refine zz_aload_n (x := 1079) rfl zd_14_49_268 ?_
                refine zz_geti (z := S0 1079 32) zd_14_49_269 zf_Md_334 zT_1079 rfl (zz_ltn hn rfl) rfl ?_
                refine zz_aload_n (x := 1079) rfl zd_14_49_272 ?_
                refine zz_geti (z := S0 1079 33) zd_14_49_273 zf_Md_337 zT_1079 rfl (zz_ltn hn rfl) rfl ?_
                refine zz_icmp_ge (by omega) (by omega) zd_14_49_276 (fun c94 => ?_) (fun c94 => ?_)
                · refine zz_iconst zd_14_49_284 ?_
                  refine zz_puti zd_14_49_285 zf_Md_347 zT_1079 rfl (zz_ltn hn rfl) (fun S95 qS95 => ?_)
                  have G_S95 := zz_G.put G_S0 qS95 0 102 rfl (by omega)
                  have F_S95 := zz_fr.puts F_S0 qS95 rfl
                  have e96 : S95 1079 32 = S0 1079 32 := (zz_ro qS95 (fun h => absurd h.2 (by decide)) rfl)
                  have e97 : S95 1079 30 = 0 := (zz_rs qS95)
                  have g98 := zz_G.r G_S0 1079 31 0 9999 rfl rfl
                  have e99 : S95 1079 31 = S0 1079 31 := (zz_ro qS95 (fun h => absurd h.2 (by decide)) rfl)
                  exact zz_vret zd_14_49_288 rfl (Nat.zero_le _) (Nat.zero_le _) ⟨_, rfl, G_S95, F_S95, by omega, by omega, by omega, (Int.lt_or_le (S0 1079 32) (S0 1079 33)).elim (fun h9 => by have h8 := zt_tmb (f := (S0 1099)) (e := S0 1079 33) (p := S0 1079 32) hq9 h9 (by omega) (by omega); omega) (fun h9 => by have h8 := zt_tm0 (f := (S0 1099)) (e := S0 1079 33) (p := S0 1079 32) hq9 h9; omega), (Int.lt_or_le (S0 1079 32) (S0 1079 33)).elim (fun h9 => by have h8 := zt_tmb (f := (S0 1099)) (e := S0 1079 33) (p := S0 1079 32) hq9 h9 (by omega) (by omega); omega) (fun h9 => by have h8 := zt_tm0 (f := (S0 1099)) (e := S0 1079 33) (p := S0 1079 32) hq9 h9; omega), by intro h9; omega⟩
                · refine zz_bipush (by decide) zd_14_49_279 ?_
                  refine zz_goto zd_14_49_281 ?_
                  refine zz_puti zd_14_49_285 zf_Md_347 zT_1079 rfl (zz_ltn hn rfl) (fun S100 qS100 => ?_)
                  have G_S100 := zz_G.put G_S0 qS100 0 102 rfl (by omega)
                  have F_S100 := zz_fr.puts F_S0 qS100 rfl
                  have e101 : S100 1079 32 = S0 1079 32 := (zz_ro qS100 (fun h => absurd h.2 (by decide)) rfl)
                  have e102 : S100 1079 30 = 101 := (zz_rs qS100)
                  have g103 := zz_G.r G_S0 1079 31 0 9999 rfl rfl
                  have e104 : S100 1079 31 = S0 1079 31 := (zz_ro qS100 (fun h => absurd h.2 (by decide)) rfl)
                  exact zz_vret zd_14_49_288 rfl (Nat.zero_le _) (Nat.zero_le _) ⟨_, rfl, G_S100, F_S100, by omega, by omega, by omega, (Int.lt_or_le (S0 1079 32) (S0 1079 33)).elim (fun h9 => by have h8 := zt_tmb (f := (S0 1099)) (e := S0 1079 33) (p := S0 1079 32) hq9 h9 (by omega) (by omega); omega) (fun h9 => by have h8 := zt_tm0 (f := (S0 1099)) (e := S0 1079 33) (p := S0 1079 32) hq9 h9; omega), (Int.lt_or_le (S0 1079 32) (S0 1079 33)).elim (fun h9 => by have h8 := zt_tmb (f := (S0 1099)) (e := S0 1079 33) (p := S0 1079 32) hq9 h9 (by omega) (by omega); omega) (fun h9 => by have h8 := zt_tm0 (f := (S0 1099)) (e := S0 1079 33) (p := S0 1079 32) hq9 h9; omega), by intro h9; omega⟩
              · exfalso; omega
            · have n105 : 48 ≤ S0 1099 ((S0 1079 32).toNat) ∧ S0 1099 ((S0 1079 32).toNat) ≤ 57 := by omega
              clear o91
              refine zz_if_eq (by omega) zd_14_49_155 (fun c106 => ?_) (fun c106 => ?_)
              · exfalso; omega
              · refine zz_iconst zd_14_49_158 ?_
                refine zz_istore_n [some (.ref 1079), some (zi (S0 1079 32)), some (zi (S0 1099 ((S0 1079 32).toNat))), some (zi 0)] zd_14_49_159 (by decide) rfl ?_
                refine zz_less (ls1 := [some (.ref 1079), some (zi (S0 1079 32)), none, some (zi 0)]) ⟨rfl, ⟨rfl, ⟨rfl, trivial⟩⟩⟩ ?_
                exact k160 (S0 1079 32) 0 S0 G_S0 F_S0 (by omega) (by omega) (by omega) (by omega) (by omega) (by omega) (zt_R0 (by omega)).symm (by omega) (by exact rfl) (zt_n40 ..).symm
          · exfalso; omega
        · have n107 : 97 ≤ S0 1099 ((S0 1079 32).toNat) ∧ S0 1099 ((S0 1079 32).toNat) ≤ 122 := by omega
          clear o85
          refine zz_if_eq (by omega) zd_14_49_79 (fun c108 => ?_) (fun c108 => ?_)
          · exfalso; omega
          · refine zz_less (ls1 := [some (.ref 1079), some (zi (S0 1079 32))]) ⟨rfl, ⟨rfl, trivial⟩⟩ ?_
            exact k82 (S0 1079 32) S0 G_S0 F_S0 (by omega) (by omega) (by omega) (by omega) (zt_R0 (by omega)).symm (by omega) (by exact rfl)
    · refine zz_aload_n (x := 1079) rfl zd_14_49_25 ?_
      refine zz_dup rfl zd_14_49_26 ?_
      refine zz_geti (z := S0 1079 32) zd_14_49_27 zf_Md_334 zT_1079 rfl (zz_ltn hn rfl) rfl ?_
      refine zz_iconst zd_14_49_30 ?_
      refine zz_iadd zd_14_49_31 ?_
      refine zz_puti zd_14_49_32 zf_Md_334 zT_1079 rfl (zz_ltn hn rfl) (fun S109 qS109 => ?_)
      have G_S109 := zz_G.put G_S0 qS109 0 1500 rfl (by omega)
      have F_S109 := zz_fr.puts F_S0 qS109 rfl
      refine zz_goto zd_14_49_35 ?_
      have e110 : S109 1079 32 = (S0 1079 32) + 1 := (zz_rs qS109)
      exact k0 S109 G_S109 F_S109 (by omega) (by omega) (by omega) (by rw [show S109 1079 32 = S0 1079 32 + 1 by omega, zt_RS (by omega) (by omega)])
abbrev zy_setNumber_14_51 : mm_Y := (⟨"TensorForgeModel", "setNumber", "(I)Z"⟩, prog_14_method_51_code, 2, (some .boolean))
theorem zyw_setNumber_14_51 : mm_Yw zy_setNumber_14_51 1 := ⟨mm_tb_1 2035 (by decide +kernel) rfl, mm_tb_1 12 (by decide +kernel) rfl, ⟨by decide, by decide⟩, by decide +kernel⟩
theorem zk_Md_359 : mm_Vl "TensorForgeModel" 359 11 0 zy_advance_14_49 := ⟨zyw_advance_14_49, (R_Md, F_Md, 69), rfl, mm_tb_1 2015 (by decide +kernel) rfl, mm_tb_1 2017 (by decide +kernel) rfl, mm_tb_s 109 (by decide +kernel) rfl⟩
theorem zg_14_51_0 : zq_at zy_setNumber_14_51.2.1 0 42 ∧ zq_at zy_setNumber_14_51.2.1 1 180 ∧ zq_at zy_setNumber_14_51.2.1 2 1 ∧ zq_at zy_setNumber_14_51.2.1 3 91 ∧ zq_at zy_setNumber_14_51.2.1 4 16 ∧ zq_at zy_setNumber_14_51.2.1 5 100 ∧ zq_at zy_setNumber_14_51.2.1 6 160 ∧ zq_at zy_setNumber_14_51.2.1 7 0 ∧ zq_at zy_setNumber_14_51.2.1 8 16 ∧ zq_at zy_setNumber_14_51.2.1 22 3 ∧ zq_at zy_setNumber_14_51.2.1 23 172 ∧ zq_at zy_setNumber_14_51.2.1 9 42 ∧ zq_at zy_setNumber_14_51.2.1 10 180 ∧ zq_at zy_setNumber_14_51.2.1 11 1 ∧ zq_at zy_setNumber_14_51.2.1 12 98 ∧ zq_at zy_setNumber_14_51.2.1 13 4 ∧ zq_at zy_setNumber_14_51.2.1 14 27 ∧ zq_at zy_setNumber_14_51.2.1 15 184 ∧ zq_at zy_setNumber_14_51.2.1 16 0 ∧ zq_at zy_setNumber_14_51.2.1 17 215 ∧ zq_at zy_setNumber_14_51.2.1 18 120 ∧ zq_at zy_setNumber_14_51.2.1 19 161 ∧ zq_at zy_setNumber_14_51.2.1 20 0 ∧ zq_at zy_setNumber_14_51.2.1 21 5 := by decide +kernel
theorem zd_14_51_0 : zz_D zy_setNumber_14_51 0 (.aload_n 0) 1 1 := ⟨zq_42 zg_14_51_0.1, rfl⟩
theorem zd_14_51_1 : zz_D zy_setNumber_14_51 1 (.getfield 347) 3 4 := ⟨zq_180 zg_14_51_0.2.1 zg_14_51_0.2.2.1 zg_14_51_0.2.2.2.1 rfl, rfl⟩
theorem zd_14_51_4 : zz_D zy_setNumber_14_51 4 (.bipush 100) 2 6 := ⟨zq_16 zg_14_51_0.2.2.2.2.1 zg_14_51_0.2.2.2.2.2.1 (by decide), rfl⟩
theorem zd_14_51_6 : zz_B zy_setNumber_14_51 6 (Instr.if_icmp .ne) 22 9 := ⟨16, zq_160 zg_14_51_0.2.2.2.2.2.2.1 zg_14_51_0.2.2.2.2.2.2.2.1 zg_14_51_0.2.2.2.2.2.2.2.2.1 (by decide), rfl, rfl⟩
theorem zd_14_51_22 : zz_D zy_setNumber_14_51 22 (.iconst 0) 1 23 := ⟨zq_3 zg_14_51_0.2.2.2.2.2.2.2.2.2.1, rfl⟩
theorem zd_14_51_23 : zz_D zy_setNumber_14_51 23 (.ireturn) 1 24 := ⟨zq_172 zg_14_51_0.2.2.2.2.2.2.2.2.2.2.1, rfl⟩
theorem zd_14_51_9 : zz_D zy_setNumber_14_51 9 (.aload_n 0) 1 10 := ⟨zq_42 zg_14_51_0.2.2.2.2.2.2.2.2.2.2.2.1, rfl⟩
theorem zd_14_51_10 : zz_D zy_setNumber_14_51 10 (.getfield 354) 3 13 := ⟨zq_180 zg_14_51_0.2.2.2.2.2.2.2.2.2.2.2.2.1 zg_14_51_0.2.2.2.2.2.2.2.2.2.2.2.2.2.1 zg_14_51_0.2.2.2.2.2.2.2.2.2.2.2.2.2.2.1 rfl, rfl⟩
theorem zd_14_51_13 : zz_D zy_setNumber_14_51 13 (.iconst 1) 1 14 := ⟨zq_4 zg_14_51_0.2.2.2.2.2.2.2.2.2.2.2.2.2.2.2.1, rfl⟩
theorem zd_14_51_14 : zz_D zy_setNumber_14_51 14 (.iload_n 1) 1 15 := ⟨zq_27 zg_14_51_0.2.2.2.2.2.2.2.2.2.2.2.2.2.2.2.2.1, rfl⟩
theorem zd_14_51_15 : zz_D zy_setNumber_14_51 15 (.invokestatic 215) 3 18 := ⟨zq_184 zg_14_51_0.2.2.2.2.2.2.2.2.2.2.2.2.2.2.2.2.2.1 zg_14_51_0.2.2.2.2.2.2.2.2.2.2.2.2.2.2.2.2.2.2.1 zg_14_51_0.2.2.2.2.2.2.2.2.2.2.2.2.2.2.2.2.2.2.2.1 rfl, rfl⟩
theorem zd_14_51_18 : zz_D zy_setNumber_14_51 18 (.ishl) 1 19 := ⟨zq_120 zg_14_51_0.2.2.2.2.2.2.2.2.2.2.2.2.2.2.2.2.2.2.2.2.1, rfl⟩
theorem zd_14_51_19 : zz_B zy_setNumber_14_51 19 (Instr.if_icmp .lt) 24 22 := ⟨5, zq_161 zg_14_51_0.2.2.2.2.2.2.2.2.2.2.2.2.2.2.2.2.2.2.2.2.2.1 zg_14_51_0.2.2.2.2.2.2.2.2.2.2.2.2.2.2.2.2.2.2.2.2.2.2.1 zg_14_51_0.2.2.2.2.2.2.2.2.2.2.2.2.2.2.2.2.2.2.2.2.2.2.2 (by decide), rfl, rfl⟩
theorem zg_14_51_24 : zq_at zy_setNumber_14_51.2.1 24 42 ∧ zq_at zy_setNumber_14_51.2.1 25 180 ∧ zq_at zy_setNumber_14_51.2.1 26 0 ∧ zq_at zy_setNumber_14_51.2.1 27 36 ∧ zq_at zy_setNumber_14_51.2.1 28 27 ∧ zq_at zy_setNumber_14_51.2.1 29 42 ∧ zq_at zy_setNumber_14_51.2.1 30 180 ∧ zq_at zy_setNumber_14_51.2.1 31 1 ∧ zq_at zy_setNumber_14_51.2.1 32 98 ∧ zq_at zy_setNumber_14_51.2.1 33 79 ∧ zq_at zy_setNumber_14_51.2.1 34 42 ∧ zq_at zy_setNumber_14_51.2.1 35 182 ∧ zq_at zy_setNumber_14_51.2.1 36 1 ∧ zq_at zy_setNumber_14_51.2.1 37 103 ∧ zq_at zy_setNumber_14_51.2.1 38 4 ∧ zq_at zy_setNumber_14_51.2.1 39 172 := by decide +kernel
theorem zd_14_51_24 : zz_D zy_setNumber_14_51 24 (.aload_n 0) 1 25 := ⟨zq_42 zg_14_51_24.1, rfl⟩
theorem zd_14_51_25 : zz_D zy_setNumber_14_51 25 (.getfield 36) 3 28 := ⟨zq_180 zg_14_51_24.2.1 zg_14_51_24.2.2.1 zg_14_51_24.2.2.2.1 rfl, rfl⟩
theorem zd_14_51_28 : zz_D zy_setNumber_14_51 28 (.iload_n 1) 1 29 := ⟨zq_27 zg_14_51_24.2.2.2.2.1, rfl⟩
theorem zd_14_51_29 : zz_D zy_setNumber_14_51 29 (.aload_n 0) 1 30 := ⟨zq_42 zg_14_51_24.2.2.2.2.2.1, rfl⟩
theorem zd_14_51_30 : zz_D zy_setNumber_14_51 30 (.getfield 354) 3 33 := ⟨zq_180 zg_14_51_24.2.2.2.2.2.2.1 zg_14_51_24.2.2.2.2.2.2.2.1 zg_14_51_24.2.2.2.2.2.2.2.2.1 rfl, rfl⟩
theorem zd_14_51_33 : zz_D zy_setNumber_14_51 33 (.iastore) 1 34 := ⟨zq_79 zg_14_51_24.2.2.2.2.2.2.2.2.2.1, rfl⟩
theorem zd_14_51_34 : zz_D zy_setNumber_14_51 34 (.aload_n 0) 1 35 := ⟨zq_42 zg_14_51_24.2.2.2.2.2.2.2.2.2.2.1, rfl⟩
theorem zd_14_51_35 : zz_D zy_setNumber_14_51 35 (.invokevirtual 359) 3 38 := ⟨zq_182 zg_14_51_24.2.2.2.2.2.2.2.2.2.2.2.1 zg_14_51_24.2.2.2.2.2.2.2.2.2.2.2.2.1 zg_14_51_24.2.2.2.2.2.2.2.2.2.2.2.2.2.1 rfl, rfl⟩
theorem zd_14_51_38 : zz_D zy_setNumber_14_51 38 (.iconst 1) 1 39 := ⟨zq_4 zg_14_51_24.2.2.2.2.2.2.2.2.2.2.2.2.2.2.1, rfl⟩
theorem zd_14_51_39 : zz_D zy_setNumber_14_51 39 (.ireturn) 1 40 := ⟨zq_172 zg_14_51_24.2.2.2.2.2.2.2.2.2.2.2.2.2.2.2, rfl⟩

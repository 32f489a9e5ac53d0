-- TensorForgeModel waits (II)I
abbrev zr_waits_14_119 : Room := { frames := 2, cells := 0, slots := 0, locals := 34 }
def zp_waits_14_119 (p0 : Int) (p1 : Int) (S0 : zz_S) : Int → zz_S → Prop := fun r S => zz_G S ∧ zz_fr [(1079, 0)] [] (fun _ _ => False) S0 S ∧ ((-2147483648) ≤ r ∧ r ≤ 2147483647)
theorem zb_waits_14_119_30 {g : mm_G} {l : Launch} (p0 : Int) (p1 : Int) (S0 : zz_S) (n : Nat) (hn : zz_end ≤ n) (G_S0 : zz_G S0) (hp0 : (-2147483648) ≤ p0 ∧ p0 ≤ 2147483647) (hp1 : (-2147483648) ≤ p1 ∧ p1 ≤ 2147483647) (x3 : Int) (x4 : Int) (S : zz_S) (G_S : zz_G S) (F_S : zz_fr [(1079, 0)] [] (fun _ _ => False) S0 S) (i30_0 : (-1) ≤ x3 ∧ x3 ≤ 599) (i30_1 : (-2) ≤ x4 ∧ x4 ≤ 599) (R : Nat) (hR : (x4 + 1).toNat = R) (k30 : ∀ (x3 : Int) (x4 : Int) (S : zz_S), zz_G S → zz_fr [(1079, 0)] [] (fun _ _ => False) S0 S → ((-1) ≤ x3 ∧ x3 ≤ 599) → ((-2) ≤ x4 ∧ x4 ≤ 599) → (x4 + 1).toNat < R → zz_E g l zy_waits_14_119 zr_waits_14_119 (zz_QI n (zp_waits_14_119 p0 p1 S0)) S n 30 [some (.ref 1079), some (zi p0), some (zi p1), some (zi x3), some (zi x4)] [] 0 0) : zz_E g l zy_waits_14_119 zr_waits_14_119 (zz_QI n (zp_waits_14_119 p0 p1 S0)) S n 30 [some (.ref 1079), some (zi p0), some (zi p1), some (zi x3), some (zi x4)] [] 0 0 := by
  refine zz_iload (x := x4) rfl zd_14_119_30 ?_
  refine zz_if_lt (by omega) zd_14_119_32 (fun c11 => ?_) (fun c11 => ?_)
  · refine zz_iload_n (x := x3) rfl zd_14_119_80 ?_
    refine zz_if_ge (by omega) zd_14_119_81 (fun c12 => ?_) (fun c12 => ?_)
    · refine zz_aload_n (x := 1079) rfl zd_14_119_86 ?_
      refine zz_getr (kd := 0) (z := 1096) zd_14_119_87 zf_Md_67 zT_1079 rfl (zz_ltn hn rfl) (zz_G.eq G_S 1079 24 1096 rfl rfl) (by decide) 1096 rfl ?_
      refine zz_iload_n (x := x3) rfl zd_14_119_90 ?_
      have g13 := zz_G.r G_S0 1096 x3.toNat (-2147483648) 2147483647 rfl rfl
      refine zz_iald (z := S0 1096 x3.toNat) zd_14_119_91 zT_1096 rfl (zz_ltn hn rfl) (by decide) (by omega) (zz_rc F_S (zz_nc1 rfl) rfl (fun h => h) rfl) ?_
      refine zz_iconst zd_14_119_92 ?_
      refine zz_iand (by omega) (by omega) zd_14_119_93 (fun v14 hv14 av14 bv14 ev14 => ?_)
      refine zz_iconst zd_14_119_94 ?_
      refine zz_icmp_ne (by omega) (by omega) zd_14_119_95 (fun c15 => ?_) (fun c15 => ?_)
      · refine zz_iconst zd_14_119_112 ?_
        refine zz_istore [some (.ref 1079), some (zi p0), some (zi p1), some (zi x3), some (zi 0)] zd_14_119_113 (by decide) rfl ?_
        refine zz_aload_n (x := 1079) rfl zd_14_119_115 ?_
        refine zz_getr (kd := 0) (z := 1096) zd_14_119_116 zf_Md_67 zT_1079 rfl (zz_ltn hn rfl) (zz_G.eq G_S 1079 24 1096 rfl rfl) (by decide) 1096 rfl ?_
        refine zz_iload_n (x := x3) rfl zd_14_119_119 ?_
        refine zz_iald (z := S0 1096 x3.toNat) zd_14_119_120 zT_1096 rfl (zz_ltn hn rfl) (by decide) (by omega) (zz_rc F_S (zz_nc1 rfl) rfl (fun h => h) rfl) ?_
        refine zz_iconst zd_14_119_121 ?_
        refine zz_ishr zd_14_119_122 (fun v16 hv16 ev16 => ?_)
        refine zz_iconst zd_14_119_123 ?_
        refine zz_iand (by omega) (by omega) zd_14_119_124 (fun v17 hv17 av17 bv17 ev17 => ?_)
        refine zz_iconst zd_14_119_125 ?_
        refine zz_icmp_ne (by omega) (by omega) zd_14_119_126 (fun c18 => ?_) (fun c18 => ?_)
        · refine zz_iload (x := 0) rfl zd_14_119_146 ?_
          exact zz_iret zd_14_119_148 rfl (Nat.zero_le _) (Nat.zero_le _) ⟨_, _, rfl, G_S, F_S, by omega⟩
        · refine zz_aload_n (x := 1079) rfl zd_14_119_129 ?_
          refine zz_iload_n (x := p0) rfl zd_14_119_130 ?_
          refine zz_iconst zd_14_119_131 ?_
          refine zz_iload_n (x := p1) rfl zd_14_119_132 ?_
          refine zz_callVI [zi p0, zi 1, zi p1] zd_14_119_133 zk_Md_631 zT_1079 (zz_ltn hn rfl) rfl rfl ⟨Nat.le_of_ble_eq_true rfl, Nat.le_of_ble_eq_true rfl⟩ ⟨rfl, rfl⟩ (Nat.zero_le _) (Nat.zero_le _) (zc_isTokenThere_14_118 p0 1 p1 S n hn G_S (by omega) (by omega) (by omega)) (fun v20 S19 hP => ?_)
          obtain ⟨rfl, o21⟩ := hP
          rcases (by omega : v20 = 0 ∨ v20 = 1) with rfl | rfl
          · refine zz_if_ne (by omega) zd_14_119_136 (fun c22 => ?_) (fun c22 => ?_)
            · exfalso; omega
            · refine zz_iload (x := 0) rfl zd_14_119_139 ?_
              refine zz_iconst zd_14_119_141 ?_
              refine zz_iadd zd_14_119_142 ?_
              refine zz_goto zd_14_119_143 ?_
              exact zz_iret zd_14_119_148 rfl (Nat.zero_le _) (Nat.zero_le _) ⟨_, _, rfl, G_S, F_S, by omega⟩
          · refine zz_if_ne (by omega) zd_14_119_136 (fun c23 => ?_) (fun c23 => ?_)
            · refine zz_iload (x := 0) rfl zd_14_119_146 ?_
              exact zz_iret zd_14_119_148 rfl (Nat.zero_le _) (Nat.zero_le _) ⟨_, _, rfl, G_S, F_S, by omega⟩
            · exfalso; omega
      · refine zz_aload_n (x := 1079) rfl zd_14_119_98 ?_
        refine zz_iload_n (x := p0) rfl zd_14_119_99 ?_
        refine zz_iconst zd_14_119_100 ?_
        refine zz_iload_n (x := p1) rfl zd_14_119_101 ?_
        refine zz_callVI [zi p0, zi 0, zi p1] zd_14_119_102 zk_Md_631 zT_1079 (zz_ltn hn rfl) rfl rfl ⟨Nat.le_of_ble_eq_true rfl, Nat.le_of_ble_eq_true rfl⟩ ⟨rfl, rfl⟩ (Nat.zero_le _) (Nat.zero_le _) (zc_isTokenThere_14_118 p0 0 p1 S n hn G_S (by omega) (by omega) (by omega)) (fun v25 S24 hP => ?_)
        obtain ⟨rfl, o26⟩ := hP
        rcases (by omega : v25 = 0 ∨ v25 = 1) with rfl | rfl
        · refine zz_if_ne (by omega) zd_14_119_105 (fun c27 => ?_) (fun c27 => ?_)
          · exfalso; omega
          · refine zz_iconst zd_14_119_108 ?_
            refine zz_goto zd_14_119_109 ?_
            refine zz_istore [some (.ref 1079), some (zi p0), some (zi p1), some (zi x3), some (zi 1)] zd_14_119_113 (by decide) rfl ?_
            refine zz_aload_n (x := 1079) rfl zd_14_119_115 ?_
            refine zz_getr (kd := 0) (z := 1096) zd_14_119_116 zf_Md_67 zT_1079 rfl (zz_ltn hn rfl) (zz_G.eq G_S 1079 24 1096 rfl rfl) (by decide) 1096 rfl ?_
            refine zz_iload_n (x := x3) rfl zd_14_119_119 ?_
            refine zz_iald (z := S0 1096 x3.toNat) zd_14_119_120 zT_1096 rfl (zz_ltn hn rfl) (by decide) (by omega) (zz_rc F_S (zz_nc1 rfl) rfl (fun h => h) rfl) ?_
            refine zz_iconst zd_14_119_121 ?_
            refine zz_ishr zd_14_119_122 (fun v28 hv28 ev28 => ?_)
            refine zz_iconst zd_14_119_123 ?_
            refine zz_iand (by omega) (by omega) zd_14_119_124 (fun v29 hv29 av29 bv29 ev29 => ?_)
            refine zz_iconst zd_14_119_125 ?_
            refine zz_icmp_ne (by omega) (by omega) zd_14_119_126 (fun c30 => ?_) (fun c30 => ?_)
            · refine zz_iload (x := 1) rfl zd_14_119_146 ?_
              exact zz_iret zd_14_119_148 rfl (Nat.zero_le _) (Nat.zero_le _) ⟨_, _, rfl, G_S, F_S, by omega⟩
            · refine zz_aload_n (x := 1079) rfl zd_14_119_129 ?_
              refine zz_iload_n (x := p0) rfl zd_14_119_130 ?_
              refine zz_iconst zd_14_119_131 ?_
              refine zz_iload_n (x := p1) rfl zd_14_119_132 ?_
              refine zz_callVI [zi p0, zi 1, zi p1] zd_14_119_133 zk_Md_631 zT_1079 (zz_ltn hn rfl) rfl rfl ⟨Nat.le_of_ble_eq_true rfl, Nat.le_of_ble_eq_true rfl⟩ ⟨rfl, rfl⟩ (Nat.zero_le _) (Nat.zero_le _) (zc_isTokenThere_14_118 p0 1 p1 S n hn G_S (by omega) (by omega) (by omega)) (fun v32 S31 hP => ?_)
              obtain ⟨rfl, o33⟩ := hP
              rcases (by omega : v32 = 0 ∨ v32 = 1) with rfl | rfl
              · refine zz_if_ne (by omega) zd_14_119_136 (fun c34 => ?_) (fun c34 => ?_)
                · exfalso; omega
                · refine zz_iload (x := 1) rfl zd_14_119_139 ?_
                  refine zz_iconst zd_14_119_141 ?_
                  refine zz_iadd zd_14_119_142 ?_
                  refine zz_goto zd_14_119_143 ?_
                  exact zz_iret zd_14_119_148 rfl (Nat.zero_le _) (Nat.zero_le _) ⟨_, _, rfl, G_S, F_S, by omega⟩
              · refine zz_if_ne (by omega) zd_14_119_136 (fun c35 => ?_) (fun c35 => ?_)
                · refine zz_iload (x := 1) rfl zd_14_119_146 ?_
                  exact zz_iret zd_14_119_148 rfl (Nat.zero_le _) (Nat.zero_le _) ⟨_, _, rfl, G_S, F_S, by omega⟩
                · exfalso; omega
        · refine zz_if_ne (by omega) zd_14_119_105 (fun c36 => ?_) (fun c36 => ?_)
          · refine zz_iconst zd_14_119_112 ?_
            refine zz_istore [some (.ref 1079), some (zi p0), some (zi p1), some (zi x3), some (zi 0)] zd_14_119_113 (by decide) rfl ?_
            refine zz_aload_n (x := 1079) rfl zd_14_119_115 ?_
            refine zz_getr (kd := 0) (z := 1096) zd_14_119_116 zf_Md_67 zT_1079 rfl (zz_ltn hn rfl) (zz_G.eq G_S 1079 24 1096 rfl rfl) (by decide) 1096 rfl ?_
            refine zz_iload_n (x := x3) rfl zd_14_119_119 ?_
            refine zz_iald (z := S0 1096 x3.toNat) zd_14_119_120 zT_1096 rfl (zz_ltn hn rfl) (by decide) (by omega) (zz_rc F_S (zz_nc1 rfl) rfl (fun h => h) rfl) ?_
            refine zz_iconst zd_14_119_121 ?_
            refine zz_ishr zd_14_119_122 (fun v37 hv37 ev37 => ?_)
            refine zz_iconst zd_14_119_123 ?_
            refine zz_iand (by omega) (by omega) zd_14_119_124 (fun v38 hv38 av38 bv38 ev38 => ?_)
            refine zz_iconst zd_14_119_125 ?_
            refine zz_icmp_ne (by omega) (by omega) zd_14_119_126 (fun c39 => ?_) (fun c39 => ?_)
            · refine zz_iload (x := 0) rfl zd_14_119_146 ?_
              exact zz_iret zd_14_119_148 rfl (Nat.zero_le _) (Nat.zero_le _) ⟨_, _, rfl, G_S, F_S, by omega⟩
            · refine zz_aload_n (x := 1079) rfl zd_14_119_129 ?_
              refine zz_iload_n (x := p0) rfl zd_14_119_130 ?_
              refine zz_iconst zd_14_119_131 ?_
              refine zz_iload_n (x := p1) rfl zd_14_119_132 ?_
              refine zz_callVI [zi p0, zi 1, zi p1] zd_14_119_133 zk_Md_631 zT_1079 (zz_ltn hn rfl) rfl rfl ⟨Nat.le_of_ble_eq_true rfl, Nat.le_of_ble_eq_true rfl⟩ ⟨rfl, rfl⟩ (Nat.zero_le _) (Nat.zero_le _) (zc_isTokenThere_14_118 p0 1 p1 S n hn G_S (by omega) (by omega) (by omega)) (fun v41 S40 hP => ?_)
              obtain ⟨rfl, o42⟩ := hP
              rcases (by omega : v41 = 0 ∨ v41 = 1) with rfl | rfl
              · refine zz_if_ne (by omega) zd_14_119_136 (fun c43 => ?_) (fun c43 => ?_)
                · exfalso; omega
                · refine zz_iload (x := 0) rfl zd_14_119_139 ?_
                  refine zz_iconst zd_14_119_141 ?_
                  refine zz_iadd zd_14_119_142 ?_
                  refine zz_goto zd_14_119_143 ?_
                  exact zz_iret zd_14_119_148 rfl (Nat.zero_le _) (Nat.zero_le _) ⟨_, _, rfl, G_S, F_S, by omega⟩
              · refine zz_if_ne (by omega) zd_14_119_136 (fun c44 => ?_) (fun c44 => ?_)
                · refine zz_iload (x := 0) rfl zd_14_119_146 ?_
                  exact zz_iret zd_14_119_148 rfl (Nat.zero_le _) (Nat.zero_le _) ⟨_, _, rfl, G_S, F_S, by omega⟩
                · exfalso; omega
          · exfalso; omega
    · refine zz_iconst zd_14_119_84 ?_
      exact zz_iret zd_14_119_85 rfl (Nat.zero_le _) (Nat.zero_le _) ⟨_, _, rfl, G_S, F_S, by omega⟩
  · refine zz_aload_n (x := 1079) rfl zd_14_119_35 ?_
    refine zz_getr (kd := 0) (z := 1092) zd_14_119_36 zf_Md_54 zT_1079 rfl (zz_ltn hn rfl) (zz_G.eq G_S 1079 20 1092 rfl rfl) (by decide) 1092 rfl ?_
    refine zz_iload (x := x4) rfl zd_14_119_39 ?_
    have g45 := zz_G.r G_S0 1092 x4.toNat (-2147483648) 2147483647 rfl rfl
    refine zz_iald (z := S0 1092 x4.toNat) zd_14_119_41 zT_1092 rfl (zz_ltn hn rfl) (by decide) (by omega) (zz_rc F_S (zz_nc1 rfl) rfl (fun h => h) rfl) ?_
    refine zz_iload_n (x := p0) rfl zd_14_119_42 ?_
    refine zz_icmp_ne (by omega) (by omega) zd_14_119_43 (fun c46 => ?_) (fun c46 => ?_)
    · refine zz_iload_n (x := x3) rfl zd_14_119_72 ?_
      refine zz_istore_n [some (.ref 1079), some (zi p0), some (zi p1), some (zi x3), some (zi x4)] zd_14_119_73 (by decide) rfl ?_
      refine zz_iinc [some (.ref 1079), some (zi p0), some (zi p1), some (zi x3), some (zi (x4 + (-1)))] zd_14_119_74 rfl rfl ?_
      refine zz_goto zd_14_119_77 ?_
      refine zz_less (ls1 := [some (.ref 1079), some (zi p0), some (zi p1), some (zi x3), some (zi (x4 + (-1)))]) ⟨rfl, ⟨rfl, ⟨rfl, ⟨rfl, ⟨rfl, trivial⟩⟩⟩⟩⟩ ?_
      exact k30 x3 (x4 + (-1)) S G_S F_S (by omega) (by omega) (by omega)
    · refine zz_aload_n (x := 1079) rfl zd_14_119_46 ?_
      refine zz_getr (kd := 0) (z := 1093) zd_14_119_47 zf_Md_57 zT_1079 rfl (zz_ltn hn rfl) (zz_G.eq G_S 1079 21 1093 rfl rfl) (by decide) 1093 rfl ?_
      refine zz_iload (x := x4) rfl zd_14_119_50 ?_
      have g47 := zz_G.r G_S0 1093 x4.toNat (-2147483648) 2147483647 rfl rfl
      refine zz_iald (z := S0 1093 x4.toNat) zd_14_119_52 zT_1093 rfl (zz_ltn hn rfl) (by decide) (by omega) (zz_rc F_S (zz_nc1 rfl) rfl (fun h => h) rfl) ?_
      refine zz_if_lt (by omega) zd_14_119_53 (fun c48 => ?_) (fun c48 => ?_)
      · refine zz_iload (x := x4) rfl zd_14_119_67 ?_
        refine zz_goto zd_14_119_69 ?_
        refine zz_istore_n [some (.ref 1079), some (zi p0), some (zi p1), some (zi x4), some (zi x4)] zd_14_119_73 (by decide) rfl ?_
        refine zz_iinc [some (.ref 1079), some (zi p0), some (zi p1), some (zi x4), some (zi (x4 + (-1)))] zd_14_119_74 rfl rfl ?_
        refine zz_goto zd_14_119_77 ?_
        refine zz_less (ls1 := [some (.ref 1079), some (zi p0), some (zi p1), some (zi x4), some (zi (x4 + (-1)))]) ⟨rfl, ⟨rfl, ⟨rfl, ⟨rfl, ⟨rfl, trivial⟩⟩⟩⟩⟩ ?_
        exact k30 x4 (x4 + (-1)) S G_S F_S (by omega) (by omega) (by omega)
      · refine zz_aload_n (x := 1079) rfl zd_14_119_56 ?_
        refine zz_getr (kd := 0) (z := 1093) zd_14_119_57 zf_Md_57 zT_1079 rfl (zz_ltn hn rfl) (zz_G.eq G_S 1079 21 1093 rfl rfl) (by decide) 1093 rfl ?_
        refine zz_iload (x := x4) rfl zd_14_119_60 ?_
        refine zz_iald (z := S0 1093 x4.toNat) zd_14_119_62 zT_1093 rfl (zz_ltn hn rfl) (by decide) (by omega) (zz_rc F_S (zz_nc1 rfl) rfl (fun h => h) rfl) ?_
        refine zz_iload_n (x := p1) rfl zd_14_119_63 ?_
        refine zz_icmp_le (by omega) (by omega) zd_14_119_64 (fun c49 => ?_) (fun c49 => ?_)
        · refine zz_iload_n (x := x3) rfl zd_14_119_72 ?_
          refine zz_istore_n [some (.ref 1079), some (zi p0), some (zi p1), some (zi x3), some (zi x4)] zd_14_119_73 (by decide) rfl ?_
          refine zz_iinc [some (.ref 1079), some (zi p0), some (zi p1), some (zi x3), some (zi (x4 + (-1)))] zd_14_119_74 rfl rfl ?_
          refine zz_goto zd_14_119_77 ?_
          refine zz_less (ls1 := [some (.ref 1079), some (zi p0), some (zi p1), some (zi x3), some (zi (x4 + (-1)))]) ⟨rfl, ⟨rfl, ⟨rfl, ⟨rfl, ⟨rfl, trivial⟩⟩⟩⟩⟩ ?_
          exact k30 x3 (x4 + (-1)) S G_S F_S (by omega) (by omega) (by omega)
        · refine zz_iload (x := x4) rfl zd_14_119_67 ?_
          refine zz_goto zd_14_119_69 ?_
          refine zz_istore_n [some (.ref 1079), some (zi p0), some (zi p1), some (zi x4), some (zi x4)] zd_14_119_73 (by decide) rfl ?_
          refine zz_iinc [some (.ref 1079), some (zi p0), some (zi p1), some (zi x4), some (zi (x4 + (-1)))] zd_14_119_74 rfl rfl ?_
          refine zz_goto zd_14_119_77 ?_
          refine zz_less (ls1 := [some (.ref 1079), some (zi p0), some (zi p1), some (zi x4), some (zi (x4 + (-1)))]) ⟨rfl, ⟨rfl, ⟨rfl, ⟨rfl, ⟨rfl, trivial⟩⟩⟩⟩⟩ ?_
          exact k30 x4 (x4 + (-1)) S G_S F_S (by omega) (by omega) (by omega)
theorem zi_waits_14_119 {g : mm_G} {l : Launch} (p0 : Int) (p1 : Int) (S0 : zz_S) (n : Nat) (hn : zz_end ≤ n) (G_S0 : zz_G S0) (hp0 : (-2147483648) ≤ p0 ∧ p0 ≤ 2147483647) (hp1 : (-2147483648) ≤ p1 ∧ p1 ≤ 2147483647) : ∀ N : Nat, (∀ (x3 : Int) (x4 : Int) (S : zz_S), zz_G S → zz_fr [(1079, 0)] [] (fun _ _ => False) S0 S → ((-1) ≤ x3 ∧ x3 ≤ 599) → ((-2) ≤ x4 ∧ x4 ≤ 599) → (x4 + 1).toNat < N → zz_E g l zy_waits_14_119 zr_waits_14_119 (zz_QI n (zp_waits_14_119 p0 p1 S0)) S n 30 [some (.ref 1079), some (zi p0), some (zi p1), some (zi x3), some (zi x4)] [] 0 0) := by
  intro N
  induction N with
  | zero => exact fun x3 x4 S _ _ _ _ h => absurd h (Nat.not_lt_zero _)
  | succ N ih =>
    exact fun x3 x4 S a b j0 j1 hR => zb_waits_14_119_30 p0 p1 S0 n hn G_S0 hp0 hp1 x3 x4 S a b j0 j1 _ rfl (fun x3 x4 S a b j0 j1 h => ih x3 x4 S a b j0 j1 (Nat.lt_of_lt_of_le h (Nat.le_of_lt_succ hR)))
theorem zc_waits_14_119 {g : mm_G} {l : Launch} (p0 : Int) (p1 : Int) (S0 : zz_S) (n : Nat) (hn : zz_end ≤ n) (G_S0 : zz_G S0) (hp0 : (-2147483648) ≤ p0 ∧ p0 ≤ 2147483647) (hp1 : (-2147483648) ≤ p1 ∧ p1 ≤ 2147483647) : mm_Met g l zy_waits_14_119 zr_waits_14_119 [.ref 1079, zi p0, zi p1] (zz_M S0 n) n (zz_QI n (zp_waits_14_119 p0 p1 S0)) := by
  refine zz_enter (by decide) (Nat.le_of_ble_eq_true rfl) (zz_less (ls1 := [some (.ref 1079), some (zi p0), some (zi p1)]) ⟨rfl, ⟨rfl, ⟨rfl, trivial⟩⟩⟩ ?_)
  have F_S0 : zz_fr [(1079, 0)] [] (fun _ _ => False) S0 S0 := zz_fr.refl
  have k30 : ∀ (x3 : Int) (x4 : Int) (S : zz_S), zz_G S → zz_fr [(1079, 0)] [] (fun _ _ => False) S0 S → ((-1) ≤ x3 ∧ x3 ≤ 599) → ((-2) ≤ x4 ∧ x4 ≤ 599) → zz_E g l zy_waits_14_119 zr_waits_14_119 (zz_QI n (zp_waits_14_119 p0 p1 S0)) S n 30 [some (.ref 1079), some (zi p0), some (zi p1), some (zi x3), some (zi x4)] [] 0 0 := fun x3 x4 S a b j0 j1 => (zi_waits_14_119 (g := g) (l := l) p0 p1 S0 n hn G_S0 hp0 hp1 _) x3 x4 S a b j0 j1 (Nat.lt_succ_self _)
  refine zz_aload_n (x := 1079) rfl zd_14_119_0 ?_
  refine zz_iload_n (x := p0) rfl zd_14_119_1 ?_
  refine zz_iload_n (x := p1) rfl zd_14_119_2 ?_
  refine zz_callVI [zi p0, zi p1] zd_14_119_3 zk_Md_625 zT_1079 (zz_ltn hn rfl) rfl rfl ⟨Nat.le_of_ble_eq_true rfl, Nat.le_of_ble_eq_true rfl⟩ ⟨rfl, rfl⟩ (Nat.zero_le _) (Nat.zero_le _) (zc_isToldOfRun_14_115 p0 p1 S0 n hn G_S0 (by omega) (by omega)) (fun v2 S1 hP => ?_)
  obtain ⟨G_S1, fS1, o3⟩ := hP
  have F_S1 := zz_fr.trans F_S0 fS1 rfl zz_nv
  rcases (by omega : v2 = 0 ∨ v2 = 1) with rfl | rfl
  · refine zz_if_eq (by omega) zd_14_119_6 (fun c4 => ?_) (fun c4 => ?_)
    · refine zz_iconst zd_14_119_18 ?_
      exact zz_iret zd_14_119_19 rfl (Nat.zero_le _) (Nat.zero_le _) ⟨_, _, rfl, G_S1, F_S1, by omega⟩
    · exfalso; omega
  · refine zz_if_eq (by omega) zd_14_119_6 (fun c5 => ?_) (fun c5 => ?_)
    · exfalso; omega
    · refine zz_aload_n (x := 1079) rfl zd_14_119_9 ?_
      refine zz_iload_n (x := p0) rfl zd_14_119_10 ?_
      refine zz_iload_n (x := p1) rfl zd_14_119_11 ?_
      refine zz_callVI [zi p0, zi p1] zd_14_119_12 zk_Md_628 zT_1079 (zz_ltn hn rfl) rfl rfl ⟨Nat.le_of_ble_eq_true rfl, Nat.le_of_ble_eq_true rfl⟩ ⟨rfl, rfl⟩ (Nat.zero_le _) (Nat.zero_le _) (zc_underWay_14_116 p0 p1 S1 n hn G_S1 (by omega) (by omega)) (fun v7 S6 hP => ?_)
      obtain ⟨rfl, o8⟩ := hP
      refine zz_if_lt (by omega) zd_14_119_15 (fun c9 => ?_) (fun c9 => ?_)
      · refine zz_iconst zd_14_119_20 ?_
        refine zz_istore_n [some (.ref 1079), some (zi p0), some (zi p1), some (zi (-1))] zd_14_119_21 (by decide) rfl ?_
        refine zz_aload_n (x := 1079) rfl zd_14_119_22 ?_
        have g10 := zz_G.r G_S0 1079 19 (-1) 600 rfl rfl
        refine zz_geti (z := S0 1079 19) zd_14_119_23 zf_Md_272 zT_1079 rfl (zz_ltn hn rfl) (zz_rc fS1 rfl rfl (fun h => h) rfl) ?_
        refine zz_iconst zd_14_119_26 ?_
        refine zz_isub zd_14_119_27 ?_
        refine zz_istore [some (.ref 1079), some (zi p0), some (zi p1), some (zi (-1)), some (zi ((S0 1079 19) - 1))] zd_14_119_28 (by decide) rfl ?_
        refine zz_less (ls1 := [some (.ref 1079), some (zi p0), some (zi p1), some (zi (-1)), some (zi ((S0 1079 19) - 1))]) ⟨rfl, ⟨rfl, ⟨rfl, ⟨rfl, ⟨rfl, trivial⟩⟩⟩⟩⟩ ?_
        exact k30 (-1) ((S0 1079 19) - 1) S1 G_S1 F_S1 (by omega) (by omega)
      · refine zz_iconst zd_14_119_18 ?_
        exact zz_iret zd_14_119_19 rfl (Nat.zero_le _) (Nat.zero_le _) ⟨_, _, rfl, G_S1, F_S1, by omega⟩

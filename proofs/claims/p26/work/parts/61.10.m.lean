-- TensorForgeModel tile (I)V
abbrev zr_tile_14_87 : Room := { frames := 6, cells := 0, slots := 0, locals := 105 }
def zp_tile_14_87 (p0 : Int) (S0 : zz_S) : zz_S → Prop := fun S => zz_G S ∧ zz_fr [(1079, 10), (1079, 50), (1079, 51), (1079, 57), (1079, 60)] [1086, 1087] (fun _ _ => False) S0 S ∧ (S0 1079 10 ≤ S 1079 10 ∧ S 1079 10 ≤ S0 1079 10 + 2000)
theorem zb_tile_14_87_19 {g : mm_G} {l : Launch} (p0 : Int) (S0 : zz_S) (n : Nat) (hn : zz_end ≤ n) (G_S0 : zz_G S0) (hp0 : 0 ≤ p0 ∧ p0 ≤ 9) (hq : S0 1079 10 ≤ 600) (x3 : Int) (S : zz_S) (G_S : zz_G S) (F_S : zz_fr [(1079, 10), (1079, 50), (1079, 51), (1079, 57), (1079, 60)] [1086, 1087] (fun _ _ => False) S0 S) (i19_0 : 0 ≤ x3 ∧ x3 ≤ 2) (i19_1 : S0 1106 p0.toNat = 2) (i19_2 : S0 1079 10 ≤ S 1079 10 ∧ S 1079 10 ≤ S0 1079 10 + 6 * x3) (R : Nat) (hR : (85899345920 + (2 - x3).toNat) * 1099511627776 + 1099511627775 = R) (k19 : ∀ (x3 : Int) (S : zz_S), zz_G S → zz_fr [(1079, 10), (1079, 50), (1079, 51), (1079, 57), (1079, 60)] [1086, 1087] (fun _ _ => False) S0 S → (0 ≤ x3 ∧ x3 ≤ 2) → (S0 1106 p0.toNat = 2) → (S0 1079 10 ≤ S 1079 10 ∧ S 1079 10 ≤ S0 1079 10 + 6 * x3) → (85899345920 + (2 - x3).toNat) * 1099511627776 + 1099511627775 < R → zz_E g l zy_tile_14_87 zr_tile_14_87 (zz_QV n (zp_tile_14_87 p0 S0)) S n 19 [some (.ref 1079), some (zi p0), none, some (zi x3)] [] 0 0) (k292 : ∀  (S : zz_S), zz_G S → zz_fr [(1079, 10), (1079, 50), (1079, 51), (1079, 57), (1079, 60)] [1086, 1087] (fun _ _ => False) S0 S → (S0 1079 10 ≤ S 1079 10 ∧ S 1079 10 ≤ S0 1079 10 + 1900) → (34359738368 + 0) * 1099511627776 < R → zz_E g l zy_tile_14_87 zr_tile_14_87 (zz_QV n (zp_tile_14_87 p0 S0)) S n 292 [some (.ref 1079), some (zi p0)] [] 0 0) : zz_E g l zy_tile_14_87 zr_tile_14_87 (zz_QV n (zp_tile_14_87 p0 S0)) S n 19 [some (.ref 1079), some (zi p0), none, some (zi x3)] [] 0 0 := by
  refine zz_iload_n (x := x3) rfl zd_14_87_19 ?_
  refine zz_iconst zd_14_87_20 ?_
  refine zz_icmp_ge (by omega) (by omega) zd_14_87_21 (fun c40 => ?_) (fun c40 => ?_)
  · refine zz_goto zd_14_87_82 ?_
    have g41 := zz_G.r G_S 1079 10 0 1000000 rfl rfl
    refine zz_less (ls1 := [some (.ref 1079), some (zi p0)]) ⟨rfl, ⟨rfl, trivial⟩⟩ ?_
    exact k292 S G_S F_S (by omega) (by omega)
  · refine zz_aload_n (x := 1079) rfl zd_14_87_24 ?_
    refine zz_iload_n (x := p0) rfl zd_14_87_25 ?_
    refine zz_iload_n (x := x3) rfl zd_14_87_26 ?_
    refine zz_iconst zd_14_87_27 ?_
    refine zz_aload_n (x := 1079) rfl zd_14_87_28 ?_
    have g42 := zz_G.r G_S0 1079 56 (-2147483648) 2147483647 rfl rfl
    refine zz_geti (z := S0 1079 56) zd_14_87_29 zf_Md_466 zT_1079 rfl (zz_ltn hn rfl) (zz_rc F_S rfl rfl (fun h => h) rfl) ?_
    refine zz_aload_n (x := 1079) rfl zd_14_87_32 ?_
    have g43 := zz_G.r G_S0 1079 53 (-2147483648) 2147483647 rfl rfl
    refine zz_geti (z := S0 1079 53) zd_14_87_33 zf_Md_472 zT_1079 rfl (zz_ltn hn rfl) (zz_rc F_S rfl rfl (fun h => h) rfl) ?_
    refine zz_iload_n (x := x3) rfl zd_14_87_36 ?_
    refine zz_if_ne (by omega) zd_14_87_37 (fun c44 => ?_) (fun c44 => ?_)
    · refine zz_iconst zd_14_87_44 ?_
      have g45 := zz_G.r G_S 1079 10 0 1000000 rfl rfl
      refine zz_callVV [zi p0, zi x3, zi 0, zi (S0 1079 56), zi (S0 1079 53), zi 0] zd_14_87_45 zk_Md_498 zT_1079 (zz_ltn hn rfl) rfl rfl ⟨Nat.le_of_ble_eq_true rfl, Nat.le_of_ble_eq_true rfl⟩ ⟨rfl, rfl⟩ (Nat.zero_le _) (Nat.zero_le _) (zc_group_14_83 p0 x3 0 (S0 1079 56) (S0 1079 53) 0 S n hn G_S (by omega) (by omega) (by omega) (by omega) (by omega) (by omega) (by omega)) (fun S46 hP => ?_)
      obtain ⟨G_S46, fS46, o48⟩ := hP
      have F_S46 := zz_fr.trans F_S fS46 rfl zz_nv
      refine zz_aload_n (x := 1079) rfl zd_14_87_48 ?_
      refine zz_iload_n (x := p0) rfl zd_14_87_49 ?_
      refine zz_aload_n (x := 1079) rfl zd_14_87_50 ?_
      refine zz_geti (z := S0 1079 53) zd_14_87_51 zf_Md_472 zT_1079 rfl (zz_ltn hn rfl) (zz_rc fS46 rfl rfl (fun h => h) (zz_rc F_S rfl rfl (fun h => h) rfl)) ?_
      refine zz_iload_n (x := x3) rfl zd_14_87_54 ?_
      refine zz_if_ne (by omega) zd_14_87_55 (fun c49 => ?_) (fun c49 => ?_)
      · refine zz_iconst zd_14_87_62 ?_
        refine zz_iload_n (x := x3) rfl zd_14_87_63 ?_
        refine zz_iconst zd_14_87_64 ?_
        refine zz_icmp_ne (by omega) (by omega) zd_14_87_65 (fun c50 => ?_) (fun c50 => ?_)
        · exfalso; omega
        · refine zz_iconst zd_14_87_68 ?_
          refine zz_goto zd_14_87_69 ?_
          have g51 := zz_G.r G_S46 1079 10 0 1000000 rfl rfl
          refine zz_callVV [zi p0, zi (S0 1079 53), zi 0, zi 1] zd_14_87_73 zk_Md_502 zT_1079 (zz_ltn hn rfl) rfl rfl ⟨Nat.le_of_ble_eq_true rfl, Nat.le_of_ble_eq_true rfl⟩ ⟨rfl, rfl⟩ (Nat.zero_le _) (Nat.zero_le _) (zc_works_14_86 p0 (S0 1079 53) 0 1 S46 n hn G_S46 (by omega) (by omega) (by omega) (by omega) (by omega)) (fun S52 hP => ?_)
          obtain ⟨G_S52, fS52, o54⟩ := hP
          have F_S52 := zz_fr.trans F_S46 fS52 rfl zz_nv
          refine zz_iinc [some (.ref 1079), some (zi p0), none, some (zi (x3 + 1))] zd_14_87_76 rfl rfl ?_
          refine zz_goto zd_14_87_79 ?_
          have g55 := zz_G.r G_S52 1079 10 0 1000000 rfl rfl
          refine zz_less (ls1 := [some (.ref 1079), some (zi p0), none, some (zi (x3 + 1))]) ⟨rfl, ⟨rfl, ⟨rfl, trivial⟩⟩⟩ ?_
          exact k19 (x3 + 1) S52 G_S52 F_S52 (by omega) (by omega) (by omega) (by omega)
      · exfalso; omega
    · refine zz_iconst zd_14_87_40 ?_
      refine zz_goto zd_14_87_41 ?_
      have g56 := zz_G.r G_S 1079 10 0 1000000 rfl rfl
      refine zz_callVV [zi p0, zi x3, zi 0, zi (S0 1079 56), zi (S0 1079 53), zi 1] zd_14_87_45 zk_Md_498 zT_1079 (zz_ltn hn rfl) rfl rfl ⟨Nat.le_of_ble_eq_true rfl, Nat.le_of_ble_eq_true rfl⟩ ⟨rfl, rfl⟩ (Nat.zero_le _) (Nat.zero_le _) (zc_group_14_83 p0 x3 0 (S0 1079 56) (S0 1079 53) 1 S n hn G_S (by omega) (by omega) (by omega) (by omega) (by omega) (by omega) (by omega)) (fun S57 hP => ?_)
      obtain ⟨G_S57, fS57, o59⟩ := hP
      have F_S57 := zz_fr.trans F_S fS57 rfl zz_nv
      refine zz_aload_n (x := 1079) rfl zd_14_87_48 ?_
      refine zz_iload_n (x := p0) rfl zd_14_87_49 ?_
      refine zz_aload_n (x := 1079) rfl zd_14_87_50 ?_
      refine zz_geti (z := S0 1079 53) zd_14_87_51 zf_Md_472 zT_1079 rfl (zz_ltn hn rfl) (zz_rc fS57 rfl rfl (fun h => h) (zz_rc F_S rfl rfl (fun h => h) rfl)) ?_
      refine zz_iload_n (x := x3) rfl zd_14_87_54 ?_
      refine zz_if_ne (by omega) zd_14_87_55 (fun c60 => ?_) (fun c60 => ?_)
      · exfalso; omega
      · refine zz_iconst zd_14_87_58 ?_
        refine zz_goto zd_14_87_59 ?_
        refine zz_iload_n (x := x3) rfl zd_14_87_63 ?_
        refine zz_iconst zd_14_87_64 ?_
        refine zz_icmp_ne (by omega) (by omega) zd_14_87_65 (fun c61 => ?_) (fun c61 => ?_)
        · refine zz_iconst zd_14_87_72 ?_
          have g62 := zz_G.r G_S57 1079 10 0 1000000 rfl rfl
          refine zz_callVV [zi p0, zi (S0 1079 53), zi 1, zi 0] zd_14_87_73 zk_Md_502 zT_1079 (zz_ltn hn rfl) rfl rfl ⟨Nat.le_of_ble_eq_true rfl, Nat.le_of_ble_eq_true rfl⟩ ⟨rfl, rfl⟩ (Nat.zero_le _) (Nat.zero_le _) (zc_works_14_86 p0 (S0 1079 53) 1 0 S57 n hn G_S57 (by omega) (by omega) (by omega) (by omega) (by omega)) (fun S63 hP => ?_)
          obtain ⟨G_S63, fS63, o65⟩ := hP
          have F_S63 := zz_fr.trans F_S57 fS63 rfl zz_nv
          refine zz_iinc [some (.ref 1079), some (zi p0), none, some (zi (x3 + 1))] zd_14_87_76 rfl rfl ?_
          refine zz_goto zd_14_87_79 ?_
          have g66 := zz_G.r G_S63 1079 10 0 1000000 rfl rfl
          refine zz_less (ls1 := [some (.ref 1079), some (zi p0), none, some (zi (x3 + 1))]) ⟨rfl, ⟨rfl, ⟨rfl, trivial⟩⟩⟩ ?_
          exact k19 (x3 + 1) S63 G_S63 F_S63 (by omega) (by omega) (by omega) (by omega)
        · exfalso; omega
theorem zb_tile_14_87_147 {g : mm_G} {l : Launch} (p0 : Int) (S0 : zz_S) (n : Nat) (hn : zz_end ≤ n) (G_S0 : zz_G S0) (hp0 : 0 ≤ p0 ∧ p0 ≤ 9) (hq : S0 1079 10 ≤ 600) (x3 : Int) (x4 : Int) (x5 : Int) (x6 : Int) (S : zz_S) (G_S : zz_G S) (F_S : zz_fr [(1079, 10), (1079, 50), (1079, 51), (1079, 57), (1079, 60)] [1086, 1087] (fun _ _ => False) S0 S) (i147_0 : 0 ≤ x3 ∧ x3 ≤ 1) (i147_1 : 0 ≤ x4 ∧ x4 ≤ 9) (i147_2 : 0 ≤ x5 ∧ x5 ≤ 35) (i147_3 : 0 ≤ x6 ∧ x6 ≤ 315) (i147_4 : S0 1106 p0.toNat ≠ 2) (i147_5 : S0 1079 10 ≤ S 1079 10 ∧ S 1079 10 ≤ S0 1079 10 + 6 * x6) (i147_6 : x4 = (S0 1109 p0.toNat) * (S0 1110 p0.toNat)) (R : Nat) (hR : (68719476736 + (400 - x6).toNat) * 1099511627776 + 1099511627775 = R) (k209 : ∀ (x3 : Int) (x4 : Int) (x5 : Int) (x6 : Int) (x7 : Int) (x8 : Int) (S : zz_S), zz_G S → zz_fr [(1079, 10), (1079, 50), (1079, 51), (1079, 57), (1079, 60)] [1086, 1087] (fun _ _ => False) S0 S → (0 ≤ x3 ∧ x3 ≤ 1) → (0 ≤ x4 ∧ x4 ≤ 9) → (0 ≤ x5 ∧ x5 ≤ 35) → (0 ≤ x6 ∧ x6 ≤ 315) → ((-2147483648) ≤ x7 ∧ x7 ≤ 2147483647) → ((-2147483648) ≤ x8 ∧ x8 ≤ 2147483647) → (S0 1106 p0.toNat ≠ 2) → (x4 = (S0 1109 p0.toNat) * (S0 1110 p0.toNat)) → (x6 < x4 * x5) → (S0 1079 10 ≤ S 1079 10 ∧ S 1079 10 ≤ S0 1079 10 + 6 * x6) → (x4 = (S0 1109 p0.toNat) * (S0 1110 p0.toNat)) → (x6 < x4 * x5) → (68719476736 + (400 - x6).toNat) * 1099511627776 + (51539607552 + 0) < R → zz_E g l zy_tile_14_87 zr_tile_14_87 (zz_QV n (zp_tile_14_87 p0 S0)) S n 209 [some (.ref 1079), some (zi p0), some (zi (S0 1107 p0.toNat)), some (zi x3), some (zi x4), some (zi x5), some (zi x6), some (zi x7), some (zi x8)] [] 0 0) (k292 : ∀  (S : zz_S), zz_G S → zz_fr [(1079, 10), (1079, 50), (1079, 51), (1079, 57), (1079, 60)] [1086, 1087] (fun _ _ => False) S0 S → (S0 1079 10 ≤ S 1079 10 ∧ S 1079 10 ≤ S0 1079 10 + 1900) → (34359738368 + 0) * 1099511627776 < R → zz_E g l zy_tile_14_87 zr_tile_14_87 (zz_QV n (zp_tile_14_87 p0 S0)) S n 292 [some (.ref 1079), some (zi p0)] [] 0 0) : zz_E g l zy_tile_14_87 zr_tile_14_87 (zz_QV n (zp_tile_14_87 p0 S0)) S n 147 [some (.ref 1079), some (zi p0), some (zi (S0 1107 p0.toNat)), some (zi x3), some (zi x4), some (zi x5), some (zi x6)] [] 0 0 := by
  refine zz_iload (x := x6) rfl zd_14_87_147 ?_
  refine zz_iload (x := x4) rfl zd_14_87_149 ?_
  refine zz_iload (x := x5) rfl zd_14_87_151 ?_
  refine zz_imul zd_14_87_153 ?_
  have m21 := zz_mulb (a := x4) (b := x5) 9 35 315 (by omega) (by omega) (by decide)
  refine zz_icmp_ge (by omega) (by omega) zd_14_87_154 (fun c22 => ?_) (fun c22 => ?_)
  · have g23 := zz_G.r G_S 1079 10 0 1000000 rfl rfl
    refine zz_less (ls1 := [some (.ref 1079), some (zi p0)]) ⟨rfl, ⟨rfl, trivial⟩⟩ ?_
    exact k292 S G_S F_S (by omega) (by omega)
  · have hk7 := zz_G.r G_S0 1107 p0.toNat 0 10 rfl rfl
    have hpp := zz_pos2 (a := x4) (b := x5) (k := x6) (by omega) (by omega) (by omega) (by omega)
    have hkr := zz_G.r G_S0 1109 p0.toNat 0 3 rfl rfl
    have hkc := zz_G.r G_S0 1110 p0.toNat 0 3 rfl rfl
    have hpk := zz_pos2 (a := S0 1109 p0.toNat) (b := S0 1110 p0.toNat) (k := 0) (by omega) (by omega) (by omega) (by omega)
    refine zz_iload_n (x := x3) rfl zd_14_87_157 ?_
    refine zz_if_eq (by omega) zd_14_87_158 (fun c24 => ?_) (fun c24 => ?_)
    · refine zz_iload (x := x6) rfl zd_14_87_168 ?_
      refine zz_iload (x := x5) rfl zd_14_87_170 ?_
      refine zz_irem (by omega) (by omega) zd_14_87_172 (fun v25 hv25 av25 bv25 cv25 => ?_)
      have rmv25 := zz_remb (by omega) (by omega) av25
      refine zz_aload_n (x := 1079) rfl zd_14_87_173 ?_
      have g26 := zz_G.r G_S0 1079 1 2 8 rfl rfl
      refine zz_geti (z := S0 1079 1) zd_14_87_174 zf_Md_7 zT_1079 rfl (zz_ltn hn rfl) (zz_rc F_S rfl rfl (fun h => h) rfl) ?_
      refine zz_imul zd_14_87_177 ?_
      have m27 := zz_mulb (a := v25) (b := S0 1079 1) 34 8 272 (by omega) (by omega) (by decide)
      refine zz_istore [some (.ref 1079), some (zi p0), some (zi (S0 1107 p0.toNat)), some (zi x3), some (zi x4), some (zi x5), some (zi x6), some (zi (v25 * (S0 1079 1)))] zd_14_87_178 (by decide) rfl ?_
      refine zz_iload_n (x := x3) rfl zd_14_87_180 ?_
      refine zz_if_eq (by omega) zd_14_87_181 (fun c28 => ?_) (fun c28 => ?_)
      · refine zz_aload_n (x := 1079) rfl zd_14_87_191 ?_
        refine zz_geti (z := S0 1079 1) zd_14_87_192 zf_Md_7 zT_1079 rfl (zz_ltn hn rfl) (zz_rc F_S rfl rfl (fun h => h) rfl) ?_
        refine zz_aload_n (x := 1079) rfl zd_14_87_195 ?_
        refine zz_getr (kd := 0) (z := 1104) zd_14_87_196 zf_Md_94 zT_1079 rfl (zz_ltn hn rfl) (zz_G.eq G_S 1079 39 1104 rfl rfl) (by decide) 1104 rfl ?_
        refine zz_iload_n (x := S0 1107 p0.toNat) rfl zd_14_87_199 ?_
        have g29 := zz_G.r G_S0 1104 ((S0 1107 p0.toNat).toNat) 0 63 rfl rfl
        refine zz_iald (z := S0 1104 ((S0 1107 p0.toNat).toNat)) zd_14_87_200 zT_1104 rfl (zz_ltn hn rfl) (by decide) (by omega) (zz_rc F_S (zz_nc1 rfl) rfl (fun h => h) rfl) ?_
        refine zz_iload (x := v25 * (S0 1079 1)) rfl zd_14_87_201 ?_
        refine zz_isub zd_14_87_203 ?_
        refine zz_nme (fun v30 ev30 => ?_)
        refine zz_callSI [zi (S0 1079 1), zi v30] zd_14_87_204 zk_Md_506 rfl rfl ⟨Nat.le_of_ble_eq_true rfl, Nat.le_of_ble_eq_true rfl⟩ ⟨rfl, rfl⟩ (Nat.zero_le _) (Nat.zero_le _) (zc_least_14_85 (S0 1079 1) v30 S n hn G_S (by omega) (by omega)) (fun v32 S31 hP => ?_)
        obtain ⟨rfl, o33, o34⟩ := hP
        refine zz_istore [some (.ref 1079), some (zi p0), some (zi (S0 1107 p0.toNat)), some (zi x3), some (zi x4), some (zi x5), some (zi x6), some (zi (v25 * (S0 1079 1))), some (zi v32)] zd_14_87_207 (by decide) rfl ?_
        have g35 := zz_G.r G_S 1079 10 0 1000000 rfl rfl
        refine zz_less (ls1 := [some (.ref 1079), some (zi p0), some (zi (S0 1107 p0.toNat)), some (zi x3), some (zi x4), some (zi x5), some (zi x6), some (zi (v25 * (S0 1079 1))), some (zi v32)]) ⟨rfl, ⟨rfl, ⟨rfl, ⟨rfl, ⟨rfl, ⟨rfl, ⟨rfl, ⟨rfl, ⟨rfl, trivial⟩⟩⟩⟩⟩⟩⟩⟩⟩ ?_
        exact k209 x3 x4 x5 x6 (v25 * (S0 1079 1)) v32 S G_S F_S (by omega) (by omega) (by omega) (by omega) (by omega) (by omega) (by omega) (by omega) (by omega) (by omega) (by omega) (by omega) (by omega)
      · exfalso; omega
    · refine zz_aload_n (x := 1079) rfl zd_14_87_161 ?_
      have g36 := zz_G.r G_S0 1079 56 (-2147483648) 2147483647 rfl rfl
      refine zz_geti (z := S0 1079 56) zd_14_87_162 zf_Md_466 zT_1079 rfl (zz_ltn hn rfl) (zz_rc F_S rfl rfl (fun h => h) rfl) ?_
      refine zz_goto zd_14_87_165 ?_
      refine zz_istore [some (.ref 1079), some (zi p0), some (zi (S0 1107 p0.toNat)), some (zi x3), some (zi x4), some (zi x5), some (zi x6), some (zi (S0 1079 56))] zd_14_87_178 (by decide) rfl ?_
      refine zz_iload_n (x := x3) rfl zd_14_87_180 ?_
      refine zz_if_eq (by omega) zd_14_87_181 (fun c37 => ?_) (fun c37 => ?_)
      · exfalso; omega
      · refine zz_aload_n (x := 1079) rfl zd_14_87_184 ?_
        have g38 := zz_G.r G_S0 1079 53 (-2147483648) 2147483647 rfl rfl
        refine zz_geti (z := S0 1079 53) zd_14_87_185 zf_Md_472 zT_1079 rfl (zz_ltn hn rfl) (zz_rc F_S rfl rfl (fun h => h) rfl) ?_
        refine zz_goto zd_14_87_188 ?_
        refine zz_istore [some (.ref 1079), some (zi p0), some (zi (S0 1107 p0.toNat)), some (zi x3), some (zi x4), some (zi x5), some (zi x6), some (zi (S0 1079 56)), some (zi (S0 1079 53))] zd_14_87_207 (by decide) rfl ?_
        have g39 := zz_G.r G_S 1079 10 0 1000000 rfl rfl
        refine zz_less (ls1 := [some (.ref 1079), some (zi p0), some (zi (S0 1107 p0.toNat)), some (zi x3), some (zi x4), some (zi x5), some (zi x6), some (zi (S0 1079 56)), some (zi (S0 1079 53))]) ⟨rfl, ⟨rfl, ⟨rfl, ⟨rfl, ⟨rfl, ⟨rfl, ⟨rfl, ⟨rfl, ⟨rfl, trivial⟩⟩⟩⟩⟩⟩⟩⟩⟩ ?_
        exact k209 x3 x4 x5 x6 (S0 1079 56) (S0 1079 53) S G_S F_S (by omega) (by omega) (by omega) (by omega) (by omega) (by omega) (by omega) (by omega) (by omega) (by omega) (by omega) (by omega) (by omega)
theorem zb_tile_14_87_209 {g : mm_G} {l : Launch} (p0 : Int) (S0 : zz_S) (n : Nat) (hn : zz_end ≤ n) (G_S0 : zz_G S0) (hp0 : 0 ≤ p0 ∧ p0 ≤ 9) (hq : S0 1079 10 ≤ 600) (x3 : Int) (x4 : Int) (x5 : Int) (x6 : Int) (x7 : Int) (x8 : Int) (S : zz_S) (G_S : zz_G S) (F_S : zz_fr [(1079, 10), (1079, 50), (1079, 51), (1079, 57), (1079, 60)] [1086, 1087] (fun _ _ => False) S0 S) (i209_0 : 0 ≤ x3 ∧ x3 ≤ 1) (i209_1 : 0 ≤ x4 ∧ x4 ≤ 9) (i209_2 : 0 ≤ x5 ∧ x5 ≤ 35) (i209_3 : 0 ≤ x6 ∧ x6 ≤ 315) (i209_4 : (-2147483648) ≤ x7 ∧ x7 ≤ 2147483647) (i209_5 : (-2147483648) ≤ x8 ∧ x8 ≤ 2147483647) (i209_6 : S0 1106 p0.toNat ≠ 2) (i209_7 : x4 = (S0 1109 p0.toNat) * (S0 1110 p0.toNat)) (i209_8 : x6 < x4 * x5) (i209_9 : S0 1079 10 ≤ S 1079 10 ∧ S 1079 10 ≤ S0 1079 10 + 6 * x6) (i209_10 : x4 = (S0 1109 p0.toNat) * (S0 1110 p0.toNat)) (i209_11 : x6 < x4 * x5) (R : Nat) (hR : (68719476736 + (400 - x6).toNat) * 1099511627776 + (51539607552 + 0) = R) (k147 : ∀ (x3 : Int) (x4 : Int) (x5 : Int) (x6 : Int) (S : zz_S), zz_G S → zz_fr [(1079, 10), (1079, 50), (1079, 51), (1079, 57), (1079, 60)] [1086, 1087] (fun _ _ => False) S0 S → (0 ≤ x3 ∧ x3 ≤ 1) → (0 ≤ x4 ∧ x4 ≤ 9) → (0 ≤ x5 ∧ x5 ≤ 35) → (0 ≤ x6 ∧ x6 ≤ 315) → (S0 1106 p0.toNat ≠ 2) → (S0 1079 10 ≤ S 1079 10 ∧ S 1079 10 ≤ S0 1079 10 + 6 * x6) → (x4 = (S0 1109 p0.toNat) * (S0 1110 p0.toNat)) → (68719476736 + (400 - x6).toNat) * 1099511627776 + 1099511627775 < R → zz_E g l zy_tile_14_87 zr_tile_14_87 (zz_QV n (zp_tile_14_87 p0 S0)) S n 147 [some (.ref 1079), some (zi p0), some (zi (S0 1107 p0.toNat)), some (zi x3), some (zi x4), some (zi x5), some (zi x6)] [] 0 0) : zz_E g l zy_tile_14_87 zr_tile_14_87 (zz_QV n (zp_tile_14_87 p0 S0)) S n 209 [some (.ref 1079), some (zi p0), some (zi (S0 1107 p0.toNat)), some (zi x3), some (zi x4), some (zi x5), some (zi x6), some (zi x7), some (zi x8)] [] 0 0 := by
  have hk7 := zz_G.r G_S0 1107 p0.toNat 0 10 rfl rfl
  have hpp := zz_pos2 (a := x4) (b := x5) (k := x6) (by omega) (by omega) (by omega) (by omega)
  have hkr := zz_G.r G_S0 1109 p0.toNat 0 3 rfl rfl
  have hkc := zz_G.r G_S0 1110 p0.toNat 0 3 rfl rfl
  have hpk := zz_pos2 (a := S0 1109 p0.toNat) (b := S0 1110 p0.toNat) (k := 0) (by omega) (by omega) (by omega) (by omega)
  refine zz_aload_n (x := 1079) rfl zd_14_87_209 ?_
  refine zz_iload_n (x := p0) rfl zd_14_87_210 ?_
  refine zz_iload (x := x6) rfl zd_14_87_211 ?_
  refine zz_iload (x := x5) rfl zd_14_87_213 ?_
  refine zz_idiv (by omega) (by omega) zd_14_87_215 (fun v114 hv114 av114 bv114 cv114 => ?_)
  have m115 := zz_divb (by omega) (by omega) av114
  have dcv114 := zz_divc 315 1 315 (by omega) (by omega) (by decide) (by decide) av114 (by decide)
  refine zz_aload_n (x := 1079) rfl zd_14_87_216 ?_
  refine zz_getr (kd := 0) (z := 1110) zd_14_87_217 zf_Md_112 zT_1079 rfl (zz_ltn hn rfl) (zz_G.eq G_S 1079 45 1110 rfl rfl) (by decide) 1110 rfl ?_
  refine zz_iload_n (x := p0) rfl zd_14_87_220 ?_
  have g116 := zz_G.r G_S0 1110 p0.toNat 0 3 rfl rfl
  refine zz_iald (z := S0 1110 p0.toNat) zd_14_87_221 zT_1110 rfl (zz_ltn hn rfl) (by decide) (by omega) (zz_rc F_S (zz_nc1 rfl) rfl (fun h => h) rfl) ?_
  refine zz_idiv (by omega) (by omega) zd_14_87_222 (fun v117 hv117 av117 bv117 cv117 => ?_)
  have m118 := zz_divb (by omega) (by omega) av117
  have dcv117 := zz_divc 315 1 315 (by omega) (by omega) (by decide) (by decide) av117 (by decide)
  refine zz_iload (x := x6) rfl zd_14_87_223 ?_
  refine zz_iload (x := x5) rfl zd_14_87_225 ?_
  refine zz_idiv (by omega) (by omega) zd_14_87_227 (fun v119 hv119 av119 bv119 cv119 => ?_)
  have m120 := zz_divb (by omega) (by omega) av119
  have dcv119 := zz_divc 315 1 315 (by omega) (by omega) (by decide) (by decide) av119 (by decide)
  refine zz_aload_n (x := 1079) rfl zd_14_87_228 ?_
  refine zz_getr (kd := 0) (z := 1110) zd_14_87_229 zf_Md_112 zT_1079 rfl (zz_ltn hn rfl) (zz_G.eq G_S 1079 45 1110 rfl rfl) (by decide) 1110 rfl ?_
  refine zz_iload_n (x := p0) rfl zd_14_87_232 ?_
  refine zz_iald (z := S0 1110 p0.toNat) zd_14_87_233 zT_1110 rfl (zz_ltn hn rfl) (by decide) (by omega) (zz_rc F_S (zz_nc1 rfl) rfl (fun h => h) rfl) ?_
  refine zz_irem (by omega) (by omega) zd_14_87_234 (fun v121 hv121 av121 bv121 cv121 => ?_)
  have rmv121 := zz_remb (by omega) (by omega) av121
  refine zz_iload (x := x7) rfl zd_14_87_235 ?_
  refine zz_iload (x := x8) rfl zd_14_87_237 ?_
  refine zz_iload (x := x6) rfl zd_14_87_239 ?_
  refine zz_if_ne (by omega) zd_14_87_241 (fun c122 => ?_) (fun c122 => ?_)
  · refine zz_iconst zd_14_87_248 ?_
    have g123 := zz_G.r G_S 1079 10 0 1000000 rfl rfl
    refine zz_callVV [zi p0, zi v117, zi v121, zi x7, zi x8, zi 0] zd_14_87_249 zk_Md_498 zT_1079 (zz_ltn hn rfl) rfl rfl ⟨Nat.le_of_ble_eq_true rfl, Nat.le_of_ble_eq_true rfl⟩ ⟨rfl, rfl⟩ (Nat.zero_le _) (Nat.zero_le _) (zc_group_14_83 p0 v117 v121 x7 x8 0 S n hn G_S (by omega) (by omega) (by omega) (by omega) (by omega) (by omega) (by omega)) (fun S124 hP => ?_)
    obtain ⟨G_S124, fS124, o126⟩ := hP
    have F_S124 := zz_fr.trans F_S fS124 rfl zz_nv
    refine zz_aload_n (x := 1079) rfl zd_14_87_252 ?_
    refine zz_iload_n (x := p0) rfl zd_14_87_253 ?_
    refine zz_iload (x := x8) rfl zd_14_87_254 ?_
    refine zz_iload (x := x6) rfl zd_14_87_256 ?_
    refine zz_if_ne (by omega) zd_14_87_258 (fun c127 => ?_) (fun c127 => ?_)
    · refine zz_iconst zd_14_87_265 ?_
      refine zz_iload (x := x6) rfl zd_14_87_266 ?_
      refine zz_iload (x := x4) rfl zd_14_87_268 ?_
      refine zz_iload (x := x5) rfl zd_14_87_270 ?_
      refine zz_imul zd_14_87_272 ?_
      have m128 := zz_mulb (a := x4) (b := x5) 9 35 315 (by omega) (by omega) (by decide)
      refine zz_iconst zd_14_87_273 ?_
      refine zz_isub zd_14_87_274 ?_
      refine zz_icmp_ne (by omega) (by omega) zd_14_87_275 (fun c129 => ?_) (fun c129 => ?_)
      · refine zz_iconst zd_14_87_282 ?_
        have g130 := zz_G.r G_S124 1079 10 0 1000000 rfl rfl
        refine zz_callVV [zi p0, zi x8, zi 0, zi 0] zd_14_87_283 zk_Md_502 zT_1079 (zz_ltn hn rfl) rfl rfl ⟨Nat.le_of_ble_eq_true rfl, Nat.le_of_ble_eq_true rfl⟩ ⟨rfl, rfl⟩ (Nat.zero_le _) (Nat.zero_le _) (zc_works_14_86 p0 x8 0 0 S124 n hn G_S124 (by omega) (by omega) (by omega) (by omega) (by omega)) (fun S131 hP => ?_)
        obtain ⟨G_S131, fS131, o133⟩ := hP
        have F_S131 := zz_fr.trans F_S124 fS131 rfl zz_nv
        refine zz_iinc [some (.ref 1079), some (zi p0), some (zi (S0 1107 p0.toNat)), some (zi x3), some (zi x4), some (zi x5), some (zi (x6 + 1)), some (zi x7), some (zi x8)] zd_14_87_286 rfl rfl ?_
        refine zz_goto zd_14_87_289 ?_
        have g134 := zz_G.r G_S131 1079 10 0 1000000 rfl rfl
        refine zz_less (ls1 := [some (.ref 1079), some (zi p0), some (zi (S0 1107 p0.toNat)), some (zi x3), some (zi x4), some (zi x5), some (zi (x6 + 1))]) ⟨rfl, ⟨rfl, ⟨rfl, ⟨rfl, ⟨rfl, ⟨rfl, ⟨rfl, trivial⟩⟩⟩⟩⟩⟩⟩ ?_
        exact k147 x3 x4 x5 (x6 + 1) S131 G_S131 F_S131 (by omega) (by omega) (by omega) (by omega) (by omega) (by omega) (by omega) (by omega)
      · refine zz_iconst zd_14_87_278 ?_
        refine zz_goto zd_14_87_279 ?_
        have g135 := zz_G.r G_S124 1079 10 0 1000000 rfl rfl
        refine zz_callVV [zi p0, zi x8, zi 0, zi 1] zd_14_87_283 zk_Md_502 zT_1079 (zz_ltn hn rfl) rfl rfl ⟨Nat.le_of_ble_eq_true rfl, Nat.le_of_ble_eq_true rfl⟩ ⟨rfl, rfl⟩ (Nat.zero_le _) (Nat.zero_le _) (zc_works_14_86 p0 x8 0 1 S124 n hn G_S124 (by omega) (by omega) (by omega) (by omega) (by omega)) (fun S136 hP => ?_)
        obtain ⟨G_S136, fS136, o138⟩ := hP
        have F_S136 := zz_fr.trans F_S124 fS136 rfl zz_nv
        refine zz_iinc [some (.ref 1079), some (zi p0), some (zi (S0 1107 p0.toNat)), some (zi x3), some (zi x4), some (zi x5), some (zi (x6 + 1)), some (zi x7), some (zi x8)] zd_14_87_286 rfl rfl ?_
        refine zz_goto zd_14_87_289 ?_
        have g139 := zz_G.r G_S136 1079 10 0 1000000 rfl rfl
        refine zz_less (ls1 := [some (.ref 1079), some (zi p0), some (zi (S0 1107 p0.toNat)), some (zi x3), some (zi x4), some (zi x5), some (zi (x6 + 1))]) ⟨rfl, ⟨rfl, ⟨rfl, ⟨rfl, ⟨rfl, ⟨rfl, ⟨rfl, trivial⟩⟩⟩⟩⟩⟩⟩ ?_
        exact k147 x3 x4 x5 (x6 + 1) S136 G_S136 F_S136 (by omega) (by omega) (by omega) (by omega) (by omega) (by omega) (by omega) (by omega)
    · exfalso; omega
  · refine zz_iconst zd_14_87_244 ?_
    refine zz_goto zd_14_87_245 ?_
    have g140 := zz_G.r G_S 1079 10 0 1000000 rfl rfl
    refine zz_callVV [zi p0, zi v117, zi v121, zi x7, zi x8, zi 1] zd_14_87_249 zk_Md_498 zT_1079 (zz_ltn hn rfl) rfl rfl ⟨Nat.le_of_ble_eq_true rfl, Nat.le_of_ble_eq_true rfl⟩ ⟨rfl, rfl⟩ (Nat.zero_le _) (Nat.zero_le _) (zc_group_14_83 p0 v117 v121 x7 x8 1 S n hn G_S (by omega) (by omega) (by omega) (by omega) (by omega) (by omega) (by omega)) (fun S141 hP => ?_)
    obtain ⟨G_S141, fS141, o143⟩ := hP
    have F_S141 := zz_fr.trans F_S fS141 rfl zz_nv
    refine zz_aload_n (x := 1079) rfl zd_14_87_252 ?_
    refine zz_iload_n (x := p0) rfl zd_14_87_253 ?_
    refine zz_iload (x := x8) rfl zd_14_87_254 ?_
    refine zz_iload (x := x6) rfl zd_14_87_256 ?_
    refine zz_if_ne (by omega) zd_14_87_258 (fun c144 => ?_) (fun c144 => ?_)
    · exfalso; omega
    · refine zz_iconst zd_14_87_261 ?_
      refine zz_goto zd_14_87_262 ?_
      refine zz_iload (x := x6) rfl zd_14_87_266 ?_
      refine zz_iload (x := x4) rfl zd_14_87_268 ?_
      refine zz_iload (x := x5) rfl zd_14_87_270 ?_
      refine zz_imul zd_14_87_272 ?_
      have m145 := zz_mulb (a := x4) (b := x5) 9 35 315 (by omega) (by omega) (by decide)
      refine zz_iconst zd_14_87_273 ?_
      refine zz_isub zd_14_87_274 ?_
      refine zz_icmp_ne (by omega) (by omega) zd_14_87_275 (fun c146 => ?_) (fun c146 => ?_)
      · refine zz_iconst zd_14_87_282 ?_
        have g147 := zz_G.r G_S141 1079 10 0 1000000 rfl rfl
        refine zz_callVV [zi p0, zi x8, zi 1, zi 0] zd_14_87_283 zk_Md_502 zT_1079 (zz_ltn hn rfl) rfl rfl ⟨Nat.le_of_ble_eq_true rfl, Nat.le_of_ble_eq_true rfl⟩ ⟨rfl, rfl⟩ (Nat.zero_le _) (Nat.zero_le _) (zc_works_14_86 p0 x8 1 0 S141 n hn G_S141 (by omega) (by omega) (by omega) (by omega) (by omega)) (fun S148 hP => ?_)
        obtain ⟨G_S148, fS148, o150⟩ := hP
        have F_S148 := zz_fr.trans F_S141 fS148 rfl zz_nv
        refine zz_iinc [some (.ref 1079), some (zi p0), some (zi (S0 1107 p0.toNat)), some (zi x3), some (zi x4), some (zi x5), some (zi (x6 + 1)), some (zi x7), some (zi x8)] zd_14_87_286 rfl rfl ?_
        refine zz_goto zd_14_87_289 ?_
        have g151 := zz_G.r G_S148 1079 10 0 1000000 rfl rfl
        refine zz_less (ls1 := [some (.ref 1079), some (zi p0), some (zi (S0 1107 p0.toNat)), some (zi x3), some (zi x4), some (zi x5), some (zi (x6 + 1))]) ⟨rfl, ⟨rfl, ⟨rfl, ⟨rfl, ⟨rfl, ⟨rfl, ⟨rfl, trivial⟩⟩⟩⟩⟩⟩⟩ ?_
        exact k147 x3 x4 x5 (x6 + 1) S148 G_S148 F_S148 (by omega) (by omega) (by omega) (by omega) (by omega) (by omega) (by omega) (by omega)
      · refine zz_iconst zd_14_87_278 ?_
        refine zz_goto zd_14_87_279 ?_
        have g152 := zz_G.r G_S141 1079 10 0 1000000 rfl rfl
        refine zz_callVV [zi p0, zi x8, zi 1, zi 1] zd_14_87_283 zk_Md_502 zT_1079 (zz_ltn hn rfl) rfl rfl ⟨Nat.le_of_ble_eq_true rfl, Nat.le_of_ble_eq_true rfl⟩ ⟨rfl, rfl⟩ (Nat.zero_le _) (Nat.zero_le _) (zc_works_14_86 p0 x8 1 1 S141 n hn G_S141 (by omega) (by omega) (by omega) (by omega) (by omega)) (fun S153 hP => ?_)
        obtain ⟨G_S153, fS153, o155⟩ := hP
        have F_S153 := zz_fr.trans F_S141 fS153 rfl zz_nv
        refine zz_iinc [some (.ref 1079), some (zi p0), some (zi (S0 1107 p0.toNat)), some (zi x3), some (zi x4), some (zi x5), some (zi (x6 + 1)), some (zi x7), some (zi x8)] zd_14_87_286 rfl rfl ?_
        refine zz_goto zd_14_87_289 ?_
        have g156 := zz_G.r G_S153 1079 10 0 1000000 rfl rfl
        refine zz_less (ls1 := [some (.ref 1079), some (zi p0), some (zi (S0 1107 p0.toNat)), some (zi x3), some (zi x4), some (zi x5), some (zi (x6 + 1))]) ⟨rfl, ⟨rfl, ⟨rfl, ⟨rfl, ⟨rfl, ⟨rfl, ⟨rfl, trivial⟩⟩⟩⟩⟩⟩⟩ ?_
        exact k147 x3 x4 x5 (x6 + 1) S153 G_S153 F_S153 (by omega) (by omega) (by omega) (by omega) (by omega) (by omega) (by omega) (by omega)
theorem zb_tile_14_87_292 {g : mm_G} {l : Launch} (p0 : Int) (S0 : zz_S) (n : Nat) (hn : zz_end ≤ n) (G_S0 : zz_G S0) (hp0 : 0 ≤ p0 ∧ p0 ≤ 9) (hq : S0 1079 10 ≤ 600)  (S : zz_S) (G_S : zz_G S) (F_S : zz_fr [(1079, 10), (1079, 50), (1079, 51), (1079, 57), (1079, 60)] [1086, 1087] (fun _ _ => False) S0 S) (i292_0 : S0 1079 10 ≤ S 1079 10 ∧ S 1079 10 ≤ S0 1079 10 + 1900) (R : Nat) (hR : (34359738368 + 0) * 1099511627776 = R) (k385 : ∀ (x3 : Int) (x4 : Int) (S : zz_S), zz_G S → zz_fr [(1079, 10), (1079, 50), (1079, 51), (1079, 57), (1079, 60)] [1086, 1087] (fun _ _ => False) S0 S → (1 ≤ x3 ∧ x3 ≤ 10) → ((-2147483648) ≤ x4 ∧ x4 ≤ 2147483647) → (S0 1079 10 ≤ S 1079 10 ∧ S 1079 10 ≤ S0 1079 10 + 1950) → (17179869184 + 0) * 1099511627776 < R → zz_E g l zy_tile_14_87 zr_tile_14_87 (zz_QV n (zp_tile_14_87 p0 S0)) S n 385 [some (.ref 1079), none, none, some (zi x3), some (zi x4)] [] 0 0) : zz_E g l zy_tile_14_87 zr_tile_14_87 (zz_QV n (zp_tile_14_87 p0 S0)) S n 292 [some (.ref 1079), some (zi p0)] [] 0 0 := by
  refine zz_aload_n (x := 1079) rfl zd_14_87_292 ?_
  refine zz_bipush (by decide) zd_14_87_293 ?_
  refine zz_iconst zd_14_87_295 ?_
  refine zz_aload_n (x := 1079) rfl zd_14_87_296 ?_
  have g67 := zz_G.r G_S0 1079 52 (-2147483648) 2147483647 rfl rfl
  refine zz_geti (z := S0 1079 52) zd_14_87_297 zf_Md_469 zT_1079 rfl (zz_ltn hn rfl) (zz_rc F_S rfl rfl (fun h => h) rfl) ?_
  refine zz_aload_n (x := 1079) rfl zd_14_87_300 ?_
  have g68 := zz_G.r G_S0 1079 53 (-2147483648) 2147483647 rfl rfl
  refine zz_geti (z := S0 1079 53) zd_14_87_301 zf_Md_472 zT_1079 rfl (zz_ltn hn rfl) (zz_rc F_S rfl rfl (fun h => h) rfl) ?_
  refine zz_callVV [zi 7, zi 0, zi (S0 1079 52), zi (S0 1079 53)] zd_14_87_304 zk_Md_475 zT_1079 (zz_ltn hn rfl) rfl rfl ⟨Nat.le_of_ble_eq_true rfl, Nat.le_of_ble_eq_true rfl⟩ ⟨rfl, rfl⟩ (Nat.zero_le _) (Nat.zero_le _) (zc_set_14_78 7 0 (S0 1079 52) (S0 1079 53) S n hn G_S (by omega) (by omega) (by omega) (by omega)) (fun S69 hP => ?_)
  obtain ⟨G_S69, fS69⟩ := hP
  have F_S69 := zz_fr.trans F_S fS69 rfl zz_nv
  refine zz_aload_n (x := 1079) rfl zd_14_87_307 ?_
  refine zz_aload_n (x := 1079) rfl zd_14_87_308 ?_
  refine zz_callVI [] zd_14_87_309 zk_Md_479 zT_1079 (zz_ltn hn rfl) rfl rfl ⟨Nat.le_of_ble_eq_true rfl, Nat.le_of_ble_eq_true rfl⟩ ⟨rfl, rfl⟩ (Nat.zero_le _) (Nat.zero_le _) (zc_quarter_14_81  S69 n hn G_S69 ) (fun v72 S71 hP => ?_)
  obtain ⟨rfl, o73⟩ := hP
  refine zz_aload_n (x := 1079) rfl zd_14_87_312 ?_
  refine zz_callVI [] zd_14_87_313 zk_Md_479 zT_1079 (zz_ltn hn rfl) rfl rfl ⟨Nat.le_of_ble_eq_true rfl, Nat.le_of_ble_eq_true rfl⟩ ⟨rfl, rfl⟩ (Nat.zero_le _) (Nat.zero_le _) (zc_quarter_14_81  S69 n hn G_S69 ) (fun v75 S74 hP => ?_)
  obtain ⟨rfl, o76⟩ := hP
  refine zz_iconst zd_14_87_316 ?_
  refine zz_aload_n (x := 1079) rfl zd_14_87_317 ?_
  refine zz_getr (kd := 0) (z := 1113) zd_14_87_318 zf_Md_121 zT_1079 rfl (zz_ltn hn rfl) (zz_G.eq G_S69 1079 48 1113 rfl rfl) (by decide) 1113 rfl ?_
  refine zz_iload_n (x := p0) rfl zd_14_87_321 ?_
  have g77 := zz_G.r G_S0 1113 p0.toNat 0 31 rfl rfl
  refine zz_iald (z := S0 1113 p0.toNat) zd_14_87_322 zT_1113 rfl (zz_ltn hn rfl) (by decide) (by omega) (zz_rc fS69 (zz_nc1 rfl) rfl (fun h => h) (zz_rc F_S (zz_nc1 rfl) rfl (fun h => h) rfl)) ?_
  refine zz_callVV [zi v72, zi v75, zi 0, zi (S0 1113 p0.toNat)] zd_14_87_323 zk_Md_482 zT_1079 (zz_ltn hn rfl) rfl rfl ⟨Nat.le_of_ble_eq_true rfl, Nat.le_of_ble_eq_true rfl⟩ ⟨rfl, rfl⟩ (Nat.zero_le _) (Nat.zero_le _) (zc_with_14_79 v72 v75 0 (S0 1113 p0.toNat) S69 n hn G_S69 (by omega) (by omega) (by omega) (by omega)) (fun S78 hP => ?_)
  obtain ⟨G_S78, fS78⟩ := hP
  have F_S78 := zz_fr.trans F_S69 fS78 rfl zz_nv
  refine zz_aload_n (x := 1079) rfl zd_14_87_326 ?_
  refine zz_bipush (by decide) zd_14_87_327 ?_
  refine zz_aload_n (x := 1079) rfl zd_14_87_329 ?_
  have g80 := zz_G.r G_S 1079 50 (-2147483648) 2147483647 rfl rfl
  refine zz_geti (z := S 1079 50) zd_14_87_330 zf_Md_450 zT_1079 rfl (zz_ltn hn rfl) (zz_rc fS78 rfl rfl (fun h => h) (zz_rc fS69 rfl rfl (fun h => h) rfl)) ?_
  refine zz_iconst zd_14_87_333 ?_
  refine zz_icmp_le (by omega) (by omega) zd_14_87_334 (fun c81 => ?_) (fun c81 => ?_)
  · refine zz_iconst zd_14_87_341 ?_
    refine zz_ior (by omega) (by omega) zd_14_87_342 (fun v82 hv82 av82 ev82 => ?_)
    have g83 := zz_G.r G_S 1079 10 0 1000000 rfl rfl
    have e84 : S78 1079 10 = S 1079 10 := (zz_rc fS78 rfl rfl (fun h => h) (zz_rc fS69 rfl rfl (fun h => h) rfl))
    refine zz_callVV [zi v82] zd_14_87_343 zk_Md_459 zT_1079 (zz_ltn hn rfl) rfl rfl ⟨Nat.le_of_ble_eq_true rfl, Nat.le_of_ble_eq_true rfl⟩ ⟨rfl, rfl⟩ (Nat.zero_le _) (Nat.zero_le _) (zc_emit_14_77 v82 S78 n hn G_S78 (by omega) (by omega)) (fun S85 hP => ?_)
    obtain ⟨G_S85, fS85, o87⟩ := hP
    have F_S85 := zz_fr.trans F_S78 fS85 rfl zz_nv
    refine zz_iload_n (x := p0) rfl zd_14_87_346 ?_
    refine zz_iconst zd_14_87_347 ?_
    refine zz_iadd zd_14_87_348 ?_
    refine zz_istore_n [some (.ref 1079), some (zi p0), none, some (zi (p0 + 1))] zd_14_87_349 (by decide) rfl ?_
    refine zz_aload_n (x := 1079) rfl zd_14_87_350 ?_
    refine zz_getr (kd := 0) (z := 1106) zd_14_87_351 zf_Md_100 zT_1079 rfl (zz_ltn hn rfl) (zz_G.eq G_S85 1079 41 1106 rfl rfl) (by decide) 1106 rfl ?_
    refine zz_iload_n (x := p0) rfl zd_14_87_354 ?_
    have g88 := zz_G.r G_S0 1106 p0.toNat 0 2 rfl rfl
    refine zz_iald (z := S0 1106 p0.toNat) zd_14_87_355 zT_1106 rfl (zz_ltn hn rfl) (by decide) (by omega) (zz_rc fS85 (zz_nc1 rfl) rfl (fun h => h) (zz_rc fS78 (zz_nc1 rfl) rfl (fun h => h) (zz_rc fS69 (zz_nc1 rfl) rfl (fun h => h) (zz_rc F_S (zz_nc1 rfl) rfl (fun h => h) rfl)))) ?_
    refine zz_iconst zd_14_87_356 ?_
    refine zz_icmp_ne (by omega) (by omega) zd_14_87_357 (fun c89 => ?_) (fun c89 => ?_)
    · refine zz_aload_n (x := 1079) rfl zd_14_87_367 ?_
      have g90 := zz_G.r G_S0 1079 55 (-2147483648) 2147483647 rfl rfl
      refine zz_geti (z := S0 1079 55) zd_14_87_368 zf_Md_495 zT_1079 rfl (zz_ltn hn rfl) (zz_rc fS85 rfl rfl (fun h => h) (zz_rc fS78 rfl rfl (fun h => h) (zz_rc fS69 rfl rfl (fun h => h) (zz_rc F_S rfl rfl (fun h => h) rfl)))) ?_
      refine zz_aload_n (x := 1079) rfl zd_14_87_371 ?_
      refine zz_getr (kd := 0) (z := 1103) zd_14_87_372 zf_Md_91 zT_1079 rfl (zz_ltn hn rfl) (zz_G.eq G_S85 1079 38 1103 rfl rfl) (by decide) 1103 rfl ?_
      refine zz_iload_n (x := p0 + 1) rfl zd_14_87_375 ?_
      have g91 := zz_G.r G_S0 1103 ((p0 + 1).toNat) 0 63 rfl rfl
      refine zz_iald (z := S0 1103 ((p0 + 1).toNat)) zd_14_87_376 zT_1103 rfl (zz_ltn hn rfl) (by decide) (by omega) (zz_rc fS85 (zz_nc1 rfl) rfl (fun h => h) (zz_rc fS78 (zz_nc1 rfl) rfl (fun h => h) (zz_rc fS69 (zz_nc1 rfl) rfl (fun h => h) (zz_rc F_S (zz_nc1 rfl) rfl (fun h => h) rfl)))) ?_
      refine zz_imul zd_14_87_377 ?_
      refine zz_nrm (fun v92 hv92 ev92 => ?_)
      clear ev92
      refine zz_aload_n (x := 1079) rfl zd_14_87_378 ?_
      have g93 := zz_G.r G_S0 1079 54 (-2147483648) 2147483647 rfl rfl
      refine zz_geti (z := S0 1079 54) zd_14_87_379 zf_Md_492 zT_1079 rfl (zz_ltn hn rfl) (zz_rc fS85 rfl rfl (fun h => h) (zz_rc fS78 rfl rfl (fun h => h) (zz_rc fS69 rfl rfl (fun h => h) (zz_rc F_S rfl rfl (fun h => h) rfl)))) ?_
      refine zz_iadd zd_14_87_382 ?_
      refine zz_nrm (fun v94 hv94 ev94 => ?_)
      clear ev94
      refine zz_istore [some (.ref 1079), some (zi p0), none, some (zi (p0 + 1)), some (zi v94)] zd_14_87_383 (by decide) rfl ?_
      have g95 := zz_G.r G_S85 1079 10 0 1000000 rfl rfl
      refine zz_less (ls1 := [some (.ref 1079), none, none, some (zi (p0 + 1)), some (zi v94)]) ⟨rfl, ⟨rfl, ⟨rfl, trivial⟩⟩⟩ ?_
      exact k385 (p0 + 1) v94 S85 G_S85 F_S85 (by omega) (by omega) (by omega) (by omega)
    · refine zz_aload_n (x := 1079) rfl zd_14_87_360 ?_
      have g96 := zz_G.r G_S0 1079 54 (-2147483648) 2147483647 rfl rfl
      refine zz_geti (z := S0 1079 54) zd_14_87_361 zf_Md_492 zT_1079 rfl (zz_ltn hn rfl) (zz_rc fS85 rfl rfl (fun h => h) (zz_rc fS78 rfl rfl (fun h => h) (zz_rc fS69 rfl rfl (fun h => h) (zz_rc F_S rfl rfl (fun h => h) rfl)))) ?_
      refine zz_goto zd_14_87_364 ?_
      refine zz_istore [some (.ref 1079), some (zi p0), none, some (zi (p0 + 1)), some (zi (S0 1079 54))] zd_14_87_383 (by decide) rfl ?_
      have g97 := zz_G.r G_S85 1079 10 0 1000000 rfl rfl
      refine zz_less (ls1 := [some (.ref 1079), none, none, some (zi (p0 + 1)), some (zi (S0 1079 54))]) ⟨rfl, ⟨rfl, ⟨rfl, trivial⟩⟩⟩ ?_
      exact k385 (p0 + 1) (S0 1079 54) S85 G_S85 F_S85 (by omega) (by omega) (by omega) (by omega)
  · refine zz_iconst zd_14_87_337 ?_
    refine zz_goto zd_14_87_338 ?_
    refine zz_ior (by omega) (by omega) zd_14_87_342 (fun v98 hv98 av98 ev98 => ?_)
    have g99 := zz_G.r G_S 1079 10 0 1000000 rfl rfl
    have e100 : S78 1079 10 = S 1079 10 := (zz_rc fS78 rfl rfl (fun h => h) (zz_rc fS69 rfl rfl (fun h => h) rfl))
    refine zz_callVV [zi v98] zd_14_87_343 zk_Md_459 zT_1079 (zz_ltn hn rfl) rfl rfl ⟨Nat.le_of_ble_eq_true rfl, Nat.le_of_ble_eq_true rfl⟩ ⟨rfl, rfl⟩ (Nat.zero_le _) (Nat.zero_le _) (zc_emit_14_77 v98 S78 n hn G_S78 (by omega) (by omega)) (fun S101 hP => ?_)
    obtain ⟨G_S101, fS101, o103⟩ := hP
    have F_S101 := zz_fr.trans F_S78 fS101 rfl zz_nv
    refine zz_iload_n (x := p0) rfl zd_14_87_346 ?_
    refine zz_iconst zd_14_87_347 ?_
    refine zz_iadd zd_14_87_348 ?_
    refine zz_istore_n [some (.ref 1079), some (zi p0), none, some (zi (p0 + 1))] zd_14_87_349 (by decide) rfl ?_
    refine zz_aload_n (x := 1079) rfl zd_14_87_350 ?_
    refine zz_getr (kd := 0) (z := 1106) zd_14_87_351 zf_Md_100 zT_1079 rfl (zz_ltn hn rfl) (zz_G.eq G_S101 1079 41 1106 rfl rfl) (by decide) 1106 rfl ?_
    refine zz_iload_n (x := p0) rfl zd_14_87_354 ?_
    have g104 := zz_G.r G_S0 1106 p0.toNat 0 2 rfl rfl
    refine zz_iald (z := S0 1106 p0.toNat) zd_14_87_355 zT_1106 rfl (zz_ltn hn rfl) (by decide) (by omega) (zz_rc fS101 (zz_nc1 rfl) rfl (fun h => h) (zz_rc fS78 (zz_nc1 rfl) rfl (fun h => h) (zz_rc fS69 (zz_nc1 rfl) rfl (fun h => h) (zz_rc F_S (zz_nc1 rfl) rfl (fun h => h) rfl)))) ?_
    refine zz_iconst zd_14_87_356 ?_
    refine zz_icmp_ne (by omega) (by omega) zd_14_87_357 (fun c105 => ?_) (fun c105 => ?_)
    · refine zz_aload_n (x := 1079) rfl zd_14_87_367 ?_
      have g106 := zz_G.r G_S0 1079 55 (-2147483648) 2147483647 rfl rfl
      refine zz_geti (z := S0 1079 55) zd_14_87_368 zf_Md_495 zT_1079 rfl (zz_ltn hn rfl) (zz_rc fS101 rfl rfl (fun h => h) (zz_rc fS78 rfl rfl (fun h => h) (zz_rc fS69 rfl rfl (fun h => h) (zz_rc F_S rfl rfl (fun h => h) rfl)))) ?_
      refine zz_aload_n (x := 1079) rfl zd_14_87_371 ?_
      refine zz_getr (kd := 0) (z := 1103) zd_14_87_372 zf_Md_91 zT_1079 rfl (zz_ltn hn rfl) (zz_G.eq G_S101 1079 38 1103 rfl rfl) (by decide) 1103 rfl ?_
      refine zz_iload_n (x := p0 + 1) rfl zd_14_87_375 ?_
      have g107 := zz_G.r G_S0 1103 ((p0 + 1).toNat) 0 63 rfl rfl
      refine zz_iald (z := S0 1103 ((p0 + 1).toNat)) zd_14_87_376 zT_1103 rfl (zz_ltn hn rfl) (by decide) (by omega) (zz_rc fS101 (zz_nc1 rfl) rfl (fun h => h) (zz_rc fS78 (zz_nc1 rfl) rfl (fun h => h) (zz_rc fS69 (zz_nc1 rfl) rfl (fun h => h) (zz_rc F_S (zz_nc1 rfl) rfl (fun h => h) rfl)))) ?_
      refine zz_imul zd_14_87_377 ?_
      refine zz_nrm (fun v108 hv108 ev108 => ?_)
      clear ev108
      refine zz_aload_n (x := 1079) rfl zd_14_87_378 ?_
      have g109 := zz_G.r G_S0 1079 54 (-2147483648) 2147483647 rfl rfl
      refine zz_geti (z := S0 1079 54) zd_14_87_379 zf_Md_492 zT_1079 rfl (zz_ltn hn rfl) (zz_rc fS101 rfl rfl (fun h => h) (zz_rc fS78 rfl rfl (fun h => h) (zz_rc fS69 rfl rfl (fun h => h) (zz_rc F_S rfl rfl (fun h => h) rfl)))) ?_
      refine zz_iadd zd_14_87_382 ?_
      refine zz_nrm (fun v110 hv110 ev110 => ?_)
      clear ev110
      refine zz_istore [some (.ref 1079), some (zi p0), none, some (zi (p0 + 1)), some (zi v110)] zd_14_87_383 (by decide) rfl ?_
      have g111 := zz_G.r G_S101 1079 10 0 1000000 rfl rfl
      refine zz_less (ls1 := [some (.ref 1079), none, none, some (zi (p0 + 1)), some (zi v110)]) ⟨rfl, ⟨rfl, ⟨rfl, trivial⟩⟩⟩ ?_
      exact k385 (p0 + 1) v110 S101 G_S101 F_S101 (by omega) (by omega) (by omega) (by omega)
    · refine zz_aload_n (x := 1079) rfl zd_14_87_360 ?_
      have g112 := zz_G.r G_S0 1079 54 (-2147483648) 2147483647 rfl rfl
      refine zz_geti (z := S0 1079 54) zd_14_87_361 zf_Md_492 zT_1079 rfl (zz_ltn hn rfl) (zz_rc fS101 rfl rfl (fun h => h) (zz_rc fS78 rfl rfl (fun h => h) (zz_rc fS69 rfl rfl (fun h => h) (zz_rc F_S rfl rfl (fun h => h) rfl)))) ?_
      refine zz_goto zd_14_87_364 ?_
      refine zz_istore [some (.ref 1079), some (zi p0), none, some (zi (p0 + 1)), some (zi (S0 1079 54))] zd_14_87_383 (by decide) rfl ?_
      have g113 := zz_G.r G_S101 1079 10 0 1000000 rfl rfl
      refine zz_less (ls1 := [some (.ref 1079), none, none, some (zi (p0 + 1)), some (zi (S0 1079 54))]) ⟨rfl, ⟨rfl, ⟨rfl, trivial⟩⟩⟩ ?_
      exact k385 (p0 + 1) (S0 1079 54) S101 G_S101 F_S101 (by omega) (by omega) (by omega) (by omega)
theorem zb_tile_14_87_385 {g : mm_G} {l : Launch} (p0 : Int) (S0 : zz_S) (n : Nat) (hn : zz_end ≤ n) (G_S0 : zz_G S0) (hp0 : 0 ≤ p0 ∧ p0 ≤ 9) (hq : S0 1079 10 ≤ 600) (x3 : Int) (x4 : Int) (S : zz_S) (G_S : zz_G S) (F_S : zz_fr [(1079, 10), (1079, 50), (1079, 51), (1079, 57), (1079, 60)] [1086, 1087] (fun _ _ => False) S0 S) (i385_0 : 1 ≤ x3 ∧ x3 ≤ 10) (i385_1 : (-2147483648) ≤ x4 ∧ x4 ≤ 2147483647) (i385_2 : S0 1079 10 ≤ S 1079 10 ∧ S 1079 10 ≤ S0 1079 10 + 1950) (R : Nat) (hR : (17179869184 + 0) * 1099511627776 = R)  : zz_E g l zy_tile_14_87 zr_tile_14_87 (zz_QV n (zp_tile_14_87 p0 S0)) S n 385 [some (.ref 1079), none, none, some (zi x3), some (zi x4)] [] 0 0 := by
  refine zz_aload_n (x := 1079) rfl zd_14_87_385 ?_
  refine zz_bipush (by decide) zd_14_87_386 ?_
  refine zz_aload_n (x := 1079) rfl zd_14_87_388 ?_
  refine zz_getr (kd := 0) (z := 1105) zd_14_87_389 zf_Md_97 zT_1079 rfl (zz_ltn hn rfl) (zz_G.eq G_S 1079 40 1105 rfl rfl) (by decide) 1105 rfl ?_
  refine zz_iload_n (x := x3) rfl zd_14_87_392 ?_
  have g157 := zz_G.r G_S0 1105 x3.toNat (0) (if x3.toNat = 0 then 0 else 10000000) rfl rfl
  refine zz_iald (z := S0 1105 x3.toNat) zd_14_87_393 zT_1105 rfl (zz_ltn hn rfl) (by decide) (by omega) (zz_rc F_S (zz_nc1 rfl) rfl (fun h => h) rfl) ?_
  refine zz_iload (x := x4) rfl zd_14_87_394 ?_
  refine zz_aload_n (x := 1079) rfl zd_14_87_396 ?_
  refine zz_getr (kd := 0) (z := 1104) zd_14_87_397 zf_Md_94 zT_1079 rfl (zz_ltn hn rfl) (zz_G.eq G_S 1079 39 1104 rfl rfl) (by decide) 1104 rfl ?_
  refine zz_iload_n (x := x3) rfl zd_14_87_400 ?_
  have g158 := zz_G.r G_S0 1104 x3.toNat 0 63 rfl rfl
  refine zz_iald (z := S0 1104 x3.toNat) zd_14_87_401 zT_1104 rfl (zz_ltn hn rfl) (by decide) (by omega) (zz_rc F_S (zz_nc1 rfl) rfl (fun h => h) rfl) ?_
  refine zz_imul zd_14_87_402 ?_
  refine zz_nrm (fun v159 hv159 ev159 => ?_)
  clear ev159
  refine zz_iadd zd_14_87_403 ?_
  refine zz_nrm (fun v160 hv160 ev160 => ?_)
  clear ev160
  refine zz_aload_n (x := 1079) rfl zd_14_87_404 ?_
  have g161 := zz_G.r G_S0 1079 56 (-2147483648) 2147483647 rfl rfl
  refine zz_geti (z := S0 1079 56) zd_14_87_405 zf_Md_466 zT_1079 rfl (zz_ltn hn rfl) (zz_rc F_S rfl rfl (fun h => h) rfl) ?_
  refine zz_iadd zd_14_87_408 ?_
  refine zz_nrm (fun v162 hv162 ev162 => ?_)
  clear ev162
  refine zz_aload_n (x := 1079) rfl zd_14_87_409 ?_
  have g163 := zz_G.r G_S0 1079 52 (-2147483648) 2147483647 rfl rfl
  refine zz_geti (z := S0 1079 52) zd_14_87_410 zf_Md_469 zT_1079 rfl (zz_ltn hn rfl) (zz_rc F_S rfl rfl (fun h => h) rfl) ?_
  refine zz_aload_n (x := 1079) rfl zd_14_87_413 ?_
  have g164 := zz_G.r G_S0 1079 53 (-2147483648) 2147483647 rfl rfl
  refine zz_geti (z := S0 1079 53) zd_14_87_414 zf_Md_472 zT_1079 rfl (zz_ltn hn rfl) (zz_rc F_S rfl rfl (fun h => h) rfl) ?_
  refine zz_callVV [zi 8, zi v162, zi (S0 1079 52), zi (S0 1079 53)] zd_14_87_417 zk_Md_475 zT_1079 (zz_ltn hn rfl) rfl rfl ⟨Nat.le_of_ble_eq_true rfl, Nat.le_of_ble_eq_true rfl⟩ ⟨rfl, rfl⟩ (Nat.zero_le _) (Nat.zero_le _) (zc_set_14_78 8 v162 (S0 1079 52) (S0 1079 53) S n hn G_S (by omega) (by omega) (by omega) (by omega)) (fun S165 hP => ?_)
  obtain ⟨G_S165, fS165⟩ := hP
  have F_S165 := zz_fr.trans F_S fS165 rfl zz_nv
  refine zz_aload_n (x := 1079) rfl zd_14_87_420 ?_
  refine zz_aload_n (x := 1079) rfl zd_14_87_421 ?_
  refine zz_callVI [] zd_14_87_422 zk_Md_479 zT_1079 (zz_ltn hn rfl) rfl rfl ⟨Nat.le_of_ble_eq_true rfl, Nat.le_of_ble_eq_true rfl⟩ ⟨rfl, rfl⟩ (Nat.zero_le _) (Nat.zero_le _) (zc_quarter_14_81  S165 n hn G_S165 ) (fun v168 S167 hP => ?_)
  obtain ⟨rfl, o169⟩ := hP
  refine zz_iconst zd_14_87_425 ?_
  refine zz_aload_n (x := 1079) rfl zd_14_87_426 ?_
  refine zz_getr (kd := 0) (z := 1104) zd_14_87_427 zf_Md_94 zT_1079 rfl (zz_ltn hn rfl) (zz_G.eq G_S165 1079 39 1104 rfl rfl) (by decide) 1104 rfl ?_
  refine zz_iload_n (x := x3) rfl zd_14_87_430 ?_
  refine zz_iald (z := S0 1104 x3.toNat) zd_14_87_431 zT_1104 rfl (zz_ltn hn rfl) (by decide) (by omega) (zz_rc fS165 (zz_nc1 rfl) rfl (fun h => h) (zz_rc F_S (zz_nc1 rfl) rfl (fun h => h) rfl)) ?_
  refine zz_iconst zd_14_87_432 ?_
  refine zz_callVV [zi v168, zi 0, zi (S0 1104 x3.toNat), zi 0] zd_14_87_433 zk_Md_482 zT_1079 (zz_ltn hn rfl) rfl rfl ⟨Nat.le_of_ble_eq_true rfl, Nat.le_of_ble_eq_true rfl⟩ ⟨rfl, rfl⟩ (Nat.zero_le _) (Nat.zero_le _) (zc_with_14_79 v168 0 (S0 1104 x3.toNat) 0 S165 n hn G_S165 (by omega) (by omega) (by omega) (by omega)) (fun S170 hP => ?_)
  obtain ⟨G_S170, fS170⟩ := hP
  have F_S170 := zz_fr.trans F_S165 fS170 rfl zz_nv
  refine zz_aload_n (x := 1079) rfl zd_14_87_436 ?_
  refine zz_iconst zd_14_87_437 ?_
  have g172 := zz_G.r G_S 1079 10 0 1000000 rfl rfl
  have e173 : S170 1079 10 = S 1079 10 := (zz_rc fS170 rfl rfl (fun h => h) (zz_rc fS165 rfl rfl (fun h => h) rfl))
  refine zz_callVV [zi 5] zd_14_87_438 zk_Md_459 zT_1079 (zz_ltn hn rfl) rfl rfl ⟨Nat.le_of_ble_eq_true rfl, Nat.le_of_ble_eq_true rfl⟩ ⟨rfl, rfl⟩ (Nat.zero_le _) (Nat.zero_le _) (zc_emit_14_77 5 S170 n hn G_S170 (by omega) (by omega)) (fun S174 hP => ?_)
  obtain ⟨G_S174, fS174, o176⟩ := hP
  have F_S174 := zz_fr.trans F_S170 fS174 rfl zz_nv
  refine zz_aload_n (x := 1079) rfl zd_14_87_441 ?_
  refine zz_dup rfl zd_14_87_442 ?_
  have g177 := zz_G.r G_S 1079 50 (-2147483648) 2147483647 rfl rfl
  refine zz_geti (z := S 1079 50) zd_14_87_443 zf_Md_450 zT_1079 rfl (zz_ltn hn rfl) (zz_rc fS174 rfl rfl (fun h => h) (zz_rc fS170 rfl rfl (fun h => h) (zz_rc fS165 rfl rfl (fun h => h) rfl))) ?_
  refine zz_iconst zd_14_87_446 ?_
  refine zz_iadd zd_14_87_447 ?_
  refine zz_nrm (fun v178 hv178 ev178 => ?_)
  clear ev178
  refine zz_puti zd_14_87_448 zf_Md_450 zT_1079 rfl (zz_ltn hn rfl) (fun S179 qS179 => ?_)
  have G_S179 := zz_G.put G_S174 qS179 (-2147483648) 2147483647 rfl (by omega)
  have F_S179 := zz_fr.puts F_S174 qS179 rfl
  have g180 := zz_G.r G_S174 1079 10 0 1000000 rfl rfl
  have e181 : S179 1079 10 = S174 1079 10 := (zz_ro qS179 (fun h => absurd h.2 (by decide)) rfl)
  exact zz_vret zd_14_87_451 rfl (Nat.zero_le _) (Nat.zero_le _) ⟨_, rfl, G_S179, F_S179, by omega⟩
theorem zi_tile_14_87 {g : mm_G} {l : Launch} (p0 : Int) (S0 : zz_S) (n : Nat) (hn : zz_end ≤ n) (G_S0 : zz_G S0) (hp0 : 0 ≤ p0 ∧ p0 ≤ 9) (hq : S0 1079 10 ≤ 600) : ∀ N : Nat, (∀ (x3 : Int) (S : zz_S), zz_G S → zz_fr [(1079, 10), (1079, 50), (1079, 51), (1079, 57), (1079, 60)] [1086, 1087] (fun _ _ => False) S0 S → (0 ≤ x3 ∧ x3 ≤ 2) → (S0 1106 p0.toNat = 2) → (S0 1079 10 ≤ S 1079 10 ∧ S 1079 10 ≤ S0 1079 10 + 6 * x3) → (85899345920 + (2 - x3).toNat) * 1099511627776 + 1099511627775 < N → zz_E g l zy_tile_14_87 zr_tile_14_87 (zz_QV n (zp_tile_14_87 p0 S0)) S n 19 [some (.ref 1079), some (zi p0), none, some (zi x3)] [] 0 0) ∧ (∀ (x3 : Int) (x4 : Int) (x5 : Int) (x6 : Int) (S : zz_S), zz_G S → zz_fr [(1079, 10), (1079, 50), (1079, 51), (1079, 57), (1079, 60)] [1086, 1087] (fun _ _ => False) S0 S → (0 ≤ x3 ∧ x3 ≤ 1) → (0 ≤ x4 ∧ x4 ≤ 9) → (0 ≤ x5 ∧ x5 ≤ 35) → (0 ≤ x6 ∧ x6 ≤ 315) → (S0 1106 p0.toNat ≠ 2) → (S0 1079 10 ≤ S 1079 10 ∧ S 1079 10 ≤ S0 1079 10 + 6 * x6) → (x4 = (S0 1109 p0.toNat) * (S0 1110 p0.toNat)) → (68719476736 + (400 - x6).toNat) * 1099511627776 + 1099511627775 < N → zz_E g l zy_tile_14_87 zr_tile_14_87 (zz_QV n (zp_tile_14_87 p0 S0)) S n 147 [some (.ref 1079), some (zi p0), some (zi (S0 1107 p0.toNat)), some (zi x3), some (zi x4), some (zi x5), some (zi x6)] [] 0 0) ∧ (∀ (x3 : Int) (x4 : Int) (x5 : Int) (x6 : Int) (x7 : Int) (x8 : Int) (S : zz_S), zz_G S → zz_fr [(1079, 10), (1079, 50), (1079, 51), (1079, 57), (1079, 60)] [1086, 1087] (fun _ _ => False) S0 S → (0 ≤ x3 ∧ x3 ≤ 1) → (0 ≤ x4 ∧ x4 ≤ 9) → (0 ≤ x5 ∧ x5 ≤ 35) → (0 ≤ x6 ∧ x6 ≤ 315) → ((-2147483648) ≤ x7 ∧ x7 ≤ 2147483647) → ((-2147483648) ≤ x8 ∧ x8 ≤ 2147483647) → (S0 1106 p0.toNat ≠ 2) → (x4 = (S0 1109 p0.toNat) * (S0 1110 p0.toNat)) → (x6 < x4 * x5) → (S0 1079 10 ≤ S 1079 10 ∧ S 1079 10 ≤ S0 1079 10 + 6 * x6) → (x4 = (S0 1109 p0.toNat) * (S0 1110 p0.toNat)) → (x6 < x4 * x5) → (68719476736 + (400 - x6).toNat) * 1099511627776 + (51539607552 + 0) < N → zz_E g l zy_tile_14_87 zr_tile_14_87 (zz_QV n (zp_tile_14_87 p0 S0)) S n 209 [some (.ref 1079), some (zi p0), some (zi (S0 1107 p0.toNat)), some (zi x3), some (zi x4), some (zi x5), some (zi x6), some (zi x7), some (zi x8)] [] 0 0) ∧ (∀  (S : zz_S), zz_G S → zz_fr [(1079, 10), (1079, 50), (1079, 51), (1079, 57), (1079, 60)] [1086, 1087] (fun _ _ => False) S0 S → (S0 1079 10 ≤ S 1079 10 ∧ S 1079 10 ≤ S0 1079 10 + 1900) → (34359738368 + 0) * 1099511627776 < N → zz_E g l zy_tile_14_87 zr_tile_14_87 (zz_QV n (zp_tile_14_87 p0 S0)) S n 292 [some (.ref 1079), some (zi p0)] [] 0 0) ∧ (∀ (x3 : Int) (x4 : Int) (S : zz_S), zz_G S → zz_fr [(1079, 10), (1079, 50), (1079, 51), (1079, 57), (1079, 60)] [1086, 1087] (fun _ _ => False) S0 S → (1 ≤ x3 ∧ x3 ≤ 10) → ((-2147483648) ≤ x4 ∧ x4 ≤ 2147483647) → (S0 1079 10 ≤ S 1079 10 ∧ S 1079 10 ≤ S0 1079 10 + 1950) → (17179869184 + 0) * 1099511627776 < N → zz_E g l zy_tile_14_87 zr_tile_14_87 (zz_QV n (zp_tile_14_87 p0 S0)) S n 385 [some (.ref 1079), none, none, some (zi x3), some (zi x4)] [] 0 0) := by
  intro N
  induction N with
  | zero => exact ⟨fun x3 S _ _ _ _ _ h => absurd h (Nat.not_lt_zero _), fun x3 x4 x5 x6 S _ _ _ _ _ _ _ _ _ h => absurd h (Nat.not_lt_zero _), fun x3 x4 x5 x6 x7 x8 S _ _ _ _ _ _ _ _ _ _ _ _ _ _ h => absurd h (Nat.not_lt_zero _), fun  S _ _ _ h => absurd h (Nat.not_lt_zero _), fun x3 x4 S _ _ _ _ _ h => absurd h (Nat.not_lt_zero _)⟩
  | succ N ih =>
    exact ⟨fun x3 S a b j0 j1 j2 hR => zb_tile_14_87_19 p0 S0 n hn G_S0 hp0 hq x3 S a b j0 j1 j2 _ rfl (fun x3 S a b j0 j1 j2 h => ih.1 x3 S a b j0 j1 j2 (Nat.lt_of_lt_of_le h (Nat.le_of_lt_succ hR))) (fun  S a b j0 h => ih.2.2.2.1  S a b j0 (Nat.lt_of_lt_of_le h (Nat.le_of_lt_succ hR))),
      fun x3 x4 x5 x6 S a b j0 j1 j2 j3 j4 j5 j6 hR => zb_tile_14_87_147 p0 S0 n hn G_S0 hp0 hq x3 x4 x5 x6 S a b j0 j1 j2 j3 j4 j5 j6 _ rfl (fun x3 x4 x5 x6 x7 x8 S a b j0 j1 j2 j3 j4 j5 j6 j7 j8 j9 j10 j11 h => ih.2.2.1 x3 x4 x5 x6 x7 x8 S a b j0 j1 j2 j3 j4 j5 j6 j7 j8 j9 j10 j11 (Nat.lt_of_lt_of_le h (Nat.le_of_lt_succ hR))) (fun  S a b j0 h => ih.2.2.2.1  S a b j0 (Nat.lt_of_lt_of_le h (Nat.le_of_lt_succ hR))),
      fun x3 x4 x5 x6 x7 x8 S a b j0 j1 j2 j3 j4 j5 j6 j7 j8 j9 j10 j11 hR => zb_tile_14_87_209 p0 S0 n hn G_S0 hp0 hq x3 x4 x5 x6 x7 x8 S a b j0 j1 j2 j3 j4 j5 j6 j7 j8 j9 j10 j11 _ rfl (fun x3 x4 x5 x6 S a b j0 j1 j2 j3 j4 j5 j6 h => ih.2.1 x3 x4 x5 x6 S a b j0 j1 j2 j3 j4 j5 j6 (Nat.lt_of_lt_of_le h (Nat.le_of_lt_succ hR))),
      fun  S a b j0 hR => zb_tile_14_87_292 p0 S0 n hn G_S0 hp0 hq  S a b j0 _ rfl (fun x3 x4 S a b j0 j1 j2 h => ih.2.2.2.2 x3 x4 S a b j0 j1 j2 (Nat.lt_of_lt_of_le h (Nat.le_of_lt_succ hR))),
      fun x3 x4 S a b j0 j1 j2 hR => zb_tile_14_87_385 p0 S0 n hn G_S0 hp0 hq x3 x4 S a b j0 j1 j2 _ rfl ⟩
theorem zc_tile_14_87 {g : mm_G} {l : Launch} (p0 : Int) (S0 : zz_S) (n : Nat) (hn : zz_end ≤ n) (G_S0 : zz_G S0) (hp0 : 0 ≤ p0 ∧ p0 ≤ 9) (hq : S0 1079 10 ≤ 600) : mm_Met g l zy_tile_14_87 zr_tile_14_87 [.ref 1079, zi p0] (zz_M S0 n) n (zz_QV n (zp_tile_14_87 p0 S0)) := by
  refine zz_enter (by decide) (Nat.le_of_ble_eq_true rfl) (zz_less (ls1 := [some (.ref 1079), some (zi p0)]) ⟨rfl, ⟨rfl, trivial⟩⟩ ?_)
  have F_S0 : zz_fr [(1079, 10), (1079, 50), (1079, 51), (1079, 57), (1079, 60)] [1086, 1087] (fun _ _ => False) S0 S0 := zz_fr.refl
  have k19 : ∀ (x3 : Int) (S : zz_S), zz_G S → zz_fr [(1079, 10), (1079, 50), (1079, 51), (1079, 57), (1079, 60)] [1086, 1087] (fun _ _ => False) S0 S → (0 ≤ x3 ∧ x3 ≤ 2) → (S0 1106 p0.toNat = 2) → (S0 1079 10 ≤ S 1079 10 ∧ S 1079 10 ≤ S0 1079 10 + 6 * x3) → zz_E g l zy_tile_14_87 zr_tile_14_87 (zz_QV n (zp_tile_14_87 p0 S0)) S n 19 [some (.ref 1079), some (zi p0), none, some (zi x3)] [] 0 0 := fun x3 S a b j0 j1 j2 => (zi_tile_14_87 (g := g) (l := l) p0 S0 n hn G_S0 hp0 hq _).1 x3 S a b j0 j1 j2 (Nat.lt_succ_self _)
  have k147 : ∀ (x3 : Int) (x4 : Int) (x5 : Int) (x6 : Int) (S : zz_S), zz_G S → zz_fr [(1079, 10), (1079, 50), (1079, 51), (1079, 57), (1079, 60)] [1086, 1087] (fun _ _ => False) S0 S → (0 ≤ x3 ∧ x3 ≤ 1) → (0 ≤ x4 ∧ x4 ≤ 9) → (0 ≤ x5 ∧ x5 ≤ 35) → (0 ≤ x6 ∧ x6 ≤ 315) → (S0 1106 p0.toNat ≠ 2) → (S0 1079 10 ≤ S 1079 10 ∧ S 1079 10 ≤ S0 1079 10 + 6 * x6) → (x4 = (S0 1109 p0.toNat) * (S0 1110 p0.toNat)) → zz_E g l zy_tile_14_87 zr_tile_14_87 (zz_QV n (zp_tile_14_87 p0 S0)) S n 147 [some (.ref 1079), some (zi p0), some (zi (S0 1107 p0.toNat)), some (zi x3), some (zi x4), some (zi x5), some (zi x6)] [] 0 0 := fun x3 x4 x5 x6 S a b j0 j1 j2 j3 j4 j5 j6 => (zi_tile_14_87 (g := g) (l := l) p0 S0 n hn G_S0 hp0 hq _).2.1 x3 x4 x5 x6 S a b j0 j1 j2 j3 j4 j5 j6 (Nat.lt_succ_self _)
  refine zz_aload_n (x := 1079) rfl zd_14_87_0 ?_
  refine zz_getr (kd := 0) (z := 1107) zd_14_87_1 zf_Md_103 zT_1079 rfl (zz_ltn hn rfl) (zz_G.eq G_S0 1079 42 1107 rfl rfl) (by decide) 1107 rfl ?_
  refine zz_iload_n (x := p0) rfl zd_14_87_4 ?_
  have g1 := zz_G.r G_S0 1107 p0.toNat 0 10 rfl rfl
  refine zz_iald (z := S0 1107 p0.toNat) zd_14_87_5 zT_1107 rfl (zz_ltn hn rfl) (by decide) (by omega) rfl ?_
  refine zz_istore_n [some (.ref 1079), some (zi p0), some (zi (S0 1107 p0.toNat))] zd_14_87_6 (by decide) rfl ?_
  refine zz_aload_n (x := 1079) rfl zd_14_87_7 ?_
  refine zz_getr (kd := 0) (z := 1106) zd_14_87_8 zf_Md_100 zT_1079 rfl (zz_ltn hn rfl) (zz_G.eq G_S0 1079 41 1106 rfl rfl) (by decide) 1106 rfl ?_
  refine zz_iload_n (x := p0) rfl zd_14_87_11 ?_
  have g2 := zz_G.r G_S0 1106 p0.toNat 0 2 rfl rfl
  refine zz_iald (z := S0 1106 p0.toNat) zd_14_87_12 zT_1106 rfl (zz_ltn hn rfl) (by decide) (by omega) rfl ?_
  refine zz_iconst zd_14_87_13 ?_
  refine zz_icmp_ne (by omega) (by omega) zd_14_87_14 (fun c3 => ?_) (fun c3 => ?_)
  · refine zz_aload_n (x := 1079) rfl zd_14_87_85 ?_
    refine zz_getr (kd := 0) (z := 1106) zd_14_87_86 zf_Md_100 zT_1079 rfl (zz_ltn hn rfl) (zz_G.eq G_S0 1079 41 1106 rfl rfl) (by decide) 1106 rfl ?_
    refine zz_iload_n (x := p0) rfl zd_14_87_89 ?_
    refine zz_iald (z := S0 1106 p0.toNat) zd_14_87_90 zT_1106 rfl (zz_ltn hn rfl) (by decide) (by omega) rfl ?_
    refine zz_iconst zd_14_87_91 ?_
    refine zz_icmp_ne (by omega) (by omega) zd_14_87_92 (fun c4 => ?_) (fun c4 => ?_)
    · refine zz_iconst zd_14_87_99 ?_
      refine zz_istore_n [some (.ref 1079), some (zi p0), some (zi (S0 1107 p0.toNat)), some (zi 0)] zd_14_87_100 (by decide) rfl ?_
      refine zz_aload_n (x := 1079) rfl zd_14_87_101 ?_
      refine zz_getr (kd := 0) (z := 1109) zd_14_87_102 zf_Md_109 zT_1079 rfl (zz_ltn hn rfl) (zz_G.eq G_S0 1079 44 1109 rfl rfl) (by decide) 1109 rfl ?_
      refine zz_iload_n (x := p0) rfl zd_14_87_105 ?_
      have g5 := zz_G.r G_S0 1109 p0.toNat 0 3 rfl rfl
      refine zz_iald (z := S0 1109 p0.toNat) zd_14_87_106 zT_1109 rfl (zz_ltn hn rfl) (by decide) (by omega) rfl ?_
      refine zz_aload_n (x := 1079) rfl zd_14_87_107 ?_
      refine zz_getr (kd := 0) (z := 1110) zd_14_87_108 zf_Md_112 zT_1079 rfl (zz_ltn hn rfl) (zz_G.eq G_S0 1079 45 1110 rfl rfl) (by decide) 1110 rfl ?_
      refine zz_iload_n (x := p0) rfl zd_14_87_111 ?_
      have g6 := zz_G.r G_S0 1110 p0.toNat 0 3 rfl rfl
      refine zz_iald (z := S0 1110 p0.toNat) zd_14_87_112 zT_1110 rfl (zz_ltn hn rfl) (by decide) (by omega) rfl ?_
      refine zz_imul zd_14_87_113 ?_
      have m7 := zz_mulb (a := S0 1109 p0.toNat) (b := S0 1110 p0.toNat) 3 3 9 (by omega) (by omega) (by decide)
      refine zz_istore [some (.ref 1079), some (zi p0), some (zi (S0 1107 p0.toNat)), some (zi 0), some (zi ((S0 1109 p0.toNat) * (S0 1110 p0.toNat)))] zd_14_87_114 (by decide) rfl ?_
      refine zz_iload_n (x := 0) rfl zd_14_87_116 ?_
      refine zz_if_eq (by omega) zd_14_87_117 (fun c8 => ?_) (fun c8 => ?_)
      · refine zz_aload_n (x := 1079) rfl zd_14_87_124 ?_
        refine zz_getr (kd := 0) (z := 1104) zd_14_87_125 zf_Md_94 zT_1079 rfl (zz_ltn hn rfl) (zz_G.eq G_S0 1079 39 1104 rfl rfl) (by decide) 1104 rfl ?_
        refine zz_iload_n (x := S0 1107 p0.toNat) rfl zd_14_87_128 ?_
        have g9 := zz_G.r G_S0 1104 ((S0 1107 p0.toNat).toNat) 0 63 rfl rfl
        refine zz_iald (z := S0 1104 ((S0 1107 p0.toNat).toNat)) zd_14_87_129 zT_1104 rfl (zz_ltn hn rfl) (by decide) (by omega) rfl ?_
        refine zz_aload_n (x := 1079) rfl zd_14_87_130 ?_
        have g10 := zz_G.r G_S0 1079 1 2 8 rfl rfl
        refine zz_geti (z := S0 1079 1) zd_14_87_131 zf_Md_7 zT_1079 rfl (zz_ltn hn rfl) rfl ?_
        refine zz_iadd zd_14_87_134 ?_
        refine zz_nme (fun v11 ev11 => ?_)
        refine zz_iconst zd_14_87_135 ?_
        refine zz_isub zd_14_87_136 ?_
        refine zz_aload_n (x := 1079) rfl zd_14_87_137 ?_
        refine zz_geti (z := S0 1079 1) zd_14_87_138 zf_Md_7 zT_1079 rfl (zz_ltn hn rfl) rfl ?_
        refine zz_idiv (by omega) (by omega) zd_14_87_141 (fun v12 hv12 av12 bv12 cv12 => ?_)
        have m13 := zz_divb (by omega) (by omega) av12
        have dcv12 := zz_divc 70 2 35 (by omega) (by omega) (by decide) (by decide) av12 (by decide)
        refine zz_istore [some (.ref 1079), some (zi p0), some (zi (S0 1107 p0.toNat)), some (zi 0), some (zi ((S0 1109 p0.toNat) * (S0 1110 p0.toNat))), some (zi v12)] zd_14_87_142 (by decide) rfl ?_
        refine zz_iconst zd_14_87_144 ?_
        refine zz_istore [some (.ref 1079), some (zi p0), some (zi (S0 1107 p0.toNat)), some (zi 0), some (zi ((S0 1109 p0.toNat) * (S0 1110 p0.toNat))), some (zi v12), some (zi 0)] zd_14_87_145 (by decide) rfl ?_
        have g14 := zz_G.r G_S0 1079 10 0 1000000 rfl rfl
        refine zz_less (ls1 := [some (.ref 1079), some (zi p0), some (zi (S0 1107 p0.toNat)), some (zi 0), some (zi ((S0 1109 p0.toNat) * (S0 1110 p0.toNat))), some (zi v12), some (zi 0)]) ⟨rfl, ⟨rfl, ⟨rfl, ⟨rfl, ⟨rfl, ⟨rfl, ⟨rfl, trivial⟩⟩⟩⟩⟩⟩⟩ ?_
        exact k147 0 ((S0 1109 p0.toNat) * (S0 1110 p0.toNat)) v12 0 S0 G_S0 F_S0 (by omega) (by omega) (by omega) (by omega) (by omega) (by omega) (by omega)
      · exfalso; omega
    · refine zz_iconst zd_14_87_95 ?_
      refine zz_goto zd_14_87_96 ?_
      refine zz_istore_n [some (.ref 1079), some (zi p0), some (zi (S0 1107 p0.toNat)), some (zi 1)] zd_14_87_100 (by decide) rfl ?_
      refine zz_aload_n (x := 1079) rfl zd_14_87_101 ?_
      refine zz_getr (kd := 0) (z := 1109) zd_14_87_102 zf_Md_109 zT_1079 rfl (zz_ltn hn rfl) (zz_G.eq G_S0 1079 44 1109 rfl rfl) (by decide) 1109 rfl ?_
      refine zz_iload_n (x := p0) rfl zd_14_87_105 ?_
      have g15 := zz_G.r G_S0 1109 p0.toNat 0 3 rfl rfl
      refine zz_iald (z := S0 1109 p0.toNat) zd_14_87_106 zT_1109 rfl (zz_ltn hn rfl) (by decide) (by omega) rfl ?_
      refine zz_aload_n (x := 1079) rfl zd_14_87_107 ?_
      refine zz_getr (kd := 0) (z := 1110) zd_14_87_108 zf_Md_112 zT_1079 rfl (zz_ltn hn rfl) (zz_G.eq G_S0 1079 45 1110 rfl rfl) (by decide) 1110 rfl ?_
      refine zz_iload_n (x := p0) rfl zd_14_87_111 ?_
      have g16 := zz_G.r G_S0 1110 p0.toNat 0 3 rfl rfl
      refine zz_iald (z := S0 1110 p0.toNat) zd_14_87_112 zT_1110 rfl (zz_ltn hn rfl) (by decide) (by omega) rfl ?_
      refine zz_imul zd_14_87_113 ?_
      have m17 := zz_mulb (a := S0 1109 p0.toNat) (b := S0 1110 p0.toNat) 3 3 9 (by omega) (by omega) (by decide)
      refine zz_istore [some (.ref 1079), some (zi p0), some (zi (S0 1107 p0.toNat)), some (zi 1), some (zi ((S0 1109 p0.toNat) * (S0 1110 p0.toNat)))] zd_14_87_114 (by decide) rfl ?_
      refine zz_iload_n (x := 1) rfl zd_14_87_116 ?_
      refine zz_if_eq (by omega) zd_14_87_117 (fun c18 => ?_) (fun c18 => ?_)
      · exfalso; omega
      · refine zz_iconst zd_14_87_120 ?_
        refine zz_goto zd_14_87_121 ?_
        refine zz_istore [some (.ref 1079), some (zi p0), some (zi (S0 1107 p0.toNat)), some (zi 1), some (zi ((S0 1109 p0.toNat) * (S0 1110 p0.toNat))), some (zi 1)] zd_14_87_142 (by decide) rfl ?_
        refine zz_iconst zd_14_87_144 ?_
        refine zz_istore [some (.ref 1079), some (zi p0), some (zi (S0 1107 p0.toNat)), some (zi 1), some (zi ((S0 1109 p0.toNat) * (S0 1110 p0.toNat))), some (zi 1), some (zi 0)] zd_14_87_145 (by decide) rfl ?_
        have g19 := zz_G.r G_S0 1079 10 0 1000000 rfl rfl
        refine zz_less (ls1 := [some (.ref 1079), some (zi p0), some (zi (S0 1107 p0.toNat)), some (zi 1), some (zi ((S0 1109 p0.toNat) * (S0 1110 p0.toNat))), some (zi 1), some (zi 0)]) ⟨rfl, ⟨rfl, ⟨rfl, ⟨rfl, ⟨rfl, ⟨rfl, ⟨rfl, trivial⟩⟩⟩⟩⟩⟩⟩ ?_
        exact k147 1 ((S0 1109 p0.toNat) * (S0 1110 p0.toNat)) 1 0 S0 G_S0 F_S0 (by omega) (by omega) (by omega) (by omega) (by omega) (by omega) (by omega)
  · refine zz_iconst zd_14_87_17 ?_
    refine zz_istore_n [some (.ref 1079), some (zi p0), some (zi (S0 1107 p0.toNat)), some (zi 0)] zd_14_87_18 (by decide) rfl ?_
    have g20 := zz_G.r G_S0 1079 10 0 1000000 rfl rfl
    refine zz_less (ls1 := [some (.ref 1079), some (zi p0), none, some (zi 0)]) ⟨rfl, ⟨rfl, ⟨rfl, trivial⟩⟩⟩ ?_
    exact k19 0 S0 G_S0 F_S0 (by omega) (by omega) (by omega)
abbrev zy_layer_14_88 : mm_Y := (⟨"TensorForgeModel", "layer", "(I)V"⟩, prog_14_method_88_code, 8, none)
theorem zyw_layer_14_88 : mm_Yw zy_layer_14_88 1 := ⟨mm_tb_1 2140 (by decide +kernel) rfl, mm_tb_1 12 (by decide +kernel) rfl, ⟨by decide, by decide⟩, by decide +kernel⟩
theorem zk_Md_509 : mm_Vl "TensorForgeModel" 509 11 1 zy_tile_14_87 := ⟨zyw_tile_14_87, (R_Md, F_Md, 69), rfl, mm_tb_1 2144 (by decide +kernel) rfl, mm_tb_1 2146 (by decide +kernel) rfl, mm_tb_s 128 (by decide +kernel) rfl⟩
theorem zg_14_88_0 : zq_at zy_layer_14_88.2.1 0 27 ∧ zq_at zy_layer_14_88.2.1 1 4 ∧ zq_at zy_layer_14_88.2.1 2 96 ∧ zq_at zy_layer_14_88.2.1 3 61 ∧ zq_at zy_layer_14_88.2.1 4 42 ∧ zq_at zy_layer_14_88.2.1 5 180 ∧ zq_at zy_layer_14_88.2.1 6 0 ∧ zq_at zy_layer_14_88.2.1 7 100 ∧ zq_at zy_layer_14_88.2.1 8 27 ∧ zq_at zy_layer_14_88.2.1 9 46 ∧ zq_at zy_layer_14_88.2.1 10 5 ∧ zq_at zy_layer_14_88.2.1 11 160 ∧ zq_at zy_layer_14_88.2.1 12 0 ∧ zq_at zy_layer_14_88.2.1 13 7 ∧ zq_at zy_layer_14_88.2.1 18 42 ∧ zq_at zy_layer_14_88.2.1 19 180 ∧ zq_at zy_layer_14_88.2.1 20 0 ∧ zq_at zy_layer_14_88.2.1 21 88 ∧ zq_at zy_layer_14_88.2.1 22 28 ∧ zq_at zy_layer_14_88.2.1 23 46 ∧ zq_at zy_layer_14_88.2.1 24 62 ∧ zq_at zy_layer_14_88.2.1 25 42 := by decide +kernel
theorem zd_14_88_0 : zz_D zy_layer_14_88 0 (.iload_n 1) 1 1 := ⟨zq_27 zg_14_88_0.1, rfl⟩
theorem zd_14_88_1 : zz_D zy_layer_14_88 1 (.iconst 1) 1 2 := ⟨zq_4 zg_14_88_0.2.1, rfl⟩
theorem zd_14_88_2 : zz_D zy_layer_14_88 2 (.iadd) 1 3 := ⟨zq_96 zg_14_88_0.2.2.1, rfl⟩
theorem zd_14_88_3 : zz_D zy_layer_14_88 3 (.istore_n 2) 1 4 := ⟨zq_61 zg_14_88_0.2.2.2.1, rfl⟩
theorem zd_14_88_4 : zz_D zy_layer_14_88 4 (.aload_n 0) 1 5 := ⟨zq_42 zg_14_88_0.2.2.2.2.1, rfl⟩
theorem zd_14_88_5 : zz_D zy_layer_14_88 5 (.getfield 100) 3 8 := ⟨zq_180 zg_14_88_0.2.2.2.2.2.1 zg_14_88_0.2.2.2.2.2.2.1 zg_14_88_0.2.2.2.2.2.2.2.1 rfl, rfl⟩
theorem zd_14_88_8 : zz_D zy_layer_14_88 8 (.iload_n 1) 1 9 := ⟨zq_27 zg_14_88_0.2.2.2.2.2.2.2.2.1, rfl⟩
theorem zd_14_88_9 : zz_D zy_layer_14_88 9 (.iaload) 1 10 := ⟨zq_46 zg_14_88_0.2.2.2.2.2.2.2.2.2.1, rfl⟩
theorem zd_14_88_10 : zz_D zy_layer_14_88 10 (.iconst 2) 1 11 := ⟨zq_5 zg_14_88_0.2.2.2.2.2.2.2.2.2.2.1, rfl⟩
theorem zd_14_88_11 : zz_B zy_layer_14_88 11 (Instr.if_icmp .ne) 18 14 := ⟨7, zq_160 zg_14_88_0.2.2.2.2.2.2.2.2.2.2.2.1 zg_14_88_0.2.2.2.2.2.2.2.2.2.2.2.2.1 zg_14_88_0.2.2.2.2.2.2.2.2.2.2.2.2.2.1 (by decide), rfl, rfl⟩
theorem zd_14_88_18 : zz_D zy_layer_14_88 18 (.aload_n 0) 1 19 := ⟨zq_42 zg_14_88_0.2.2.2.2.2.2.2.2.2.2.2.2.2.2.1, rfl⟩
theorem zd_14_88_19 : zz_D zy_layer_14_88 19 (.getfield 88) 3 22 := ⟨zq_180 zg_14_88_0.2.2.2.2.2.2.2.2.2.2.2.2.2.2.2.1 zg_14_88_0.2.2.2.2.2.2.2.2.2.2.2.2.2.2.2.2.1 zg_14_88_0.2.2.2.2.2.2.2.2.2.2.2.2.2.2.2.2.2.1 rfl, rfl⟩
theorem zd_14_88_22 : zz_D zy_layer_14_88 22 (.iload_n 2) 1 23 := ⟨zq_28 zg_14_88_0.2.2.2.2.2.2.2.2.2.2.2.2.2.2.2.2.2.2.1, rfl⟩
theorem zd_14_88_23 : zz_D zy_layer_14_88 23 (.iaload) 1 24 := ⟨zq_46 zg_14_88_0.2.2.2.2.2.2.2.2.2.2.2.2.2.2.2.2.2.2.2.1, rfl⟩
theorem zd_14_88_24 : zz_D zy_layer_14_88 24 (.istore_n 3) 1 25 := ⟨zq_62 zg_14_88_0.2.2.2.2.2.2.2.2.2.2.2.2.2.2.2.2.2.2.2.2.1, rfl⟩
theorem zd_14_88_25 : zz_D zy_layer_14_88 25 (.aload_n 0) 1 26 := ⟨zq_42 zg_14_88_0.2.2.2.2.2.2.2.2.2.2.2.2.2.2.2.2.2.2.2.2.2, rfl⟩
theorem zg_14_88_26 : zq_at zy_layer_14_88.2.1 26 180 ∧ zq_at zy_layer_14_88.2.1 27 0 ∧ zq_at zy_layer_14_88.2.1 28 100 ∧ zq_at zy_layer_14_88.2.1 29 27 ∧ zq_at zy_layer_14_88.2.1 30 46 ∧ zq_at zy_layer_14_88.2.1 31 5 ∧ zq_at zy_layer_14_88.2.1 32 160 ∧ zq_at zy_layer_14_88.2.1 33 0 ∧ zq_at zy_layer_14_88.2.1 34 19 ∧ zq_at zy_layer_14_88.2.1 51 42 ∧ zq_at zy_layer_14_88.2.1 52 180 ∧ zq_at zy_layer_14_88.2.1 53 0 ∧ zq_at zy_layer_14_88.2.1 54 91 ∧ zq_at zy_layer_14_88.2.1 55 28 ∧ zq_at zy_layer_14_88.2.1 56 46 ∧ zq_at zy_layer_14_88.2.1 57 54 ∧ zq_at zy_layer_14_88.2.1 58 4 ∧ zq_at zy_layer_14_88.2.1 59 16 ∧ zq_at zy_layer_14_88.2.1 60 63 ∧ zq_at zy_layer_14_88.2.1 61 17 ∧ zq_at zy_layer_14_88.2.1 62 0 ∧ zq_at zy_layer_14_88.2.1 63 128 ∧ zq_at zy_layer_14_88.2.1 64 42 := by decide +kernel
theorem zd_14_88_26 : zz_D zy_layer_14_88 26 (.getfield 100) 3 29 := ⟨zq_180 zg_14_88_26.1 zg_14_88_26.2.1 zg_14_88_26.2.2.1 rfl, rfl⟩
theorem zd_14_88_29 : zz_D zy_layer_14_88 29 (.iload_n 1) 1 30 := ⟨zq_27 zg_14_88_26.2.2.2.1, rfl⟩
theorem zd_14_88_30 : zz_D zy_layer_14_88 30 (.iaload) 1 31 := ⟨zq_46 zg_14_88_26.2.2.2.2.1, rfl⟩
theorem zd_14_88_31 : zz_D zy_layer_14_88 31 (.iconst 2) 1 32 := ⟨zq_5 zg_14_88_26.2.2.2.2.2.1, rfl⟩
theorem zd_14_88_32 : zz_B zy_layer_14_88 32 (Instr.if_icmp .ne) 51 35 := ⟨19, zq_160 zg_14_88_26.2.2.2.2.2.2.1 zg_14_88_26.2.2.2.2.2.2.2.1 zg_14_88_26.2.2.2.2.2.2.2.2.1 (by decide), rfl, rfl⟩
theorem zd_14_88_51 : zz_D zy_layer_14_88 51 (.aload_n 0) 1 52 := ⟨zq_42 zg_14_88_26.2.2.2.2.2.2.2.2.2.1, rfl⟩
theorem zd_14_88_52 : zz_D zy_layer_14_88 52 (.getfield 91) 3 55 := ⟨zq_180 zg_14_88_26.2.2.2.2.2.2.2.2.2.2.1 zg_14_88_26.2.2.2.2.2.2.2.2.2.2.2.1 zg_14_88_26.2.2.2.2.2.2.2.2.2.2.2.2.1 rfl, rfl⟩
theorem zd_14_88_55 : zz_D zy_layer_14_88 55 (.iload_n 2) 1 56 := ⟨zq_28 zg_14_88_26.2.2.2.2.2.2.2.2.2.2.2.2.2.1, rfl⟩
theorem zd_14_88_56 : zz_D zy_layer_14_88 56 (.iaload) 1 57 := ⟨zq_46 zg_14_88_26.2.2.2.2.2.2.2.2.2.2.2.2.2.2.1, rfl⟩
theorem zd_14_88_57 : zz_D zy_layer_14_88 57 (.istore 4) 2 59 := ⟨zq_54 zg_14_88_26.2.2.2.2.2.2.2.2.2.2.2.2.2.2.2.1 zg_14_88_26.2.2.2.2.2.2.2.2.2.2.2.2.2.2.2.2.1, rfl⟩
theorem zd_14_88_59 : zz_D zy_layer_14_88 59 (.bipush 63) 2 61 := ⟨zq_16 zg_14_88_26.2.2.2.2.2.2.2.2.2.2.2.2.2.2.2.2.2.1 zg_14_88_26.2.2.2.2.2.2.2.2.2.2.2.2.2.2.2.2.2.2.1 (by decide), rfl⟩
theorem zd_14_88_61 : zz_D zy_layer_14_88 61 (.sipush 128) 3 64 := ⟨zq_17 zg_14_88_26.2.2.2.2.2.2.2.2.2.2.2.2.2.2.2.2.2.2.2.1 zg_14_88_26.2.2.2.2.2.2.2.2.2.2.2.2.2.2.2.2.2.2.2.2.1 zg_14_88_26.2.2.2.2.2.2.2.2.2.2.2.2.2.2.2.2.2.2.2.2.2.1 (by decide), rfl⟩
theorem zd_14_88_64 : zz_D zy_layer_14_88 64 (.aload_n 0) 1 65 := ⟨zq_42 zg_14_88_26.2.2.2.2.2.2.2.2.2.2.2.2.2.2.2.2.2.2.2.2.2.2, rfl⟩
theorem zg_14_88_65 : zq_at zy_layer_14_88.2.1 65 180 ∧ zq_at zy_layer_14_88.2.1 66 0 ∧ zq_at zy_layer_14_88.2.1 67 7 ∧ zq_at zy_layer_14_88.2.1 68 108 ∧ zq_at zy_layer_14_88.2.1 69 184 ∧ zq_at zy_layer_14_88.2.1 70 1 ∧ zq_at zy_layer_14_88.2.1 71 250 ∧ zq_at zy_layer_14_88.2.1 72 54 ∧ zq_at zy_layer_14_88.2.1 73 5 ∧ zq_at zy_layer_14_88.2.1 74 42 ∧ zq_at zy_layer_14_88.2.1 75 3 ∧ zq_at zy_layer_14_88.2.1 76 181 ∧ zq_at zy_layer_14_88.2.1 77 1 ∧ zq_at zy_layer_14_88.2.1 78 194 ∧ zq_at zy_layer_14_88.2.1 79 42 ∧ zq_at zy_layer_14_88.2.1 80 3 ∧ zq_at zy_layer_14_88.2.1 81 181 ∧ zq_at zy_layer_14_88.2.1 82 1 ∧ zq_at zy_layer_14_88.2.1 83 191 ∧ zq_at zy_layer_14_88.2.1 84 42 ∧ zq_at zy_layer_14_88.2.1 85 3 ∧ zq_at zy_layer_14_88.2.1 86 181 ∧ zq_at zy_layer_14_88.2.1 87 1 ∧ zq_at zy_layer_14_88.2.1 88 210 := by decide +kernel
theorem zd_14_88_65 : zz_D zy_layer_14_88 65 (.getfield 7) 3 68 := ⟨zq_180 zg_14_88_65.1 zg_14_88_65.2.1 zg_14_88_65.2.2.1 rfl, rfl⟩
theorem zd_14_88_68 : zz_D zy_layer_14_88 68 (.idiv) 1 69 := ⟨zq_108 zg_14_88_65.2.2.2.1, rfl⟩
theorem zd_14_88_69 : zz_D zy_layer_14_88 69 (.invokestatic 506) 3 72 := ⟨zq_184 zg_14_88_65.2.2.2.2.1 zg_14_88_65.2.2.2.2.2.1 zg_14_88_65.2.2.2.2.2.2.1 rfl, rfl⟩
theorem zd_14_88_72 : zz_D zy_layer_14_88 72 (.istore 5) 2 74 := ⟨zq_54 zg_14_88_65.2.2.2.2.2.2.2.1 zg_14_88_65.2.2.2.2.2.2.2.2.1, rfl⟩
theorem zd_14_88_74 : zz_D zy_layer_14_88 74 (.aload_n 0) 1 75 := ⟨zq_42 zg_14_88_65.2.2.2.2.2.2.2.2.2.1, rfl⟩
theorem zd_14_88_75 : zz_D zy_layer_14_88 75 (.iconst 0) 1 76 := ⟨zq_3 zg_14_88_65.2.2.2.2.2.2.2.2.2.2.1, rfl⟩
theorem zd_14_88_76 : zz_D zy_layer_14_88 76 (.putfield 450) 3 79 := ⟨zq_181 zg_14_88_65.2.2.2.2.2.2.2.2.2.2.2.1 zg_14_88_65.2.2.2.2.2.2.2.2.2.2.2.2.1 zg_14_88_65.2.2.2.2.2.2.2.2.2.2.2.2.2.1 rfl, rfl⟩
theorem zd_14_88_79 : zz_D zy_layer_14_88 79 (.aload_n 0) 1 80 := ⟨zq_42 zg_14_88_65.2.2.2.2.2.2.2.2.2.2.2.2.2.2.1, rfl⟩
theorem zd_14_88_80 : zz_D zy_layer_14_88 80 (.iconst 0) 1 81 := ⟨zq_3 zg_14_88_65.2.2.2.2.2.2.2.2.2.2.2.2.2.2.2.1, rfl⟩
theorem zd_14_88_81 : zz_D zy_layer_14_88 81 (.putfield 447) 3 84 := ⟨zq_181 zg_14_88_65.2.2.2.2.2.2.2.2.2.2.2.2.2.2.2.2.1 zg_14_88_65.2.2.2.2.2.2.2.2.2.2.2.2.2.2.2.2.2.1 zg_14_88_65.2.2.2.2.2.2.2.2.2.2.2.2.2.2.2.2.2.2.1 rfl, rfl⟩
theorem zd_14_88_84 : zz_D zy_layer_14_88 84 (.aload_n 0) 1 85 := ⟨zq_42 zg_14_88_65.2.2.2.2.2.2.2.2.2.2.2.2.2.2.2.2.2.2.2.1, rfl⟩
theorem zd_14_88_85 : zz_D zy_layer_14_88 85 (.iconst 0) 1 86 := ⟨zq_3 zg_14_88_65.2.2.2.2.2.2.2.2.2.2.2.2.2.2.2.2.2.2.2.2.1, rfl⟩
theorem zd_14_88_86 : zz_D zy_layer_14_88 86 (.putfield 466) 3 89 := ⟨zq_181 zg_14_88_65.2.2.2.2.2.2.2.2.2.2.2.2.2.2.2.2.2.2.2.2.2.1 zg_14_88_65.2.2.2.2.2.2.2.2.2.2.2.2.2.2.2.2.2.2.2.2.2.2.1 zg_14_88_65.2.2.2.2.2.2.2.2.2.2.2.2.2.2.2.2.2.2.2.2.2.2.2 rfl, rfl⟩
theorem zg_14_88_14 : zq_at zy_layer_14_88.2.1 14 4 ∧ zq_at zy_layer_14_88.2.1 15 167 ∧ zq_at zy_layer_14_88.2.1 16 0 ∧ zq_at zy_layer_14_88.2.1 17 9 ∧ zq_at zy_layer_14_88.2.1 35 42 ∧ zq_at zy_layer_14_88.2.1 36 180 ∧ zq_at zy_layer_14_88.2.1 37 0 ∧ zq_at zy_layer_14_88.2.1 38 88 ∧ zq_at zy_layer_14_88.2.1 39 28 ∧ zq_at zy_layer_14_88.2.1 40 46 ∧ zq_at zy_layer_14_88.2.1 41 42 ∧ zq_at zy_layer_14_88.2.1 42 180 ∧ zq_at zy_layer_14_88.2.1 43 0 ∧ zq_at zy_layer_14_88.2.1 44 91 ∧ zq_at zy_layer_14_88.2.1 45 28 ∧ zq_at zy_layer_14_88.2.1 46 46 ∧ zq_at zy_layer_14_88.2.1 47 104 ∧ zq_at zy_layer_14_88.2.1 48 167 ∧ zq_at zy_layer_14_88.2.1 49 0 ∧ zq_at zy_layer_14_88.2.1 50 9 ∧ zq_at zy_layer_14_88.2.1 89 42 ∧ zq_at zy_layer_14_88.2.1 90 180 ∧ zq_at zy_layer_14_88.2.1 91 1 ∧ zq_at zy_layer_14_88.2.1 92 210 := by decide +kernel
theorem zd_14_88_14 : zz_D zy_layer_14_88 14 (.iconst 1) 1 15 := ⟨zq_4 zg_14_88_14.1, rfl⟩
theorem zd_14_88_15 : zz_B zy_layer_14_88 15 Instr.goto 24 18 := ⟨9, zq_167 zg_14_88_14.2.1 zg_14_88_14.2.2.1 zg_14_88_14.2.2.2.1 (by decide), rfl, rfl⟩
theorem zd_14_88_35 : zz_D zy_layer_14_88 35 (.aload_n 0) 1 36 := ⟨zq_42 zg_14_88_14.2.2.2.2.1, rfl⟩
theorem zd_14_88_36 : zz_D zy_layer_14_88 36 (.getfield 88) 3 39 := ⟨zq_180 zg_14_88_14.2.2.2.2.2.1 zg_14_88_14.2.2.2.2.2.2.1 zg_14_88_14.2.2.2.2.2.2.2.1 rfl, rfl⟩
theorem zd_14_88_39 : zz_D zy_layer_14_88 39 (.iload_n 2) 1 40 := ⟨zq_28 zg_14_88_14.2.2.2.2.2.2.2.2.1, rfl⟩
theorem zd_14_88_40 : zz_D zy_layer_14_88 40 (.iaload) 1 41 := ⟨zq_46 zg_14_88_14.2.2.2.2.2.2.2.2.2.1, rfl⟩
theorem zd_14_88_41 : zz_D zy_layer_14_88 41 (.aload_n 0) 1 42 := ⟨zq_42 zg_14_88_14.2.2.2.2.2.2.2.2.2.2.1, rfl⟩
theorem zd_14_88_42 : zz_D zy_layer_14_88 42 (.getfield 91) 3 45 := ⟨zq_180 zg_14_88_14.2.2.2.2.2.2.2.2.2.2.2.1 zg_14_88_14.2.2.2.2.2.2.2.2.2.2.2.2.1 zg_14_88_14.2.2.2.2.2.2.2.2.2.2.2.2.2.1 rfl, rfl⟩
theorem zd_14_88_45 : zz_D zy_layer_14_88 45 (.iload_n 2) 1 46 := ⟨zq_28 zg_14_88_14.2.2.2.2.2.2.2.2.2.2.2.2.2.2.1, rfl⟩
theorem zd_14_88_46 : zz_D zy_layer_14_88 46 (.iaload) 1 47 := ⟨zq_46 zg_14_88_14.2.2.2.2.2.2.2.2.2.2.2.2.2.2.2.1, rfl⟩
theorem zd_14_88_47 : zz_D zy_layer_14_88 47 (.imul) 1 48 := ⟨zq_104 zg_14_88_14.2.2.2.2.2.2.2.2.2.2.2.2.2.2.2.2.1, rfl⟩
theorem zd_14_88_48 : zz_B zy_layer_14_88 48 Instr.goto 57 51 := ⟨9, zq_167 zg_14_88_14.2.2.2.2.2.2.2.2.2.2.2.2.2.2.2.2.2.1 zg_14_88_14.2.2.2.2.2.2.2.2.2.2.2.2.2.2.2.2.2.2.1 zg_14_88_14.2.2.2.2.2.2.2.2.2.2.2.2.2.2.2.2.2.2.2.1 (by decide), rfl, rfl⟩
theorem zd_14_88_89 : zz_D zy_layer_14_88 89 (.aload_n 0) 1 90 := ⟨zq_42 zg_14_88_14.2.2.2.2.2.2.2.2.2.2.2.2.2.2.2.2.2.2.2.2.1, rfl⟩
theorem zd_14_88_90 : zz_D zy_layer_14_88 90 (.getfield 466) 3 93 := ⟨zq_180 zg_14_88_14.2.2.2.2.2.2.2.2.2.2.2.2.2.2.2.2.2.2.2.2.2.1 zg_14_88_14.2.2.2.2.2.2.2.2.2.2.2.2.2.2.2.2.2.2.2.2.2.2.1 zg_14_88_14.2.2.2.2.2.2.2.2.2.2.2.2.2.2.2.2.2.2.2.2.2.2.2 rfl, rfl⟩
theorem zg_14_88_93 : zq_at zy_layer_14_88.2.1 93 42 ∧ zq_at zy_layer_14_88.2.1 94 180 ∧ zq_at zy_layer_14_88.2.1 95 0 ∧ zq_at zy_layer_14_88.2.1 96 94 ∧ zq_at zy_layer_14_88.2.1 97 28 ∧ zq_at zy_layer_14_88.2.1 98 46 ∧ zq_at zy_layer_14_88.2.1 99 162 ∧ zq_at zy_layer_14_88.2.1 100 0 ∧ zq_at zy_layer_14_88.2.1 101 126 ∧ zq_at zy_layer_14_88.2.1 225 5 ∧ zq_at zy_layer_14_88.2.1 226 42 ∧ zq_at zy_layer_14_88.2.1 227 180 ∧ zq_at zy_layer_14_88.2.1 228 1 ∧ zq_at zy_layer_14_88.2.1 229 194 ∧ zq_at zy_layer_14_88.2.1 230 184 ∧ zq_at zy_layer_14_88.2.1 231 1 ∧ zq_at zy_layer_14_88.2.1 232 250 ∧ zq_at zy_layer_14_88.2.1 233 54 ∧ zq_at zy_layer_14_88.2.1 234 6 ∧ zq_at zy_layer_14_88.2.1 235 3 ∧ zq_at zy_layer_14_88.2.1 236 54 ∧ zq_at zy_layer_14_88.2.1 237 7 ∧ zq_at zy_layer_14_88.2.1 102 42 ∧ zq_at zy_layer_14_88.2.1 103 42 := by decide +kernel
theorem zd_14_88_93 : zz_D zy_layer_14_88 93 (.aload_n 0) 1 94 := ⟨zq_42 zg_14_88_93.1, rfl⟩
theorem zd_14_88_94 : zz_D zy_layer_14_88 94 (.getfield 94) 3 97 := ⟨zq_180 zg_14_88_93.2.1 zg_14_88_93.2.2.1 zg_14_88_93.2.2.2.1 rfl, rfl⟩
theorem zd_14_88_97 : zz_D zy_layer_14_88 97 (.iload_n 2) 1 98 := ⟨zq_28 zg_14_88_93.2.2.2.2.1, rfl⟩
theorem zd_14_88_98 : zz_D zy_layer_14_88 98 (.iaload) 1 99 := ⟨zq_46 zg_14_88_93.2.2.2.2.2.1, rfl⟩
theorem zd_14_88_99 : zz_B zy_layer_14_88 99 (Instr.if_icmp .ge) 225 102 := ⟨126, zq_162 zg_14_88_93.2.2.2.2.2.2.1 zg_14_88_93.2.2.2.2.2.2.2.1 zg_14_88_93.2.2.2.2.2.2.2.2.1 (by decide), rfl, rfl⟩
theorem zd_14_88_225 : zz_D zy_layer_14_88 225 (.iconst 2) 1 226 := ⟨zq_5 zg_14_88_93.2.2.2.2.2.2.2.2.2.1, rfl⟩
theorem zd_14_88_226 : zz_D zy_layer_14_88 226 (.aload_n 0) 1 227 := ⟨zq_42 zg_14_88_93.2.2.2.2.2.2.2.2.2.2.1, rfl⟩
theorem zd_14_88_227 : zz_D zy_layer_14_88 227 (.getfield 450) 3 230 := ⟨zq_180 zg_14_88_93.2.2.2.2.2.2.2.2.2.2.2.1 zg_14_88_93.2.2.2.2.2.2.2.2.2.2.2.2.1 zg_14_88_93.2.2.2.2.2.2.2.2.2.2.2.2.2.1 rfl, rfl⟩
theorem zd_14_88_230 : zz_D zy_layer_14_88 230 (.invokestatic 506) 3 233 := ⟨zq_184 zg_14_88_93.2.2.2.2.2.2.2.2.2.2.2.2.2.2.1 zg_14_88_93.2.2.2.2.2.2.2.2.2.2.2.2.2.2.2.1 zg_14_88_93.2.2.2.2.2.2.2.2.2.2.2.2.2.2.2.2.1 rfl, rfl⟩
theorem zd_14_88_233 : zz_D zy_layer_14_88 233 (.istore 6) 2 235 := ⟨zq_54 zg_14_88_93.2.2.2.2.2.2.2.2.2.2.2.2.2.2.2.2.2.1 zg_14_88_93.2.2.2.2.2.2.2.2.2.2.2.2.2.2.2.2.2.2.1, rfl⟩
theorem zd_14_88_235 : zz_D zy_layer_14_88 235 (.iconst 0) 1 236 := ⟨zq_3 zg_14_88_93.2.2.2.2.2.2.2.2.2.2.2.2.2.2.2.2.2.2.2.1, rfl⟩
theorem zd_14_88_236 : zz_D zy_layer_14_88 236 (.istore 7) 2 238 := ⟨zq_54 zg_14_88_93.2.2.2.2.2.2.2.2.2.2.2.2.2.2.2.2.2.2.2.2.1 zg_14_88_93.2.2.2.2.2.2.2.2.2.2.2.2.2.2.2.2.2.2.2.2.2.1, rfl⟩
theorem zd_14_88_102 : zz_D zy_layer_14_88 102 (.aload_n 0) 1 103 := ⟨zq_42 zg_14_88_93.2.2.2.2.2.2.2.2.2.2.2.2.2.2.2.2.2.2.2.2.2.2.1, rfl⟩
theorem zd_14_88_103 : zz_D zy_layer_14_88 103 (.aload_n 0) 1 104 := ⟨zq_42 zg_14_88_93.2.2.2.2.2.2.2.2.2.2.2.2.2.2.2.2.2.2.2.2.2.2.2, rfl⟩
theorem zg_14_88_104 : zq_at zy_layer_14_88.2.1 104 180 ∧ zq_at zy_layer_14_88.2.1 105 0 ∧ zq_at zy_layer_14_88.2.1 106 7 ∧ zq_at zy_layer_14_88.2.1 107 42 ∧ zq_at zy_layer_14_88.2.1 108 180 ∧ zq_at zy_layer_14_88.2.1 109 0 ∧ zq_at zy_layer_14_88.2.1 110 94 ∧ zq_at zy_layer_14_88.2.1 111 28 ∧ zq_at zy_layer_14_88.2.1 112 46 ∧ zq_at zy_layer_14_88.2.1 113 42 ∧ zq_at zy_layer_14_88.2.1 114 180 ∧ zq_at zy_layer_14_88.2.1 115 1 ∧ zq_at zy_layer_14_88.2.1 116 210 ∧ zq_at zy_layer_14_88.2.1 117 100 ∧ zq_at zy_layer_14_88.2.1 118 184 ∧ zq_at zy_layer_14_88.2.1 119 1 ∧ zq_at zy_layer_14_88.2.1 120 250 ∧ zq_at zy_layer_14_88.2.1 121 181 ∧ zq_at zy_layer_14_88.2.1 122 1 ∧ zq_at zy_layer_14_88.2.1 123 216 ∧ zq_at zy_layer_14_88.2.1 124 42 ∧ zq_at zy_layer_14_88.2.1 125 3 := by decide +kernel
theorem zd_14_88_104 : zz_D zy_layer_14_88 104 (.getfield 7) 3 107 := ⟨zq_180 zg_14_88_104.1 zg_14_88_104.2.1 zg_14_88_104.2.2.1 rfl, rfl⟩
theorem zd_14_88_107 : zz_D zy_layer_14_88 107 (.aload_n 0) 1 108 := ⟨zq_42 zg_14_88_104.2.2.2.1, rfl⟩
theorem zd_14_88_108 : zz_D zy_layer_14_88 108 (.getfield 94) 3 111 := ⟨zq_180 zg_14_88_104.2.2.2.2.1 zg_14_88_104.2.2.2.2.2.1 zg_14_88_104.2.2.2.2.2.2.1 rfl, rfl⟩
theorem zd_14_88_111 : zz_D zy_layer_14_88 111 (.iload_n 2) 1 112 := ⟨zq_28 zg_14_88_104.2.2.2.2.2.2.2.1, rfl⟩
theorem zd_14_88_112 : zz_D zy_layer_14_88 112 (.iaload) 1 113 := ⟨zq_46 zg_14_88_104.2.2.2.2.2.2.2.2.1, rfl⟩
theorem zd_14_88_113 : zz_D zy_layer_14_88 113 (.aload_n 0) 1 114 := ⟨zq_42 zg_14_88_104.2.2.2.2.2.2.2.2.2.1, rfl⟩
theorem zd_14_88_114 : zz_D zy_layer_14_88 114 (.getfield 466) 3 117 := ⟨zq_180 zg_14_88_104.2.2.2.2.2.2.2.2.2.2.1 zg_14_88_104.2.2.2.2.2.2.2.2.2.2.2.1 zg_14_88_104.2.2.2.2.2.2.2.2.2.2.2.2.1 rfl, rfl⟩
theorem zd_14_88_117 : zz_D zy_layer_14_88 117 (.isub) 1 118 := ⟨zq_100 zg_14_88_104.2.2.2.2.2.2.2.2.2.2.2.2.2.1, rfl⟩
theorem zd_14_88_118 : zz_D zy_layer_14_88 118 (.invokestatic 506) 3 121 := ⟨zq_184 zg_14_88_104.2.2.2.2.2.2.2.2.2.2.2.2.2.2.1 zg_14_88_104.2.2.2.2.2.2.2.2.2.2.2.2.2.2.2.1 zg_14_88_104.2.2.2.2.2.2.2.2.2.2.2.2.2.2.2.2.1 rfl, rfl⟩
theorem zd_14_88_121 : zz_D zy_layer_14_88 121 (.putfield 472) 3 124 := ⟨zq_181 zg_14_88_104.2.2.2.2.2.2.2.2.2.2.2.2.2.2.2.2.2.1 zg_14_88_104.2.2.2.2.2.2.2.2.2.2.2.2.2.2.2.2.2.2.1 zg_14_88_104.2.2.2.2.2.2.2.2.2.2.2.2.2.2.2.2.2.2.2.1 rfl, rfl⟩
theorem zd_14_88_124 : zz_D zy_layer_14_88 124 (.aload_n 0) 1 125 := ⟨zq_42 zg_14_88_104.2.2.2.2.2.2.2.2.2.2.2.2.2.2.2.2.2.2.2.2.1, rfl⟩
theorem zd_14_88_125 : zz_D zy_layer_14_88 125 (.iconst 0) 1 126 := ⟨zq_3 zg_14_88_104.2.2.2.2.2.2.2.2.2.2.2.2.2.2.2.2.2.2.2.2.2, rfl⟩
theorem zg_14_88_126 : zq_at zy_layer_14_88.2.1 126 181 ∧ zq_at zy_layer_14_88.2.1 127 1 ∧ zq_at zy_layer_14_88.2.1 128 239 ∧ zq_at zy_layer_14_88.2.1 238 21 ∧ zq_at zy_layer_14_88.2.1 239 7 ∧ zq_at zy_layer_14_88.2.1 240 21 ∧ zq_at zy_layer_14_88.2.1 241 6 ∧ zq_at zy_layer_14_88.2.1 242 162 ∧ zq_at zy_layer_14_88.2.1 243 0 ∧ zq_at zy_layer_14_88.2.1 244 46 ∧ zq_at zy_layer_14_88.2.1 288 3 ∧ zq_at zy_layer_14_88.2.1 289 54 ∧ zq_at zy_layer_14_88.2.1 290 7 ∧ zq_at zy_layer_14_88.2.1 245 42 ∧ zq_at zy_layer_14_88.2.1 246 16 ∧ zq_at zy_layer_14_88.2.1 247 9 ∧ zq_at zy_layer_14_88.2.1 248 3 ∧ zq_at zy_layer_14_88.2.1 249 3 ∧ zq_at zy_layer_14_88.2.1 250 3 ∧ zq_at zy_layer_14_88.2.1 251 182 ∧ zq_at zy_layer_14_88.2.1 252 1 ∧ zq_at zy_layer_14_88.2.1 253 219 ∧ zq_at zy_layer_14_88.2.1 254 42 ∧ zq_at zy_layer_14_88.2.1 255 3 := by decide +kernel
theorem zd_14_88_126 : zz_D zy_layer_14_88 126 (.putfield 495) 3 129 := ⟨zq_181 zg_14_88_126.1 zg_14_88_126.2.1 zg_14_88_126.2.2.1 rfl, rfl⟩
theorem zd_14_88_238 : zz_D zy_layer_14_88 238 (.iload 7) 2 240 := ⟨zq_21 zg_14_88_126.2.2.2.1 zg_14_88_126.2.2.2.2.1, rfl⟩
theorem zd_14_88_240 : zz_D zy_layer_14_88 240 (.iload 6) 2 242 := ⟨zq_21 zg_14_88_126.2.2.2.2.2.1 zg_14_88_126.2.2.2.2.2.2.1, rfl⟩
theorem zd_14_88_242 : zz_B zy_layer_14_88 242 (Instr.if_icmp .ge) 288 245 := ⟨46, zq_162 zg_14_88_126.2.2.2.2.2.2.2.1 zg_14_88_126.2.2.2.2.2.2.2.2.1 zg_14_88_126.2.2.2.2.2.2.2.2.2.1 (by decide), rfl, rfl⟩
theorem zd_14_88_288 : zz_D zy_layer_14_88 288 (.iconst 0) 1 289 := ⟨zq_3 zg_14_88_126.2.2.2.2.2.2.2.2.2.2.1, rfl⟩
theorem zd_14_88_289 : zz_D zy_layer_14_88 289 (.istore 7) 2 291 := ⟨zq_54 zg_14_88_126.2.2.2.2.2.2.2.2.2.2.2.1 zg_14_88_126.2.2.2.2.2.2.2.2.2.2.2.2.1, rfl⟩
theorem zd_14_88_245 : zz_D zy_layer_14_88 245 (.aload_n 0) 1 246 := ⟨zq_42 zg_14_88_126.2.2.2.2.2.2.2.2.2.2.2.2.2.1, rfl⟩
theorem zd_14_88_246 : zz_D zy_layer_14_88 246 (.bipush 9) 2 248 := ⟨zq_16 zg_14_88_126.2.2.2.2.2.2.2.2.2.2.2.2.2.2.1 zg_14_88_126.2.2.2.2.2.2.2.2.2.2.2.2.2.2.2.1 (by decide), rfl⟩
theorem zd_14_88_248 : zz_D zy_layer_14_88 248 (.iconst 0) 1 249 := ⟨zq_3 zg_14_88_126.2.2.2.2.2.2.2.2.2.2.2.2.2.2.2.2.1, rfl⟩
theorem zd_14_88_249 : zz_D zy_layer_14_88 249 (.iconst 0) 1 250 := ⟨zq_3 zg_14_88_126.2.2.2.2.2.2.2.2.2.2.2.2.2.2.2.2.2.1, rfl⟩
theorem zd_14_88_250 : zz_D zy_layer_14_88 250 (.iconst 0) 1 251 := ⟨zq_3 zg_14_88_126.2.2.2.2.2.2.2.2.2.2.2.2.2.2.2.2.2.2.1, rfl⟩
theorem zd_14_88_251 : zz_D zy_layer_14_88 251 (.invokevirtual 475) 3 254 := ⟨zq_182 zg_14_88_126.2.2.2.2.2.2.2.2.2.2.2.2.2.2.2.2.2.2.2.1 zg_14_88_126.2.2.2.2.2.2.2.2.2.2.2.2.2.2.2.2.2.2.2.2.1 zg_14_88_126.2.2.2.2.2.2.2.2.2.2.2.2.2.2.2.2.2.2.2.2.2.1 rfl, rfl⟩
theorem zd_14_88_254 : zz_D zy_layer_14_88 254 (.aload_n 0) 1 255 := ⟨zq_42 zg_14_88_126.2.2.2.2.2.2.2.2.2.2.2.2.2.2.2.2.2.2.2.2.2.2.1, rfl⟩
theorem zd_14_88_255 : zz_D zy_layer_14_88 255 (.iconst 0) 1 256 := ⟨zq_3 zg_14_88_126.2.2.2.2.2.2.2.2.2.2.2.2.2.2.2.2.2.2.2.2.2.2.2, rfl⟩
theorem zg_14_88_256 : zq_at zy_layer_14_88.2.1 256 3 ∧ zq_at zy_layer_14_88.2.1 257 3 ∧ zq_at zy_layer_14_88.2.1 258 4 ∧ zq_at zy_layer_14_88.2.1 259 182 ∧ zq_at zy_layer_14_88.2.1 260 1 ∧ zq_at zy_layer_14_88.2.1 261 226 ∧ zq_at zy_layer_14_88.2.1 262 42 ∧ zq_at zy_layer_14_88.2.1 263 5 ∧ zq_at zy_layer_14_88.2.1 264 21 ∧ zq_at zy_layer_14_88.2.1 265 7 ∧ zq_at zy_layer_14_88.2.1 266 21 ∧ zq_at zy_layer_14_88.2.1 267 6 ∧ zq_at zy_layer_14_88.2.1 268 4 ∧ zq_at zy_layer_14_88.2.1 269 100 ∧ zq_at zy_layer_14_88.2.1 270 160 ∧ zq_at zy_layer_14_88.2.1 271 0 ∧ zq_at zy_layer_14_88.2.1 272 7 ∧ zq_at zy_layer_14_88.2.1 277 3 ∧ zq_at zy_layer_14_88.2.1 278 128 ∧ zq_at zy_layer_14_88.2.1 279 182 ∧ zq_at zy_layer_14_88.2.1 280 1 ∧ zq_at zy_layer_14_88.2.1 281 203 := by decide +kernel
theorem zd_14_88_256 : zz_D zy_layer_14_88 256 (.iconst 0) 1 257 := ⟨zq_3 zg_14_88_256.1, rfl⟩
theorem zd_14_88_257 : zz_D zy_layer_14_88 257 (.iconst 0) 1 258 := ⟨zq_3 zg_14_88_256.2.1, rfl⟩
theorem zd_14_88_258 : zz_D zy_layer_14_88 258 (.iconst 1) 1 259 := ⟨zq_4 zg_14_88_256.2.2.1, rfl⟩
theorem zd_14_88_259 : zz_D zy_layer_14_88 259 (.invokevirtual 482) 3 262 := ⟨zq_182 zg_14_88_256.2.2.2.1 zg_14_88_256.2.2.2.2.1 zg_14_88_256.2.2.2.2.2.1 rfl, rfl⟩
theorem zd_14_88_262 : zz_D zy_layer_14_88 262 (.aload_n 0) 1 263 := ⟨zq_42 zg_14_88_256.2.2.2.2.2.2.1, rfl⟩
theorem zd_14_88_263 : zz_D zy_layer_14_88 263 (.iconst 2) 1 264 := ⟨zq_5 zg_14_88_256.2.2.2.2.2.2.2.1, rfl⟩
theorem zd_14_88_264 : zz_D zy_layer_14_88 264 (.iload 7) 2 266 := ⟨zq_21 zg_14_88_256.2.2.2.2.2.2.2.2.1 zg_14_88_256.2.2.2.2.2.2.2.2.2.1, rfl⟩
theorem zd_14_88_266 : zz_D zy_layer_14_88 266 (.iload 6) 2 268 := ⟨zq_21 zg_14_88_256.2.2.2.2.2.2.2.2.2.2.1 zg_14_88_256.2.2.2.2.2.2.2.2.2.2.2.1, rfl⟩
theorem zd_14_88_268 : zz_D zy_layer_14_88 268 (.iconst 1) 1 269 := ⟨zq_4 zg_14_88_256.2.2.2.2.2.2.2.2.2.2.2.2.1, rfl⟩
theorem zd_14_88_269 : zz_D zy_layer_14_88 269 (.isub) 1 270 := ⟨zq_100 zg_14_88_256.2.2.2.2.2.2.2.2.2.2.2.2.2.1, rfl⟩
theorem zd_14_88_270 : zz_B zy_layer_14_88 270 (Instr.if_icmp .ne) 277 273 := ⟨7, zq_160 zg_14_88_256.2.2.2.2.2.2.2.2.2.2.2.2.2.2.1 zg_14_88_256.2.2.2.2.2.2.2.2.2.2.2.2.2.2.2.1 zg_14_88_256.2.2.2.2.2.2.2.2.2.2.2.2.2.2.2.2.1 (by decide), rfl, rfl⟩
theorem zd_14_88_277 : zz_D zy_layer_14_88 277 (.iconst 0) 1 278 := ⟨zq_3 zg_14_88_256.2.2.2.2.2.2.2.2.2.2.2.2.2.2.2.2.2.1, rfl⟩
theorem zd_14_88_278 : zz_D zy_layer_14_88 278 (.ior) 1 279 := ⟨zq_128 zg_14_88_256.2.2.2.2.2.2.2.2.2.2.2.2.2.2.2.2.2.2.1, rfl⟩
theorem zd_14_88_279 : zz_D zy_layer_14_88 279 (.invokevirtual 459) 3 282 := ⟨zq_182 zg_14_88_256.2.2.2.2.2.2.2.2.2.2.2.2.2.2.2.2.2.2.2.1 zg_14_88_256.2.2.2.2.2.2.2.2.2.2.2.2.2.2.2.2.2.2.2.2.1 zg_14_88_256.2.2.2.2.2.2.2.2.2.2.2.2.2.2.2.2.2.2.2.2.2 rfl, rfl⟩
theorem zg_14_88_282 : zq_at zy_layer_14_88.2.1 282 132 ∧ zq_at zy_layer_14_88.2.1 283 7 ∧ zq_at zy_layer_14_88.2.1 284 1 ∧ zq_at zy_layer_14_88.2.1 285 167 ∧ zq_at zy_layer_14_88.2.1 286 255 ∧ zq_at zy_layer_14_88.2.1 287 209 ∧ zq_at zy_layer_14_88.2.1 273 7 ∧ zq_at zy_layer_14_88.2.1 274 167 ∧ zq_at zy_layer_14_88.2.1 275 0 ∧ zq_at zy_layer_14_88.2.1 276 4 ∧ zq_at zy_layer_14_88.2.1 129 42 ∧ zq_at zy_layer_14_88.2.1 130 180 ∧ zq_at zy_layer_14_88.2.1 131 1 ∧ zq_at zy_layer_14_88.2.1 132 239 ∧ zq_at zy_layer_14_88.2.1 133 29 ∧ zq_at zy_layer_14_88.2.1 134 162 ∧ zq_at zy_layer_14_88.2.1 135 0 ∧ zq_at zy_layer_14_88.2.1 136 75 ∧ zq_at zy_layer_14_88.2.1 209 42 ∧ zq_at zy_layer_14_88.2.1 210 42 ∧ zq_at zy_layer_14_88.2.1 211 180 ∧ zq_at zy_layer_14_88.2.1 212 1 ∧ zq_at zy_layer_14_88.2.1 213 210 ∧ zq_at zy_layer_14_88.2.1 214 42 := by decide +kernel
theorem zd_14_88_282 : zz_D zy_layer_14_88 282 (.iinc 7 1) 3 285 := ⟨zq_132 zg_14_88_282.1 zg_14_88_282.2.1 zg_14_88_282.2.2.1 (by decide), rfl⟩
theorem zd_14_88_285 : zz_B zy_layer_14_88 285 Instr.goto 238 288 := ⟨(-47), zq_167 zg_14_88_282.2.2.2.1 zg_14_88_282.2.2.2.2.1 zg_14_88_282.2.2.2.2.2.1 (by decide), rfl, rfl⟩
theorem zd_14_88_273 : zz_D zy_layer_14_88 273 (.iconst 4) 1 274 := ⟨zq_7 zg_14_88_282.2.2.2.2.2.2.1, rfl⟩
theorem zd_14_88_274 : zz_B zy_layer_14_88 274 Instr.goto 278 277 := ⟨4, zq_167 zg_14_88_282.2.2.2.2.2.2.2.1 zg_14_88_282.2.2.2.2.2.2.2.2.1 zg_14_88_282.2.2.2.2.2.2.2.2.2.1 (by decide), rfl, rfl⟩
theorem zd_14_88_129 : zz_D zy_layer_14_88 129 (.aload_n 0) 1 130 := ⟨zq_42 zg_14_88_282.2.2.2.2.2.2.2.2.2.2.1, rfl⟩
theorem zd_14_88_130 : zz_D zy_layer_14_88 130 (.getfield 495) 3 133 := ⟨zq_180 zg_14_88_282.2.2.2.2.2.2.2.2.2.2.2.1 zg_14_88_282.2.2.2.2.2.2.2.2.2.2.2.2.1 zg_14_88_282.2.2.2.2.2.2.2.2.2.2.2.2.2.1 rfl, rfl⟩
theorem zd_14_88_133 : zz_D zy_layer_14_88 133 (.iload_n 3) 1 134 := ⟨zq_29 zg_14_88_282.2.2.2.2.2.2.2.2.2.2.2.2.2.2.1, rfl⟩
theorem zd_14_88_134 : zz_B zy_layer_14_88 134 (Instr.if_icmp .ge) 209 137 := ⟨75, zq_162 zg_14_88_282.2.2.2.2.2.2.2.2.2.2.2.2.2.2.2.1 zg_14_88_282.2.2.2.2.2.2.2.2.2.2.2.2.2.2.2.2.1 zg_14_88_282.2.2.2.2.2.2.2.2.2.2.2.2.2.2.2.2.2.1 (by decide), rfl, rfl⟩
theorem zd_14_88_209 : zz_D zy_layer_14_88 209 (.aload_n 0) 1 210 := ⟨zq_42 zg_14_88_282.2.2.2.2.2.2.2.2.2.2.2.2.2.2.2.2.2.2.1, rfl⟩
theorem zd_14_88_210 : zz_D zy_layer_14_88 210 (.aload_n 0) 1 211 := ⟨zq_42 zg_14_88_282.2.2.2.2.2.2.2.2.2.2.2.2.2.2.2.2.2.2.2.1, rfl⟩
theorem zd_14_88_211 : zz_D zy_layer_14_88 211 (.getfield 466) 3 214 := ⟨zq_180 zg_14_88_282.2.2.2.2.2.2.2.2.2.2.2.2.2.2.2.2.2.2.2.2.1 zg_14_88_282.2.2.2.2.2.2.2.2.2.2.2.2.2.2.2.2.2.2.2.2.2.1 zg_14_88_282.2.2.2.2.2.2.2.2.2.2.2.2.2.2.2.2.2.2.2.2.2.2.1 rfl, rfl⟩
theorem zd_14_88_214 : zz_D zy_layer_14_88 214 (.aload_n 0) 1 215 := ⟨zq_42 zg_14_88_282.2.2.2.2.2.2.2.2.2.2.2.2.2.2.2.2.2.2.2.2.2.2.2, rfl⟩
theorem zg_14_88_215 : zq_at zy_layer_14_88.2.1 215 180 ∧ zq_at zy_layer_14_88.2.1 216 0 ∧ zq_at zy_layer_14_88.2.1 217 7 ∧ zq_at zy_layer_14_88.2.1 218 96 ∧ zq_at zy_layer_14_88.2.1 219 181 ∧ zq_at zy_layer_14_88.2.1 220 1 ∧ zq_at zy_layer_14_88.2.1 221 210 ∧ zq_at zy_layer_14_88.2.1 222 167 ∧ zq_at zy_layer_14_88.2.1 223 255 ∧ zq_at zy_layer_14_88.2.1 224 123 ∧ zq_at zy_layer_14_88.2.1 137 42 ∧ zq_at zy_layer_14_88.2.1 138 3 ∧ zq_at zy_layer_14_88.2.1 139 181 ∧ zq_at zy_layer_14_88.2.1 140 1 ∧ zq_at zy_layer_14_88.2.1 141 236 ∧ zq_at zy_layer_14_88.2.1 291 21 ∧ zq_at zy_layer_14_88.2.1 292 7 ∧ zq_at zy_layer_14_88.2.1 293 5 ∧ zq_at zy_layer_14_88.2.1 294 42 ∧ zq_at zy_layer_14_88.2.1 295 180 ∧ zq_at zy_layer_14_88.2.1 296 1 ∧ zq_at zy_layer_14_88.2.1 297 191 := by decide +kernel
theorem zd_14_88_215 : zz_D zy_layer_14_88 215 (.getfield 7) 3 218 := ⟨zq_180 zg_14_88_215.1 zg_14_88_215.2.1 zg_14_88_215.2.2.1 rfl, rfl⟩
theorem zd_14_88_218 : zz_D zy_layer_14_88 218 (.iadd) 1 219 := ⟨zq_96 zg_14_88_215.2.2.2.1, rfl⟩
theorem zd_14_88_219 : zz_D zy_layer_14_88 219 (.putfield 466) 3 222 := ⟨zq_181 zg_14_88_215.2.2.2.2.1 zg_14_88_215.2.2.2.2.2.1 zg_14_88_215.2.2.2.2.2.2.1 rfl, rfl⟩
theorem zd_14_88_222 : zz_B zy_layer_14_88 222 Instr.goto 89 225 := ⟨(-133), zq_167 zg_14_88_215.2.2.2.2.2.2.2.1 zg_14_88_215.2.2.2.2.2.2.2.2.1 zg_14_88_215.2.2.2.2.2.2.2.2.2.1 (by decide), rfl, rfl⟩
theorem zd_14_88_137 : zz_D zy_layer_14_88 137 (.aload_n 0) 1 138 := ⟨zq_42 zg_14_88_215.2.2.2.2.2.2.2.2.2.2.1, rfl⟩
theorem zd_14_88_138 : zz_D zy_layer_14_88 138 (.iconst 0) 1 139 := ⟨zq_3 zg_14_88_215.2.2.2.2.2.2.2.2.2.2.2.1, rfl⟩
theorem zd_14_88_139 : zz_D zy_layer_14_88 139 (.putfield 492) 3 142 := ⟨zq_181 zg_14_88_215.2.2.2.2.2.2.2.2.2.2.2.2.1 zg_14_88_215.2.2.2.2.2.2.2.2.2.2.2.2.2.1 zg_14_88_215.2.2.2.2.2.2.2.2.2.2.2.2.2.2.1 rfl, rfl⟩
theorem zd_14_88_291 : zz_D zy_layer_14_88 291 (.iload 7) 2 293 := ⟨zq_21 zg_14_88_215.2.2.2.2.2.2.2.2.2.2.2.2.2.2.2.1 zg_14_88_215.2.2.2.2.2.2.2.2.2.2.2.2.2.2.2.2.1, rfl⟩
theorem zd_14_88_293 : zz_D zy_layer_14_88 293 (.iconst 2) 1 294 := ⟨zq_5 zg_14_88_215.2.2.2.2.2.2.2.2.2.2.2.2.2.2.2.2.2.1, rfl⟩
theorem zd_14_88_294 : zz_D zy_layer_14_88 294 (.aload_n 0) 1 295 := ⟨zq_42 zg_14_88_215.2.2.2.2.2.2.2.2.2.2.2.2.2.2.2.2.2.2.1, rfl⟩
theorem zd_14_88_295 : zz_D zy_layer_14_88 295 (.getfield 447) 3 298 := ⟨zq_180 zg_14_88_215.2.2.2.2.2.2.2.2.2.2.2.2.2.2.2.2.2.2.2.1 zg_14_88_215.2.2.2.2.2.2.2.2.2.2.2.2.2.2.2.2.2.2.2.2.1 zg_14_88_215.2.2.2.2.2.2.2.2.2.2.2.2.2.2.2.2.2.2.2.2.2 rfl, rfl⟩
theorem zg_14_88_298 : zq_at zy_layer_14_88.2.1 298 184 ∧ zq_at zy_layer_14_88.2.1 299 1 ∧ zq_at zy_layer_14_88.2.1 300 250 ∧ zq_at zy_layer_14_88.2.1 301 163 ∧ zq_at zy_layer_14_88.2.1 302 0 ∧ zq_at zy_layer_14_88.2.1 303 23 ∧ zq_at zy_layer_14_88.2.1 324 177 ∧ zq_at zy_layer_14_88.2.1 304 42 ∧ zq_at zy_layer_14_88.2.1 305 16 ∧ zq_at zy_layer_14_88.2.1 306 9 ∧ zq_at zy_layer_14_88.2.1 307 3 ∧ zq_at zy_layer_14_88.2.1 308 3 ∧ zq_at zy_layer_14_88.2.1 309 3 ∧ zq_at zy_layer_14_88.2.1 310 182 ∧ zq_at zy_layer_14_88.2.1 311 1 ∧ zq_at zy_layer_14_88.2.1 312 219 ∧ zq_at zy_layer_14_88.2.1 313 42 ∧ zq_at zy_layer_14_88.2.1 314 5 ∧ zq_at zy_layer_14_88.2.1 315 182 ∧ zq_at zy_layer_14_88.2.1 316 1 ∧ zq_at zy_layer_14_88.2.1 317 203 ∧ zq_at zy_layer_14_88.2.1 318 132 ∧ zq_at zy_layer_14_88.2.1 319 7 ∧ zq_at zy_layer_14_88.2.1 320 1 := by decide +kernel
theorem zd_14_88_298 : zz_D zy_layer_14_88 298 (.invokestatic 506) 3 301 := ⟨zq_184 zg_14_88_298.1 zg_14_88_298.2.1 zg_14_88_298.2.2.1 rfl, rfl⟩
theorem zd_14_88_301 : zz_B zy_layer_14_88 301 (Instr.if_icmp .gt) 324 304 := ⟨23, zq_163 zg_14_88_298.2.2.2.1 zg_14_88_298.2.2.2.2.1 zg_14_88_298.2.2.2.2.2.1 (by decide), rfl, rfl⟩
theorem zd_14_88_324 : zz_D zy_layer_14_88 324 (.return_) 1 325 := ⟨zq_177 zg_14_88_298.2.2.2.2.2.2.1, rfl⟩
theorem zd_14_88_304 : zz_D zy_layer_14_88 304 (.aload_n 0) 1 305 := ⟨zq_42 zg_14_88_298.2.2.2.2.2.2.2.1, rfl⟩
theorem zd_14_88_305 : zz_D zy_layer_14_88 305 (.bipush 9) 2 307 := ⟨zq_16 zg_14_88_298.2.2.2.2.2.2.2.2.1 zg_14_88_298.2.2.2.2.2.2.2.2.2.1 (by decide), rfl⟩
theorem zd_14_88_307 : zz_D zy_layer_14_88 307 (.iconst 0) 1 308 := ⟨zq_3 zg_14_88_298.2.2.2.2.2.2.2.2.2.2.1, rfl⟩
theorem zd_14_88_308 : zz_D zy_layer_14_88 308 (.iconst 0) 1 309 := ⟨zq_3 zg_14_88_298.2.2.2.2.2.2.2.2.2.2.2.1, rfl⟩
theorem zd_14_88_309 : zz_D zy_layer_14_88 309 (.iconst 0) 1 310 := ⟨zq_3 zg_14_88_298.2.2.2.2.2.2.2.2.2.2.2.2.1, rfl⟩
theorem zd_14_88_310 : zz_D zy_layer_14_88 310 (.invokevirtual 475) 3 313 := ⟨zq_182 zg_14_88_298.2.2.2.2.2.2.2.2.2.2.2.2.2.1 zg_14_88_298.2.2.2.2.2.2.2.2.2.2.2.2.2.2.1 zg_14_88_298.2.2.2.2.2.2.2.2.2.2.2.2.2.2.2.1 rfl, rfl⟩
theorem zd_14_88_313 : zz_D zy_layer_14_88 313 (.aload_n 0) 1 314 := ⟨zq_42 zg_14_88_298.2.2.2.2.2.2.2.2.2.2.2.2.2.2.2.2.1, rfl⟩
theorem zd_14_88_314 : zz_D zy_layer_14_88 314 (.iconst 2) 1 315 := ⟨zq_5 zg_14_88_298.2.2.2.2.2.2.2.2.2.2.2.2.2.2.2.2.2.1, rfl⟩
theorem zd_14_88_315 : zz_D zy_layer_14_88 315 (.invokevirtual 459) 3 318 := ⟨zq_182 zg_14_88_298.2.2.2.2.2.2.2.2.2.2.2.2.2.2.2.2.2.2.1 zg_14_88_298.2.2.2.2.2.2.2.2.2.2.2.2.2.2.2.2.2.2.2.1 zg_14_88_298.2.2.2.2.2.2.2.2.2.2.2.2.2.2.2.2.2.2.2.2.1 rfl, rfl⟩
theorem zd_14_88_318 : zz_D zy_layer_14_88 318 (.iinc 7 1) 3 321 := ⟨zq_132 zg_14_88_298.2.2.2.2.2.2.2.2.2.2.2.2.2.2.2.2.2.2.2.2.2.1 zg_14_88_298.2.2.2.2.2.2.2.2.2.2.2.2.2.2.2.2.2.2.2.2.2.2.1 zg_14_88_298.2.2.2.2.2.2.2.2.2.2.2.2.2.2.2.2.2.2.2.2.2.2.2 (by decide), rfl⟩
theorem zg_14_88_321 : zq_at zy_layer_14_88.2.1 321 167 ∧ zq_at zy_layer_14_88.2.1 322 255 ∧ zq_at zy_layer_14_88.2.1 323 226 ∧ zq_at zy_layer_14_88.2.1 142 42 ∧ zq_at zy_layer_14_88.2.1 143 180 ∧ zq_at zy_layer_14_88.2.1 144 1 ∧ zq_at zy_layer_14_88.2.1 145 236 ∧ zq_at zy_layer_14_88.2.1 146 21 ∧ zq_at zy_layer_14_88.2.1 147 4 ∧ zq_at zy_layer_14_88.2.1 148 162 ∧ zq_at zy_layer_14_88.2.1 149 0 ∧ zq_at zy_layer_14_88.2.1 150 48 ∧ zq_at zy_layer_14_88.2.1 196 42 ∧ zq_at zy_layer_14_88.2.1 197 89 ∧ zq_at zy_layer_14_88.2.1 198 180 ∧ zq_at zy_layer_14_88.2.1 199 1 ∧ zq_at zy_layer_14_88.2.1 200 239 ∧ zq_at zy_layer_14_88.2.1 201 4 ∧ zq_at zy_layer_14_88.2.1 202 96 ∧ zq_at zy_layer_14_88.2.1 203 181 ∧ zq_at zy_layer_14_88.2.1 204 1 ∧ zq_at zy_layer_14_88.2.1 205 239 := by decide +kernel
theorem zd_14_88_321 : zz_B zy_layer_14_88 321 Instr.goto 291 324 := ⟨(-30), zq_167 zg_14_88_321.1 zg_14_88_321.2.1 zg_14_88_321.2.2.1 (by decide), rfl, rfl⟩
theorem zd_14_88_142 : zz_D zy_layer_14_88 142 (.aload_n 0) 1 143 := ⟨zq_42 zg_14_88_321.2.2.2.1, rfl⟩
theorem zd_14_88_143 : zz_D zy_layer_14_88 143 (.getfield 492) 3 146 := ⟨zq_180 zg_14_88_321.2.2.2.2.1 zg_14_88_321.2.2.2.2.2.1 zg_14_88_321.2.2.2.2.2.2.1 rfl, rfl⟩
theorem zd_14_88_146 : zz_D zy_layer_14_88 146 (.iload 4) 2 148 := ⟨zq_21 zg_14_88_321.2.2.2.2.2.2.2.1 zg_14_88_321.2.2.2.2.2.2.2.2.1, rfl⟩
theorem zd_14_88_148 : zz_B zy_layer_14_88 148 (Instr.if_icmp .ge) 196 151 := ⟨48, zq_162 zg_14_88_321.2.2.2.2.2.2.2.2.2.1 zg_14_88_321.2.2.2.2.2.2.2.2.2.2.1 zg_14_88_321.2.2.2.2.2.2.2.2.2.2.2.1 (by decide), rfl, rfl⟩
theorem zd_14_88_196 : zz_D zy_layer_14_88 196 (.aload_n 0) 1 197 := ⟨zq_42 zg_14_88_321.2.2.2.2.2.2.2.2.2.2.2.2.1, rfl⟩
theorem zd_14_88_197 : zz_D zy_layer_14_88 197 (.dup) 1 198 := ⟨zq_89 zg_14_88_321.2.2.2.2.2.2.2.2.2.2.2.2.2.1, rfl⟩
theorem zd_14_88_198 : zz_D zy_layer_14_88 198 (.getfield 495) 3 201 := ⟨zq_180 zg_14_88_321.2.2.2.2.2.2.2.2.2.2.2.2.2.2.1 zg_14_88_321.2.2.2.2.2.2.2.2.2.2.2.2.2.2.2.1 zg_14_88_321.2.2.2.2.2.2.2.2.2.2.2.2.2.2.2.2.1 rfl, rfl⟩
theorem zd_14_88_201 : zz_D zy_layer_14_88 201 (.iconst 1) 1 202 := ⟨zq_4 zg_14_88_321.2.2.2.2.2.2.2.2.2.2.2.2.2.2.2.2.2.1, rfl⟩
theorem zd_14_88_202 : zz_D zy_layer_14_88 202 (.iadd) 1 203 := ⟨zq_96 zg_14_88_321.2.2.2.2.2.2.2.2.2.2.2.2.2.2.2.2.2.2.1, rfl⟩
theorem zd_14_88_203 : zz_D zy_layer_14_88 203 (.putfield 495) 3 206 := ⟨zq_181 zg_14_88_321.2.2.2.2.2.2.2.2.2.2.2.2.2.2.2.2.2.2.2.1 zg_14_88_321.2.2.2.2.2.2.2.2.2.2.2.2.2.2.2.2.2.2.2.2.1 zg_14_88_321.2.2.2.2.2.2.2.2.2.2.2.2.2.2.2.2.2.2.2.2.2 rfl, rfl⟩
theorem zg_14_88_206 : zq_at zy_layer_14_88.2.1 206 167 ∧ zq_at zy_layer_14_88.2.1 207 255 ∧ zq_at zy_layer_14_88.2.1 208 179 ∧ zq_at zy_layer_14_88.2.1 151 42 ∧ zq_at zy_layer_14_88.2.1 152 21 ∧ zq_at zy_layer_14_88.2.1 153 5 ∧ zq_at zy_layer_14_88.2.1 154 21 ∧ zq_at zy_layer_14_88.2.1 155 4 ∧ zq_at zy_layer_14_88.2.1 156 42 ∧ zq_at zy_layer_14_88.2.1 157 180 ∧ zq_at zy_layer_14_88.2.1 158 1 ∧ zq_at zy_layer_14_88.2.1 159 236 ∧ zq_at zy_layer_14_88.2.1 160 100 ∧ zq_at zy_layer_14_88.2.1 161 184 ∧ zq_at zy_layer_14_88.2.1 162 1 ∧ zq_at zy_layer_14_88.2.1 163 250 ∧ zq_at zy_layer_14_88.2.1 164 181 ∧ zq_at zy_layer_14_88.2.1 165 1 ∧ zq_at zy_layer_14_88.2.1 166 213 ∧ zq_at zy_layer_14_88.2.1 167 42 ∧ zq_at zy_layer_14_88.2.1 168 180 ∧ zq_at zy_layer_14_88.2.1 169 1 ∧ zq_at zy_layer_14_88.2.1 170 116 := by decide +kernel
theorem zd_14_88_206 : zz_B zy_layer_14_88 206 Instr.goto 129 209 := ⟨(-77), zq_167 zg_14_88_206.1 zg_14_88_206.2.1 zg_14_88_206.2.2.1 (by decide), rfl, rfl⟩
theorem zd_14_88_151 : zz_D zy_layer_14_88 151 (.aload_n 0) 1 152 := ⟨zq_42 zg_14_88_206.2.2.2.1, rfl⟩
theorem zd_14_88_152 : zz_D zy_layer_14_88 152 (.iload 5) 2 154 := ⟨zq_21 zg_14_88_206.2.2.2.2.1 zg_14_88_206.2.2.2.2.2.1, rfl⟩
theorem zd_14_88_154 : zz_D zy_layer_14_88 154 (.iload 4) 2 156 := ⟨zq_21 zg_14_88_206.2.2.2.2.2.2.1 zg_14_88_206.2.2.2.2.2.2.2.1, rfl⟩
theorem zd_14_88_156 : zz_D zy_layer_14_88 156 (.aload_n 0) 1 157 := ⟨zq_42 zg_14_88_206.2.2.2.2.2.2.2.2.1, rfl⟩
theorem zd_14_88_157 : zz_D zy_layer_14_88 157 (.getfield 492) 3 160 := ⟨zq_180 zg_14_88_206.2.2.2.2.2.2.2.2.2.1 zg_14_88_206.2.2.2.2.2.2.2.2.2.2.1 zg_14_88_206.2.2.2.2.2.2.2.2.2.2.2.1 rfl, rfl⟩
theorem zd_14_88_160 : zz_D zy_layer_14_88 160 (.isub) 1 161 := ⟨zq_100 zg_14_88_206.2.2.2.2.2.2.2.2.2.2.2.2.1, rfl⟩
theorem zd_14_88_161 : zz_D zy_layer_14_88 161 (.invokestatic 506) 3 164 := ⟨zq_184 zg_14_88_206.2.2.2.2.2.2.2.2.2.2.2.2.2.1 zg_14_88_206.2.2.2.2.2.2.2.2.2.2.2.2.2.2.1 zg_14_88_206.2.2.2.2.2.2.2.2.2.2.2.2.2.2.2.1 rfl, rfl⟩
theorem zd_14_88_164 : zz_D zy_layer_14_88 164 (.putfield 469) 3 167 := ⟨zq_181 zg_14_88_206.2.2.2.2.2.2.2.2.2.2.2.2.2.2.2.2.1 zg_14_88_206.2.2.2.2.2.2.2.2.2.2.2.2.2.2.2.2.2.1 zg_14_88_206.2.2.2.2.2.2.2.2.2.2.2.2.2.2.2.2.2.2.1 rfl, rfl⟩
theorem zd_14_88_167 : zz_D zy_layer_14_88 167 (.aload_n 0) 1 168 := ⟨zq_42 zg_14_88_206.2.2.2.2.2.2.2.2.2.2.2.2.2.2.2.2.2.2.2.1, rfl⟩
theorem zd_14_88_168 : zz_D zy_layer_14_88 168 (.getfield 372) 3 171 := ⟨zq_180 zg_14_88_206.2.2.2.2.2.2.2.2.2.2.2.2.2.2.2.2.2.2.2.2.1 zg_14_88_206.2.2.2.2.2.2.2.2.2.2.2.2.2.2.2.2.2.2.2.2.2.1 zg_14_88_206.2.2.2.2.2.2.2.2.2.2.2.2.2.2.2.2.2.2.2.2.2.2 rfl, rfl⟩
theorem zg_14_88_171 : zq_at zy_layer_14_88.2.1 171 17 ∧ zq_at zy_layer_14_88.2.1 172 2 ∧ zq_at zy_layer_14_88.2.1 173 88 ∧ zq_at zy_layer_14_88.2.1 174 163 ∧ zq_at zy_layer_14_88.2.1 175 0 ∧ zq_at zy_layer_14_88.2.1 176 8 ∧ zq_at zy_layer_14_88.2.1 182 42 ∧ zq_at zy_layer_14_88.2.1 183 42 ∧ zq_at zy_layer_14_88.2.1 184 180 ∧ zq_at zy_layer_14_88.2.1 185 1 ∧ zq_at zy_layer_14_88.2.1 186 236 ∧ zq_at zy_layer_14_88.2.1 187 21 ∧ zq_at zy_layer_14_88.2.1 188 5 ∧ zq_at zy_layer_14_88.2.1 189 96 ∧ zq_at zy_layer_14_88.2.1 190 181 ∧ zq_at zy_layer_14_88.2.1 191 1 ∧ zq_at zy_layer_14_88.2.1 192 236 ∧ zq_at zy_layer_14_88.2.1 193 167 ∧ zq_at zy_layer_14_88.2.1 194 255 ∧ zq_at zy_layer_14_88.2.1 195 205 ∧ zq_at zy_layer_14_88.2.1 177 42 ∧ zq_at zy_layer_14_88.2.1 178 27 := by decide +kernel
theorem zd_14_88_171 : zz_D zy_layer_14_88 171 (.sipush 600) 3 174 := ⟨zq_17 zg_14_88_171.1 zg_14_88_171.2.1 zg_14_88_171.2.2.1 (by decide), rfl⟩
theorem zd_14_88_174 : zz_B zy_layer_14_88 174 (Instr.if_icmp .gt) 182 177 := ⟨8, zq_163 zg_14_88_171.2.2.2.1 zg_14_88_171.2.2.2.2.1 zg_14_88_171.2.2.2.2.2.1 (by decide), rfl, rfl⟩
theorem zd_14_88_182 : zz_D zy_layer_14_88 182 (.aload_n 0) 1 183 := ⟨zq_42 zg_14_88_171.2.2.2.2.2.2.1, rfl⟩
theorem zd_14_88_183 : zz_D zy_layer_14_88 183 (.aload_n 0) 1 184 := ⟨zq_42 zg_14_88_171.2.2.2.2.2.2.2.1, rfl⟩
theorem zd_14_88_184 : zz_D zy_layer_14_88 184 (.getfield 492) 3 187 := ⟨zq_180 zg_14_88_171.2.2.2.2.2.2.2.2.1 zg_14_88_171.2.2.2.2.2.2.2.2.2.1 zg_14_88_171.2.2.2.2.2.2.2.2.2.2.1 rfl, rfl⟩
theorem zd_14_88_187 : zz_D zy_layer_14_88 187 (.iload 5) 2 189 := ⟨zq_21 zg_14_88_171.2.2.2.2.2.2.2.2.2.2.2.1 zg_14_88_171.2.2.2.2.2.2.2.2.2.2.2.2.1, rfl⟩
theorem zd_14_88_189 : zz_D zy_layer_14_88 189 (.iadd) 1 190 := ⟨zq_96 zg_14_88_171.2.2.2.2.2.2.2.2.2.2.2.2.2.1, rfl⟩
theorem zd_14_88_190 : zz_D zy_layer_14_88 190 (.putfield 492) 3 193 := ⟨zq_181 zg_14_88_171.2.2.2.2.2.2.2.2.2.2.2.2.2.2.1 zg_14_88_171.2.2.2.2.2.2.2.2.2.2.2.2.2.2.2.1 zg_14_88_171.2.2.2.2.2.2.2.2.2.2.2.2.2.2.2.2.1 rfl, rfl⟩
theorem zd_14_88_193 : zz_B zy_layer_14_88 193 Instr.goto 142 196 := ⟨(-51), zq_167 zg_14_88_171.2.2.2.2.2.2.2.2.2.2.2.2.2.2.2.2.2.1 zg_14_88_171.2.2.2.2.2.2.2.2.2.2.2.2.2.2.2.2.2.2.1 zg_14_88_171.2.2.2.2.2.2.2.2.2.2.2.2.2.2.2.2.2.2.2.1 (by decide), rfl, rfl⟩
theorem zd_14_88_177 : zz_D zy_layer_14_88 177 (.aload_n 0) 1 178 := ⟨zq_42 zg_14_88_171.2.2.2.2.2.2.2.2.2.2.2.2.2.2.2.2.2.2.2.2.1, rfl⟩
theorem zd_14_88_178 : zz_D zy_layer_14_88 178 (.iload_n 1) 1 179 := ⟨zq_27 zg_14_88_171.2.2.2.2.2.2.2.2.2.2.2.2.2.2.2.2.2.2.2.2.2, rfl⟩
theorem zg_14_88_179 : zq_at zy_layer_14_88.2.1 179 182 ∧ zq_at zy_layer_14_88.2.1 180 1 ∧ zq_at zy_layer_14_88.2.1 181 253 := by decide +kernel
theorem zd_14_88_179 : zz_D zy_layer_14_88 179 (.invokevirtual 509) 3 182 := ⟨zq_182 zg_14_88_179.1 zg_14_88_179.2.1 zg_14_88_179.2.2 rfl, rfl⟩

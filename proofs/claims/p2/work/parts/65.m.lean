-- TensorForgeModel readInput ()Z
abbrev zr_readInput_14_103 : Room := { frames := 6, cells := 0, slots := 0, locals := 89 }
def zp_readInput_14_103  (S0 : zz_S) : Int → zz_S → Prop := fun r S => zz_G S ∧ zz_fr [(1079, 0), (1079, 30), (1079, 31), (1079, 32), (1079, 36), (1079, 61), (1079, 64), (1079, 65)] [1102, 1103, 1104, 1105, 1117, 1118] (fun _ _ => False) S0 S ∧ (0 ≤ r ∧ r ≤ 1)
theorem zc_readInput_14_103 {g : mm_G} {l : Launch}  (S0 : zz_S) (n : Nat) (hn : zz_end ≤ n) (G_S0 : zz_G S0)  : mm_Met g l zy_readInput_14_103 zr_readInput_14_103 [.ref 1079] (zz_M S0 n) n (zz_QI n (zp_readInput_14_103  S0)) := by
  refine zz_enter (by decide) (Nat.le_of_ble_eq_true rfl) (zz_less (ls1 := [some (.ref 1079)]) ⟨rfl, trivial⟩ ?_)
  have F_S0 : zz_fr [(1079, 0), (1079, 30), (1079, 31), (1079, 32), (1079, 36), (1079, 61), (1079, 64), (1079, 65)] [1102, 1103, 1104, 1105, 1117, 1118] (fun _ _ => False) S0 S0 := zz_fr.refl
  refine zz_aload_n (x := 1079) rfl zd_14_103_0 ?_
  refine zz_ldc2 (z := 21676489) zq_Md_532 (by decide) zd_14_103_1 ?_
  refine zz_callVI [zl 21676489] zd_14_103_4 zk_Md_529 zT_1079 (zz_ltn hn rfl) rfl rfl ⟨Nat.le_of_ble_eq_true rfl, Nat.le_of_ble_eq_true rfl⟩ ⟨rfl, rfl⟩ (Nat.zero_le _) (Nat.zero_le _) (zc_isWord_14_94 21676489 S0 n hn G_S0 (by omega)) (fun v2 S1 hP => ?_)
  obtain ⟨rfl, o3⟩ := hP
  rcases (by omega : v2 = 0 ∨ v2 = 1) with rfl | rfl
  · refine zz_if_ne (by omega) zd_14_103_7 (fun c4 => ?_) (fun c4 => ?_)
    · exfalso; omega
    · refine zz_iconst zd_14_103_10 ?_
      exact zz_zret zd_14_103_11 rfl (by omega) (Nat.zero_le _) (Nat.zero_le _) ⟨_, _, rfl, G_S0, F_S0, by omega⟩
  · refine zz_if_ne (by omega) zd_14_103_7 (fun c5 => ?_) (fun c5 => ?_)
    · refine zz_aload_n (x := 1079) rfl zd_14_103_12 ?_
      have g6 := zz_G.r G_S0 1079 32 0 1500 rfl rfl
      refine zz_callVV [] zd_14_103_13 zk_Md_526 zT_1079 (zz_ltn hn rfl) rfl rfl ⟨Nat.le_of_ble_eq_true rfl, Nat.le_of_ble_eq_true rfl⟩ ⟨rfl, rfl⟩ (Nat.zero_le _) (Nat.zero_le _) (zc_advanceNet_14_93  S0 n hn G_S0 ) (fun S7 hP => ?_)
      obtain ⟨G_S7, fS7, o9⟩ := hP
      have F_S7 := zz_fr.trans F_S0 fS7 rfl zz_nv
      refine zz_aload_n (x := 1079) rfl zd_14_103_16 ?_
      refine zz_iconst zd_14_103_17 ?_
      have g10 := zz_G.r G_S7 1079 30 0 102 rfl rfl
      have g11 := zz_G.r G_S7 1079 32 0 1500 rfl rfl
      refine zz_callVI [zi 0] zd_14_103_18 zk_Md_550 zT_1079 (zz_ltn hn rfl) rfl rfl ⟨Nat.le_of_ble_eq_true rfl, Nat.le_of_ble_eq_true rfl⟩ ⟨rfl, rfl⟩ (Nat.zero_le _) (Nat.zero_le _) (zc_takeNet_14_95 0 S7 n hn G_S7 (by omega)) (fun v13 S12 hP => ?_)
      obtain ⟨G_S12, fS12, o14, o15⟩ := hP
      have F_S12 := zz_fr.trans F_S7 fS12 rfl zz_nv
      rcases (by omega : v13 = 0 ∨ v13 = 1) with rfl | rfl
      · refine zz_if_eq (by omega) zd_14_103_21 (fun c16 => ?_) (fun c16 => ?_)
        · refine zz_iconst zd_14_103_58 ?_
          refine zz_istore_n [some (.ref 1079), some (zi 0)] zd_14_103_59 (by decide) rfl ?_
          refine zz_aload_n (x := 1079) rfl zd_14_103_60 ?_
          refine zz_getr (kd := 0) (z := 1118) zd_14_103_61 zf_Md_136 zT_1079 rfl (zz_ltn hn rfl) (zz_G.eq G_S12 1079 63 1118 rfl rfl) (by decide) 1118 rfl ?_
          refine zz_iconst zd_14_103_64 ?_
          have g17 := zz_G.r G_S12 1118 0 0 9999 rfl rfl
          refine zz_iald (z := S12 1118 0) zd_14_103_65 zT_1118 rfl (zz_ltn hn rfl) (by decide) (by decide) rfl ?_
          refine zz_istore_n [some (.ref 1079), some (zi 0), some (zi (S12 1118 0))] zd_14_103_66 (by decide) rfl ?_
          refine zz_aload_n (x := 1079) rfl zd_14_103_67 ?_
          refine zz_getr (kd := 0) (z := 1118) zd_14_103_68 zf_Md_136 zT_1079 rfl (zz_ltn hn rfl) (zz_G.eq G_S12 1079 63 1118 rfl rfl) (by decide) 1118 rfl ?_
          refine zz_iconst zd_14_103_71 ?_
          have g18 := zz_G.r G_S12 1118 1 0 9999 rfl rfl
          refine zz_iald (z := S12 1118 1) zd_14_103_72 zT_1118 rfl (zz_ltn hn rfl) (by decide) (by decide) rfl ?_
          refine zz_istore_n [some (.ref 1079), some (zi 0), some (zi (S12 1118 0)), some (zi (S12 1118 1))] zd_14_103_73 (by decide) rfl ?_
          refine zz_aload_n (x := 1079) rfl zd_14_103_74 ?_
          refine zz_getr (kd := 0) (z := 1118) zd_14_103_75 zf_Md_136 zT_1079 rfl (zz_ltn hn rfl) (zz_G.eq G_S12 1079 63 1118 rfl rfl) (by decide) 1118 rfl ?_
          refine zz_iconst zd_14_103_78 ?_
          have g19 := zz_G.r G_S12 1118 2 0 9999 rfl rfl
          refine zz_iald (z := S12 1118 2) zd_14_103_79 zT_1118 rfl (zz_ltn hn rfl) (by decide) (by decide) rfl ?_
          refine zz_istore [some (.ref 1079), some (zi 0), some (zi (S12 1118 0)), some (zi (S12 1118 1)), some (zi (S12 1118 2))] zd_14_103_80 (by decide) rfl ?_
          refine zz_aload_n (x := 1079) rfl zd_14_103_82 ?_
          refine zz_iconst zd_14_103_83 ?_
          refine zz_puti zd_14_103_84 zf_Md_85 zT_1079 rfl (zz_ltn hn rfl) (fun S20 qS20 => ?_)
          have G_S20 := zz_G.put G_S12 qS20 0 11 rfl (by omega)
          have F_S20 := zz_fr.puts F_S12 qS20 rfl
          refine zz_iload_n (x := 0) rfl zd_14_103_87 ?_
          refine zz_if_eq (by omega) zd_14_103_88 (fun c21 => ?_) (fun c21 => ?_)
          · refine zz_iconst zd_14_103_101 ?_
            exact zz_zret zd_14_103_102 rfl (by omega) (Nat.zero_le _) (Nat.zero_le _) ⟨_, _, rfl, G_S20, F_S20, by omega⟩
          · exfalso; omega
        · exfalso; omega
      · refine zz_if_eq (by omega) zd_14_103_21 (fun c22 => ?_) (fun c22 => ?_)
        · exfalso; omega
        · refine zz_aload_n (x := 1079) rfl zd_14_103_24 ?_
          have g23 := zz_G.r G_S12 1079 30 0 102 rfl rfl
          have g24 := zz_G.r G_S12 1079 32 0 1500 rfl rfl
          refine zz_callVI [] zd_14_103_25 zk_Md_553 zT_1079 (zz_ltn hn rfl) rfl rfl ⟨Nat.le_of_ble_eq_true rfl, Nat.le_of_ble_eq_true rfl⟩ ⟨rfl, rfl⟩ (Nat.zero_le _) (Nat.zero_le _) (zc_takeX_14_96  S12 n hn G_S12 ) (fun v26 S25 hP => ?_)
          obtain ⟨G_S25, fS25, o27, o28⟩ := hP
          have F_S25 := zz_fr.trans F_S12 fS25 rfl zz_nv
          rcases (by omega : v26 = 0 ∨ v26 = 1) with rfl | rfl
          · refine zz_if_eq (by omega) zd_14_103_28 (fun c29 => ?_) (fun c29 => ?_)
            · refine zz_iconst zd_14_103_58 ?_
              refine zz_istore_n [some (.ref 1079), some (zi 0)] zd_14_103_59 (by decide) rfl ?_
              refine zz_aload_n (x := 1079) rfl zd_14_103_60 ?_
              refine zz_getr (kd := 0) (z := 1118) zd_14_103_61 zf_Md_136 zT_1079 rfl (zz_ltn hn rfl) (zz_G.eq G_S25 1079 63 1118 rfl rfl) (by decide) 1118 rfl ?_
              refine zz_iconst zd_14_103_64 ?_
              have g30 := zz_G.r G_S12 1118 0 0 9999 rfl rfl
              refine zz_iald (z := S12 1118 0) zd_14_103_65 zT_1118 rfl (zz_ltn hn rfl) (by decide) (by decide) (zz_rc fS25 (zz_nc1 rfl) rfl (fun h => h) rfl) ?_
              refine zz_istore_n [some (.ref 1079), some (zi 0), some (zi (S12 1118 0))] zd_14_103_66 (by decide) rfl ?_
              refine zz_aload_n (x := 1079) rfl zd_14_103_67 ?_
              refine zz_getr (kd := 0) (z := 1118) zd_14_103_68 zf_Md_136 zT_1079 rfl (zz_ltn hn rfl) (zz_G.eq G_S25 1079 63 1118 rfl rfl) (by decide) 1118 rfl ?_
              refine zz_iconst zd_14_103_71 ?_
              have g31 := zz_G.r G_S12 1118 1 0 9999 rfl rfl
              refine zz_iald (z := S12 1118 1) zd_14_103_72 zT_1118 rfl (zz_ltn hn rfl) (by decide) (by decide) (zz_rc fS25 (zz_nc1 rfl) rfl (fun h => h) rfl) ?_
              refine zz_istore_n [some (.ref 1079), some (zi 0), some (zi (S12 1118 0)), some (zi (S12 1118 1))] zd_14_103_73 (by decide) rfl ?_
              refine zz_aload_n (x := 1079) rfl zd_14_103_74 ?_
              refine zz_getr (kd := 0) (z := 1118) zd_14_103_75 zf_Md_136 zT_1079 rfl (zz_ltn hn rfl) (zz_G.eq G_S25 1079 63 1118 rfl rfl) (by decide) 1118 rfl ?_
              refine zz_iconst zd_14_103_78 ?_
              have g32 := zz_G.r G_S12 1118 2 0 9999 rfl rfl
              refine zz_iald (z := S12 1118 2) zd_14_103_79 zT_1118 rfl (zz_ltn hn rfl) (by decide) (by decide) (zz_rc fS25 (zz_nc1 rfl) rfl (fun h => h) rfl) ?_
              refine zz_istore [some (.ref 1079), some (zi 0), some (zi (S12 1118 0)), some (zi (S12 1118 1)), some (zi (S12 1118 2))] zd_14_103_80 (by decide) rfl ?_
              refine zz_aload_n (x := 1079) rfl zd_14_103_82 ?_
              refine zz_iconst zd_14_103_83 ?_
              refine zz_puti zd_14_103_84 zf_Md_85 zT_1079 rfl (zz_ltn hn rfl) (fun S33 qS33 => ?_)
              have G_S33 := zz_G.put G_S25 qS33 0 11 rfl (by omega)
              have F_S33 := zz_fr.puts F_S25 qS33 rfl
              refine zz_iload_n (x := 0) rfl zd_14_103_87 ?_
              refine zz_if_eq (by omega) zd_14_103_88 (fun c34 => ?_) (fun c34 => ?_)
              · refine zz_iconst zd_14_103_101 ?_
                exact zz_zret zd_14_103_102 rfl (by omega) (Nat.zero_le _) (Nat.zero_le _) ⟨_, _, rfl, G_S33, F_S33, by omega⟩
              · exfalso; omega
            · exfalso; omega
          · refine zz_if_eq (by omega) zd_14_103_28 (fun c35 => ?_) (fun c35 => ?_)
            · exfalso; omega
            · refine zz_aload_n (x := 1079) rfl zd_14_103_31 ?_
              refine zz_iconst zd_14_103_32 ?_
              have g36 := zz_G.r G_S25 1079 30 0 102 rfl rfl
              have g37 := zz_G.r G_S25 1079 32 0 1500 rfl rfl
              refine zz_callVI [zi 1] zd_14_103_33 zk_Md_550 zT_1079 (zz_ltn hn rfl) rfl rfl ⟨Nat.le_of_ble_eq_true rfl, Nat.le_of_ble_eq_true rfl⟩ ⟨rfl, rfl⟩ (Nat.zero_le _) (Nat.zero_le _) (zc_takeNet_14_95 1 S25 n hn G_S25 (by omega)) (fun v39 S38 hP => ?_)
              obtain ⟨G_S38, fS38, o40, o41⟩ := hP
              have F_S38 := zz_fr.trans F_S25 fS38 rfl zz_nv
              rcases (by omega : v39 = 0 ∨ v39 = 1) with rfl | rfl
              · refine zz_if_eq (by omega) zd_14_103_36 (fun c42 => ?_) (fun c42 => ?_)
                · refine zz_iconst zd_14_103_58 ?_
                  refine zz_istore_n [some (.ref 1079), some (zi 0)] zd_14_103_59 (by decide) rfl ?_
                  refine zz_aload_n (x := 1079) rfl zd_14_103_60 ?_
                  refine zz_getr (kd := 0) (z := 1118) zd_14_103_61 zf_Md_136 zT_1079 rfl (zz_ltn hn rfl) (zz_G.eq G_S38 1079 63 1118 rfl rfl) (by decide) 1118 rfl ?_
                  refine zz_iconst zd_14_103_64 ?_
                  have g43 := zz_G.r G_S38 1118 0 0 9999 rfl rfl
                  refine zz_iald (z := S38 1118 0) zd_14_103_65 zT_1118 rfl (zz_ltn hn rfl) (by decide) (by decide) rfl ?_
                  refine zz_istore_n [some (.ref 1079), some (zi 0), some (zi (S38 1118 0))] zd_14_103_66 (by decide) rfl ?_
                  refine zz_aload_n (x := 1079) rfl zd_14_103_67 ?_
                  refine zz_getr (kd := 0) (z := 1118) zd_14_103_68 zf_Md_136 zT_1079 rfl (zz_ltn hn rfl) (zz_G.eq G_S38 1079 63 1118 rfl rfl) (by decide) 1118 rfl ?_
                  refine zz_iconst zd_14_103_71 ?_
                  have g44 := zz_G.r G_S38 1118 1 0 9999 rfl rfl
                  refine zz_iald (z := S38 1118 1) zd_14_103_72 zT_1118 rfl (zz_ltn hn rfl) (by decide) (by decide) rfl ?_
                  refine zz_istore_n [some (.ref 1079), some (zi 0), some (zi (S38 1118 0)), some (zi (S38 1118 1))] zd_14_103_73 (by decide) rfl ?_
                  refine zz_aload_n (x := 1079) rfl zd_14_103_74 ?_
                  refine zz_getr (kd := 0) (z := 1118) zd_14_103_75 zf_Md_136 zT_1079 rfl (zz_ltn hn rfl) (zz_G.eq G_S38 1079 63 1118 rfl rfl) (by decide) 1118 rfl ?_
                  refine zz_iconst zd_14_103_78 ?_
                  have g45 := zz_G.r G_S38 1118 2 0 9999 rfl rfl
                  refine zz_iald (z := S38 1118 2) zd_14_103_79 zT_1118 rfl (zz_ltn hn rfl) (by decide) (by decide) rfl ?_
                  refine zz_istore [some (.ref 1079), some (zi 0), some (zi (S38 1118 0)), some (zi (S38 1118 1)), some (zi (S38 1118 2))] zd_14_103_80 (by decide) rfl ?_
                  refine zz_aload_n (x := 1079) rfl zd_14_103_82 ?_
                  refine zz_iconst zd_14_103_83 ?_
                  refine zz_puti zd_14_103_84 zf_Md_85 zT_1079 rfl (zz_ltn hn rfl) (fun S46 qS46 => ?_)
                  have G_S46 := zz_G.put G_S38 qS46 0 11 rfl (by omega)
                  have F_S46 := zz_fr.puts F_S38 qS46 rfl
                  refine zz_iload_n (x := 0) rfl zd_14_103_87 ?_
                  refine zz_if_eq (by omega) zd_14_103_88 (fun c47 => ?_) (fun c47 => ?_)
                  · refine zz_iconst zd_14_103_101 ?_
                    exact zz_zret zd_14_103_102 rfl (by omega) (Nat.zero_le _) (Nat.zero_le _) ⟨_, _, rfl, G_S46, F_S46, by omega⟩
                  · exfalso; omega
                · exfalso; omega
              · refine zz_if_eq (by omega) zd_14_103_36 (fun c48 => ?_) (fun c48 => ?_)
                · exfalso; omega
                · refine zz_aload_n (x := 1079) rfl zd_14_103_39 ?_
                  have g49 := zz_G.r G_S38 1079 30 0 102 rfl rfl
                  have g50 := zz_G.r G_S38 1079 32 0 1500 rfl rfl
                  refine zz_callVI [] zd_14_103_40 zk_Md_553 zT_1079 (zz_ltn hn rfl) rfl rfl ⟨Nat.le_of_ble_eq_true rfl, Nat.le_of_ble_eq_true rfl⟩ ⟨rfl, rfl⟩ (Nat.zero_le _) (Nat.zero_le _) (zc_takeX_14_96  S38 n hn G_S38 ) (fun v52 S51 hP => ?_)
                  obtain ⟨G_S51, fS51, o53, o54⟩ := hP
                  have F_S51 := zz_fr.trans F_S38 fS51 rfl zz_nv
                  rcases (by omega : v52 = 0 ∨ v52 = 1) with rfl | rfl
                  · refine zz_if_eq (by omega) zd_14_103_43 (fun c55 => ?_) (fun c55 => ?_)
                    · refine zz_iconst zd_14_103_58 ?_
                      refine zz_istore_n [some (.ref 1079), some (zi 0)] zd_14_103_59 (by decide) rfl ?_
                      refine zz_aload_n (x := 1079) rfl zd_14_103_60 ?_
                      refine zz_getr (kd := 0) (z := 1118) zd_14_103_61 zf_Md_136 zT_1079 rfl (zz_ltn hn rfl) (zz_G.eq G_S51 1079 63 1118 rfl rfl) (by decide) 1118 rfl ?_
                      refine zz_iconst zd_14_103_64 ?_
                      have g56 := zz_G.r G_S38 1118 0 0 9999 rfl rfl
                      refine zz_iald (z := S38 1118 0) zd_14_103_65 zT_1118 rfl (zz_ltn hn rfl) (by decide) (by decide) (zz_rc fS51 (zz_nc1 rfl) rfl (fun h => h) rfl) ?_
                      refine zz_istore_n [some (.ref 1079), some (zi 0), some (zi (S38 1118 0))] zd_14_103_66 (by decide) rfl ?_
                      refine zz_aload_n (x := 1079) rfl zd_14_103_67 ?_
                      refine zz_getr (kd := 0) (z := 1118) zd_14_103_68 zf_Md_136 zT_1079 rfl (zz_ltn hn rfl) (zz_G.eq G_S51 1079 63 1118 rfl rfl) (by decide) 1118 rfl ?_
                      refine zz_iconst zd_14_103_71 ?_
                      have g57 := zz_G.r G_S38 1118 1 0 9999 rfl rfl
                      refine zz_iald (z := S38 1118 1) zd_14_103_72 zT_1118 rfl (zz_ltn hn rfl) (by decide) (by decide) (zz_rc fS51 (zz_nc1 rfl) rfl (fun h => h) rfl) ?_
                      refine zz_istore_n [some (.ref 1079), some (zi 0), some (zi (S38 1118 0)), some (zi (S38 1118 1))] zd_14_103_73 (by decide) rfl ?_
                      refine zz_aload_n (x := 1079) rfl zd_14_103_74 ?_
                      refine zz_getr (kd := 0) (z := 1118) zd_14_103_75 zf_Md_136 zT_1079 rfl (zz_ltn hn rfl) (zz_G.eq G_S51 1079 63 1118 rfl rfl) (by decide) 1118 rfl ?_
                      refine zz_iconst zd_14_103_78 ?_
                      have g58 := zz_G.r G_S38 1118 2 0 9999 rfl rfl
                      refine zz_iald (z := S38 1118 2) zd_14_103_79 zT_1118 rfl (zz_ltn hn rfl) (by decide) (by decide) (zz_rc fS51 (zz_nc1 rfl) rfl (fun h => h) rfl) ?_
                      refine zz_istore [some (.ref 1079), some (zi 0), some (zi (S38 1118 0)), some (zi (S38 1118 1)), some (zi (S38 1118 2))] zd_14_103_80 (by decide) rfl ?_
                      refine zz_aload_n (x := 1079) rfl zd_14_103_82 ?_
                      refine zz_iconst zd_14_103_83 ?_
                      refine zz_puti zd_14_103_84 zf_Md_85 zT_1079 rfl (zz_ltn hn rfl) (fun S59 qS59 => ?_)
                      have G_S59 := zz_G.put G_S51 qS59 0 11 rfl (by omega)
                      have F_S59 := zz_fr.puts F_S51 qS59 rfl
                      refine zz_iload_n (x := 0) rfl zd_14_103_87 ?_
                      refine zz_if_eq (by omega) zd_14_103_88 (fun c60 => ?_) (fun c60 => ?_)
                      · refine zz_iconst zd_14_103_101 ?_
                        exact zz_zret zd_14_103_102 rfl (by omega) (Nat.zero_le _) (Nat.zero_le _) ⟨_, _, rfl, G_S59, F_S59, by omega⟩
                      · exfalso; omega
                    · exfalso; omega
                  · refine zz_if_eq (by omega) zd_14_103_43 (fun c61 => ?_) (fun c61 => ?_)
                    · exfalso; omega
                    · refine zz_aload_n (x := 1079) rfl zd_14_103_46 ?_
                      refine zz_iconst zd_14_103_47 ?_
                      have g62 := zz_G.r G_S51 1079 30 0 102 rfl rfl
                      have g63 := zz_G.r G_S51 1079 32 0 1500 rfl rfl
                      refine zz_callVI [zi 2] zd_14_103_48 zk_Md_550 zT_1079 (zz_ltn hn rfl) rfl rfl ⟨Nat.le_of_ble_eq_true rfl, Nat.le_of_ble_eq_true rfl⟩ ⟨rfl, rfl⟩ (Nat.zero_le _) (Nat.zero_le _) (zc_takeNet_14_95 2 S51 n hn G_S51 (by omega)) (fun v65 S64 hP => ?_)
                      obtain ⟨G_S64, fS64, o66, o67⟩ := hP
                      have F_S64 := zz_fr.trans F_S51 fS64 rfl zz_nv
                      rcases (by omega : v65 = 0 ∨ v65 = 1) with rfl | rfl
                      · refine zz_if_eq (by omega) zd_14_103_51 (fun c68 => ?_) (fun c68 => ?_)
                        · refine zz_iconst zd_14_103_58 ?_
                          refine zz_istore_n [some (.ref 1079), some (zi 0)] zd_14_103_59 (by decide) rfl ?_
                          refine zz_aload_n (x := 1079) rfl zd_14_103_60 ?_
                          refine zz_getr (kd := 0) (z := 1118) zd_14_103_61 zf_Md_136 zT_1079 rfl (zz_ltn hn rfl) (zz_G.eq G_S64 1079 63 1118 rfl rfl) (by decide) 1118 rfl ?_
                          refine zz_iconst zd_14_103_64 ?_
                          have g69 := zz_G.r G_S64 1118 0 0 9999 rfl rfl
                          refine zz_iald (z := S64 1118 0) zd_14_103_65 zT_1118 rfl (zz_ltn hn rfl) (by decide) (by decide) rfl ?_
                          refine zz_istore_n [some (.ref 1079), some (zi 0), some (zi (S64 1118 0))] zd_14_103_66 (by decide) rfl ?_
                          refine zz_aload_n (x := 1079) rfl zd_14_103_67 ?_
                          refine zz_getr (kd := 0) (z := 1118) zd_14_103_68 zf_Md_136 zT_1079 rfl (zz_ltn hn rfl) (zz_G.eq G_S64 1079 63 1118 rfl rfl) (by decide) 1118 rfl ?_
                          refine zz_iconst zd_14_103_71 ?_
                          have g70 := zz_G.r G_S64 1118 1 0 9999 rfl rfl
                          refine zz_iald (z := S64 1118 1) zd_14_103_72 zT_1118 rfl (zz_ltn hn rfl) (by decide) (by decide) rfl ?_
                          refine zz_istore_n [some (.ref 1079), some (zi 0), some (zi (S64 1118 0)), some (zi (S64 1118 1))] zd_14_103_73 (by decide) rfl ?_
                          refine zz_aload_n (x := 1079) rfl zd_14_103_74 ?_
                          refine zz_getr (kd := 0) (z := 1118) zd_14_103_75 zf_Md_136 zT_1079 rfl (zz_ltn hn rfl) (zz_G.eq G_S64 1079 63 1118 rfl rfl) (by decide) 1118 rfl ?_
                          refine zz_iconst zd_14_103_78 ?_
                          have g71 := zz_G.r G_S64 1118 2 0 9999 rfl rfl
                          refine zz_iald (z := S64 1118 2) zd_14_103_79 zT_1118 rfl (zz_ltn hn rfl) (by decide) (by decide) rfl ?_
                          refine zz_istore [some (.ref 1079), some (zi 0), some (zi (S64 1118 0)), some (zi (S64 1118 1)), some (zi (S64 1118 2))] zd_14_103_80 (by decide) rfl ?_
                          refine zz_aload_n (x := 1079) rfl zd_14_103_82 ?_
                          refine zz_iconst zd_14_103_83 ?_
                          refine zz_puti zd_14_103_84 zf_Md_85 zT_1079 rfl (zz_ltn hn rfl) (fun S72 qS72 => ?_)
                          have G_S72 := zz_G.put G_S64 qS72 0 11 rfl (by omega)
                          have F_S72 := zz_fr.puts F_S64 qS72 rfl
                          refine zz_iload_n (x := 0) rfl zd_14_103_87 ?_
                          refine zz_if_eq (by omega) zd_14_103_88 (fun c73 => ?_) (fun c73 => ?_)
                          · refine zz_iconst zd_14_103_101 ?_
                            exact zz_zret zd_14_103_102 rfl (by omega) (Nat.zero_le _) (Nat.zero_le _) ⟨_, _, rfl, G_S72, F_S72, by omega⟩
                          · exfalso; omega
                        · exfalso; omega
                      · refine zz_if_eq (by omega) zd_14_103_51 (fun c74 => ?_) (fun c74 => ?_)
                        · exfalso; omega
                        · refine zz_iconst zd_14_103_54 ?_
                          refine zz_goto zd_14_103_55 ?_
                          refine zz_istore_n [some (.ref 1079), some (zi 1)] zd_14_103_59 (by decide) rfl ?_
                          refine zz_aload_n (x := 1079) rfl zd_14_103_60 ?_
                          refine zz_getr (kd := 0) (z := 1118) zd_14_103_61 zf_Md_136 zT_1079 rfl (zz_ltn hn rfl) (zz_G.eq G_S64 1079 63 1118 rfl rfl) (by decide) 1118 rfl ?_
                          refine zz_iconst zd_14_103_64 ?_
                          have g75 := zz_G.r G_S64 1118 0 0 9999 rfl rfl
                          refine zz_iald (z := S64 1118 0) zd_14_103_65 zT_1118 rfl (zz_ltn hn rfl) (by decide) (by decide) rfl ?_
                          refine zz_istore_n [some (.ref 1079), some (zi 1), some (zi (S64 1118 0))] zd_14_103_66 (by decide) rfl ?_
                          refine zz_aload_n (x := 1079) rfl zd_14_103_67 ?_
                          refine zz_getr (kd := 0) (z := 1118) zd_14_103_68 zf_Md_136 zT_1079 rfl (zz_ltn hn rfl) (zz_G.eq G_S64 1079 63 1118 rfl rfl) (by decide) 1118 rfl ?_
                          refine zz_iconst zd_14_103_71 ?_
                          have g76 := zz_G.r G_S64 1118 1 0 9999 rfl rfl
                          refine zz_iald (z := S64 1118 1) zd_14_103_72 zT_1118 rfl (zz_ltn hn rfl) (by decide) (by decide) rfl ?_
                          refine zz_istore_n [some (.ref 1079), some (zi 1), some (zi (S64 1118 0)), some (zi (S64 1118 1))] zd_14_103_73 (by decide) rfl ?_
                          refine zz_aload_n (x := 1079) rfl zd_14_103_74 ?_
                          refine zz_getr (kd := 0) (z := 1118) zd_14_103_75 zf_Md_136 zT_1079 rfl (zz_ltn hn rfl) (zz_G.eq G_S64 1079 63 1118 rfl rfl) (by decide) 1118 rfl ?_
                          refine zz_iconst zd_14_103_78 ?_
                          have g77 := zz_G.r G_S64 1118 2 0 9999 rfl rfl
                          refine zz_iald (z := S64 1118 2) zd_14_103_79 zT_1118 rfl (zz_ltn hn rfl) (by decide) (by decide) rfl ?_
                          refine zz_istore [some (.ref 1079), some (zi 1), some (zi (S64 1118 0)), some (zi (S64 1118 1)), some (zi (S64 1118 2))] zd_14_103_80 (by decide) rfl ?_
                          refine zz_aload_n (x := 1079) rfl zd_14_103_82 ?_
                          refine zz_iconst zd_14_103_83 ?_
                          refine zz_puti zd_14_103_84 zf_Md_85 zT_1079 rfl (zz_ltn hn rfl) (fun S78 qS78 => ?_)
                          have G_S78 := zz_G.put G_S64 qS78 0 11 rfl (by omega)
                          have F_S78 := zz_fr.puts F_S64 qS78 rfl
                          refine zz_iload_n (x := 1) rfl zd_14_103_87 ?_
                          refine zz_if_eq (by omega) zd_14_103_88 (fun c79 => ?_) (fun c79 => ?_)
                          · exfalso; omega
                          · refine zz_aload_n (x := 1079) rfl zd_14_103_91 ?_
                            refine zz_sipush (by decide) zd_14_103_92 ?_
                            refine zz_callVI [zi 128] zd_14_103_95 zk_Md_576 zT_1079 (zz_ltn hn rfl) rfl rfl ⟨Nat.le_of_ble_eq_true rfl, Nat.le_of_ble_eq_true rfl⟩ ⟨rfl, rfl⟩ (Nat.zero_le _) (Nat.zero_le _) (zc_takeParts_14_101 128 S78 n hn G_S78 (by omega)) (fun v81 S80 hP => ?_)
                            obtain ⟨G_S80, fS80, o82⟩ := hP
                            have F_S80 := zz_fr.trans F_S78 fS80 rfl zz_nv
                            rcases (by omega : v81 = 0 ∨ v81 = 1) with rfl | rfl
                            · refine zz_if_ne (by omega) zd_14_103_98 (fun c83 => ?_) (fun c83 => ?_)
                              · exfalso; omega
                              · refine zz_iconst zd_14_103_101 ?_
                                exact zz_zret zd_14_103_102 rfl (by omega) (Nat.zero_le _) (Nat.zero_le _) ⟨_, _, rfl, G_S80, F_S80, by omega⟩
                            · refine zz_if_ne (by omega) zd_14_103_98 (fun c84 => ?_) (fun c84 => ?_)
                              · refine zz_aload_n (x := 1079) rfl zd_14_103_103 ?_
                                refine zz_iload_n (x := S64 1118 0) rfl zd_14_103_104 ?_
                                refine zz_iload_n (x := S64 1118 1) rfl zd_14_103_105 ?_
                                refine zz_iload (x := S64 1118 2) rfl zd_14_103_106 ?_
                                refine zz_callVV [zi (S64 1118 0), zi (S64 1118 1), zi (S64 1118 2)] zd_14_103_108 zk_Md_579 zT_1079 (zz_ltn hn rfl) rfl rfl ⟨Nat.le_of_ble_eq_true rfl, Nat.le_of_ble_eq_true rfl⟩ ⟨rfl, rfl⟩ (Nat.zero_le _) (Nat.zero_le _) (zc_input_14_63 (S64 1118 0) (S64 1118 1) (S64 1118 2) S80 n hn G_S80 (by omega) (by omega) (by omega)) (fun S85 hP => ?_)
                                obtain ⟨G_S85, fS85⟩ := hP
                                have F_S85 := zz_fr.trans F_S80 fS85 rfl zz_nv
                                refine zz_aload_n (x := 1079) rfl zd_14_103_111 ?_
                                refine zz_getr (kd := 0) (z := 1117) zd_14_103_112 zf_Md_133 zT_1079 rfl (zz_ltn hn rfl) (zz_G.eq G_S85 1079 62 1117 rfl rfl) (by decide) 1117 rfl ?_
                                refine zz_iconst zd_14_103_115 ?_
                                refine zz_aload_n (x := 1079) rfl zd_14_103_116 ?_
                                have g87 := zz_G.r G_S80 1079 64 (-9223372036854775808) 9223372036854775807 rfl rfl
                                refine zz_getl (z := S80 1079 64) zd_14_103_117 zf_Md_564 zT_1079 rfl (zz_ltn hn rfl) (zz_rc fS85 rfl rfl (fun h => h) rfl) ?_
                                refine zz_last zd_14_103_120 zT_1117 rfl (zz_ltn hn rfl) (by decide) (by decide) (fun S88 qS88 => ?_)
                                have G_S88 := zz_G.put G_S85 qS88 (-9223372036854775808) 9223372036854775807 rfl (by omega)
                                have F_S88 := zz_fr.putc F_S85 qS88 rfl
                                refine zz_aload_n (x := 1079) rfl zd_14_103_121 ?_
                                have g89 := zz_G.r G_S85 1079 0 0 3 rfl rfl
                                refine zz_geti (z := S85 1079 0) zd_14_103_122 zf_Md_187 zT_1079 rfl (zz_ltn hn rfl) (zz_ro qS88 (fun h => absurd h.1 (by decide)) rfl) ?_
                                refine zz_if_ne (by omega) zd_14_103_125 (fun c90 => ?_) (fun c90 => ?_)
                                · refine zz_iconst zd_14_103_132 ?_
                                  exact zz_zret zd_14_103_133 rfl (by omega) (Nat.zero_le _) (Nat.zero_le _) ⟨_, _, rfl, G_S88, F_S88, by omega⟩
                                · refine zz_iconst zd_14_103_128 ?_
                                  refine zz_goto zd_14_103_129 ?_
                                  exact zz_zret zd_14_103_133 rfl (by omega) (Nat.zero_le _) (Nat.zero_le _) ⟨_, _, rfl, G_S88, F_S88, by omega⟩
                              · exfalso; omega
    · exfalso; omega
abbrev zy_readLayer_14_104 : mm_Y := (⟨"TensorForgeModel", "readLayer", "()Z"⟩, prog_14_method_104_code, 9, (some .boolean))
theorem zyw_readLayer_14_104 : mm_Yw zy_readLayer_14_104 0 := ⟨mm_tb_1 2203 (by decide +kernel) rfl, mm_tb_1 12 (by decide +kernel) rfl, ⟨by decide, by decide⟩, by decide +kernel⟩
theorem zd_14_104_0 : zz_D zy_readLayer_14_104 0 (.aload_n 0) 1 1 := ⟨by decide +kernel, rfl⟩
theorem zd_14_104_1 : zz_D zy_readLayer_14_104 1 (.ldc2_w 534) 3 4 := ⟨by decide +kernel, rfl⟩
theorem zd_14_104_4 : zz_D zy_readLayer_14_104 4 (.invokevirtual 529) 3 7 := ⟨by decide +kernel, rfl⟩
theorem zd_14_104_7 : zz_D zy_readLayer_14_104 7 (.istore_n 1) 1 8 := ⟨by decide +kernel, rfl⟩
theorem zd_14_104_8 : zz_D zy_readLayer_14_104 8 (.aload_n 0) 1 9 := ⟨by decide +kernel, rfl⟩
theorem zd_14_104_9 : zz_D zy_readLayer_14_104 9 (.ldc2_w 536) 3 12 := ⟨by decide +kernel, rfl⟩
theorem zd_14_104_12 : zz_D zy_readLayer_14_104 12 (.invokevirtual 529) 3 15 := ⟨by decide +kernel, rfl⟩
theorem zd_14_104_15 : zz_D zy_readLayer_14_104 15 (.istore_n 2) 1 16 := ⟨by decide +kernel, rfl⟩
theorem zd_14_104_16 : zz_D zy_readLayer_14_104 16 (.iload_n 1) 1 17 := ⟨by decide +kernel, rfl⟩
theorem zd_14_104_17 : zz_B zy_readLayer_14_104 17 (Instr.ifCond .ne) 36 20 := ⟨19, by decide +kernel, rfl, rfl⟩
theorem zd_14_104_20 : zz_D zy_readLayer_14_104 20 (.iload_n 2) 1 21 := ⟨by decide +kernel, rfl⟩
theorem zd_14_104_21 : zz_B zy_readLayer_14_104 21 (Instr.ifCond .ne) 36 24 := ⟨15, by decide +kernel, rfl, rfl⟩
theorem zd_14_104_24 : zz_D zy_readLayer_14_104 24 (.aload_n 0) 1 25 := ⟨by decide +kernel, rfl⟩
theorem zd_14_104_25 : zz_D zy_readLayer_14_104 25 (.ldc2_w 538) 3 28 := ⟨by decide +kernel, rfl⟩
theorem zd_14_104_28 : zz_D zy_readLayer_14_104 28 (.invokevirtual 529) 3 31 := ⟨by decide +kernel, rfl⟩
theorem zd_14_104_31 : zz_B zy_readLayer_14_104 31 (Instr.ifCond .ne) 36 34 := ⟨5, by decide +kernel, rfl, rfl⟩
theorem zd_14_104_34 : zz_D zy_readLayer_14_104 34 (.iconst 0) 1 35 := ⟨by decide +kernel, rfl⟩
theorem zd_14_104_35 : zz_D zy_readLayer_14_104 35 (.ireturn) 1 36 := ⟨by decide +kernel, rfl⟩
theorem zd_14_104_36 : zz_D zy_readLayer_14_104 36 (.aload_n 0) 1 37 := ⟨by decide +kernel, rfl⟩
theorem zd_14_104_37 : zz_D zy_readLayer_14_104 37 (.invokevirtual 526) 3 40 := ⟨by decide +kernel, rfl⟩
theorem zd_14_104_40 : zz_D zy_readLayer_14_104 40 (.aload_n 0) 1 41 := ⟨by decide +kernel, rfl⟩
theorem zd_14_104_41 : zz_D zy_readLayer_14_104 41 (.invokevirtual 582) 3 44 := ⟨by decide +kernel, rfl⟩
theorem zk_Md_582 : mm_Vl "TensorForgeModel" 582 11 0 zy_takeTensor_14_102 := ⟨zyw_takeTensor_14_102, (R_Md, F_Md, 69), rfl, mm_tb_1 2211 (by decide +kernel) rfl, mm_tb_1 2213 (by decide +kernel) rfl, mm_tb_s 143 (by decide +kernel) rfl⟩
theorem zd_14_104_44 : zz_D zy_readLayer_14_104 44 (.istore_n 3) 1 45 := ⟨by decide +kernel, rfl⟩
theorem zd_14_104_45 : zz_D zy_readLayer_14_104 45 (.iload_n 1) 1 46 := ⟨by decide +kernel, rfl⟩
theorem zd_14_104_46 : zz_B zy_readLayer_14_104 46 (Instr.ifCond .ne) 64 49 := ⟨18, by decide +kernel, rfl, rfl⟩
theorem zd_14_104_49 : zz_D zy_readLayer_14_104 49 (.iload_n 2) 1 50 := ⟨by decide +kernel, rfl⟩
theorem zd_14_104_50 : zz_B zy_readLayer_14_104 50 (Instr.ifCond .ne) 64 53 := ⟨14, by decide +kernel, rfl, rfl⟩
theorem zd_14_104_53 : zz_D zy_readLayer_14_104 53 (.iload_n 3) 1 54 := ⟨by decide +kernel, rfl⟩
theorem zd_14_104_54 : zz_B zy_readLayer_14_104 54 (Instr.ifCond .lt) 64 57 := ⟨10, by decide +kernel, rfl, rfl⟩
theorem zd_14_104_64 : zz_D zy_readLayer_14_104 64 (.iconst 0) 1 65 := ⟨by decide +kernel, rfl⟩
theorem zd_14_104_65 : zz_D zy_readLayer_14_104 65 (.istore 4) 2 67 := ⟨by decide +kernel, rfl⟩
theorem zd_14_104_67 : zz_D zy_readLayer_14_104 67 (.iload_n 3) 1 68 := ⟨by decide +kernel, rfl⟩
theorem zd_14_104_68 : zz_B zy_readLayer_14_104 68 (Instr.ifCond .lt) 106 71 := ⟨38, by decide +kernel, rfl, rfl⟩
theorem zd_14_104_106 : zz_D zy_readLayer_14_104 106 (.iconst 0) 1 107 := ⟨by decide +kernel, rfl⟩
theorem zd_14_104_107 : zz_D zy_readLayer_14_104 107 (.ireturn) 1 108 := ⟨by decide +kernel, rfl⟩
theorem zd_14_104_57 : zz_D zy_readLayer_14_104 57 (.aload_n 0) 1 58 := ⟨by decide +kernel, rfl⟩
theorem zd_14_104_58 : zz_D zy_readLayer_14_104 58 (.invokevirtual 582) 3 61 := ⟨by decide +kernel, rfl⟩
theorem zd_14_104_61 : zz_B zy_readLayer_14_104 61 Instr.goto 65 64 := ⟨4, by decide +kernel, rfl, rfl⟩
theorem zd_14_104_71 : zz_D zy_readLayer_14_104 71 (.iload 4) 2 73 := ⟨by decide +kernel, rfl⟩
theorem zd_14_104_73 : zz_B zy_readLayer_14_104 73 (Instr.ifCond .lt) 106 76 := ⟨33, by decide +kernel, rfl, rfl⟩
theorem zd_14_104_76 : zz_D zy_readLayer_14_104 76 (.aload_n 0) 1 77 := ⟨by decide +kernel, rfl⟩
theorem zd_14_104_77 : zz_D zy_readLayer_14_104 77 (.iload_n 1) 1 78 := ⟨by decide +kernel, rfl⟩
theorem zd_14_104_78 : zz_B zy_readLayer_14_104 78 (Instr.ifCond .eq) 87 81 := ⟨9, by decide +kernel, rfl, rfl⟩
theorem zd_14_104_87 : zz_D zy_readLayer_14_104 87 (.iload_n 2) 1 88 := ⟨by decide +kernel, rfl⟩
theorem zd_14_104_88 : zz_B zy_readLayer_14_104 88 (Instr.ifCond .eq) 97 91 := ⟨9, by decide +kernel, rfl, rfl⟩
theorem zd_14_104_97 : zz_D zy_readLayer_14_104 97 (.sipush 224) 3 100 := ⟨by decide +kernel, rfl⟩
theorem zd_14_104_100 : zz_D zy_readLayer_14_104 100 (.invokevirtual 576) 3 103 := ⟨by decide +kernel, rfl⟩
theorem zd_14_104_103 : zz_B zy_readLayer_14_104 103 (Instr.ifCond .ne) 108 106 := ⟨5, by decide +kernel, rfl, rfl⟩
theorem zd_14_104_108 : zz_D zy_readLayer_14_104 108 (.aload_n 0) 1 109 := ⟨by decide +kernel, rfl⟩
theorem zd_14_104_109 : zz_D zy_readLayer_14_104 109 (.getfield 136) 3 112 := ⟨by decide +kernel, rfl⟩
theorem zd_14_104_112 : zz_D zy_readLayer_14_104 112 (.bipush 6) 2 114 := ⟨by decide +kernel, rfl⟩
theorem zd_14_104_114 : zz_D zy_readLayer_14_104 114 (.iaload) 1 115 := ⟨by decide +kernel, rfl⟩
theorem zd_14_104_115 : zz_D zy_readLayer_14_104 115 (.bipush 16) 2 117 := ⟨by decide +kernel, rfl⟩
theorem zd_14_104_117 : zz_D zy_readLayer_14_104 117 (.aload_n 0) 1 118 := ⟨by decide +kernel, rfl⟩
theorem zd_14_104_118 : zz_D zy_readLayer_14_104 118 (.getfield 136) 3 121 := ⟨by decide +kernel, rfl⟩
theorem zd_14_104_121 : zz_D zy_readLayer_14_104 121 (.bipush 7) 2 123 := ⟨by decide +kernel, rfl⟩
theorem zd_14_104_123 : zz_D zy_readLayer_14_104 123 (.iaload) 1 124 := ⟨by decide +kernel, rfl⟩
theorem zd_14_104_124 : zz_D zy_readLayer_14_104 124 (.imul) 1 125 := ⟨by decide +kernel, rfl⟩
theorem zd_14_104_125 : zz_D zy_readLayer_14_104 125 (.iadd) 1 126 := ⟨by decide +kernel, rfl⟩
theorem zd_14_104_126 : zz_D zy_readLayer_14_104 126 (.istore 5) 2 128 := ⟨by decide +kernel, rfl⟩
theorem zd_14_104_128 : zz_D zy_readLayer_14_104 128 (.bipush 10) 2 130 := ⟨by decide +kernel, rfl⟩
theorem zd_14_104_130 : zz_D zy_readLayer_14_104 130 (.aload_n 0) 1 131 := ⟨by decide +kernel, rfl⟩
theorem zd_14_104_131 : zz_D zy_readLayer_14_104 131 (.getfield 136) 3 134 := ⟨by decide +kernel, rfl⟩
theorem zd_14_104_134 : zz_D zy_readLayer_14_104 134 (.iconst 0) 1 135 := ⟨by decide +kernel, rfl⟩
theorem zd_14_104_135 : zz_D zy_readLayer_14_104 135 (.iaload) 1 136 := ⟨by decide +kernel, rfl⟩
theorem zd_14_104_136 : zz_D zy_readLayer_14_104 136 (.imul) 1 137 := ⟨by decide +kernel, rfl⟩
theorem zd_14_104_137 : zz_D zy_readLayer_14_104 137 (.aload_n 0) 1 138 := ⟨by decide +kernel, rfl⟩
theorem zd_14_104_138 : zz_D zy_readLayer_14_104 138 (.getfield 136) 3 141 := ⟨by decide +kernel, rfl⟩
theorem zd_14_104_141 : zz_D zy_readLayer_14_104 141 (.iconst 1) 1 142 := ⟨by decide +kernel, rfl⟩
theorem zd_14_104_142 : zz_D zy_readLayer_14_104 142 (.iaload) 1 143 := ⟨by decide +kernel, rfl⟩
theorem zd_14_104_143 : zz_D zy_readLayer_14_104 143 (.iadd) 1 144 := ⟨by decide +kernel, rfl⟩
theorem zd_14_104_144 : zz_D zy_readLayer_14_104 144 (.istore 6) 2 146 := ⟨by decide +kernel, rfl⟩
theorem zd_14_104_146 : zz_D zy_readLayer_14_104 146 (.aload_n 0) 1 147 := ⟨by decide +kernel, rfl⟩
theorem zd_14_104_147 : zz_D zy_readLayer_14_104 147 (.getfield 136) 3 150 := ⟨by decide +kernel, rfl⟩
theorem zd_14_104_150 : zz_D zy_readLayer_14_104 150 (.iconst 0) 1 151 := ⟨by decide +kernel, rfl⟩
theorem zd_14_104_151 : zz_D zy_readLayer_14_104 151 (.iaload) 1 152 := ⟨by decide +kernel, rfl⟩
theorem zd_14_104_152 : zz_D zy_readLayer_14_104 152 (.i2l) 1 153 := ⟨by decide +kernel, rfl⟩
theorem zd_14_104_153 : zz_D zy_readLayer_14_104 153 (.lconst 1) 1 154 := ⟨by decide +kernel, rfl⟩
theorem zd_14_104_154 : zz_D zy_readLayer_14_104 154 (.ldc2_w 416) 3 157 := ⟨by decide +kernel, rfl⟩
theorem zd_14_104_157 : zz_D zy_readLayer_14_104 157 (.invokestatic 192) 3 160 := ⟨by decide +kernel, rfl⟩
theorem zd_14_104_160 : zz_B zy_readLayer_14_104 160 (Instr.ifCond .eq) 184 163 := ⟨24, by decide +kernel, rfl, rfl⟩
theorem zd_14_104_184 : zz_D zy_readLayer_14_104 184 (.iconst 0) 1 185 := ⟨by decide +kernel, rfl⟩
theorem zd_14_104_185 : zz_D zy_readLayer_14_104 185 (.istore 7) 2 187 := ⟨by decide +kernel, rfl⟩
theorem zd_14_104_187 : zz_D zy_readLayer_14_104 187 (.iconst (-1)) 1 188 := ⟨by decide +kernel, rfl⟩
theorem zd_14_104_188 : zz_D zy_readLayer_14_104 188 (.istore 8) 2 190 := ⟨by decide +kernel, rfl⟩
theorem zd_14_104_190 : zz_D zy_readLayer_14_104 190 (.iload_n 1) 1 191 := ⟨by decide +kernel, rfl⟩
theorem zd_14_104_191 : zz_B zy_readLayer_14_104 191 (Instr.ifCond .eq) 299 194 := ⟨108, by decide +kernel, rfl, rfl⟩
theorem zd_14_104_299 : zz_D zy_readLayer_14_104 299 (.iload_n 2) 1 300 := ⟨by decide +kernel, rfl⟩
theorem zd_14_104_300 : zz_B zy_readLayer_14_104 300 (Instr.ifCond .eq) 337 303 := ⟨37, by decide +kernel, rfl, rfl⟩
theorem zd_14_104_337 : zz_D zy_readLayer_14_104 337 (.aload_n 0) 1 338 := ⟨by decide +kernel, rfl⟩
theorem zd_14_104_338 : zz_D zy_readLayer_14_104 338 (.getfield 136) 3 341 := ⟨by decide +kernel, rfl⟩
theorem zd_14_104_341 : zz_D zy_readLayer_14_104 341 (.bipush 6) 2 343 := ⟨by decide +kernel, rfl⟩
theorem zd_14_104_343 : zz_D zy_readLayer_14_104 343 (.iaload) 1 344 := ⟨by decide +kernel, rfl⟩
theorem zd_14_104_344 : zz_D zy_readLayer_14_104 344 (.bipush 15) 2 346 := ⟨by decide +kernel, rfl⟩
theorem zd_14_104_346 : zz_B zy_readLayer_14_104 346 (Instr.if_icmp .le) 351 349 := ⟨5, by decide +kernel, rfl, rfl⟩
theorem zd_14_104_351 : zz_D zy_readLayer_14_104 351 (.aload_n 0) 1 352 := ⟨by decide +kernel, rfl⟩
theorem zd_14_104_352 : zz_D zy_readLayer_14_104 352 (.iload_n 3) 1 353 := ⟨by decide +kernel, rfl⟩
theorem zd_14_104_353 : zz_D zy_readLayer_14_104 353 (.iload 4) 2 355 := ⟨by decide +kernel, rfl⟩
theorem zd_14_104_355 : zz_D zy_readLayer_14_104 355 (.iload 5) 2 357 := ⟨by decide +kernel, rfl⟩
theorem zd_14_104_357 : zz_D zy_readLayer_14_104 357 (.invokevirtual 592) 3 360 := ⟨by decide +kernel, rfl⟩
theorem zk_Md_592 : mm_Vl "TensorForgeModel" 592 11 3 zy_addition_14_70 := ⟨zyw_addition_14_70, (R_Md, F_Md, 69), rfl, mm_tb_1 2251 (by decide +kernel) rfl, mm_tb_1 2106 (by decide +kernel) rfl, mm_tb_1 2107 (by decide +kernel) rfl⟩
theorem zd_14_104_360 : zz_D zy_readLayer_14_104 360 (.istore 8) 2 362 := ⟨by decide +kernel, rfl⟩
theorem zd_14_104_362 : zz_D zy_readLayer_14_104 362 (.aload_n 0) 1 363 := ⟨by decide +kernel, rfl⟩
theorem zd_14_104_363 : zz_D zy_readLayer_14_104 363 (.getfield 187) 3 366 := ⟨by decide +kernel, rfl⟩
theorem zd_14_104_366 : zz_B zy_readLayer_14_104 366 (Instr.ifCond .le) 371 369 := ⟨5, by decide +kernel, rfl, rfl⟩
theorem zd_14_104_371 : zz_D zy_readLayer_14_104 371 (.aload_n 0) 1 372 := ⟨by decide +kernel, rfl⟩
theorem zd_14_104_372 : zz_D zy_readLayer_14_104 372 (.getfield 133) 3 375 := ⟨by decide +kernel, rfl⟩
theorem zd_14_104_375 : zz_D zy_readLayer_14_104 375 (.iload 8) 2 377 := ⟨by decide +kernel, rfl⟩
theorem zd_14_104_377 : zz_D zy_readLayer_14_104 377 (.aload_n 0) 1 378 := ⟨by decide +kernel, rfl⟩
theorem zd_14_104_378 : zz_D zy_readLayer_14_104 378 (.getfield 564) 3 381 := ⟨by decide +kernel, rfl⟩
theorem zd_14_104_381 : zz_D zy_readLayer_14_104 381 (.lastore) 1 382 := ⟨by decide +kernel, rfl⟩
theorem zd_14_104_382 : zz_D zy_readLayer_14_104 382 (.iconst 1) 1 383 := ⟨by decide +kernel, rfl⟩
theorem zd_14_104_383 : zz_D zy_readLayer_14_104 383 (.ireturn) 1 384 := ⟨by decide +kernel, rfl⟩
theorem zd_14_104_369 : zz_D zy_readLayer_14_104 369 (.iconst 0) 1 370 := ⟨by decide +kernel, rfl⟩
theorem zd_14_104_370 : zz_D zy_readLayer_14_104 370 (.ireturn) 1 371 := ⟨by decide +kernel, rfl⟩
theorem zd_14_104_349 : zz_D zy_readLayer_14_104 349 (.iconst 0) 1 350 := ⟨by decide +kernel, rfl⟩
theorem zd_14_104_350 : zz_D zy_readLayer_14_104 350 (.ireturn) 1 351 := ⟨by decide +kernel, rfl⟩
theorem zd_14_104_163 : zz_D zy_readLayer_14_104 163 (.aload_n 0) 1 164 := ⟨by decide +kernel, rfl⟩
theorem zd_14_104_164 : zz_D zy_readLayer_14_104 164 (.getfield 136) 3 167 := ⟨by decide +kernel, rfl⟩
theorem zd_14_104_167 : zz_D zy_readLayer_14_104 167 (.iconst 1) 1 168 := ⟨by decide +kernel, rfl⟩
theorem zd_14_104_168 : zz_D zy_readLayer_14_104 168 (.iaload) 1 169 := ⟨by decide +kernel, rfl⟩
theorem zd_14_104_169 : zz_D zy_readLayer_14_104 169 (.i2l) 1 170 := ⟨by decide +kernel, rfl⟩
theorem zd_14_104_170 : zz_D zy_readLayer_14_104 170 (.lconst 1) 1 171 := ⟨by decide +kernel, rfl⟩
theorem zd_14_104_171 : zz_D zy_readLayer_14_104 171 (.ldc2_w 416) 3 174 := ⟨by decide +kernel, rfl⟩
theorem zd_14_104_174 : zz_D zy_readLayer_14_104 174 (.invokestatic 192) 3 177 := ⟨by decide +kernel, rfl⟩
theorem zd_14_104_177 : zz_B zy_readLayer_14_104 177 (Instr.ifCond .eq) 184 180 := ⟨7, by decide +kernel, rfl, rfl⟩
theorem zd_14_104_180 : zz_D zy_readLayer_14_104 180 (.iconst 1) 1 181 := ⟨by decide +kernel, rfl⟩
theorem zd_14_104_181 : zz_B zy_readLayer_14_104 181 Instr.goto 185 184 := ⟨4, by decide +kernel, rfl, rfl⟩
theorem zd_14_104_91 : zz_D zy_readLayer_14_104 91 (.sipush 137) 3 94 := ⟨by decide +kernel, rfl⟩
theorem zd_14_104_94 : zz_B zy_readLayer_14_104 94 Instr.goto 100 97 := ⟨6, by decide +kernel, rfl, rfl⟩
theorem zd_14_104_303 : zz_D zy_readLayer_14_104 303 (.aload_n 0) 1 304 := ⟨by decide +kernel, rfl⟩
theorem zd_14_104_304 : zz_D zy_readLayer_14_104 304 (.getfield 567) 3 307 := ⟨by decide +kernel, rfl⟩
theorem zd_14_104_307 : zz_D zy_readLayer_14_104 307 (.iconst 1) 1 308 := ⟨by decide +kernel, rfl⟩
theorem zd_14_104_308 : zz_D zy_readLayer_14_104 308 (.iand) 1 309 := ⟨by decide +kernel, rfl⟩
theorem zd_14_104_309 : zz_B zy_readLayer_14_104 309 (Instr.ifCond .eq) 317 312 := ⟨8, by decide +kernel, rfl, rfl⟩
theorem zd_14_104_317 : zz_D zy_readLayer_14_104 317 (.iconst 0) 1 318 := ⟨by decide +kernel, rfl⟩
theorem zd_14_104_318 : zz_D zy_readLayer_14_104 318 (.ireturn) 1 319 := ⟨by decide +kernel, rfl⟩
theorem zd_14_104_312 : zz_D zy_readLayer_14_104 312 (.iload 7) 2 314 := ⟨by decide +kernel, rfl⟩
theorem zd_14_104_314 : zz_B zy_readLayer_14_104 314 (Instr.ifCond .ne) 319 317 := ⟨5, by decide +kernel, rfl, rfl⟩
theorem zd_14_104_319 : zz_D zy_readLayer_14_104 319 (.aload_n 0) 1 320 := ⟨by decide +kernel, rfl⟩
theorem zd_14_104_320 : zz_D zy_readLayer_14_104 320 (.iload_n 3) 1 321 := ⟨by decide +kernel, rfl⟩
theorem zd_14_104_321 : zz_D zy_readLayer_14_104 321 (.iload 6) 2 323 := ⟨by decide +kernel, rfl⟩
theorem zd_14_104_323 : zz_D zy_readLayer_14_104 323 (.aload_n 0) 1 324 := ⟨by decide +kernel, rfl⟩
theorem zd_14_104_324 : zz_D zy_readLayer_14_104 324 (.getfield 136) 3 327 := ⟨by decide +kernel, rfl⟩
theorem zd_14_104_327 : zz_D zy_readLayer_14_104 327 (.iconst 4) 1 328 := ⟨by decide +kernel, rfl⟩
theorem zd_14_104_328 : zz_D zy_readLayer_14_104 328 (.iaload) 1 329 := ⟨by decide +kernel, rfl⟩
theorem zd_14_104_329 : zz_D zy_readLayer_14_104 329 (.invokevirtual 589) 3 332 := ⟨by decide +kernel, rfl⟩
theorem zk_Md_589 : mm_Vl "TensorForgeModel" 589 11 3 zy_pool_14_69 := ⟨zyw_pool_14_69, (R_Md, F_Md, 69), rfl, mm_tb_1 2250 (by decide +kernel) rfl, mm_tb_1 2102 (by decide +kernel) rfl, mm_tb_1 2103 (by decide +kernel) rfl⟩
theorem zd_14_104_332 : zz_D zy_readLayer_14_104 332 (.istore 8) 2 334 := ⟨by decide +kernel, rfl⟩
theorem zd_14_104_334 : zz_B zy_readLayer_14_104 334 Instr.goto 362 337 := ⟨28, by decide +kernel, rfl, rfl⟩
theorem zd_14_104_81 : zz_D zy_readLayer_14_104 81 (.sipush 255) 3 84 := ⟨by decide +kernel, rfl⟩
theorem zd_14_104_84 : zz_B zy_readLayer_14_104 84 Instr.goto 100 87 := ⟨16, by decide +kernel, rfl, rfl⟩
theorem zd_14_104_194 : zz_D zy_readLayer_14_104 194 (.aload_n 0) 1 195 := ⟨by decide +kernel, rfl⟩
theorem zd_14_104_195 : zz_D zy_readLayer_14_104 195 (.getfield 567) 3 198 := ⟨by decide +kernel, rfl⟩
theorem zd_14_104_198 : zz_D zy_readLayer_14_104 198 (.bipush 7) 2 200 := ⟨by decide +kernel, rfl⟩
theorem zd_14_104_200 : zz_D zy_readLayer_14_104 200 (.iand) 1 201 := ⟨by decide +kernel, rfl⟩
theorem zd_14_104_201 : zz_D zy_readLayer_14_104 201 (.bipush 7) 2 203 := ⟨by decide +kernel, rfl⟩
theorem zd_14_104_203 : zz_B zy_readLayer_14_104 203 (Instr.if_icmp .ne) 255 206 := ⟨52, by decide +kernel, rfl, rfl⟩
theorem zd_14_104_255 : zz_D zy_readLayer_14_104 255 (.iconst 0) 1 256 := ⟨by decide +kernel, rfl⟩
theorem zd_14_104_256 : zz_D zy_readLayer_14_104 256 (.ireturn) 1 257 := ⟨by decide +kernel, rfl⟩
theorem zd_14_104_206 : zz_D zy_readLayer_14_104 206 (.iload 7) 2 208 := ⟨by decide +kernel, rfl⟩
theorem zd_14_104_208 : zz_B zy_readLayer_14_104 208 (Instr.ifCond .eq) 255 211 := ⟨47, by decide +kernel, rfl, rfl⟩
theorem zd_14_104_211 : zz_D zy_readLayer_14_104 211 (.aload_n 0) 1 212 := ⟨by decide +kernel, rfl⟩
theorem zd_14_104_212 : zz_D zy_readLayer_14_104 212 (.getfield 136) 3 215 := ⟨by decide +kernel, rfl⟩
theorem zd_14_104_215 : zz_D zy_readLayer_14_104 215 (.iconst 4) 1 216 := ⟨by decide +kernel, rfl⟩
theorem zd_14_104_216 : zz_D zy_readLayer_14_104 216 (.iaload) 1 217 := ⟨by decide +kernel, rfl⟩
theorem zd_14_104_217 : zz_D zy_readLayer_14_104 217 (.i2l) 1 218 := ⟨by decide +kernel, rfl⟩
theorem zd_14_104_218 : zz_D zy_readLayer_14_104 218 (.lconst 1) 1 219 := ⟨by decide +kernel, rfl⟩
theorem zd_14_104_219 : zz_D zy_readLayer_14_104 219 (.ldc2_w 169) 3 222 := ⟨by decide +kernel, rfl⟩
theorem zd_14_104_222 : zz_D zy_readLayer_14_104 222 (.invokestatic 192) 3 225 := ⟨by decide +kernel, rfl⟩
theorem zd_14_104_225 : zz_B zy_readLayer_14_104 225 (Instr.ifCond .eq) 255 228 := ⟨30, by decide +kernel, rfl, rfl⟩
theorem zd_14_104_228 : zz_D zy_readLayer_14_104 228 (.aload_n 0) 1 229 := ⟨by decide +kernel, rfl⟩
theorem zd_14_104_229 : zz_D zy_readLayer_14_104 229 (.getfield 136) 3 232 := ⟨by decide +kernel, rfl⟩
theorem zd_14_104_232 : zz_D zy_readLayer_14_104 232 (.iconst 5) 1 233 := ⟨by decide +kernel, rfl⟩
theorem zd_14_104_233 : zz_D zy_readLayer_14_104 233 (.iaload) 1 234 := ⟨by decide +kernel, rfl⟩
theorem zd_14_104_234 : zz_D zy_readLayer_14_104 234 (.i2l) 1 235 := ⟨by decide +kernel, rfl⟩
theorem zd_14_104_235 : zz_D zy_readLayer_14_104 235 (.lconst 0) 1 236 := ⟨by decide +kernel, rfl⟩
theorem zd_14_104_236 : zz_D zy_readLayer_14_104 236 (.lconst 1) 1 237 := ⟨by decide +kernel, rfl⟩
theorem zd_14_104_237 : zz_D zy_readLayer_14_104 237 (.invokestatic 192) 3 240 := ⟨by decide +kernel, rfl⟩
theorem zd_14_104_240 : zz_B zy_readLayer_14_104 240 (Instr.ifCond .eq) 255 243 := ⟨15, by decide +kernel, rfl, rfl⟩
theorem zd_14_104_243 : zz_D zy_readLayer_14_104 243 (.aload_n 0) 1 244 := ⟨by decide +kernel, rfl⟩
theorem zd_14_104_244 : zz_D zy_readLayer_14_104 244 (.getfield 136) 3 247 := ⟨by decide +kernel, rfl⟩
theorem zd_14_104_247 : zz_D zy_readLayer_14_104 247 (.bipush 6) 2 249 := ⟨by decide +kernel, rfl⟩
theorem zd_14_104_249 : zz_D zy_readLayer_14_104 249 (.iaload) 1 250 := ⟨by decide +kernel, rfl⟩
theorem zd_14_104_250 : zz_D zy_readLayer_14_104 250 (.bipush 15) 2 252 := ⟨by decide +kernel, rfl⟩
theorem zd_14_104_252 : zz_B zy_readLayer_14_104 252 (Instr.if_icmp .le) 257 255 := ⟨5, by decide +kernel, rfl, rfl⟩
theorem zd_14_104_257 : zz_D zy_readLayer_14_104 257 (.aload_n 0) 1 258 := ⟨by decide +kernel, rfl⟩
theorem zd_14_104_258 : zz_D zy_readLayer_14_104 258 (.iload_n 3) 1 259 := ⟨by decide +kernel, rfl⟩
theorem zd_14_104_259 : zz_D zy_readLayer_14_104 259 (.iload 6) 2 261 := ⟨by decide +kernel, rfl⟩
theorem zd_14_104_261 : zz_D zy_readLayer_14_104 261 (.aload_n 0) 1 262 := ⟨by decide +kernel, rfl⟩
theorem zd_14_104_262 : zz_D zy_readLayer_14_104 262 (.getfield 136) 3 265 := ⟨by decide +kernel, rfl⟩
theorem zd_14_104_265 : zz_D zy_readLayer_14_104 265 (.iconst 2) 1 266 := ⟨by decide +kernel, rfl⟩
theorem zd_14_104_266 : zz_D zy_readLayer_14_104 266 (.iaload) 1 267 := ⟨by decide +kernel, rfl⟩
theorem zd_14_104_267 : zz_D zy_readLayer_14_104 267 (.bipush 10) 2 269 := ⟨by decide +kernel, rfl⟩
theorem zd_14_104_269 : zz_D zy_readLayer_14_104 269 (.aload_n 0) 1 270 := ⟨by decide +kernel, rfl⟩
theorem zd_14_104_270 : zz_D zy_readLayer_14_104 270 (.getfield 136) 3 273 := ⟨by decide +kernel, rfl⟩
theorem zd_14_104_273 : zz_D zy_readLayer_14_104 273 (.iconst 4) 1 274 := ⟨by decide +kernel, rfl⟩
theorem zd_14_104_274 : zz_D zy_readLayer_14_104 274 (.iaload) 1 275 := ⟨by decide +kernel, rfl⟩
theorem zd_14_104_275 : zz_D zy_readLayer_14_104 275 (.imul) 1 276 := ⟨by decide +kernel, rfl⟩
theorem zd_14_104_276 : zz_D zy_readLayer_14_104 276 (.aload_n 0) 1 277 := ⟨by decide +kernel, rfl⟩
theorem zd_14_104_277 : zz_D zy_readLayer_14_104 277 (.getfield 136) 3 280 := ⟨by decide +kernel, rfl⟩
theorem zd_14_104_280 : zz_D zy_readLayer_14_104 280 (.iconst 5) 1 281 := ⟨by decide +kernel, rfl⟩
theorem zd_14_104_281 : zz_D zy_readLayer_14_104 281 (.iaload) 1 282 := ⟨by decide +kernel, rfl⟩
theorem zd_14_104_282 : zz_D zy_readLayer_14_104 282 (.iadd) 1 283 := ⟨by decide +kernel, rfl⟩
theorem zd_14_104_283 : zz_D zy_readLayer_14_104 283 (.iload 5) 2 285 := ⟨by decide +kernel, rfl⟩
theorem zd_14_104_285 : zz_D zy_readLayer_14_104 285 (.aload_n 0) 1 286 := ⟨by decide +kernel, rfl⟩
theorem zd_14_104_286 : zz_D zy_readLayer_14_104 286 (.getfield 136) 3 289 := ⟨by decide +kernel, rfl⟩
theorem zd_14_104_289 : zz_D zy_readLayer_14_104 289 (.iconst 3) 1 290 := ⟨by decide +kernel, rfl⟩
theorem zd_14_104_290 : zz_D zy_readLayer_14_104 290 (.iaload) 1 291 := ⟨by decide +kernel, rfl⟩
theorem zd_14_104_291 : zz_D zy_readLayer_14_104 291 (.invokevirtual 585) 3 294 := ⟨by decide +kernel, rfl⟩
theorem zk_Md_585 : mm_Vl "TensorForgeModel" 585 11 6 zy_convolution_14_67 := ⟨zyw_convolution_14_67, (R_Md, F_Md, 69), rfl, mm_tb_1 2249 (by decide +kernel) rfl, mm_tb_1 2079 (by decide +kernel) rfl, mm_tb_1 2080 (by decide +kernel) rfl⟩
theorem zd_14_104_294 : zz_D zy_readLayer_14_104 294 (.istore 8) 2 296 := ⟨by decide +kernel, rfl⟩
theorem zd_14_104_296 : zz_B zy_readLayer_14_104 296 Instr.goto 362 299 := ⟨66, by decide +kernel, rfl, rfl⟩
-- TensorForgeModel readLayer ()Z
abbrev zr_readLayer_14_104 : Room := { frames := 6, cells := 0, slots := 0, locals := 89 }
def zp_readLayer_14_104  (S0 : zz_S) : Int → zz_S → Prop := fun r S => zz_G S ∧ zz_fr [(1079, 0), (1079, 30), (1079, 31), (1079, 32), (1079, 36), (1079, 61), (1079, 64), (1079, 65)] [1102, 1103, 1104, 1105, 1106, 1107, 1108, 1109, 1110, 1111, 1112, 1113, 1114, 1117, 1118] (fun _ _ => False) S0 S ∧ (0 ≤ r ∧ r ≤ 1)
theorem zc_readLayer_14_104 {g : mm_G} {l : Launch}  (S0 : zz_S) (n : Nat) (hn : zz_end ≤ n) (G_S0 : zz_G S0)  : mm_Met g l zy_readLayer_14_104 zr_readLayer_14_104 [.ref 1079] (zz_M S0 n) n (zz_QI n (zp_readLayer_14_104  S0)) := by
  refine zz_enter (by decide) (Nat.le_of_ble_eq_true rfl) (zz_less (ls1 := [some (.ref 1079)]) ⟨rfl, trivial⟩ ?_)
  have F_S0 : zz_fr [(1079, 0), (1079, 30), (1079, 31), (1079, 32), (1079, 36), (1079, 61), (1079, 64), (1079, 65)] [1102, 1103, 1104, 1105, 1106, 1107, 1108, 1109, 1110, 1111, 1112, 1113, 1114, 1117, 1118] (fun _ _ => False) S0 S0 := zz_fr.refl
  refine zz_aload_n (x := 1079) rfl zd_14_104_0 ?_
  refine zz_ldc2 (z := 735715) zq_Md_534 (by decide) zd_14_104_1 ?_
  refine zz_callVI [zl 735715] zd_14_104_4 zk_Md_529 zT_1079 (zz_ltn hn rfl) rfl rfl ⟨Nat.le_of_ble_eq_true rfl, Nat.le_of_ble_eq_true rfl⟩ ⟨rfl, rfl⟩ (Nat.zero_le _) (Nat.zero_le _) (zc_isWord_14_94 735715 S0 n hn G_S0 (by omega)) (fun v2 S1 hP => ?_)
  obtain ⟨rfl, o3⟩ := hP
  rcases (by omega : v2 = 0 ∨ v2 = 1) with rfl | rfl
  · refine zz_istore_n [some (.ref 1079), some (zi 0)] zd_14_104_7 (by decide) rfl ?_
    refine zz_aload_n (x := 1079) rfl zd_14_104_8 ?_
    refine zz_ldc2 (z := 409072) zq_Md_536 (by decide) zd_14_104_9 ?_
    refine zz_callVI [zl 409072] zd_14_104_12 zk_Md_529 zT_1079 (zz_ltn hn rfl) rfl rfl ⟨Nat.le_of_ble_eq_true rfl, Nat.le_of_ble_eq_true rfl⟩ ⟨rfl, rfl⟩ (Nat.zero_le _) (Nat.zero_le _) (zc_isWord_14_94 409072 S0 n hn G_S0 (by omega)) (fun v5 S4 hP => ?_)
    obtain ⟨rfl, o6⟩ := hP
    rcases (by omega : v5 = 0 ∨ v5 = 1) with rfl | rfl
    · refine zz_istore_n [some (.ref 1079), some (zi 0), some (zi 0)] zd_14_104_15 (by decide) rfl ?_
      refine zz_iload_n (x := 0) rfl zd_14_104_16 ?_
      refine zz_if_ne (by omega) zd_14_104_17 (fun c7 => ?_) (fun c7 => ?_)
      · exfalso; omega
      · refine zz_iload_n (x := 0) rfl zd_14_104_20 ?_
        refine zz_if_ne (by omega) zd_14_104_21 (fun c8 => ?_) (fun c8 => ?_)
        · exfalso; omega
        · refine zz_aload_n (x := 1079) rfl zd_14_104_24 ?_
          refine zz_ldc2 (z := 4225) zq_Md_538 (by decide) zd_14_104_25 ?_
          refine zz_callVI [zl 4225] zd_14_104_28 zk_Md_529 zT_1079 (zz_ltn hn rfl) rfl rfl ⟨Nat.le_of_ble_eq_true rfl, Nat.le_of_ble_eq_true rfl⟩ ⟨rfl, rfl⟩ (Nat.zero_le _) (Nat.zero_le _) (zc_isWord_14_94 4225 S0 n hn G_S0 (by omega)) (fun v10 S9 hP => ?_)
          obtain ⟨rfl, o11⟩ := hP
          rcases (by omega : v10 = 0 ∨ v10 = 1) with rfl | rfl
          · refine zz_if_ne (by omega) zd_14_104_31 (fun c12 => ?_) (fun c12 => ?_)
            · exfalso; omega
            · refine zz_iconst zd_14_104_34 ?_
              exact zz_zret zd_14_104_35 rfl (by omega) (Nat.zero_le _) (Nat.zero_le _) ⟨_, _, rfl, G_S0, F_S0, by omega⟩
          · refine zz_if_ne (by omega) zd_14_104_31 (fun c13 => ?_) (fun c13 => ?_)
            · refine zz_aload_n (x := 1079) rfl zd_14_104_36 ?_
              have g14 := zz_G.r G_S0 1079 32 0 1500 rfl rfl
              refine zz_callVV [] zd_14_104_37 zk_Md_526 zT_1079 (zz_ltn hn rfl) rfl rfl ⟨Nat.le_of_ble_eq_true rfl, Nat.le_of_ble_eq_true rfl⟩ ⟨rfl, rfl⟩ (Nat.zero_le _) (Nat.zero_le _) (zc_advanceNet_14_93  S0 n hn G_S0 ) (fun S15 hP => ?_)
              obtain ⟨G_S15, fS15, o17⟩ := hP
              have F_S15 := zz_fr.trans F_S0 fS15 rfl zz_nv
              refine zz_aload_n (x := 1079) rfl zd_14_104_40 ?_
              have g18 := zz_G.r G_S15 1079 30 0 102 rfl rfl
              have g19 := zz_G.r G_S15 1079 32 0 1500 rfl rfl
              refine zz_callVI [] zd_14_104_41 zk_Md_582 zT_1079 (zz_ltn hn rfl) rfl rfl ⟨Nat.le_of_ble_eq_true rfl, Nat.le_of_ble_eq_true rfl⟩ ⟨rfl, rfl⟩ (Nat.zero_le _) (Nat.zero_le _) (zc_takeTensor_14_102  S15 n hn G_S15 ) (fun v21 S20 hP => ?_)
              obtain ⟨G_S20, fS20, o22, o23⟩ := hP
              have F_S20 := zz_fr.trans F_S15 fS20 rfl zz_nv
              refine zz_istore_n [some (.ref 1079), some (zi 0), some (zi 0), some (zi v21)] zd_14_104_44 (by decide) rfl ?_
              refine zz_iload_n (x := 0) rfl zd_14_104_45 ?_
              refine zz_if_ne (by omega) zd_14_104_46 (fun c24 => ?_) (fun c24 => ?_)
              · exfalso; omega
              · refine zz_iload_n (x := 0) rfl zd_14_104_49 ?_
                refine zz_if_ne (by omega) zd_14_104_50 (fun c25 => ?_) (fun c25 => ?_)
                · exfalso; omega
                · refine zz_iload_n (x := v21) rfl zd_14_104_53 ?_
                  refine zz_if_lt (by omega) zd_14_104_54 (fun c26 => ?_) (fun c26 => ?_)
                  · refine zz_iconst zd_14_104_64 ?_
                    refine zz_istore [some (.ref 1079), some (zi 0), some (zi 0), some (zi v21), some (zi 0)] zd_14_104_65 (by decide) rfl ?_
                    refine zz_iload_n (x := v21) rfl zd_14_104_67 ?_
                    refine zz_if_lt (by omega) zd_14_104_68 (fun c27 => ?_) (fun c27 => ?_)
                    · refine zz_iconst zd_14_104_106 ?_
                      exact zz_zret zd_14_104_107 rfl (by omega) (Nat.zero_le _) (Nat.zero_le _) ⟨_, _, rfl, G_S20, F_S20, by omega⟩
                    · exfalso; omega
                  · refine zz_aload_n (x := 1079) rfl zd_14_104_57 ?_
                    have g28 := zz_G.r G_S20 1079 30 0 102 rfl rfl
                    have g29 := zz_G.r G_S20 1079 32 0 1500 rfl rfl
                    refine zz_callVI [] zd_14_104_58 zk_Md_582 zT_1079 (zz_ltn hn rfl) rfl rfl ⟨Nat.le_of_ble_eq_true rfl, Nat.le_of_ble_eq_true rfl⟩ ⟨rfl, rfl⟩ (Nat.zero_le _) (Nat.zero_le _) (zc_takeTensor_14_102  S20 n hn G_S20 ) (fun v31 S30 hP => ?_)
                    obtain ⟨G_S30, fS30, o32, o33⟩ := hP
                    have F_S30 := zz_fr.trans F_S20 fS30 rfl zz_nv
                    refine zz_goto zd_14_104_61 ?_
                    refine zz_istore [some (.ref 1079), some (zi 0), some (zi 0), some (zi v21), some (zi v31)] zd_14_104_65 (by decide) rfl ?_
                    refine zz_iload_n (x := v21) rfl zd_14_104_67 ?_
                    refine zz_if_lt (by omega) zd_14_104_68 (fun c34 => ?_) (fun c34 => ?_)
                    · exfalso; omega
                    · refine zz_iload (x := v31) rfl zd_14_104_71 ?_
                      refine zz_if_lt (by omega) zd_14_104_73 (fun c35 => ?_) (fun c35 => ?_)
                      · refine zz_iconst zd_14_104_106 ?_
                        exact zz_zret zd_14_104_107 rfl (by omega) (Nat.zero_le _) (Nat.zero_le _) ⟨_, _, rfl, G_S30, F_S30, by omega⟩
                      · refine zz_aload_n (x := 1079) rfl zd_14_104_76 ?_
                        refine zz_iload_n (x := 0) rfl zd_14_104_77 ?_
                        refine zz_if_eq (by omega) zd_14_104_78 (fun c36 => ?_) (fun c36 => ?_)
                        · refine zz_iload_n (x := 0) rfl zd_14_104_87 ?_
                          refine zz_if_eq (by omega) zd_14_104_88 (fun c37 => ?_) (fun c37 => ?_)
                          · refine zz_sipush (by decide) zd_14_104_97 ?_
                            refine zz_callVI [zi 224] zd_14_104_100 zk_Md_576 zT_1079 (zz_ltn hn rfl) rfl rfl ⟨Nat.le_of_ble_eq_true rfl, Nat.le_of_ble_eq_true rfl⟩ ⟨rfl, rfl⟩ (Nat.zero_le _) (Nat.zero_le _) (zc_takeParts_14_101 224 S30 n hn G_S30 (by omega)) (fun v39 S38 hP => ?_)
                            obtain ⟨G_S38, fS38, o40⟩ := hP
                            have F_S38 := zz_fr.trans F_S30 fS38 rfl zz_nv
                            rcases (by omega : v39 = 0 ∨ v39 = 1) with rfl | rfl
                            · refine zz_if_ne (by omega) zd_14_104_103 (fun c41 => ?_) (fun c41 => ?_)
                              · exfalso; omega
                              · refine zz_iconst zd_14_104_106 ?_
                                exact zz_zret zd_14_104_107 rfl (by omega) (Nat.zero_le _) (Nat.zero_le _) ⟨_, _, rfl, G_S38, F_S38, by omega⟩
                            · refine zz_if_ne (by omega) zd_14_104_103 (fun c42 => ?_) (fun c42 => ?_)
                              · refine zz_aload_n (x := 1079) rfl zd_14_104_108 ?_
                                refine zz_getr (kd := 0) (z := 1118) zd_14_104_109 zf_Md_136 zT_1079 rfl (zz_ltn hn rfl) (zz_G.eq G_S38 1079 63 1118 rfl rfl) (by decide) 1118 rfl ?_
                                refine zz_bipush (by decide) zd_14_104_112 ?_
                                have g43 := zz_G.r G_S38 1118 6 0 9999 rfl rfl
                                refine zz_iald (z := S38 1118 6) zd_14_104_114 zT_1118 rfl (zz_ltn hn rfl) (by decide) (by decide) rfl ?_
                                refine zz_bipush (by decide) zd_14_104_115 ?_
                                refine zz_aload_n (x := 1079) rfl zd_14_104_117 ?_
                                refine zz_getr (kd := 0) (z := 1118) zd_14_104_118 zf_Md_136 zT_1079 rfl (zz_ltn hn rfl) (zz_G.eq G_S38 1079 63 1118 rfl rfl) (by decide) 1118 rfl ?_
                                refine zz_bipush (by decide) zd_14_104_121 ?_
                                have g44 := zz_G.r G_S38 1118 7 0 9999 rfl rfl
                                refine zz_iald (z := S38 1118 7) zd_14_104_123 zT_1118 rfl (zz_ltn hn rfl) (by decide) (by decide) rfl ?_
                                refine zz_imul zd_14_104_124 ?_
                                refine zz_iadd zd_14_104_125 ?_
                                refine zz_istore [some (.ref 1079), some (zi 0), some (zi 0), some (zi v21), some (zi v31), some (zi ((S38 1118 6) + (16 * (S38 1118 7))))] zd_14_104_126 (by decide) rfl ?_
                                refine zz_bipush (by decide) zd_14_104_128 ?_
                                refine zz_aload_n (x := 1079) rfl zd_14_104_130 ?_
                                refine zz_getr (kd := 0) (z := 1118) zd_14_104_131 zf_Md_136 zT_1079 rfl (zz_ltn hn rfl) (zz_G.eq G_S38 1079 63 1118 rfl rfl) (by decide) 1118 rfl ?_
                                refine zz_iconst zd_14_104_134 ?_
                                have g45 := zz_G.r G_S38 1118 0 0 9999 rfl rfl
                                refine zz_iald (z := S38 1118 0) zd_14_104_135 zT_1118 rfl (zz_ltn hn rfl) (by decide) (by decide) rfl ?_
                                refine zz_imul zd_14_104_136 ?_
                                refine zz_aload_n (x := 1079) rfl zd_14_104_137 ?_
                                refine zz_getr (kd := 0) (z := 1118) zd_14_104_138 zf_Md_136 zT_1079 rfl (zz_ltn hn rfl) (zz_G.eq G_S38 1079 63 1118 rfl rfl) (by decide) 1118 rfl ?_
                                refine zz_iconst zd_14_104_141 ?_
                                have g46 := zz_G.r G_S38 1118 1 0 9999 rfl rfl
                                refine zz_iald (z := S38 1118 1) zd_14_104_142 zT_1118 rfl (zz_ltn hn rfl) (by decide) (by decide) rfl ?_
                                refine zz_iadd zd_14_104_143 ?_
                                refine zz_istore [some (.ref 1079), some (zi 0), some (zi 0), some (zi v21), some (zi v31), some (zi ((S38 1118 6) + (16 * (S38 1118 7)))), some (zi ((10 * (S38 1118 0)) + (S38 1118 1)))] zd_14_104_144 (by decide) rfl ?_
                                refine zz_aload_n (x := 1079) rfl zd_14_104_146 ?_
                                refine zz_getr (kd := 0) (z := 1118) zd_14_104_147 zf_Md_136 zT_1079 rfl (zz_ltn hn rfl) (zz_G.eq G_S38 1079 63 1118 rfl rfl) (by decide) 1118 rfl ?_
                                refine zz_iconst zd_14_104_150 ?_
                                refine zz_iald (z := S38 1118 0) zd_14_104_151 zT_1118 rfl (zz_ltn hn rfl) (by decide) (by decide) rfl ?_
                                refine zz_i2l (by omega) zd_14_104_152 ?_
                                refine zz_lconst (z := 1) (by decide) zd_14_104_153 ?_
                                refine zz_ldc2 (z := 3) zq_Md_416 (by decide) zd_14_104_154 ?_
                                refine zz_callSI [zl (S38 1118 0), zl 1, zl 3] zd_14_104_157 zk_Md_192 rfl rfl ⟨Nat.le_of_ble_eq_true rfl, Nat.le_of_ble_eq_true rfl⟩ ⟨rfl, rfl⟩ (Nat.zero_le _) (Nat.zero_le _) (zc_in_14_4 (S38 1118 0) 1 3 S38 n hn G_S38 (by omega) (by omega) (by omega)) (fun v48 S47 hP => ?_)
                                obtain ⟨rfl, o49, o50⟩ := hP
                                rcases (by omega : v48 = 0 ∨ v48 = 1) with rfl | rfl
                                · refine zz_if_eq (by omega) zd_14_104_160 (fun c51 => ?_) (fun c51 => ?_)
                                  · refine zz_iconst zd_14_104_184 ?_
                                    refine zz_istore [some (.ref 1079), some (zi 0), some (zi 0), some (zi v21), some (zi v31), some (zi ((S38 1118 6) + (16 * (S38 1118 7)))), some (zi ((10 * (S38 1118 0)) + (S38 1118 1))), some (zi 0)] zd_14_104_185 (by decide) rfl ?_
                                    refine zz_iconst zd_14_104_187 ?_
                                    refine zz_istore [some (.ref 1079), some (zi 0), some (zi 0), some (zi v21), some (zi v31), some (zi ((S38 1118 6) + (16 * (S38 1118 7)))), some (zi ((10 * (S38 1118 0)) + (S38 1118 1))), some (zi 0), some (zi (-1))] zd_14_104_188 (by decide) rfl ?_
                                    refine zz_iload_n (x := 0) rfl zd_14_104_190 ?_
                                    refine zz_if_eq (by omega) zd_14_104_191 (fun c52 => ?_) (fun c52 => ?_)
                                    · refine zz_iload_n (x := 0) rfl zd_14_104_299 ?_
                                      refine zz_if_eq (by omega) zd_14_104_300 (fun c53 => ?_) (fun c53 => ?_)
                                      · refine zz_aload_n (x := 1079) rfl zd_14_104_337 ?_
                                        refine zz_getr (kd := 0) (z := 1118) zd_14_104_338 zf_Md_136 zT_1079 rfl (zz_ltn hn rfl) (zz_G.eq G_S38 1079 63 1118 rfl rfl) (by decide) 1118 rfl ?_
                                        refine zz_bipush (by decide) zd_14_104_341 ?_
                                        refine zz_iald (z := S38 1118 6) zd_14_104_343 zT_1118 rfl (zz_ltn hn rfl) (by decide) (by decide) rfl ?_
                                        refine zz_bipush (by decide) zd_14_104_344 ?_
                                        refine zz_icmp_le (by omega) (by omega) zd_14_104_346 (fun c54 => ?_) (fun c54 => ?_)
                                        · refine zz_aload_n (x := 1079) rfl zd_14_104_351 ?_
                                          refine zz_iload_n (x := v21) rfl zd_14_104_352 ?_
                                          refine zz_iload (x := v31) rfl zd_14_104_353 ?_
                                          refine zz_iload (x := (S38 1118 6) + (16 * (S38 1118 7))) rfl zd_14_104_355 ?_
                                          refine zz_callVI [zi v21, zi v31, zi ((S38 1118 6) + (16 * (S38 1118 7)))] zd_14_104_357 zk_Md_592 zT_1079 (zz_ltn hn rfl) rfl rfl ⟨Nat.le_of_ble_eq_true rfl, Nat.le_of_ble_eq_true rfl⟩ ⟨rfl, rfl⟩ (Nat.zero_le _) (Nat.zero_le _) (zc_addition_14_70 v21 v31 ((S38 1118 6) + (16 * (S38 1118 7))) S38 n hn G_S38 (by omega) (by omega) (by omega)) (fun v56 S55 hP => ?_)
                                          obtain ⟨G_S55, fS55, o57⟩ := hP
                                          have F_S55 := zz_fr.trans F_S38 fS55 rfl zz_nv
                                          refine zz_istore [some (.ref 1079), some (zi 0), some (zi 0), some (zi v21), some (zi v31), some (zi ((S38 1118 6) + (16 * (S38 1118 7)))), some (zi ((10 * (S38 1118 0)) + (S38 1118 1))), some (zi 0), some (zi v56)] zd_14_104_360 (by decide) rfl ?_
                                          refine zz_aload_n (x := 1079) rfl zd_14_104_362 ?_
                                          have g58 := zz_G.r G_S55 1079 0 0 3 rfl rfl
                                          refine zz_geti (z := S55 1079 0) zd_14_104_363 zf_Md_187 zT_1079 rfl (zz_ltn hn rfl) rfl ?_
                                          refine zz_if_le (by omega) zd_14_104_366 (fun c59 => ?_) (fun c59 => ?_)
                                          · refine zz_aload_n (x := 1079) rfl zd_14_104_371 ?_
                                            refine zz_getr (kd := 0) (z := 1117) zd_14_104_372 zf_Md_133 zT_1079 rfl (zz_ltn hn rfl) (zz_G.eq G_S55 1079 62 1117 rfl rfl) (by decide) 1117 rfl ?_
                                            refine zz_iload (x := v56) rfl zd_14_104_375 ?_
                                            refine zz_aload_n (x := 1079) rfl zd_14_104_377 ?_
                                            have g60 := zz_G.r G_S38 1079 64 (-9223372036854775808) 9223372036854775807 rfl rfl
                                            refine zz_getl (z := S38 1079 64) zd_14_104_378 zf_Md_564 zT_1079 rfl (zz_ltn hn rfl) (zz_rc fS55 rfl rfl (fun h => h) rfl) ?_
                                            refine zz_last zd_14_104_381 zT_1117 rfl (zz_ltn hn rfl) (by decide) (by omega) (fun S61 qS61 => ?_)
                                            have G_S61 := zz_G.put G_S55 qS61 (-9223372036854775808) 9223372036854775807 rfl (by omega)
                                            have F_S61 := zz_fr.putc F_S55 qS61 rfl
                                            refine zz_iconst zd_14_104_382 ?_
                                            exact zz_zret zd_14_104_383 rfl (by omega) (Nat.zero_le _) (Nat.zero_le _) ⟨_, _, rfl, G_S61, F_S61, by omega⟩
                                          · refine zz_iconst zd_14_104_369 ?_
                                            exact zz_zret zd_14_104_370 rfl (by omega) (Nat.zero_le _) (Nat.zero_le _) ⟨_, _, rfl, G_S55, F_S55, by omega⟩
                                        · refine zz_iconst zd_14_104_349 ?_
                                          exact zz_zret zd_14_104_350 rfl (by omega) (Nat.zero_le _) (Nat.zero_le _) ⟨_, _, rfl, G_S38, F_S38, by omega⟩
                                      · exfalso; omega
                                    · exfalso; omega
                                  · exfalso; omega
                                · refine zz_if_eq (by omega) zd_14_104_160 (fun c62 => ?_) (fun c62 => ?_)
                                  · exfalso; omega
                                  · refine zz_aload_n (x := 1079) rfl zd_14_104_163 ?_
                                    refine zz_getr (kd := 0) (z := 1118) zd_14_104_164 zf_Md_136 zT_1079 rfl (zz_ltn hn rfl) (zz_G.eq G_S38 1079 63 1118 rfl rfl) (by decide) 1118 rfl ?_
                                    refine zz_iconst zd_14_104_167 ?_
                                    refine zz_iald (z := S38 1118 1) zd_14_104_168 zT_1118 rfl (zz_ltn hn rfl) (by decide) (by decide) rfl ?_
                                    refine zz_i2l (by omega) zd_14_104_169 ?_
                                    refine zz_lconst (z := 1) (by decide) zd_14_104_170 ?_
                                    refine zz_ldc2 (z := 3) zq_Md_416 (by decide) zd_14_104_171 ?_
                                    refine zz_callSI [zl (S38 1118 1), zl 1, zl 3] zd_14_104_174 zk_Md_192 rfl rfl ⟨Nat.le_of_ble_eq_true rfl, Nat.le_of_ble_eq_true rfl⟩ ⟨rfl, rfl⟩ (Nat.zero_le _) (Nat.zero_le _) (zc_in_14_4 (S38 1118 1) 1 3 S38 n hn G_S38 (by omega) (by omega) (by omega)) (fun v64 S63 hP => ?_)
                                    obtain ⟨rfl, o65, o66⟩ := hP
                                    rcases (by omega : v64 = 0 ∨ v64 = 1) with rfl | rfl
                                    · refine zz_if_eq (by omega) zd_14_104_177 (fun c67 => ?_) (fun c67 => ?_)
                                      · refine zz_iconst zd_14_104_184 ?_
                                        refine zz_istore [some (.ref 1079), some (zi 0), some (zi 0), some (zi v21), some (zi v31), some (zi ((S38 1118 6) + (16 * (S38 1118 7)))), some (zi ((10 * (S38 1118 0)) + (S38 1118 1))), some (zi 0)] zd_14_104_185 (by decide) rfl ?_
                                        refine zz_iconst zd_14_104_187 ?_
                                        refine zz_istore [some (.ref 1079), some (zi 0), some (zi 0), some (zi v21), some (zi v31), some (zi ((S38 1118 6) + (16 * (S38 1118 7)))), some (zi ((10 * (S38 1118 0)) + (S38 1118 1))), some (zi 0), some (zi (-1))] zd_14_104_188 (by decide) rfl ?_
                                        refine zz_iload_n (x := 0) rfl zd_14_104_190 ?_
                                        refine zz_if_eq (by omega) zd_14_104_191 (fun c68 => ?_) (fun c68 => ?_)
                                        · refine zz_iload_n (x := 0) rfl zd_14_104_299 ?_
                                          refine zz_if_eq (by omega) zd_14_104_300 (fun c69 => ?_) (fun c69 => ?_)
                                          · refine zz_aload_n (x := 1079) rfl zd_14_104_337 ?_
                                            refine zz_getr (kd := 0) (z := 1118) zd_14_104_338 zf_Md_136 zT_1079 rfl (zz_ltn hn rfl) (zz_G.eq G_S38 1079 63 1118 rfl rfl) (by decide) 1118 rfl ?_
                                            refine zz_bipush (by decide) zd_14_104_341 ?_
                                            refine zz_iald (z := S38 1118 6) zd_14_104_343 zT_1118 rfl (zz_ltn hn rfl) (by decide) (by decide) rfl ?_
                                            refine zz_bipush (by decide) zd_14_104_344 ?_
                                            refine zz_icmp_le (by omega) (by omega) zd_14_104_346 (fun c70 => ?_) (fun c70 => ?_)
                                            · refine zz_aload_n (x := 1079) rfl zd_14_104_351 ?_
                                              refine zz_iload_n (x := v21) rfl zd_14_104_352 ?_
                                              refine zz_iload (x := v31) rfl zd_14_104_353 ?_
                                              refine zz_iload (x := (S38 1118 6) + (16 * (S38 1118 7))) rfl zd_14_104_355 ?_
                                              refine zz_callVI [zi v21, zi v31, zi ((S38 1118 6) + (16 * (S38 1118 7)))] zd_14_104_357 zk_Md_592 zT_1079 (zz_ltn hn rfl) rfl rfl ⟨Nat.le_of_ble_eq_true rfl, Nat.le_of_ble_eq_true rfl⟩ ⟨rfl, rfl⟩ (Nat.zero_le _) (Nat.zero_le _) (zc_addition_14_70 v21 v31 ((S38 1118 6) + (16 * (S38 1118 7))) S38 n hn G_S38 (by omega) (by omega) (by omega)) (fun v72 S71 hP => ?_)
                                              obtain ⟨G_S71, fS71, o73⟩ := hP
                                              have F_S71 := zz_fr.trans F_S38 fS71 rfl zz_nv
                                              refine zz_istore [some (.ref 1079), some (zi 0), some (zi 0), some (zi v21), some (zi v31), some (zi ((S38 1118 6) + (16 * (S38 1118 7)))), some (zi ((10 * (S38 1118 0)) + (S38 1118 1))), some (zi 0), some (zi v72)] zd_14_104_360 (by decide) rfl ?_
                                              refine zz_aload_n (x := 1079) rfl zd_14_104_362 ?_
                                              have g74 := zz_G.r G_S71 1079 0 0 3 rfl rfl
                                              refine zz_geti (z := S71 1079 0) zd_14_104_363 zf_Md_187 zT_1079 rfl (zz_ltn hn rfl) rfl ?_
                                              refine zz_if_le (by omega) zd_14_104_366 (fun c75 => ?_) (fun c75 => ?_)
                                              · refine zz_aload_n (x := 1079) rfl zd_14_104_371 ?_
                                                refine zz_getr (kd := 0) (z := 1117) zd_14_104_372 zf_Md_133 zT_1079 rfl (zz_ltn hn rfl) (zz_G.eq G_S71 1079 62 1117 rfl rfl) (by decide) 1117 rfl ?_
                                                refine zz_iload (x := v72) rfl zd_14_104_375 ?_
                                                refine zz_aload_n (x := 1079) rfl zd_14_104_377 ?_
                                                have g76 := zz_G.r G_S38 1079 64 (-9223372036854775808) 9223372036854775807 rfl rfl
                                                refine zz_getl (z := S38 1079 64) zd_14_104_378 zf_Md_564 zT_1079 rfl (zz_ltn hn rfl) (zz_rc fS71 rfl rfl (fun h => h) rfl) ?_
                                                refine zz_last zd_14_104_381 zT_1117 rfl (zz_ltn hn rfl) (by decide) (by omega) (fun S77 qS77 => ?_)
                                                have G_S77 := zz_G.put G_S71 qS77 (-9223372036854775808) 9223372036854775807 rfl (by omega)
                                                have F_S77 := zz_fr.putc F_S71 qS77 rfl
                                                refine zz_iconst zd_14_104_382 ?_
                                                exact zz_zret zd_14_104_383 rfl (by omega) (Nat.zero_le _) (Nat.zero_le _) ⟨_, _, rfl, G_S77, F_S77, by omega⟩
                                              · refine zz_iconst zd_14_104_369 ?_
                                                exact zz_zret zd_14_104_370 rfl (by omega) (Nat.zero_le _) (Nat.zero_le _) ⟨_, _, rfl, G_S71, F_S71, by omega⟩
                                            · refine zz_iconst zd_14_104_349 ?_
                                              exact zz_zret zd_14_104_350 rfl (by omega) (Nat.zero_le _) (Nat.zero_le _) ⟨_, _, rfl, G_S38, F_S38, by omega⟩
                                          · exfalso; omega
                                        · exfalso; omega
                                      · exfalso; omega
                                    · refine zz_if_eq (by omega) zd_14_104_177 (fun c78 => ?_) (fun c78 => ?_)
                                      · exfalso; omega
                                      · refine zz_iconst zd_14_104_180 ?_
                                        refine zz_goto zd_14_104_181 ?_
                                        refine zz_istore [some (.ref 1079), some (zi 0), some (zi 0), some (zi v21), some (zi v31), some (zi ((S38 1118 6) + (16 * (S38 1118 7)))), some (zi ((10 * (S38 1118 0)) + (S38 1118 1))), some (zi 1)] zd_14_104_185 (by decide) rfl ?_
                                        refine zz_iconst zd_14_104_187 ?_
                                        refine zz_istore [some (.ref 1079), some (zi 0), some (zi 0), some (zi v21), some (zi v31), some (zi ((S38 1118 6) + (16 * (S38 1118 7)))), some (zi ((10 * (S38 1118 0)) + (S38 1118 1))), some (zi 1), some (zi (-1))] zd_14_104_188 (by decide) rfl ?_
                                        refine zz_iload_n (x := 0) rfl zd_14_104_190 ?_
                                        refine zz_if_eq (by omega) zd_14_104_191 (fun c79 => ?_) (fun c79 => ?_)
                                        · refine zz_iload_n (x := 0) rfl zd_14_104_299 ?_
                                          refine zz_if_eq (by omega) zd_14_104_300 (fun c80 => ?_) (fun c80 => ?_)
                                          · refine zz_aload_n (x := 1079) rfl zd_14_104_337 ?_
                                            refine zz_getr (kd := 0) (z := 1118) zd_14_104_338 zf_Md_136 zT_1079 rfl (zz_ltn hn rfl) (zz_G.eq G_S38 1079 63 1118 rfl rfl) (by decide) 1118 rfl ?_
                                            refine zz_bipush (by decide) zd_14_104_341 ?_
                                            refine zz_iald (z := S38 1118 6) zd_14_104_343 zT_1118 rfl (zz_ltn hn rfl) (by decide) (by decide) rfl ?_
                                            refine zz_bipush (by decide) zd_14_104_344 ?_
                                            refine zz_icmp_le (by omega) (by omega) zd_14_104_346 (fun c81 => ?_) (fun c81 => ?_)
                                            · refine zz_aload_n (x := 1079) rfl zd_14_104_351 ?_
                                              refine zz_iload_n (x := v21) rfl zd_14_104_352 ?_
                                              refine zz_iload (x := v31) rfl zd_14_104_353 ?_
                                              refine zz_iload (x := (S38 1118 6) + (16 * (S38 1118 7))) rfl zd_14_104_355 ?_
                                              refine zz_callVI [zi v21, zi v31, zi ((S38 1118 6) + (16 * (S38 1118 7)))] zd_14_104_357 zk_Md_592 zT_1079 (zz_ltn hn rfl) rfl rfl ⟨Nat.le_of_ble_eq_true rfl, Nat.le_of_ble_eq_true rfl⟩ ⟨rfl, rfl⟩ (Nat.zero_le _) (Nat.zero_le _) (zc_addition_14_70 v21 v31 ((S38 1118 6) + (16 * (S38 1118 7))) S38 n hn G_S38 (by omega) (by omega) (by omega)) (fun v83 S82 hP => ?_)
                                              obtain ⟨G_S82, fS82, o84⟩ := hP
                                              have F_S82 := zz_fr.trans F_S38 fS82 rfl zz_nv
                                              refine zz_istore [some (.ref 1079), some (zi 0), some (zi 0), some (zi v21), some (zi v31), some (zi ((S38 1118 6) + (16 * (S38 1118 7)))), some (zi ((10 * (S38 1118 0)) + (S38 1118 1))), some (zi 1), some (zi v83)] zd_14_104_360 (by decide) rfl ?_
                                              refine zz_aload_n (x := 1079) rfl zd_14_104_362 ?_
                                              have g85 := zz_G.r G_S82 1079 0 0 3 rfl rfl
                                              refine zz_geti (z := S82 1079 0) zd_14_104_363 zf_Md_187 zT_1079 rfl (zz_ltn hn rfl) rfl ?_
                                              refine zz_if_le (by omega) zd_14_104_366 (fun c86 => ?_) (fun c86 => ?_)
                                              · refine zz_aload_n (x := 1079) rfl zd_14_104_371 ?_
                                                refine zz_getr (kd := 0) (z := 1117) zd_14_104_372 zf_Md_133 zT_1079 rfl (zz_ltn hn rfl) (zz_G.eq G_S82 1079 62 1117 rfl rfl) (by decide) 1117 rfl ?_
                                                refine zz_iload (x := v83) rfl zd_14_104_375 ?_
                                                refine zz_aload_n (x := 1079) rfl zd_14_104_377 ?_
                                                have g87 := zz_G.r G_S38 1079 64 (-9223372036854775808) 9223372036854775807 rfl rfl
                                                refine zz_getl (z := S38 1079 64) zd_14_104_378 zf_Md_564 zT_1079 rfl (zz_ltn hn rfl) (zz_rc fS82 rfl rfl (fun h => h) rfl) ?_
                                                refine zz_last zd_14_104_381 zT_1117 rfl (zz_ltn hn rfl) (by decide) (by omega) (fun S88 qS88 => ?_)
                                                have G_S88 := zz_G.put G_S82 qS88 (-9223372036854775808) 9223372036854775807 rfl (by omega)
                                                have F_S88 := zz_fr.putc F_S82 qS88 rfl
                                                refine zz_iconst zd_14_104_382 ?_
                                                exact zz_zret zd_14_104_383 rfl (by omega) (Nat.zero_le _) (Nat.zero_le _) ⟨_, _, rfl, G_S88, F_S88, by omega⟩
                                              · refine zz_iconst zd_14_104_369 ?_
                                                exact zz_zret zd_14_104_370 rfl (by omega) (Nat.zero_le _) (Nat.zero_le _) ⟨_, _, rfl, G_S82, F_S82, by omega⟩
                                            · refine zz_iconst zd_14_104_349 ?_
                                              exact zz_zret zd_14_104_350 rfl (by omega) (Nat.zero_le _) (Nat.zero_le _) ⟨_, _, rfl, G_S38, F_S38, by omega⟩
                                          · exfalso; omega
                                        · exfalso; omega
                              · exfalso; omega
                          · exfalso; omega
                        · exfalso; omega
            · exfalso; omega
    · refine zz_istore_n [some (.ref 1079), some (zi 0), some (zi 1)] zd_14_104_15 (by decide) rfl ?_
      refine zz_iload_n (x := 0) rfl zd_14_104_16 ?_
      refine zz_if_ne (by omega) zd_14_104_17 (fun c89 => ?_) (fun c89 => ?_)
      · exfalso; omega
      · refine zz_iload_n (x := 1) rfl zd_14_104_20 ?_
        refine zz_if_ne (by omega) zd_14_104_21 (fun c90 => ?_) (fun c90 => ?_)
        · refine zz_aload_n (x := 1079) rfl zd_14_104_36 ?_
          have g91 := zz_G.r G_S0 1079 32 0 1500 rfl rfl
          refine zz_callVV [] zd_14_104_37 zk_Md_526 zT_1079 (zz_ltn hn rfl) rfl rfl ⟨Nat.le_of_ble_eq_true rfl, Nat.le_of_ble_eq_true rfl⟩ ⟨rfl, rfl⟩ (Nat.zero_le _) (Nat.zero_le _) (zc_advanceNet_14_93  S0 n hn G_S0 ) (fun S92 hP => ?_)
          obtain ⟨G_S92, fS92, o94⟩ := hP
          have F_S92 := zz_fr.trans F_S0 fS92 rfl zz_nv
          refine zz_aload_n (x := 1079) rfl zd_14_104_40 ?_
          have g95 := zz_G.r G_S92 1079 30 0 102 rfl rfl
          have g96 := zz_G.r G_S92 1079 32 0 1500 rfl rfl
          refine zz_callVI [] zd_14_104_41 zk_Md_582 zT_1079 (zz_ltn hn rfl) rfl rfl ⟨Nat.le_of_ble_eq_true rfl, Nat.le_of_ble_eq_true rfl⟩ ⟨rfl, rfl⟩ (Nat.zero_le _) (Nat.zero_le _) (zc_takeTensor_14_102  S92 n hn G_S92 ) (fun v98 S97 hP => ?_)
          obtain ⟨G_S97, fS97, o99, o100⟩ := hP
          have F_S97 := zz_fr.trans F_S92 fS97 rfl zz_nv
          refine zz_istore_n [some (.ref 1079), some (zi 0), some (zi 1), some (zi v98)] zd_14_104_44 (by decide) rfl ?_
          refine zz_iload_n (x := 0) rfl zd_14_104_45 ?_
          refine zz_if_ne (by omega) zd_14_104_46 (fun c101 => ?_) (fun c101 => ?_)
          · exfalso; omega
          · refine zz_iload_n (x := 1) rfl zd_14_104_49 ?_
            refine zz_if_ne (by omega) zd_14_104_50 (fun c102 => ?_) (fun c102 => ?_)
            · refine zz_iconst zd_14_104_64 ?_
              refine zz_istore [some (.ref 1079), some (zi 0), some (zi 1), some (zi v98), some (zi 0)] zd_14_104_65 (by decide) rfl ?_
              refine zz_iload_n (x := v98) rfl zd_14_104_67 ?_
              refine zz_if_lt (by omega) zd_14_104_68 (fun c103 => ?_) (fun c103 => ?_)
              · refine zz_iconst zd_14_104_106 ?_
                exact zz_zret zd_14_104_107 rfl (by omega) (Nat.zero_le _) (Nat.zero_le _) ⟨_, _, rfl, G_S97, F_S97, by omega⟩
              · refine zz_iload (x := 0) rfl zd_14_104_71 ?_
                refine zz_if_lt (by omega) zd_14_104_73 (fun c104 => ?_) (fun c104 => ?_)
                · exfalso; omega
                · refine zz_aload_n (x := 1079) rfl zd_14_104_76 ?_
                  refine zz_iload_n (x := 0) rfl zd_14_104_77 ?_
                  refine zz_if_eq (by omega) zd_14_104_78 (fun c105 => ?_) (fun c105 => ?_)
                  · refine zz_iload_n (x := 1) rfl zd_14_104_87 ?_
                    refine zz_if_eq (by omega) zd_14_104_88 (fun c106 => ?_) (fun c106 => ?_)
                    · exfalso; omega
                    · refine zz_sipush (by decide) zd_14_104_91 ?_
                      refine zz_goto zd_14_104_94 ?_
                      refine zz_callVI [zi 137] zd_14_104_100 zk_Md_576 zT_1079 (zz_ltn hn rfl) rfl rfl ⟨Nat.le_of_ble_eq_true rfl, Nat.le_of_ble_eq_true rfl⟩ ⟨rfl, rfl⟩ (Nat.zero_le _) (Nat.zero_le _) (zc_takeParts_14_101 137 S97 n hn G_S97 (by omega)) (fun v108 S107 hP => ?_)
                      obtain ⟨G_S107, fS107, o109⟩ := hP
                      have F_S107 := zz_fr.trans F_S97 fS107 rfl zz_nv
                      rcases (by omega : v108 = 0 ∨ v108 = 1) with rfl | rfl
                      · refine zz_if_ne (by omega) zd_14_104_103 (fun c110 => ?_) (fun c110 => ?_)
                        · exfalso; omega
                        · refine zz_iconst zd_14_104_106 ?_
                          exact zz_zret zd_14_104_107 rfl (by omega) (Nat.zero_le _) (Nat.zero_le _) ⟨_, _, rfl, G_S107, F_S107, by omega⟩
                      · refine zz_if_ne (by omega) zd_14_104_103 (fun c111 => ?_) (fun c111 => ?_)
                        · refine zz_aload_n (x := 1079) rfl zd_14_104_108 ?_
                          refine zz_getr (kd := 0) (z := 1118) zd_14_104_109 zf_Md_136 zT_1079 rfl (zz_ltn hn rfl) (zz_G.eq G_S107 1079 63 1118 rfl rfl) (by decide) 1118 rfl ?_
                          refine zz_bipush (by decide) zd_14_104_112 ?_
                          have g112 := zz_G.r G_S107 1118 6 0 9999 rfl rfl
                          refine zz_iald (z := S107 1118 6) zd_14_104_114 zT_1118 rfl (zz_ltn hn rfl) (by decide) (by decide) rfl ?_
                          refine zz_bipush (by decide) zd_14_104_115 ?_
                          refine zz_aload_n (x := 1079) rfl zd_14_104_117 ?_
                          refine zz_getr (kd := 0) (z := 1118) zd_14_104_118 zf_Md_136 zT_1079 rfl (zz_ltn hn rfl) (zz_G.eq G_S107 1079 63 1118 rfl rfl) (by decide) 1118 rfl ?_
                          refine zz_bipush (by decide) zd_14_104_121 ?_
                          have g113 := zz_G.r G_S107 1118 7 0 9999 rfl rfl
                          refine zz_iald (z := S107 1118 7) zd_14_104_123 zT_1118 rfl (zz_ltn hn rfl) (by decide) (by decide) rfl ?_
                          refine zz_imul zd_14_104_124 ?_
                          refine zz_iadd zd_14_104_125 ?_
                          refine zz_istore [some (.ref 1079), some (zi 0), some (zi 1), some (zi v98), some (zi 0), some (zi ((S107 1118 6) + (16 * (S107 1118 7))))] zd_14_104_126 (by decide) rfl ?_
                          refine zz_bipush (by decide) zd_14_104_128 ?_
                          refine zz_aload_n (x := 1079) rfl zd_14_104_130 ?_
                          refine zz_getr (kd := 0) (z := 1118) zd_14_104_131 zf_Md_136 zT_1079 rfl (zz_ltn hn rfl) (zz_G.eq G_S107 1079 63 1118 rfl rfl) (by decide) 1118 rfl ?_
                          refine zz_iconst zd_14_104_134 ?_
                          have g114 := zz_G.r G_S107 1118 0 0 9999 rfl rfl
                          refine zz_iald (z := S107 1118 0) zd_14_104_135 zT_1118 rfl (zz_ltn hn rfl) (by decide) (by decide) rfl ?_
                          refine zz_imul zd_14_104_136 ?_
                          refine zz_aload_n (x := 1079) rfl zd_14_104_137 ?_
                          refine zz_getr (kd := 0) (z := 1118) zd_14_104_138 zf_Md_136 zT_1079 rfl (zz_ltn hn rfl) (zz_G.eq G_S107 1079 63 1118 rfl rfl) (by decide) 1118 rfl ?_
                          refine zz_iconst zd_14_104_141 ?_
                          have g115 := zz_G.r G_S107 1118 1 0 9999 rfl rfl
                          refine zz_iald (z := S107 1118 1) zd_14_104_142 zT_1118 rfl (zz_ltn hn rfl) (by decide) (by decide) rfl ?_
                          refine zz_iadd zd_14_104_143 ?_
                          refine zz_istore [some (.ref 1079), some (zi 0), some (zi 1), some (zi v98), some (zi 0), some (zi ((S107 1118 6) + (16 * (S107 1118 7)))), some (zi ((10 * (S107 1118 0)) + (S107 1118 1)))] zd_14_104_144 (by decide) rfl ?_
                          refine zz_aload_n (x := 1079) rfl zd_14_104_146 ?_
                          refine zz_getr (kd := 0) (z := 1118) zd_14_104_147 zf_Md_136 zT_1079 rfl (zz_ltn hn rfl) (zz_G.eq G_S107 1079 63 1118 rfl rfl) (by decide) 1118 rfl ?_
                          refine zz_iconst zd_14_104_150 ?_
                          refine zz_iald (z := S107 1118 0) zd_14_104_151 zT_1118 rfl (zz_ltn hn rfl) (by decide) (by decide) rfl ?_
                          refine zz_i2l (by omega) zd_14_104_152 ?_
                          refine zz_lconst (z := 1) (by decide) zd_14_104_153 ?_
                          refine zz_ldc2 (z := 3) zq_Md_416 (by decide) zd_14_104_154 ?_
                          refine zz_callSI [zl (S107 1118 0), zl 1, zl 3] zd_14_104_157 zk_Md_192 rfl rfl ⟨Nat.le_of_ble_eq_true rfl, Nat.le_of_ble_eq_true rfl⟩ ⟨rfl, rfl⟩ (Nat.zero_le _) (Nat.zero_le _) (zc_in_14_4 (S107 1118 0) 1 3 S107 n hn G_S107 (by omega) (by omega) (by omega)) (fun v117 S116 hP => ?_)
                          obtain ⟨rfl, o118, o119⟩ := hP
                          rcases (by omega : v117 = 0 ∨ v117 = 1) with rfl | rfl
                          · refine zz_if_eq (by omega) zd_14_104_160 (fun c120 => ?_) (fun c120 => ?_)
                            · refine zz_iconst zd_14_104_184 ?_
                              refine zz_istore [some (.ref 1079), some (zi 0), some (zi 1), some (zi v98), some (zi 0), some (zi ((S107 1118 6) + (16 * (S107 1118 7)))), some (zi ((10 * (S107 1118 0)) + (S107 1118 1))), some (zi 0)] zd_14_104_185 (by decide) rfl ?_
                              refine zz_iconst zd_14_104_187 ?_
                              refine zz_istore [some (.ref 1079), some (zi 0), some (zi 1), some (zi v98), some (zi 0), some (zi ((S107 1118 6) + (16 * (S107 1118 7)))), some (zi ((10 * (S107 1118 0)) + (S107 1118 1))), some (zi 0), some (zi (-1))] zd_14_104_188 (by decide) rfl ?_
                              refine zz_iload_n (x := 0) rfl zd_14_104_190 ?_
                              refine zz_if_eq (by omega) zd_14_104_191 (fun c121 => ?_) (fun c121 => ?_)
                              · refine zz_iload_n (x := 1) rfl zd_14_104_299 ?_
                                refine zz_if_eq (by omega) zd_14_104_300 (fun c122 => ?_) (fun c122 => ?_)
                                · exfalso; omega
                                · refine zz_aload_n (x := 1079) rfl zd_14_104_303 ?_
                                  have g123 := zz_G.r G_S107 1079 65 0 255 rfl rfl
                                  refine zz_geti (z := S107 1079 65) zd_14_104_304 zf_Md_567 zT_1079 rfl (zz_ltn hn rfl) rfl ?_
                                  refine zz_iconst zd_14_104_307 ?_
                                  refine zz_iand (by omega) (by omega) zd_14_104_308 (fun v124 hv124 av124 bv124 ev124 => ?_)
                                  refine zz_if_eq (by omega) zd_14_104_309 (fun c125 => ?_) (fun c125 => ?_)
                                  · refine zz_iconst zd_14_104_317 ?_
                                    exact zz_zret zd_14_104_318 rfl (by omega) (Nat.zero_le _) (Nat.zero_le _) ⟨_, _, rfl, G_S107, F_S107, by omega⟩
                                  · refine zz_iload (x := 0) rfl zd_14_104_312 ?_
                                    refine zz_if_ne (by omega) zd_14_104_314 (fun c126 => ?_) (fun c126 => ?_)
                                    · exfalso; omega
                                    · refine zz_iconst zd_14_104_317 ?_
                                      exact zz_zret zd_14_104_318 rfl (by omega) (Nat.zero_le _) (Nat.zero_le _) ⟨_, _, rfl, G_S107, F_S107, by omega⟩
                              · exfalso; omega
                            · exfalso; omega
                          · refine zz_if_eq (by omega) zd_14_104_160 (fun c127 => ?_) (fun c127 => ?_)
                            · exfalso; omega
                            · refine zz_aload_n (x := 1079) rfl zd_14_104_163 ?_
                              refine zz_getr (kd := 0) (z := 1118) zd_14_104_164 zf_Md_136 zT_1079 rfl (zz_ltn hn rfl) (zz_G.eq G_S107 1079 63 1118 rfl rfl) (by decide) 1118 rfl ?_
                              refine zz_iconst zd_14_104_167 ?_
                              refine zz_iald (z := S107 1118 1) zd_14_104_168 zT_1118 rfl (zz_ltn hn rfl) (by decide) (by decide) rfl ?_
                              refine zz_i2l (by omega) zd_14_104_169 ?_
                              refine zz_lconst (z := 1) (by decide) zd_14_104_170 ?_
                              refine zz_ldc2 (z := 3) zq_Md_416 (by decide) zd_14_104_171 ?_
                              refine zz_callSI [zl (S107 1118 1), zl 1, zl 3] zd_14_104_174 zk_Md_192 rfl rfl ⟨Nat.le_of_ble_eq_true rfl, Nat.le_of_ble_eq_true rfl⟩ ⟨rfl, rfl⟩ (Nat.zero_le _) (Nat.zero_le _) (zc_in_14_4 (S107 1118 1) 1 3 S107 n hn G_S107 (by omega) (by omega) (by omega)) (fun v129 S128 hP => ?_)
                              obtain ⟨rfl, o130, o131⟩ := hP
                              rcases (by omega : v129 = 0 ∨ v129 = 1) with rfl | rfl
                              · refine zz_if_eq (by omega) zd_14_104_177 (fun c132 => ?_) (fun c132 => ?_)
                                · refine zz_iconst zd_14_104_184 ?_
                                  refine zz_istore [some (.ref 1079), some (zi 0), some (zi 1), some (zi v98), some (zi 0), some (zi ((S107 1118 6) + (16 * (S107 1118 7)))), some (zi ((10 * (S107 1118 0)) + (S107 1118 1))), some (zi 0)] zd_14_104_185 (by decide) rfl ?_
                                  refine zz_iconst zd_14_104_187 ?_
                                  refine zz_istore [some (.ref 1079), some (zi 0), some (zi 1), some (zi v98), some (zi 0), some (zi ((S107 1118 6) + (16 * (S107 1118 7)))), some (zi ((10 * (S107 1118 0)) + (S107 1118 1))), some (zi 0), some (zi (-1))] zd_14_104_188 (by decide) rfl ?_
                                  refine zz_iload_n (x := 0) rfl zd_14_104_190 ?_
                                  refine zz_if_eq (by omega) zd_14_104_191 (fun c133 => ?_) (fun c133 => ?_)
                                  · refine zz_iload_n (x := 1) rfl zd_14_104_299 ?_
                                    refine zz_if_eq (by omega) zd_14_104_300 (fun c134 => ?_) (fun c134 => ?_)
                                    · exfalso; omega
                                    · refine zz_aload_n (x := 1079) rfl zd_14_104_303 ?_
                                      have g135 := zz_G.r G_S107 1079 65 0 255 rfl rfl
                                      refine zz_geti (z := S107 1079 65) zd_14_104_304 zf_Md_567 zT_1079 rfl (zz_ltn hn rfl) rfl ?_
                                      refine zz_iconst zd_14_104_307 ?_
                                      refine zz_iand (by omega) (by omega) zd_14_104_308 (fun v136 hv136 av136 bv136 ev136 => ?_)
                                      refine zz_if_eq (by omega) zd_14_104_309 (fun c137 => ?_) (fun c137 => ?_)
                                      · refine zz_iconst zd_14_104_317 ?_
                                        exact zz_zret zd_14_104_318 rfl (by omega) (Nat.zero_le _) (Nat.zero_le _) ⟨_, _, rfl, G_S107, F_S107, by omega⟩
                                      · refine zz_iload (x := 0) rfl zd_14_104_312 ?_
                                        refine zz_if_ne (by omega) zd_14_104_314 (fun c138 => ?_) (fun c138 => ?_)
                                        · exfalso; omega
                                        · refine zz_iconst zd_14_104_317 ?_
                                          exact zz_zret zd_14_104_318 rfl (by omega) (Nat.zero_le _) (Nat.zero_le _) ⟨_, _, rfl, G_S107, F_S107, by omega⟩
                                  · exfalso; omega
                                · exfalso; omega
                              · refine zz_if_eq (by omega) zd_14_104_177 (fun c139 => ?_) (fun c139 => ?_)
                                · exfalso; omega
                                · refine zz_iconst zd_14_104_180 ?_
                                  refine zz_goto zd_14_104_181 ?_
                                  refine zz_istore [some (.ref 1079), some (zi 0), some (zi 1), some (zi v98), some (zi 0), some (zi ((S107 1118 6) + (16 * (S107 1118 7)))), some (zi ((10 * (S107 1118 0)) + (S107 1118 1))), some (zi 1)] zd_14_104_185 (by decide) rfl ?_
                                  refine zz_iconst zd_14_104_187 ?_
                                  refine zz_istore [some (.ref 1079), some (zi 0), some (zi 1), some (zi v98), some (zi 0), some (zi ((S107 1118 6) + (16 * (S107 1118 7)))), some (zi ((10 * (S107 1118 0)) + (S107 1118 1))), some (zi 1), some (zi (-1))] zd_14_104_188 (by decide) rfl ?_
                                  refine zz_iload_n (x := 0) rfl zd_14_104_190 ?_
                                  refine zz_if_eq (by omega) zd_14_104_191 (fun c140 => ?_) (fun c140 => ?_)
                                  · refine zz_iload_n (x := 1) rfl zd_14_104_299 ?_
                                    refine zz_if_eq (by omega) zd_14_104_300 (fun c141 => ?_) (fun c141 => ?_)
                                    · exfalso; omega
                                    · refine zz_aload_n (x := 1079) rfl zd_14_104_303 ?_
                                      have g142 := zz_G.r G_S107 1079 65 0 255 rfl rfl
                                      refine zz_geti (z := S107 1079 65) zd_14_104_304 zf_Md_567 zT_1079 rfl (zz_ltn hn rfl) rfl ?_
                                      refine zz_iconst zd_14_104_307 ?_
                                      refine zz_iand (by omega) (by omega) zd_14_104_308 (fun v143 hv143 av143 bv143 ev143 => ?_)
                                      refine zz_if_eq (by omega) zd_14_104_309 (fun c144 => ?_) (fun c144 => ?_)
                                      · refine zz_iconst zd_14_104_317 ?_
                                        exact zz_zret zd_14_104_318 rfl (by omega) (Nat.zero_le _) (Nat.zero_le _) ⟨_, _, rfl, G_S107, F_S107, by omega⟩
                                      · refine zz_iload (x := 1) rfl zd_14_104_312 ?_
                                        refine zz_if_ne (by omega) zd_14_104_314 (fun c145 => ?_) (fun c145 => ?_)
                                        · refine zz_aload_n (x := 1079) rfl zd_14_104_319 ?_
                                          refine zz_iload_n (x := v98) rfl zd_14_104_320 ?_
                                          refine zz_iload (x := (10 * (S107 1118 0)) + (S107 1118 1)) rfl zd_14_104_321 ?_
                                          refine zz_aload_n (x := 1079) rfl zd_14_104_323 ?_
                                          refine zz_getr (kd := 0) (z := 1118) zd_14_104_324 zf_Md_136 zT_1079 rfl (zz_ltn hn rfl) (zz_G.eq G_S107 1079 63 1118 rfl rfl) (by decide) 1118 rfl ?_
                                          refine zz_iconst zd_14_104_327 ?_
                                          have g146 := zz_G.r G_S107 1118 4 0 9999 rfl rfl
                                          refine zz_iald (z := S107 1118 4) zd_14_104_328 zT_1118 rfl (zz_ltn hn rfl) (by decide) (by decide) rfl ?_
                                          refine zz_callVI [zi v98, zi ((10 * (S107 1118 0)) + (S107 1118 1)), zi (S107 1118 4)] zd_14_104_329 zk_Md_589 zT_1079 (zz_ltn hn rfl) rfl rfl ⟨Nat.le_of_ble_eq_true rfl, Nat.le_of_ble_eq_true rfl⟩ ⟨rfl, rfl⟩ (Nat.zero_le _) (Nat.zero_le _) (zc_pool_14_69 v98 ((10 * (S107 1118 0)) + (S107 1118 1)) (S107 1118 4) S107 n hn G_S107 (by omega) (by omega) (by omega)) (fun v148 S147 hP => ?_)
                                          obtain ⟨G_S147, fS147, o149⟩ := hP
                                          have F_S147 := zz_fr.trans F_S107 fS147 rfl zz_nv
                                          refine zz_istore [some (.ref 1079), some (zi 0), some (zi 1), some (zi v98), some (zi 0), some (zi ((S107 1118 6) + (16 * (S107 1118 7)))), some (zi ((10 * (S107 1118 0)) + (S107 1118 1))), some (zi 1), some (zi v148)] zd_14_104_332 (by decide) rfl ?_
                                          refine zz_goto zd_14_104_334 ?_
                                          refine zz_aload_n (x := 1079) rfl zd_14_104_362 ?_
                                          have g150 := zz_G.r G_S147 1079 0 0 3 rfl rfl
                                          refine zz_geti (z := S147 1079 0) zd_14_104_363 zf_Md_187 zT_1079 rfl (zz_ltn hn rfl) rfl ?_
                                          refine zz_if_le (by omega) zd_14_104_366 (fun c151 => ?_) (fun c151 => ?_)
                                          · refine zz_aload_n (x := 1079) rfl zd_14_104_371 ?_
                                            refine zz_getr (kd := 0) (z := 1117) zd_14_104_372 zf_Md_133 zT_1079 rfl (zz_ltn hn rfl) (zz_G.eq G_S147 1079 62 1117 rfl rfl) (by decide) 1117 rfl ?_
                                            refine zz_iload (x := v148) rfl zd_14_104_375 ?_
                                            refine zz_aload_n (x := 1079) rfl zd_14_104_377 ?_
                                            have g152 := zz_G.r G_S107 1079 64 (-9223372036854775808) 9223372036854775807 rfl rfl
                                            refine zz_getl (z := S107 1079 64) zd_14_104_378 zf_Md_564 zT_1079 rfl (zz_ltn hn rfl) (zz_rc fS147 rfl rfl (fun h => h) rfl) ?_
                                            refine zz_last zd_14_104_381 zT_1117 rfl (zz_ltn hn rfl) (by decide) (by omega) (fun S153 qS153 => ?_)
                                            have G_S153 := zz_G.put G_S147 qS153 (-9223372036854775808) 9223372036854775807 rfl (by omega)
                                            have F_S153 := zz_fr.putc F_S147 qS153 rfl
                                            refine zz_iconst zd_14_104_382 ?_
                                            exact zz_zret zd_14_104_383 rfl (by omega) (Nat.zero_le _) (Nat.zero_le _) ⟨_, _, rfl, G_S153, F_S153, by omega⟩
                                          · refine zz_iconst zd_14_104_369 ?_
                                            exact zz_zret zd_14_104_370 rfl (by omega) (Nat.zero_le _) (Nat.zero_le _) ⟨_, _, rfl, G_S147, F_S147, by omega⟩
                                        · exfalso; omega
                                  · exfalso; omega
                        · exfalso; omega
                  · exfalso; omega
            · exfalso; omega
        · exfalso; omega
  · refine zz_istore_n [some (.ref 1079), some (zi 1)] zd_14_104_7 (by decide) rfl ?_
    refine zz_aload_n (x := 1079) rfl zd_14_104_8 ?_
    refine zz_ldc2 (z := 409072) zq_Md_536 (by decide) zd_14_104_9 ?_
    refine zz_callVI [zl 409072] zd_14_104_12 zk_Md_529 zT_1079 (zz_ltn hn rfl) rfl rfl ⟨Nat.le_of_ble_eq_true rfl, Nat.le_of_ble_eq_true rfl⟩ ⟨rfl, rfl⟩ (Nat.zero_le _) (Nat.zero_le _) (zc_isWord_14_94 409072 S0 n hn G_S0 (by omega)) (fun v155 S154 hP => ?_)
    obtain ⟨rfl, o156⟩ := hP
    rcases (by omega : v155 = 0 ∨ v155 = 1) with rfl | rfl
    · refine zz_istore_n [some (.ref 1079), some (zi 1), some (zi 0)] zd_14_104_15 (by decide) rfl ?_
      refine zz_iload_n (x := 1) rfl zd_14_104_16 ?_
      refine zz_if_ne (by omega) zd_14_104_17 (fun c157 => ?_) (fun c157 => ?_)
      · refine zz_aload_n (x := 1079) rfl zd_14_104_36 ?_
        have g158 := zz_G.r G_S0 1079 32 0 1500 rfl rfl
        refine zz_callVV [] zd_14_104_37 zk_Md_526 zT_1079 (zz_ltn hn rfl) rfl rfl ⟨Nat.le_of_ble_eq_true rfl, Nat.le_of_ble_eq_true rfl⟩ ⟨rfl, rfl⟩ (Nat.zero_le _) (Nat.zero_le _) (zc_advanceNet_14_93  S0 n hn G_S0 ) (fun S159 hP => ?_)
        obtain ⟨G_S159, fS159, o161⟩ := hP
        have F_S159 := zz_fr.trans F_S0 fS159 rfl zz_nv
        refine zz_aload_n (x := 1079) rfl zd_14_104_40 ?_
        have g162 := zz_G.r G_S159 1079 30 0 102 rfl rfl
        have g163 := zz_G.r G_S159 1079 32 0 1500 rfl rfl
        refine zz_callVI [] zd_14_104_41 zk_Md_582 zT_1079 (zz_ltn hn rfl) rfl rfl ⟨Nat.le_of_ble_eq_true rfl, Nat.le_of_ble_eq_true rfl⟩ ⟨rfl, rfl⟩ (Nat.zero_le _) (Nat.zero_le _) (zc_takeTensor_14_102  S159 n hn G_S159 ) (fun v165 S164 hP => ?_)
        obtain ⟨G_S164, fS164, o166, o167⟩ := hP
        have F_S164 := zz_fr.trans F_S159 fS164 rfl zz_nv
        refine zz_istore_n [some (.ref 1079), some (zi 1), some (zi 0), some (zi v165)] zd_14_104_44 (by decide) rfl ?_
        refine zz_iload_n (x := 1) rfl zd_14_104_45 ?_
        refine zz_if_ne (by omega) zd_14_104_46 (fun c168 => ?_) (fun c168 => ?_)
        · refine zz_iconst zd_14_104_64 ?_
          refine zz_istore [some (.ref 1079), some (zi 1), some (zi 0), some (zi v165), some (zi 0)] zd_14_104_65 (by decide) rfl ?_
          refine zz_iload_n (x := v165) rfl zd_14_104_67 ?_
          refine zz_if_lt (by omega) zd_14_104_68 (fun c169 => ?_) (fun c169 => ?_)
          · refine zz_iconst zd_14_104_106 ?_
            exact zz_zret zd_14_104_107 rfl (by omega) (Nat.zero_le _) (Nat.zero_le _) ⟨_, _, rfl, G_S164, F_S164, by omega⟩
          · refine zz_iload (x := 0) rfl zd_14_104_71 ?_
            refine zz_if_lt (by omega) zd_14_104_73 (fun c170 => ?_) (fun c170 => ?_)
            · exfalso; omega
            · refine zz_aload_n (x := 1079) rfl zd_14_104_76 ?_
              refine zz_iload_n (x := 1) rfl zd_14_104_77 ?_
              refine zz_if_eq (by omega) zd_14_104_78 (fun c171 => ?_) (fun c171 => ?_)
              · exfalso; omega
              · refine zz_sipush (by decide) zd_14_104_81 ?_
                refine zz_goto zd_14_104_84 ?_
                refine zz_callVI [zi 255] zd_14_104_100 zk_Md_576 zT_1079 (zz_ltn hn rfl) rfl rfl ⟨Nat.le_of_ble_eq_true rfl, Nat.le_of_ble_eq_true rfl⟩ ⟨rfl, rfl⟩ (Nat.zero_le _) (Nat.zero_le _) (zc_takeParts_14_101 255 S164 n hn G_S164 (by omega)) (fun v173 S172 hP => ?_)
                obtain ⟨G_S172, fS172, o174⟩ := hP
                have F_S172 := zz_fr.trans F_S164 fS172 rfl zz_nv
                rcases (by omega : v173 = 0 ∨ v173 = 1) with rfl | rfl
                · refine zz_if_ne (by omega) zd_14_104_103 (fun c175 => ?_) (fun c175 => ?_)
                  · exfalso; omega
                  · refine zz_iconst zd_14_104_106 ?_
                    exact zz_zret zd_14_104_107 rfl (by omega) (Nat.zero_le _) (Nat.zero_le _) ⟨_, _, rfl, G_S172, F_S172, by omega⟩
                · refine zz_if_ne (by omega) zd_14_104_103 (fun c176 => ?_) (fun c176 => ?_)
                  · refine zz_aload_n (x := 1079) rfl zd_14_104_108 ?_
                    refine zz_getr (kd := 0) (z := 1118) zd_14_104_109 zf_Md_136 zT_1079 rfl (zz_ltn hn rfl) (zz_G.eq G_S172 1079 63 1118 rfl rfl) (by decide) 1118 rfl ?_
                    refine zz_bipush (by decide) zd_14_104_112 ?_
                    have g177 := zz_G.r G_S172 1118 6 0 9999 rfl rfl
                    refine zz_iald (z := S172 1118 6) zd_14_104_114 zT_1118 rfl (zz_ltn hn rfl) (by decide) (by decide) rfl ?_
                    refine zz_bipush (by decide) zd_14_104_115 ?_
                    refine zz_aload_n (x := 1079) rfl zd_14_104_117 ?_
                    refine zz_getr (kd := 0) (z := 1118) zd_14_104_118 zf_Md_136 zT_1079 rfl (zz_ltn hn rfl) (zz_G.eq G_S172 1079 63 1118 rfl rfl) (by decide) 1118 rfl ?_
                    refine zz_bipush (by decide) zd_14_104_121 ?_
                    have g178 := zz_G.r G_S172 1118 7 0 9999 rfl rfl
                    refine zz_iald (z := S172 1118 7) zd_14_104_123 zT_1118 rfl (zz_ltn hn rfl) (by decide) (by decide) rfl ?_
                    refine zz_imul zd_14_104_124 ?_
                    refine zz_iadd zd_14_104_125 ?_
                    refine zz_istore [some (.ref 1079), some (zi 1), some (zi 0), some (zi v165), some (zi 0), some (zi ((S172 1118 6) + (16 * (S172 1118 7))))] zd_14_104_126 (by decide) rfl ?_
                    refine zz_bipush (by decide) zd_14_104_128 ?_
                    refine zz_aload_n (x := 1079) rfl zd_14_104_130 ?_
                    refine zz_getr (kd := 0) (z := 1118) zd_14_104_131 zf_Md_136 zT_1079 rfl (zz_ltn hn rfl) (zz_G.eq G_S172 1079 63 1118 rfl rfl) (by decide) 1118 rfl ?_
                    refine zz_iconst zd_14_104_134 ?_
                    have g179 := zz_G.r G_S172 1118 0 0 9999 rfl rfl
                    refine zz_iald (z := S172 1118 0) zd_14_104_135 zT_1118 rfl (zz_ltn hn rfl) (by decide) (by decide) rfl ?_
                    refine zz_imul zd_14_104_136 ?_
                    refine zz_aload_n (x := 1079) rfl zd_14_104_137 ?_
                    refine zz_getr (kd := 0) (z := 1118) zd_14_104_138 zf_Md_136 zT_1079 rfl (zz_ltn hn rfl) (zz_G.eq G_S172 1079 63 1118 rfl rfl) (by decide) 1118 rfl ?_
                    refine zz_iconst zd_14_104_141 ?_
                    have g180 := zz_G.r G_S172 1118 1 0 9999 rfl rfl
                    refine zz_iald (z := S172 1118 1) zd_14_104_142 zT_1118 rfl (zz_ltn hn rfl) (by decide) (by decide) rfl ?_
                    refine zz_iadd zd_14_104_143 ?_
                    refine zz_istore [some (.ref 1079), some (zi 1), some (zi 0), some (zi v165), some (zi 0), some (zi ((S172 1118 6) + (16 * (S172 1118 7)))), some (zi ((10 * (S172 1118 0)) + (S172 1118 1)))] zd_14_104_144 (by decide) rfl ?_
                    refine zz_aload_n (x := 1079) rfl zd_14_104_146 ?_
                    refine zz_getr (kd := 0) (z := 1118) zd_14_104_147 zf_Md_136 zT_1079 rfl (zz_ltn hn rfl) (zz_G.eq G_S172 1079 63 1118 rfl rfl) (by decide) 1118 rfl ?_
                    refine zz_iconst zd_14_104_150 ?_
                    refine zz_iald (z := S172 1118 0) zd_14_104_151 zT_1118 rfl (zz_ltn hn rfl) (by decide) (by decide) rfl ?_
                    refine zz_i2l (by omega) zd_14_104_152 ?_
                    refine zz_lconst (z := 1) (by decide) zd_14_104_153 ?_
                    refine zz_ldc2 (z := 3) zq_Md_416 (by decide) zd_14_104_154 ?_
                    refine zz_callSI [zl (S172 1118 0), zl 1, zl 3] zd_14_104_157 zk_Md_192 rfl rfl ⟨Nat.le_of_ble_eq_true rfl, Nat.le_of_ble_eq_true rfl⟩ ⟨rfl, rfl⟩ (Nat.zero_le _) (Nat.zero_le _) (zc_in_14_4 (S172 1118 0) 1 3 S172 n hn G_S172 (by omega) (by omega) (by omega)) (fun v182 S181 hP => ?_)
                    obtain ⟨rfl, o183, o184⟩ := hP
                    rcases (by omega : v182 = 0 ∨ v182 = 1) with rfl | rfl
                    · refine zz_if_eq (by omega) zd_14_104_160 (fun c185 => ?_) (fun c185 => ?_)
                      · refine zz_iconst zd_14_104_184 ?_
                        refine zz_istore [some (.ref 1079), some (zi 1), some (zi 0), some (zi v165), some (zi 0), some (zi ((S172 1118 6) + (16 * (S172 1118 7)))), some (zi ((10 * (S172 1118 0)) + (S172 1118 1))), some (zi 0)] zd_14_104_185 (by decide) rfl ?_
                        refine zz_iconst zd_14_104_187 ?_
                        refine zz_istore [some (.ref 1079), some (zi 1), some (zi 0), some (zi v165), some (zi 0), some (zi ((S172 1118 6) + (16 * (S172 1118 7)))), some (zi ((10 * (S172 1118 0)) + (S172 1118 1))), some (zi 0), some (zi (-1))] zd_14_104_188 (by decide) rfl ?_
                        refine zz_iload_n (x := 1) rfl zd_14_104_190 ?_
                        refine zz_if_eq (by omega) zd_14_104_191 (fun c186 => ?_) (fun c186 => ?_)
                        · exfalso; omega
                        · refine zz_aload_n (x := 1079) rfl zd_14_104_194 ?_
                          have g187 := zz_G.r G_S172 1079 65 0 255 rfl rfl
                          refine zz_geti (z := S172 1079 65) zd_14_104_195 zf_Md_567 zT_1079 rfl (zz_ltn hn rfl) rfl ?_
                          refine zz_bipush (by decide) zd_14_104_198 ?_
                          refine zz_iand (by omega) (by omega) zd_14_104_200 (fun v188 hv188 av188 bv188 ev188 => ?_)
                          refine zz_bipush (by decide) zd_14_104_201 ?_
                          refine zz_icmp_ne (by omega) (by omega) zd_14_104_203 (fun c189 => ?_) (fun c189 => ?_)
                          · refine zz_iconst zd_14_104_255 ?_
                            exact zz_zret zd_14_104_256 rfl (by omega) (Nat.zero_le _) (Nat.zero_le _) ⟨_, _, rfl, G_S172, F_S172, by omega⟩
                          · refine zz_iload (x := 0) rfl zd_14_104_206 ?_
                            refine zz_if_eq (by omega) zd_14_104_208 (fun c190 => ?_) (fun c190 => ?_)
                            · refine zz_iconst zd_14_104_255 ?_
                              exact zz_zret zd_14_104_256 rfl (by omega) (Nat.zero_le _) (Nat.zero_le _) ⟨_, _, rfl, G_S172, F_S172, by omega⟩
                            · exfalso; omega
                      · exfalso; omega
                    · refine zz_if_eq (by omega) zd_14_104_160 (fun c191 => ?_) (fun c191 => ?_)
                      · exfalso; omega
                      · refine zz_aload_n (x := 1079) rfl zd_14_104_163 ?_
                        refine zz_getr (kd := 0) (z := 1118) zd_14_104_164 zf_Md_136 zT_1079 rfl (zz_ltn hn rfl) (zz_G.eq G_S172 1079 63 1118 rfl rfl) (by decide) 1118 rfl ?_
                        refine zz_iconst zd_14_104_167 ?_
                        refine zz_iald (z := S172 1118 1) zd_14_104_168 zT_1118 rfl (zz_ltn hn rfl) (by decide) (by decide) rfl ?_
                        refine zz_i2l (by omega) zd_14_104_169 ?_
                        refine zz_lconst (z := 1) (by decide) zd_14_104_170 ?_
                        refine zz_ldc2 (z := 3) zq_Md_416 (by decide) zd_14_104_171 ?_
                        refine zz_callSI [zl (S172 1118 1), zl 1, zl 3] zd_14_104_174 zk_Md_192 rfl rfl ⟨Nat.le_of_ble_eq_true rfl, Nat.le_of_ble_eq_true rfl⟩ ⟨rfl, rfl⟩ (Nat.zero_le _) (Nat.zero_le _) (zc_in_14_4 (S172 1118 1) 1 3 S172 n hn G_S172 (by omega) (by omega) (by omega)) (fun v193 S192 hP => ?_)
                        obtain ⟨rfl, o194, o195⟩ := hP
                        rcases (by omega : v193 = 0 ∨ v193 = 1) with rfl | rfl
                        · refine zz_if_eq (by omega) zd_14_104_177 (fun c196 => ?_) (fun c196 => ?_)
                          · refine zz_iconst zd_14_104_184 ?_
                            refine zz_istore [some (.ref 1079), some (zi 1), some (zi 0), some (zi v165), some (zi 0), some (zi ((S172 1118 6) + (16 * (S172 1118 7)))), some (zi ((10 * (S172 1118 0)) + (S172 1118 1))), some (zi 0)] zd_14_104_185 (by decide) rfl ?_
                            refine zz_iconst zd_14_104_187 ?_
                            refine zz_istore [some (.ref 1079), some (zi 1), some (zi 0), some (zi v165), some (zi 0), some (zi ((S172 1118 6) + (16 * (S172 1118 7)))), some (zi ((10 * (S172 1118 0)) + (S172 1118 1))), some (zi 0), some (zi (-1))] zd_14_104_188 (by decide) rfl ?_
                            refine zz_iload_n (x := 1) rfl zd_14_104_190 ?_
                            refine zz_if_eq (by omega) zd_14_104_191 (fun c197 => ?_) (fun c197 => ?_)
                            · exfalso; omega
                            · refine zz_aload_n (x := 1079) rfl zd_14_104_194 ?_
                              have g198 := zz_G.r G_S172 1079 65 0 255 rfl rfl
                              refine zz_geti (z := S172 1079 65) zd_14_104_195 zf_Md_567 zT_1079 rfl (zz_ltn hn rfl) rfl ?_
                              refine zz_bipush (by decide) zd_14_104_198 ?_
                              refine zz_iand (by omega) (by omega) zd_14_104_200 (fun v199 hv199 av199 bv199 ev199 => ?_)
                              refine zz_bipush (by decide) zd_14_104_201 ?_
                              refine zz_icmp_ne (by omega) (by omega) zd_14_104_203 (fun c200 => ?_) (fun c200 => ?_)
                              · refine zz_iconst zd_14_104_255 ?_
                                exact zz_zret zd_14_104_256 rfl (by omega) (Nat.zero_le _) (Nat.zero_le _) ⟨_, _, rfl, G_S172, F_S172, by omega⟩
                              · refine zz_iload (x := 0) rfl zd_14_104_206 ?_
                                refine zz_if_eq (by omega) zd_14_104_208 (fun c201 => ?_) (fun c201 => ?_)
                                · refine zz_iconst zd_14_104_255 ?_
                                  exact zz_zret zd_14_104_256 rfl (by omega) (Nat.zero_le _) (Nat.zero_le _) ⟨_, _, rfl, G_S172, F_S172, by omega⟩
                                · exfalso; omega
                          · exfalso; omega
                        · refine zz_if_eq (by omega) zd_14_104_177 (fun c202 => ?_) (fun c202 => ?_)
                          · exfalso; omega
                          · refine zz_iconst zd_14_104_180 ?_
                            refine zz_goto zd_14_104_181 ?_
                            refine zz_istore [some (.ref 1079), some (zi 1), some (zi 0), some (zi v165), some (zi 0), some (zi ((S172 1118 6) + (16 * (S172 1118 7)))), some (zi ((10 * (S172 1118 0)) + (S172 1118 1))), some (zi 1)] zd_14_104_185 (by decide) rfl ?_
                            refine zz_iconst zd_14_104_187 ?_
                            refine zz_istore [some (.ref 1079), some (zi 1), some (zi 0), some (zi v165), some (zi 0), some (zi ((S172 1118 6) + (16 * (S172 1118 7)))), some (zi ((10 * (S172 1118 0)) + (S172 1118 1))), some (zi 1), some (zi (-1))] zd_14_104_188 (by decide) rfl ?_
                            refine zz_iload_n (x := 1) rfl zd_14_104_190 ?_
                            refine zz_if_eq (by omega) zd_14_104_191 (fun c203 => ?_) (fun c203 => ?_)
                            · exfalso; omega
                            · refine zz_aload_n (x := 1079) rfl zd_14_104_194 ?_
                              have g204 := zz_G.r G_S172 1079 65 0 255 rfl rfl
                              refine zz_geti (z := S172 1079 65) zd_14_104_195 zf_Md_567 zT_1079 rfl (zz_ltn hn rfl) rfl ?_
                              refine zz_bipush (by decide) zd_14_104_198 ?_
                              refine zz_iand (by omega) (by omega) zd_14_104_200 (fun v205 hv205 av205 bv205 ev205 => ?_)
                              refine zz_bipush (by decide) zd_14_104_201 ?_
                              refine zz_icmp_ne (by omega) (by omega) zd_14_104_203 (fun c206 => ?_) (fun c206 => ?_)
                              · refine zz_iconst zd_14_104_255 ?_
                                exact zz_zret zd_14_104_256 rfl (by omega) (Nat.zero_le _) (Nat.zero_le _) ⟨_, _, rfl, G_S172, F_S172, by omega⟩
                              · refine zz_iload (x := 1) rfl zd_14_104_206 ?_
                                refine zz_if_eq (by omega) zd_14_104_208 (fun c207 => ?_) (fun c207 => ?_)
                                · exfalso; omega
                                · refine zz_aload_n (x := 1079) rfl zd_14_104_211 ?_
                                  refine zz_getr (kd := 0) (z := 1118) zd_14_104_212 zf_Md_136 zT_1079 rfl (zz_ltn hn rfl) (zz_G.eq G_S172 1079 63 1118 rfl rfl) (by decide) 1118 rfl ?_
                                  refine zz_iconst zd_14_104_215 ?_
                                  have g208 := zz_G.r G_S172 1118 4 0 9999 rfl rfl
                                  refine zz_iald (z := S172 1118 4) zd_14_104_216 zT_1118 rfl (zz_ltn hn rfl) (by decide) (by decide) rfl ?_
                                  refine zz_i2l (by omega) zd_14_104_217 ?_
                                  refine zz_lconst (z := 1) (by decide) zd_14_104_218 ?_
                                  refine zz_ldc2 (z := 2) zq_Md_169 (by decide) zd_14_104_219 ?_
                                  refine zz_callSI [zl (S172 1118 4), zl 1, zl 2] zd_14_104_222 zk_Md_192 rfl rfl ⟨Nat.le_of_ble_eq_true rfl, Nat.le_of_ble_eq_true rfl⟩ ⟨rfl, rfl⟩ (Nat.zero_le _) (Nat.zero_le _) (zc_in_14_4 (S172 1118 4) 1 2 S172 n hn G_S172 (by omega) (by omega) (by omega)) (fun v210 S209 hP => ?_)
                                  obtain ⟨rfl, o211, o212⟩ := hP
                                  rcases (by omega : v210 = 0 ∨ v210 = 1) with rfl | rfl
                                  · refine zz_if_eq (by omega) zd_14_104_225 (fun c213 => ?_) (fun c213 => ?_)
                                    · refine zz_iconst zd_14_104_255 ?_
                                      exact zz_zret zd_14_104_256 rfl (by omega) (Nat.zero_le _) (Nat.zero_le _) ⟨_, _, rfl, G_S172, F_S172, by omega⟩
                                    · exfalso; omega
                                  · refine zz_if_eq (by omega) zd_14_104_225 (fun c214 => ?_) (fun c214 => ?_)
                                    · exfalso; omega
                                    · refine zz_aload_n (x := 1079) rfl zd_14_104_228 ?_
                                      refine zz_getr (kd := 0) (z := 1118) zd_14_104_229 zf_Md_136 zT_1079 rfl (zz_ltn hn rfl) (zz_G.eq G_S172 1079 63 1118 rfl rfl) (by decide) 1118 rfl ?_
                                      refine zz_iconst zd_14_104_232 ?_
                                      have g215 := zz_G.r G_S172 1118 5 0 9999 rfl rfl
                                      refine zz_iald (z := S172 1118 5) zd_14_104_233 zT_1118 rfl (zz_ltn hn rfl) (by decide) (by decide) rfl ?_
                                      refine zz_i2l (by omega) zd_14_104_234 ?_
                                      refine zz_lconst (z := 0) (by decide) zd_14_104_235 ?_
                                      refine zz_lconst (z := 1) (by decide) zd_14_104_236 ?_
                                      refine zz_callSI [zl (S172 1118 5), zl 0, zl 1] zd_14_104_237 zk_Md_192 rfl rfl ⟨Nat.le_of_ble_eq_true rfl, Nat.le_of_ble_eq_true rfl⟩ ⟨rfl, rfl⟩ (Nat.zero_le _) (Nat.zero_le _) (zc_in_14_4 (S172 1118 5) 0 1 S172 n hn G_S172 (by omega) (by omega) (by omega)) (fun v217 S216 hP => ?_)
                                      obtain ⟨rfl, o218, o219⟩ := hP
                                      rcases (by omega : v217 = 0 ∨ v217 = 1) with rfl | rfl
                                      · refine zz_if_eq (by omega) zd_14_104_240 (fun c220 => ?_) (fun c220 => ?_)
                                        · refine zz_iconst zd_14_104_255 ?_
                                          exact zz_zret zd_14_104_256 rfl (by omega) (Nat.zero_le _) (Nat.zero_le _) ⟨_, _, rfl, G_S172, F_S172, by omega⟩
                                        · exfalso; omega
                                      · refine zz_if_eq (by omega) zd_14_104_240 (fun c221 => ?_) (fun c221 => ?_)
                                        · exfalso; omega
                                        · refine zz_aload_n (x := 1079) rfl zd_14_104_243 ?_
                                          refine zz_getr (kd := 0) (z := 1118) zd_14_104_244 zf_Md_136 zT_1079 rfl (zz_ltn hn rfl) (zz_G.eq G_S172 1079 63 1118 rfl rfl) (by decide) 1118 rfl ?_
                                          refine zz_bipush (by decide) zd_14_104_247 ?_
                                          refine zz_iald (z := S172 1118 6) zd_14_104_249 zT_1118 rfl (zz_ltn hn rfl) (by decide) (by decide) rfl ?_
                                          refine zz_bipush (by decide) zd_14_104_250 ?_
                                          refine zz_icmp_le (by omega) (by omega) zd_14_104_252 (fun c222 => ?_) (fun c222 => ?_)
                                          · refine zz_aload_n (x := 1079) rfl zd_14_104_257 ?_
                                            refine zz_iload_n (x := v165) rfl zd_14_104_258 ?_
                                            refine zz_iload (x := (10 * (S172 1118 0)) + (S172 1118 1)) rfl zd_14_104_259 ?_
                                            refine zz_aload_n (x := 1079) rfl zd_14_104_261 ?_
                                            refine zz_getr (kd := 0) (z := 1118) zd_14_104_262 zf_Md_136 zT_1079 rfl (zz_ltn hn rfl) (zz_G.eq G_S172 1079 63 1118 rfl rfl) (by decide) 1118 rfl ?_
                                            refine zz_iconst zd_14_104_265 ?_
                                            have g223 := zz_G.r G_S172 1118 2 0 9999 rfl rfl
                                            refine zz_iald (z := S172 1118 2) zd_14_104_266 zT_1118 rfl (zz_ltn hn rfl) (by decide) (by decide) rfl ?_
                                            refine zz_bipush (by decide) zd_14_104_267 ?_
                                            refine zz_aload_n (x := 1079) rfl zd_14_104_269 ?_
                                            refine zz_getr (kd := 0) (z := 1118) zd_14_104_270 zf_Md_136 zT_1079 rfl (zz_ltn hn rfl) (zz_G.eq G_S172 1079 63 1118 rfl rfl) (by decide) 1118 rfl ?_
                                            refine zz_iconst zd_14_104_273 ?_
                                            refine zz_iald (z := S172 1118 4) zd_14_104_274 zT_1118 rfl (zz_ltn hn rfl) (by decide) (by decide) rfl ?_
                                            refine zz_imul zd_14_104_275 ?_
                                            refine zz_aload_n (x := 1079) rfl zd_14_104_276 ?_
                                            refine zz_getr (kd := 0) (z := 1118) zd_14_104_277 zf_Md_136 zT_1079 rfl (zz_ltn hn rfl) (zz_G.eq G_S172 1079 63 1118 rfl rfl) (by decide) 1118 rfl ?_
                                            refine zz_iconst zd_14_104_280 ?_
                                            refine zz_iald (z := S172 1118 5) zd_14_104_281 zT_1118 rfl (zz_ltn hn rfl) (by decide) (by decide) rfl ?_
                                            refine zz_iadd zd_14_104_282 ?_
                                            refine zz_iload (x := (S172 1118 6) + (16 * (S172 1118 7))) rfl zd_14_104_283 ?_
                                            refine zz_aload_n (x := 1079) rfl zd_14_104_285 ?_
                                            refine zz_getr (kd := 0) (z := 1118) zd_14_104_286 zf_Md_136 zT_1079 rfl (zz_ltn hn rfl) (zz_G.eq G_S172 1079 63 1118 rfl rfl) (by decide) 1118 rfl ?_
                                            refine zz_iconst zd_14_104_289 ?_
                                            have g224 := zz_G.r G_S172 1118 3 0 9999 rfl rfl
                                            refine zz_iald (z := S172 1118 3) zd_14_104_290 zT_1118 rfl (zz_ltn hn rfl) (by decide) (by decide) rfl ?_
                                            refine zz_callVI [zi v165, zi ((10 * (S172 1118 0)) + (S172 1118 1)), zi (S172 1118 2), zi ((10 * (S172 1118 4)) + (S172 1118 5)), zi ((S172 1118 6) + (16 * (S172 1118 7))), zi (S172 1118 3)] zd_14_104_291 zk_Md_585 zT_1079 (zz_ltn hn rfl) rfl rfl ⟨Nat.le_of_ble_eq_true rfl, Nat.le_of_ble_eq_true rfl⟩ ⟨rfl, rfl⟩ (Nat.zero_le _) (Nat.zero_le _) (zc_convolution_14_67 v165 ((10 * (S172 1118 0)) + (S172 1118 1)) (S172 1118 2) ((10 * (S172 1118 4)) + (S172 1118 5)) ((S172 1118 6) + (16 * (S172 1118 7))) (S172 1118 3) S172 n hn G_S172 (by omega) (by omega) (by omega) (by omega) (by omega) (by omega)) (fun v226 S225 hP => ?_)
                                            obtain ⟨G_S225, fS225, o227⟩ := hP
                                            have F_S225 := zz_fr.trans F_S172 fS225 rfl zz_nv
                                            refine zz_istore [some (.ref 1079), some (zi 1), some (zi 0), some (zi v165), some (zi 0), some (zi ((S172 1118 6) + (16 * (S172 1118 7)))), some (zi ((10 * (S172 1118 0)) + (S172 1118 1))), some (zi 1), some (zi v226)] zd_14_104_294 (by decide) rfl ?_
                                            refine zz_goto zd_14_104_296 ?_
                                            refine zz_aload_n (x := 1079) rfl zd_14_104_362 ?_
                                            have g228 := zz_G.r G_S225 1079 0 0 3 rfl rfl
                                            refine zz_geti (z := S225 1079 0) zd_14_104_363 zf_Md_187 zT_1079 rfl (zz_ltn hn rfl) rfl ?_
                                            refine zz_if_le (by omega) zd_14_104_366 (fun c229 => ?_) (fun c229 => ?_)
                                            · refine zz_aload_n (x := 1079) rfl zd_14_104_371 ?_
                                              refine zz_getr (kd := 0) (z := 1117) zd_14_104_372 zf_Md_133 zT_1079 rfl (zz_ltn hn rfl) (zz_G.eq G_S225 1079 62 1117 rfl rfl) (by decide) 1117 rfl ?_
                                              refine zz_iload (x := v226) rfl zd_14_104_375 ?_
                                              refine zz_aload_n (x := 1079) rfl zd_14_104_377 ?_
                                              have g230 := zz_G.r G_S172 1079 64 (-9223372036854775808) 9223372036854775807 rfl rfl
                                              refine zz_getl (z := S172 1079 64) zd_14_104_378 zf_Md_564 zT_1079 rfl (zz_ltn hn rfl) (zz_rc fS225 rfl rfl (fun h => h) rfl) ?_
                                              refine zz_last zd_14_104_381 zT_1117 rfl (zz_ltn hn rfl) (by decide) (by omega) (fun S231 qS231 => ?_)
                                              have G_S231 := zz_G.put G_S225 qS231 (-9223372036854775808) 9223372036854775807 rfl (by omega)
                                              have F_S231 := zz_fr.putc F_S225 qS231 rfl
                                              refine zz_iconst zd_14_104_382 ?_
                                              exact zz_zret zd_14_104_383 rfl (by omega) (Nat.zero_le _) (Nat.zero_le _) ⟨_, _, rfl, G_S231, F_S231, by omega⟩
                                            · refine zz_iconst zd_14_104_369 ?_
                                              exact zz_zret zd_14_104_370 rfl (by omega) (Nat.zero_le _) (Nat.zero_le _) ⟨_, _, rfl, G_S225, F_S225, by omega⟩
                                          · refine zz_iconst zd_14_104_255 ?_
                                            exact zz_zret zd_14_104_256 rfl (by omega) (Nat.zero_le _) (Nat.zero_le _) ⟨_, _, rfl, G_S172, F_S172, by omega⟩
                  · exfalso; omega
        · exfalso; omega
      · exfalso; omega
    · refine zz_istore_n [some (.ref 1079), some (zi 1), some (zi 1)] zd_14_104_15 (by decide) rfl ?_
      refine zz_iload_n (x := 1) rfl zd_14_104_16 ?_
      refine zz_if_ne (by omega) zd_14_104_17 (fun c232 => ?_) (fun c232 => ?_)
      · refine zz_aload_n (x := 1079) rfl zd_14_104_36 ?_
        have g233 := zz_G.r G_S0 1079 32 0 1500 rfl rfl
        refine zz_callVV [] zd_14_104_37 zk_Md_526 zT_1079 (zz_ltn hn rfl) rfl rfl ⟨Nat.le_of_ble_eq_true rfl, Nat.le_of_ble_eq_true rfl⟩ ⟨rfl, rfl⟩ (Nat.zero_le _) (Nat.zero_le _) (zc_advanceNet_14_93  S0 n hn G_S0 ) (fun S234 hP => ?_)
        obtain ⟨G_S234, fS234, o236⟩ := hP
        have F_S234 := zz_fr.trans F_S0 fS234 rfl zz_nv
        refine zz_aload_n (x := 1079) rfl zd_14_104_40 ?_
        have g237 := zz_G.r G_S234 1079 30 0 102 rfl rfl
        have g238 := zz_G.r G_S234 1079 32 0 1500 rfl rfl
        refine zz_callVI [] zd_14_104_41 zk_Md_582 zT_1079 (zz_ltn hn rfl) rfl rfl ⟨Nat.le_of_ble_eq_true rfl, Nat.le_of_ble_eq_true rfl⟩ ⟨rfl, rfl⟩ (Nat.zero_le _) (Nat.zero_le _) (zc_takeTensor_14_102  S234 n hn G_S234 ) (fun v240 S239 hP => ?_)
        obtain ⟨G_S239, fS239, o241, o242⟩ := hP
        have F_S239 := zz_fr.trans F_S234 fS239 rfl zz_nv
        refine zz_istore_n [some (.ref 1079), some (zi 1), some (zi 1), some (zi v240)] zd_14_104_44 (by decide) rfl ?_
        refine zz_iload_n (x := 1) rfl zd_14_104_45 ?_
        refine zz_if_ne (by omega) zd_14_104_46 (fun c243 => ?_) (fun c243 => ?_)
        · refine zz_iconst zd_14_104_64 ?_
          refine zz_istore [some (.ref 1079), some (zi 1), some (zi 1), some (zi v240), some (zi 0)] zd_14_104_65 (by decide) rfl ?_
          refine zz_iload_n (x := v240) rfl zd_14_104_67 ?_
          refine zz_if_lt (by omega) zd_14_104_68 (fun c244 => ?_) (fun c244 => ?_)
          · refine zz_iconst zd_14_104_106 ?_
            exact zz_zret zd_14_104_107 rfl (by omega) (Nat.zero_le _) (Nat.zero_le _) ⟨_, _, rfl, G_S239, F_S239, by omega⟩
          · refine zz_iload (x := 0) rfl zd_14_104_71 ?_
            refine zz_if_lt (by omega) zd_14_104_73 (fun c245 => ?_) (fun c245 => ?_)
            · exfalso; omega
            · refine zz_aload_n (x := 1079) rfl zd_14_104_76 ?_
              refine zz_iload_n (x := 1) rfl zd_14_104_77 ?_
              refine zz_if_eq (by omega) zd_14_104_78 (fun c246 => ?_) (fun c246 => ?_)
              · exfalso; omega
              · refine zz_sipush (by decide) zd_14_104_81 ?_
                refine zz_goto zd_14_104_84 ?_
                refine zz_callVI [zi 255] zd_14_104_100 zk_Md_576 zT_1079 (zz_ltn hn rfl) rfl rfl ⟨Nat.le_of_ble_eq_true rfl, Nat.le_of_ble_eq_true rfl⟩ ⟨rfl, rfl⟩ (Nat.zero_le _) (Nat.zero_le _) (zc_takeParts_14_101 255 S239 n hn G_S239 (by omega)) (fun v248 S247 hP => ?_)
                obtain ⟨G_S247, fS247, o249⟩ := hP
                have F_S247 := zz_fr.trans F_S239 fS247 rfl zz_nv
                rcases (by omega : v248 = 0 ∨ v248 = 1) with rfl | rfl
                · refine zz_if_ne (by omega) zd_14_104_103 (fun c250 => ?_) (fun c250 => ?_)
                  · exfalso; omega
                  · refine zz_iconst zd_14_104_106 ?_
                    exact zz_zret zd_14_104_107 rfl (by omega) (Nat.zero_le _) (Nat.zero_le _) ⟨_, _, rfl, G_S247, F_S247, by omega⟩
                · refine zz_if_ne (by omega) zd_14_104_103 (fun c251 => ?_) (fun c251 => ?_)
                  · refine zz_aload_n (x := 1079) rfl zd_14_104_108 ?_
                    refine zz_getr (kd := 0) (z := 1118) zd_14_104_109 zf_Md_136 zT_1079 rfl (zz_ltn hn rfl) (zz_G.eq G_S247 1079 63 1118 rfl rfl) (by decide) 1118 rfl ?_
                    refine zz_bipush (by decide) zd_14_104_112 ?_
                    have g252 := zz_G.r G_S247 1118 6 0 9999 rfl rfl
                    refine zz_iald (z := S247 1118 6) zd_14_104_114 zT_1118 rfl (zz_ltn hn rfl) (by decide) (by decide) rfl ?_
                    refine zz_bipush (by decide) zd_14_104_115 ?_
                    refine zz_aload_n (x := 1079) rfl zd_14_104_117 ?_
                    refine zz_getr (kd := 0) (z := 1118) zd_14_104_118 zf_Md_136 zT_1079 rfl (zz_ltn hn rfl) (zz_G.eq G_S247 1079 63 1118 rfl rfl) (by decide) 1118 rfl ?_
                    refine zz_bipush (by decide) zd_14_104_121 ?_
                    have g253 := zz_G.r G_S247 1118 7 0 9999 rfl rfl
                    refine zz_iald (z := S247 1118 7) zd_14_104_123 zT_1118 rfl (zz_ltn hn rfl) (by decide) (by decide) rfl ?_
                    refine zz_imul zd_14_104_124 ?_
                    refine zz_iadd zd_14_104_125 ?_
                    refine zz_istore [some (.ref 1079), some (zi 1), some (zi 1), some (zi v240), some (zi 0), some (zi ((S247 1118 6) + (16 * (S247 1118 7))))] zd_14_104_126 (by decide) rfl ?_
                    refine zz_bipush (by decide) zd_14_104_128 ?_
                    refine zz_aload_n (x := 1079) rfl zd_14_104_130 ?_
                    refine zz_getr (kd := 0) (z := 1118) zd_14_104_131 zf_Md_136 zT_1079 rfl (zz_ltn hn rfl) (zz_G.eq G_S247 1079 63 1118 rfl rfl) (by decide) 1118 rfl ?_
                    refine zz_iconst zd_14_104_134 ?_
                    have g254 := zz_G.r G_S247 1118 0 0 9999 rfl rfl
                    refine zz_iald (z := S247 1118 0) zd_14_104_135 zT_1118 rfl (zz_ltn hn rfl) (by decide) (by decide) rfl ?_
                    refine zz_imul zd_14_104_136 ?_
                    refine zz_aload_n (x := 1079) rfl zd_14_104_137 ?_
                    refine zz_getr (kd := 0) (z := 1118) zd_14_104_138 zf_Md_136 zT_1079 rfl (zz_ltn hn rfl) (zz_G.eq G_S247 1079 63 1118 rfl rfl) (by decide) 1118 rfl ?_
                    refine zz_iconst zd_14_104_141 ?_
                    have g255 := zz_G.r G_S247 1118 1 0 9999 rfl rfl
                    refine zz_iald (z := S247 1118 1) zd_14_104_142 zT_1118 rfl (zz_ltn hn rfl) (by decide) (by decide) rfl ?_
                    refine zz_iadd zd_14_104_143 ?_
                    refine zz_istore [some (.ref 1079), some (zi 1), some (zi 1), some (zi v240), some (zi 0), some (zi ((S247 1118 6) + (16 * (S247 1118 7)))), some (zi ((10 * (S247 1118 0)) + (S247 1118 1)))] zd_14_104_144 (by decide) rfl ?_
                    refine zz_aload_n (x := 1079) rfl zd_14_104_146 ?_
                    refine zz_getr (kd := 0) (z := 1118) zd_14_104_147 zf_Md_136 zT_1079 rfl (zz_ltn hn rfl) (zz_G.eq G_S247 1079 63 1118 rfl rfl) (by decide) 1118 rfl ?_
                    refine zz_iconst zd_14_104_150 ?_
                    refine zz_iald (z := S247 1118 0) zd_14_104_151 zT_1118 rfl (zz_ltn hn rfl) (by decide) (by decide) rfl ?_
                    refine zz_i2l (by omega) zd_14_104_152 ?_
                    refine zz_lconst (z := 1) (by decide) zd_14_104_153 ?_
                    refine zz_ldc2 (z := 3) zq_Md_416 (by decide) zd_14_104_154 ?_
                    refine zz_callSI [zl (S247 1118 0), zl 1, zl 3] zd_14_104_157 zk_Md_192 rfl rfl ⟨Nat.le_of_ble_eq_true rfl, Nat.le_of_ble_eq_true rfl⟩ ⟨rfl, rfl⟩ (Nat.zero_le _) (Nat.zero_le _) (zc_in_14_4 (S247 1118 0) 1 3 S247 n hn G_S247 (by omega) (by omega) (by omega)) (fun v257 S256 hP => ?_)
                    obtain ⟨rfl, o258, o259⟩ := hP
                    rcases (by omega : v257 = 0 ∨ v257 = 1) with rfl | rfl
                    · refine zz_if_eq (by omega) zd_14_104_160 (fun c260 => ?_) (fun c260 => ?_)
                      · refine zz_iconst zd_14_104_184 ?_
                        refine zz_istore [some (.ref 1079), some (zi 1), some (zi 1), some (zi v240), some (zi 0), some (zi ((S247 1118 6) + (16 * (S247 1118 7)))), some (zi ((10 * (S247 1118 0)) + (S247 1118 1))), some (zi 0)] zd_14_104_185 (by decide) rfl ?_
                        refine zz_iconst zd_14_104_187 ?_
                        refine zz_istore [some (.ref 1079), some (zi 1), some (zi 1), some (zi v240), some (zi 0), some (zi ((S247 1118 6) + (16 * (S247 1118 7)))), some (zi ((10 * (S247 1118 0)) + (S247 1118 1))), some (zi 0), some (zi (-1))] zd_14_104_188 (by decide) rfl ?_
                        refine zz_iload_n (x := 1) rfl zd_14_104_190 ?_
                        refine zz_if_eq (by omega) zd_14_104_191 (fun c261 => ?_) (fun c261 => ?_)
                        · exfalso; omega
                        · refine zz_aload_n (x := 1079) rfl zd_14_104_194 ?_
                          have g262 := zz_G.r G_S247 1079 65 0 255 rfl rfl
                          refine zz_geti (z := S247 1079 65) zd_14_104_195 zf_Md_567 zT_1079 rfl (zz_ltn hn rfl) rfl ?_
                          refine zz_bipush (by decide) zd_14_104_198 ?_
                          refine zz_iand (by omega) (by omega) zd_14_104_200 (fun v263 hv263 av263 bv263 ev263 => ?_)
                          refine zz_bipush (by decide) zd_14_104_201 ?_
                          refine zz_icmp_ne (by omega) (by omega) zd_14_104_203 (fun c264 => ?_) (fun c264 => ?_)
                          · refine zz_iconst zd_14_104_255 ?_
                            exact zz_zret zd_14_104_256 rfl (by omega) (Nat.zero_le _) (Nat.zero_le _) ⟨_, _, rfl, G_S247, F_S247, by omega⟩
                          · refine zz_iload (x := 0) rfl zd_14_104_206 ?_
                            refine zz_if_eq (by omega) zd_14_104_208 (fun c265 => ?_) (fun c265 => ?_)
                            · refine zz_iconst zd_14_104_255 ?_
                              exact zz_zret zd_14_104_256 rfl (by omega) (Nat.zero_le _) (Nat.zero_le _) ⟨_, _, rfl, G_S247, F_S247, by omega⟩
                            · exfalso; omega
                      · exfalso; omega
                    · refine zz_if_eq (by omega) zd_14_104_160 (fun c266 => ?_) (fun c266 => ?_)
                      · exfalso; omega
                      · refine zz_aload_n (x := 1079) rfl zd_14_104_163 ?_
                        refine zz_getr (kd := 0) (z := 1118) zd_14_104_164 zf_Md_136 zT_1079 rfl (zz_ltn hn rfl) (zz_G.eq G_S247 1079 63 1118 rfl rfl) (by decide) 1118 rfl ?_
                        refine zz_iconst zd_14_104_167 ?_
                        refine zz_iald (z := S247 1118 1) zd_14_104_168 zT_1118 rfl (zz_ltn hn rfl) (by decide) (by decide) rfl ?_
                        refine zz_i2l (by omega) zd_14_104_169 ?_
                        refine zz_lconst (z := 1) (by decide) zd_14_104_170 ?_
                        refine zz_ldc2 (z := 3) zq_Md_416 (by decide) zd_14_104_171 ?_
                        refine zz_callSI [zl (S247 1118 1), zl 1, zl 3] zd_14_104_174 zk_Md_192 rfl rfl ⟨Nat.le_of_ble_eq_true rfl, Nat.le_of_ble_eq_true rfl⟩ ⟨rfl, rfl⟩ (Nat.zero_le _) (Nat.zero_le _) (zc_in_14_4 (S247 1118 1) 1 3 S247 n hn G_S247 (by omega) (by omega) (by omega)) (fun v268 S267 hP => ?_)
                        obtain ⟨rfl, o269, o270⟩ := hP
                        rcases (by omega : v268 = 0 ∨ v268 = 1) with rfl | rfl
                        · refine zz_if_eq (by omega) zd_14_104_177 (fun c271 => ?_) (fun c271 => ?_)
                          · refine zz_iconst zd_14_104_184 ?_
                            refine zz_istore [some (.ref 1079), some (zi 1), some (zi 1), some (zi v240), some (zi 0), some (zi ((S247 1118 6) + (16 * (S247 1118 7)))), some (zi ((10 * (S247 1118 0)) + (S247 1118 1))), some (zi 0)] zd_14_104_185 (by decide) rfl ?_
                            refine zz_iconst zd_14_104_187 ?_
                            refine zz_istore [some (.ref 1079), some (zi 1), some (zi 1), some (zi v240), some (zi 0), some (zi ((S247 1118 6) + (16 * (S247 1118 7)))), some (zi ((10 * (S247 1118 0)) + (S247 1118 1))), some (zi 0), some (zi (-1))] zd_14_104_188 (by decide) rfl ?_
                            refine zz_iload_n (x := 1) rfl zd_14_104_190 ?_
                            refine zz_if_eq (by omega) zd_14_104_191 (fun c272 => ?_) (fun c272 => ?_)
                            · exfalso; omega
                            · refine zz_aload_n (x := 1079) rfl zd_14_104_194 ?_
                              have g273 := zz_G.r G_S247 1079 65 0 255 rfl rfl
                              refine zz_geti (z := S247 1079 65) zd_14_104_195 zf_Md_567 zT_1079 rfl (zz_ltn hn rfl) rfl ?_
                              refine zz_bipush (by decide) zd_14_104_198 ?_
                              refine zz_iand (by omega) (by omega) zd_14_104_200 (fun v274 hv274 av274 bv274 ev274 => ?_)
                              refine zz_bipush (by decide) zd_14_104_201 ?_
                              refine zz_icmp_ne (by omega) (by omega) zd_14_104_203 (fun c275 => ?_) (fun c275 => ?_)
                              · refine zz_iconst zd_14_104_255 ?_
                                exact zz_zret zd_14_104_256 rfl (by omega) (Nat.zero_le _) (Nat.zero_le _) ⟨_, _, rfl, G_S247, F_S247, by omega⟩
                              · refine zz_iload (x := 0) rfl zd_14_104_206 ?_
                                refine zz_if_eq (by omega) zd_14_104_208 (fun c276 => ?_) (fun c276 => ?_)
                                · refine zz_iconst zd_14_104_255 ?_
                                  exact zz_zret zd_14_104_256 rfl (by omega) (Nat.zero_le _) (Nat.zero_le _) ⟨_, _, rfl, G_S247, F_S247, by omega⟩
                                · exfalso; omega
                          · exfalso; omega
                        · refine zz_if_eq (by omega) zd_14_104_177 (fun c277 => ?_) (fun c277 => ?_)
                          · exfalso; omega
                          · refine zz_iconst zd_14_104_180 ?_
                            refine zz_goto zd_14_104_181 ?_
                            refine zz_istore [some (.ref 1079), some (zi 1), some (zi 1), some (zi v240), some (zi 0), some (zi ((S247 1118 6) + (16 * (S247 1118 7)))), some (zi ((10 * (S247 1118 0)) + (S247 1118 1))), some (zi 1)] zd_14_104_185 (by decide) rfl ?_
                            refine zz_iconst zd_14_104_187 ?_
                            refine zz_istore [some (.ref 1079), some (zi 1), some (zi 1), some (zi v240), some (zi 0), some (zi ((S247 1118 6) + (16 * (S247 1118 7)))), some (zi ((10 * (S247 1118 0)) + (S247 1118 1))), some (zi 1), some (zi (-1))] zd_14_104_188 (by decide) rfl ?_
                            refine zz_iload_n (x := 1) rfl zd_14_104_190 ?_
                            refine zz_if_eq (by omega) zd_14_104_191 (fun c278 => ?_) (fun c278 => ?_)
                            · exfalso; omega
                            · refine zz_aload_n (x := 1079) rfl zd_14_104_194 ?_
                              have g279 := zz_G.r G_S247 1079 65 0 255 rfl rfl
                              refine zz_geti (z := S247 1079 65) zd_14_104_195 zf_Md_567 zT_1079 rfl (zz_ltn hn rfl) rfl ?_
                              refine zz_bipush (by decide) zd_14_104_198 ?_
                              refine zz_iand (by omega) (by omega) zd_14_104_200 (fun v280 hv280 av280 bv280 ev280 => ?_)
                              refine zz_bipush (by decide) zd_14_104_201 ?_
                              refine zz_icmp_ne (by omega) (by omega) zd_14_104_203 (fun c281 => ?_) (fun c281 => ?_)
                              · refine zz_iconst zd_14_104_255 ?_
                                exact zz_zret zd_14_104_256 rfl (by omega) (Nat.zero_le _) (Nat.zero_le _) ⟨_, _, rfl, G_S247, F_S247, by omega⟩
                              · refine zz_iload (x := 1) rfl zd_14_104_206 ?_
                                refine zz_if_eq (by omega) zd_14_104_208 (fun c282 => ?_) (fun c282 => ?_)
                                · exfalso; omega
                                · refine zz_aload_n (x := 1079) rfl zd_14_104_211 ?_
                                  refine zz_getr (kd := 0) (z := 1118) zd_14_104_212 zf_Md_136 zT_1079 rfl (zz_ltn hn rfl) (zz_G.eq G_S247 1079 63 1118 rfl rfl) (by decide) 1118 rfl ?_
                                  refine zz_iconst zd_14_104_215 ?_
                                  have g283 := zz_G.r G_S247 1118 4 0 9999 rfl rfl
                                  refine zz_iald (z := S247 1118 4) zd_14_104_216 zT_1118 rfl (zz_ltn hn rfl) (by decide) (by decide) rfl ?_
                                  refine zz_i2l (by omega) zd_14_104_217 ?_
                                  refine zz_lconst (z := 1) (by decide) zd_14_104_218 ?_
                                  refine zz_ldc2 (z := 2) zq_Md_169 (by decide) zd_14_104_219 ?_
                                  refine zz_callSI [zl (S247 1118 4), zl 1, zl 2] zd_14_104_222 zk_Md_192 rfl rfl ⟨Nat.le_of_ble_eq_true rfl, Nat.le_of_ble_eq_true rfl⟩ ⟨rfl, rfl⟩ (Nat.zero_le _) (Nat.zero_le _) (zc_in_14_4 (S247 1118 4) 1 2 S247 n hn G_S247 (by omega) (by omega) (by omega)) (fun v285 S284 hP => ?_)
                                  obtain ⟨rfl, o286, o287⟩ := hP
                                  rcases (by omega : v285 = 0 ∨ v285 = 1) with rfl | rfl
                                  · refine zz_if_eq (by omega) zd_14_104_225 (fun c288 => ?_) (fun c288 => ?_)
                                    · refine zz_iconst zd_14_104_255 ?_
                                      exact zz_zret zd_14_104_256 rfl (by omega) (Nat.zero_le _) (Nat.zero_le _) ⟨_, _, rfl, G_S247, F_S247, by omega⟩
                                    · exfalso; omega
                                  · refine zz_if_eq (by omega) zd_14_104_225 (fun c289 => ?_) (fun c289 => ?_)
                                    · exfalso; omega
                                    · refine zz_aload_n (x := 1079) rfl zd_14_104_228 ?_
                                      refine zz_getr (kd := 0) (z := 1118) zd_14_104_229 zf_Md_136 zT_1079 rfl (zz_ltn hn rfl) (zz_G.eq G_S247 1079 63 1118 rfl rfl) (by decide) 1118 rfl ?_
                                      refine zz_iconst zd_14_104_232 ?_
                                      have g290 := zz_G.r G_S247 1118 5 0 9999 rfl rfl
                                      refine zz_iald (z := S247 1118 5) zd_14_104_233 zT_1118 rfl (zz_ltn hn rfl) (by decide) (by decide) rfl ?_
                                      refine zz_i2l (by omega) zd_14_104_234 ?_
                                      refine zz_lconst (z := 0) (by decide) zd_14_104_235 ?_
                                      refine zz_lconst (z := 1) (by decide) zd_14_104_236 ?_
                                      refine zz_callSI [zl (S247 1118 5), zl 0, zl 1] zd_14_104_237 zk_Md_192 rfl rfl ⟨Nat.le_of_ble_eq_true rfl, Nat.le_of_ble_eq_true rfl⟩ ⟨rfl, rfl⟩ (Nat.zero_le _) (Nat.zero_le _) (zc_in_14_4 (S247 1118 5) 0 1 S247 n hn G_S247 (by omega) (by omega) (by omega)) (fun v292 S291 hP => ?_)
                                      obtain ⟨rfl, o293, o294⟩ := hP
                                      rcases (by omega : v292 = 0 ∨ v292 = 1) with rfl | rfl
                                      · refine zz_if_eq (by omega) zd_14_104_240 (fun c295 => ?_) (fun c295 => ?_)
                                        · refine zz_iconst zd_14_104_255 ?_
                                          exact zz_zret zd_14_104_256 rfl (by omega) (Nat.zero_le _) (Nat.zero_le _) ⟨_, _, rfl, G_S247, F_S247, by omega⟩
                                        · exfalso; omega
                                      · refine zz_if_eq (by omega) zd_14_104_240 (fun c296 => ?_) (fun c296 => ?_)
                                        · exfalso; omega
                                        · refine zz_aload_n (x := 1079) rfl zd_14_104_243 ?_
                                          refine zz_getr (kd := 0) (z := 1118) zd_14_104_244 zf_Md_136 zT_1079 rfl (zz_ltn hn rfl) (zz_G.eq G_S247 1079 63 1118 rfl rfl) (by decide) 1118 rfl ?_
                                          refine zz_bipush (by decide) zd_14_104_247 ?_
                                          refine zz_iald (z := S247 1118 6) zd_14_104_249 zT_1118 rfl (zz_ltn hn rfl) (by decide) (by decide) rfl ?_
                                          refine zz_bipush (by decide) zd_14_104_250 ?_
                                          refine zz_icmp_le (by omega) (by omega) zd_14_104_252 (fun c297 => ?_) (fun c297 => ?_)
                                          · refine zz_aload_n (x := 1079) rfl zd_14_104_257 ?_
                                            refine zz_iload_n (x := v240) rfl zd_14_104_258 ?_
                                            refine zz_iload (x := (10 * (S247 1118 0)) + (S247 1118 1)) rfl zd_14_104_259 ?_
                                            refine zz_aload_n (x := 1079) rfl zd_14_104_261 ?_
                                            refine zz_getr (kd := 0) (z := 1118) zd_14_104_262 zf_Md_136 zT_1079 rfl (zz_ltn hn rfl) (zz_G.eq G_S247 1079 63 1118 rfl rfl) (by decide) 1118 rfl ?_
                                            refine zz_iconst zd_14_104_265 ?_
                                            have g298 := zz_G.r G_S247 1118 2 0 9999 rfl rfl
                                            refine zz_iald (z := S247 1118 2) zd_14_104_266 zT_1118 rfl (zz_ltn hn rfl) (by decide) (by decide) rfl ?_
                                            refine zz_bipush (by decide) zd_14_104_267 ?_
                                            refine zz_aload_n (x := 1079) rfl zd_14_104_269 ?_
                                            refine zz_getr (kd := 0) (z := 1118) zd_14_104_270 zf_Md_136 zT_1079 rfl (zz_ltn hn rfl) (zz_G.eq G_S247 1079 63 1118 rfl rfl) (by decide) 1118 rfl ?_
                                            refine zz_iconst zd_14_104_273 ?_
                                            refine zz_iald (z := S247 1118 4) zd_14_104_274 zT_1118 rfl (zz_ltn hn rfl) (by decide) (by decide) rfl ?_
                                            refine zz_imul zd_14_104_275 ?_
                                            refine zz_aload_n (x := 1079) rfl zd_14_104_276 ?_
                                            refine zz_getr (kd := 0) (z := 1118) zd_14_104_277 zf_Md_136 zT_1079 rfl (zz_ltn hn rfl) (zz_G.eq G_S247 1079 63 1118 rfl rfl) (by decide) 1118 rfl ?_
                                            refine zz_iconst zd_14_104_280 ?_
                                            refine zz_iald (z := S247 1118 5) zd_14_104_281 zT_1118 rfl (zz_ltn hn rfl) (by decide) (by decide) rfl ?_
                                            refine zz_iadd zd_14_104_282 ?_
                                            refine zz_iload (x := (S247 1118 6) + (16 * (S247 1118 7))) rfl zd_14_104_283 ?_
                                            refine zz_aload_n (x := 1079) rfl zd_14_104_285 ?_
                                            refine zz_getr (kd := 0) (z := 1118) zd_14_104_286 zf_Md_136 zT_1079 rfl (zz_ltn hn rfl) (zz_G.eq G_S247 1079 63 1118 rfl rfl) (by decide) 1118 rfl ?_
                                            refine zz_iconst zd_14_104_289 ?_
                                            have g299 := zz_G.r G_S247 1118 3 0 9999 rfl rfl
                                            refine zz_iald (z := S247 1118 3) zd_14_104_290 zT_1118 rfl (zz_ltn hn rfl) (by decide) (by decide) rfl ?_
                                            refine zz_callVI [zi v240, zi ((10 * (S247 1118 0)) + (S247 1118 1)), zi (S247 1118 2), zi ((10 * (S247 1118 4)) + (S247 1118 5)), zi ((S247 1118 6) + (16 * (S247 1118 7))), zi (S247 1118 3)] zd_14_104_291 zk_Md_585 zT_1079 (zz_ltn hn rfl) rfl rfl ⟨Nat.le_of_ble_eq_true rfl, Nat.le_of_ble_eq_true rfl⟩ ⟨rfl, rfl⟩ (Nat.zero_le _) (Nat.zero_le _) (zc_convolution_14_67 v240 ((10 * (S247 1118 0)) + (S247 1118 1)) (S247 1118 2) ((10 * (S247 1118 4)) + (S247 1118 5)) ((S247 1118 6) + (16 * (S247 1118 7))) (S247 1118 3) S247 n hn G_S247 (by omega) (by omega) (by omega) (by omega) (by omega) (by omega)) (fun v301 S300 hP => ?_)
                                            obtain ⟨G_S300, fS300, o302⟩ := hP
                                            have F_S300 := zz_fr.trans F_S247 fS300 rfl zz_nv
                                            refine zz_istore [some (.ref 1079), some (zi 1), some (zi 1), some (zi v240), some (zi 0), some (zi ((S247 1118 6) + (16 * (S247 1118 7)))), some (zi ((10 * (S247 1118 0)) + (S247 1118 1))), some (zi 1), some (zi v301)] zd_14_104_294 (by decide) rfl ?_
                                            refine zz_goto zd_14_104_296 ?_
                                            refine zz_aload_n (x := 1079) rfl zd_14_104_362 ?_
                                            have g303 := zz_G.r G_S300 1079 0 0 3 rfl rfl
                                            refine zz_geti (z := S300 1079 0) zd_14_104_363 zf_Md_187 zT_1079 rfl (zz_ltn hn rfl) rfl ?_
                                            refine zz_if_le (by omega) zd_14_104_366 (fun c304 => ?_) (fun c304 => ?_)
                                            · refine zz_aload_n (x := 1079) rfl zd_14_104_371 ?_
                                              refine zz_getr (kd := 0) (z := 1117) zd_14_104_372 zf_Md_133 zT_1079 rfl (zz_ltn hn rfl) (zz_G.eq G_S300 1079 62 1117 rfl rfl) (by decide) 1117 rfl ?_
                                              refine zz_iload (x := v301) rfl zd_14_104_375 ?_
                                              refine zz_aload_n (x := 1079) rfl zd_14_104_377 ?_
                                              have g305 := zz_G.r G_S247 1079 64 (-9223372036854775808) 9223372036854775807 rfl rfl
                                              refine zz_getl (z := S247 1079 64) zd_14_104_378 zf_Md_564 zT_1079 rfl (zz_ltn hn rfl) (zz_rc fS300 rfl rfl (fun h => h) rfl) ?_
                                              refine zz_last zd_14_104_381 zT_1117 rfl (zz_ltn hn rfl) (by decide) (by omega) (fun S306 qS306 => ?_)
                                              have G_S306 := zz_G.put G_S300 qS306 (-9223372036854775808) 9223372036854775807 rfl (by omega)
                                              have F_S306 := zz_fr.putc F_S300 qS306 rfl
                                              refine zz_iconst zd_14_104_382 ?_
                                              exact zz_zret zd_14_104_383 rfl (by omega) (Nat.zero_le _) (Nat.zero_le _) ⟨_, _, rfl, G_S306, F_S306, by omega⟩
                                            · refine zz_iconst zd_14_104_369 ?_
                                              exact zz_zret zd_14_104_370 rfl (by omega) (Nat.zero_le _) (Nat.zero_le _) ⟨_, _, rfl, G_S300, F_S300, by omega⟩
                                          · refine zz_iconst zd_14_104_255 ?_
                                            exact zz_zret zd_14_104_256 rfl (by omega) (Nat.zero_le _) (Nat.zero_le _) ⟨_, _, rfl, G_S247, F_S247, by omega⟩
                  · exfalso; omega
        · exfalso; omega
      · exfalso; omega
abbrev zy_network_14_105 : mm_Y := (⟨"TensorForgeModel", "network", "()I"⟩, prog_14_method_105_code, 6, (some .int))
theorem zyw_network_14_105 : mm_Yw zy_network_14_105 0 := ⟨mm_tb_1 2187 (by decide +kernel) rfl, mm_tb_1 12 (by decide +kernel) rfl, ⟨by decide, by decide⟩, by decide +kernel⟩
theorem zd_14_105_0 : zz_D zy_network_14_105 0 (.aload_n 0) 1 1 := ⟨by decide +kernel, rfl⟩
theorem zd_14_105_1 : zz_D zy_network_14_105 1 (.iconst 0) 1 2 := ⟨by decide +kernel, rfl⟩
theorem zd_14_105_2 : zz_D zy_network_14_105 2 (.putfield 187) 3 5 := ⟨by decide +kernel, rfl⟩
theorem zd_14_105_5 : zz_D zy_network_14_105 5 (.aload_n 0) 1 6 := ⟨by decide +kernel, rfl⟩
theorem zd_14_105_6 : zz_D zy_network_14_105 6 (.iconst 0) 1 7 := ⟨by decide +kernel, rfl⟩
theorem zd_14_105_7 : zz_D zy_network_14_105 7 (.invokevirtual 595) 3 10 := ⟨by decide +kernel, rfl⟩
theorem zk_Md_595 : mm_Vl "TensorForgeModel" 595 11 1 zy_keepNetwork_14_91 := ⟨zyw_keepNetwork_14_91, (R_Md, F_Md, 69), rfl, mm_tb_1 2188 (by decide +kernel) rfl, mm_tb_1 2190 (by decide +kernel) rfl, mm_tb_s 138 (by decide +kernel) rfl⟩
theorem zd_14_105_10 : zz_D zy_network_14_105 10 (.iconst 0) 1 11 := ⟨by decide +kernel, rfl⟩
theorem zd_14_105_11 : zz_D zy_network_14_105 11 (.istore_n 1) 1 12 := ⟨by decide +kernel, rfl⟩
theorem zd_14_105_12 : zz_D zy_network_14_105 12 (.iconst 0) 1 13 := ⟨by decide +kernel, rfl⟩
theorem zd_14_105_13 : zz_D zy_network_14_105 13 (.istore_n 2) 1 14 := ⟨by decide +kernel, rfl⟩
theorem zd_14_105_14 : zz_D zy_network_14_105 14 (.iconst 0) 1 15 := ⟨by decide +kernel, rfl⟩
theorem zd_14_105_15 : zz_D zy_network_14_105 15 (.istore_n 3) 1 16 := ⟨by decide +kernel, rfl⟩
theorem zd_14_105_16 : zz_D zy_network_14_105 16 (.iconst 1) 1 17 := ⟨by decide +kernel, rfl⟩
theorem zd_14_105_17 : zz_D zy_network_14_105 17 (.istore 4) 2 19 := ⟨by decide +kernel, rfl⟩
theorem zd_14_105_19 : zz_D zy_network_14_105 19 (.iload_n 3) 1 20 := ⟨by decide +kernel, rfl⟩
theorem zd_14_105_20 : zz_D zy_network_14_105 20 (.aload_n 0) 1 21 := ⟨by decide +kernel, rfl⟩
theorem zd_14_105_21 : zz_D zy_network_14_105 21 (.getfield 331) 3 24 := ⟨by decide +kernel, rfl⟩
theorem zd_14_105_24 : zz_B zy_network_14_105 24 (Instr.if_icmp .gt) 149 27 := ⟨125, by decide +kernel, rfl, rfl⟩
theorem zd_14_105_149 : zz_D zy_network_14_105 149 (.aload_n 0) 1 150 := ⟨by decide +kernel, rfl⟩
theorem zd_14_105_150 : zz_D zy_network_14_105 150 (.iconst 0) 1 151 := ⟨by decide +kernel, rfl⟩
theorem zd_14_105_151 : zz_D zy_network_14_105 151 (.putfield 187) 3 154 := ⟨by decide +kernel, rfl⟩
theorem zd_14_105_154 : zz_D zy_network_14_105 154 (.iload 4) 2 156 := ⟨by decide +kernel, rfl⟩
theorem zd_14_105_156 : zz_B zy_network_14_105 156 (Instr.ifCond .eq) 165 159 := ⟨9, by decide +kernel, rfl, rfl⟩
theorem zd_14_105_159 : zz_D zy_network_14_105 159 (.iload_n 1) 1 160 := ⟨by decide +kernel, rfl⟩
theorem zd_14_105_160 : zz_B zy_network_14_105 160 (Instr.ifCond .eq) 165 163 := ⟨5, by decide +kernel, rfl, rfl⟩
theorem zd_14_105_165 : zz_D zy_network_14_105 165 (.aload_n 0) 1 166 := ⟨by decide +kernel, rfl⟩
theorem zd_14_105_166 : zz_D zy_network_14_105 166 (.iconst 1) 1 167 := ⟨by decide +kernel, rfl⟩
theorem zd_14_105_167 : zz_D zy_network_14_105 167 (.invokevirtual 595) 3 170 := ⟨by decide +kernel, rfl⟩
theorem zd_14_105_170 : zz_D zy_network_14_105 170 (.iload 4) 2 172 := ⟨by decide +kernel, rfl⟩
theorem zd_14_105_172 : zz_B zy_network_14_105 172 (Instr.ifCond .eq) 179 175 := ⟨7, by decide +kernel, rfl, rfl⟩
theorem zd_14_105_175 : zz_D zy_network_14_105 175 (.iload_n 2) 1 176 := ⟨by decide +kernel, rfl⟩
theorem zd_14_105_176 : zz_B zy_network_14_105 176 Instr.goto 182 179 := ⟨6, by decide +kernel, rfl, rfl⟩
theorem zd_14_105_182 : zz_D zy_network_14_105 182 (.ireturn) 1 183 := ⟨by decide +kernel, rfl⟩
theorem zd_14_105_27 : zz_D zy_network_14_105 27 (.iload 4) 2 29 := ⟨by decide +kernel, rfl⟩
theorem zd_14_105_29 : zz_B zy_network_14_105 29 (Instr.ifCond .eq) 149 32 := ⟨120, by decide +kernel, rfl, rfl⟩
theorem zd_14_105_32 : zz_D zy_network_14_105 32 (.iload_n 3) 1 33 := ⟨by decide +kernel, rfl⟩
theorem zd_14_105_33 : zz_D zy_network_14_105 33 (.istore 5) 2 35 := ⟨by decide +kernel, rfl⟩
theorem zd_14_105_35 : zz_D zy_network_14_105 35 (.iload 5) 2 37 := ⟨by decide +kernel, rfl⟩
theorem zd_14_105_37 : zz_D zy_network_14_105 37 (.aload_n 0) 1 38 := ⟨by decide +kernel, rfl⟩
theorem zd_14_105_38 : zz_D zy_network_14_105 38 (.getfield 331) 3 41 := ⟨by decide +kernel, rfl⟩
theorem zd_14_105_41 : zz_B zy_network_14_105 41 (Instr.if_icmp .ge) 62 44 := ⟨21, by decide +kernel, rfl, rfl⟩
theorem zd_14_105_62 : zz_D zy_network_14_105 62 (.aload_n 0) 1 63 := ⟨by decide +kernel, rfl⟩
theorem zd_14_105_63 : zz_D zy_network_14_105 63 (.iload_n 3) 1 64 := ⟨by decide +kernel, rfl⟩
theorem zd_14_105_64 : zz_D zy_network_14_105 64 (.putfield 337) 3 67 := ⟨by decide +kernel, rfl⟩
theorem zd_14_105_44 : zz_D zy_network_14_105 44 (.aload_n 0) 1 45 := ⟨by decide +kernel, rfl⟩
theorem zd_14_105_45 : zz_D zy_network_14_105 45 (.getfield 76) 3 48 := ⟨by decide +kernel, rfl⟩
theorem zd_14_105_48 : zz_D zy_network_14_105 48 (.iload 5) 2 50 := ⟨by decide +kernel, rfl⟩
theorem zd_14_105_50 : zz_D zy_network_14_105 50 (.iaload) 1 51 := ⟨by decide +kernel, rfl⟩
theorem zd_14_105_51 : zz_D zy_network_14_105 51 (.bipush 10) 2 53 := ⟨by decide +kernel, rfl⟩
theorem zd_14_105_53 : zz_B zy_network_14_105 53 (Instr.if_icmp .eq) 62 56 := ⟨9, by decide +kernel, rfl, rfl⟩
theorem zd_14_105_56 : zz_D zy_network_14_105 56 (.iinc 5 1) 3 59 := ⟨by decide +kernel, rfl⟩
theorem zd_14_105_59 : zz_B zy_network_14_105 59 Instr.goto 35 62 := ⟨(-24), by decide +kernel, rfl, rfl⟩
theorem zd_14_105_67 : zz_D zy_network_14_105 67 (.aload_n 0) 1 68 := ⟨by decide +kernel, rfl⟩
theorem zd_14_105_68 : zz_D zy_network_14_105 68 (.getfield 337) 3 71 := ⟨by decide +kernel, rfl⟩
theorem zd_14_105_71 : zz_D zy_network_14_105 71 (.iload 5) 2 73 := ⟨by decide +kernel, rfl⟩
theorem zd_14_105_73 : zz_B zy_network_14_105 73 (Instr.if_icmp .ge) 103 76 := ⟨30, by decide +kernel, rfl, rfl⟩
theorem zd_14_105_103 : zz_D zy_network_14_105 103 (.aload_n 0) 1 104 := ⟨by decide +kernel, rfl⟩
theorem zd_14_105_104 : zz_D zy_network_14_105 104 (.iload_n 3) 1 105 := ⟨by decide +kernel, rfl⟩
theorem zd_14_105_105 : zz_D zy_network_14_105 105 (.putfield 334) 3 108 := ⟨by decide +kernel, rfl⟩
theorem zd_14_105_108 : zz_D zy_network_14_105 108 (.aload_n 0) 1 109 := ⟨by decide +kernel, rfl⟩
theorem zd_14_105_109 : zz_D zy_network_14_105 109 (.invokevirtual 526) 3 112 := ⟨by decide +kernel, rfl⟩
theorem zd_14_105_112 : zz_D zy_network_14_105 112 (.aload_n 0) 1 113 := ⟨by decide +kernel, rfl⟩
theorem zd_14_105_113 : zz_D zy_network_14_105 113 (.getfield 347) 3 116 := ⟨by decide +kernel, rfl⟩
theorem zd_14_105_116 : zz_B zy_network_14_105 116 (Instr.ifCond .eq) 138 119 := ⟨22, by decide +kernel, rfl, rfl⟩
theorem zd_14_105_138 : zz_D zy_network_14_105 138 (.iload 5) 2 140 := ⟨by decide +kernel, rfl⟩
theorem zd_14_105_140 : zz_D zy_network_14_105 140 (.iconst 1) 1 141 := ⟨by decide +kernel, rfl⟩
theorem zd_14_105_141 : zz_D zy_network_14_105 141 (.iadd) 1 142 := ⟨by decide +kernel, rfl⟩
theorem zd_14_105_142 : zz_D zy_network_14_105 142 (.istore_n 3) 1 143 := ⟨by decide +kernel, rfl⟩
theorem zd_14_105_143 : zz_D zy_network_14_105 143 (.iinc 2 1) 3 146 := ⟨by decide +kernel, rfl⟩
theorem zd_14_105_146 : zz_B zy_network_14_105 146 Instr.goto 19 149 := ⟨(-127), by decide +kernel, rfl, rfl⟩
theorem zd_14_105_119 : zz_D zy_network_14_105 119 (.iload_n 1) 1 120 := ⟨by decide +kernel, rfl⟩
theorem zd_14_105_120 : zz_B zy_network_14_105 120 (Instr.ifCond .eq) 130 123 := ⟨10, by decide +kernel, rfl, rfl⟩
theorem zd_14_105_130 : zz_D zy_network_14_105 130 (.aload_n 0) 1 131 := ⟨by decide +kernel, rfl⟩
theorem zd_14_105_131 : zz_D zy_network_14_105 131 (.invokevirtual 601) 3 134 := ⟨by decide +kernel, rfl⟩
theorem zk_Md_601 : mm_Vl "TensorForgeModel" 601 11 0 zy_readInput_14_103 := ⟨zyw_readInput_14_103, (R_Md, F_Md, 69), rfl, mm_tb_1 2252 (by decide +kernel) rfl, mm_tb_1 2254 (by decide +kernel) rfl, mm_tb_s 151 (by decide +kernel) rfl⟩
theorem zd_14_105_134 : zz_D zy_network_14_105 134 (.istore 4) 2 136 := ⟨by decide +kernel, rfl⟩
theorem zd_14_105_136 : zz_D zy_network_14_105 136 (.iconst 1) 1 137 := ⟨by decide +kernel, rfl⟩
theorem zd_14_105_137 : zz_D zy_network_14_105 137 (.istore_n 1) 1 138 := ⟨by decide +kernel, rfl⟩
theorem zd_14_105_76 : zz_D zy_network_14_105 76 (.aload_n 0) 1 77 := ⟨by decide +kernel, rfl⟩
theorem zd_14_105_77 : zz_D zy_network_14_105 77 (.getfield 76) 3 80 := ⟨by decide +kernel, rfl⟩
theorem zd_14_105_80 : zz_D zy_network_14_105 80 (.aload_n 0) 1 81 := ⟨by decide +kernel, rfl⟩
theorem zd_14_105_81 : zz_D zy_network_14_105 81 (.getfield 337) 3 84 := ⟨by decide +kernel, rfl⟩
theorem zd_14_105_84 : zz_D zy_network_14_105 84 (.iaload) 1 85 := ⟨by decide +kernel, rfl⟩
theorem zd_14_105_85 : zz_D zy_network_14_105 85 (.bipush 35) 2 87 := ⟨by decide +kernel, rfl⟩
theorem zd_14_105_87 : zz_B zy_network_14_105 87 (Instr.if_icmp .eq) 103 90 := ⟨16, by decide +kernel, rfl, rfl⟩
theorem zd_14_105_90 : zz_D zy_network_14_105 90 (.aload_n 0) 1 91 := ⟨by decide +kernel, rfl⟩
theorem zd_14_105_91 : zz_D zy_network_14_105 91 (.dup) 1 92 := ⟨by decide +kernel, rfl⟩
theorem zd_14_105_92 : zz_D zy_network_14_105 92 (.getfield 337) 3 95 := ⟨by decide +kernel, rfl⟩
theorem zd_14_105_95 : zz_D zy_network_14_105 95 (.iconst 1) 1 96 := ⟨by decide +kernel, rfl⟩
theorem zd_14_105_96 : zz_D zy_network_14_105 96 (.iadd) 1 97 := ⟨by decide +kernel, rfl⟩
theorem zd_14_105_97 : zz_D zy_network_14_105 97 (.putfield 337) 3 100 := ⟨by decide +kernel, rfl⟩
theorem zd_14_105_100 : zz_B zy_network_14_105 100 Instr.goto 67 103 := ⟨(-33), by decide +kernel, rfl, rfl⟩
theorem zd_14_105_179 : zz_D zy_network_14_105 179 (.iload_n 2) 1 180 := ⟨by decide +kernel, rfl⟩
theorem zd_14_105_180 : zz_D zy_network_14_105 180 (.iconst 1) 1 181 := ⟨by decide +kernel, rfl⟩
theorem zd_14_105_181 : zz_D zy_network_14_105 181 (.isub) 1 182 := ⟨by decide +kernel, rfl⟩
theorem zd_14_105_163 : zz_D zy_network_14_105 163 (.iconst (-1)) 1 164 := ⟨by decide +kernel, rfl⟩
theorem zd_14_105_164 : zz_D zy_network_14_105 164 (.ireturn) 1 165 := ⟨by decide +kernel, rfl⟩
theorem zd_14_105_123 : zz_D zy_network_14_105 123 (.aload_n 0) 1 124 := ⟨by decide +kernel, rfl⟩
theorem zd_14_105_124 : zz_D zy_network_14_105 124 (.invokevirtual 598) 3 127 := ⟨by decide +kernel, rfl⟩
theorem zk_Md_598 : mm_Vl "TensorForgeModel" 598 11 0 zy_readLayer_14_104 := ⟨zyw_readLayer_14_104, (R_Md, F_Md, 69), rfl, mm_tb_1 2200 (by decide +kernel) rfl, mm_tb_1 2202 (by decide +kernel) rfl, mm_tb_s 141 (by decide +kernel) rfl⟩
theorem zd_14_105_127 : zz_B zy_network_14_105 127 Instr.goto 134 130 := ⟨7, by decide +kernel, rfl, rfl⟩

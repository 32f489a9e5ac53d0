-- TensorForge$Run missingAt (II)I
abbrev zr_missingAt_10_25 : Room := { frames := 3, cells := 0, slots := 0, locals := 46 }
def zp_missingAt_10_25 (p0 : Int) (p1 : Int) (S0 : zz_S) : Int → zz_S → Prop := fun r S => S0 = S ∧ ((-2147483648) ≤ r ∧ r ≤ 2147483647)
theorem zc_missingAt_10_25 {g : mm_G} {l : Launch} (p0 : Int) (p1 : Int) (S0 : zz_S) (n : Nat) (hn : zz_end ≤ n) (G_S0 : zz_G S0) (hp0 : (-2147483648) ≤ p0 ∧ p0 ≤ 2147483647) (hp1 : (-2147483648) ≤ p1 ∧ p1 ≤ 2147483647) : mm_Met g l zy_missingAt_10_25 zr_missingAt_10_25 [.ref 1042, zi p0, zi p1] (zz_M S0 n) n (zz_QI n (zp_missingAt_10_25 p0 p1 S0)) := by
  refine zz_enter (by decide) (Nat.le_of_ble_eq_true rfl) (zz_less (ls1 := [some (.ref 1042), some (zi p0), some (zi p1)]) ⟨rfl, ⟨rfl, ⟨rfl, trivial⟩⟩⟩ ?_)
  refine zz_aload_n (x := 1042) rfl zd_10_25_0 ?_
  refine zz_iload_n (x := p0) rfl zd_10_25_1 ?_
  refine zz_iload_n (x := p1) rfl zd_10_25_2 ?_
  refine zz_callVI [zi p0, zi p1] zd_10_25_3 zk_Run_183 zT_1042 (zz_ltn hn rfl) rfl rfl ⟨Nat.le_of_ble_eq_true rfl, Nat.le_of_ble_eq_true rfl⟩ ⟨rfl, rfl⟩ (Nat.zero_le _) (Nat.zero_le _) (zc_firstNotBegun_10_26 p0 p1 S0 n hn G_S0 (by omega) (by omega)) (fun v2 S1 hP => ?_)
  obtain ⟨rfl, o3⟩ := hP
  refine zz_istore_n [some (.ref 1042), some (zi p0), some (zi p1), some (zi v2)] zd_10_25_6 (by decide) rfl ?_
  refine zz_iload_n (x := v2) rfl zd_10_25_7 ?_
  refine zz_iconst zd_10_25_8 ?_
  refine zz_icmp_eq (by omega) (by omega) zd_10_25_9 (fun c4 => ?_) (fun c4 => ?_)
  · refine zz_iconst zd_10_25_22 ?_
    exact zz_iret zd_10_25_23 rfl (Nat.zero_le _) (Nat.zero_le _) ⟨_, _, rfl, rfl, by omega⟩
  · refine zz_aload_n (x := 1042) rfl zd_10_25_12 ?_
    refine zz_iload_n (x := p0) rfl zd_10_25_13 ?_
    refine zz_iload_n (x := p1) rfl zd_10_25_14 ?_
    refine zz_callVI [zi p0, zi p1] zd_10_25_15 zk_Run_186 zT_1042 (zz_ltn hn rfl) rfl rfl ⟨Nat.le_of_ble_eq_true rfl, Nat.le_of_ble_eq_true rfl⟩ ⟨rfl, rfl⟩ (Nat.zero_le _) (Nat.zero_le _) (zc_underWayAt_10_24 p0 p1 S0 n hn G_S0 (by omega) (by omega)) (fun v6 S5 hP => ?_)
    obtain ⟨rfl, o7⟩ := hP
    refine zz_iconst zd_10_25_18 ?_
    refine zz_icmp_eq (by omega) (by omega) zd_10_25_19 (fun c8 => ?_) (fun c8 => ?_)
    · refine zz_iconst zd_10_25_24 ?_
      refine zz_istore [some (.ref 1042), some (zi p0), some (zi p1), some (zi v2), some (zi 0)] zd_10_25_25 (by decide) rfl ?_
      refine zz_aload_n (x := 1042) rfl zd_10_25_27 ?_
      refine zz_getr (kd := 0) (z := 1044) zd_10_25_28 zf_Run_19 zT_1042 rfl (zz_ltn hn rfl) (zz_G.eq G_S0 1042 2 1044 rfl rfl) (by decide) 1044 rfl ?_
      refine zz_iload_n (x := v2) rfl zd_10_25_31 ?_
      have g9 := zz_G.r G_S0 1044 v2.toNat (-9223372036854775808) 9223372036854775807 rfl rfl
      refine zz_lald (z := S0 1044 v2.toNat) zd_10_25_32 zT_1044 rfl (zz_ltn hn rfl) (by decide) (by omega) rfl ?_
      refine zz_iconst zd_10_25_33 ?_
      refine zz_callSI [zl (S0 1044 v2.toNat), zi 1] zd_10_25_34 zk_Run_150 rfl rfl ⟨Nat.le_of_ble_eq_true rfl, Nat.le_of_ble_eq_true rfl⟩ ⟨rfl, rfl⟩ (Nat.zero_le _) (Nat.zero_le _) (zc_has_12_3x_1 (S0 1044 v2.toNat) S0 n hn G_S0 (by omega)) (fun v11 S10 hP => ?_)
      obtain ⟨rfl, o12, o13⟩ := hP
      rcases (by omega : v11 = 0 ∨ v11 = 1) with rfl | rfl
      · refine zz_if_eq (by omega) zd_10_25_37 (fun c14 => ?_) (fun c14 => ?_)
        · refine zz_aload_n (x := 1042) rfl zd_10_25_62 ?_
          refine zz_getr (kd := 0) (z := 1044) zd_10_25_63 zf_Run_19 zT_1042 rfl (zz_ltn hn rfl) (zz_G.eq G_S0 1042 2 1044 rfl rfl) (by decide) 1044 rfl ?_
          refine zz_iload_n (x := v2) rfl zd_10_25_66 ?_
          refine zz_lald (z := S0 1044 v2.toNat) zd_10_25_67 zT_1044 rfl (zz_ltn hn rfl) (by decide) (by omega) rfl ?_
          refine zz_iconst zd_10_25_68 ?_
          refine zz_callSI [zl (S0 1044 v2.toNat), zi 2] zd_10_25_69 zk_Run_150 rfl rfl ⟨Nat.le_of_ble_eq_true rfl, Nat.le_of_ble_eq_true rfl⟩ ⟨rfl, rfl⟩ (Nat.zero_le _) (Nat.zero_le _) (zc_has_12_3x_2 (S0 1044 v2.toNat) S0 n hn G_S0 (by omega)) (fun v16 S15 hP => ?_)
          obtain ⟨rfl, o17, o18⟩ := hP
          rcases (by omega : v16 = 0 ∨ v16 = 1) with rfl | rfl
          · refine zz_if_eq (by omega) zd_10_25_72 (fun c19 => ?_) (fun c19 => ?_)
            · refine zz_iload (x := 0) rfl zd_10_25_97 ?_
              exact zz_iret zd_10_25_99 rfl (Nat.zero_le _) (Nat.zero_le _) ⟨_, _, rfl, rfl, by omega⟩
            · exfalso; omega
          · refine zz_if_eq (by omega) zd_10_25_72 (fun c20 => ?_) (fun c20 => ?_)
            · exfalso; omega
            · refine zz_aload_n (x := 1042) rfl zd_10_25_75 ?_
              refine zz_iload_n (x := p0) rfl zd_10_25_76 ?_
              refine zz_iconst zd_10_25_77 ?_
              refine zz_iadd zd_10_25_78 ?_
              refine zz_nrm (fun v21 hv21 ev21 => ?_)
              refine zz_iconst zd_10_25_79 ?_
              refine zz_iload_n (x := p1) rfl zd_10_25_80 ?_
              refine zz_callVI [zi v21, zi 3, zi p1] zd_10_25_81 zk_Run_189 zT_1042 (zz_ltn hn rfl) rfl rfl ⟨Nat.le_of_ble_eq_true rfl, Nat.le_of_ble_eq_true rfl⟩ ⟨rfl, rfl⟩ (Nat.zero_le _) (Nat.zero_le _) (zc_pushesUpTo_10_27 v21 3 p1 S0 n hn G_S0 (by omega) (by omega) (by omega)) (fun v23 S22 hP => ?_)
              obtain ⟨rfl, o24⟩ := hP
              refine zz_aload_n (x := 1042) rfl zd_10_25_84 ?_
              refine zz_iload_n (x := p0) rfl zd_10_25_85 ?_
              refine zz_iconst zd_10_25_86 ?_
              refine zz_iload_n (x := p1) rfl zd_10_25_87 ?_
              refine zz_callVI [zi p0, zi 2, zi p1] zd_10_25_88 zk_Run_193 zT_1042 (zz_ltn hn rfl) rfl rfl ⟨Nat.le_of_ble_eq_true rfl, Nat.le_of_ble_eq_true rfl⟩ ⟨rfl, rfl⟩ (Nat.zero_le _) (Nat.zero_le _) (zc_popsUpTo_10_28 p0 2 p1 S0 n hn G_S0 (by omega) (by omega) (by omega)) (fun v26 S25 hP => ?_)
              obtain ⟨rfl, o27⟩ := hP
              refine zz_icmp_gt (by omega) (by omega) zd_10_25_91 (fun c28 => ?_) (fun c28 => ?_)
              · refine zz_iload (x := 0) rfl zd_10_25_97 ?_
                exact zz_iret zd_10_25_99 rfl (Nat.zero_le _) (Nat.zero_le _) ⟨_, _, rfl, rfl, by omega⟩
              · refine zz_iinc [some (.ref 1042), some (zi p0), some (zi p1), some (zi v2), some (zi (0 + 2))] zd_10_25_94 rfl rfl ?_
                refine zz_iload (x := 0 + 2) rfl zd_10_25_97 ?_
                exact zz_iret zd_10_25_99 rfl (Nat.zero_le _) (Nat.zero_le _) ⟨_, _, rfl, rfl, by omega⟩
        · exfalso; omega
      · refine zz_if_eq (by omega) zd_10_25_37 (fun c29 => ?_) (fun c29 => ?_)
        · exfalso; omega
        · refine zz_aload_n (x := 1042) rfl zd_10_25_40 ?_
          refine zz_iload_n (x := p0) rfl zd_10_25_41 ?_
          refine zz_iconst zd_10_25_42 ?_
          refine zz_isub zd_10_25_43 ?_
          refine zz_nrm (fun v30 hv30 ev30 => ?_)
          refine zz_iconst zd_10_25_44 ?_
          refine zz_iload_n (x := p1) rfl zd_10_25_45 ?_
          refine zz_callVI [zi v30, zi 4, zi p1] zd_10_25_46 zk_Run_189 zT_1042 (zz_ltn hn rfl) rfl rfl ⟨Nat.le_of_ble_eq_true rfl, Nat.le_of_ble_eq_true rfl⟩ ⟨rfl, rfl⟩ (Nat.zero_le _) (Nat.zero_le _) (zc_pushesUpTo_10_27 v30 4 p1 S0 n hn G_S0 (by omega) (by omega) (by omega)) (fun v32 S31 hP => ?_)
          obtain ⟨rfl, o33⟩ := hP
          refine zz_aload_n (x := 1042) rfl zd_10_25_49 ?_
          refine zz_iload_n (x := p0) rfl zd_10_25_50 ?_
          refine zz_iconst zd_10_25_51 ?_
          refine zz_iload_n (x := p1) rfl zd_10_25_52 ?_
          refine zz_callVI [zi p0, zi 1, zi p1] zd_10_25_53 zk_Run_193 zT_1042 (zz_ltn hn rfl) rfl rfl ⟨Nat.le_of_ble_eq_true rfl, Nat.le_of_ble_eq_true rfl⟩ ⟨rfl, rfl⟩ (Nat.zero_le _) (Nat.zero_le _) (zc_popsUpTo_10_28 p0 1 p1 S0 n hn G_S0 (by omega) (by omega) (by omega)) (fun v35 S34 hP => ?_)
          obtain ⟨rfl, o36⟩ := hP
          refine zz_icmp_gt (by omega) (by omega) zd_10_25_56 (fun c37 => ?_) (fun c37 => ?_)
          · refine zz_aload_n (x := 1042) rfl zd_10_25_62 ?_
            refine zz_getr (kd := 0) (z := 1044) zd_10_25_63 zf_Run_19 zT_1042 rfl (zz_ltn hn rfl) (zz_G.eq G_S0 1042 2 1044 rfl rfl) (by decide) 1044 rfl ?_
            refine zz_iload_n (x := v2) rfl zd_10_25_66 ?_
            refine zz_lald (z := S0 1044 v2.toNat) zd_10_25_67 zT_1044 rfl (zz_ltn hn rfl) (by decide) (by omega) rfl ?_
            refine zz_iconst zd_10_25_68 ?_
            refine zz_callSI [zl (S0 1044 v2.toNat), zi 2] zd_10_25_69 zk_Run_150 rfl rfl ⟨Nat.le_of_ble_eq_true rfl, Nat.le_of_ble_eq_true rfl⟩ ⟨rfl, rfl⟩ (Nat.zero_le _) (Nat.zero_le _) (zc_has_12_3x_2 (S0 1044 v2.toNat) S0 n hn G_S0 (by omega)) (fun v39 S38 hP => ?_)
            obtain ⟨rfl, o40, o41⟩ := hP
            rcases (by omega : v39 = 0 ∨ v39 = 1) with rfl | rfl
            · refine zz_if_eq (by omega) zd_10_25_72 (fun c42 => ?_) (fun c42 => ?_)
              · refine zz_iload (x := 0) rfl zd_10_25_97 ?_
                exact zz_iret zd_10_25_99 rfl (Nat.zero_le _) (Nat.zero_le _) ⟨_, _, rfl, rfl, by omega⟩
              · exfalso; omega
            · refine zz_if_eq (by omega) zd_10_25_72 (fun c43 => ?_) (fun c43 => ?_)
              · exfalso; omega
              · refine zz_aload_n (x := 1042) rfl zd_10_25_75 ?_
                refine zz_iload_n (x := p0) rfl zd_10_25_76 ?_
                refine zz_iconst zd_10_25_77 ?_
                refine zz_iadd zd_10_25_78 ?_
                refine zz_nrm (fun v44 hv44 ev44 => ?_)
                refine zz_iconst zd_10_25_79 ?_
                refine zz_iload_n (x := p1) rfl zd_10_25_80 ?_
                refine zz_callVI [zi v44, zi 3, zi p1] zd_10_25_81 zk_Run_189 zT_1042 (zz_ltn hn rfl) rfl rfl ⟨Nat.le_of_ble_eq_true rfl, Nat.le_of_ble_eq_true rfl⟩ ⟨rfl, rfl⟩ (Nat.zero_le _) (Nat.zero_le _) (zc_pushesUpTo_10_27 v44 3 p1 S0 n hn G_S0 (by omega) (by omega) (by omega)) (fun v46 S45 hP => ?_)
                obtain ⟨rfl, o47⟩ := hP
                refine zz_aload_n (x := 1042) rfl zd_10_25_84 ?_
                refine zz_iload_n (x := p0) rfl zd_10_25_85 ?_
                refine zz_iconst zd_10_25_86 ?_
                refine zz_iload_n (x := p1) rfl zd_10_25_87 ?_
                refine zz_callVI [zi p0, zi 2, zi p1] zd_10_25_88 zk_Run_193 zT_1042 (zz_ltn hn rfl) rfl rfl ⟨Nat.le_of_ble_eq_true rfl, Nat.le_of_ble_eq_true rfl⟩ ⟨rfl, rfl⟩ (Nat.zero_le _) (Nat.zero_le _) (zc_popsUpTo_10_28 p0 2 p1 S0 n hn G_S0 (by omega) (by omega) (by omega)) (fun v49 S48 hP => ?_)
                obtain ⟨rfl, o50⟩ := hP
                refine zz_icmp_gt (by omega) (by omega) zd_10_25_91 (fun c51 => ?_) (fun c51 => ?_)
                · refine zz_iload (x := 0) rfl zd_10_25_97 ?_
                  exact zz_iret zd_10_25_99 rfl (Nat.zero_le _) (Nat.zero_le _) ⟨_, _, rfl, rfl, by omega⟩
                · refine zz_iinc [some (.ref 1042), some (zi p0), some (zi p1), some (zi v2), some (zi (0 + 2))] zd_10_25_94 rfl rfl ?_
                  refine zz_iload (x := 0 + 2) rfl zd_10_25_97 ?_
                  exact zz_iret zd_10_25_99 rfl (Nat.zero_le _) (Nat.zero_le _) ⟨_, _, rfl, rfl, by omega⟩
          · refine zz_iinc [some (.ref 1042), some (zi p0), some (zi p1), some (zi v2), some (zi (0 + 1))] zd_10_25_59 rfl rfl ?_
            refine zz_aload_n (x := 1042) rfl zd_10_25_62 ?_
            refine zz_getr (kd := 0) (z := 1044) zd_10_25_63 zf_Run_19 zT_1042 rfl (zz_ltn hn rfl) (zz_G.eq G_S0 1042 2 1044 rfl rfl) (by decide) 1044 rfl ?_
            refine zz_iload_n (x := v2) rfl zd_10_25_66 ?_
            refine zz_lald (z := S0 1044 v2.toNat) zd_10_25_67 zT_1044 rfl (zz_ltn hn rfl) (by decide) (by omega) rfl ?_
            refine zz_iconst zd_10_25_68 ?_
            refine zz_callSI [zl (S0 1044 v2.toNat), zi 2] zd_10_25_69 zk_Run_150 rfl rfl ⟨Nat.le_of_ble_eq_true rfl, Nat.le_of_ble_eq_true rfl⟩ ⟨rfl, rfl⟩ (Nat.zero_le _) (Nat.zero_le _) (zc_has_12_3x_2 (S0 1044 v2.toNat) S0 n hn G_S0 (by omega)) (fun v53 S52 hP => ?_)
            obtain ⟨rfl, o54, o55⟩ := hP
            rcases (by omega : v53 = 0 ∨ v53 = 1) with rfl | rfl
            · refine zz_if_eq (by omega) zd_10_25_72 (fun c56 => ?_) (fun c56 => ?_)
              · refine zz_iload (x := 0 + 1) rfl zd_10_25_97 ?_
                exact zz_iret zd_10_25_99 rfl (Nat.zero_le _) (Nat.zero_le _) ⟨_, _, rfl, rfl, by omega⟩
              · exfalso; omega
            · refine zz_if_eq (by omega) zd_10_25_72 (fun c57 => ?_) (fun c57 => ?_)
              · exfalso; omega
              · refine zz_aload_n (x := 1042) rfl zd_10_25_75 ?_
                refine zz_iload_n (x := p0) rfl zd_10_25_76 ?_
                refine zz_iconst zd_10_25_77 ?_
                refine zz_iadd zd_10_25_78 ?_
                refine zz_nrm (fun v58 hv58 ev58 => ?_)
                refine zz_iconst zd_10_25_79 ?_
                refine zz_iload_n (x := p1) rfl zd_10_25_80 ?_
                refine zz_callVI [zi v58, zi 3, zi p1] zd_10_25_81 zk_Run_189 zT_1042 (zz_ltn hn rfl) rfl rfl ⟨Nat.le_of_ble_eq_true rfl, Nat.le_of_ble_eq_true rfl⟩ ⟨rfl, rfl⟩ (Nat.zero_le _) (Nat.zero_le _) (zc_pushesUpTo_10_27 v58 3 p1 S0 n hn G_S0 (by omega) (by omega) (by omega)) (fun v60 S59 hP => ?_)
                obtain ⟨rfl, o61⟩ := hP
                refine zz_aload_n (x := 1042) rfl zd_10_25_84 ?_
                refine zz_iload_n (x := p0) rfl zd_10_25_85 ?_
                refine zz_iconst zd_10_25_86 ?_
                refine zz_iload_n (x := p1) rfl zd_10_25_87 ?_
                refine zz_callVI [zi p0, zi 2, zi p1] zd_10_25_88 zk_Run_193 zT_1042 (zz_ltn hn rfl) rfl rfl ⟨Nat.le_of_ble_eq_true rfl, Nat.le_of_ble_eq_true rfl⟩ ⟨rfl, rfl⟩ (Nat.zero_le _) (Nat.zero_le _) (zc_popsUpTo_10_28 p0 2 p1 S0 n hn G_S0 (by omega) (by omega) (by omega)) (fun v63 S62 hP => ?_)
                obtain ⟨rfl, o64⟩ := hP
                refine zz_icmp_gt (by omega) (by omega) zd_10_25_91 (fun c65 => ?_) (fun c65 => ?_)
                · refine zz_iload (x := 0 + 1) rfl zd_10_25_97 ?_
                  exact zz_iret zd_10_25_99 rfl (Nat.zero_le _) (Nat.zero_le _) ⟨_, _, rfl, rfl, by omega⟩
                · refine zz_iinc [some (.ref 1042), some (zi p0), some (zi p1), some (zi v2), some (zi (0 + 1 + 2))] zd_10_25_94 rfl rfl ?_
                  refine zz_iload (x := 0 + 1 + 2) rfl zd_10_25_97 ?_
                  exact zz_iret zd_10_25_99 rfl (Nat.zero_le _) (Nat.zero_le _) ⟨_, _, rfl, rfl, by omega⟩
    · refine zz_iconst zd_10_25_22 ?_
      exact zz_iret zd_10_25_23 rfl (Nat.zero_le _) (Nat.zero_le _) ⟨_, _, rfl, rfl, by omega⟩
theorem zk_TF_323 : mm_Vl "TensorForge" 323 5 2 zy_missingAt_10_25 := ⟨zyw_missingAt_10_25, (R_Run, F_Run, 10), rfl, mm_tb_1 1565 (by decide +kernel) rfl, mm_tb_1 1566 (by decide +kernel) rfl, mm_tb_1 1567 (by decide +kernel) rfl⟩
theorem zg_1_29_19 : zq_at zy_waits_1_29.2.1 19 172 := by decide +kernel
theorem zd_1_29_19 : zz_D zy_waits_1_29 19 (.ireturn) 1 20 := ⟨zq_172 zg_1_29_19, rfl⟩
-- TensorForge waits (II)I
abbrev zr_waits_1_29 : Room := { frames := 7, cells := 2, slots := 12, locals := 96 }
def zp_waits_1_29 (p0 : Int) (p1 : Int) (S0 : zz_S) : Int → zz_S → Prop := fun r S => S0 = S ∧ ((-2147483648) ≤ r ∧ r ≤ 2147483647)
def zx_waits_1_29 (p0 : Int) (p1 : Int) (S0 : zz_S) : Nat → zz_S → Prop := fun i S => S0 = S ∧ (i < 4) ∧ (i = 0 ∨ i = 3)
theorem zc_waits_1_29 {g : mm_G} {l : Launch} (p0 : Int) (p1 : Int) (S0 : zz_S) (n : Nat) (hn : zz_end ≤ n) (hfl : l.flags = flags0) (G_S0 : zz_G S0) (hp0 : (-2147483648) ≤ p0 ∧ p0 ≤ 2147483647) (hp1 : (-2147483648) ≤ p1 ∧ p1 ≤ 2147483647) : mm_Met g l zy_waits_1_29 zr_waits_1_29 [.ref 1000, zi p0, zi p1] (zz_M S0 n) n (zz_XI n (zp_waits_1_29 p0 p1 S0) (zx_waits_1_29 p0 p1 S0)) := by
  refine zz_enter (by decide) (Nat.le_of_ble_eq_true rfl) (zz_less (ls1 := [some (.ref 1000), some (zi p0), some (zi p1)]) ⟨rfl, ⟨rfl, ⟨rfl, trivial⟩⟩⟩ ?_)
  refine zz_aload_n (x := 1000) rfl zd_1_29_0 ?_
  refine zz_callVXV [] zd_1_29_1 zk_TF_191 zT_1000 (zz_ltn hn rfl) rfl rfl ⟨Nat.le_of_ble_eq_true rfl, Nat.le_of_ble_eq_true rfl⟩ (Nat.le_of_ble_eq_true rfl) (Nat.le_of_ble_eq_true rfl) (zc_needRun_1_32  S0 n hn hfl G_S0 ) zyw_waits_1_29 (fun i SX hX => by obtain ⟨rfl, x0, x1⟩ := hX; exact Or.inr ⟨_, _, rfl, rfl, by omega, by omega⟩) (fun S3 hP => ?_)
  obtain ⟨rfl⟩ := hP
  refine zz_aload_n (x := 1000) rfl zd_1_29_4 ?_
  refine zz_iload_n (x := p0) rfl zd_1_29_5 ?_
  refine zz_iload_n (x := p1) rfl zd_1_29_6 ?_
  refine zz_callVXV [zi p0, zi p1] zd_1_29_7 zk_TF_317 zT_1000 (zz_ltn hn rfl) rfl rfl ⟨Nat.le_of_ble_eq_true rfl, Nat.le_of_ble_eq_true rfl⟩ (Nat.le_of_ble_eq_true rfl) (Nat.le_of_ble_eq_true rfl) (zc_needUnitAndCycle_1_33 p0 p1 S0 n hn hfl G_S0 (by omega) (by omega)) zyw_waits_1_29 (fun i SX hX => by obtain ⟨rfl, x0, x1⟩ := hX; exact Or.inr ⟨_, _, rfl, rfl, by omega, by omega⟩) (fun S7 hP => ?_)
  obtain ⟨rfl⟩ := hP
  refine zz_aload_n (x := 1000) rfl zd_1_29_10 ?_
  refine zz_getr (kd := 0) (z := 1042) zd_1_29_11 zf_TF_42 zT_1000 rfl (zz_ltn hn rfl) (zz_G.eq G_S0 1000 1 1042 rfl rfl) (by decide) 1042 rfl ?_
  refine zz_iload_n (x := p0) rfl zd_1_29_14 ?_
  refine zz_iload_n (x := p1) rfl zd_1_29_15 ?_
  refine zz_callVI [zi p0, zi p1] zd_1_29_16 zk_TF_323 zT_1042 (zz_ltn hn rfl) rfl rfl ⟨Nat.le_of_ble_eq_true rfl, Nat.le_of_ble_eq_true rfl⟩ ⟨rfl, rfl⟩ (Nat.le_of_ble_eq_true rfl) (Nat.le_of_ble_eq_true rfl) (zc_missingAt_10_25 p0 p1 S0 n hn G_S0 (by omega) (by omega)) (fun v10 S9 hP => ?_)
  obtain ⟨rfl, o11⟩ := hP
  exact zz_iret zd_1_29_19 rfl (Nat.le_of_ble_eq_true rfl) (Nat.le_of_ble_eq_true rfl) (Or.inl ⟨_, _, rfl, rfl, by omega⟩)
-- TensorForge$Reaches areThere ()Z
abbrev zr_areThere_9_3 : Room := { frames := 0, cells := 0, slots := 0, locals := 0 }
def zp_areThere_9_3 (t : Int) (S0 : zz_S) : Int → zz_S → Prop := fun r S => S0 = S ∧ (0 ≤ r ∧ r ≤ 1)
theorem zb_areThere_9_3_2 {g : mm_G} {l : Launch} (t : Int) (S0 : zz_S) (n : Nat) (hn : zz_end ≤ n) (G_S0 : zz_G S0) (ht : 0 ≤ t ∧ t ≤ 4) (x1 : Int) (S : zz_S) (G_S : zz_G S) (F_S : zz_fr [] [] (fun _ _ => False) S0 S) (i2_0 : 0 ≤ x1 ∧ x1 ≤ 5) (R : Nat) (hR : (5 - x1).toNat = R) (k2 : ∀ (x1 : Int) (S : zz_S), zz_G S → zz_fr [] [] (fun _ _ => False) S0 S → (0 ≤ x1 ∧ x1 ≤ 5) → (5 - x1).toNat < R → zz_E g l zy_areThere_9_3 zr_areThere_9_3 (zz_QI n (zp_areThere_9_3 t S0)) S n 2 [some (.ref (zz_rf 5 t)), some (zi x1)] [] 0 0) : zz_E g l zy_areThere_9_3 zr_areThere_9_3 (zz_QI n (zp_areThere_9_3 t S0)) S n 2 [some (.ref (zz_rf 5 t)), some (zi x1)] [] 0 0 := by
  have b_t := zz_rf5 (z := t) (by omega)
  refine zz_iload_n (x := x1) rfl zd_9_3_2 ?_
  refine zz_iconst zd_9_3_3 ?_
  refine zz_icmp_ge (by omega) (by omega) zd_9_3_4 (fun c1 => ?_) (fun c1 => ?_)
  · refine zz_iconst zd_9_3_43 ?_
    exact zz_zret zd_9_3_44 rfl (by omega) (Nat.zero_le _) (Nat.zero_le _) ⟨_, _, rfl, zz_fr.eq F_S, by omega⟩
  · refine zz_aload_n (x := zz_rf 5 t) rfl zd_9_3_7 ?_
    refine zz_getr (kd := 0) (z := ((zz_rf 5 t + 2 : Nat) : Int)) zd_9_3_8 zf_Reaches_15 (zT_k5 (by omega)) rfl (zN_k5 hn (by omega)) (zE_k5a2 G_S (by omega)) (Int.natCast_nonneg _) (zz_rf 5 t + 2) (Int.toNat_natCast _) ?_
    refine zz_iload_n (x := x1) rfl zd_9_3_11 ?_
    have g2 := zz_G.r G_S0 (zz_rf 5 t + 2) x1.toNat (-2147483648) 2147483647 (zR_k5a2 (by omega)) (zB_k5a2 (by omega))
    refine zz_iald (z := S0 (zz_rf 5 t + 2) x1.toNat) zd_9_3_12 (zT_k5a2 (by omega)) rfl (zN_k5a2 hn (by omega)) (by decide) (by omega) (zz_rc F_S (zP_k5a2 (by omega) rfl) (zQ_k5a2 (by omega) rfl) (fun h => h) rfl) ?_
    refine zz_gets (q0 := 0) zd_9_3_13 rfl (by decide) zs_Reaches_44 ?_
    refine zz_iload_n (x := x1) rfl zd_9_3_16 ?_
    obtain ⟨v3, hv3, tv3⟩ := zz_sta0 (i := x1) (by omega)
    refine zz_tiald (N := 5) v3 zd_9_3_17 rfl (by decide) rfl (by decide) (by omega) tv3 ?_
    refine zz_icmp_ge (by omega) (by omega) zd_9_3_18 (fun c4 => ?_) (fun c4 => ?_)
    · refine zz_iconst zd_9_3_35 ?_
      exact zz_zret zd_9_3_36 rfl (by omega) (Nat.zero_le _) (Nat.zero_le _) ⟨_, _, rfl, zz_fr.eq F_S, by omega⟩
    · refine zz_aload_n (x := zz_rf 5 t) rfl zd_9_3_21 ?_
      refine zz_getr (kd := 0) (z := ((zz_rf 5 t + 4 : Nat) : Int)) zd_9_3_22 zf_Reaches_21 (zT_k5 (by omega)) rfl (zN_k5 hn (by omega)) (zE_k5a4 G_S (by omega)) (Int.natCast_nonneg _) (zz_rf 5 t + 4) (Int.toNat_natCast _) ?_
      refine zz_iload_n (x := x1) rfl zd_9_3_25 ?_
      have g5 := zz_G.r G_S0 (zz_rf 5 t + 4) x1.toNat (-2147483648) 2147483647 (zR_k5a4 (by omega)) (zB_k5a4 (by omega))
      refine zz_iald (z := S0 (zz_rf 5 t + 4) x1.toNat) zd_9_3_26 (zT_k5a4 (by omega)) rfl (zN_k5a4 hn (by omega)) (by decide) (by omega) (zz_rc F_S (zP_k5a4 (by omega) rfl) (zQ_k5a4 (by omega) rfl) (fun h => h) rfl) ?_
      refine zz_gets (q0 := 0) zd_9_3_27 rfl (by decide) zs_Reaches_44 ?_
      refine zz_iload_n (x := x1) rfl zd_9_3_30 ?_
      obtain ⟨v6, hv6, tv6⟩ := zz_sta0 (i := x1) (by omega)
      refine zz_tiald (N := 5) v6 zd_9_3_31 rfl (by decide) rfl (by decide) (by omega) tv6 ?_
      refine zz_icmp_lt (by omega) (by omega) zd_9_3_32 (fun c7 => ?_) (fun c7 => ?_)
      · refine zz_iinc [some (.ref (zz_rf 5 t)), some (zi (x1 + 1))] zd_9_3_37 rfl rfl ?_
        refine zz_goto zd_9_3_40 ?_
        refine zz_less (ls1 := [some (.ref (zz_rf 5 t)), some (zi (x1 + 1))]) ⟨rfl, ⟨rfl, trivial⟩⟩ ?_
        exact k2 (x1 + 1) S G_S F_S (by omega) (by omega)
      · refine zz_iconst zd_9_3_35 ?_
        exact zz_zret zd_9_3_36 rfl (by omega) (Nat.zero_le _) (Nat.zero_le _) ⟨_, _, rfl, zz_fr.eq F_S, by omega⟩
theorem zi_areThere_9_3 {g : mm_G} {l : Launch} (t : Int) (S0 : zz_S) (n : Nat) (hn : zz_end ≤ n) (G_S0 : zz_G S0) (ht : 0 ≤ t ∧ t ≤ 4) : ∀ N : Nat, (∀ (x1 : Int) (S : zz_S), zz_G S → zz_fr [] [] (fun _ _ => False) S0 S → (0 ≤ x1 ∧ x1 ≤ 5) → (5 - x1).toNat < N → zz_E g l zy_areThere_9_3 zr_areThere_9_3 (zz_QI n (zp_areThere_9_3 t S0)) S n 2 [some (.ref (zz_rf 5 t)), some (zi x1)] [] 0 0) := by
  intro N
  induction N with
  | zero => exact fun x1 S _ _ _ h => absurd h (Nat.not_lt_zero _)
  | succ N ih =>
    exact fun x1 S a b j0 hR => zb_areThere_9_3_2 t S0 n hn G_S0 ht x1 S a b j0 _ rfl (fun x1 S a b j0 h => ih x1 S a b j0 (Nat.lt_of_lt_of_le h (Nat.le_of_lt_succ hR)))
theorem zc_areThere_9_3 {g : mm_G} {l : Launch} (t : Int) (S0 : zz_S) (n : Nat) (hn : zz_end ≤ n) (G_S0 : zz_G S0) (ht : 0 ≤ t ∧ t ≤ 4) : mm_Met g l zy_areThere_9_3 zr_areThere_9_3 [.ref (zz_rf 5 t)] (zz_M S0 n) n (zz_QI n (zp_areThere_9_3 t S0)) := by
  refine zz_enter (by decide) (Nat.le_of_ble_eq_true rfl) (zz_less (ls1 := [some (.ref (zz_rf 5 t))]) ⟨rfl, trivial⟩ ?_)
  have F_S0 : zz_fr [] [] (fun _ _ => False) S0 S0 := zz_fr.refl
  have k2 : ∀ (x1 : Int) (S : zz_S), zz_G S → zz_fr [] [] (fun _ _ => False) S0 S → (0 ≤ x1 ∧ x1 ≤ 5) → zz_E g l zy_areThere_9_3 zr_areThere_9_3 (zz_QI n (zp_areThere_9_3 t S0)) S n 2 [some (.ref (zz_rf 5 t)), some (zi x1)] [] 0 0 := fun x1 S a b j0 => (zi_areThere_9_3 (g := g) (l := l) t S0 n hn G_S0 ht _) x1 S a b j0 (Nat.lt_succ_self _)
  have b_t := zz_rf5 (z := t) (by omega)
  refine zz_iconst zd_9_3_0 ?_
  refine zz_istore_n [some (.ref (zz_rf 5 t)), some (zi 0)] zd_9_3_1 (by decide) rfl ?_
  refine zz_less (ls1 := [some (.ref (zz_rf 5 t)), some (zi 0)]) ⟨rfl, ⟨rfl, trivial⟩⟩ ?_
  exact k2 0 S0 G_S0 F_S0 (by omega)
theorem zg_12_7_10 : zq_at zy_most_12_7.2.1 10 3 ∧ zq_at zy_most_12_7.2.1 11 167 ∧ zq_at zy_most_12_7.2.1 12 0 ∧ zq_at zy_most_12_7.2.1 13 8 := by decide +kernel
theorem zd_12_7_10 : zz_D zy_most_12_7 10 (.iconst 0) 1 11 := ⟨zq_3 zg_12_7_10.1, rfl⟩
theorem zd_12_7_11 : zz_B zy_most_12_7 11 Instr.goto 19 14 := ⟨8, zq_167 zg_12_7_10.2.1 zg_12_7_10.2.2.1 zg_12_7_10.2.2.2 (by decide), rfl, rfl⟩
-- TensorForge$Words most (I)I
abbrev zr_most_12_7 : Room := { frames := 0, cells := 0, slots := 0, locals := 0 }
def zp_most_12_7 (p0 : Int) (S0 : zz_S) : Int → zz_S → Prop := fun r S => S0 = S ∧ ((-2147483648) ≤ r ∧ r ≤ 2147483647)
theorem zc_most_12_7 {g : mm_G} {l : Launch} (p0 : Int) (S0 : zz_S) (n : Nat) (hn : zz_end ≤ n) (G_S0 : zz_G S0) (hp0 : (-2147483648) ≤ p0 ∧ p0 ≤ 2147483647) : mm_Met g l zy_most_12_7 zr_most_12_7 [zi p0] (zz_M S0 n) n (zz_QI n (zp_most_12_7 p0 S0)) := by
  refine zz_enter (by decide) (Nat.le_of_ble_eq_true rfl) (zz_less (ls1 := [some (zi p0)]) ⟨rfl, trivial⟩ ?_)
  refine zz_iload_n (x := p0) rfl zd_12_7_0 ?_
  refine zz_if_lt (by omega) zd_12_7_1 (fun c1 => ?_) (fun c1 => ?_)
  · refine zz_iconst zd_12_7_10 ?_
    refine zz_goto zd_12_7_11 ?_
    exact zz_iret zd_12_7_19 rfl (Nat.zero_le _) (Nat.zero_le _) ⟨_, _, rfl, rfl, by omega⟩
  · refine zz_iload_n (x := p0) rfl zd_12_7_4 ?_
    refine zz_bipush (by decide) zd_12_7_5 ?_
    refine zz_icmp_lt (by omega) (by omega) zd_12_7_7 (fun c2 => ?_) (fun c2 => ?_)
    · refine zz_gets (q0 := 2) zd_12_7_14 rfl (by decide) zs_Words_13 ?_
      refine zz_iload_n (x := p0) rfl zd_12_7_17 ?_
      obtain ⟨v3, hv3, tv3⟩ := zz_sta2 (i := p0) (by omega)
      refine zz_tiald (N := 12) v3 zd_12_7_18 rfl (by decide) rfl (by decide) (by omega) tv3 ?_
      exact zz_iret zd_12_7_19 rfl (Nat.zero_le _) (Nat.zero_le _) ⟨_, _, rfl, rfl, by omega⟩
    · refine zz_iconst zd_12_7_10 ?_
      refine zz_goto zd_12_7_11 ?_
      exact zz_iret zd_12_7_19 rfl (Nat.zero_le _) (Nat.zero_le _) ⟨_, _, rfl, rfl, by omega⟩

-- TensorForgeModel load (Z)V
abbrev zr_load_14_82 : Room := { frames := 3, cells := 0, slots := 0, locals := 45 }
def zp_load_14_82 (p0 : Int) (S0 : zz_S) : zz_S → Prop := fun S => zz_G S ∧ zz_fr [(1079, 10), (1079, 57)] [1086, 1087] (fun _ _ => False) S0 S ∧ (S0 1079 10 ≤ S 1079 10 ∧ S 1079 10 ≤ S0 1079 10 + 1) ∧ (p0 = 1 → S 1079 10 = S0 1079 10)
theorem zc_load_14_82 {g : mm_G} {l : Launch} (p0 : Int) (S0 : zz_S) (n : Nat) (hn : zz_end ≤ n) (G_S0 : zz_G S0) (hp0 : 0 ≤ p0 ∧ p0 ≤ 1) (hq : S0 1079 10 ≤ 990000) : mm_Met g l zy_load_14_82 zr_load_14_82 [.ref 1079, zi p0] (zz_M S0 n) n (zz_QV n (zp_load_14_82 p0 S0)) := by
  refine zz_enter (by decide) (Nat.le_of_ble_eq_true rfl) (zz_less (ls1 := [some (.ref 1079), some (zi p0)]) ⟨rfl, ⟨rfl, trivial⟩⟩ ?_)
  have F_S0 : zz_fr [(1079, 10), (1079, 57)] [1086, 1087] (fun _ _ => False) S0 S0 := zz_fr.refl
  refine zz_aload_n (x := 1079) rfl zd_14_82_0 ?_
  refine zz_dup rfl zd_14_82_1 ?_
  have g1 := zz_G.r G_S0 1079 57 (-2147483648) 2147483647 rfl rfl
  refine zz_geti (z := S0 1079 57) zd_14_82_2 zf_Md_453 zT_1079 rfl (zz_ltn hn rfl) rfl ?_
  refine zz_iconst zd_14_82_5 ?_
  refine zz_iadd zd_14_82_6 ?_
  refine zz_nrm (fun v2 hv2 ev2 => ?_)
  refine zz_puti zd_14_82_7 zf_Md_453 zT_1079 rfl (zz_ltn hn rfl) (fun S3 qS3 => ?_)
  have G_S3 := zz_G.put G_S0 qS3 (-2147483648) 2147483647 rfl (by omega)
  have F_S3 := zz_fr.puts F_S0 qS3 rfl
  refine zz_iload_n (x := p0) rfl zd_14_82_10 ?_
  refine zz_if_ne (by omega) zd_14_82_11 (fun c4 => ?_) (fun c4 => ?_)
  · have g5 := zz_G.r G_S0 1079 10 0 1000000 rfl rfl
    have e6 : S3 1079 10 = S0 1079 10 := (zz_ro qS3 (fun h => absurd h.2 (by decide)) rfl)
    exact zz_vret zd_14_82_59 rfl (Nat.zero_le _) (Nat.zero_le _) ⟨_, rfl, G_S3, F_S3, by omega, by omega⟩
  · refine zz_aload_n (x := 1079) rfl zd_14_82_14 ?_
    refine zz_geti (z := v2) zd_14_82_15 zf_Md_453 zT_1079 rfl (zz_ltn hn rfl) (zz_rs qS3) ?_
    refine zz_iconst zd_14_82_18 ?_
    refine zz_icmp_ne (by omega) (by omega) zd_14_82_19 (fun c7 => ?_) (fun c7 => ?_)
    · refine zz_iconst zd_14_82_34 ?_
      refine zz_aload_n (x := 1079) rfl zd_14_82_35 ?_
      refine zz_geti (z := v2) zd_14_82_36 zf_Md_453 zT_1079 rfl (zz_ltn hn rfl) (zz_rs qS3) ?_
      refine zz_aload_n (x := 1079) rfl zd_14_82_39 ?_
      have g8 := zz_G.r G_S0 1079 60 (-2147483648) 2147483647 rfl rfl
      refine zz_geti (z := S0 1079 60) zd_14_82_40 zf_Md_456 zT_1079 rfl (zz_ltn hn rfl) (zz_ro qS3 (fun h => absurd h.2 (by decide)) rfl) ?_
      refine zz_icmp_ne (by omega) (by omega) zd_14_82_43 (fun c9 => ?_) (fun c9 => ?_)
      · refine zz_iconst zd_14_82_51 ?_
        refine zz_ior (by omega) (by omega) zd_14_82_52 (fun v10 hv10 av10 ev10 => ?_)
        refine zz_istore_n [some (.ref 1079), some (zi p0), some (zi v10)] zd_14_82_53 (by decide) rfl ?_
        refine zz_aload_n (x := 1079) rfl zd_14_82_54 ?_
        refine zz_iload_n (x := v10) rfl zd_14_82_55 ?_
        have g11 := zz_G.r G_S0 1079 10 0 1000000 rfl rfl
        have e12 : S3 1079 10 = S0 1079 10 := (zz_ro qS3 (fun h => absurd h.2 (by decide)) rfl)
        refine zz_callVV [zi v10] zd_14_82_56 zk_Md_459 zT_1079 (zz_ltn hn rfl) rfl rfl ⟨Nat.le_of_ble_eq_true rfl, Nat.le_of_ble_eq_true rfl⟩ ⟨rfl, rfl⟩ (Nat.zero_le _) (Nat.zero_le _) (zc_emit_14_77 v10 S3 n hn G_S3 (by omega) (by omega)) (fun S13 hP => ?_)
        obtain ⟨G_S13, fS13, o15⟩ := hP
        have F_S13 := zz_fr.trans F_S3 fS13 rfl zz_nv
        have g16 := zz_G.r G_S13 1079 10 0 1000000 rfl rfl
        exact zz_vret zd_14_82_59 rfl (Nat.zero_le _) (Nat.zero_le _) ⟨_, rfl, G_S13, F_S13, by omega, by omega⟩
      · refine zz_bipush (by decide) zd_14_82_46 ?_
        refine zz_goto zd_14_82_48 ?_
        refine zz_ior (by omega) (by omega) zd_14_82_52 (fun v17 hv17 av17 ev17 => ?_)
        refine zz_istore_n [some (.ref 1079), some (zi p0), some (zi v17)] zd_14_82_53 (by decide) rfl ?_
        refine zz_aload_n (x := 1079) rfl zd_14_82_54 ?_
        refine zz_iload_n (x := v17) rfl zd_14_82_55 ?_
        have g18 := zz_G.r G_S0 1079 10 0 1000000 rfl rfl
        have e19 : S3 1079 10 = S0 1079 10 := (zz_ro qS3 (fun h => absurd h.2 (by decide)) rfl)
        refine zz_callVV [zi v17] zd_14_82_56 zk_Md_459 zT_1079 (zz_ltn hn rfl) rfl rfl ⟨Nat.le_of_ble_eq_true rfl, Nat.le_of_ble_eq_true rfl⟩ ⟨rfl, rfl⟩ (Nat.zero_le _) (Nat.zero_le _) (zc_emit_14_77 v17 S3 n hn G_S3 (by omega) (by omega)) (fun S20 hP => ?_)
        obtain ⟨G_S20, fS20, o22⟩ := hP
        have F_S20 := zz_fr.trans F_S3 fS20 rfl zz_nv
        have g23 := zz_G.r G_S20 1079 10 0 1000000 rfl rfl
        exact zz_vret zd_14_82_59 rfl (Nat.zero_le _) (Nat.zero_le _) ⟨_, rfl, G_S20, F_S20, by omega, by omega⟩
    · refine zz_aload_n (x := 1079) rfl zd_14_82_22 ?_
      have g24 := zz_G.r G_S0 1079 51 (-2147483648) 2147483647 rfl rfl
      refine zz_geti (z := S0 1079 51) zd_14_82_23 zf_Md_447 zT_1079 rfl (zz_ltn hn rfl) (zz_ro qS3 (fun h => absurd h.2 (by decide)) rfl) ?_
      refine zz_iconst zd_14_82_26 ?_
      refine zz_icmp_le (by omega) (by omega) zd_14_82_27 (fun c25 => ?_) (fun c25 => ?_)
      · refine zz_iconst zd_14_82_34 ?_
        refine zz_aload_n (x := 1079) rfl zd_14_82_35 ?_
        refine zz_geti (z := v2) zd_14_82_36 zf_Md_453 zT_1079 rfl (zz_ltn hn rfl) (zz_rs qS3) ?_
        refine zz_aload_n (x := 1079) rfl zd_14_82_39 ?_
        have g26 := zz_G.r G_S0 1079 60 (-2147483648) 2147483647 rfl rfl
        refine zz_geti (z := S0 1079 60) zd_14_82_40 zf_Md_456 zT_1079 rfl (zz_ltn hn rfl) (zz_ro qS3 (fun h => absurd h.2 (by decide)) rfl) ?_
        refine zz_icmp_ne (by omega) (by omega) zd_14_82_43 (fun c27 => ?_) (fun c27 => ?_)
        · refine zz_iconst zd_14_82_51 ?_
          refine zz_ior (by omega) (by omega) zd_14_82_52 (fun v28 hv28 av28 ev28 => ?_)
          refine zz_istore_n [some (.ref 1079), some (zi p0), some (zi v28)] zd_14_82_53 (by decide) rfl ?_
          refine zz_aload_n (x := 1079) rfl zd_14_82_54 ?_
          refine zz_iload_n (x := v28) rfl zd_14_82_55 ?_
          have g29 := zz_G.r G_S0 1079 10 0 1000000 rfl rfl
          have e30 : S3 1079 10 = S0 1079 10 := (zz_ro qS3 (fun h => absurd h.2 (by decide)) rfl)
          refine zz_callVV [zi v28] zd_14_82_56 zk_Md_459 zT_1079 (zz_ltn hn rfl) rfl rfl ⟨Nat.le_of_ble_eq_true rfl, Nat.le_of_ble_eq_true rfl⟩ ⟨rfl, rfl⟩ (Nat.zero_le _) (Nat.zero_le _) (zc_emit_14_77 v28 S3 n hn G_S3 (by omega) (by omega)) (fun S31 hP => ?_)
          obtain ⟨G_S31, fS31, o33⟩ := hP
          have F_S31 := zz_fr.trans F_S3 fS31 rfl zz_nv
          have g34 := zz_G.r G_S31 1079 10 0 1000000 rfl rfl
          exact zz_vret zd_14_82_59 rfl (Nat.zero_le _) (Nat.zero_le _) ⟨_, rfl, G_S31, F_S31, by omega, by omega⟩
        · refine zz_bipush (by decide) zd_14_82_46 ?_
          refine zz_goto zd_14_82_48 ?_
          refine zz_ior (by omega) (by omega) zd_14_82_52 (fun v35 hv35 av35 ev35 => ?_)
          refine zz_istore_n [some (.ref 1079), some (zi p0), some (zi v35)] zd_14_82_53 (by decide) rfl ?_
          refine zz_aload_n (x := 1079) rfl zd_14_82_54 ?_
          refine zz_iload_n (x := v35) rfl zd_14_82_55 ?_
          have g36 := zz_G.r G_S0 1079 10 0 1000000 rfl rfl
          have e37 : S3 1079 10 = S0 1079 10 := (zz_ro qS3 (fun h => absurd h.2 (by decide)) rfl)
          refine zz_callVV [zi v35] zd_14_82_56 zk_Md_459 zT_1079 (zz_ltn hn rfl) rfl rfl ⟨Nat.le_of_ble_eq_true rfl, Nat.le_of_ble_eq_true rfl⟩ ⟨rfl, rfl⟩ (Nat.zero_le _) (Nat.zero_le _) (zc_emit_14_77 v35 S3 n hn G_S3 (by omega) (by omega)) (fun S38 hP => ?_)
          obtain ⟨G_S38, fS38, o40⟩ := hP
          have F_S38 := zz_fr.trans F_S3 fS38 rfl zz_nv
          have g41 := zz_G.r G_S38 1079 10 0 1000000 rfl rfl
          exact zz_vret zd_14_82_59 rfl (Nat.zero_le _) (Nat.zero_le _) ⟨_, rfl, G_S38, F_S38, by omega, by omega⟩
      · refine zz_iconst zd_14_82_30 ?_
        refine zz_goto zd_14_82_31 ?_
        refine zz_aload_n (x := 1079) rfl zd_14_82_35 ?_
        refine zz_geti (z := v2) zd_14_82_36 zf_Md_453 zT_1079 rfl (zz_ltn hn rfl) (zz_rs qS3) ?_
        refine zz_aload_n (x := 1079) rfl zd_14_82_39 ?_
        have g42 := zz_G.r G_S0 1079 60 (-2147483648) 2147483647 rfl rfl
        refine zz_geti (z := S0 1079 60) zd_14_82_40 zf_Md_456 zT_1079 rfl (zz_ltn hn rfl) (zz_ro qS3 (fun h => absurd h.2 (by decide)) rfl) ?_
        refine zz_icmp_ne (by omega) (by omega) zd_14_82_43 (fun c43 => ?_) (fun c43 => ?_)
        · refine zz_iconst zd_14_82_51 ?_
          refine zz_ior (by omega) (by omega) zd_14_82_52 (fun v44 hv44 av44 ev44 => ?_)
          refine zz_istore_n [some (.ref 1079), some (zi p0), some (zi v44)] zd_14_82_53 (by decide) rfl ?_
          refine zz_aload_n (x := 1079) rfl zd_14_82_54 ?_
          refine zz_iload_n (x := v44) rfl zd_14_82_55 ?_
          have g45 := zz_G.r G_S0 1079 10 0 1000000 rfl rfl
          have e46 : S3 1079 10 = S0 1079 10 := (zz_ro qS3 (fun h => absurd h.2 (by decide)) rfl)
          refine zz_callVV [zi v44] zd_14_82_56 zk_Md_459 zT_1079 (zz_ltn hn rfl) rfl rfl ⟨Nat.le_of_ble_eq_true rfl, Nat.le_of_ble_eq_true rfl⟩ ⟨rfl, rfl⟩ (Nat.zero_le _) (Nat.zero_le _) (zc_emit_14_77 v44 S3 n hn G_S3 (by omega) (by omega)) (fun S47 hP => ?_)
          obtain ⟨G_S47, fS47, o49⟩ := hP
          have F_S47 := zz_fr.trans F_S3 fS47 rfl zz_nv
          have g50 := zz_G.r G_S47 1079 10 0 1000000 rfl rfl
          exact zz_vret zd_14_82_59 rfl (Nat.zero_le _) (Nat.zero_le _) ⟨_, rfl, G_S47, F_S47, by omega, by omega⟩
        · refine zz_bipush (by decide) zd_14_82_46 ?_
          refine zz_goto zd_14_82_48 ?_
          refine zz_ior (by omega) (by omega) zd_14_82_52 (fun v51 hv51 av51 ev51 => ?_)
          refine zz_istore_n [some (.ref 1079), some (zi p0), some (zi v51)] zd_14_82_53 (by decide) rfl ?_
          refine zz_aload_n (x := 1079) rfl zd_14_82_54 ?_
          refine zz_iload_n (x := v51) rfl zd_14_82_55 ?_
          have g52 := zz_G.r G_S0 1079 10 0 1000000 rfl rfl
          have e53 : S3 1079 10 = S0 1079 10 := (zz_ro qS3 (fun h => absurd h.2 (by decide)) rfl)
          refine zz_callVV [zi v51] zd_14_82_56 zk_Md_459 zT_1079 (zz_ltn hn rfl) rfl rfl ⟨Nat.le_of_ble_eq_true rfl, Nat.le_of_ble_eq_true rfl⟩ ⟨rfl, rfl⟩ (Nat.zero_le _) (Nat.zero_le _) (zc_emit_14_77 v51 S3 n hn G_S3 (by omega) (by omega)) (fun S54 hP => ?_)
          obtain ⟨G_S54, fS54, o56⟩ := hP
          have F_S54 := zz_fr.trans F_S3 fS54 rfl zz_nv
          have g57 := zz_G.r G_S54 1079 10 0 1000000 rfl rfl
          exact zz_vret zd_14_82_59 rfl (Nat.zero_le _) (Nat.zero_le _) ⟨_, rfl, G_S54, F_S54, by omega, by omega⟩
abbrev zy_group_14_83 : mm_Y := (⟨"TensorForgeModel", "group", "(IIIIIZ)V"⟩, prog_14_method_83_code, 7, none)
theorem zyw_group_14_83 : mm_Yw zy_group_14_83 6 := ⟨mm_tb_1 2151 (by decide +kernel) rfl, mm_tb_1 12 (by decide +kernel) rfl, ⟨by decide, by decide⟩, by decide +kernel⟩
abbrev zy_groupLoads_14_84 : mm_Y := (⟨"TensorForgeModel", "groupLoads", "(IIIIIZZ)V"⟩, prog_14_method_84_code, 17, none)
theorem zyw_groupLoads_14_84 : mm_Yw zy_groupLoads_14_84 7 := ⟨mm_tb_1 2155 (by decide +kernel) rfl, mm_tb_1 12 (by decide +kernel) rfl, ⟨by decide, by decide⟩, by decide +kernel⟩
theorem zf_Md_466 : mm_Fl "TensorForgeModel" 466 11 56 .int false := ⟨R_Md, F_Md, 69, t_Md, rfl, i_Md, by decide, mm_tb_1 1667 (by decide +kernel) rfl, rfl, t_Md_ok, n_Md, rfl, by decide +kernel⟩
theorem zf_Md_469 : mm_Fl "TensorForgeModel" 469 11 52 .int false := ⟨R_Md, F_Md, 69, t_Md, rfl, i_Md, by decide, mm_tb_1 1663 (by decide +kernel) rfl, rfl, t_Md_ok, n_Md, rfl, by decide +kernel⟩
theorem zf_Md_472 : mm_Fl "TensorForgeModel" 472 11 53 .int false := ⟨R_Md, F_Md, 69, t_Md, rfl, i_Md, by decide, mm_tb_1 1664 (by decide +kernel) rfl, rfl, t_Md_ok, n_Md, rfl, by decide +kernel⟩
theorem zk_Md_475 : mm_Vl "TensorForgeModel" 475 11 4 zy_set_14_78 := ⟨zyw_set_14_78, (R_Md, F_Md, 69), rfl, mm_tb_1 2156 (by decide +kernel) rfl, mm_tb_1 2158 (by decide +kernel) rfl, mm_tb_s 131 (by decide +kernel) rfl⟩
theorem zk_Md_479 : mm_Vl "TensorForgeModel" 479 11 0 zy_quarter_14_81 := ⟨zyw_quarter_14_81, (R_Md, F_Md, 69), rfl, mm_tb_1 2160 (by decide +kernel) rfl, mm_tb_1 2162 (by decide +kernel) rfl, mm_tb_s 132 (by decide +kernel) rfl⟩
theorem zk_Md_482 : mm_Vl "TensorForgeModel" 482 11 4 zy_with_14_79 := ⟨zyw_with_14_79, (R_Md, F_Md, 69), rfl, mm_tb_1 2164 (by decide +kernel) rfl, mm_tb_1 2166 (by decide +kernel) rfl, mm_tb_s 133 (by decide +kernel) rfl⟩
theorem zk_Md_485 : mm_Vl "TensorForgeModel" 485 11 1 zy_load_14_82 := ⟨zyw_load_14_82, (R_Md, F_Md, 69), rfl, mm_tb_1 2168 (by decide +kernel) rfl, mm_tb_1 2170 (by decide +kernel) rfl, mm_tb_s 134 (by decide +kernel) rfl⟩
theorem zk_Md_489 : mm_Vl "TensorForgeModel" 489 11 0 zy_half_14_80 := ⟨zyw_half_14_80, (R_Md, F_Md, 69), rfl, mm_tb_1 2176 (by decide +kernel) rfl, mm_tb_1 2178 (by decide +kernel) rfl, mm_tb_s 136 (by decide +kernel) rfl⟩
theorem zf_Md_492 : mm_Fl "TensorForgeModel" 492 11 54 .int false := ⟨R_Md, F_Md, 69, t_Md, rfl, i_Md, by decide, mm_tb_1 1665 (by decide +kernel) rfl, rfl, t_Md_ok, n_Md, rfl, by decide +kernel⟩
theorem zf_Md_495 : mm_Fl "TensorForgeModel" 495 11 55 .int false := ⟨R_Md, F_Md, 69, t_Md, rfl, i_Md, by decide, mm_tb_1 1666 (by decide +kernel) rfl, rfl, t_Md_ok, n_Md, rfl, by decide +kernel⟩
theorem zg_14_83_0 : (decode zy_group_14_83.2.1 0 = .ok ((.aload_n 0), 1)) ∧ (decode zy_group_14_83.2.1 1 = .ok ((.iconst 0), 1)) ∧ (decode zy_group_14_83.2.1 2 = .ok ((.putfield 456), 3)) ∧ (decode zy_group_14_83.2.1 5 = .ok ((.aload_n 0), 1)) ∧ (decode zy_group_14_83.2.1 6 = .ok ((.iconst 0), 1)) ∧ (decode zy_group_14_83.2.1 7 = .ok ((.putfield 453), 3)) ∧ (decode zy_group_14_83.2.1 10 = .ok ((.aload_n 0), 1)) ∧ (decode zy_group_14_83.2.1 11 = .ok ((.iload_n 1), 1)) ∧ (decode zy_group_14_83.2.1 12 = .ok ((.iload_n 2), 1)) ∧ (decode zy_group_14_83.2.1 13 = .ok ((.iload_n 3), 1)) := by decide +kernel
theorem zd_14_83_0 : zz_D zy_group_14_83 0 (.aload_n 0) 1 1 := ⟨zg_14_83_0.1, rfl⟩
theorem zd_14_83_1 : zz_D zy_group_14_83 1 (.iconst 0) 1 2 := ⟨zg_14_83_0.2.1, rfl⟩
theorem zd_14_83_2 : zz_D zy_group_14_83 2 (.putfield 456) 3 5 := ⟨zg_14_83_0.2.2.1, rfl⟩
theorem zd_14_83_5 : zz_D zy_group_14_83 5 (.aload_n 0) 1 6 := ⟨zg_14_83_0.2.2.2.1, rfl⟩
theorem zd_14_83_6 : zz_D zy_group_14_83 6 (.iconst 0) 1 7 := ⟨zg_14_83_0.2.2.2.2.1, rfl⟩
theorem zd_14_83_7 : zz_D zy_group_14_83 7 (.putfield 453) 3 10 := ⟨zg_14_83_0.2.2.2.2.2.1, rfl⟩
theorem zd_14_83_10 : zz_D zy_group_14_83 10 (.aload_n 0) 1 11 := ⟨zg_14_83_0.2.2.2.2.2.2.1, rfl⟩
theorem zd_14_83_11 : zz_D zy_group_14_83 11 (.iload_n 1) 1 12 := ⟨zg_14_83_0.2.2.2.2.2.2.2.1, rfl⟩
theorem zd_14_83_12 : zz_D zy_group_14_83 12 (.iload_n 2) 1 13 := ⟨zg_14_83_0.2.2.2.2.2.2.2.2.1, rfl⟩
theorem zd_14_83_13 : zz_D zy_group_14_83 13 (.iload_n 3) 1 14 := ⟨zg_14_83_0.2.2.2.2.2.2.2.2.2, rfl⟩
theorem zg_14_83_14 : (decode zy_group_14_83.2.1 14 = .ok ((.iload 4), 2)) ∧ (decode zy_group_14_83.2.1 16 = .ok ((.iload 5), 2)) ∧ (decode zy_group_14_83.2.1 18 = .ok ((.iload 6), 2)) ∧ (decode zy_group_14_83.2.1 20 = .ok ((.iconst 1), 1)) ∧ (decode zy_group_14_83.2.1 21 = .ok ((.invokevirtual 462), 3)) := by decide +kernel
theorem zd_14_83_14 : zz_D zy_group_14_83 14 (.iload 4) 2 16 := ⟨zg_14_83_14.1, rfl⟩
theorem zd_14_83_16 : zz_D zy_group_14_83 16 (.iload 5) 2 18 := ⟨zg_14_83_14.2.1, rfl⟩
theorem zd_14_83_18 : zz_D zy_group_14_83 18 (.iload 6) 2 20 := ⟨zg_14_83_14.2.2.1, rfl⟩
theorem zd_14_83_20 : zz_D zy_group_14_83 20 (.iconst 1) 1 21 := ⟨zg_14_83_14.2.2.2.1, rfl⟩
theorem zd_14_83_21 : zz_D zy_group_14_83 21 (.invokevirtual 462) 3 24 := ⟨zg_14_83_14.2.2.2.2, rfl⟩
theorem zg_14_84_0 : (decode zy_groupLoads_14_84.2.1 0 = .ok ((.aload_n 0), 1)) ∧ (decode zy_groupLoads_14_84.2.1 1 = .ok ((.getfield 103), 3)) ∧ (decode zy_groupLoads_14_84.2.1 4 = .ok ((.iload_n 1), 1)) ∧ (decode zy_groupLoads_14_84.2.1 5 = .ok ((.iaload), 1)) ∧ (decode zy_groupLoads_14_84.2.1 6 = .ok ((.istore 8), 2)) ∧ (decode zy_groupLoads_14_84.2.1 8 = .ok ((.aload_n 0), 1)) ∧ (decode zy_groupLoads_14_84.2.1 9 = .ok ((.getfield 94), 3)) ∧ (decode zy_groupLoads_14_84.2.1 12 = .ok ((.iload_n 1), 1)) ∧ (decode zy_groupLoads_14_84.2.1 13 = .ok ((.iconst 1), 1)) ∧ (decode zy_groupLoads_14_84.2.1 14 = .ok ((.iadd), 1)) := by decide +kernel
theorem zd_14_84_0 : zz_D zy_groupLoads_14_84 0 (.aload_n 0) 1 1 := ⟨zg_14_84_0.1, rfl⟩
theorem zd_14_84_1 : zz_D zy_groupLoads_14_84 1 (.getfield 103) 3 4 := ⟨zg_14_84_0.2.1, rfl⟩
theorem zd_14_84_4 : zz_D zy_groupLoads_14_84 4 (.iload_n 1) 1 5 := ⟨zg_14_84_0.2.2.1, rfl⟩
theorem zd_14_84_5 : zz_D zy_groupLoads_14_84 5 (.iaload) 1 6 := ⟨zg_14_84_0.2.2.2.1, rfl⟩
theorem zd_14_84_6 : zz_D zy_groupLoads_14_84 6 (.istore 8) 2 8 := ⟨zg_14_84_0.2.2.2.2.1, rfl⟩
theorem zd_14_84_8 : zz_D zy_groupLoads_14_84 8 (.aload_n 0) 1 9 := ⟨zg_14_84_0.2.2.2.2.2.1, rfl⟩
theorem zd_14_84_9 : zz_D zy_groupLoads_14_84 9 (.getfield 94) 3 12 := ⟨zg_14_84_0.2.2.2.2.2.2.1, rfl⟩
theorem zd_14_84_12 : zz_D zy_groupLoads_14_84 12 (.iload_n 1) 1 13 := ⟨zg_14_84_0.2.2.2.2.2.2.2.1, rfl⟩
theorem zd_14_84_13 : zz_D zy_groupLoads_14_84 13 (.iconst 1) 1 14 := ⟨zg_14_84_0.2.2.2.2.2.2.2.2.1, rfl⟩
theorem zd_14_84_14 : zz_D zy_groupLoads_14_84 14 (.iadd) 1 15 := ⟨zg_14_84_0.2.2.2.2.2.2.2.2.2, rfl⟩
theorem zg_14_84_15 : (decode zy_groupLoads_14_84.2.1 15 = .ok ((.iaload), 1)) ∧ (decode zy_groupLoads_14_84.2.1 16 = .ok ((.istore 9), 2)) ∧ (decode zy_groupLoads_14_84.2.1 18 = .ok ((.aload_n 0), 1)) ∧ (decode zy_groupLoads_14_84.2.1 19 = .ok ((.getfield 100), 3)) ∧ (decode zy_groupLoads_14_84.2.1 22 = .ok ((.iload_n 1), 1)) ∧ (decode zy_groupLoads_14_84.2.1 23 = .ok ((.iaload), 1)) ∧ (decode zy_groupLoads_14_84.2.1 24 = .ok ((Instr.ifCond .ne) 51, 3)) ∧ (decode zy_groupLoads_14_84.2.1 27 = .ok ((.iload 6), 2)) ∧ (decode zy_groupLoads_14_84.2.1 29 = .ok ((Instr.ifCond .eq) 46, 3)) ∧ (decode zy_groupLoads_14_84.2.1 32 = .ok ((.aload_n 0), 1)) := by decide +kernel
theorem zd_14_84_15 : zz_D zy_groupLoads_14_84 15 (.iaload) 1 16 := ⟨zg_14_84_15.1, rfl⟩
theorem zd_14_84_16 : zz_D zy_groupLoads_14_84 16 (.istore 9) 2 18 := ⟨zg_14_84_15.2.1, rfl⟩
theorem zd_14_84_18 : zz_D zy_groupLoads_14_84 18 (.aload_n 0) 1 19 := ⟨zg_14_84_15.2.2.1, rfl⟩
theorem zd_14_84_19 : zz_D zy_groupLoads_14_84 19 (.getfield 100) 3 22 := ⟨zg_14_84_15.2.2.2.1, rfl⟩
theorem zd_14_84_22 : zz_D zy_groupLoads_14_84 22 (.iload_n 1) 1 23 := ⟨zg_14_84_15.2.2.2.2.1, rfl⟩
theorem zd_14_84_23 : zz_D zy_groupLoads_14_84 23 (.iaload) 1 24 := ⟨zg_14_84_15.2.2.2.2.2.1, rfl⟩
theorem zd_14_84_24 : zz_B zy_groupLoads_14_84 24 (Instr.ifCond .ne) 75 27 := ⟨51, zg_14_84_15.2.2.2.2.2.2.1, rfl, rfl⟩
theorem zd_14_84_27 : zz_D zy_groupLoads_14_84 27 (.iload 6) 2 29 := ⟨zg_14_84_15.2.2.2.2.2.2.2.1, rfl⟩
theorem zd_14_84_29 : zz_B zy_groupLoads_14_84 29 (Instr.ifCond .eq) 75 32 := ⟨46, zg_14_84_15.2.2.2.2.2.2.2.2.1, rfl, rfl⟩
theorem zd_14_84_32 : zz_D zy_groupLoads_14_84 32 (.aload_n 0) 1 33 := ⟨zg_14_84_15.2.2.2.2.2.2.2.2.2, rfl⟩
theorem zg_14_84_33 : (decode zy_groupLoads_14_84.2.1 33 = .ok ((.iconst 4), 1)) ∧ (decode zy_groupLoads_14_84.2.1 34 = .ok ((.aload_n 0), 1)) ∧ (decode zy_groupLoads_14_84.2.1 35 = .ok ((.getfield 124), 3)) ∧ (decode zy_groupLoads_14_84.2.1 38 = .ok ((.iload_n 1), 1)) ∧ (decode zy_groupLoads_14_84.2.1 39 = .ok ((.iaload), 1)) ∧ (decode zy_groupLoads_14_84.2.1 40 = .ok ((.iconst 4), 1)) ∧ (decode zy_groupLoads_14_84.2.1 41 = .ok ((.aload_n 0), 1)) ∧ (decode zy_groupLoads_14_84.2.1 42 = .ok ((.getfield 466), 3)) ∧ (decode zy_groupLoads_14_84.2.1 45 = .ok ((.imul), 1)) ∧ (decode zy_groupLoads_14_84.2.1 46 = .ok ((.iadd), 1)) := by decide +kernel
theorem zd_14_84_33 : zz_D zy_groupLoads_14_84 33 (.iconst 4) 1 34 := ⟨zg_14_84_33.1, rfl⟩
theorem zd_14_84_34 : zz_D zy_groupLoads_14_84 34 (.aload_n 0) 1 35 := ⟨zg_14_84_33.2.1, rfl⟩
theorem zd_14_84_35 : zz_D zy_groupLoads_14_84 35 (.getfield 124) 3 38 := ⟨zg_14_84_33.2.2.1, rfl⟩
theorem zd_14_84_38 : zz_D zy_groupLoads_14_84 38 (.iload_n 1) 1 39 := ⟨zg_14_84_33.2.2.2.1, rfl⟩
theorem zd_14_84_39 : zz_D zy_groupLoads_14_84 39 (.iaload) 1 40 := ⟨zg_14_84_33.2.2.2.2.1, rfl⟩
theorem zd_14_84_40 : zz_D zy_groupLoads_14_84 40 (.iconst 4) 1 41 := ⟨zg_14_84_33.2.2.2.2.2.1, rfl⟩
theorem zd_14_84_41 : zz_D zy_groupLoads_14_84 41 (.aload_n 0) 1 42 := ⟨zg_14_84_33.2.2.2.2.2.2.1, rfl⟩
theorem zd_14_84_42 : zz_D zy_groupLoads_14_84 42 (.getfield 466) 3 45 := ⟨zg_14_84_33.2.2.2.2.2.2.2.1, rfl⟩
theorem zd_14_84_45 : zz_D zy_groupLoads_14_84 45 (.imul) 1 46 := ⟨zg_14_84_33.2.2.2.2.2.2.2.2.1, rfl⟩
theorem zd_14_84_46 : zz_D zy_groupLoads_14_84 46 (.iadd) 1 47 := ⟨zg_14_84_33.2.2.2.2.2.2.2.2.2, rfl⟩
theorem zg_14_84_47 : (decode zy_groupLoads_14_84.2.1 47 = .ok ((.aload_n 0), 1)) ∧ (decode zy_groupLoads_14_84.2.1 48 = .ok ((.getfield 469), 3)) ∧ (decode zy_groupLoads_14_84.2.1 51 = .ok ((.aload_n 0), 1)) ∧ (decode zy_groupLoads_14_84.2.1 52 = .ok ((.getfield 472), 3)) ∧ (decode zy_groupLoads_14_84.2.1 55 = .ok ((.invokevirtual 475), 3)) ∧ (decode zy_groupLoads_14_84.2.1 58 = .ok ((.aload_n 0), 1)) ∧ (decode zy_groupLoads_14_84.2.1 59 = .ok ((.aload_n 0), 1)) ∧ (decode zy_groupLoads_14_84.2.1 60 = .ok ((.invokevirtual 479), 3)) ∧ (decode zy_groupLoads_14_84.2.1 63 = .ok ((.iconst 0), 1)) ∧ (decode zy_groupLoads_14_84.2.1 64 = .ok ((.iconst 0), 1)) := by decide +kernel
theorem zd_14_84_47 : zz_D zy_groupLoads_14_84 47 (.aload_n 0) 1 48 := ⟨zg_14_84_47.1, rfl⟩
theorem zd_14_84_48 : zz_D zy_groupLoads_14_84 48 (.getfield 469) 3 51 := ⟨zg_14_84_47.2.1, rfl⟩
theorem zd_14_84_51 : zz_D zy_groupLoads_14_84 51 (.aload_n 0) 1 52 := ⟨zg_14_84_47.2.2.1, rfl⟩
theorem zd_14_84_52 : zz_D zy_groupLoads_14_84 52 (.getfield 472) 3 55 := ⟨zg_14_84_47.2.2.2.1, rfl⟩
theorem zd_14_84_55 : zz_D zy_groupLoads_14_84 55 (.invokevirtual 475) 3 58 := ⟨zg_14_84_47.2.2.2.2.1, rfl⟩
theorem zd_14_84_58 : zz_D zy_groupLoads_14_84 58 (.aload_n 0) 1 59 := ⟨zg_14_84_47.2.2.2.2.2.1, rfl⟩
theorem zd_14_84_59 : zz_D zy_groupLoads_14_84 59 (.aload_n 0) 1 60 := ⟨zg_14_84_47.2.2.2.2.2.2.1, rfl⟩
theorem zd_14_84_60 : zz_D zy_groupLoads_14_84 60 (.invokevirtual 479) 3 63 := ⟨zg_14_84_47.2.2.2.2.2.2.2.1, rfl⟩
theorem zd_14_84_63 : zz_D zy_groupLoads_14_84 63 (.iconst 0) 1 64 := ⟨zg_14_84_47.2.2.2.2.2.2.2.2.1, rfl⟩
theorem zd_14_84_64 : zz_D zy_groupLoads_14_84 64 (.iconst 0) 1 65 := ⟨zg_14_84_47.2.2.2.2.2.2.2.2.2, rfl⟩
theorem zg_14_84_65 : (decode zy_groupLoads_14_84.2.1 65 = .ok ((.iconst 0), 1)) ∧ (decode zy_groupLoads_14_84.2.1 66 = .ok ((.invokevirtual 482), 3)) ∧ (decode zy_groupLoads_14_84.2.1 69 = .ok ((.aload_n 0), 1)) ∧ (decode zy_groupLoads_14_84.2.1 70 = .ok ((.iload 7), 2)) ∧ (decode zy_groupLoads_14_84.2.1 72 = .ok ((.invokevirtual 485), 3)) ∧ (decode zy_groupLoads_14_84.2.1 75 = .ok ((.aload_n 0), 1)) ∧ (decode zy_groupLoads_14_84.2.1 76 = .ok ((.getfield 100), 3)) ∧ (decode zy_groupLoads_14_84.2.1 79 = .ok ((.iload_n 1), 1)) ∧ (decode zy_groupLoads_14_84.2.1 80 = .ok ((.iaload), 1)) ∧ (decode zy_groupLoads_14_84.2.1 81 = .ok ((Instr.ifCond .ne) 77, 3)) := by decide +kernel
theorem zd_14_84_65 : zz_D zy_groupLoads_14_84 65 (.iconst 0) 1 66 := ⟨zg_14_84_65.1, rfl⟩
theorem zd_14_84_66 : zz_D zy_groupLoads_14_84 66 (.invokevirtual 482) 3 69 := ⟨zg_14_84_65.2.1, rfl⟩
theorem zd_14_84_69 : zz_D zy_groupLoads_14_84 69 (.aload_n 0) 1 70 := ⟨zg_14_84_65.2.2.1, rfl⟩
theorem zd_14_84_70 : zz_D zy_groupLoads_14_84 70 (.iload 7) 2 72 := ⟨zg_14_84_65.2.2.2.1, rfl⟩
theorem zd_14_84_72 : zz_D zy_groupLoads_14_84 72 (.invokevirtual 485) 3 75 := ⟨zg_14_84_65.2.2.2.2.1, rfl⟩
theorem zd_14_84_75 : zz_D zy_groupLoads_14_84 75 (.aload_n 0) 1 76 := ⟨zg_14_84_65.2.2.2.2.2.1, rfl⟩
theorem zd_14_84_76 : zz_D zy_groupLoads_14_84 76 (.getfield 100) 3 79 := ⟨zg_14_84_65.2.2.2.2.2.2.1, rfl⟩
theorem zd_14_84_79 : zz_D zy_groupLoads_14_84 79 (.iload_n 1) 1 80 := ⟨zg_14_84_65.2.2.2.2.2.2.2.1, rfl⟩
theorem zd_14_84_80 : zz_D zy_groupLoads_14_84 80 (.iaload) 1 81 := ⟨zg_14_84_65.2.2.2.2.2.2.2.2.1, rfl⟩
theorem zd_14_84_81 : zz_B zy_groupLoads_14_84 81 (Instr.ifCond .ne) 158 84 := ⟨77, zg_14_84_65.2.2.2.2.2.2.2.2.2, rfl, rfl⟩
theorem zg_14_84_84 : (decode zy_groupLoads_14_84.2.1 84 = .ok ((.iload_n 2), 1)) ∧ (decode zy_groupLoads_14_84.2.1 85 = .ok ((.aload_n 0), 1)) ∧ (decode zy_groupLoads_14_84.2.1 86 = .ok ((.getfield 112), 3)) ∧ (decode zy_groupLoads_14_84.2.1 89 = .ok ((.iload_n 1), 1)) ∧ (decode zy_groupLoads_14_84.2.1 90 = .ok ((.iaload), 1)) ∧ (decode zy_groupLoads_14_84.2.1 91 = .ok ((.imul), 1)) ∧ (decode zy_groupLoads_14_84.2.1 92 = .ok ((.iload_n 3), 1)) ∧ (decode zy_groupLoads_14_84.2.1 93 = .ok ((.iadd), 1)) ∧ (decode zy_groupLoads_14_84.2.1 94 = .ok ((.aload_n 0), 1)) ∧ (decode zy_groupLoads_14_84.2.1 95 = .ok ((.getfield 94), 3)) := by decide +kernel
theorem zd_14_84_84 : zz_D zy_groupLoads_14_84 84 (.iload_n 2) 1 85 := ⟨zg_14_84_84.1, rfl⟩
theorem zd_14_84_85 : zz_D zy_groupLoads_14_84 85 (.aload_n 0) 1 86 := ⟨zg_14_84_84.2.1, rfl⟩
theorem zd_14_84_86 : zz_D zy_groupLoads_14_84 86 (.getfield 112) 3 89 := ⟨zg_14_84_84.2.2.1, rfl⟩
theorem zd_14_84_89 : zz_D zy_groupLoads_14_84 89 (.iload_n 1) 1 90 := ⟨zg_14_84_84.2.2.2.1, rfl⟩
theorem zd_14_84_90 : zz_D zy_groupLoads_14_84 90 (.iaload) 1 91 := ⟨zg_14_84_84.2.2.2.2.1, rfl⟩
theorem zd_14_84_91 : zz_D zy_groupLoads_14_84 91 (.imul) 1 92 := ⟨zg_14_84_84.2.2.2.2.2.1, rfl⟩
theorem zd_14_84_92 : zz_D zy_groupLoads_14_84 92 (.iload_n 3) 1 93 := ⟨zg_14_84_84.2.2.2.2.2.2.1, rfl⟩
theorem zd_14_84_93 : zz_D zy_groupLoads_14_84 93 (.iadd) 1 94 := ⟨zg_14_84_84.2.2.2.2.2.2.2.1, rfl⟩
theorem zd_14_84_94 : zz_D zy_groupLoads_14_84 94 (.aload_n 0) 1 95 := ⟨zg_14_84_84.2.2.2.2.2.2.2.2.1, rfl⟩
theorem zd_14_84_95 : zz_D zy_groupLoads_14_84 95 (.getfield 94) 3 98 := ⟨zg_14_84_84.2.2.2.2.2.2.2.2.2, rfl⟩
theorem zg_14_84_98 : (decode zy_groupLoads_14_84.2.1 98 = .ok ((.iload 8), 2)) ∧ (decode zy_groupLoads_14_84.2.1 100 = .ok ((.iaload), 1)) ∧ (decode zy_groupLoads_14_84.2.1 101 = .ok ((.imul), 1)) ∧ (decode zy_groupLoads_14_84.2.1 102 = .ok ((.iload 4), 2)) ∧ (decode zy_groupLoads_14_84.2.1 104 = .ok ((.iadd), 1)) ∧ (decode zy_groupLoads_14_84.2.1 105 = .ok ((.istore 10), 2)) ∧ (decode zy_groupLoads_14_84.2.1 107 = .ok ((.aload_n 0), 1)) ∧ (decode zy_groupLoads_14_84.2.1 108 = .ok ((.iconst 2), 1)) ∧ (decode zy_groupLoads_14_84.2.1 109 = .ok ((.aload_n 0), 1)) ∧ (decode zy_groupLoads_14_84.2.1 110 = .ok ((.getfield 124), 3)) := by decide +kernel
theorem zd_14_84_98 : zz_D zy_groupLoads_14_84 98 (.iload 8) 2 100 := ⟨zg_14_84_98.1, rfl⟩
theorem zd_14_84_100 : zz_D zy_groupLoads_14_84 100 (.iaload) 1 101 := ⟨zg_14_84_98.2.1, rfl⟩
theorem zd_14_84_101 : zz_D zy_groupLoads_14_84 101 (.imul) 1 102 := ⟨zg_14_84_98.2.2.1, rfl⟩
theorem zd_14_84_102 : zz_D zy_groupLoads_14_84 102 (.iload 4) 2 104 := ⟨zg_14_84_98.2.2.2.1, rfl⟩
theorem zd_14_84_104 : zz_D zy_groupLoads_14_84 104 (.iadd) 1 105 := ⟨zg_14_84_98.2.2.2.2.1, rfl⟩
theorem zd_14_84_105 : zz_D zy_groupLoads_14_84 105 (.istore 10) 2 107 := ⟨zg_14_84_98.2.2.2.2.2.1, rfl⟩
theorem zd_14_84_107 : zz_D zy_groupLoads_14_84 107 (.aload_n 0) 1 108 := ⟨zg_14_84_98.2.2.2.2.2.2.1, rfl⟩
theorem zd_14_84_108 : zz_D zy_groupLoads_14_84 108 (.iconst 2) 1 109 := ⟨zg_14_84_98.2.2.2.2.2.2.2.1, rfl⟩
theorem zd_14_84_109 : zz_D zy_groupLoads_14_84 109 (.aload_n 0) 1 110 := ⟨zg_14_84_98.2.2.2.2.2.2.2.2.1, rfl⟩
theorem zd_14_84_110 : zz_D zy_groupLoads_14_84 110 (.getfield 124) 3 113 := ⟨zg_14_84_98.2.2.2.2.2.2.2.2.2, rfl⟩
theorem zg_14_84_113 : (decode zy_groupLoads_14_84.2.1 113 = .ok ((.iload_n 1), 1)) ∧ (decode zy_groupLoads_14_84.2.1 114 = .ok ((.iaload), 1)) ∧ (decode zy_groupLoads_14_84.2.1 115 = .ok ((.iconst 4), 1)) ∧ (decode zy_groupLoads_14_84.2.1 116 = .ok ((.iload 9), 2)) ∧ (decode zy_groupLoads_14_84.2.1 118 = .ok ((.imul), 1)) ∧ (decode zy_groupLoads_14_84.2.1 119 = .ok ((.iadd), 1)) ∧ (decode zy_groupLoads_14_84.2.1 120 = .ok ((.iload 10), 2)) ∧ (decode zy_groupLoads_14_84.2.1 122 = .ok ((.iload 9), 2)) ∧ (decode zy_groupLoads_14_84.2.1 124 = .ok ((.imul), 1)) ∧ (decode zy_groupLoads_14_84.2.1 125 = .ok ((.iadd), 1)) := by decide +kernel
theorem zd_14_84_113 : zz_D zy_groupLoads_14_84 113 (.iload_n 1) 1 114 := ⟨zg_14_84_113.1, rfl⟩
theorem zd_14_84_114 : zz_D zy_groupLoads_14_84 114 (.iaload) 1 115 := ⟨zg_14_84_113.2.1, rfl⟩
theorem zd_14_84_115 : zz_D zy_groupLoads_14_84 115 (.iconst 4) 1 116 := ⟨zg_14_84_113.2.2.1, rfl⟩
theorem zd_14_84_116 : zz_D zy_groupLoads_14_84 116 (.iload 9) 2 118 := ⟨zg_14_84_113.2.2.2.1, rfl⟩
theorem zd_14_84_118 : zz_D zy_groupLoads_14_84 118 (.imul) 1 119 := ⟨zg_14_84_113.2.2.2.2.1, rfl⟩
theorem zd_14_84_119 : zz_D zy_groupLoads_14_84 119 (.iadd) 1 120 := ⟨zg_14_84_113.2.2.2.2.2.1, rfl⟩
theorem zd_14_84_120 : zz_D zy_groupLoads_14_84 120 (.iload 10) 2 122 := ⟨zg_14_84_113.2.2.2.2.2.2.1, rfl⟩
theorem zd_14_84_122 : zz_D zy_groupLoads_14_84 122 (.iload 9) 2 124 := ⟨zg_14_84_113.2.2.2.2.2.2.2.1, rfl⟩
theorem zd_14_84_124 : zz_D zy_groupLoads_14_84 124 (.imul) 1 125 := ⟨zg_14_84_113.2.2.2.2.2.2.2.2.1, rfl⟩
theorem zd_14_84_125 : zz_D zy_groupLoads_14_84 125 (.iadd) 1 126 := ⟨zg_14_84_113.2.2.2.2.2.2.2.2.2, rfl⟩
theorem zg_14_84_126 : (decode zy_groupLoads_14_84.2.1 126 = .ok ((.aload_n 0), 1)) ∧ (decode zy_groupLoads_14_84.2.1 127 = .ok ((.getfield 466), 3)) ∧ (decode zy_groupLoads_14_84.2.1 130 = .ok ((.iadd), 1)) ∧ (decode zy_groupLoads_14_84.2.1 131 = .ok ((.iload 5), 2)) ∧ (decode zy_groupLoads_14_84.2.1 133 = .ok ((.aload_n 0), 1)) ∧ (decode zy_groupLoads_14_84.2.1 134 = .ok ((.getfield 472), 3)) ∧ (decode zy_groupLoads_14_84.2.1 137 = .ok ((.invokevirtual 475), 3)) ∧ (decode zy_groupLoads_14_84.2.1 140 = .ok ((.aload_n 0), 1)) ∧ (decode zy_groupLoads_14_84.2.1 141 = .ok ((.aload_n 0), 1)) ∧ (decode zy_groupLoads_14_84.2.1 142 = .ok ((.invokevirtual 489), 3)) := by decide +kernel
theorem zd_14_84_126 : zz_D zy_groupLoads_14_84 126 (.aload_n 0) 1 127 := ⟨zg_14_84_126.1, rfl⟩
theorem zd_14_84_127 : zz_D zy_groupLoads_14_84 127 (.getfield 466) 3 130 := ⟨zg_14_84_126.2.1, rfl⟩
theorem zd_14_84_130 : zz_D zy_groupLoads_14_84 130 (.iadd) 1 131 := ⟨zg_14_84_126.2.2.1, rfl⟩
theorem zd_14_84_131 : zz_D zy_groupLoads_14_84 131 (.iload 5) 2 133 := ⟨zg_14_84_126.2.2.2.1, rfl⟩
theorem zd_14_84_133 : zz_D zy_groupLoads_14_84 133 (.aload_n 0) 1 134 := ⟨zg_14_84_126.2.2.2.2.1, rfl⟩
theorem zd_14_84_134 : zz_D zy_groupLoads_14_84 134 (.getfield 472) 3 137 := ⟨zg_14_84_126.2.2.2.2.2.1, rfl⟩
theorem zd_14_84_137 : zz_D zy_groupLoads_14_84 137 (.invokevirtual 475) 3 140 := ⟨zg_14_84_126.2.2.2.2.2.2.1, rfl⟩
theorem zd_14_84_140 : zz_D zy_groupLoads_14_84 140 (.aload_n 0) 1 141 := ⟨zg_14_84_126.2.2.2.2.2.2.2.1, rfl⟩
theorem zd_14_84_141 : zz_D zy_groupLoads_14_84 141 (.aload_n 0) 1 142 := ⟨zg_14_84_126.2.2.2.2.2.2.2.2.1, rfl⟩
theorem zd_14_84_142 : zz_D zy_groupLoads_14_84 142 (.invokevirtual 489) 3 145 := ⟨zg_14_84_126.2.2.2.2.2.2.2.2.2, rfl⟩
theorem zg_14_84_145 : (decode zy_groupLoads_14_84.2.1 145 = .ok ((.iconst 0), 1)) ∧ (decode zy_groupLoads_14_84.2.1 146 = .ok ((.iload 9), 2)) ∧ (decode zy_groupLoads_14_84.2.1 148 = .ok ((.iconst 0), 1)) ∧ (decode zy_groupLoads_14_84.2.1 149 = .ok ((.invokevirtual 482), 3)) ∧ (decode zy_groupLoads_14_84.2.1 152 = .ok ((.aload_n 0), 1)) ∧ (decode zy_groupLoads_14_84.2.1 153 = .ok ((.iload 7), 2)) ∧ (decode zy_groupLoads_14_84.2.1 155 = .ok ((.invokevirtual 485), 3)) ∧ (decode zy_groupLoads_14_84.2.1 158 = .ok ((.aload_n 0), 1)) ∧ (decode zy_groupLoads_14_84.2.1 159 = .ok ((.getfield 100), 3)) ∧ (decode zy_groupLoads_14_84.2.1 162 = .ok ((.iload_n 1), 1)) := by decide +kernel
theorem zd_14_84_145 : zz_D zy_groupLoads_14_84 145 (.iconst 0) 1 146 := ⟨zg_14_84_145.1, rfl⟩
theorem zd_14_84_146 : zz_D zy_groupLoads_14_84 146 (.iload 9) 2 148 := ⟨zg_14_84_145.2.1, rfl⟩
theorem zd_14_84_148 : zz_D zy_groupLoads_14_84 148 (.iconst 0) 1 149 := ⟨zg_14_84_145.2.2.1, rfl⟩
theorem zd_14_84_149 : zz_D zy_groupLoads_14_84 149 (.invokevirtual 482) 3 152 := ⟨zg_14_84_145.2.2.2.1, rfl⟩
theorem zd_14_84_152 : zz_D zy_groupLoads_14_84 152 (.aload_n 0) 1 153 := ⟨zg_14_84_145.2.2.2.2.1, rfl⟩
theorem zd_14_84_153 : zz_D zy_groupLoads_14_84 153 (.iload 7) 2 155 := ⟨zg_14_84_145.2.2.2.2.2.1, rfl⟩
theorem zd_14_84_155 : zz_D zy_groupLoads_14_84 155 (.invokevirtual 485) 3 158 := ⟨zg_14_84_145.2.2.2.2.2.2.1, rfl⟩
theorem zd_14_84_158 : zz_D zy_groupLoads_14_84 158 (.aload_n 0) 1 159 := ⟨zg_14_84_145.2.2.2.2.2.2.2.1, rfl⟩
theorem zd_14_84_159 : zz_D zy_groupLoads_14_84 159 (.getfield 100) 3 162 := ⟨zg_14_84_145.2.2.2.2.2.2.2.2.1, rfl⟩
theorem zd_14_84_162 : zz_D zy_groupLoads_14_84 162 (.iload_n 1) 1 163 := ⟨zg_14_84_145.2.2.2.2.2.2.2.2.2, rfl⟩
theorem zg_14_84_163 : (decode zy_groupLoads_14_84.2.1 163 = .ok ((.iaload), 1)) ∧ (decode zy_groupLoads_14_84.2.1 164 = .ok ((.iconst 2), 1)) ∧ (decode zy_groupLoads_14_84.2.1 165 = .ok ((Instr.if_icmp .ne) 82, 3)) ∧ (decode zy_groupLoads_14_84.2.1 168 = .ok ((.iload_n 2), 1)) ∧ (decode zy_groupLoads_14_84.2.1 169 = .ok ((Instr.ifCond .ne) 12, 3)) ∧ (decode zy_groupLoads_14_84.2.1 181 = .ok ((.aload_n 0), 1)) ∧ (decode zy_groupLoads_14_84.2.1 182 = .ok ((.getfield 106), 3)) ∧ (decode zy_groupLoads_14_84.2.1 185 = .ok ((.iload_n 1), 1)) ∧ (decode zy_groupLoads_14_84.2.1 186 = .ok ((.iaload), 1)) ∧ (decode zy_groupLoads_14_84.2.1 187 = .ok ((.istore 10), 2)) := by decide +kernel
theorem zd_14_84_163 : zz_D zy_groupLoads_14_84 163 (.iaload) 1 164 := ⟨zg_14_84_163.1, rfl⟩
theorem zd_14_84_164 : zz_D zy_groupLoads_14_84 164 (.iconst 2) 1 165 := ⟨zg_14_84_163.2.1, rfl⟩
theorem zd_14_84_165 : zz_B zy_groupLoads_14_84 165 (Instr.if_icmp .ne) 247 168 := ⟨82, zg_14_84_163.2.2.1, rfl, rfl⟩
theorem zd_14_84_168 : zz_D zy_groupLoads_14_84 168 (.iload_n 2) 1 169 := ⟨zg_14_84_163.2.2.2.1, rfl⟩
theorem zd_14_84_169 : zz_B zy_groupLoads_14_84 169 (Instr.ifCond .ne) 181 172 := ⟨12, zg_14_84_163.2.2.2.2.1, rfl, rfl⟩
theorem zd_14_84_181 : zz_D zy_groupLoads_14_84 181 (.aload_n 0) 1 182 := ⟨zg_14_84_163.2.2.2.2.2.1, rfl⟩
theorem zd_14_84_182 : zz_D zy_groupLoads_14_84 182 (.getfield 106) 3 185 := ⟨zg_14_84_163.2.2.2.2.2.2.1, rfl⟩
theorem zd_14_84_185 : zz_D zy_groupLoads_14_84 185 (.iload_n 1) 1 186 := ⟨zg_14_84_163.2.2.2.2.2.2.2.1, rfl⟩
theorem zd_14_84_186 : zz_D zy_groupLoads_14_84 186 (.iaload) 1 187 := ⟨zg_14_84_163.2.2.2.2.2.2.2.2.1, rfl⟩
theorem zd_14_84_187 : zz_D zy_groupLoads_14_84 187 (.istore 10) 2 189 := ⟨zg_14_84_163.2.2.2.2.2.2.2.2.2, rfl⟩
theorem zg_14_84_189 : (decode zy_groupLoads_14_84.2.1 189 = .ok ((.aload_n 0), 1)) ∧ (decode zy_groupLoads_14_84.2.1 190 = .ok ((.iconst 1), 1)) ∧ (decode zy_groupLoads_14_84.2.1 191 = .ok ((.aload_n 0), 1)) ∧ (decode zy_groupLoads_14_84.2.1 192 = .ok ((.getfield 97), 3)) ∧ (decode zy_groupLoads_14_84.2.1 195 = .ok ((.iload 10), 2)) ∧ (decode zy_groupLoads_14_84.2.1 197 = .ok ((.iaload), 1)) ∧ (decode zy_groupLoads_14_84.2.1 198 = .ok ((.aload_n 0), 1)) ∧ (decode zy_groupLoads_14_84.2.1 199 = .ok ((.getfield 492), 3)) ∧ (decode zy_groupLoads_14_84.2.1 202 = .ok ((.aload_n 0), 1)) ∧ (decode zy_groupLoads_14_84.2.1 203 = .ok ((.getfield 94), 3)) := by decide +kernel
theorem zd_14_84_189 : zz_D zy_groupLoads_14_84 189 (.aload_n 0) 1 190 := ⟨zg_14_84_189.1, rfl⟩
theorem zd_14_84_190 : zz_D zy_groupLoads_14_84 190 (.iconst 1) 1 191 := ⟨zg_14_84_189.2.1, rfl⟩
theorem zd_14_84_191 : zz_D zy_groupLoads_14_84 191 (.aload_n 0) 1 192 := ⟨zg_14_84_189.2.2.1, rfl⟩
theorem zd_14_84_192 : zz_D zy_groupLoads_14_84 192 (.getfield 97) 3 195 := ⟨zg_14_84_189.2.2.2.1, rfl⟩
theorem zd_14_84_195 : zz_D zy_groupLoads_14_84 195 (.iload 10) 2 197 := ⟨zg_14_84_189.2.2.2.2.1, rfl⟩
theorem zd_14_84_197 : zz_D zy_groupLoads_14_84 197 (.iaload) 1 198 := ⟨zg_14_84_189.2.2.2.2.2.1, rfl⟩
theorem zd_14_84_198 : zz_D zy_groupLoads_14_84 198 (.aload_n 0) 1 199 := ⟨zg_14_84_189.2.2.2.2.2.2.1, rfl⟩
theorem zd_14_84_199 : zz_D zy_groupLoads_14_84 199 (.getfield 492) 3 202 := ⟨zg_14_84_189.2.2.2.2.2.2.2.1, rfl⟩
theorem zd_14_84_202 : zz_D zy_groupLoads_14_84 202 (.aload_n 0) 1 203 := ⟨zg_14_84_189.2.2.2.2.2.2.2.2.1, rfl⟩
theorem zd_14_84_203 : zz_D zy_groupLoads_14_84 203 (.getfield 94) 3 206 := ⟨zg_14_84_189.2.2.2.2.2.2.2.2.2, rfl⟩
theorem zg_14_84_206 : (decode zy_groupLoads_14_84.2.1 206 = .ok ((.iload 10), 2)) ∧ (decode zy_groupLoads_14_84.2.1 208 = .ok ((.iaload), 1)) ∧ (decode zy_groupLoads_14_84.2.1 209 = .ok ((.imul), 1)) ∧ (decode zy_groupLoads_14_84.2.1 210 = .ok ((.iadd), 1)) ∧ (decode zy_groupLoads_14_84.2.1 211 = .ok ((.iload 4), 2)) ∧ (decode zy_groupLoads_14_84.2.1 213 = .ok ((.iadd), 1)) ∧ (decode zy_groupLoads_14_84.2.1 214 = .ok ((.aload_n 0), 1)) ∧ (decode zy_groupLoads_14_84.2.1 215 = .ok ((.getfield 469), 3)) ∧ (decode zy_groupLoads_14_84.2.1 218 = .ok ((.iload 5), 2)) ∧ (decode zy_groupLoads_14_84.2.1 220 = .ok ((.invokevirtual 475), 3)) := by decide +kernel
theorem zd_14_84_206 : zz_D zy_groupLoads_14_84 206 (.iload 10) 2 208 := ⟨zg_14_84_206.1, rfl⟩
theorem zd_14_84_208 : zz_D zy_groupLoads_14_84 208 (.iaload) 1 209 := ⟨zg_14_84_206.2.1, rfl⟩
theorem zd_14_84_209 : zz_D zy_groupLoads_14_84 209 (.imul) 1 210 := ⟨zg_14_84_206.2.2.1, rfl⟩
theorem zd_14_84_210 : zz_D zy_groupLoads_14_84 210 (.iadd) 1 211 := ⟨zg_14_84_206.2.2.2.1, rfl⟩
theorem zd_14_84_211 : zz_D zy_groupLoads_14_84 211 (.iload 4) 2 213 := ⟨zg_14_84_206.2.2.2.2.1, rfl⟩
theorem zd_14_84_213 : zz_D zy_groupLoads_14_84 213 (.iadd) 1 214 := ⟨zg_14_84_206.2.2.2.2.2.1, rfl⟩
theorem zd_14_84_214 : zz_D zy_groupLoads_14_84 214 (.aload_n 0) 1 215 := ⟨zg_14_84_206.2.2.2.2.2.2.1, rfl⟩
theorem zd_14_84_215 : zz_D zy_groupLoads_14_84 215 (.getfield 469) 3 218 := ⟨zg_14_84_206.2.2.2.2.2.2.2.1, rfl⟩
theorem zd_14_84_218 : zz_D zy_groupLoads_14_84 218 (.iload 5) 2 220 := ⟨zg_14_84_206.2.2.2.2.2.2.2.2.1, rfl⟩
theorem zd_14_84_220 : zz_D zy_groupLoads_14_84 220 (.invokevirtual 475) 3 223 := ⟨zg_14_84_206.2.2.2.2.2.2.2.2.2, rfl⟩
theorem zg_14_84_223 : (decode zy_groupLoads_14_84.2.1 223 = .ok ((.aload_n 0), 1)) ∧ (decode zy_groupLoads_14_84.2.1 224 = .ok ((.aload_n 0), 1)) ∧ (decode zy_groupLoads_14_84.2.1 225 = .ok ((.invokevirtual 489), 3)) ∧ (decode zy_groupLoads_14_84.2.1 228 = .ok ((.iconst 0), 1)) ∧ (decode zy_groupLoads_14_84.2.1 229 = .ok ((.aload_n 0), 1)) ∧ (decode zy_groupLoads_14_84.2.1 230 = .ok ((.getfield 94), 3)) ∧ (decode zy_groupLoads_14_84.2.1 233 = .ok ((.iload 10), 2)) ∧ (decode zy_groupLoads_14_84.2.1 235 = .ok ((.iaload), 1)) ∧ (decode zy_groupLoads_14_84.2.1 236 = .ok ((.iconst 0), 1)) ∧ (decode zy_groupLoads_14_84.2.1 237 = .ok ((.invokevirtual 482), 3)) := by decide +kernel
theorem zd_14_84_223 : zz_D zy_groupLoads_14_84 223 (.aload_n 0) 1 224 := ⟨zg_14_84_223.1, rfl⟩
theorem zd_14_84_224 : zz_D zy_groupLoads_14_84 224 (.aload_n 0) 1 225 := ⟨zg_14_84_223.2.1, rfl⟩
theorem zd_14_84_225 : zz_D zy_groupLoads_14_84 225 (.invokevirtual 489) 3 228 := ⟨zg_14_84_223.2.2.1, rfl⟩
theorem zd_14_84_228 : zz_D zy_groupLoads_14_84 228 (.iconst 0) 1 229 := ⟨zg_14_84_223.2.2.2.1, rfl⟩
theorem zd_14_84_229 : zz_D zy_groupLoads_14_84 229 (.aload_n 0) 1 230 := ⟨zg_14_84_223.2.2.2.2.1, rfl⟩
theorem zd_14_84_230 : zz_D zy_groupLoads_14_84 230 (.getfield 94) 3 233 := ⟨zg_14_84_223.2.2.2.2.2.1, rfl⟩
theorem zd_14_84_233 : zz_D zy_groupLoads_14_84 233 (.iload 10) 2 235 := ⟨zg_14_84_223.2.2.2.2.2.2.1, rfl⟩
theorem zd_14_84_235 : zz_D zy_groupLoads_14_84 235 (.iaload) 1 236 := ⟨zg_14_84_223.2.2.2.2.2.2.2.1, rfl⟩
theorem zd_14_84_236 : zz_D zy_groupLoads_14_84 236 (.iconst 0) 1 237 := ⟨zg_14_84_223.2.2.2.2.2.2.2.2.1, rfl⟩
theorem zd_14_84_237 : zz_D zy_groupLoads_14_84 237 (.invokevirtual 482) 3 240 := ⟨zg_14_84_223.2.2.2.2.2.2.2.2.2, rfl⟩
theorem zg_14_84_240 : (decode zy_groupLoads_14_84.2.1 240 = .ok ((.aload_n 0), 1)) ∧ (decode zy_groupLoads_14_84.2.1 241 = .ok ((.iload 7), 2)) ∧ (decode zy_groupLoads_14_84.2.1 243 = .ok ((.invokevirtual 485), 3)) ∧ (decode zy_groupLoads_14_84.2.1 246 = .ok ((.return_), 1)) ∧ (decode zy_groupLoads_14_84.2.1 172 = .ok ((.aload_n 0), 1)) ∧ (decode zy_groupLoads_14_84.2.1 173 = .ok ((.getfield 103), 3)) ∧ (decode zy_groupLoads_14_84.2.1 176 = .ok ((.iload_n 1), 1)) ∧ (decode zy_groupLoads_14_84.2.1 177 = .ok ((.iaload), 1)) ∧ (decode zy_groupLoads_14_84.2.1 178 = .ok (Instr.goto 9, 3)) ∧ (decode zy_groupLoads_14_84.2.1 247 = .ok ((.aload_n 0), 1)) := by decide +kernel
theorem zd_14_84_240 : zz_D zy_groupLoads_14_84 240 (.aload_n 0) 1 241 := ⟨zg_14_84_240.1, rfl⟩
theorem zd_14_84_241 : zz_D zy_groupLoads_14_84 241 (.iload 7) 2 243 := ⟨zg_14_84_240.2.1, rfl⟩
theorem zd_14_84_243 : zz_D zy_groupLoads_14_84 243 (.invokevirtual 485) 3 246 := ⟨zg_14_84_240.2.2.1, rfl⟩
theorem zd_14_84_246 : zz_D zy_groupLoads_14_84 246 (.return_) 1 247 := ⟨zg_14_84_240.2.2.2.1, rfl⟩
theorem zd_14_84_172 : zz_D zy_groupLoads_14_84 172 (.aload_n 0) 1 173 := ⟨zg_14_84_240.2.2.2.2.1, rfl⟩
theorem zd_14_84_173 : zz_D zy_groupLoads_14_84 173 (.getfield 103) 3 176 := ⟨zg_14_84_240.2.2.2.2.2.1, rfl⟩
theorem zd_14_84_176 : zz_D zy_groupLoads_14_84 176 (.iload_n 1) 1 177 := ⟨zg_14_84_240.2.2.2.2.2.2.1, rfl⟩
theorem zd_14_84_177 : zz_D zy_groupLoads_14_84 177 (.iaload) 1 178 := ⟨zg_14_84_240.2.2.2.2.2.2.2.1, rfl⟩
theorem zd_14_84_178 : zz_B zy_groupLoads_14_84 178 Instr.goto 187 181 := ⟨9, zg_14_84_240.2.2.2.2.2.2.2.2.1, rfl, rfl⟩
theorem zd_14_84_247 : zz_D zy_groupLoads_14_84 247 (.aload_n 0) 1 248 := ⟨zg_14_84_240.2.2.2.2.2.2.2.2.2, rfl⟩
theorem zg_14_84_248 : (decode zy_groupLoads_14_84.2.1 248 = .ok ((.getfield 115), 3)) ∧ (decode zy_groupLoads_14_84.2.1 251 = .ok ((.iload_n 1), 1)) ∧ (decode zy_groupLoads_14_84.2.1 252 = .ok ((.iaload), 1)) ∧ (decode zy_groupLoads_14_84.2.1 253 = .ok ((.aload_n 0), 1)) ∧ (decode zy_groupLoads_14_84.2.1 254 = .ok ((.getfield 495), 3)) ∧ (decode zy_groupLoads_14_84.2.1 257 = .ok ((.imul), 1)) ∧ (decode zy_groupLoads_14_84.2.1 258 = .ok ((.iload_n 2), 1)) ∧ (decode zy_groupLoads_14_84.2.1 259 = .ok ((.iadd), 1)) ∧ (decode zy_groupLoads_14_84.2.1 260 = .ok ((.aload_n 0), 1)) ∧ (decode zy_groupLoads_14_84.2.1 261 = .ok ((.getfield 118), 3)) := by decide +kernel
theorem zd_14_84_248 : zz_D zy_groupLoads_14_84 248 (.getfield 115) 3 251 := ⟨zg_14_84_248.1, rfl⟩
theorem zd_14_84_251 : zz_D zy_groupLoads_14_84 251 (.iload_n 1) 1 252 := ⟨zg_14_84_248.2.1, rfl⟩
theorem zd_14_84_252 : zz_D zy_groupLoads_14_84 252 (.iaload) 1 253 := ⟨zg_14_84_248.2.2.1, rfl⟩
theorem zd_14_84_253 : zz_D zy_groupLoads_14_84 253 (.aload_n 0) 1 254 := ⟨zg_14_84_248.2.2.2.1, rfl⟩
theorem zd_14_84_254 : zz_D zy_groupLoads_14_84 254 (.getfield 495) 3 257 := ⟨zg_14_84_248.2.2.2.2.1, rfl⟩
theorem zd_14_84_257 : zz_D zy_groupLoads_14_84 257 (.imul) 1 258 := ⟨zg_14_84_248.2.2.2.2.2.1, rfl⟩
theorem zd_14_84_258 : zz_D zy_groupLoads_14_84 258 (.iload_n 2) 1 259 := ⟨zg_14_84_248.2.2.2.2.2.2.1, rfl⟩
theorem zd_14_84_259 : zz_D zy_groupLoads_14_84 259 (.iadd) 1 260 := ⟨zg_14_84_248.2.2.2.2.2.2.2.1, rfl⟩
theorem zd_14_84_260 : zz_D zy_groupLoads_14_84 260 (.aload_n 0) 1 261 := ⟨zg_14_84_248.2.2.2.2.2.2.2.2.1, rfl⟩
theorem zd_14_84_261 : zz_D zy_groupLoads_14_84 261 (.getfield 118) 3 264 := ⟨zg_14_84_248.2.2.2.2.2.2.2.2.2, rfl⟩
theorem zg_14_84_264 : (decode zy_groupLoads_14_84.2.1 264 = .ok ((.iload_n 1), 1)) ∧ (decode zy_groupLoads_14_84.2.1 265 = .ok ((.iaload), 1)) ∧ (decode zy_groupLoads_14_84.2.1 266 = .ok ((.isub), 1)) ∧ (decode zy_groupLoads_14_84.2.1 267 = .ok ((.istore 10), 2)) ∧ (decode zy_groupLoads_14_84.2.1 269 = .ok ((.aload_n 0), 1)) ∧ (decode zy_groupLoads_14_84.2.1 270 = .ok ((.getfield 115), 3)) ∧ (decode zy_groupLoads_14_84.2.1 273 = .ok ((.iload_n 1), 1)) ∧ (decode zy_groupLoads_14_84.2.1 274 = .ok ((.iaload), 1)) ∧ (decode zy_groupLoads_14_84.2.1 275 = .ok ((.aload_n 0), 1)) ∧ (decode zy_groupLoads_14_84.2.1 276 = .ok ((.getfield 492), 3)) := by decide +kernel
theorem zd_14_84_264 : zz_D zy_groupLoads_14_84 264 (.iload_n 1) 1 265 := ⟨zg_14_84_264.1, rfl⟩
theorem zd_14_84_265 : zz_D zy_groupLoads_14_84 265 (.iaload) 1 266 := ⟨zg_14_84_264.2.1, rfl⟩
theorem zd_14_84_266 : zz_D zy_groupLoads_14_84 266 (.isub) 1 267 := ⟨zg_14_84_264.2.2.1, rfl⟩
theorem zd_14_84_267 : zz_D zy_groupLoads_14_84 267 (.istore 10) 2 269 := ⟨zg_14_84_264.2.2.2.1, rfl⟩
theorem zd_14_84_269 : zz_D zy_groupLoads_14_84 269 (.aload_n 0) 1 270 := ⟨zg_14_84_264.2.2.2.2.1, rfl⟩
theorem zd_14_84_270 : zz_D zy_groupLoads_14_84 270 (.getfield 115) 3 273 := ⟨zg_14_84_264.2.2.2.2.2.1, rfl⟩
theorem zd_14_84_273 : zz_D zy_groupLoads_14_84 273 (.iload_n 1) 1 274 := ⟨zg_14_84_264.2.2.2.2.2.2.1, rfl⟩
theorem zd_14_84_274 : zz_D zy_groupLoads_14_84 274 (.iaload) 1 275 := ⟨zg_14_84_264.2.2.2.2.2.2.2.1, rfl⟩
theorem zd_14_84_275 : zz_D zy_groupLoads_14_84 275 (.aload_n 0) 1 276 := ⟨zg_14_84_264.2.2.2.2.2.2.2.2.1, rfl⟩
theorem zd_14_84_276 : zz_D zy_groupLoads_14_84 276 (.getfield 492) 3 279 := ⟨zg_14_84_264.2.2.2.2.2.2.2.2.2, rfl⟩
theorem zg_14_84_279 : (decode zy_groupLoads_14_84.2.1 279 = .ok ((.imul), 1)) ∧ (decode zy_groupLoads_14_84.2.1 280 = .ok ((.iload_n 3), 1)) ∧ (decode zy_groupLoads_14_84.2.1 281 = .ok ((.iadd), 1)) ∧ (decode zy_groupLoads_14_84.2.1 282 = .ok ((.aload_n 0), 1)) ∧ (decode zy_groupLoads_14_84.2.1 283 = .ok ((.getfield 118), 3)) ∧ (decode zy_groupLoads_14_84.2.1 286 = .ok ((.iload_n 1), 1)) ∧ (decode zy_groupLoads_14_84.2.1 287 = .ok ((.iaload), 1)) ∧ (decode zy_groupLoads_14_84.2.1 288 = .ok ((.isub), 1)) ∧ (decode zy_groupLoads_14_84.2.1 289 = .ok ((.istore 11), 2)) ∧ (decode zy_groupLoads_14_84.2.1 291 = .ok ((.iconst 0), 1)) := by decide +kernel
theorem zd_14_84_279 : zz_D zy_groupLoads_14_84 279 (.imul) 1 280 := ⟨zg_14_84_279.1, rfl⟩
theorem zd_14_84_280 : zz_D zy_groupLoads_14_84 280 (.iload_n 3) 1 281 := ⟨zg_14_84_279.2.1, rfl⟩
theorem zd_14_84_281 : zz_D zy_groupLoads_14_84 281 (.iadd) 1 282 := ⟨zg_14_84_279.2.2.1, rfl⟩
theorem zd_14_84_282 : zz_D zy_groupLoads_14_84 282 (.aload_n 0) 1 283 := ⟨zg_14_84_279.2.2.2.1, rfl⟩
theorem zd_14_84_283 : zz_D zy_groupLoads_14_84 283 (.getfield 118) 3 286 := ⟨zg_14_84_279.2.2.2.2.1, rfl⟩
theorem zd_14_84_286 : zz_D zy_groupLoads_14_84 286 (.iload_n 1) 1 287 := ⟨zg_14_84_279.2.2.2.2.2.1, rfl⟩
theorem zd_14_84_287 : zz_D zy_groupLoads_14_84 287 (.iaload) 1 288 := ⟨zg_14_84_279.2.2.2.2.2.2.1, rfl⟩
theorem zd_14_84_288 : zz_D zy_groupLoads_14_84 288 (.isub) 1 289 := ⟨zg_14_84_279.2.2.2.2.2.2.2.1, rfl⟩
theorem zd_14_84_289 : zz_D zy_groupLoads_14_84 289 (.istore 11) 2 291 := ⟨zg_14_84_279.2.2.2.2.2.2.2.2.1, rfl⟩
theorem zd_14_84_291 : zz_D zy_groupLoads_14_84 291 (.iconst 0) 1 292 := ⟨zg_14_84_279.2.2.2.2.2.2.2.2.2, rfl⟩
theorem zg_14_84_292 : (decode zy_groupLoads_14_84.2.1 292 = .ok ((.istore 12), 2)) ∧ (decode zy_groupLoads_14_84.2.1 294 = .ok ((.iconst 0), 1)) ∧ (decode zy_groupLoads_14_84.2.1 295 = .ok ((.istore 13), 2)) ∧ (decode zy_groupLoads_14_84.2.1 297 = .ok ((.iconst 0), 1)) ∧ (decode zy_groupLoads_14_84.2.1 298 = .ok ((.istore 14), 2)) ∧ (decode zy_groupLoads_14_84.2.1 300 = .ok ((.iload 14), 2)) ∧ (decode zy_groupLoads_14_84.2.1 302 = .ok ((.aload_n 0), 1)) ∧ (decode zy_groupLoads_14_84.2.1 303 = .ok ((.getfield 469), 3)) ∧ (decode zy_groupLoads_14_84.2.1 306 = .ok ((Instr.if_icmp .ge) 72, 3)) ∧ (decode zy_groupLoads_14_84.2.1 309 = .ok ((.iload 11), 2)) := by decide +kernel
theorem zd_14_84_292 : zz_D zy_groupLoads_14_84 292 (.istore 12) 2 294 := ⟨zg_14_84_292.1, rfl⟩
theorem zd_14_84_294 : zz_D zy_groupLoads_14_84 294 (.iconst 0) 1 295 := ⟨zg_14_84_292.2.1, rfl⟩
theorem zd_14_84_295 : zz_D zy_groupLoads_14_84 295 (.istore 13) 2 297 := ⟨zg_14_84_292.2.2.1, rfl⟩
theorem zd_14_84_297 : zz_D zy_groupLoads_14_84 297 (.iconst 0) 1 298 := ⟨zg_14_84_292.2.2.2.1, rfl⟩
theorem zd_14_84_298 : zz_D zy_groupLoads_14_84 298 (.istore 14) 2 300 := ⟨zg_14_84_292.2.2.2.2.1, rfl⟩
theorem zd_14_84_300 : zz_D zy_groupLoads_14_84 300 (.iload 14) 2 302 := ⟨zg_14_84_292.2.2.2.2.2.1, rfl⟩
theorem zd_14_84_302 : zz_D zy_groupLoads_14_84 302 (.aload_n 0) 1 303 := ⟨zg_14_84_292.2.2.2.2.2.2.1, rfl⟩
theorem zd_14_84_303 : zz_D zy_groupLoads_14_84 303 (.getfield 469) 3 306 := ⟨zg_14_84_292.2.2.2.2.2.2.2.1, rfl⟩
theorem zd_14_84_306 : zz_B zy_groupLoads_14_84 306 (Instr.if_icmp .ge) 378 309 := ⟨72, zg_14_84_292.2.2.2.2.2.2.2.2.1, rfl, rfl⟩
theorem zd_14_84_309 : zz_D zy_groupLoads_14_84 309 (.iload 11) 2 311 := ⟨zg_14_84_292.2.2.2.2.2.2.2.2.2, rfl⟩
theorem zg_14_84_311 : (decode zy_groupLoads_14_84.2.1 311 = .ok ((.aload_n 0), 1)) ∧ (decode zy_groupLoads_14_84.2.1 312 = .ok ((.getfield 115), 3)) ∧ (decode zy_groupLoads_14_84.2.1 315 = .ok ((.iload_n 1), 1)) ∧ (decode zy_groupLoads_14_84.2.1 316 = .ok ((.iaload), 1)) ∧ (decode zy_groupLoads_14_84.2.1 317 = .ok ((.iload 14), 2)) ∧ (decode zy_groupLoads_14_84.2.1 319 = .ok ((.imul), 1)) ∧ (decode zy_groupLoads_14_84.2.1 320 = .ok ((.iadd), 1)) ∧ (decode zy_groupLoads_14_84.2.1 321 = .ok ((.istore 15), 2)) ∧ (decode zy_groupLoads_14_84.2.1 323 = .ok ((.aload_n 0), 1)) ∧ (decode zy_groupLoads_14_84.2.1 324 = .ok ((.iload 8), 2)) := by decide +kernel
theorem zd_14_84_311 : zz_D zy_groupLoads_14_84 311 (.aload_n 0) 1 312 := ⟨zg_14_84_311.1, rfl⟩
theorem zd_14_84_312 : zz_D zy_groupLoads_14_84 312 (.getfield 115) 3 315 := ⟨zg_14_84_311.2.1, rfl⟩
theorem zd_14_84_315 : zz_D zy_groupLoads_14_84 315 (.iload_n 1) 1 316 := ⟨zg_14_84_311.2.2.1, rfl⟩
theorem zd_14_84_316 : zz_D zy_groupLoads_14_84 316 (.iaload) 1 317 := ⟨zg_14_84_311.2.2.2.1, rfl⟩
theorem zd_14_84_317 : zz_D zy_groupLoads_14_84 317 (.iload 14) 2 319 := ⟨zg_14_84_311.2.2.2.2.1, rfl⟩
theorem zd_14_84_319 : zz_D zy_groupLoads_14_84 319 (.imul) 1 320 := ⟨zg_14_84_311.2.2.2.2.2.1, rfl⟩
theorem zd_14_84_320 : zz_D zy_groupLoads_14_84 320 (.iadd) 1 321 := ⟨zg_14_84_311.2.2.2.2.2.2.1, rfl⟩
theorem zd_14_84_321 : zz_D zy_groupLoads_14_84 321 (.istore 15) 2 323 := ⟨zg_14_84_311.2.2.2.2.2.2.2.1, rfl⟩
theorem zd_14_84_323 : zz_D zy_groupLoads_14_84 323 (.aload_n 0) 1 324 := ⟨zg_14_84_311.2.2.2.2.2.2.2.2.1, rfl⟩
theorem zd_14_84_324 : zz_D zy_groupLoads_14_84 324 (.iload 8) 2 326 := ⟨zg_14_84_311.2.2.2.2.2.2.2.2.2, rfl⟩
theorem zg_14_84_326 : (decode zy_groupLoads_14_84.2.1 326 = .ok ((.iload 10), 2)) ∧ (decode zy_groupLoads_14_84.2.1 328 = .ok ((.iload 15), 2)) ∧ (decode zy_groupLoads_14_84.2.1 330 = .ok ((.invokevirtual 434), 3)) ∧ (decode zy_groupLoads_14_84.2.1 333 = .ok ((.istore 16), 2)) ∧ (decode zy_groupLoads_14_84.2.1 335 = .ok ((.iload 16), 2)) ∧ (decode zy_groupLoads_14_84.2.1 337 = .ok ((Instr.ifCond .eq) 10, 3)) ∧ (decode zy_groupLoads_14_84.2.1 347 = .ok ((.iload 13), 2)) ∧ (decode zy_groupLoads_14_84.2.1 349 = .ok ((.istore 13), 2)) ∧ (decode zy_groupLoads_14_84.2.1 351 = .ok ((.iload 16), 2)) ∧ (decode zy_groupLoads_14_84.2.1 353 = .ok ((Instr.ifCond .ne) 15, 3)) := by decide +kernel
theorem zd_14_84_326 : zz_D zy_groupLoads_14_84 326 (.iload 10) 2 328 := ⟨zg_14_84_326.1, rfl⟩
theorem zd_14_84_328 : zz_D zy_groupLoads_14_84 328 (.iload 15) 2 330 := ⟨zg_14_84_326.2.1, rfl⟩
theorem zd_14_84_330 : zz_D zy_groupLoads_14_84 330 (.invokevirtual 434) 3 333 := ⟨zg_14_84_326.2.2.1, rfl⟩
theorem zd_14_84_333 : zz_D zy_groupLoads_14_84 333 (.istore 16) 2 335 := ⟨zg_14_84_326.2.2.2.1, rfl⟩
theorem zd_14_84_335 : zz_D zy_groupLoads_14_84 335 (.iload 16) 2 337 := ⟨zg_14_84_326.2.2.2.2.1, rfl⟩
theorem zd_14_84_337 : zz_B zy_groupLoads_14_84 337 (Instr.ifCond .eq) 347 340 := ⟨10, zg_14_84_326.2.2.2.2.2.1, rfl, rfl⟩
theorem zd_14_84_347 : zz_D zy_groupLoads_14_84 347 (.iload 13) 2 349 := ⟨zg_14_84_326.2.2.2.2.2.2.1, rfl⟩
theorem zd_14_84_349 : zz_D zy_groupLoads_14_84 349 (.istore 13) 2 351 := ⟨zg_14_84_326.2.2.2.2.2.2.2.1, rfl⟩
theorem zd_14_84_351 : zz_D zy_groupLoads_14_84 351 (.iload 16) 2 353 := ⟨zg_14_84_326.2.2.2.2.2.2.2.2.1, rfl⟩
theorem zd_14_84_353 : zz_B zy_groupLoads_14_84 353 (Instr.ifCond .ne) 368 356 := ⟨15, zg_14_84_326.2.2.2.2.2.2.2.2.2, rfl, rfl⟩
theorem zg_14_84_356 : (decode zy_groupLoads_14_84.2.1 356 = .ok ((.iload 13), 2)) ∧ (decode zy_groupLoads_14_84.2.1 358 = .ok ((Instr.ifCond .ne) 10, 3)) ∧ (decode zy_groupLoads_14_84.2.1 361 = .ok ((.iload 12), 2)) ∧ (decode zy_groupLoads_14_84.2.1 363 = .ok ((.iconst 1), 1)) ∧ (decode zy_groupLoads_14_84.2.1 364 = .ok ((.iadd), 1)) ∧ (decode zy_groupLoads_14_84.2.1 365 = .ok (Instr.goto 5, 3)) ∧ (decode zy_groupLoads_14_84.2.1 370 = .ok ((.istore 12), 2)) ∧ (decode zy_groupLoads_14_84.2.1 372 = .ok ((.iinc 14 1), 3)) ∧ (decode zy_groupLoads_14_84.2.1 375 = .ok (Instr.goto (-75), 3)) ∧ (decode zy_groupLoads_14_84.2.1 340 = .ok ((.iload 13), 2)) := by decide +kernel
theorem zd_14_84_356 : zz_D zy_groupLoads_14_84 356 (.iload 13) 2 358 := ⟨zg_14_84_356.1, rfl⟩
theorem zd_14_84_358 : zz_B zy_groupLoads_14_84 358 (Instr.ifCond .ne) 368 361 := ⟨10, zg_14_84_356.2.1, rfl, rfl⟩
theorem zd_14_84_361 : zz_D zy_groupLoads_14_84 361 (.iload 12) 2 363 := ⟨zg_14_84_356.2.2.1, rfl⟩
theorem zd_14_84_363 : zz_D zy_groupLoads_14_84 363 (.iconst 1) 1 364 := ⟨zg_14_84_356.2.2.2.1, rfl⟩
theorem zd_14_84_364 : zz_D zy_groupLoads_14_84 364 (.iadd) 1 365 := ⟨zg_14_84_356.2.2.2.2.1, rfl⟩
theorem zd_14_84_365 : zz_B zy_groupLoads_14_84 365 Instr.goto 370 368 := ⟨5, zg_14_84_356.2.2.2.2.2.1, rfl, rfl⟩
theorem zd_14_84_370 : zz_D zy_groupLoads_14_84 370 (.istore 12) 2 372 := ⟨zg_14_84_356.2.2.2.2.2.2.1, rfl⟩
theorem zd_14_84_372 : zz_D zy_groupLoads_14_84 372 (.iinc 14 1) 3 375 := ⟨zg_14_84_356.2.2.2.2.2.2.2.1, rfl⟩
theorem zd_14_84_375 : zz_B zy_groupLoads_14_84 375 Instr.goto 300 378 := ⟨(-75), zg_14_84_356.2.2.2.2.2.2.2.2.1, rfl, rfl⟩
theorem zd_14_84_340 : zz_D zy_groupLoads_14_84 340 (.iload 13) 2 342 := ⟨zg_14_84_356.2.2.2.2.2.2.2.2.2, rfl⟩
theorem zg_14_84_342 : (decode zy_groupLoads_14_84.2.1 342 = .ok ((.iconst 1), 1)) ∧ (decode zy_groupLoads_14_84.2.1 343 = .ok ((.iadd), 1)) ∧ (decode zy_groupLoads_14_84.2.1 344 = .ok (Instr.goto 5, 3)) ∧ (decode zy_groupLoads_14_84.2.1 368 = .ok ((.iload 12), 2)) ∧ (decode zy_groupLoads_14_84.2.1 378 = .ok ((.iload 13), 2)) ∧ (decode zy_groupLoads_14_84.2.1 380 = .ok ((Instr.ifCond .ne) 7, 3)) ∧ (decode zy_groupLoads_14_84.2.1 383 = .ok ((.iconst 1), 1)) ∧ (decode zy_groupLoads_14_84.2.1 384 = .ok (Instr.goto 4, 3)) ∧ (decode zy_groupLoads_14_84.2.1 388 = .ok ((.istore 14), 2)) ∧ (decode zy_groupLoads_14_84.2.1 390 = .ok ((.iload 12), 2)) := by decide +kernel
theorem zd_14_84_342 : zz_D zy_groupLoads_14_84 342 (.iconst 1) 1 343 := ⟨zg_14_84_342.1, rfl⟩
theorem zd_14_84_343 : zz_D zy_groupLoads_14_84 343 (.iadd) 1 344 := ⟨zg_14_84_342.2.1, rfl⟩
theorem zd_14_84_344 : zz_B zy_groupLoads_14_84 344 Instr.goto 349 347 := ⟨5, zg_14_84_342.2.2.1, rfl, rfl⟩
theorem zd_14_84_368 : zz_D zy_groupLoads_14_84 368 (.iload 12) 2 370 := ⟨zg_14_84_342.2.2.2.1, rfl⟩
theorem zd_14_84_378 : zz_D zy_groupLoads_14_84 378 (.iload 13) 2 380 := ⟨zg_14_84_342.2.2.2.2.1, rfl⟩
theorem zd_14_84_380 : zz_B zy_groupLoads_14_84 380 (Instr.ifCond .ne) 387 383 := ⟨7, zg_14_84_342.2.2.2.2.2.1, rfl, rfl⟩
theorem zd_14_84_383 : zz_D zy_groupLoads_14_84 383 (.iconst 1) 1 384 := ⟨zg_14_84_342.2.2.2.2.2.2.1, rfl⟩
theorem zd_14_84_384 : zz_B zy_groupLoads_14_84 384 Instr.goto 388 387 := ⟨4, zg_14_84_342.2.2.2.2.2.2.2.1, rfl, rfl⟩
theorem zd_14_84_388 : zz_D zy_groupLoads_14_84 388 (.istore 14) 2 390 := ⟨zg_14_84_342.2.2.2.2.2.2.2.2.1, rfl⟩
theorem zd_14_84_390 : zz_D zy_groupLoads_14_84 390 (.iload 12) 2 392 := ⟨zg_14_84_342.2.2.2.2.2.2.2.2.2, rfl⟩
theorem zg_14_84_392 : (decode zy_groupLoads_14_84.2.1 392 = .ok ((Instr.ifCond .le) 30, 3)) ∧ (decode zy_groupLoads_14_84.2.1 422 = .ok ((.iload 14), 2)) ∧ (decode zy_groupLoads_14_84.2.1 424 = .ok ((Instr.ifCond .ne) 150, 3)) ∧ (decode zy_groupLoads_14_84.2.1 574 = .ok ((.return_), 1)) ∧ (decode zy_groupLoads_14_84.2.1 427 = .ok ((.aload_n 0), 1)) ∧ (decode zy_groupLoads_14_84.2.1 428 = .ok ((.iconst 1), 1)) ∧ (decode zy_groupLoads_14_84.2.1 429 = .ok ((.aload_n 0), 1)) ∧ (decode zy_groupLoads_14_84.2.1 430 = .ok ((.getfield 97), 3)) ∧ (decode zy_groupLoads_14_84.2.1 433 = .ok ((.iload 8), 2)) ∧ (decode zy_groupLoads_14_84.2.1 435 = .ok ((.iaload), 1)) := by decide +kernel
theorem zd_14_84_392 : zz_B zy_groupLoads_14_84 392 (Instr.ifCond .le) 422 395 := ⟨30, zg_14_84_392.1, rfl, rfl⟩
theorem zd_14_84_422 : zz_D zy_groupLoads_14_84 422 (.iload 14) 2 424 := ⟨zg_14_84_392.2.1, rfl⟩
theorem zd_14_84_424 : zz_B zy_groupLoads_14_84 424 (Instr.ifCond .ne) 574 427 := ⟨150, zg_14_84_392.2.2.1, rfl, rfl⟩
theorem zd_14_84_574 : zz_D zy_groupLoads_14_84 574 (.return_) 1 575 := ⟨zg_14_84_392.2.2.2.1, rfl⟩
theorem zd_14_84_427 : zz_D zy_groupLoads_14_84 427 (.aload_n 0) 1 428 := ⟨zg_14_84_392.2.2.2.2.1, rfl⟩
theorem zd_14_84_428 : zz_D zy_groupLoads_14_84 428 (.iconst 1) 1 429 := ⟨zg_14_84_392.2.2.2.2.2.1, rfl⟩
theorem zd_14_84_429 : zz_D zy_groupLoads_14_84 429 (.aload_n 0) 1 430 := ⟨zg_14_84_392.2.2.2.2.2.2.1, rfl⟩
theorem zd_14_84_430 : zz_D zy_groupLoads_14_84 430 (.getfield 97) 3 433 := ⟨zg_14_84_392.2.2.2.2.2.2.2.1, rfl⟩
theorem zd_14_84_433 : zz_D zy_groupLoads_14_84 433 (.iload 8) 2 435 := ⟨zg_14_84_392.2.2.2.2.2.2.2.2.1, rfl⟩
theorem zd_14_84_435 : zz_D zy_groupLoads_14_84 435 (.iaload) 1 436 := ⟨zg_14_84_392.2.2.2.2.2.2.2.2.2, rfl⟩
theorem zg_14_84_436 : (decode zy_groupLoads_14_84.2.1 436 = .ok ((.iload 10), 2)) ∧ (decode zy_groupLoads_14_84.2.1 438 = .ok ((.aload_n 0), 1)) ∧ (decode zy_groupLoads_14_84.2.1 439 = .ok ((.getfield 91), 3)) ∧ (decode zy_groupLoads_14_84.2.1 442 = .ok ((.iload 8), 2)) ∧ (decode zy_groupLoads_14_84.2.1 444 = .ok ((.iaload), 1)) ∧ (decode zy_groupLoads_14_84.2.1 445 = .ok ((.imul), 1)) ∧ (decode zy_groupLoads_14_84.2.1 446 = .ok ((.iload 11), 2)) ∧ (decode zy_groupLoads_14_84.2.1 448 = .ok ((.iadd), 1)) ∧ (decode zy_groupLoads_14_84.2.1 449 = .ok ((.aload_n 0), 1)) ∧ (decode zy_groupLoads_14_84.2.1 450 = .ok ((.getfield 115), 3)) := by decide +kernel
theorem zd_14_84_436 : zz_D zy_groupLoads_14_84 436 (.iload 10) 2 438 := ⟨zg_14_84_436.1, rfl⟩
theorem zd_14_84_438 : zz_D zy_groupLoads_14_84 438 (.aload_n 0) 1 439 := ⟨zg_14_84_436.2.1, rfl⟩
theorem zd_14_84_439 : zz_D zy_groupLoads_14_84 439 (.getfield 91) 3 442 := ⟨zg_14_84_436.2.2.1, rfl⟩
theorem zd_14_84_442 : zz_D zy_groupLoads_14_84 442 (.iload 8) 2 444 := ⟨zg_14_84_436.2.2.2.1, rfl⟩
theorem zd_14_84_444 : zz_D zy_groupLoads_14_84 444 (.iaload) 1 445 := ⟨zg_14_84_436.2.2.2.2.1, rfl⟩
theorem zd_14_84_445 : zz_D zy_groupLoads_14_84 445 (.imul) 1 446 := ⟨zg_14_84_436.2.2.2.2.2.1, rfl⟩
theorem zd_14_84_446 : zz_D zy_groupLoads_14_84 446 (.iload 11) 2 448 := ⟨zg_14_84_436.2.2.2.2.2.2.1, rfl⟩
theorem zd_14_84_448 : zz_D zy_groupLoads_14_84 448 (.iadd) 1 449 := ⟨zg_14_84_436.2.2.2.2.2.2.2.1, rfl⟩
theorem zd_14_84_449 : zz_D zy_groupLoads_14_84 449 (.aload_n 0) 1 450 := ⟨zg_14_84_436.2.2.2.2.2.2.2.2.1, rfl⟩
theorem zd_14_84_450 : zz_D zy_groupLoads_14_84 450 (.getfield 115) 3 453 := ⟨zg_14_84_436.2.2.2.2.2.2.2.2.2, rfl⟩
theorem zg_14_84_453 : (decode zy_groupLoads_14_84.2.1 453 = .ok ((.iload_n 1), 1)) ∧ (decode zy_groupLoads_14_84.2.1 454 = .ok ((.iaload), 1)) ∧ (decode zy_groupLoads_14_84.2.1 455 = .ok ((.iload 12), 2)) ∧ (decode zy_groupLoads_14_84.2.1 457 = .ok ((.imul), 1)) ∧ (decode zy_groupLoads_14_84.2.1 458 = .ok ((.iadd), 1)) ∧ (decode zy_groupLoads_14_84.2.1 459 = .ok ((.aload_n 0), 1)) ∧ (decode zy_groupLoads_14_84.2.1 460 = .ok ((.getfield 94), 3)) ∧ (decode zy_groupLoads_14_84.2.1 463 = .ok ((.iload 8), 2)) ∧ (decode zy_groupLoads_14_84.2.1 465 = .ok ((.iaload), 1)) ∧ (decode zy_groupLoads_14_84.2.1 466 = .ok ((.imul), 1)) := by decide +kernel
theorem zd_14_84_453 : zz_D zy_groupLoads_14_84 453 (.iload_n 1) 1 454 := ⟨zg_14_84_453.1, rfl⟩
theorem zd_14_84_454 : zz_D zy_groupLoads_14_84 454 (.iaload) 1 455 := ⟨zg_14_84_453.2.1, rfl⟩
theorem zd_14_84_455 : zz_D zy_groupLoads_14_84 455 (.iload 12) 2 457 := ⟨zg_14_84_453.2.2.1, rfl⟩
theorem zd_14_84_457 : zz_D zy_groupLoads_14_84 457 (.imul) 1 458 := ⟨zg_14_84_453.2.2.2.1, rfl⟩
theorem zd_14_84_458 : zz_D zy_groupLoads_14_84 458 (.iadd) 1 459 := ⟨zg_14_84_453.2.2.2.2.1, rfl⟩
theorem zd_14_84_459 : zz_D zy_groupLoads_14_84 459 (.aload_n 0) 1 460 := ⟨zg_14_84_453.2.2.2.2.2.1, rfl⟩
theorem zd_14_84_460 : zz_D zy_groupLoads_14_84 460 (.getfield 94) 3 463 := ⟨zg_14_84_453.2.2.2.2.2.2.1, rfl⟩
theorem zd_14_84_463 : zz_D zy_groupLoads_14_84 463 (.iload 8) 2 465 := ⟨zg_14_84_453.2.2.2.2.2.2.2.1, rfl⟩
theorem zd_14_84_465 : zz_D zy_groupLoads_14_84 465 (.iaload) 1 466 := ⟨zg_14_84_453.2.2.2.2.2.2.2.2.1, rfl⟩
theorem zd_14_84_466 : zz_D zy_groupLoads_14_84 466 (.imul) 1 467 := ⟨zg_14_84_453.2.2.2.2.2.2.2.2.2, rfl⟩
theorem zg_14_84_467 : (decode zy_groupLoads_14_84.2.1 467 = .ok ((.iadd), 1)) ∧ (decode zy_groupLoads_14_84.2.1 468 = .ok ((.iload 4), 2)) ∧ (decode zy_groupLoads_14_84.2.1 470 = .ok ((.iadd), 1)) ∧ (decode zy_groupLoads_14_84.2.1 471 = .ok ((.iload 13), 2)) ∧ (decode zy_groupLoads_14_84.2.1 473 = .ok ((.iload 5), 2)) ∧ (decode zy_groupLoads_14_84.2.1 475 = .ok ((.invokevirtual 475), 3)) ∧ (decode zy_groupLoads_14_84.2.1 478 = .ok ((.aload_n 0), 1)) ∧ (decode zy_groupLoads_14_84.2.1 479 = .ok ((.aload_n 0), 1)) ∧ (decode zy_groupLoads_14_84.2.1 480 = .ok ((.invokevirtual 489), 3)) ∧ (decode zy_groupLoads_14_84.2.1 483 = .ok ((.iload 12), 2)) := by decide +kernel
theorem zd_14_84_467 : zz_D zy_groupLoads_14_84 467 (.iadd) 1 468 := ⟨zg_14_84_467.1, rfl⟩
theorem zd_14_84_468 : zz_D zy_groupLoads_14_84 468 (.iload 4) 2 470 := ⟨zg_14_84_467.2.1, rfl⟩
theorem zd_14_84_470 : zz_D zy_groupLoads_14_84 470 (.iadd) 1 471 := ⟨zg_14_84_467.2.2.1, rfl⟩
theorem zd_14_84_471 : zz_D zy_groupLoads_14_84 471 (.iload 13) 2 473 := ⟨zg_14_84_467.2.2.2.1, rfl⟩
theorem zd_14_84_473 : zz_D zy_groupLoads_14_84 473 (.iload 5) 2 475 := ⟨zg_14_84_467.2.2.2.2.1, rfl⟩
theorem zd_14_84_475 : zz_D zy_groupLoads_14_84 475 (.invokevirtual 475) 3 478 := ⟨zg_14_84_467.2.2.2.2.2.1, rfl⟩
theorem zd_14_84_478 : zz_D zy_groupLoads_14_84 478 (.aload_n 0) 1 479 := ⟨zg_14_84_467.2.2.2.2.2.2.1, rfl⟩
theorem zd_14_84_479 : zz_D zy_groupLoads_14_84 479 (.aload_n 0) 1 480 := ⟨zg_14_84_467.2.2.2.2.2.2.2.1, rfl⟩
theorem zd_14_84_480 : zz_D zy_groupLoads_14_84 480 (.invokevirtual 489) 3 483 := ⟨zg_14_84_467.2.2.2.2.2.2.2.2.1, rfl⟩
theorem zd_14_84_483 : zz_D zy_groupLoads_14_84 483 (.iload 12) 2 485 := ⟨zg_14_84_467.2.2.2.2.2.2.2.2.2, rfl⟩
theorem zg_14_84_485 : (decode zy_groupLoads_14_84.2.1 485 = .ok ((.aload_n 0), 1)) ∧ (decode zy_groupLoads_14_84.2.1 486 = .ok ((.getfield 7), 3)) ∧ (decode zy_groupLoads_14_84.2.1 489 = .ok ((.imul), 1)) ∧ (decode zy_groupLoads_14_84.2.1 490 = .ok ((.iadd), 1)) ∧ (decode zy_groupLoads_14_84.2.1 491 = .ok ((.iconst 0), 1)) ∧ (decode zy_groupLoads_14_84.2.1 492 = .ok ((.aload_n 0), 1)) ∧ (decode zy_groupLoads_14_84.2.1 493 = .ok ((.getfield 115), 3)) ∧ (decode zy_groupLoads_14_84.2.1 496 = .ok ((.iload_n 1), 1)) ∧ (decode zy_groupLoads_14_84.2.1 497 = .ok ((.iaload), 1)) ∧ (decode zy_groupLoads_14_84.2.1 498 = .ok ((.aload_n 0), 1)) := by decide +kernel
theorem zd_14_84_485 : zz_D zy_groupLoads_14_84 485 (.aload_n 0) 1 486 := ⟨zg_14_84_485.1, rfl⟩
theorem zd_14_84_486 : zz_D zy_groupLoads_14_84 486 (.getfield 7) 3 489 := ⟨zg_14_84_485.2.1, rfl⟩
theorem zd_14_84_489 : zz_D zy_groupLoads_14_84 489 (.imul) 1 490 := ⟨zg_14_84_485.2.2.1, rfl⟩
theorem zd_14_84_490 : zz_D zy_groupLoads_14_84 490 (.iadd) 1 491 := ⟨zg_14_84_485.2.2.2.1, rfl⟩
theorem zd_14_84_491 : zz_D zy_groupLoads_14_84 491 (.iconst 0) 1 492 := ⟨zg_14_84_485.2.2.2.2.1, rfl⟩
theorem zd_14_84_492 : zz_D zy_groupLoads_14_84 492 (.aload_n 0) 1 493 := ⟨zg_14_84_485.2.2.2.2.2.1, rfl⟩
theorem zd_14_84_493 : zz_D zy_groupLoads_14_84 493 (.getfield 115) 3 496 := ⟨zg_14_84_485.2.2.2.2.2.2.1, rfl⟩
theorem zd_14_84_496 : zz_D zy_groupLoads_14_84 496 (.iload_n 1) 1 497 := ⟨zg_14_84_485.2.2.2.2.2.2.2.1, rfl⟩
theorem zd_14_84_497 : zz_D zy_groupLoads_14_84 497 (.iaload) 1 498 := ⟨zg_14_84_485.2.2.2.2.2.2.2.2.1, rfl⟩
theorem zd_14_84_498 : zz_D zy_groupLoads_14_84 498 (.aload_n 0) 1 499 := ⟨zg_14_84_485.2.2.2.2.2.2.2.2.2, rfl⟩
theorem zg_14_84_499 : (decode zy_groupLoads_14_84.2.1 499 = .ok ((.getfield 94), 3)) ∧ (decode zy_groupLoads_14_84.2.1 502 = .ok ((.iload 8), 2)) ∧ (decode zy_groupLoads_14_84.2.1 504 = .ok ((.iaload), 1)) ∧ (decode zy_groupLoads_14_84.2.1 505 = .ok ((.imul), 1)) ∧ (decode zy_groupLoads_14_84.2.1 506 = .ok ((.iconst 0), 1)) ∧ (decode zy_groupLoads_14_84.2.1 507 = .ok ((.invokevirtual 482), 3)) ∧ (decode zy_groupLoads_14_84.2.1 510 = .ok ((.aload_n 0), 1)) ∧ (decode zy_groupLoads_14_84.2.1 511 = .ok ((.iload 7), 2)) ∧ (decode zy_groupLoads_14_84.2.1 513 = .ok ((.invokevirtual 485), 3)) ∧ (decode zy_groupLoads_14_84.2.1 516 = .ok ((.iload 12), 2)) := by decide +kernel
theorem zd_14_84_499 : zz_D zy_groupLoads_14_84 499 (.getfield 94) 3 502 := ⟨zg_14_84_499.1, rfl⟩
theorem zd_14_84_502 : zz_D zy_groupLoads_14_84 502 (.iload 8) 2 504 := ⟨zg_14_84_499.2.1, rfl⟩
theorem zd_14_84_504 : zz_D zy_groupLoads_14_84 504 (.iaload) 1 505 := ⟨zg_14_84_499.2.2.1, rfl⟩
theorem zd_14_84_505 : zz_D zy_groupLoads_14_84 505 (.imul) 1 506 := ⟨zg_14_84_499.2.2.2.1, rfl⟩
theorem zd_14_84_506 : zz_D zy_groupLoads_14_84 506 (.iconst 0) 1 507 := ⟨zg_14_84_499.2.2.2.2.1, rfl⟩
theorem zd_14_84_507 : zz_D zy_groupLoads_14_84 507 (.invokevirtual 482) 3 510 := ⟨zg_14_84_499.2.2.2.2.2.1, rfl⟩
theorem zd_14_84_510 : zz_D zy_groupLoads_14_84 510 (.aload_n 0) 1 511 := ⟨zg_14_84_499.2.2.2.2.2.2.1, rfl⟩
theorem zd_14_84_511 : zz_D zy_groupLoads_14_84 511 (.iload 7) 2 513 := ⟨zg_14_84_499.2.2.2.2.2.2.2.1, rfl⟩
theorem zd_14_84_513 : zz_D zy_groupLoads_14_84 513 (.invokevirtual 485) 3 516 := ⟨zg_14_84_499.2.2.2.2.2.2.2.2.1, rfl⟩
theorem zd_14_84_516 : zz_D zy_groupLoads_14_84 516 (.iload 12) 2 518 := ⟨zg_14_84_499.2.2.2.2.2.2.2.2.2, rfl⟩
theorem zg_14_84_518 : (decode zy_groupLoads_14_84.2.1 518 = .ok ((.iload 13), 2)) ∧ (decode zy_groupLoads_14_84.2.1 520 = .ok ((.iadd), 1)) ∧ (decode zy_groupLoads_14_84.2.1 521 = .ok ((.aload_n 0), 1)) ∧ (decode zy_groupLoads_14_84.2.1 522 = .ok ((.getfield 469), 3)) ∧ (decode zy_groupLoads_14_84.2.1 525 = .ok ((Instr.if_icmp .ge) 49, 3)) ∧ (decode zy_groupLoads_14_84.2.1 528 = .ok ((.aload_n 0), 1)) ∧ (decode zy_groupLoads_14_84.2.1 529 = .ok ((.iconst 3), 1)) ∧ (decode zy_groupLoads_14_84.2.1 530 = .ok ((.iconst 0), 1)) ∧ (decode zy_groupLoads_14_84.2.1 531 = .ok ((.aload_n 0), 1)) ∧ (decode zy_groupLoads_14_84.2.1 532 = .ok ((.getfield 469), 3)) := by decide +kernel
theorem zd_14_84_518 : zz_D zy_groupLoads_14_84 518 (.iload 13) 2 520 := ⟨zg_14_84_518.1, rfl⟩
theorem zd_14_84_520 : zz_D zy_groupLoads_14_84 520 (.iadd) 1 521 := ⟨zg_14_84_518.2.1, rfl⟩
theorem zd_14_84_521 : zz_D zy_groupLoads_14_84 521 (.aload_n 0) 1 522 := ⟨zg_14_84_518.2.2.1, rfl⟩
theorem zd_14_84_522 : zz_D zy_groupLoads_14_84 522 (.getfield 469) 3 525 := ⟨zg_14_84_518.2.2.2.1, rfl⟩
theorem zd_14_84_525 : zz_B zy_groupLoads_14_84 525 (Instr.if_icmp .ge) 574 528 := ⟨49, zg_14_84_518.2.2.2.2.1, rfl, rfl⟩
theorem zd_14_84_528 : zz_D zy_groupLoads_14_84 528 (.aload_n 0) 1 529 := ⟨zg_14_84_518.2.2.2.2.2.1, rfl⟩
theorem zd_14_84_529 : zz_D zy_groupLoads_14_84 529 (.iconst 3) 1 530 := ⟨zg_14_84_518.2.2.2.2.2.2.1, rfl⟩
theorem zd_14_84_530 : zz_D zy_groupLoads_14_84 530 (.iconst 0) 1 531 := ⟨zg_14_84_518.2.2.2.2.2.2.2.1, rfl⟩
theorem zd_14_84_531 : zz_D zy_groupLoads_14_84 531 (.aload_n 0) 1 532 := ⟨zg_14_84_518.2.2.2.2.2.2.2.2.1, rfl⟩
theorem zd_14_84_532 : zz_D zy_groupLoads_14_84 532 (.getfield 469) 3 535 := ⟨zg_14_84_518.2.2.2.2.2.2.2.2.2, rfl⟩
theorem zg_14_84_535 : (decode zy_groupLoads_14_84.2.1 535 = .ok ((.iload 12), 2)) ∧ (decode zy_groupLoads_14_84.2.1 537 = .ok ((.isub), 1)) ∧ (decode zy_groupLoads_14_84.2.1 538 = .ok ((.iload 13), 2)) ∧ (decode zy_groupLoads_14_84.2.1 540 = .ok ((.isub), 1)) ∧ (decode zy_groupLoads_14_84.2.1 541 = .ok ((.iload 5), 2)) ∧ (decode zy_groupLoads_14_84.2.1 543 = .ok ((.invokevirtual 475), 3)) ∧ (decode zy_groupLoads_14_84.2.1 546 = .ok ((.aload_n 0), 1)) ∧ (decode zy_groupLoads_14_84.2.1 547 = .ok ((.aload_n 0), 1)) ∧ (decode zy_groupLoads_14_84.2.1 548 = .ok ((.invokevirtual 489), 3)) ∧ (decode zy_groupLoads_14_84.2.1 551 = .ok ((.iload 12), 2)) := by decide +kernel
theorem zd_14_84_535 : zz_D zy_groupLoads_14_84 535 (.iload 12) 2 537 := ⟨zg_14_84_535.1, rfl⟩
theorem zd_14_84_537 : zz_D zy_groupLoads_14_84 537 (.isub) 1 538 := ⟨zg_14_84_535.2.1, rfl⟩
theorem zd_14_84_538 : zz_D zy_groupLoads_14_84 538 (.iload 13) 2 540 := ⟨zg_14_84_535.2.2.1, rfl⟩
theorem zd_14_84_540 : zz_D zy_groupLoads_14_84 540 (.isub) 1 541 := ⟨zg_14_84_535.2.2.2.1, rfl⟩
theorem zd_14_84_541 : zz_D zy_groupLoads_14_84 541 (.iload 5) 2 543 := ⟨zg_14_84_535.2.2.2.2.1, rfl⟩
theorem zd_14_84_543 : zz_D zy_groupLoads_14_84 543 (.invokevirtual 475) 3 546 := ⟨zg_14_84_535.2.2.2.2.2.1, rfl⟩
theorem zd_14_84_546 : zz_D zy_groupLoads_14_84 546 (.aload_n 0) 1 547 := ⟨zg_14_84_535.2.2.2.2.2.2.1, rfl⟩
theorem zd_14_84_547 : zz_D zy_groupLoads_14_84 547 (.aload_n 0) 1 548 := ⟨zg_14_84_535.2.2.2.2.2.2.2.1, rfl⟩
theorem zd_14_84_548 : zz_D zy_groupLoads_14_84 548 (.invokevirtual 489) 3 551 := ⟨zg_14_84_535.2.2.2.2.2.2.2.2.1, rfl⟩
theorem zd_14_84_551 : zz_D zy_groupLoads_14_84 551 (.iload 12) 2 553 := ⟨zg_14_84_535.2.2.2.2.2.2.2.2.2, rfl⟩
theorem zg_14_84_553 : (decode zy_groupLoads_14_84.2.1 553 = .ok ((.iload 13), 2)) ∧ (decode zy_groupLoads_14_84.2.1 555 = .ok ((.iadd), 1)) ∧ (decode zy_groupLoads_14_84.2.1 556 = .ok ((.aload_n 0), 1)) ∧ (decode zy_groupLoads_14_84.2.1 557 = .ok ((.getfield 7), 3)) ∧ (decode zy_groupLoads_14_84.2.1 560 = .ok ((.imul), 1)) ∧ (decode zy_groupLoads_14_84.2.1 561 = .ok ((.iadd), 1)) ∧ (decode zy_groupLoads_14_84.2.1 562 = .ok ((.iconst 0), 1)) ∧ (decode zy_groupLoads_14_84.2.1 563 = .ok ((.iconst 0), 1)) ∧ (decode zy_groupLoads_14_84.2.1 564 = .ok ((.iconst 0), 1)) ∧ (decode zy_groupLoads_14_84.2.1 565 = .ok ((.invokevirtual 482), 3)) := by decide +kernel
theorem zd_14_84_553 : zz_D zy_groupLoads_14_84 553 (.iload 13) 2 555 := ⟨zg_14_84_553.1, rfl⟩
theorem zd_14_84_555 : zz_D zy_groupLoads_14_84 555 (.iadd) 1 556 := ⟨zg_14_84_553.2.1, rfl⟩
theorem zd_14_84_556 : zz_D zy_groupLoads_14_84 556 (.aload_n 0) 1 557 := ⟨zg_14_84_553.2.2.1, rfl⟩
theorem zd_14_84_557 : zz_D zy_groupLoads_14_84 557 (.getfield 7) 3 560 := ⟨zg_14_84_553.2.2.2.1, rfl⟩
theorem zd_14_84_560 : zz_D zy_groupLoads_14_84 560 (.imul) 1 561 := ⟨zg_14_84_553.2.2.2.2.1, rfl⟩
theorem zd_14_84_561 : zz_D zy_groupLoads_14_84 561 (.iadd) 1 562 := ⟨zg_14_84_553.2.2.2.2.2.1, rfl⟩
theorem zd_14_84_562 : zz_D zy_groupLoads_14_84 562 (.iconst 0) 1 563 := ⟨zg_14_84_553.2.2.2.2.2.2.1, rfl⟩
theorem zd_14_84_563 : zz_D zy_groupLoads_14_84 563 (.iconst 0) 1 564 := ⟨zg_14_84_553.2.2.2.2.2.2.2.1, rfl⟩
theorem zd_14_84_564 : zz_D zy_groupLoads_14_84 564 (.iconst 0) 1 565 := ⟨zg_14_84_553.2.2.2.2.2.2.2.2.1, rfl⟩
theorem zd_14_84_565 : zz_D zy_groupLoads_14_84 565 (.invokevirtual 482) 3 568 := ⟨zg_14_84_553.2.2.2.2.2.2.2.2.2, rfl⟩
theorem zg_14_84_568 : (decode zy_groupLoads_14_84.2.1 568 = .ok ((.aload_n 0), 1)) ∧ (decode zy_groupLoads_14_84.2.1 569 = .ok ((.iload 7), 2)) ∧ (decode zy_groupLoads_14_84.2.1 571 = .ok ((.invokevirtual 485), 3)) ∧ (decode zy_groupLoads_14_84.2.1 387 = .ok ((.iconst 0), 1)) ∧ (decode zy_groupLoads_14_84.2.1 395 = .ok ((.aload_n 0), 1)) ∧ (decode zy_groupLoads_14_84.2.1 396 = .ok ((.iconst 3), 1)) ∧ (decode zy_groupLoads_14_84.2.1 397 = .ok ((.iconst 0), 1)) ∧ (decode zy_groupLoads_14_84.2.1 398 = .ok ((.iload 12), 2)) ∧ (decode zy_groupLoads_14_84.2.1 400 = .ok ((.iload 5), 2)) ∧ (decode zy_groupLoads_14_84.2.1 402 = .ok ((.invokevirtual 475), 3)) := by decide +kernel
theorem zd_14_84_568 : zz_D zy_groupLoads_14_84 568 (.aload_n 0) 1 569 := ⟨zg_14_84_568.1, rfl⟩
theorem zd_14_84_569 : zz_D zy_groupLoads_14_84 569 (.iload 7) 2 571 := ⟨zg_14_84_568.2.1, rfl⟩
theorem zd_14_84_571 : zz_D zy_groupLoads_14_84 571 (.invokevirtual 485) 3 574 := ⟨zg_14_84_568.2.2.1, rfl⟩
theorem zd_14_84_387 : zz_D zy_groupLoads_14_84 387 (.iconst 0) 1 388 := ⟨zg_14_84_568.2.2.2.1, rfl⟩
theorem zd_14_84_395 : zz_D zy_groupLoads_14_84 395 (.aload_n 0) 1 396 := ⟨zg_14_84_568.2.2.2.2.1, rfl⟩
theorem zd_14_84_396 : zz_D zy_groupLoads_14_84 396 (.iconst 3) 1 397 := ⟨zg_14_84_568.2.2.2.2.2.1, rfl⟩
theorem zd_14_84_397 : zz_D zy_groupLoads_14_84 397 (.iconst 0) 1 398 := ⟨zg_14_84_568.2.2.2.2.2.2.1, rfl⟩
theorem zd_14_84_398 : zz_D zy_groupLoads_14_84 398 (.iload 12) 2 400 := ⟨zg_14_84_568.2.2.2.2.2.2.2.1, rfl⟩
theorem zd_14_84_400 : zz_D zy_groupLoads_14_84 400 (.iload 5) 2 402 := ⟨zg_14_84_568.2.2.2.2.2.2.2.2.1, rfl⟩
theorem zd_14_84_402 : zz_D zy_groupLoads_14_84 402 (.invokevirtual 475) 3 405 := ⟨zg_14_84_568.2.2.2.2.2.2.2.2.2, rfl⟩
theorem zg_14_84_405 : (decode zy_groupLoads_14_84.2.1 405 = .ok ((.aload_n 0), 1)) ∧ (decode zy_groupLoads_14_84.2.1 406 = .ok ((.aload_n 0), 1)) ∧ (decode zy_groupLoads_14_84.2.1 407 = .ok ((.invokevirtual 489), 3)) ∧ (decode zy_groupLoads_14_84.2.1 410 = .ok ((.iconst 0), 1)) ∧ (decode zy_groupLoads_14_84.2.1 411 = .ok ((.iconst 0), 1)) ∧ (decode zy_groupLoads_14_84.2.1 412 = .ok ((.iconst 0), 1)) ∧ (decode zy_groupLoads_14_84.2.1 413 = .ok ((.invokevirtual 482), 3)) ∧ (decode zy_groupLoads_14_84.2.1 416 = .ok ((.aload_n 0), 1)) ∧ (decode zy_groupLoads_14_84.2.1 417 = .ok ((.iload 7), 2)) ∧ (decode zy_groupLoads_14_84.2.1 419 = .ok ((.invokevirtual 485), 3)) := by decide +kernel
theorem zd_14_84_405 : zz_D zy_groupLoads_14_84 405 (.aload_n 0) 1 406 := ⟨zg_14_84_405.1, rfl⟩
theorem zd_14_84_406 : zz_D zy_groupLoads_14_84 406 (.aload_n 0) 1 407 := ⟨zg_14_84_405.2.1, rfl⟩
theorem zd_14_84_407 : zz_D zy_groupLoads_14_84 407 (.invokevirtual 489) 3 410 := ⟨zg_14_84_405.2.2.1, rfl⟩
theorem zd_14_84_410 : zz_D zy_groupLoads_14_84 410 (.iconst 0) 1 411 := ⟨zg_14_84_405.2.2.2.1, rfl⟩
theorem zd_14_84_411 : zz_D zy_groupLoads_14_84 411 (.iconst 0) 1 412 := ⟨zg_14_84_405.2.2.2.2.1, rfl⟩
theorem zd_14_84_412 : zz_D zy_groupLoads_14_84 412 (.iconst 0) 1 413 := ⟨zg_14_84_405.2.2.2.2.2.1, rfl⟩
theorem zd_14_84_413 : zz_D zy_groupLoads_14_84 413 (.invokevirtual 482) 3 416 := ⟨zg_14_84_405.2.2.2.2.2.2.1, rfl⟩
theorem zd_14_84_416 : zz_D zy_groupLoads_14_84 416 (.aload_n 0) 1 417 := ⟨zg_14_84_405.2.2.2.2.2.2.2.1, rfl⟩
theorem zd_14_84_417 : zz_D zy_groupLoads_14_84 417 (.iload 7) 2 419 := ⟨zg_14_84_405.2.2.2.2.2.2.2.2.1, rfl⟩
theorem zd_14_84_419 : zz_D zy_groupLoads_14_84 419 (.invokevirtual 485) 3 422 := ⟨zg_14_84_405.2.2.2.2.2.2.2.2.2, rfl⟩

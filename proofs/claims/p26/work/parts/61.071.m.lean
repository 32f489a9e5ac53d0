-- TensorForgeModel load (Z)V
abbrev zr_load_14_82 : Room := { frames := 3, cells := 0, slots := 0, locals := 45 }
def zp_load_14_82 (p0 : Int) (S0 : zz_S) : zz_S → Prop := fun S => zz_G S ∧ zz_fr [(1079, 10), (1079, 57)] [1086, 1087] (fun _ _ => False) S0 S ∧ (S0 1079 10 ≤ S 1079 10 ∧ S 1079 10 ≤ S0 1079 10 + 1) ∧ (p0 = 1 → S 1079 10 = S0 1079 10)
theorem zc_load_14_82 {g : mm_G} {l : Launch} (p0 : Int) (S0 : zz_S) (n : Nat) (hn : zz_end ≤ n) (G_S0 : zz_G S0) (hp0 : 0 ≤ p0 ∧ p0 ≤ 1) (hq : S0 1079 10 ≤ 990000) : mm_Met g l zy_load_14_82 zr_load_14_82 [.ref 1079, zi p0] (zz_M S0 n) n (zz_QV n (zp_load_14_82 p0 S0)) := by
  refine zz_enter (by decide) (Nat.le_of_ble_eq_true rfl) (zz_less (ls1 := [some (.ref 1079), some (zi p0)]) ⟨rfl, ⟨rfl, trivial⟩⟩ ?_)
  have F_S0 : zz_fr [(1079, 10), (1079, 57)] [1086, 1087] (fun _ _ => False) S0 S0 := zz_fr.refl
  refine zz_aload_n (x := 1079) rfl zd_14_82_0 ?_
  refine zz_dup rfl zd_14_82_1 ?_
  have g1 := zz_G.r G_S0 1079 57 (-2147483648) 2147483647 rfl rfl
  refine zz_geti (z := S0 1079 57) zd_14_82_2 zf_Md_453 zT_1079 rfl (zz_ltn hn rfl) rfl ?_
  refine zz_iconst zd_14_82_5 ?_
  refine zz_iadd zd_14_82_6 ?_
  refine zz_nrm (fun v2 hv2 ev2 => ?_)
  refine zz_puti zd_14_82_7 zf_Md_453 zT_1079 rfl (zz_ltn hn rfl) (fun S3 qS3 => ?_)
  have G_S3 := zz_G.put G_S0 qS3 (-2147483648) 2147483647 rfl (by omega)
  have F_S3 := zz_fr.puts F_S0 qS3 rfl
  refine zz_iload_n (x := p0) rfl zd_14_82_10 ?_
  refine zz_if_ne (by omega) zd_14_82_11 (fun c4 => ?_) (fun c4 => ?_)
  · have g5 := zz_G.r G_S0 1079 10 0 1000000 rfl rfl
    have e6 : S3 1079 10 = S0 1079 10 := (zz_ro qS3 (fun h => absurd h.2 (by decide)) rfl)
    exact zz_vret zd_14_82_59 rfl (Nat.zero_le _) (Nat.zero_le _) ⟨_, rfl, G_S3, F_S3, by omega, by omega⟩
  · refine zz_aload_n (x := 1079) rfl zd_14_82_14 ?_
    refine zz_geti (z := v2) zd_14_82_15 zf_Md_453 zT_1079 rfl (zz_ltn hn rfl) (zz_rs qS3) ?_
    refine zz_iconst zd_14_82_18 ?_
    refine zz_icmp_ne (by omega) (by omega) zd_14_82_19 (fun c7 => ?_) (fun c7 => ?_)
    · refine zz_iconst zd_14_82_34 ?_
      refine zz_aload_n (x := 1079) rfl zd_14_82_35 ?_
      refine zz_geti (z := v2) zd_14_82_36 zf_Md_453 zT_1079 rfl (zz_ltn hn rfl) (zz_rs qS3) ?_
      refine zz_aload_n (x := 1079) rfl zd_14_82_39 ?_
      have g8 := zz_G.r G_S0 1079 60 (-2147483648) 2147483647 rfl rfl
      refine zz_geti (z := S0 1079 60) zd_14_82_40 zf_Md_456 zT_1079 rfl (zz_ltn hn rfl) (zz_ro qS3 (fun h => absurd h.2 (by decide)) rfl) ?_
      refine zz_icmp_ne (by omega) (by omega) zd_14_82_43 (fun c9 => ?_) (fun c9 => ?_)
      · refine zz_iconst zd_14_82_51 ?_
        refine zz_ior (by omega) (by omega) zd_14_82_52 (fun v10 hv10 av10 ev10 => ?_)
        refine zz_istore_n [some (.ref 1079), some (zi p0), some (zi v10)] zd_14_82_53 (by decide) rfl ?_
        refine zz_aload_n (x := 1079) rfl zd_14_82_54 ?_
        refine zz_iload_n (x := v10) rfl zd_14_82_55 ?_
        have g11 := zz_G.r G_S0 1079 10 0 1000000 rfl rfl
        have e12 : S3 1079 10 = S0 1079 10 := (zz_ro qS3 (fun h => absurd h.2 (by decide)) rfl)
        refine zz_callVV [zi v10] zd_14_82_56 zk_Md_459 zT_1079 (zz_ltn hn rfl) rfl rfl ⟨Nat.le_of_ble_eq_true rfl, Nat.le_of_ble_eq_true rfl⟩ ⟨rfl, rfl⟩ (Nat.zero_le _) (Nat.zero_le _) (zc_emit_14_77 v10 S3 n hn G_S3 (by omega) (by omega)) (fun S13 hP => ?_)
        obtain ⟨G_S13, fS13, o15⟩ := hP
        have F_S13 := zz_fr.trans F_S3 fS13 rfl zz_nv
        have g16 := zz_G.r G_S13 1079 10 0 1000000 rfl rfl
        exact zz_vret zd_14_82_59 rfl (Nat.zero_le _) (Nat.zero_le _) ⟨_, rfl, G_S13, F_S13, by omega, by omega⟩
      · refine zz_bipush (by decide) zd_14_82_46 ?_
        refine zz_goto zd_14_82_48 ?_
        refine zz_ior (by omega) (by omega) zd_14_82_52 (fun v17 hv17 av17 ev17 => ?_)
        refine zz_istore_n [some (.ref 1079), some (zi p0), some (zi v17)] zd_14_82_53 (by decide) rfl ?_
        refine zz_aload_n (x := 1079) rfl zd_14_82_54 ?_
        refine zz_iload_n (x := v17) rfl zd_14_82_55 ?_
        have g18 := zz_G.r G_S0 1079 10 0 1000000 rfl rfl
        have e19 : S3 1079 10 = S0 1079 10 := (zz_ro qS3 (fun h => absurd h.2 (by decide)) rfl)
        refine zz_callVV [zi v17] zd_14_82_56 zk_Md_459 zT_1079 (zz_ltn hn rfl) rfl rfl ⟨Nat.le_of_ble_eq_true rfl, Nat.le_of_ble_eq_true rfl⟩ ⟨rfl, rfl⟩ (Nat.zero_le _) (Nat.zero_le _) (zc_emit_14_77 v17 S3 n hn G_S3 (by omega) (by omega)) (fun S20 hP => ?_)
        obtain ⟨G_S20, fS20, o22⟩ := hP
        have F_S20 := zz_fr.trans F_S3 fS20 rfl zz_nv
        have g23 := zz_G.r G_S20 1079 10 0 1000000 rfl rfl
        exact zz_vret zd_14_82_59 rfl (Nat.zero_le _) (Nat.zero_le _) ⟨_, rfl, G_S20, F_S20, by omega, by omega⟩
    · refine zz_aload_n (x := 1079) rfl zd_14_82_22 ?_
      have g24 := zz_G.r G_S0 1079 51 (-2147483648) 2147483647 rfl rfl
      refine zz_geti (z := S0 1079 51) zd_14_82_23 zf_Md_447 zT_1079 rfl (zz_ltn hn rfl) (zz_ro qS3 (fun h => absurd h.2 (by decide)) rfl) ?_
      refine zz_iconst zd_14_82_26 ?_
      refine zz_icmp_le (by omega) (by omega) zd_14_82_27 (fun c25 => ?_) (fun c25 => ?_)
      · refine zz_iconst zd_14_82_34 ?_
        refine zz_aload_n (x := 1079) rfl zd_14_82_35 ?_
        refine zz_geti (z := v2) zd_14_82_36 zf_Md_453 zT_1079 rfl (zz_ltn hn rfl) (zz_rs qS3) ?_
        refine zz_aload_n (x := 1079) rfl zd_14_82_39 ?_
        have g26 := zz_G.r G_S0 1079 60 (-2147483648) 2147483647 rfl rfl
        refine zz_geti (z := S0 1079 60) zd_14_82_40 zf_Md_456 zT_1079 rfl (zz_ltn hn rfl) (zz_ro qS3 (fun h => absurd h.2 (by decide)) rfl) ?_
        refine zz_icmp_ne (by omega) (by omega) zd_14_82_43 (fun c27 => ?_) (fun c27 => ?_)
        · refine zz_iconst zd_14_82_51 ?_
          refine zz_ior (by omega) (by omega) zd_14_82_52 (fun v28 hv28 av28 ev28 => ?_)
          refine zz_istore_n [some (.ref 1079), some (zi p0), some (zi v28)] zd_14_82_53 (by decide) rfl ?_
          refine zz_aload_n (x := 1079) rfl zd_14_82_54 ?_
          refine zz_iload_n (x := v28) rfl zd_14_82_55 ?_
          have g29 := zz_G.r G_S0 1079 10 0 1000000 rfl rfl
          have e30 : S3 1079 10 = S0 1079 10 := (zz_ro qS3 (fun h => absurd h.2 (by decide)) rfl)
          refine zz_callVV [zi v28] zd_14_82_56 zk_Md_459 zT_1079 (zz_ltn hn rfl) rfl rfl ⟨Nat.le_of_ble_eq_true rfl, Nat.le_of_ble_eq_true rfl⟩ ⟨rfl, rfl⟩ (Nat.zero_le _) (Nat.zero_le _) (zc_emit_14_77 v28 S3 n hn G_S3 (by omega) (by omega)) (fun S31 hP => ?_)
          obtain ⟨G_S31, fS31, o33⟩ := hP
          have F_S31 := zz_fr.trans F_S3 fS31 rfl zz_nv
          have g34 := zz_G.r G_S31 1079 10 0 1000000 rfl rfl
          exact zz_vret zd_14_82_59 rfl (Nat.zero_le _) (Nat.zero_le _) ⟨_, rfl, G_S31, F_S31, by omega, by omega⟩
        · refine zz_bipush (by decide) zd_14_82_46 ?_
          refine zz_goto zd_14_82_48 ?_
          refine zz_ior (by omega) (by omega) zd_14_82_52 (fun v35 hv35 av35 ev35 => ?_)
          refine zz_istore_n [some (.ref 1079), some (zi p0), some (zi v35)] zd_14_82_53 (by decide) rfl ?_
          refine zz_aload_n (x := 1079) rfl zd_14_82_54 ?_
          refine zz_iload_n (x := v35) rfl zd_14_82_55 ?_
          have g36 := zz_G.r G_S0 1079 10 0 1000000 rfl rfl
          have e37 : S3 1079 10 = S0 1079 10 := (zz_ro qS3 (fun h => absurd h.2 (by decide)) rfl)
          refine zz_callVV [zi v35] zd_14_82_56 zk_Md_459 zT_1079 (zz_ltn hn rfl) rfl rfl ⟨Nat.le_of_ble_eq_true rfl, Nat.le_of_ble_eq_true rfl⟩ ⟨rfl, rfl⟩ (Nat.zero_le _) (Nat.zero_le _) (zc_emit_14_77 v35 S3 n hn G_S3 (by omega) (by omega)) (fun S38 hP => ?_)
          obtain ⟨G_S38, fS38, o40⟩ := hP
          have F_S38 := zz_fr.trans F_S3 fS38 rfl zz_nv
          have g41 := zz_G.r G_S38 1079 10 0 1000000 rfl rfl
          exact zz_vret zd_14_82_59 rfl (Nat.zero_le _) (Nat.zero_le _) ⟨_, rfl, G_S38, F_S38, by omega, by omega⟩
      · refine zz_iconst zd_14_82_30 ?_
        refine zz_goto zd_14_82_31 ?_
        refine zz_aload_n (x := 1079) rfl zd_14_82_35 ?_
        refine zz_geti (z := v2) zd_14_82_36 zf_Md_453 zT_1079 rfl (zz_ltn hn rfl) (zz_rs qS3) ?_
        refine zz_aload_n (x := 1079) rfl zd_14_82_39 ?_
        have g42 := zz_G.r G_S0 1079 60 (-2147483648) 2147483647 rfl rfl
        refine zz_geti (z := S0 1079 60) zd_14_82_40 zf_Md_456 zT_1079 rfl (zz_ltn hn rfl) (zz_ro qS3 (fun h => absurd h.2 (by decide)) rfl) ?_
        refine zz_icmp_ne (by omega) (by omega) zd_14_82_43 (fun c43 => ?_) (fun c43 => ?_)
        · refine zz_iconst zd_14_82_51 ?_
          refine zz_ior (by omega) (by omega) zd_14_82_52 (fun v44 hv44 av44 ev44 => ?_)
          refine zz_istore_n [some (.ref 1079), some (zi p0), some (zi v44)] zd_14_82_53 (by decide) rfl ?_
          refine zz_aload_n (x := 1079) rfl zd_14_82_54 ?_
          refine zz_iload_n (x := v44) rfl zd_14_82_55 ?_
          have g45 := zz_G.r G_S0 1079 10 0 1000000 rfl rfl
          have e46 : S3 1079 10 = S0 1079 10 := (zz_ro qS3 (fun h => absurd h.2 (by decide)) rfl)
          refine zz_callVV [zi v44] zd_14_82_56 zk_Md_459 zT_1079 (zz_ltn hn rfl) rfl rfl ⟨Nat.le_of_ble_eq_true rfl, Nat.le_of_ble_eq_true rfl⟩ ⟨rfl, rfl⟩ (Nat.zero_le _) (Nat.zero_le _) (zc_emit_14_77 v44 S3 n hn G_S3 (by omega) (by omega)) (fun S47 hP => ?_)
          obtain ⟨G_S47, fS47, o49⟩ := hP
          have F_S47 := zz_fr.trans F_S3 fS47 rfl zz_nv
          have g50 := zz_G.r G_S47 1079 10 0 1000000 rfl rfl
          exact zz_vret zd_14_82_59 rfl (Nat.zero_le _) (Nat.zero_le _) ⟨_, rfl, G_S47, F_S47, by omega, by omega⟩
        · refine zz_bipush (by decide) zd_14_82_46 ?_
          refine zz_goto zd_14_82_48 ?_
          refine zz_ior (by omega) (by omega) zd_14_82_52 (fun v51 hv51 av51 ev51 => ?_)
          refine zz_istore_n [some (.ref 1079), some (zi p0), some (zi v51)] zd_14_82_53 (by decide) rfl ?_
          refine zz_aload_n (x := 1079) rfl zd_14_82_54 ?_
          refine zz_iload_n (x := v51) rfl zd_14_82_55 ?_
          have g52 := zz_G.r G_S0 1079 10 0 1000000 rfl rfl
          have e53 : S3 1079 10 = S0 1079 10 := (zz_ro qS3 (fun h => absurd h.2 (by decide)) rfl)
          refine zz_callVV [zi v51] zd_14_82_56 zk_Md_459 zT_1079 (zz_ltn hn rfl) rfl rfl ⟨Nat.le_of_ble_eq_true rfl, Nat.le_of_ble_eq_true rfl⟩ ⟨rfl, rfl⟩ (Nat.zero_le _) (Nat.zero_le _) (zc_emit_14_77 v51 S3 n hn G_S3 (by omega) (by omega)) (fun S54 hP => ?_)
          obtain ⟨G_S54, fS54, o56⟩ := hP
          have F_S54 := zz_fr.trans F_S3 fS54 rfl zz_nv
          have g57 := zz_G.r G_S54 1079 10 0 1000000 rfl rfl
          exact zz_vret zd_14_82_59 rfl (Nat.zero_le _) (Nat.zero_le _) ⟨_, rfl, G_S54, F_S54, by omega, by omega⟩
abbrev zy_group_14_83 : mm_Y := (⟨"TensorForgeModel", "group", "(IIIIIZ)V"⟩, prog_14_method_83_code, 7, none)
theorem zyw_group_14_83 : mm_Yw zy_group_14_83 6 := ⟨mm_tb_1 2151 (by decide +kernel) rfl, mm_tb_1 12 (by decide +kernel) rfl, ⟨by decide, by decide⟩, by decide +kernel⟩
abbrev zy_groupLoads_14_84 : mm_Y := (⟨"TensorForgeModel", "groupLoads", "(IIIIIZZ)V"⟩, prog_14_method_84_code, 17, none)
theorem zyw_groupLoads_14_84 : mm_Yw zy_groupLoads_14_84 7 := ⟨mm_tb_1 2155 (by decide +kernel) rfl, mm_tb_1 12 (by decide +kernel) rfl, ⟨by decide, by decide⟩, by decide +kernel⟩
theorem zf_Md_466 : mm_Fl "TensorForgeModel" 466 11 56 .int false := ⟨R_Md, F_Md, 69, t_Md, rfl, i_Md, by decide, mm_tb_1 1667 (by decide +kernel) rfl, rfl, t_Md_ok, n_Md, rfl, by decide +kernel⟩
theorem zf_Md_469 : mm_Fl "TensorForgeModel" 469 11 52 .int false := ⟨R_Md, F_Md, 69, t_Md, rfl, i_Md, by decide, mm_tb_1 1663 (by decide +kernel) rfl, rfl, t_Md_ok, n_Md, rfl, by decide +kernel⟩
theorem zf_Md_472 : mm_Fl "TensorForgeModel" 472 11 53 .int false := ⟨R_Md, F_Md, 69, t_Md, rfl, i_Md, by decide, mm_tb_1 1664 (by decide +kernel) rfl, rfl, t_Md_ok, n_Md, rfl, by decide +kernel⟩
theorem zk_Md_475 : mm_Vl "TensorForgeModel" 475 11 4 zy_set_14_78 := ⟨zyw_set_14_78, (R_Md, F_Md, 69), rfl, mm_tb_1 2156 (by decide +kernel) rfl, mm_tb_1 2158 (by decide +kernel) rfl, mm_tb_s 131 (by decide +kernel) rfl⟩
theorem zk_Md_479 : mm_Vl "TensorForgeModel" 479 11 0 zy_quarter_14_81 := ⟨zyw_quarter_14_81, (R_Md, F_Md, 69), rfl, mm_tb_1 2160 (by decide +kernel) rfl, mm_tb_1 2162 (by decide +kernel) rfl, mm_tb_s 132 (by decide +kernel) rfl⟩
theorem zk_Md_482 : mm_Vl "TensorForgeModel" 482 11 4 zy_with_14_79 := ⟨zyw_with_14_79, (R_Md, F_Md, 69), rfl, mm_tb_1 2164 (by decide +kernel) rfl, mm_tb_1 2166 (by decide +kernel) rfl, mm_tb_s 133 (by decide +kernel) rfl⟩
theorem zk_Md_485 : mm_Vl "TensorForgeModel" 485 11 1 zy_load_14_82 := ⟨zyw_load_14_82, (R_Md, F_Md, 69), rfl, mm_tb_1 2168 (by decide +kernel) rfl, mm_tb_1 2170 (by decide +kernel) rfl, mm_tb_s 134 (by decide +kernel) rfl⟩
theorem zk_Md_489 : mm_Vl "TensorForgeModel" 489 11 0 zy_half_14_80 := ⟨zyw_half_14_80, (R_Md, F_Md, 69), rfl, mm_tb_1 2176 (by decide +kernel) rfl, mm_tb_1 2178 (by decide +kernel) rfl, mm_tb_s 136 (by decide +kernel) rfl⟩
theorem zf_Md_492 : mm_Fl "TensorForgeModel" 492 11 54 .int false := ⟨R_Md, F_Md, 69, t_Md, rfl, i_Md, by decide, mm_tb_1 1665 (by decide +kernel) rfl, rfl, t_Md_ok, n_Md, rfl, by decide +kernel⟩
theorem zf_Md_495 : mm_Fl "TensorForgeModel" 495 11 55 .int false := ⟨R_Md, F_Md, 69, t_Md, rfl, i_Md, by decide, mm_tb_1 1666 (by decide +kernel) rfl, rfl, t_Md_ok, n_Md, rfl, by decide +kernel⟩
theorem zg_14_83_0 : zq_at zy_group_14_83.2.1 0 42 ∧ zq_at zy_group_14_83.2.1 1 3 ∧ zq_at zy_group_14_83.2.1 2 181 ∧ zq_at zy_group_14_83.2.1 3 1 ∧ zq_at zy_group_14_83.2.1 4 200 ∧ zq_at zy_group_14_83.2.1 5 42 ∧ zq_at zy_group_14_83.2.1 6 3 ∧ zq_at zy_group_14_83.2.1 7 181 ∧ zq_at zy_group_14_83.2.1 8 1 ∧ zq_at zy_group_14_83.2.1 9 197 ∧ zq_at zy_group_14_83.2.1 10 42 ∧ zq_at zy_group_14_83.2.1 11 27 ∧ zq_at zy_group_14_83.2.1 12 28 ∧ zq_at zy_group_14_83.2.1 13 29 ∧ zq_at zy_group_14_83.2.1 14 21 ∧ zq_at zy_group_14_83.2.1 15 4 ∧ zq_at zy_group_14_83.2.1 16 21 ∧ zq_at zy_group_14_83.2.1 17 5 ∧ zq_at zy_group_14_83.2.1 18 21 ∧ zq_at zy_group_14_83.2.1 19 6 ∧ zq_at zy_group_14_83.2.1 20 4 ∧ zq_at zy_group_14_83.2.1 21 182 ∧ zq_at zy_group_14_83.2.1 22 1 ∧ zq_at zy_group_14_83.2.1 23 206 := by decide +kernel
theorem zd_14_83_0 : zz_D zy_group_14_83 0 (.aload_n 0) 1 1 := ⟨zq_42 zg_14_83_0.1, rfl⟩
theorem zd_14_83_1 : zz_D zy_group_14_83 1 (.iconst 0) 1 2 := ⟨zq_3 zg_14_83_0.2.1, rfl⟩
theorem zd_14_83_2 : zz_D zy_group_14_83 2 (.putfield 456) 3 5 := ⟨zq_181 zg_14_83_0.2.2.1 zg_14_83_0.2.2.2.1 zg_14_83_0.2.2.2.2.1 rfl, rfl⟩
theorem zd_14_83_5 : zz_D zy_group_14_83 5 (.aload_n 0) 1 6 := ⟨zq_42 zg_14_83_0.2.2.2.2.2.1, rfl⟩
theorem zd_14_83_6 : zz_D zy_group_14_83 6 (.iconst 0) 1 7 := ⟨zq_3 zg_14_83_0.2.2.2.2.2.2.1, rfl⟩
theorem zd_14_83_7 : zz_D zy_group_14_83 7 (.putfield 453) 3 10 := ⟨zq_181 zg_14_83_0.2.2.2.2.2.2.2.1 zg_14_83_0.2.2.2.2.2.2.2.2.1 zg_14_83_0.2.2.2.2.2.2.2.2.2.1 rfl, rfl⟩
theorem zd_14_83_10 : zz_D zy_group_14_83 10 (.aload_n 0) 1 11 := ⟨zq_42 zg_14_83_0.2.2.2.2.2.2.2.2.2.2.1, rfl⟩
theorem zd_14_83_11 : zz_D zy_group_14_83 11 (.iload_n 1) 1 12 := ⟨zq_27 zg_14_83_0.2.2.2.2.2.2.2.2.2.2.2.1, rfl⟩
theorem zd_14_83_12 : zz_D zy_group_14_83 12 (.iload_n 2) 1 13 := ⟨zq_28 zg_14_83_0.2.2.2.2.2.2.2.2.2.2.2.2.1, rfl⟩
theorem zd_14_83_13 : zz_D zy_group_14_83 13 (.iload_n 3) 1 14 := ⟨zq_29 zg_14_83_0.2.2.2.2.2.2.2.2.2.2.2.2.2.1, rfl⟩
theorem zd_14_83_14 : zz_D zy_group_14_83 14 (.iload 4) 2 16 := ⟨zq_21 zg_14_83_0.2.2.2.2.2.2.2.2.2.2.2.2.2.2.1 zg_14_83_0.2.2.2.2.2.2.2.2.2.2.2.2.2.2.2.1, rfl⟩
theorem zd_14_83_16 : zz_D zy_group_14_83 16 (.iload 5) 2 18 := ⟨zq_21 zg_14_83_0.2.2.2.2.2.2.2.2.2.2.2.2.2.2.2.2.1 zg_14_83_0.2.2.2.2.2.2.2.2.2.2.2.2.2.2.2.2.2.1, rfl⟩
theorem zd_14_83_18 : zz_D zy_group_14_83 18 (.iload 6) 2 20 := ⟨zq_21 zg_14_83_0.2.2.2.2.2.2.2.2.2.2.2.2.2.2.2.2.2.2.1 zg_14_83_0.2.2.2.2.2.2.2.2.2.2.2.2.2.2.2.2.2.2.2.1, rfl⟩
theorem zd_14_83_20 : zz_D zy_group_14_83 20 (.iconst 1) 1 21 := ⟨zq_4 zg_14_83_0.2.2.2.2.2.2.2.2.2.2.2.2.2.2.2.2.2.2.2.2.1, rfl⟩
theorem zd_14_83_21 : zz_D zy_group_14_83 21 (.invokevirtual 462) 3 24 := ⟨zq_182 zg_14_83_0.2.2.2.2.2.2.2.2.2.2.2.2.2.2.2.2.2.2.2.2.2.1 zg_14_83_0.2.2.2.2.2.2.2.2.2.2.2.2.2.2.2.2.2.2.2.2.2.2.1 zg_14_83_0.2.2.2.2.2.2.2.2.2.2.2.2.2.2.2.2.2.2.2.2.2.2.2 rfl, rfl⟩
theorem zg_14_84_0 : zq_at zy_groupLoads_14_84.2.1 0 42 ∧ zq_at zy_groupLoads_14_84.2.1 1 180 ∧ zq_at zy_groupLoads_14_84.2.1 2 0 ∧ zq_at zy_groupLoads_14_84.2.1 3 103 ∧ zq_at zy_groupLoads_14_84.2.1 4 27 ∧ zq_at zy_groupLoads_14_84.2.1 5 46 ∧ zq_at zy_groupLoads_14_84.2.1 6 54 ∧ zq_at zy_groupLoads_14_84.2.1 7 8 ∧ zq_at zy_groupLoads_14_84.2.1 8 42 ∧ zq_at zy_groupLoads_14_84.2.1 9 180 ∧ zq_at zy_groupLoads_14_84.2.1 10 0 ∧ zq_at zy_groupLoads_14_84.2.1 11 94 ∧ zq_at zy_groupLoads_14_84.2.1 12 27 ∧ zq_at zy_groupLoads_14_84.2.1 13 4 ∧ zq_at zy_groupLoads_14_84.2.1 14 96 ∧ zq_at zy_groupLoads_14_84.2.1 15 46 ∧ zq_at zy_groupLoads_14_84.2.1 16 54 ∧ zq_at zy_groupLoads_14_84.2.1 17 9 ∧ zq_at zy_groupLoads_14_84.2.1 18 42 ∧ zq_at zy_groupLoads_14_84.2.1 19 180 ∧ zq_at zy_groupLoads_14_84.2.1 20 0 ∧ zq_at zy_groupLoads_14_84.2.1 21 100 ∧ zq_at zy_groupLoads_14_84.2.1 22 27 ∧ zq_at zy_groupLoads_14_84.2.1 23 46 := by decide +kernel
theorem zd_14_84_0 : zz_D zy_groupLoads_14_84 0 (.aload_n 0) 1 1 := ⟨zq_42 zg_14_84_0.1, rfl⟩
theorem zd_14_84_1 : zz_D zy_groupLoads_14_84 1 (.getfield 103) 3 4 := ⟨zq_180 zg_14_84_0.2.1 zg_14_84_0.2.2.1 zg_14_84_0.2.2.2.1 rfl, rfl⟩
theorem zd_14_84_4 : zz_D zy_groupLoads_14_84 4 (.iload_n 1) 1 5 := ⟨zq_27 zg_14_84_0.2.2.2.2.1, rfl⟩
theorem zd_14_84_5 : zz_D zy_groupLoads_14_84 5 (.iaload) 1 6 := ⟨zq_46 zg_14_84_0.2.2.2.2.2.1, rfl⟩
theorem zd_14_84_6 : zz_D zy_groupLoads_14_84 6 (.istore 8) 2 8 := ⟨zq_54 zg_14_84_0.2.2.2.2.2.2.1 zg_14_84_0.2.2.2.2.2.2.2.1, rfl⟩
theorem zd_14_84_8 : zz_D zy_groupLoads_14_84 8 (.aload_n 0) 1 9 := ⟨zq_42 zg_14_84_0.2.2.2.2.2.2.2.2.1, rfl⟩
theorem zd_14_84_9 : zz_D zy_groupLoads_14_84 9 (.getfield 94) 3 12 := ⟨zq_180 zg_14_84_0.2.2.2.2.2.2.2.2.2.1 zg_14_84_0.2.2.2.2.2.2.2.2.2.2.1 zg_14_84_0.2.2.2.2.2.2.2.2.2.2.2.1 rfl, rfl⟩
theorem zd_14_84_12 : zz_D zy_groupLoads_14_84 12 (.iload_n 1) 1 13 := ⟨zq_27 zg_14_84_0.2.2.2.2.2.2.2.2.2.2.2.2.1, rfl⟩
theorem zd_14_84_13 : zz_D zy_groupLoads_14_84 13 (.iconst 1) 1 14 := ⟨zq_4 zg_14_84_0.2.2.2.2.2.2.2.2.2.2.2.2.2.1, rfl⟩
theorem zd_14_84_14 : zz_D zy_groupLoads_14_84 14 (.iadd) 1 15 := ⟨zq_96 zg_14_84_0.2.2.2.2.2.2.2.2.2.2.2.2.2.2.1, rfl⟩
theorem zd_14_84_15 : zz_D zy_groupLoads_14_84 15 (.iaload) 1 16 := ⟨zq_46 zg_14_84_0.2.2.2.2.2.2.2.2.2.2.2.2.2.2.2.1, rfl⟩
theorem zd_14_84_16 : zz_D zy_groupLoads_14_84 16 (.istore 9) 2 18 := ⟨zq_54 zg_14_84_0.2.2.2.2.2.2.2.2.2.2.2.2.2.2.2.2.1 zg_14_84_0.2.2.2.2.2.2.2.2.2.2.2.2.2.2.2.2.2.1, rfl⟩
theorem zd_14_84_18 : zz_D zy_groupLoads_14_84 18 (.aload_n 0) 1 19 := ⟨zq_42 zg_14_84_0.2.2.2.2.2.2.2.2.2.2.2.2.2.2.2.2.2.2.1, rfl⟩
theorem zd_14_84_19 : zz_D zy_groupLoads_14_84 19 (.getfield 100) 3 22 := ⟨zq_180 zg_14_84_0.2.2.2.2.2.2.2.2.2.2.2.2.2.2.2.2.2.2.2.1 zg_14_84_0.2.2.2.2.2.2.2.2.2.2.2.2.2.2.2.2.2.2.2.2.1 zg_14_84_0.2.2.2.2.2.2.2.2.2.2.2.2.2.2.2.2.2.2.2.2.2.1 rfl, rfl⟩
theorem zd_14_84_22 : zz_D zy_groupLoads_14_84 22 (.iload_n 1) 1 23 := ⟨zq_27 zg_14_84_0.2.2.2.2.2.2.2.2.2.2.2.2.2.2.2.2.2.2.2.2.2.2.1, rfl⟩
theorem zd_14_84_23 : zz_D zy_groupLoads_14_84 23 (.iaload) 1 24 := ⟨zq_46 zg_14_84_0.2.2.2.2.2.2.2.2.2.2.2.2.2.2.2.2.2.2.2.2.2.2.2, rfl⟩
theorem zg_14_84_24 : zq_at zy_groupLoads_14_84.2.1 24 154 ∧ zq_at zy_groupLoads_14_84.2.1 25 0 ∧ zq_at zy_groupLoads_14_84.2.1 26 51 ∧ zq_at zy_groupLoads_14_84.2.1 27 21 ∧ zq_at zy_groupLoads_14_84.2.1 28 6 ∧ zq_at zy_groupLoads_14_84.2.1 29 153 ∧ zq_at zy_groupLoads_14_84.2.1 30 0 ∧ zq_at zy_groupLoads_14_84.2.1 31 46 ∧ zq_at zy_groupLoads_14_84.2.1 32 42 ∧ zq_at zy_groupLoads_14_84.2.1 33 7 ∧ zq_at zy_groupLoads_14_84.2.1 34 42 ∧ zq_at zy_groupLoads_14_84.2.1 35 180 ∧ zq_at zy_groupLoads_14_84.2.1 36 0 ∧ zq_at zy_groupLoads_14_84.2.1 37 124 ∧ zq_at zy_groupLoads_14_84.2.1 38 27 ∧ zq_at zy_groupLoads_14_84.2.1 39 46 ∧ zq_at zy_groupLoads_14_84.2.1 40 7 ∧ zq_at zy_groupLoads_14_84.2.1 41 42 ∧ zq_at zy_groupLoads_14_84.2.1 42 180 ∧ zq_at zy_groupLoads_14_84.2.1 43 1 ∧ zq_at zy_groupLoads_14_84.2.1 44 210 ∧ zq_at zy_groupLoads_14_84.2.1 45 104 ∧ zq_at zy_groupLoads_14_84.2.1 46 96 ∧ zq_at zy_groupLoads_14_84.2.1 47 42 := by decide +kernel
theorem zd_14_84_24 : zz_B zy_groupLoads_14_84 24 (Instr.ifCond .ne) 75 27 := ⟨51, zq_154 zg_14_84_24.1 zg_14_84_24.2.1 zg_14_84_24.2.2.1 (by decide), rfl, rfl⟩
theorem zd_14_84_27 : zz_D zy_groupLoads_14_84 27 (.iload 6) 2 29 := ⟨zq_21 zg_14_84_24.2.2.2.1 zg_14_84_24.2.2.2.2.1, rfl⟩
theorem zd_14_84_29 : zz_B zy_groupLoads_14_84 29 (Instr.ifCond .eq) 75 32 := ⟨46, zq_153 zg_14_84_24.2.2.2.2.2.1 zg_14_84_24.2.2.2.2.2.2.1 zg_14_84_24.2.2.2.2.2.2.2.1 (by decide), rfl, rfl⟩
theorem zd_14_84_32 : zz_D zy_groupLoads_14_84 32 (.aload_n 0) 1 33 := ⟨zq_42 zg_14_84_24.2.2.2.2.2.2.2.2.1, rfl⟩
theorem zd_14_84_33 : zz_D zy_groupLoads_14_84 33 (.iconst 4) 1 34 := ⟨zq_7 zg_14_84_24.2.2.2.2.2.2.2.2.2.1, rfl⟩
theorem zd_14_84_34 : zz_D zy_groupLoads_14_84 34 (.aload_n 0) 1 35 := ⟨zq_42 zg_14_84_24.2.2.2.2.2.2.2.2.2.2.1, rfl⟩
theorem zd_14_84_35 : zz_D zy_groupLoads_14_84 35 (.getfield 124) 3 38 := ⟨zq_180 zg_14_84_24.2.2.2.2.2.2.2.2.2.2.2.1 zg_14_84_24.2.2.2.2.2.2.2.2.2.2.2.2.1 zg_14_84_24.2.2.2.2.2.2.2.2.2.2.2.2.2.1 rfl, rfl⟩
theorem zd_14_84_38 : zz_D zy_groupLoads_14_84 38 (.iload_n 1) 1 39 := ⟨zq_27 zg_14_84_24.2.2.2.2.2.2.2.2.2.2.2.2.2.2.1, rfl⟩
theorem zd_14_84_39 : zz_D zy_groupLoads_14_84 39 (.iaload) 1 40 := ⟨zq_46 zg_14_84_24.2.2.2.2.2.2.2.2.2.2.2.2.2.2.2.1, rfl⟩
theorem zd_14_84_40 : zz_D zy_groupLoads_14_84 40 (.iconst 4) 1 41 := ⟨zq_7 zg_14_84_24.2.2.2.2.2.2.2.2.2.2.2.2.2.2.2.2.1, rfl⟩
theorem zd_14_84_41 : zz_D zy_groupLoads_14_84 41 (.aload_n 0) 1 42 := ⟨zq_42 zg_14_84_24.2.2.2.2.2.2.2.2.2.2.2.2.2.2.2.2.2.1, rfl⟩
theorem zd_14_84_42 : zz_D zy_groupLoads_14_84 42 (.getfield 466) 3 45 := ⟨zq_180 zg_14_84_24.2.2.2.2.2.2.2.2.2.2.2.2.2.2.2.2.2.2.1 zg_14_84_24.2.2.2.2.2.2.2.2.2.2.2.2.2.2.2.2.2.2.2.1 zg_14_84_24.2.2.2.2.2.2.2.2.2.2.2.2.2.2.2.2.2.2.2.2.1 rfl, rfl⟩
theorem zd_14_84_45 : zz_D zy_groupLoads_14_84 45 (.imul) 1 46 := ⟨zq_104 zg_14_84_24.2.2.2.2.2.2.2.2.2.2.2.2.2.2.2.2.2.2.2.2.2.1, rfl⟩
theorem zd_14_84_46 : zz_D zy_groupLoads_14_84 46 (.iadd) 1 47 := ⟨zq_96 zg_14_84_24.2.2.2.2.2.2.2.2.2.2.2.2.2.2.2.2.2.2.2.2.2.2.1, rfl⟩
theorem zd_14_84_47 : zz_D zy_groupLoads_14_84 47 (.aload_n 0) 1 48 := ⟨zq_42 zg_14_84_24.2.2.2.2.2.2.2.2.2.2.2.2.2.2.2.2.2.2.2.2.2.2.2, rfl⟩
theorem zg_14_84_48 : zq_at zy_groupLoads_14_84.2.1 48 180 ∧ zq_at zy_groupLoads_14_84.2.1 49 1 ∧ zq_at zy_groupLoads_14_84.2.1 50 213 ∧ zq_at zy_groupLoads_14_84.2.1 51 42 ∧ zq_at zy_groupLoads_14_84.2.1 52 180 ∧ zq_at zy_groupLoads_14_84.2.1 53 1 ∧ zq_at zy_groupLoads_14_84.2.1 54 216 ∧ zq_at zy_groupLoads_14_84.2.1 55 182 ∧ zq_at zy_groupLoads_14_84.2.1 56 1 ∧ zq_at zy_groupLoads_14_84.2.1 57 219 ∧ zq_at zy_groupLoads_14_84.2.1 58 42 ∧ zq_at zy_groupLoads_14_84.2.1 59 42 ∧ zq_at zy_groupLoads_14_84.2.1 60 182 ∧ zq_at zy_groupLoads_14_84.2.1 61 1 ∧ zq_at zy_groupLoads_14_84.2.1 62 223 ∧ zq_at zy_groupLoads_14_84.2.1 63 3 ∧ zq_at zy_groupLoads_14_84.2.1 64 3 ∧ zq_at zy_groupLoads_14_84.2.1 65 3 ∧ zq_at zy_groupLoads_14_84.2.1 66 182 ∧ zq_at zy_groupLoads_14_84.2.1 67 1 ∧ zq_at zy_groupLoads_14_84.2.1 68 226 ∧ zq_at zy_groupLoads_14_84.2.1 69 42 ∧ zq_at zy_groupLoads_14_84.2.1 70 21 ∧ zq_at zy_groupLoads_14_84.2.1 71 7 := by decide +kernel
theorem zd_14_84_48 : zz_D zy_groupLoads_14_84 48 (.getfield 469) 3 51 := ⟨zq_180 zg_14_84_48.1 zg_14_84_48.2.1 zg_14_84_48.2.2.1 rfl, rfl⟩
theorem zd_14_84_51 : zz_D zy_groupLoads_14_84 51 (.aload_n 0) 1 52 := ⟨zq_42 zg_14_84_48.2.2.2.1, rfl⟩
theorem zd_14_84_52 : zz_D zy_groupLoads_14_84 52 (.getfield 472) 3 55 := ⟨zq_180 zg_14_84_48.2.2.2.2.1 zg_14_84_48.2.2.2.2.2.1 zg_14_84_48.2.2.2.2.2.2.1 rfl, rfl⟩
theorem zd_14_84_55 : zz_D zy_groupLoads_14_84 55 (.invokevirtual 475) 3 58 := ⟨zq_182 zg_14_84_48.2.2.2.2.2.2.2.1 zg_14_84_48.2.2.2.2.2.2.2.2.1 zg_14_84_48.2.2.2.2.2.2.2.2.2.1 rfl, rfl⟩
theorem zd_14_84_58 : zz_D zy_groupLoads_14_84 58 (.aload_n 0) 1 59 := ⟨zq_42 zg_14_84_48.2.2.2.2.2.2.2.2.2.2.1, rfl⟩
theorem zd_14_84_59 : zz_D zy_groupLoads_14_84 59 (.aload_n 0) 1 60 := ⟨zq_42 zg_14_84_48.2.2.2.2.2.2.2.2.2.2.2.1, rfl⟩
theorem zd_14_84_60 : zz_D zy_groupLoads_14_84 60 (.invokevirtual 479) 3 63 := ⟨zq_182 zg_14_84_48.2.2.2.2.2.2.2.2.2.2.2.2.1 zg_14_84_48.2.2.2.2.2.2.2.2.2.2.2.2.2.1 zg_14_84_48.2.2.2.2.2.2.2.2.2.2.2.2.2.2.1 rfl, rfl⟩
theorem zd_14_84_63 : zz_D zy_groupLoads_14_84 63 (.iconst 0) 1 64 := ⟨zq_3 zg_14_84_48.2.2.2.2.2.2.2.2.2.2.2.2.2.2.2.1, rfl⟩
theorem zd_14_84_64 : zz_D zy_groupLoads_14_84 64 (.iconst 0) 1 65 := ⟨zq_3 zg_14_84_48.2.2.2.2.2.2.2.2.2.2.2.2.2.2.2.2.1, rfl⟩
theorem zd_14_84_65 : zz_D zy_groupLoads_14_84 65 (.iconst 0) 1 66 := ⟨zq_3 zg_14_84_48.2.2.2.2.2.2.2.2.2.2.2.2.2.2.2.2.2.1, rfl⟩
theorem zd_14_84_66 : zz_D zy_groupLoads_14_84 66 (.invokevirtual 482) 3 69 := ⟨zq_182 zg_14_84_48.2.2.2.2.2.2.2.2.2.2.2.2.2.2.2.2.2.2.1 zg_14_84_48.2.2.2.2.2.2.2.2.2.2.2.2.2.2.2.2.2.2.2.1 zg_14_84_48.2.2.2.2.2.2.2.2.2.2.2.2.2.2.2.2.2.2.2.2.1 rfl, rfl⟩
theorem zd_14_84_69 : zz_D zy_groupLoads_14_84 69 (.aload_n 0) 1 70 := ⟨zq_42 zg_14_84_48.2.2.2.2.2.2.2.2.2.2.2.2.2.2.2.2.2.2.2.2.2.1, rfl⟩
theorem zd_14_84_70 : zz_D zy_groupLoads_14_84 70 (.iload 7) 2 72 := ⟨zq_21 zg_14_84_48.2.2.2.2.2.2.2.2.2.2.2.2.2.2.2.2.2.2.2.2.2.2.1 zg_14_84_48.2.2.2.2.2.2.2.2.2.2.2.2.2.2.2.2.2.2.2.2.2.2.2, rfl⟩
theorem zg_14_84_72 : zq_at zy_groupLoads_14_84.2.1 72 182 ∧ zq_at zy_groupLoads_14_84.2.1 73 1 ∧ zq_at zy_groupLoads_14_84.2.1 74 229 ∧ zq_at zy_groupLoads_14_84.2.1 75 42 ∧ zq_at zy_groupLoads_14_84.2.1 76 180 ∧ zq_at zy_groupLoads_14_84.2.1 77 0 ∧ zq_at zy_groupLoads_14_84.2.1 78 100 ∧ zq_at zy_groupLoads_14_84.2.1 79 27 ∧ zq_at zy_groupLoads_14_84.2.1 80 46 ∧ zq_at zy_groupLoads_14_84.2.1 81 154 ∧ zq_at zy_groupLoads_14_84.2.1 82 0 ∧ zq_at zy_groupLoads_14_84.2.1 83 77 ∧ zq_at zy_groupLoads_14_84.2.1 84 28 ∧ zq_at zy_groupLoads_14_84.2.1 85 42 ∧ zq_at zy_groupLoads_14_84.2.1 86 180 ∧ zq_at zy_groupLoads_14_84.2.1 87 0 ∧ zq_at zy_groupLoads_14_84.2.1 88 112 ∧ zq_at zy_groupLoads_14_84.2.1 89 27 ∧ zq_at zy_groupLoads_14_84.2.1 90 46 ∧ zq_at zy_groupLoads_14_84.2.1 91 104 ∧ zq_at zy_groupLoads_14_84.2.1 92 29 ∧ zq_at zy_groupLoads_14_84.2.1 93 96 ∧ zq_at zy_groupLoads_14_84.2.1 94 42 := by decide +kernel
theorem zd_14_84_72 : zz_D zy_groupLoads_14_84 72 (.invokevirtual 485) 3 75 := ⟨zq_182 zg_14_84_72.1 zg_14_84_72.2.1 zg_14_84_72.2.2.1 rfl, rfl⟩
theorem zd_14_84_75 : zz_D zy_groupLoads_14_84 75 (.aload_n 0) 1 76 := ⟨zq_42 zg_14_84_72.2.2.2.1, rfl⟩
theorem zd_14_84_76 : zz_D zy_groupLoads_14_84 76 (.getfield 100) 3 79 := ⟨zq_180 zg_14_84_72.2.2.2.2.1 zg_14_84_72.2.2.2.2.2.1 zg_14_84_72.2.2.2.2.2.2.1 rfl, rfl⟩
theorem zd_14_84_79 : zz_D zy_groupLoads_14_84 79 (.iload_n 1) 1 80 := ⟨zq_27 zg_14_84_72.2.2.2.2.2.2.2.1, rfl⟩
theorem zd_14_84_80 : zz_D zy_groupLoads_14_84 80 (.iaload) 1 81 := ⟨zq_46 zg_14_84_72.2.2.2.2.2.2.2.2.1, rfl⟩
theorem zd_14_84_81 : zz_B zy_groupLoads_14_84 81 (Instr.ifCond .ne) 158 84 := ⟨77, zq_154 zg_14_84_72.2.2.2.2.2.2.2.2.2.1 zg_14_84_72.2.2.2.2.2.2.2.2.2.2.1 zg_14_84_72.2.2.2.2.2.2.2.2.2.2.2.1 (by decide), rfl, rfl⟩
theorem zd_14_84_84 : zz_D zy_groupLoads_14_84 84 (.iload_n 2) 1 85 := ⟨zq_28 zg_14_84_72.2.2.2.2.2.2.2.2.2.2.2.2.1, rfl⟩
theorem zd_14_84_85 : zz_D zy_groupLoads_14_84 85 (.aload_n 0) 1 86 := ⟨zq_42 zg_14_84_72.2.2.2.2.2.2.2.2.2.2.2.2.2.1, rfl⟩
theorem zd_14_84_86 : zz_D zy_groupLoads_14_84 86 (.getfield 112) 3 89 := ⟨zq_180 zg_14_84_72.2.2.2.2.2.2.2.2.2.2.2.2.2.2.1 zg_14_84_72.2.2.2.2.2.2.2.2.2.2.2.2.2.2.2.1 zg_14_84_72.2.2.2.2.2.2.2.2.2.2.2.2.2.2.2.2.1 rfl, rfl⟩
theorem zd_14_84_89 : zz_D zy_groupLoads_14_84 89 (.iload_n 1) 1 90 := ⟨zq_27 zg_14_84_72.2.2.2.2.2.2.2.2.2.2.2.2.2.2.2.2.2.1, rfl⟩
theorem zd_14_84_90 : zz_D zy_groupLoads_14_84 90 (.iaload) 1 91 := ⟨zq_46 zg_14_84_72.2.2.2.2.2.2.2.2.2.2.2.2.2.2.2.2.2.2.1, rfl⟩
theorem zd_14_84_91 : zz_D zy_groupLoads_14_84 91 (.imul) 1 92 := ⟨zq_104 zg_14_84_72.2.2.2.2.2.2.2.2.2.2.2.2.2.2.2.2.2.2.2.1, rfl⟩
theorem zd_14_84_92 : zz_D zy_groupLoads_14_84 92 (.iload_n 3) 1 93 := ⟨zq_29 zg_14_84_72.2.2.2.2.2.2.2.2.2.2.2.2.2.2.2.2.2.2.2.2.1, rfl⟩
theorem zd_14_84_93 : zz_D zy_groupLoads_14_84 93 (.iadd) 1 94 := ⟨zq_96 zg_14_84_72.2.2.2.2.2.2.2.2.2.2.2.2.2.2.2.2.2.2.2.2.2.1, rfl⟩
theorem zd_14_84_94 : zz_D zy_groupLoads_14_84 94 (.aload_n 0) 1 95 := ⟨zq_42 zg_14_84_72.2.2.2.2.2.2.2.2.2.2.2.2.2.2.2.2.2.2.2.2.2.2, rfl⟩
theorem zg_14_84_95 : zq_at zy_groupLoads_14_84.2.1 95 180 ∧ zq_at zy_groupLoads_14_84.2.1 96 0 ∧ zq_at zy_groupLoads_14_84.2.1 97 94 ∧ zq_at zy_groupLoads_14_84.2.1 98 21 ∧ zq_at zy_groupLoads_14_84.2.1 99 8 ∧ zq_at zy_groupLoads_14_84.2.1 100 46 ∧ zq_at zy_groupLoads_14_84.2.1 101 104 ∧ zq_at zy_groupLoads_14_84.2.1 102 21 ∧ zq_at zy_groupLoads_14_84.2.1 103 4 ∧ zq_at zy_groupLoads_14_84.2.1 104 96 ∧ zq_at zy_groupLoads_14_84.2.1 105 54 ∧ zq_at zy_groupLoads_14_84.2.1 106 10 ∧ zq_at zy_groupLoads_14_84.2.1 107 42 ∧ zq_at zy_groupLoads_14_84.2.1 108 5 ∧ zq_at zy_groupLoads_14_84.2.1 109 42 ∧ zq_at zy_groupLoads_14_84.2.1 110 180 ∧ zq_at zy_groupLoads_14_84.2.1 111 0 ∧ zq_at zy_groupLoads_14_84.2.1 112 124 ∧ zq_at zy_groupLoads_14_84.2.1 113 27 ∧ zq_at zy_groupLoads_14_84.2.1 114 46 ∧ zq_at zy_groupLoads_14_84.2.1 115 7 ∧ zq_at zy_groupLoads_14_84.2.1 116 21 ∧ zq_at zy_groupLoads_14_84.2.1 117 9 ∧ zq_at zy_groupLoads_14_84.2.1 118 104 := by decide +kernel
theorem zd_14_84_95 : zz_D zy_groupLoads_14_84 95 (.getfield 94) 3 98 := ⟨zq_180 zg_14_84_95.1 zg_14_84_95.2.1 zg_14_84_95.2.2.1 rfl, rfl⟩
theorem zd_14_84_98 : zz_D zy_groupLoads_14_84 98 (.iload 8) 2 100 := ⟨zq_21 zg_14_84_95.2.2.2.1 zg_14_84_95.2.2.2.2.1, rfl⟩
theorem zd_14_84_100 : zz_D zy_groupLoads_14_84 100 (.iaload) 1 101 := ⟨zq_46 zg_14_84_95.2.2.2.2.2.1, rfl⟩
theorem zd_14_84_101 : zz_D zy_groupLoads_14_84 101 (.imul) 1 102 := ⟨zq_104 zg_14_84_95.2.2.2.2.2.2.1, rfl⟩
theorem zd_14_84_102 : zz_D zy_groupLoads_14_84 102 (.iload 4) 2 104 := ⟨zq_21 zg_14_84_95.2.2.2.2.2.2.2.1 zg_14_84_95.2.2.2.2.2.2.2.2.1, rfl⟩
theorem zd_14_84_104 : zz_D zy_groupLoads_14_84 104 (.iadd) 1 105 := ⟨zq_96 zg_14_84_95.2.2.2.2.2.2.2.2.2.1, rfl⟩
theorem zd_14_84_105 : zz_D zy_groupLoads_14_84 105 (.istore 10) 2 107 := ⟨zq_54 zg_14_84_95.2.2.2.2.2.2.2.2.2.2.1 zg_14_84_95.2.2.2.2.2.2.2.2.2.2.2.1, rfl⟩
theorem zd_14_84_107 : zz_D zy_groupLoads_14_84 107 (.aload_n 0) 1 108 := ⟨zq_42 zg_14_84_95.2.2.2.2.2.2.2.2.2.2.2.2.1, rfl⟩
theorem zd_14_84_108 : zz_D zy_groupLoads_14_84 108 (.iconst 2) 1 109 := ⟨zq_5 zg_14_84_95.2.2.2.2.2.2.2.2.2.2.2.2.2.1, rfl⟩
theorem zd_14_84_109 : zz_D zy_groupLoads_14_84 109 (.aload_n 0) 1 110 := ⟨zq_42 zg_14_84_95.2.2.2.2.2.2.2.2.2.2.2.2.2.2.1, rfl⟩
theorem zd_14_84_110 : zz_D zy_groupLoads_14_84 110 (.getfield 124) 3 113 := ⟨zq_180 zg_14_84_95.2.2.2.2.2.2.2.2.2.2.2.2.2.2.2.1 zg_14_84_95.2.2.2.2.2.2.2.2.2.2.2.2.2.2.2.2.1 zg_14_84_95.2.2.2.2.2.2.2.2.2.2.2.2.2.2.2.2.2.1 rfl, rfl⟩
theorem zd_14_84_113 : zz_D zy_groupLoads_14_84 113 (.iload_n 1) 1 114 := ⟨zq_27 zg_14_84_95.2.2.2.2.2.2.2.2.2.2.2.2.2.2.2.2.2.2.1, rfl⟩
theorem zd_14_84_114 : zz_D zy_groupLoads_14_84 114 (.iaload) 1 115 := ⟨zq_46 zg_14_84_95.2.2.2.2.2.2.2.2.2.2.2.2.2.2.2.2.2.2.2.1, rfl⟩
theorem zd_14_84_115 : zz_D zy_groupLoads_14_84 115 (.iconst 4) 1 116 := ⟨zq_7 zg_14_84_95.2.2.2.2.2.2.2.2.2.2.2.2.2.2.2.2.2.2.2.2.1, rfl⟩
theorem zd_14_84_116 : zz_D zy_groupLoads_14_84 116 (.iload 9) 2 118 := ⟨zq_21 zg_14_84_95.2.2.2.2.2.2.2.2.2.2.2.2.2.2.2.2.2.2.2.2.2.1 zg_14_84_95.2.2.2.2.2.2.2.2.2.2.2.2.2.2.2.2.2.2.2.2.2.2.1, rfl⟩
theorem zd_14_84_118 : zz_D zy_groupLoads_14_84 118 (.imul) 1 119 := ⟨zq_104 zg_14_84_95.2.2.2.2.2.2.2.2.2.2.2.2.2.2.2.2.2.2.2.2.2.2.2, rfl⟩
theorem zg_14_84_119 : zq_at zy_groupLoads_14_84.2.1 119 96 ∧ zq_at zy_groupLoads_14_84.2.1 120 21 ∧ zq_at zy_groupLoads_14_84.2.1 121 10 ∧ zq_at zy_groupLoads_14_84.2.1 122 21 ∧ zq_at zy_groupLoads_14_84.2.1 123 9 ∧ zq_at zy_groupLoads_14_84.2.1 124 104 ∧ zq_at zy_groupLoads_14_84.2.1 125 96 ∧ zq_at zy_groupLoads_14_84.2.1 126 42 ∧ zq_at zy_groupLoads_14_84.2.1 127 180 ∧ zq_at zy_groupLoads_14_84.2.1 128 1 ∧ zq_at zy_groupLoads_14_84.2.1 129 210 ∧ zq_at zy_groupLoads_14_84.2.1 130 96 ∧ zq_at zy_groupLoads_14_84.2.1 131 21 ∧ zq_at zy_groupLoads_14_84.2.1 132 5 ∧ zq_at zy_groupLoads_14_84.2.1 133 42 ∧ zq_at zy_groupLoads_14_84.2.1 134 180 ∧ zq_at zy_groupLoads_14_84.2.1 135 1 ∧ zq_at zy_groupLoads_14_84.2.1 136 216 ∧ zq_at zy_groupLoads_14_84.2.1 137 182 ∧ zq_at zy_groupLoads_14_84.2.1 138 1 ∧ zq_at zy_groupLoads_14_84.2.1 139 219 ∧ zq_at zy_groupLoads_14_84.2.1 140 42 ∧ zq_at zy_groupLoads_14_84.2.1 141 42 := by decide +kernel
theorem zd_14_84_119 : zz_D zy_groupLoads_14_84 119 (.iadd) 1 120 := ⟨zq_96 zg_14_84_119.1, rfl⟩
theorem zd_14_84_120 : zz_D zy_groupLoads_14_84 120 (.iload 10) 2 122 := ⟨zq_21 zg_14_84_119.2.1 zg_14_84_119.2.2.1, rfl⟩
theorem zd_14_84_122 : zz_D zy_groupLoads_14_84 122 (.iload 9) 2 124 := ⟨zq_21 zg_14_84_119.2.2.2.1 zg_14_84_119.2.2.2.2.1, rfl⟩
theorem zd_14_84_124 : zz_D zy_groupLoads_14_84 124 (.imul) 1 125 := ⟨zq_104 zg_14_84_119.2.2.2.2.2.1, rfl⟩
theorem zd_14_84_125 : zz_D zy_groupLoads_14_84 125 (.iadd) 1 126 := ⟨zq_96 zg_14_84_119.2.2.2.2.2.2.1, rfl⟩
theorem zd_14_84_126 : zz_D zy_groupLoads_14_84 126 (.aload_n 0) 1 127 := ⟨zq_42 zg_14_84_119.2.2.2.2.2.2.2.1, rfl⟩
theorem zd_14_84_127 : zz_D zy_groupLoads_14_84 127 (.getfield 466) 3 130 := ⟨zq_180 zg_14_84_119.2.2.2.2.2.2.2.2.1 zg_14_84_119.2.2.2.2.2.2.2.2.2.1 zg_14_84_119.2.2.2.2.2.2.2.2.2.2.1 rfl, rfl⟩
theorem zd_14_84_130 : zz_D zy_groupLoads_14_84 130 (.iadd) 1 131 := ⟨zq_96 zg_14_84_119.2.2.2.2.2.2.2.2.2.2.2.1, rfl⟩
theorem zd_14_84_131 : zz_D zy_groupLoads_14_84 131 (.iload 5) 2 133 := ⟨zq_21 zg_14_84_119.2.2.2.2.2.2.2.2.2.2.2.2.1 zg_14_84_119.2.2.2.2.2.2.2.2.2.2.2.2.2.1, rfl⟩
theorem zd_14_84_133 : zz_D zy_groupLoads_14_84 133 (.aload_n 0) 1 134 := ⟨zq_42 zg_14_84_119.2.2.2.2.2.2.2.2.2.2.2.2.2.2.1, rfl⟩
theorem zd_14_84_134 : zz_D zy_groupLoads_14_84 134 (.getfield 472) 3 137 := ⟨zq_180 zg_14_84_119.2.2.2.2.2.2.2.2.2.2.2.2.2.2.2.1 zg_14_84_119.2.2.2.2.2.2.2.2.2.2.2.2.2.2.2.2.1 zg_14_84_119.2.2.2.2.2.2.2.2.2.2.2.2.2.2.2.2.2.1 rfl, rfl⟩
theorem zd_14_84_137 : zz_D zy_groupLoads_14_84 137 (.invokevirtual 475) 3 140 := ⟨zq_182 zg_14_84_119.2.2.2.2.2.2.2.2.2.2.2.2.2.2.2.2.2.2.1 zg_14_84_119.2.2.2.2.2.2.2.2.2.2.2.2.2.2.2.2.2.2.2.1 zg_14_84_119.2.2.2.2.2.2.2.2.2.2.2.2.2.2.2.2.2.2.2.2.1 rfl, rfl⟩
theorem zd_14_84_140 : zz_D zy_groupLoads_14_84 140 (.aload_n 0) 1 141 := ⟨zq_42 zg_14_84_119.2.2.2.2.2.2.2.2.2.2.2.2.2.2.2.2.2.2.2.2.2.1, rfl⟩
theorem zd_14_84_141 : zz_D zy_groupLoads_14_84 141 (.aload_n 0) 1 142 := ⟨zq_42 zg_14_84_119.2.2.2.2.2.2.2.2.2.2.2.2.2.2.2.2.2.2.2.2.2.2, rfl⟩
theorem zg_14_84_142 : zq_at zy_groupLoads_14_84.2.1 142 182 ∧ zq_at zy_groupLoads_14_84.2.1 143 1 ∧ zq_at zy_groupLoads_14_84.2.1 144 233 ∧ zq_at zy_groupLoads_14_84.2.1 145 3 ∧ zq_at zy_groupLoads_14_84.2.1 146 21 ∧ zq_at zy_groupLoads_14_84.2.1 147 9 ∧ zq_at zy_groupLoads_14_84.2.1 148 3 ∧ zq_at zy_groupLoads_14_84.2.1 149 182 ∧ zq_at zy_groupLoads_14_84.2.1 150 1 ∧ zq_at zy_groupLoads_14_84.2.1 151 226 ∧ zq_at zy_groupLoads_14_84.2.1 152 42 ∧ zq_at zy_groupLoads_14_84.2.1 153 21 ∧ zq_at zy_groupLoads_14_84.2.1 154 7 ∧ zq_at zy_groupLoads_14_84.2.1 155 182 ∧ zq_at zy_groupLoads_14_84.2.1 156 1 ∧ zq_at zy_groupLoads_14_84.2.1 157 229 ∧ zq_at zy_groupLoads_14_84.2.1 158 42 ∧ zq_at zy_groupLoads_14_84.2.1 159 180 ∧ zq_at zy_groupLoads_14_84.2.1 160 0 ∧ zq_at zy_groupLoads_14_84.2.1 161 100 ∧ zq_at zy_groupLoads_14_84.2.1 162 27 ∧ zq_at zy_groupLoads_14_84.2.1 163 46 ∧ zq_at zy_groupLoads_14_84.2.1 164 5 := by decide +kernel
theorem zd_14_84_142 : zz_D zy_groupLoads_14_84 142 (.invokevirtual 489) 3 145 := ⟨zq_182 zg_14_84_142.1 zg_14_84_142.2.1 zg_14_84_142.2.2.1 rfl, rfl⟩
theorem zd_14_84_145 : zz_D zy_groupLoads_14_84 145 (.iconst 0) 1 146 := ⟨zq_3 zg_14_84_142.2.2.2.1, rfl⟩
theorem zd_14_84_146 : zz_D zy_groupLoads_14_84 146 (.iload 9) 2 148 := ⟨zq_21 zg_14_84_142.2.2.2.2.1 zg_14_84_142.2.2.2.2.2.1, rfl⟩
theorem zd_14_84_148 : zz_D zy_groupLoads_14_84 148 (.iconst 0) 1 149 := ⟨zq_3 zg_14_84_142.2.2.2.2.2.2.1, rfl⟩
theorem zd_14_84_149 : zz_D zy_groupLoads_14_84 149 (.invokevirtual 482) 3 152 := ⟨zq_182 zg_14_84_142.2.2.2.2.2.2.2.1 zg_14_84_142.2.2.2.2.2.2.2.2.1 zg_14_84_142.2.2.2.2.2.2.2.2.2.1 rfl, rfl⟩
theorem zd_14_84_152 : zz_D zy_groupLoads_14_84 152 (.aload_n 0) 1 153 := ⟨zq_42 zg_14_84_142.2.2.2.2.2.2.2.2.2.2.1, rfl⟩
theorem zd_14_84_153 : zz_D zy_groupLoads_14_84 153 (.iload 7) 2 155 := ⟨zq_21 zg_14_84_142.2.2.2.2.2.2.2.2.2.2.2.1 zg_14_84_142.2.2.2.2.2.2.2.2.2.2.2.2.1, rfl⟩
theorem zd_14_84_155 : zz_D zy_groupLoads_14_84 155 (.invokevirtual 485) 3 158 := ⟨zq_182 zg_14_84_142.2.2.2.2.2.2.2.2.2.2.2.2.2.1 zg_14_84_142.2.2.2.2.2.2.2.2.2.2.2.2.2.2.1 zg_14_84_142.2.2.2.2.2.2.2.2.2.2.2.2.2.2.2.1 rfl, rfl⟩
theorem zd_14_84_158 : zz_D zy_groupLoads_14_84 158 (.aload_n 0) 1 159 := ⟨zq_42 zg_14_84_142.2.2.2.2.2.2.2.2.2.2.2.2.2.2.2.2.1, rfl⟩
theorem zd_14_84_159 : zz_D zy_groupLoads_14_84 159 (.getfield 100) 3 162 := ⟨zq_180 zg_14_84_142.2.2.2.2.2.2.2.2.2.2.2.2.2.2.2.2.2.1 zg_14_84_142.2.2.2.2.2.2.2.2.2.2.2.2.2.2.2.2.2.2.1 zg_14_84_142.2.2.2.2.2.2.2.2.2.2.2.2.2.2.2.2.2.2.2.1 rfl, rfl⟩
theorem zd_14_84_162 : zz_D zy_groupLoads_14_84 162 (.iload_n 1) 1 163 := ⟨zq_27 zg_14_84_142.2.2.2.2.2.2.2.2.2.2.2.2.2.2.2.2.2.2.2.2.1, rfl⟩
theorem zd_14_84_163 : zz_D zy_groupLoads_14_84 163 (.iaload) 1 164 := ⟨zq_46 zg_14_84_142.2.2.2.2.2.2.2.2.2.2.2.2.2.2.2.2.2.2.2.2.2.1, rfl⟩
theorem zd_14_84_164 : zz_D zy_groupLoads_14_84 164 (.iconst 2) 1 165 := ⟨zq_5 zg_14_84_142.2.2.2.2.2.2.2.2.2.2.2.2.2.2.2.2.2.2.2.2.2.2, rfl⟩
theorem zg_14_84_165 : zq_at zy_groupLoads_14_84.2.1 165 160 ∧ zq_at zy_groupLoads_14_84.2.1 166 0 ∧ zq_at zy_groupLoads_14_84.2.1 167 82 ∧ zq_at zy_groupLoads_14_84.2.1 168 28 ∧ zq_at zy_groupLoads_14_84.2.1 169 154 ∧ zq_at zy_groupLoads_14_84.2.1 170 0 ∧ zq_at zy_groupLoads_14_84.2.1 171 12 ∧ zq_at zy_groupLoads_14_84.2.1 181 42 ∧ zq_at zy_groupLoads_14_84.2.1 182 180 ∧ zq_at zy_groupLoads_14_84.2.1 183 0 ∧ zq_at zy_groupLoads_14_84.2.1 184 106 ∧ zq_at zy_groupLoads_14_84.2.1 185 27 ∧ zq_at zy_groupLoads_14_84.2.1 186 46 ∧ zq_at zy_groupLoads_14_84.2.1 187 54 ∧ zq_at zy_groupLoads_14_84.2.1 188 10 ∧ zq_at zy_groupLoads_14_84.2.1 189 42 ∧ zq_at zy_groupLoads_14_84.2.1 190 4 ∧ zq_at zy_groupLoads_14_84.2.1 191 42 ∧ zq_at zy_groupLoads_14_84.2.1 192 180 ∧ zq_at zy_groupLoads_14_84.2.1 193 0 ∧ zq_at zy_groupLoads_14_84.2.1 194 97 ∧ zq_at zy_groupLoads_14_84.2.1 195 21 ∧ zq_at zy_groupLoads_14_84.2.1 196 10 ∧ zq_at zy_groupLoads_14_84.2.1 197 46 := by decide +kernel
theorem zd_14_84_165 : zz_B zy_groupLoads_14_84 165 (Instr.if_icmp .ne) 247 168 := ⟨82, zq_160 zg_14_84_165.1 zg_14_84_165.2.1 zg_14_84_165.2.2.1 (by decide), rfl, rfl⟩
theorem zd_14_84_168 : zz_D zy_groupLoads_14_84 168 (.iload_n 2) 1 169 := ⟨zq_28 zg_14_84_165.2.2.2.1, rfl⟩
theorem zd_14_84_169 : zz_B zy_groupLoads_14_84 169 (Instr.ifCond .ne) 181 172 := ⟨12, zq_154 zg_14_84_165.2.2.2.2.1 zg_14_84_165.2.2.2.2.2.1 zg_14_84_165.2.2.2.2.2.2.1 (by decide), rfl, rfl⟩
theorem zd_14_84_181 : zz_D zy_groupLoads_14_84 181 (.aload_n 0) 1 182 := ⟨zq_42 zg_14_84_165.2.2.2.2.2.2.2.1, rfl⟩
theorem zd_14_84_182 : zz_D zy_groupLoads_14_84 182 (.getfield 106) 3 185 := ⟨zq_180 zg_14_84_165.2.2.2.2.2.2.2.2.1 zg_14_84_165.2.2.2.2.2.2.2.2.2.1 zg_14_84_165.2.2.2.2.2.2.2.2.2.2.1 rfl, rfl⟩
theorem zd_14_84_185 : zz_D zy_groupLoads_14_84 185 (.iload_n 1) 1 186 := ⟨zq_27 zg_14_84_165.2.2.2.2.2.2.2.2.2.2.2.1, rfl⟩
theorem zd_14_84_186 : zz_D zy_groupLoads_14_84 186 (.iaload) 1 187 := ⟨zq_46 zg_14_84_165.2.2.2.2.2.2.2.2.2.2.2.2.1, rfl⟩
theorem zd_14_84_187 : zz_D zy_groupLoads_14_84 187 (.istore 10) 2 189 := ⟨zq_54 zg_14_84_165.2.2.2.2.2.2.2.2.2.2.2.2.2.1 zg_14_84_165.2.2.2.2.2.2.2.2.2.2.2.2.2.2.1, rfl⟩
theorem zd_14_84_189 : zz_D zy_groupLoads_14_84 189 (.aload_n 0) 1 190 := ⟨zq_42 zg_14_84_165.2.2.2.2.2.2.2.2.2.2.2.2.2.2.2.1, rfl⟩
theorem zd_14_84_190 : zz_D zy_groupLoads_14_84 190 (.iconst 1) 1 191 := ⟨zq_4 zg_14_84_165.2.2.2.2.2.2.2.2.2.2.2.2.2.2.2.2.1, rfl⟩
theorem zd_14_84_191 : zz_D zy_groupLoads_14_84 191 (.aload_n 0) 1 192 := ⟨zq_42 zg_14_84_165.2.2.2.2.2.2.2.2.2.2.2.2.2.2.2.2.2.1, rfl⟩
theorem zd_14_84_192 : zz_D zy_groupLoads_14_84 192 (.getfield 97) 3 195 := ⟨zq_180 zg_14_84_165.2.2.2.2.2.2.2.2.2.2.2.2.2.2.2.2.2.2.1 zg_14_84_165.2.2.2.2.2.2.2.2.2.2.2.2.2.2.2.2.2.2.2.1 zg_14_84_165.2.2.2.2.2.2.2.2.2.2.2.2.2.2.2.2.2.2.2.2.1 rfl, rfl⟩
theorem zd_14_84_195 : zz_D zy_groupLoads_14_84 195 (.iload 10) 2 197 := ⟨zq_21 zg_14_84_165.2.2.2.2.2.2.2.2.2.2.2.2.2.2.2.2.2.2.2.2.2.1 zg_14_84_165.2.2.2.2.2.2.2.2.2.2.2.2.2.2.2.2.2.2.2.2.2.2.1, rfl⟩
theorem zd_14_84_197 : zz_D zy_groupLoads_14_84 197 (.iaload) 1 198 := ⟨zq_46 zg_14_84_165.2.2.2.2.2.2.2.2.2.2.2.2.2.2.2.2.2.2.2.2.2.2.2, rfl⟩
theorem zg_14_84_198 : zq_at zy_groupLoads_14_84.2.1 198 42 ∧ zq_at zy_groupLoads_14_84.2.1 199 180 ∧ zq_at zy_groupLoads_14_84.2.1 200 1 ∧ zq_at zy_groupLoads_14_84.2.1 201 236 ∧ zq_at zy_groupLoads_14_84.2.1 202 42 ∧ zq_at zy_groupLoads_14_84.2.1 203 180 ∧ zq_at zy_groupLoads_14_84.2.1 204 0 ∧ zq_at zy_groupLoads_14_84.2.1 205 94 ∧ zq_at zy_groupLoads_14_84.2.1 206 21 ∧ zq_at zy_groupLoads_14_84.2.1 207 10 ∧ zq_at zy_groupLoads_14_84.2.1 208 46 ∧ zq_at zy_groupLoads_14_84.2.1 209 104 ∧ zq_at zy_groupLoads_14_84.2.1 210 96 ∧ zq_at zy_groupLoads_14_84.2.1 211 21 ∧ zq_at zy_groupLoads_14_84.2.1 212 4 ∧ zq_at zy_groupLoads_14_84.2.1 213 96 ∧ zq_at zy_groupLoads_14_84.2.1 214 42 ∧ zq_at zy_groupLoads_14_84.2.1 215 180 ∧ zq_at zy_groupLoads_14_84.2.1 216 1 ∧ zq_at zy_groupLoads_14_84.2.1 217 213 ∧ zq_at zy_groupLoads_14_84.2.1 218 21 ∧ zq_at zy_groupLoads_14_84.2.1 219 5 := by decide +kernel
theorem zd_14_84_198 : zz_D zy_groupLoads_14_84 198 (.aload_n 0) 1 199 := ⟨zq_42 zg_14_84_198.1, rfl⟩
theorem zd_14_84_199 : zz_D zy_groupLoads_14_84 199 (.getfield 492) 3 202 := ⟨zq_180 zg_14_84_198.2.1 zg_14_84_198.2.2.1 zg_14_84_198.2.2.2.1 rfl, rfl⟩
theorem zd_14_84_202 : zz_D zy_groupLoads_14_84 202 (.aload_n 0) 1 203 := ⟨zq_42 zg_14_84_198.2.2.2.2.1, rfl⟩
theorem zd_14_84_203 : zz_D zy_groupLoads_14_84 203 (.getfield 94) 3 206 := ⟨zq_180 zg_14_84_198.2.2.2.2.2.1 zg_14_84_198.2.2.2.2.2.2.1 zg_14_84_198.2.2.2.2.2.2.2.1 rfl, rfl⟩
theorem zd_14_84_206 : zz_D zy_groupLoads_14_84 206 (.iload 10) 2 208 := ⟨zq_21 zg_14_84_198.2.2.2.2.2.2.2.2.1 zg_14_84_198.2.2.2.2.2.2.2.2.2.1, rfl⟩
theorem zd_14_84_208 : zz_D zy_groupLoads_14_84 208 (.iaload) 1 209 := ⟨zq_46 zg_14_84_198.2.2.2.2.2.2.2.2.2.2.1, rfl⟩
theorem zd_14_84_209 : zz_D zy_groupLoads_14_84 209 (.imul) 1 210 := ⟨zq_104 zg_14_84_198.2.2.2.2.2.2.2.2.2.2.2.1, rfl⟩
theorem zd_14_84_210 : zz_D zy_groupLoads_14_84 210 (.iadd) 1 211 := ⟨zq_96 zg_14_84_198.2.2.2.2.2.2.2.2.2.2.2.2.1, rfl⟩
theorem zd_14_84_211 : zz_D zy_groupLoads_14_84 211 (.iload 4) 2 213 := ⟨zq_21 zg_14_84_198.2.2.2.2.2.2.2.2.2.2.2.2.2.1 zg_14_84_198.2.2.2.2.2.2.2.2.2.2.2.2.2.2.1, rfl⟩
theorem zd_14_84_213 : zz_D zy_groupLoads_14_84 213 (.iadd) 1 214 := ⟨zq_96 zg_14_84_198.2.2.2.2.2.2.2.2.2.2.2.2.2.2.2.1, rfl⟩
theorem zd_14_84_214 : zz_D zy_groupLoads_14_84 214 (.aload_n 0) 1 215 := ⟨zq_42 zg_14_84_198.2.2.2.2.2.2.2.2.2.2.2.2.2.2.2.2.1, rfl⟩
theorem zd_14_84_215 : zz_D zy_groupLoads_14_84 215 (.getfield 469) 3 218 := ⟨zq_180 zg_14_84_198.2.2.2.2.2.2.2.2.2.2.2.2.2.2.2.2.2.1 zg_14_84_198.2.2.2.2.2.2.2.2.2.2.2.2.2.2.2.2.2.2.1 zg_14_84_198.2.2.2.2.2.2.2.2.2.2.2.2.2.2.2.2.2.2.2.1 rfl, rfl⟩
theorem zd_14_84_218 : zz_D zy_groupLoads_14_84 218 (.iload 5) 2 220 := ⟨zq_21 zg_14_84_198.2.2.2.2.2.2.2.2.2.2.2.2.2.2.2.2.2.2.2.2.1 zg_14_84_198.2.2.2.2.2.2.2.2.2.2.2.2.2.2.2.2.2.2.2.2.2, rfl⟩
theorem zg_14_84_220 : zq_at zy_groupLoads_14_84.2.1 220 182 ∧ zq_at zy_groupLoads_14_84.2.1 221 1 ∧ zq_at zy_groupLoads_14_84.2.1 222 219 ∧ zq_at zy_groupLoads_14_84.2.1 223 42 ∧ zq_at zy_groupLoads_14_84.2.1 224 42 ∧ zq_at zy_groupLoads_14_84.2.1 225 182 ∧ zq_at zy_groupLoads_14_84.2.1 226 1 ∧ zq_at zy_groupLoads_14_84.2.1 227 233 ∧ zq_at zy_groupLoads_14_84.2.1 228 3 ∧ zq_at zy_groupLoads_14_84.2.1 229 42 ∧ zq_at zy_groupLoads_14_84.2.1 230 180 ∧ zq_at zy_groupLoads_14_84.2.1 231 0 ∧ zq_at zy_groupLoads_14_84.2.1 232 94 ∧ zq_at zy_groupLoads_14_84.2.1 233 21 ∧ zq_at zy_groupLoads_14_84.2.1 234 10 ∧ zq_at zy_groupLoads_14_84.2.1 235 46 ∧ zq_at zy_groupLoads_14_84.2.1 236 3 ∧ zq_at zy_groupLoads_14_84.2.1 237 182 ∧ zq_at zy_groupLoads_14_84.2.1 238 1 ∧ zq_at zy_groupLoads_14_84.2.1 239 226 ∧ zq_at zy_groupLoads_14_84.2.1 240 42 ∧ zq_at zy_groupLoads_14_84.2.1 241 21 ∧ zq_at zy_groupLoads_14_84.2.1 242 7 := by decide +kernel
theorem zd_14_84_220 : zz_D zy_groupLoads_14_84 220 (.invokevirtual 475) 3 223 := ⟨zq_182 zg_14_84_220.1 zg_14_84_220.2.1 zg_14_84_220.2.2.1 rfl, rfl⟩
theorem zd_14_84_223 : zz_D zy_groupLoads_14_84 223 (.aload_n 0) 1 224 := ⟨zq_42 zg_14_84_220.2.2.2.1, rfl⟩
theorem zd_14_84_224 : zz_D zy_groupLoads_14_84 224 (.aload_n 0) 1 225 := ⟨zq_42 zg_14_84_220.2.2.2.2.1, rfl⟩
theorem zd_14_84_225 : zz_D zy_groupLoads_14_84 225 (.invokevirtual 489) 3 228 := ⟨zq_182 zg_14_84_220.2.2.2.2.2.1 zg_14_84_220.2.2.2.2.2.2.1 zg_14_84_220.2.2.2.2.2.2.2.1 rfl, rfl⟩
theorem zd_14_84_228 : zz_D zy_groupLoads_14_84 228 (.iconst 0) 1 229 := ⟨zq_3 zg_14_84_220.2.2.2.2.2.2.2.2.1, rfl⟩
theorem zd_14_84_229 : zz_D zy_groupLoads_14_84 229 (.aload_n 0) 1 230 := ⟨zq_42 zg_14_84_220.2.2.2.2.2.2.2.2.2.1, rfl⟩
theorem zd_14_84_230 : zz_D zy_groupLoads_14_84 230 (.getfield 94) 3 233 := ⟨zq_180 zg_14_84_220.2.2.2.2.2.2.2.2.2.2.1 zg_14_84_220.2.2.2.2.2.2.2.2.2.2.2.1 zg_14_84_220.2.2.2.2.2.2.2.2.2.2.2.2.1 rfl, rfl⟩
theorem zd_14_84_233 : zz_D zy_groupLoads_14_84 233 (.iload 10) 2 235 := ⟨zq_21 zg_14_84_220.2.2.2.2.2.2.2.2.2.2.2.2.2.1 zg_14_84_220.2.2.2.2.2.2.2.2.2.2.2.2.2.2.1, rfl⟩
theorem zd_14_84_235 : zz_D zy_groupLoads_14_84 235 (.iaload) 1 236 := ⟨zq_46 zg_14_84_220.2.2.2.2.2.2.2.2.2.2.2.2.2.2.2.1, rfl⟩
theorem zd_14_84_236 : zz_D zy_groupLoads_14_84 236 (.iconst 0) 1 237 := ⟨zq_3 zg_14_84_220.2.2.2.2.2.2.2.2.2.2.2.2.2.2.2.2.1, rfl⟩
theorem zd_14_84_237 : zz_D zy_groupLoads_14_84 237 (.invokevirtual 482) 3 240 := ⟨zq_182 zg_14_84_220.2.2.2.2.2.2.2.2.2.2.2.2.2.2.2.2.2.1 zg_14_84_220.2.2.2.2.2.2.2.2.2.2.2.2.2.2.2.2.2.2.1 zg_14_84_220.2.2.2.2.2.2.2.2.2.2.2.2.2.2.2.2.2.2.2.1 rfl, rfl⟩
theorem zd_14_84_240 : zz_D zy_groupLoads_14_84 240 (.aload_n 0) 1 241 := ⟨zq_42 zg_14_84_220.2.2.2.2.2.2.2.2.2.2.2.2.2.2.2.2.2.2.2.2.1, rfl⟩
theorem zd_14_84_241 : zz_D zy_groupLoads_14_84 241 (.iload 7) 2 243 := ⟨zq_21 zg_14_84_220.2.2.2.2.2.2.2.2.2.2.2.2.2.2.2.2.2.2.2.2.2.1 zg_14_84_220.2.2.2.2.2.2.2.2.2.2.2.2.2.2.2.2.2.2.2.2.2.2, rfl⟩
theorem zg_14_84_243 : zq_at zy_groupLoads_14_84.2.1 243 182 ∧ zq_at zy_groupLoads_14_84.2.1 244 1 ∧ zq_at zy_groupLoads_14_84.2.1 245 229 ∧ zq_at zy_groupLoads_14_84.2.1 246 177 ∧ zq_at zy_groupLoads_14_84.2.1 172 42 ∧ zq_at zy_groupLoads_14_84.2.1 173 180 ∧ zq_at zy_groupLoads_14_84.2.1 174 0 ∧ zq_at zy_groupLoads_14_84.2.1 175 103 ∧ zq_at zy_groupLoads_14_84.2.1 176 27 ∧ zq_at zy_groupLoads_14_84.2.1 177 46 ∧ zq_at zy_groupLoads_14_84.2.1 178 167 ∧ zq_at zy_groupLoads_14_84.2.1 179 0 ∧ zq_at zy_groupLoads_14_84.2.1 180 9 ∧ zq_at zy_groupLoads_14_84.2.1 247 42 ∧ zq_at zy_groupLoads_14_84.2.1 248 180 ∧ zq_at zy_groupLoads_14_84.2.1 249 0 ∧ zq_at zy_groupLoads_14_84.2.1 250 115 ∧ zq_at zy_groupLoads_14_84.2.1 251 27 ∧ zq_at zy_groupLoads_14_84.2.1 252 46 ∧ zq_at zy_groupLoads_14_84.2.1 253 42 ∧ zq_at zy_groupLoads_14_84.2.1 254 180 ∧ zq_at zy_groupLoads_14_84.2.1 255 1 ∧ zq_at zy_groupLoads_14_84.2.1 256 239 ∧ zq_at zy_groupLoads_14_84.2.1 257 104 := by decide +kernel
theorem zd_14_84_243 : zz_D zy_groupLoads_14_84 243 (.invokevirtual 485) 3 246 := ⟨zq_182 zg_14_84_243.1 zg_14_84_243.2.1 zg_14_84_243.2.2.1 rfl, rfl⟩
theorem zd_14_84_246 : zz_D zy_groupLoads_14_84 246 (.return_) 1 247 := ⟨zq_177 zg_14_84_243.2.2.2.1, rfl⟩
theorem zd_14_84_172 : zz_D zy_groupLoads_14_84 172 (.aload_n 0) 1 173 := ⟨zq_42 zg_14_84_243.2.2.2.2.1, rfl⟩
theorem zd_14_84_173 : zz_D zy_groupLoads_14_84 173 (.getfield 103) 3 176 := ⟨zq_180 zg_14_84_243.2.2.2.2.2.1 zg_14_84_243.2.2.2.2.2.2.1 zg_14_84_243.2.2.2.2.2.2.2.1 rfl, rfl⟩
theorem zd_14_84_176 : zz_D zy_groupLoads_14_84 176 (.iload_n 1) 1 177 := ⟨zq_27 zg_14_84_243.2.2.2.2.2.2.2.2.1, rfl⟩
theorem zd_14_84_177 : zz_D zy_groupLoads_14_84 177 (.iaload) 1 178 := ⟨zq_46 zg_14_84_243.2.2.2.2.2.2.2.2.2.1, rfl⟩
theorem zd_14_84_178 : zz_B zy_groupLoads_14_84 178 Instr.goto 187 181 := ⟨9, zq_167 zg_14_84_243.2.2.2.2.2.2.2.2.2.2.1 zg_14_84_243.2.2.2.2.2.2.2.2.2.2.2.1 zg_14_84_243.2.2.2.2.2.2.2.2.2.2.2.2.1 (by decide), rfl, rfl⟩
theorem zd_14_84_247 : zz_D zy_groupLoads_14_84 247 (.aload_n 0) 1 248 := ⟨zq_42 zg_14_84_243.2.2.2.2.2.2.2.2.2.2.2.2.2.1, rfl⟩
theorem zd_14_84_248 : zz_D zy_groupLoads_14_84 248 (.getfield 115) 3 251 := ⟨zq_180 zg_14_84_243.2.2.2.2.2.2.2.2.2.2.2.2.2.2.1 zg_14_84_243.2.2.2.2.2.2.2.2.2.2.2.2.2.2.2.1 zg_14_84_243.2.2.2.2.2.2.2.2.2.2.2.2.2.2.2.2.1 rfl, rfl⟩
theorem zd_14_84_251 : zz_D zy_groupLoads_14_84 251 (.iload_n 1) 1 252 := ⟨zq_27 zg_14_84_243.2.2.2.2.2.2.2.2.2.2.2.2.2.2.2.2.2.1, rfl⟩
theorem zd_14_84_252 : zz_D zy_groupLoads_14_84 252 (.iaload) 1 253 := ⟨zq_46 zg_14_84_243.2.2.2.2.2.2.2.2.2.2.2.2.2.2.2.2.2.2.1, rfl⟩
theorem zd_14_84_253 : zz_D zy_groupLoads_14_84 253 (.aload_n 0) 1 254 := ⟨zq_42 zg_14_84_243.2.2.2.2.2.2.2.2.2.2.2.2.2.2.2.2.2.2.2.1, rfl⟩
theorem zd_14_84_254 : zz_D zy_groupLoads_14_84 254 (.getfield 495) 3 257 := ⟨zq_180 zg_14_84_243.2.2.2.2.2.2.2.2.2.2.2.2.2.2.2.2.2.2.2.2.1 zg_14_84_243.2.2.2.2.2.2.2.2.2.2.2.2.2.2.2.2.2.2.2.2.2.1 zg_14_84_243.2.2.2.2.2.2.2.2.2.2.2.2.2.2.2.2.2.2.2.2.2.2.1 rfl, rfl⟩
theorem zd_14_84_257 : zz_D zy_groupLoads_14_84 257 (.imul) 1 258 := ⟨zq_104 zg_14_84_243.2.2.2.2.2.2.2.2.2.2.2.2.2.2.2.2.2.2.2.2.2.2.2, rfl⟩
theorem zg_14_84_258 : zq_at zy_groupLoads_14_84.2.1 258 28 ∧ zq_at zy_groupLoads_14_84.2.1 259 96 ∧ zq_at zy_groupLoads_14_84.2.1 260 42 ∧ zq_at zy_groupLoads_14_84.2.1 261 180 ∧ zq_at zy_groupLoads_14_84.2.1 262 0 ∧ zq_at zy_groupLoads_14_84.2.1 263 118 ∧ zq_at zy_groupLoads_14_84.2.1 264 27 ∧ zq_at zy_groupLoads_14_84.2.1 265 46 ∧ zq_at zy_groupLoads_14_84.2.1 266 100 ∧ zq_at zy_groupLoads_14_84.2.1 267 54 ∧ zq_at zy_groupLoads_14_84.2.1 268 10 ∧ zq_at zy_groupLoads_14_84.2.1 269 42 ∧ zq_at zy_groupLoads_14_84.2.1 270 180 ∧ zq_at zy_groupLoads_14_84.2.1 271 0 ∧ zq_at zy_groupLoads_14_84.2.1 272 115 ∧ zq_at zy_groupLoads_14_84.2.1 273 27 ∧ zq_at zy_groupLoads_14_84.2.1 274 46 ∧ zq_at zy_groupLoads_14_84.2.1 275 42 ∧ zq_at zy_groupLoads_14_84.2.1 276 180 ∧ zq_at zy_groupLoads_14_84.2.1 277 1 ∧ zq_at zy_groupLoads_14_84.2.1 278 236 ∧ zq_at zy_groupLoads_14_84.2.1 279 104 ∧ zq_at zy_groupLoads_14_84.2.1 280 29 ∧ zq_at zy_groupLoads_14_84.2.1 281 96 := by decide +kernel
theorem zd_14_84_258 : zz_D zy_groupLoads_14_84 258 (.iload_n 2) 1 259 := ⟨zq_28 zg_14_84_258.1, rfl⟩
theorem zd_14_84_259 : zz_D zy_groupLoads_14_84 259 (.iadd) 1 260 := ⟨zq_96 zg_14_84_258.2.1, rfl⟩
theorem zd_14_84_260 : zz_D zy_groupLoads_14_84 260 (.aload_n 0) 1 261 := ⟨zq_42 zg_14_84_258.2.2.1, rfl⟩
theorem zd_14_84_261 : zz_D zy_groupLoads_14_84 261 (.getfield 118) 3 264 := ⟨zq_180 zg_14_84_258.2.2.2.1 zg_14_84_258.2.2.2.2.1 zg_14_84_258.2.2.2.2.2.1 rfl, rfl⟩
theorem zd_14_84_264 : zz_D zy_groupLoads_14_84 264 (.iload_n 1) 1 265 := ⟨zq_27 zg_14_84_258.2.2.2.2.2.2.1, rfl⟩
theorem zd_14_84_265 : zz_D zy_groupLoads_14_84 265 (.iaload) 1 266 := ⟨zq_46 zg_14_84_258.2.2.2.2.2.2.2.1, rfl⟩
theorem zd_14_84_266 : zz_D zy_groupLoads_14_84 266 (.isub) 1 267 := ⟨zq_100 zg_14_84_258.2.2.2.2.2.2.2.2.1, rfl⟩
theorem zd_14_84_267 : zz_D zy_groupLoads_14_84 267 (.istore 10) 2 269 := ⟨zq_54 zg_14_84_258.2.2.2.2.2.2.2.2.2.1 zg_14_84_258.2.2.2.2.2.2.2.2.2.2.1, rfl⟩
theorem zd_14_84_269 : zz_D zy_groupLoads_14_84 269 (.aload_n 0) 1 270 := ⟨zq_42 zg_14_84_258.2.2.2.2.2.2.2.2.2.2.2.1, rfl⟩
theorem zd_14_84_270 : zz_D zy_groupLoads_14_84 270 (.getfield 115) 3 273 := ⟨zq_180 zg_14_84_258.2.2.2.2.2.2.2.2.2.2.2.2.1 zg_14_84_258.2.2.2.2.2.2.2.2.2.2.2.2.2.1 zg_14_84_258.2.2.2.2.2.2.2.2.2.2.2.2.2.2.1 rfl, rfl⟩
theorem zd_14_84_273 : zz_D zy_groupLoads_14_84 273 (.iload_n 1) 1 274 := ⟨zq_27 zg_14_84_258.2.2.2.2.2.2.2.2.2.2.2.2.2.2.2.1, rfl⟩
theorem zd_14_84_274 : zz_D zy_groupLoads_14_84 274 (.iaload) 1 275 := ⟨zq_46 zg_14_84_258.2.2.2.2.2.2.2.2.2.2.2.2.2.2.2.2.1, rfl⟩
theorem zd_14_84_275 : zz_D zy_groupLoads_14_84 275 (.aload_n 0) 1 276 := ⟨zq_42 zg_14_84_258.2.2.2.2.2.2.2.2.2.2.2.2.2.2.2.2.2.1, rfl⟩
theorem zd_14_84_276 : zz_D zy_groupLoads_14_84 276 (.getfield 492) 3 279 := ⟨zq_180 zg_14_84_258.2.2.2.2.2.2.2.2.2.2.2.2.2.2.2.2.2.2.1 zg_14_84_258.2.2.2.2.2.2.2.2.2.2.2.2.2.2.2.2.2.2.2.1 zg_14_84_258.2.2.2.2.2.2.2.2.2.2.2.2.2.2.2.2.2.2.2.2.1 rfl, rfl⟩
theorem zd_14_84_279 : zz_D zy_groupLoads_14_84 279 (.imul) 1 280 := ⟨zq_104 zg_14_84_258.2.2.2.2.2.2.2.2.2.2.2.2.2.2.2.2.2.2.2.2.2.1, rfl⟩
theorem zd_14_84_280 : zz_D zy_groupLoads_14_84 280 (.iload_n 3) 1 281 := ⟨zq_29 zg_14_84_258.2.2.2.2.2.2.2.2.2.2.2.2.2.2.2.2.2.2.2.2.2.2.1, rfl⟩
theorem zd_14_84_281 : zz_D zy_groupLoads_14_84 281 (.iadd) 1 282 := ⟨zq_96 zg_14_84_258.2.2.2.2.2.2.2.2.2.2.2.2.2.2.2.2.2.2.2.2.2.2.2, rfl⟩
theorem zg_14_84_282 : zq_at zy_groupLoads_14_84.2.1 282 42 ∧ zq_at zy_groupLoads_14_84.2.1 283 180 ∧ zq_at zy_groupLoads_14_84.2.1 284 0 ∧ zq_at zy_groupLoads_14_84.2.1 285 118 ∧ zq_at zy_groupLoads_14_84.2.1 286 27 ∧ zq_at zy_groupLoads_14_84.2.1 287 46 ∧ zq_at zy_groupLoads_14_84.2.1 288 100 ∧ zq_at zy_groupLoads_14_84.2.1 289 54 ∧ zq_at zy_groupLoads_14_84.2.1 290 11 ∧ zq_at zy_groupLoads_14_84.2.1 291 3 ∧ zq_at zy_groupLoads_14_84.2.1 292 54 ∧ zq_at zy_groupLoads_14_84.2.1 293 12 ∧ zq_at zy_groupLoads_14_84.2.1 294 3 ∧ zq_at zy_groupLoads_14_84.2.1 295 54 ∧ zq_at zy_groupLoads_14_84.2.1 296 13 ∧ zq_at zy_groupLoads_14_84.2.1 297 3 ∧ zq_at zy_groupLoads_14_84.2.1 298 54 ∧ zq_at zy_groupLoads_14_84.2.1 299 14 ∧ zq_at zy_groupLoads_14_84.2.1 300 21 ∧ zq_at zy_groupLoads_14_84.2.1 301 14 ∧ zq_at zy_groupLoads_14_84.2.1 302 42 ∧ zq_at zy_groupLoads_14_84.2.1 303 180 ∧ zq_at zy_groupLoads_14_84.2.1 304 1 ∧ zq_at zy_groupLoads_14_84.2.1 305 213 := by decide +kernel
theorem zd_14_84_282 : zz_D zy_groupLoads_14_84 282 (.aload_n 0) 1 283 := ⟨zq_42 zg_14_84_282.1, rfl⟩
theorem zd_14_84_283 : zz_D zy_groupLoads_14_84 283 (.getfield 118) 3 286 := ⟨zq_180 zg_14_84_282.2.1 zg_14_84_282.2.2.1 zg_14_84_282.2.2.2.1 rfl, rfl⟩
theorem zd_14_84_286 : zz_D zy_groupLoads_14_84 286 (.iload_n 1) 1 287 := ⟨zq_27 zg_14_84_282.2.2.2.2.1, rfl⟩
theorem zd_14_84_287 : zz_D zy_groupLoads_14_84 287 (.iaload) 1 288 := ⟨zq_46 zg_14_84_282.2.2.2.2.2.1, rfl⟩
theorem zd_14_84_288 : zz_D zy_groupLoads_14_84 288 (.isub) 1 289 := ⟨zq_100 zg_14_84_282.2.2.2.2.2.2.1, rfl⟩
theorem zd_14_84_289 : zz_D zy_groupLoads_14_84 289 (.istore 11) 2 291 := ⟨zq_54 zg_14_84_282.2.2.2.2.2.2.2.1 zg_14_84_282.2.2.2.2.2.2.2.2.1, rfl⟩
theorem zd_14_84_291 : zz_D zy_groupLoads_14_84 291 (.iconst 0) 1 292 := ⟨zq_3 zg_14_84_282.2.2.2.2.2.2.2.2.2.1, rfl⟩
theorem zd_14_84_292 : zz_D zy_groupLoads_14_84 292 (.istore 12) 2 294 := ⟨zq_54 zg_14_84_282.2.2.2.2.2.2.2.2.2.2.1 zg_14_84_282.2.2.2.2.2.2.2.2.2.2.2.1, rfl⟩
theorem zd_14_84_294 : zz_D zy_groupLoads_14_84 294 (.iconst 0) 1 295 := ⟨zq_3 zg_14_84_282.2.2.2.2.2.2.2.2.2.2.2.2.1, rfl⟩
theorem zd_14_84_295 : zz_D zy_groupLoads_14_84 295 (.istore 13) 2 297 := ⟨zq_54 zg_14_84_282.2.2.2.2.2.2.2.2.2.2.2.2.2.1 zg_14_84_282.2.2.2.2.2.2.2.2.2.2.2.2.2.2.1, rfl⟩
theorem zd_14_84_297 : zz_D zy_groupLoads_14_84 297 (.iconst 0) 1 298 := ⟨zq_3 zg_14_84_282.2.2.2.2.2.2.2.2.2.2.2.2.2.2.2.1, rfl⟩
theorem zd_14_84_298 : zz_D zy_groupLoads_14_84 298 (.istore 14) 2 300 := ⟨zq_54 zg_14_84_282.2.2.2.2.2.2.2.2.2.2.2.2.2.2.2.2.1 zg_14_84_282.2.2.2.2.2.2.2.2.2.2.2.2.2.2.2.2.2.1, rfl⟩
theorem zd_14_84_300 : zz_D zy_groupLoads_14_84 300 (.iload 14) 2 302 := ⟨zq_21 zg_14_84_282.2.2.2.2.2.2.2.2.2.2.2.2.2.2.2.2.2.2.1 zg_14_84_282.2.2.2.2.2.2.2.2.2.2.2.2.2.2.2.2.2.2.2.1, rfl⟩
theorem zd_14_84_302 : zz_D zy_groupLoads_14_84 302 (.aload_n 0) 1 303 := ⟨zq_42 zg_14_84_282.2.2.2.2.2.2.2.2.2.2.2.2.2.2.2.2.2.2.2.2.1, rfl⟩
theorem zd_14_84_303 : zz_D zy_groupLoads_14_84 303 (.getfield 469) 3 306 := ⟨zq_180 zg_14_84_282.2.2.2.2.2.2.2.2.2.2.2.2.2.2.2.2.2.2.2.2.2.1 zg_14_84_282.2.2.2.2.2.2.2.2.2.2.2.2.2.2.2.2.2.2.2.2.2.2.1 zg_14_84_282.2.2.2.2.2.2.2.2.2.2.2.2.2.2.2.2.2.2.2.2.2.2.2 rfl, rfl⟩
theorem zg_14_84_306 : zq_at zy_groupLoads_14_84.2.1 306 162 ∧ zq_at zy_groupLoads_14_84.2.1 307 0 ∧ zq_at zy_groupLoads_14_84.2.1 308 72 ∧ zq_at zy_groupLoads_14_84.2.1 309 21 ∧ zq_at zy_groupLoads_14_84.2.1 310 11 ∧ zq_at zy_groupLoads_14_84.2.1 311 42 ∧ zq_at zy_groupLoads_14_84.2.1 312 180 ∧ zq_at zy_groupLoads_14_84.2.1 313 0 ∧ zq_at zy_groupLoads_14_84.2.1 314 115 ∧ zq_at zy_groupLoads_14_84.2.1 315 27 ∧ zq_at zy_groupLoads_14_84.2.1 316 46 ∧ zq_at zy_groupLoads_14_84.2.1 317 21 ∧ zq_at zy_groupLoads_14_84.2.1 318 14 ∧ zq_at zy_groupLoads_14_84.2.1 319 104 ∧ zq_at zy_groupLoads_14_84.2.1 320 96 ∧ zq_at zy_groupLoads_14_84.2.1 321 54 ∧ zq_at zy_groupLoads_14_84.2.1 322 15 ∧ zq_at zy_groupLoads_14_84.2.1 323 42 ∧ zq_at zy_groupLoads_14_84.2.1 324 21 ∧ zq_at zy_groupLoads_14_84.2.1 325 8 ∧ zq_at zy_groupLoads_14_84.2.1 326 21 ∧ zq_at zy_groupLoads_14_84.2.1 327 10 ∧ zq_at zy_groupLoads_14_84.2.1 328 21 ∧ zq_at zy_groupLoads_14_84.2.1 329 15 := by decide +kernel
theorem zd_14_84_306 : zz_B zy_groupLoads_14_84 306 (Instr.if_icmp .ge) 378 309 := ⟨72, zq_162 zg_14_84_306.1 zg_14_84_306.2.1 zg_14_84_306.2.2.1 (by decide), rfl, rfl⟩
theorem zd_14_84_309 : zz_D zy_groupLoads_14_84 309 (.iload 11) 2 311 := ⟨zq_21 zg_14_84_306.2.2.2.1 zg_14_84_306.2.2.2.2.1, rfl⟩
theorem zd_14_84_311 : zz_D zy_groupLoads_14_84 311 (.aload_n 0) 1 312 := ⟨zq_42 zg_14_84_306.2.2.2.2.2.1, rfl⟩
theorem zd_14_84_312 : zz_D zy_groupLoads_14_84 312 (.getfield 115) 3 315 := ⟨zq_180 zg_14_84_306.2.2.2.2.2.2.1 zg_14_84_306.2.2.2.2.2.2.2.1 zg_14_84_306.2.2.2.2.2.2.2.2.1 rfl, rfl⟩
theorem zd_14_84_315 : zz_D zy_groupLoads_14_84 315 (.iload_n 1) 1 316 := ⟨zq_27 zg_14_84_306.2.2.2.2.2.2.2.2.2.1, rfl⟩
theorem zd_14_84_316 : zz_D zy_groupLoads_14_84 316 (.iaload) 1 317 := ⟨zq_46 zg_14_84_306.2.2.2.2.2.2.2.2.2.2.1, rfl⟩
theorem zd_14_84_317 : zz_D zy_groupLoads_14_84 317 (.iload 14) 2 319 := ⟨zq_21 zg_14_84_306.2.2.2.2.2.2.2.2.2.2.2.1 zg_14_84_306.2.2.2.2.2.2.2.2.2.2.2.2.1, rfl⟩
theorem zd_14_84_319 : zz_D zy_groupLoads_14_84 319 (.imul) 1 320 := ⟨zq_104 zg_14_84_306.2.2.2.2.2.2.2.2.2.2.2.2.2.1, rfl⟩
theorem zd_14_84_320 : zz_D zy_groupLoads_14_84 320 (.iadd) 1 321 := ⟨zq_96 zg_14_84_306.2.2.2.2.2.2.2.2.2.2.2.2.2.2.1, rfl⟩
theorem zd_14_84_321 : zz_D zy_groupLoads_14_84 321 (.istore 15) 2 323 := ⟨zq_54 zg_14_84_306.2.2.2.2.2.2.2.2.2.2.2.2.2.2.2.1 zg_14_84_306.2.2.2.2.2.2.2.2.2.2.2.2.2.2.2.2.1, rfl⟩
theorem zd_14_84_323 : zz_D zy_groupLoads_14_84 323 (.aload_n 0) 1 324 := ⟨zq_42 zg_14_84_306.2.2.2.2.2.2.2.2.2.2.2.2.2.2.2.2.2.1, rfl⟩
theorem zd_14_84_324 : zz_D zy_groupLoads_14_84 324 (.iload 8) 2 326 := ⟨zq_21 zg_14_84_306.2.2.2.2.2.2.2.2.2.2.2.2.2.2.2.2.2.2.1 zg_14_84_306.2.2.2.2.2.2.2.2.2.2.2.2.2.2.2.2.2.2.2.1, rfl⟩
theorem zd_14_84_326 : zz_D zy_groupLoads_14_84 326 (.iload 10) 2 328 := ⟨zq_21 zg_14_84_306.2.2.2.2.2.2.2.2.2.2.2.2.2.2.2.2.2.2.2.2.1 zg_14_84_306.2.2.2.2.2.2.2.2.2.2.2.2.2.2.2.2.2.2.2.2.2.1, rfl⟩
theorem zd_14_84_328 : zz_D zy_groupLoads_14_84 328 (.iload 15) 2 330 := ⟨zq_21 zg_14_84_306.2.2.2.2.2.2.2.2.2.2.2.2.2.2.2.2.2.2.2.2.2.2.1 zg_14_84_306.2.2.2.2.2.2.2.2.2.2.2.2.2.2.2.2.2.2.2.2.2.2.2, rfl⟩
theorem zg_14_84_330 : zq_at zy_groupLoads_14_84.2.1 330 182 ∧ zq_at zy_groupLoads_14_84.2.1 331 1 ∧ zq_at zy_groupLoads_14_84.2.1 332 178 ∧ zq_at zy_groupLoads_14_84.2.1 333 54 ∧ zq_at zy_groupLoads_14_84.2.1 334 16 ∧ zq_at zy_groupLoads_14_84.2.1 335 21 ∧ zq_at zy_groupLoads_14_84.2.1 336 16 ∧ zq_at zy_groupLoads_14_84.2.1 337 153 ∧ zq_at zy_groupLoads_14_84.2.1 338 0 ∧ zq_at zy_groupLoads_14_84.2.1 339 10 ∧ zq_at zy_groupLoads_14_84.2.1 347 21 ∧ zq_at zy_groupLoads_14_84.2.1 348 13 ∧ zq_at zy_groupLoads_14_84.2.1 349 54 ∧ zq_at zy_groupLoads_14_84.2.1 350 13 ∧ zq_at zy_groupLoads_14_84.2.1 351 21 ∧ zq_at zy_groupLoads_14_84.2.1 352 16 ∧ zq_at zy_groupLoads_14_84.2.1 353 154 ∧ zq_at zy_groupLoads_14_84.2.1 354 0 ∧ zq_at zy_groupLoads_14_84.2.1 355 15 ∧ zq_at zy_groupLoads_14_84.2.1 356 21 ∧ zq_at zy_groupLoads_14_84.2.1 357 13 ∧ zq_at zy_groupLoads_14_84.2.1 358 154 ∧ zq_at zy_groupLoads_14_84.2.1 359 0 ∧ zq_at zy_groupLoads_14_84.2.1 360 10 := by decide +kernel
theorem zd_14_84_330 : zz_D zy_groupLoads_14_84 330 (.invokevirtual 434) 3 333 := ⟨zq_182 zg_14_84_330.1 zg_14_84_330.2.1 zg_14_84_330.2.2.1 rfl, rfl⟩
theorem zd_14_84_333 : zz_D zy_groupLoads_14_84 333 (.istore 16) 2 335 := ⟨zq_54 zg_14_84_330.2.2.2.1 zg_14_84_330.2.2.2.2.1, rfl⟩
theorem zd_14_84_335 : zz_D zy_groupLoads_14_84 335 (.iload 16) 2 337 := ⟨zq_21 zg_14_84_330.2.2.2.2.2.1 zg_14_84_330.2.2.2.2.2.2.1, rfl⟩
theorem zd_14_84_337 : zz_B zy_groupLoads_14_84 337 (Instr.ifCond .eq) 347 340 := ⟨10, zq_153 zg_14_84_330.2.2.2.2.2.2.2.1 zg_14_84_330.2.2.2.2.2.2.2.2.1 zg_14_84_330.2.2.2.2.2.2.2.2.2.1 (by decide), rfl, rfl⟩
theorem zd_14_84_347 : zz_D zy_groupLoads_14_84 347 (.iload 13) 2 349 := ⟨zq_21 zg_14_84_330.2.2.2.2.2.2.2.2.2.2.1 zg_14_84_330.2.2.2.2.2.2.2.2.2.2.2.1, rfl⟩
theorem zd_14_84_349 : zz_D zy_groupLoads_14_84 349 (.istore 13) 2 351 := ⟨zq_54 zg_14_84_330.2.2.2.2.2.2.2.2.2.2.2.2.1 zg_14_84_330.2.2.2.2.2.2.2.2.2.2.2.2.2.1, rfl⟩
theorem zd_14_84_351 : zz_D zy_groupLoads_14_84 351 (.iload 16) 2 353 := ⟨zq_21 zg_14_84_330.2.2.2.2.2.2.2.2.2.2.2.2.2.2.1 zg_14_84_330.2.2.2.2.2.2.2.2.2.2.2.2.2.2.2.1, rfl⟩
theorem zd_14_84_353 : zz_B zy_groupLoads_14_84 353 (Instr.ifCond .ne) 368 356 := ⟨15, zq_154 zg_14_84_330.2.2.2.2.2.2.2.2.2.2.2.2.2.2.2.2.1 zg_14_84_330.2.2.2.2.2.2.2.2.2.2.2.2.2.2.2.2.2.1 zg_14_84_330.2.2.2.2.2.2.2.2.2.2.2.2.2.2.2.2.2.2.1 (by decide), rfl, rfl⟩
theorem zd_14_84_356 : zz_D zy_groupLoads_14_84 356 (.iload 13) 2 358 := ⟨zq_21 zg_14_84_330.2.2.2.2.2.2.2.2.2.2.2.2.2.2.2.2.2.2.2.1 zg_14_84_330.2.2.2.2.2.2.2.2.2.2.2.2.2.2.2.2.2.2.2.2.1, rfl⟩
theorem zd_14_84_358 : zz_B zy_groupLoads_14_84 358 (Instr.ifCond .ne) 368 361 := ⟨10, zq_154 zg_14_84_330.2.2.2.2.2.2.2.2.2.2.2.2.2.2.2.2.2.2.2.2.2.1 zg_14_84_330.2.2.2.2.2.2.2.2.2.2.2.2.2.2.2.2.2.2.2.2.2.2.1 zg_14_84_330.2.2.2.2.2.2.2.2.2.2.2.2.2.2.2.2.2.2.2.2.2.2.2 (by decide), rfl, rfl⟩
theorem zg_14_84_361 : zq_at zy_groupLoads_14_84.2.1 361 21 ∧ zq_at zy_groupLoads_14_84.2.1 362 12 ∧ zq_at zy_groupLoads_14_84.2.1 363 4 ∧ zq_at zy_groupLoads_14_84.2.1 364 96 ∧ zq_at zy_groupLoads_14_84.2.1 365 167 ∧ zq_at zy_groupLoads_14_84.2.1 366 0 ∧ zq_at zy_groupLoads_14_84.2.1 367 5 ∧ zq_at zy_groupLoads_14_84.2.1 370 54 ∧ zq_at zy_groupLoads_14_84.2.1 371 12 ∧ zq_at zy_groupLoads_14_84.2.1 372 132 ∧ zq_at zy_groupLoads_14_84.2.1 373 14 ∧ zq_at zy_groupLoads_14_84.2.1 374 1 ∧ zq_at zy_groupLoads_14_84.2.1 375 167 ∧ zq_at zy_groupLoads_14_84.2.1 376 255 ∧ zq_at zy_groupLoads_14_84.2.1 377 181 ∧ zq_at zy_groupLoads_14_84.2.1 340 21 ∧ zq_at zy_groupLoads_14_84.2.1 341 13 ∧ zq_at zy_groupLoads_14_84.2.1 342 4 ∧ zq_at zy_groupLoads_14_84.2.1 343 96 ∧ zq_at zy_groupLoads_14_84.2.1 344 167 ∧ zq_at zy_groupLoads_14_84.2.1 345 0 ∧ zq_at zy_groupLoads_14_84.2.1 346 5 ∧ zq_at zy_groupLoads_14_84.2.1 368 21 ∧ zq_at zy_groupLoads_14_84.2.1 369 12 := by decide +kernel
theorem zd_14_84_361 : zz_D zy_groupLoads_14_84 361 (.iload 12) 2 363 := ⟨zq_21 zg_14_84_361.1 zg_14_84_361.2.1, rfl⟩
theorem zd_14_84_363 : zz_D zy_groupLoads_14_84 363 (.iconst 1) 1 364 := ⟨zq_4 zg_14_84_361.2.2.1, rfl⟩
theorem zd_14_84_364 : zz_D zy_groupLoads_14_84 364 (.iadd) 1 365 := ⟨zq_96 zg_14_84_361.2.2.2.1, rfl⟩
theorem zd_14_84_365 : zz_B zy_groupLoads_14_84 365 Instr.goto 370 368 := ⟨5, zq_167 zg_14_84_361.2.2.2.2.1 zg_14_84_361.2.2.2.2.2.1 zg_14_84_361.2.2.2.2.2.2.1 (by decide), rfl, rfl⟩
theorem zd_14_84_370 : zz_D zy_groupLoads_14_84 370 (.istore 12) 2 372 := ⟨zq_54 zg_14_84_361.2.2.2.2.2.2.2.1 zg_14_84_361.2.2.2.2.2.2.2.2.1, rfl⟩
theorem zd_14_84_372 : zz_D zy_groupLoads_14_84 372 (.iinc 14 1) 3 375 := ⟨zq_132 zg_14_84_361.2.2.2.2.2.2.2.2.2.1 zg_14_84_361.2.2.2.2.2.2.2.2.2.2.1 zg_14_84_361.2.2.2.2.2.2.2.2.2.2.2.1 (by decide), rfl⟩
theorem zd_14_84_375 : zz_B zy_groupLoads_14_84 375 Instr.goto 300 378 := ⟨(-75), zq_167 zg_14_84_361.2.2.2.2.2.2.2.2.2.2.2.2.1 zg_14_84_361.2.2.2.2.2.2.2.2.2.2.2.2.2.1 zg_14_84_361.2.2.2.2.2.2.2.2.2.2.2.2.2.2.1 (by decide), rfl, rfl⟩
theorem zd_14_84_340 : zz_D zy_groupLoads_14_84 340 (.iload 13) 2 342 := ⟨zq_21 zg_14_84_361.2.2.2.2.2.2.2.2.2.2.2.2.2.2.2.1 zg_14_84_361.2.2.2.2.2.2.2.2.2.2.2.2.2.2.2.2.1, rfl⟩
theorem zd_14_84_342 : zz_D zy_groupLoads_14_84 342 (.iconst 1) 1 343 := ⟨zq_4 zg_14_84_361.2.2.2.2.2.2.2.2.2.2.2.2.2.2.2.2.2.1, rfl⟩
theorem zd_14_84_343 : zz_D zy_groupLoads_14_84 343 (.iadd) 1 344 := ⟨zq_96 zg_14_84_361.2.2.2.2.2.2.2.2.2.2.2.2.2.2.2.2.2.2.1, rfl⟩
theorem zd_14_84_344 : zz_B zy_groupLoads_14_84 344 Instr.goto 349 347 := ⟨5, zq_167 zg_14_84_361.2.2.2.2.2.2.2.2.2.2.2.2.2.2.2.2.2.2.2.1 zg_14_84_361.2.2.2.2.2.2.2.2.2.2.2.2.2.2.2.2.2.2.2.2.1 zg_14_84_361.2.2.2.2.2.2.2.2.2.2.2.2.2.2.2.2.2.2.2.2.2.1 (by decide), rfl, rfl⟩
theorem zd_14_84_368 : zz_D zy_groupLoads_14_84 368 (.iload 12) 2 370 := ⟨zq_21 zg_14_84_361.2.2.2.2.2.2.2.2.2.2.2.2.2.2.2.2.2.2.2.2.2.2.1 zg_14_84_361.2.2.2.2.2.2.2.2.2.2.2.2.2.2.2.2.2.2.2.2.2.2.2, rfl⟩
theorem zg_14_84_378 : zq_at zy_groupLoads_14_84.2.1 378 21 ∧ zq_at zy_groupLoads_14_84.2.1 379 13 ∧ zq_at zy_groupLoads_14_84.2.1 380 154 ∧ zq_at zy_groupLoads_14_84.2.1 381 0 ∧ zq_at zy_groupLoads_14_84.2.1 382 7 ∧ zq_at zy_groupLoads_14_84.2.1 383 4 ∧ zq_at zy_groupLoads_14_84.2.1 384 167 ∧ zq_at zy_groupLoads_14_84.2.1 385 0 ∧ zq_at zy_groupLoads_14_84.2.1 386 4 ∧ zq_at zy_groupLoads_14_84.2.1 388 54 ∧ zq_at zy_groupLoads_14_84.2.1 389 14 ∧ zq_at zy_groupLoads_14_84.2.1 390 21 ∧ zq_at zy_groupLoads_14_84.2.1 391 12 ∧ zq_at zy_groupLoads_14_84.2.1 392 158 ∧ zq_at zy_groupLoads_14_84.2.1 393 0 ∧ zq_at zy_groupLoads_14_84.2.1 394 30 ∧ zq_at zy_groupLoads_14_84.2.1 422 21 ∧ zq_at zy_groupLoads_14_84.2.1 423 14 ∧ zq_at zy_groupLoads_14_84.2.1 424 154 ∧ zq_at zy_groupLoads_14_84.2.1 425 0 ∧ zq_at zy_groupLoads_14_84.2.1 426 150 ∧ zq_at zy_groupLoads_14_84.2.1 574 177 ∧ zq_at zy_groupLoads_14_84.2.1 427 42 ∧ zq_at zy_groupLoads_14_84.2.1 428 4 := by decide +kernel
theorem zd_14_84_378 : zz_D zy_groupLoads_14_84 378 (.iload 13) 2 380 := ⟨zq_21 zg_14_84_378.1 zg_14_84_378.2.1, rfl⟩
theorem zd_14_84_380 : zz_B zy_groupLoads_14_84 380 (Instr.ifCond .ne) 387 383 := ⟨7, zq_154 zg_14_84_378.2.2.1 zg_14_84_378.2.2.2.1 zg_14_84_378.2.2.2.2.1 (by decide), rfl, rfl⟩
theorem zd_14_84_383 : zz_D zy_groupLoads_14_84 383 (.iconst 1) 1 384 := ⟨zq_4 zg_14_84_378.2.2.2.2.2.1, rfl⟩
theorem zd_14_84_384 : zz_B zy_groupLoads_14_84 384 Instr.goto 388 387 := ⟨4, zq_167 zg_14_84_378.2.2.2.2.2.2.1 zg_14_84_378.2.2.2.2.2.2.2.1 zg_14_84_378.2.2.2.2.2.2.2.2.1 (by decide), rfl, rfl⟩
theorem zd_14_84_388 : zz_D zy_groupLoads_14_84 388 (.istore 14) 2 390 := ⟨zq_54 zg_14_84_378.2.2.2.2.2.2.2.2.2.1 zg_14_84_378.2.2.2.2.2.2.2.2.2.2.1, rfl⟩
theorem zd_14_84_390 : zz_D zy_groupLoads_14_84 390 (.iload 12) 2 392 := ⟨zq_21 zg_14_84_378.2.2.2.2.2.2.2.2.2.2.2.1 zg_14_84_378.2.2.2.2.2.2.2.2.2.2.2.2.1, rfl⟩
theorem zd_14_84_392 : zz_B zy_groupLoads_14_84 392 (Instr.ifCond .le) 422 395 := ⟨30, zq_158 zg_14_84_378.2.2.2.2.2.2.2.2.2.2.2.2.2.1 zg_14_84_378.2.2.2.2.2.2.2.2.2.2.2.2.2.2.1 zg_14_84_378.2.2.2.2.2.2.2.2.2.2.2.2.2.2.2.1 (by decide), rfl, rfl⟩
theorem zd_14_84_422 : zz_D zy_groupLoads_14_84 422 (.iload 14) 2 424 := ⟨zq_21 zg_14_84_378.2.2.2.2.2.2.2.2.2.2.2.2.2.2.2.2.1 zg_14_84_378.2.2.2.2.2.2.2.2.2.2.2.2.2.2.2.2.2.1, rfl⟩
theorem zd_14_84_424 : zz_B zy_groupLoads_14_84 424 (Instr.ifCond .ne) 574 427 := ⟨150, zq_154 zg_14_84_378.2.2.2.2.2.2.2.2.2.2.2.2.2.2.2.2.2.2.1 zg_14_84_378.2.2.2.2.2.2.2.2.2.2.2.2.2.2.2.2.2.2.2.1 zg_14_84_378.2.2.2.2.2.2.2.2.2.2.2.2.2.2.2.2.2.2.2.2.1 (by decide), rfl, rfl⟩
theorem zd_14_84_574 : zz_D zy_groupLoads_14_84 574 (.return_) 1 575 := ⟨zq_177 zg_14_84_378.2.2.2.2.2.2.2.2.2.2.2.2.2.2.2.2.2.2.2.2.2.1, rfl⟩
theorem zd_14_84_427 : zz_D zy_groupLoads_14_84 427 (.aload_n 0) 1 428 := ⟨zq_42 zg_14_84_378.2.2.2.2.2.2.2.2.2.2.2.2.2.2.2.2.2.2.2.2.2.2.1, rfl⟩
theorem zd_14_84_428 : zz_D zy_groupLoads_14_84 428 (.iconst 1) 1 429 := ⟨zq_4 zg_14_84_378.2.2.2.2.2.2.2.2.2.2.2.2.2.2.2.2.2.2.2.2.2.2.2, rfl⟩
theorem zg_14_84_429 : zq_at zy_groupLoads_14_84.2.1 429 42 ∧ zq_at zy_groupLoads_14_84.2.1 430 180 ∧ zq_at zy_groupLoads_14_84.2.1 431 0 ∧ zq_at zy_groupLoads_14_84.2.1 432 97 ∧ zq_at zy_groupLoads_14_84.2.1 433 21 ∧ zq_at zy_groupLoads_14_84.2.1 434 8 ∧ zq_at zy_groupLoads_14_84.2.1 435 46 ∧ zq_at zy_groupLoads_14_84.2.1 436 21 ∧ zq_at zy_groupLoads_14_84.2.1 437 10 ∧ zq_at zy_groupLoads_14_84.2.1 438 42 ∧ zq_at zy_groupLoads_14_84.2.1 439 180 ∧ zq_at zy_groupLoads_14_84.2.1 440 0 ∧ zq_at zy_groupLoads_14_84.2.1 441 91 ∧ zq_at zy_groupLoads_14_84.2.1 442 21 ∧ zq_at zy_groupLoads_14_84.2.1 443 8 ∧ zq_at zy_groupLoads_14_84.2.1 444 46 ∧ zq_at zy_groupLoads_14_84.2.1 445 104 ∧ zq_at zy_groupLoads_14_84.2.1 446 21 ∧ zq_at zy_groupLoads_14_84.2.1 447 11 ∧ zq_at zy_groupLoads_14_84.2.1 448 96 ∧ zq_at zy_groupLoads_14_84.2.1 449 42 ∧ zq_at zy_groupLoads_14_84.2.1 450 180 ∧ zq_at zy_groupLoads_14_84.2.1 451 0 ∧ zq_at zy_groupLoads_14_84.2.1 452 115 := by decide +kernel
theorem zd_14_84_429 : zz_D zy_groupLoads_14_84 429 (.aload_n 0) 1 430 := ⟨zq_42 zg_14_84_429.1, rfl⟩
theorem zd_14_84_430 : zz_D zy_groupLoads_14_84 430 (.getfield 97) 3 433 := ⟨zq_180 zg_14_84_429.2.1 zg_14_84_429.2.2.1 zg_14_84_429.2.2.2.1 rfl, rfl⟩
theorem zd_14_84_433 : zz_D zy_groupLoads_14_84 433 (.iload 8) 2 435 := ⟨zq_21 zg_14_84_429.2.2.2.2.1 zg_14_84_429.2.2.2.2.2.1, rfl⟩
theorem zd_14_84_435 : zz_D zy_groupLoads_14_84 435 (.iaload) 1 436 := ⟨zq_46 zg_14_84_429.2.2.2.2.2.2.1, rfl⟩
theorem zd_14_84_436 : zz_D zy_groupLoads_14_84 436 (.iload 10) 2 438 := ⟨zq_21 zg_14_84_429.2.2.2.2.2.2.2.1 zg_14_84_429.2.2.2.2.2.2.2.2.1, rfl⟩
theorem zd_14_84_438 : zz_D zy_groupLoads_14_84 438 (.aload_n 0) 1 439 := ⟨zq_42 zg_14_84_429.2.2.2.2.2.2.2.2.2.1, rfl⟩
theorem zd_14_84_439 : zz_D zy_groupLoads_14_84 439 (.getfield 91) 3 442 := ⟨zq_180 zg_14_84_429.2.2.2.2.2.2.2.2.2.2.1 zg_14_84_429.2.2.2.2.2.2.2.2.2.2.2.1 zg_14_84_429.2.2.2.2.2.2.2.2.2.2.2.2.1 rfl, rfl⟩
theorem zd_14_84_442 : zz_D zy_groupLoads_14_84 442 (.iload 8) 2 444 := ⟨zq_21 zg_14_84_429.2.2.2.2.2.2.2.2.2.2.2.2.2.1 zg_14_84_429.2.2.2.2.2.2.2.2.2.2.2.2.2.2.1, rfl⟩
theorem zd_14_84_444 : zz_D zy_groupLoads_14_84 444 (.iaload) 1 445 := ⟨zq_46 zg_14_84_429.2.2.2.2.2.2.2.2.2.2.2.2.2.2.2.1, rfl⟩
theorem zd_14_84_445 : zz_D zy_groupLoads_14_84 445 (.imul) 1 446 := ⟨zq_104 zg_14_84_429.2.2.2.2.2.2.2.2.2.2.2.2.2.2.2.2.1, rfl⟩
theorem zd_14_84_446 : zz_D zy_groupLoads_14_84 446 (.iload 11) 2 448 := ⟨zq_21 zg_14_84_429.2.2.2.2.2.2.2.2.2.2.2.2.2.2.2.2.2.1 zg_14_84_429.2.2.2.2.2.2.2.2.2.2.2.2.2.2.2.2.2.2.1, rfl⟩
theorem zd_14_84_448 : zz_D zy_groupLoads_14_84 448 (.iadd) 1 449 := ⟨zq_96 zg_14_84_429.2.2.2.2.2.2.2.2.2.2.2.2.2.2.2.2.2.2.2.1, rfl⟩
theorem zd_14_84_449 : zz_D zy_groupLoads_14_84 449 (.aload_n 0) 1 450 := ⟨zq_42 zg_14_84_429.2.2.2.2.2.2.2.2.2.2.2.2.2.2.2.2.2.2.2.2.1, rfl⟩
theorem zd_14_84_450 : zz_D zy_groupLoads_14_84 450 (.getfield 115) 3 453 := ⟨zq_180 zg_14_84_429.2.2.2.2.2.2.2.2.2.2.2.2.2.2.2.2.2.2.2.2.2.1 zg_14_84_429.2.2.2.2.2.2.2.2.2.2.2.2.2.2.2.2.2.2.2.2.2.2.1 zg_14_84_429.2.2.2.2.2.2.2.2.2.2.2.2.2.2.2.2.2.2.2.2.2.2.2 rfl, rfl⟩
theorem zg_14_84_453 : zq_at zy_groupLoads_14_84.2.1 453 27 ∧ zq_at zy_groupLoads_14_84.2.1 454 46 ∧ zq_at zy_groupLoads_14_84.2.1 455 21 ∧ zq_at zy_groupLoads_14_84.2.1 456 12 ∧ zq_at zy_groupLoads_14_84.2.1 457 104 ∧ zq_at zy_groupLoads_14_84.2.1 458 96 ∧ zq_at zy_groupLoads_14_84.2.1 459 42 ∧ zq_at zy_groupLoads_14_84.2.1 460 180 ∧ zq_at zy_groupLoads_14_84.2.1 461 0 ∧ zq_at zy_groupLoads_14_84.2.1 462 94 ∧ zq_at zy_groupLoads_14_84.2.1 463 21 ∧ zq_at zy_groupLoads_14_84.2.1 464 8 ∧ zq_at zy_groupLoads_14_84.2.1 465 46 ∧ zq_at zy_groupLoads_14_84.2.1 466 104 ∧ zq_at zy_groupLoads_14_84.2.1 467 96 ∧ zq_at zy_groupLoads_14_84.2.1 468 21 ∧ zq_at zy_groupLoads_14_84.2.1 469 4 ∧ zq_at zy_groupLoads_14_84.2.1 470 96 ∧ zq_at zy_groupLoads_14_84.2.1 471 21 ∧ zq_at zy_groupLoads_14_84.2.1 472 13 ∧ zq_at zy_groupLoads_14_84.2.1 473 21 ∧ zq_at zy_groupLoads_14_84.2.1 474 5 := by decide +kernel
theorem zd_14_84_453 : zz_D zy_groupLoads_14_84 453 (.iload_n 1) 1 454 := ⟨zq_27 zg_14_84_453.1, rfl⟩
theorem zd_14_84_454 : zz_D zy_groupLoads_14_84 454 (.iaload) 1 455 := ⟨zq_46 zg_14_84_453.2.1, rfl⟩
theorem zd_14_84_455 : zz_D zy_groupLoads_14_84 455 (.iload 12) 2 457 := ⟨zq_21 zg_14_84_453.2.2.1 zg_14_84_453.2.2.2.1, rfl⟩
theorem zd_14_84_457 : zz_D zy_groupLoads_14_84 457 (.imul) 1 458 := ⟨zq_104 zg_14_84_453.2.2.2.2.1, rfl⟩
theorem zd_14_84_458 : zz_D zy_groupLoads_14_84 458 (.iadd) 1 459 := ⟨zq_96 zg_14_84_453.2.2.2.2.2.1, rfl⟩
theorem zd_14_84_459 : zz_D zy_groupLoads_14_84 459 (.aload_n 0) 1 460 := ⟨zq_42 zg_14_84_453.2.2.2.2.2.2.1, rfl⟩
theorem zd_14_84_460 : zz_D zy_groupLoads_14_84 460 (.getfield 94) 3 463 := ⟨zq_180 zg_14_84_453.2.2.2.2.2.2.2.1 zg_14_84_453.2.2.2.2.2.2.2.2.1 zg_14_84_453.2.2.2.2.2.2.2.2.2.1 rfl, rfl⟩
theorem zd_14_84_463 : zz_D zy_groupLoads_14_84 463 (.iload 8) 2 465 := ⟨zq_21 zg_14_84_453.2.2.2.2.2.2.2.2.2.2.1 zg_14_84_453.2.2.2.2.2.2.2.2.2.2.2.1, rfl⟩
theorem zd_14_84_465 : zz_D zy_groupLoads_14_84 465 (.iaload) 1 466 := ⟨zq_46 zg_14_84_453.2.2.2.2.2.2.2.2.2.2.2.2.1, rfl⟩
theorem zd_14_84_466 : zz_D zy_groupLoads_14_84 466 (.imul) 1 467 := ⟨zq_104 zg_14_84_453.2.2.2.2.2.2.2.2.2.2.2.2.2.1, rfl⟩
theorem zd_14_84_467 : zz_D zy_groupLoads_14_84 467 (.iadd) 1 468 := ⟨zq_96 zg_14_84_453.2.2.2.2.2.2.2.2.2.2.2.2.2.2.1, rfl⟩
theorem zd_14_84_468 : zz_D zy_groupLoads_14_84 468 (.iload 4) 2 470 := ⟨zq_21 zg_14_84_453.2.2.2.2.2.2.2.2.2.2.2.2.2.2.2.1 zg_14_84_453.2.2.2.2.2.2.2.2.2.2.2.2.2.2.2.2.1, rfl⟩
theorem zd_14_84_470 : zz_D zy_groupLoads_14_84 470 (.iadd) 1 471 := ⟨zq_96 zg_14_84_453.2.2.2.2.2.2.2.2.2.2.2.2.2.2.2.2.2.1, rfl⟩
theorem zd_14_84_471 : zz_D zy_groupLoads_14_84 471 (.iload 13) 2 473 := ⟨zq_21 zg_14_84_453.2.2.2.2.2.2.2.2.2.2.2.2.2.2.2.2.2.2.1 zg_14_84_453.2.2.2.2.2.2.2.2.2.2.2.2.2.2.2.2.2.2.2.1, rfl⟩
theorem zd_14_84_473 : zz_D zy_groupLoads_14_84 473 (.iload 5) 2 475 := ⟨zq_21 zg_14_84_453.2.2.2.2.2.2.2.2.2.2.2.2.2.2.2.2.2.2.2.2.1 zg_14_84_453.2.2.2.2.2.2.2.2.2.2.2.2.2.2.2.2.2.2.2.2.2, rfl⟩
theorem zg_14_84_475 : zq_at zy_groupLoads_14_84.2.1 475 182 ∧ zq_at zy_groupLoads_14_84.2.1 476 1 ∧ zq_at zy_groupLoads_14_84.2.1 477 219 ∧ zq_at zy_groupLoads_14_84.2.1 478 42 ∧ zq_at zy_groupLoads_14_84.2.1 479 42 ∧ zq_at zy_groupLoads_14_84.2.1 480 182 ∧ zq_at zy_groupLoads_14_84.2.1 481 1 ∧ zq_at zy_groupLoads_14_84.2.1 482 233 ∧ zq_at zy_groupLoads_14_84.2.1 483 21 ∧ zq_at zy_groupLoads_14_84.2.1 484 12 ∧ zq_at zy_groupLoads_14_84.2.1 485 42 ∧ zq_at zy_groupLoads_14_84.2.1 486 180 ∧ zq_at zy_groupLoads_14_84.2.1 487 0 ∧ zq_at zy_groupLoads_14_84.2.1 488 7 ∧ zq_at zy_groupLoads_14_84.2.1 489 104 ∧ zq_at zy_groupLoads_14_84.2.1 490 96 ∧ zq_at zy_groupLoads_14_84.2.1 491 3 ∧ zq_at zy_groupLoads_14_84.2.1 492 42 ∧ zq_at zy_groupLoads_14_84.2.1 493 180 ∧ zq_at zy_groupLoads_14_84.2.1 494 0 ∧ zq_at zy_groupLoads_14_84.2.1 495 115 ∧ zq_at zy_groupLoads_14_84.2.1 496 27 ∧ zq_at zy_groupLoads_14_84.2.1 497 46 ∧ zq_at zy_groupLoads_14_84.2.1 498 42 := by decide +kernel
theorem zd_14_84_475 : zz_D zy_groupLoads_14_84 475 (.invokevirtual 475) 3 478 := ⟨zq_182 zg_14_84_475.1 zg_14_84_475.2.1 zg_14_84_475.2.2.1 rfl, rfl⟩
theorem zd_14_84_478 : zz_D zy_groupLoads_14_84 478 (.aload_n 0) 1 479 := ⟨zq_42 zg_14_84_475.2.2.2.1, rfl⟩
theorem zd_14_84_479 : zz_D zy_groupLoads_14_84 479 (.aload_n 0) 1 480 := ⟨zq_42 zg_14_84_475.2.2.2.2.1, rfl⟩
theorem zd_14_84_480 : zz_D zy_groupLoads_14_84 480 (.invokevirtual 489) 3 483 := ⟨zq_182 zg_14_84_475.2.2.2.2.2.1 zg_14_84_475.2.2.2.2.2.2.1 zg_14_84_475.2.2.2.2.2.2.2.1 rfl, rfl⟩
theorem zd_14_84_483 : zz_D zy_groupLoads_14_84 483 (.iload 12) 2 485 := ⟨zq_21 zg_14_84_475.2.2.2.2.2.2.2.2.1 zg_14_84_475.2.2.2.2.2.2.2.2.2.1, rfl⟩
theorem zd_14_84_485 : zz_D zy_groupLoads_14_84 485 (.aload_n 0) 1 486 := ⟨zq_42 zg_14_84_475.2.2.2.2.2.2.2.2.2.2.1, rfl⟩
theorem zd_14_84_486 : zz_D zy_groupLoads_14_84 486 (.getfield 7) 3 489 := ⟨zq_180 zg_14_84_475.2.2.2.2.2.2.2.2.2.2.2.1 zg_14_84_475.2.2.2.2.2.2.2.2.2.2.2.2.1 zg_14_84_475.2.2.2.2.2.2.2.2.2.2.2.2.2.1 rfl, rfl⟩
theorem zd_14_84_489 : zz_D zy_groupLoads_14_84 489 (.imul) 1 490 := ⟨zq_104 zg_14_84_475.2.2.2.2.2.2.2.2.2.2.2.2.2.2.1, rfl⟩
theorem zd_14_84_490 : zz_D zy_groupLoads_14_84 490 (.iadd) 1 491 := ⟨zq_96 zg_14_84_475.2.2.2.2.2.2.2.2.2.2.2.2.2.2.2.1, rfl⟩
theorem zd_14_84_491 : zz_D zy_groupLoads_14_84 491 (.iconst 0) 1 492 := ⟨zq_3 zg_14_84_475.2.2.2.2.2.2.2.2.2.2.2.2.2.2.2.2.1, rfl⟩
theorem zd_14_84_492 : zz_D zy_groupLoads_14_84 492 (.aload_n 0) 1 493 := ⟨zq_42 zg_14_84_475.2.2.2.2.2.2.2.2.2.2.2.2.2.2.2.2.2.1, rfl⟩
theorem zd_14_84_493 : zz_D zy_groupLoads_14_84 493 (.getfield 115) 3 496 := ⟨zq_180 zg_14_84_475.2.2.2.2.2.2.2.2.2.2.2.2.2.2.2.2.2.2.1 zg_14_84_475.2.2.2.2.2.2.2.2.2.2.2.2.2.2.2.2.2.2.2.1 zg_14_84_475.2.2.2.2.2.2.2.2.2.2.2.2.2.2.2.2.2.2.2.2.1 rfl, rfl⟩
theorem zd_14_84_496 : zz_D zy_groupLoads_14_84 496 (.iload_n 1) 1 497 := ⟨zq_27 zg_14_84_475.2.2.2.2.2.2.2.2.2.2.2.2.2.2.2.2.2.2.2.2.2.1, rfl⟩
theorem zd_14_84_497 : zz_D zy_groupLoads_14_84 497 (.iaload) 1 498 := ⟨zq_46 zg_14_84_475.2.2.2.2.2.2.2.2.2.2.2.2.2.2.2.2.2.2.2.2.2.2.1, rfl⟩
theorem zd_14_84_498 : zz_D zy_groupLoads_14_84 498 (.aload_n 0) 1 499 := ⟨zq_42 zg_14_84_475.2.2.2.2.2.2.2.2.2.2.2.2.2.2.2.2.2.2.2.2.2.2.2, rfl⟩
theorem zg_14_84_499 : zq_at zy_groupLoads_14_84.2.1 499 180 ∧ zq_at zy_groupLoads_14_84.2.1 500 0 ∧ zq_at zy_groupLoads_14_84.2.1 501 94 ∧ zq_at zy_groupLoads_14_84.2.1 502 21 ∧ zq_at zy_groupLoads_14_84.2.1 503 8 ∧ zq_at zy_groupLoads_14_84.2.1 504 46 ∧ zq_at zy_groupLoads_14_84.2.1 505 104 ∧ zq_at zy_groupLoads_14_84.2.1 506 3 ∧ zq_at zy_groupLoads_14_84.2.1 507 182 ∧ zq_at zy_groupLoads_14_84.2.1 508 1 ∧ zq_at zy_groupLoads_14_84.2.1 509 226 ∧ zq_at zy_groupLoads_14_84.2.1 510 42 ∧ zq_at zy_groupLoads_14_84.2.1 511 21 ∧ zq_at zy_groupLoads_14_84.2.1 512 7 ∧ zq_at zy_groupLoads_14_84.2.1 513 182 ∧ zq_at zy_groupLoads_14_84.2.1 514 1 ∧ zq_at zy_groupLoads_14_84.2.1 515 229 ∧ zq_at zy_groupLoads_14_84.2.1 516 21 ∧ zq_at zy_groupLoads_14_84.2.1 517 12 ∧ zq_at zy_groupLoads_14_84.2.1 518 21 ∧ zq_at zy_groupLoads_14_84.2.1 519 13 ∧ zq_at zy_groupLoads_14_84.2.1 520 96 ∧ zq_at zy_groupLoads_14_84.2.1 521 42 := by decide +kernel
theorem zd_14_84_499 : zz_D zy_groupLoads_14_84 499 (.getfield 94) 3 502 := ⟨zq_180 zg_14_84_499.1 zg_14_84_499.2.1 zg_14_84_499.2.2.1 rfl, rfl⟩
theorem zd_14_84_502 : zz_D zy_groupLoads_14_84 502 (.iload 8) 2 504 := ⟨zq_21 zg_14_84_499.2.2.2.1 zg_14_84_499.2.2.2.2.1, rfl⟩
theorem zd_14_84_504 : zz_D zy_groupLoads_14_84 504 (.iaload) 1 505 := ⟨zq_46 zg_14_84_499.2.2.2.2.2.1, rfl⟩
theorem zd_14_84_505 : zz_D zy_groupLoads_14_84 505 (.imul) 1 506 := ⟨zq_104 zg_14_84_499.2.2.2.2.2.2.1, rfl⟩
theorem zd_14_84_506 : zz_D zy_groupLoads_14_84 506 (.iconst 0) 1 507 := ⟨zq_3 zg_14_84_499.2.2.2.2.2.2.2.1, rfl⟩
theorem zd_14_84_507 : zz_D zy_groupLoads_14_84 507 (.invokevirtual 482) 3 510 := ⟨zq_182 zg_14_84_499.2.2.2.2.2.2.2.2.1 zg_14_84_499.2.2.2.2.2.2.2.2.2.1 zg_14_84_499.2.2.2.2.2.2.2.2.2.2.1 rfl, rfl⟩
theorem zd_14_84_510 : zz_D zy_groupLoads_14_84 510 (.aload_n 0) 1 511 := ⟨zq_42 zg_14_84_499.2.2.2.2.2.2.2.2.2.2.2.1, rfl⟩
theorem zd_14_84_511 : zz_D zy_groupLoads_14_84 511 (.iload 7) 2 513 := ⟨zq_21 zg_14_84_499.2.2.2.2.2.2.2.2.2.2.2.2.1 zg_14_84_499.2.2.2.2.2.2.2.2.2.2.2.2.2.1, rfl⟩
theorem zd_14_84_513 : zz_D zy_groupLoads_14_84 513 (.invokevirtual 485) 3 516 := ⟨zq_182 zg_14_84_499.2.2.2.2.2.2.2.2.2.2.2.2.2.2.1 zg_14_84_499.2.2.2.2.2.2.2.2.2.2.2.2.2.2.2.1 zg_14_84_499.2.2.2.2.2.2.2.2.2.2.2.2.2.2.2.2.1 rfl, rfl⟩
theorem zd_14_84_516 : zz_D zy_groupLoads_14_84 516 (.iload 12) 2 518 := ⟨zq_21 zg_14_84_499.2.2.2.2.2.2.2.2.2.2.2.2.2.2.2.2.2.1 zg_14_84_499.2.2.2.2.2.2.2.2.2.2.2.2.2.2.2.2.2.2.1, rfl⟩
theorem zd_14_84_518 : zz_D zy_groupLoads_14_84 518 (.iload 13) 2 520 := ⟨zq_21 zg_14_84_499.2.2.2.2.2.2.2.2.2.2.2.2.2.2.2.2.2.2.2.1 zg_14_84_499.2.2.2.2.2.2.2.2.2.2.2.2.2.2.2.2.2.2.2.2.1, rfl⟩
theorem zd_14_84_520 : zz_D zy_groupLoads_14_84 520 (.iadd) 1 521 := ⟨zq_96 zg_14_84_499.2.2.2.2.2.2.2.2.2.2.2.2.2.2.2.2.2.2.2.2.2.1, rfl⟩
theorem zd_14_84_521 : zz_D zy_groupLoads_14_84 521 (.aload_n 0) 1 522 := ⟨zq_42 zg_14_84_499.2.2.2.2.2.2.2.2.2.2.2.2.2.2.2.2.2.2.2.2.2.2, rfl⟩
theorem zg_14_84_522 : zq_at zy_groupLoads_14_84.2.1 522 180 ∧ zq_at zy_groupLoads_14_84.2.1 523 1 ∧ zq_at zy_groupLoads_14_84.2.1 524 213 ∧ zq_at zy_groupLoads_14_84.2.1 525 162 ∧ zq_at zy_groupLoads_14_84.2.1 526 0 ∧ zq_at zy_groupLoads_14_84.2.1 527 49 ∧ zq_at zy_groupLoads_14_84.2.1 528 42 ∧ zq_at zy_groupLoads_14_84.2.1 529 6 ∧ zq_at zy_groupLoads_14_84.2.1 530 3 ∧ zq_at zy_groupLoads_14_84.2.1 531 42 ∧ zq_at zy_groupLoads_14_84.2.1 532 180 ∧ zq_at zy_groupLoads_14_84.2.1 533 1 ∧ zq_at zy_groupLoads_14_84.2.1 534 213 ∧ zq_at zy_groupLoads_14_84.2.1 535 21 ∧ zq_at zy_groupLoads_14_84.2.1 536 12 ∧ zq_at zy_groupLoads_14_84.2.1 537 100 ∧ zq_at zy_groupLoads_14_84.2.1 538 21 ∧ zq_at zy_groupLoads_14_84.2.1 539 13 ∧ zq_at zy_groupLoads_14_84.2.1 540 100 ∧ zq_at zy_groupLoads_14_84.2.1 541 21 ∧ zq_at zy_groupLoads_14_84.2.1 542 5 ∧ zq_at zy_groupLoads_14_84.2.1 543 182 ∧ zq_at zy_groupLoads_14_84.2.1 544 1 ∧ zq_at zy_groupLoads_14_84.2.1 545 219 := by decide +kernel
theorem zd_14_84_522 : zz_D zy_groupLoads_14_84 522 (.getfield 469) 3 525 := ⟨zq_180 zg_14_84_522.1 zg_14_84_522.2.1 zg_14_84_522.2.2.1 rfl, rfl⟩
theorem zd_14_84_525 : zz_B zy_groupLoads_14_84 525 (Instr.if_icmp .ge) 574 528 := ⟨49, zq_162 zg_14_84_522.2.2.2.1 zg_14_84_522.2.2.2.2.1 zg_14_84_522.2.2.2.2.2.1 (by decide), rfl, rfl⟩
theorem zd_14_84_528 : zz_D zy_groupLoads_14_84 528 (.aload_n 0) 1 529 := ⟨zq_42 zg_14_84_522.2.2.2.2.2.2.1, rfl⟩
theorem zd_14_84_529 : zz_D zy_groupLoads_14_84 529 (.iconst 3) 1 530 := ⟨zq_6 zg_14_84_522.2.2.2.2.2.2.2.1, rfl⟩
theorem zd_14_84_530 : zz_D zy_groupLoads_14_84 530 (.iconst 0) 1 531 := ⟨zq_3 zg_14_84_522.2.2.2.2.2.2.2.2.1, rfl⟩
theorem zd_14_84_531 : zz_D zy_groupLoads_14_84 531 (.aload_n 0) 1 532 := ⟨zq_42 zg_14_84_522.2.2.2.2.2.2.2.2.2.1, rfl⟩
theorem zd_14_84_532 : zz_D zy_groupLoads_14_84 532 (.getfield 469) 3 535 := ⟨zq_180 zg_14_84_522.2.2.2.2.2.2.2.2.2.2.1 zg_14_84_522.2.2.2.2.2.2.2.2.2.2.2.1 zg_14_84_522.2.2.2.2.2.2.2.2.2.2.2.2.1 rfl, rfl⟩
theorem zd_14_84_535 : zz_D zy_groupLoads_14_84 535 (.iload 12) 2 537 := ⟨zq_21 zg_14_84_522.2.2.2.2.2.2.2.2.2.2.2.2.2.1 zg_14_84_522.2.2.2.2.2.2.2.2.2.2.2.2.2.2.1, rfl⟩
theorem zd_14_84_537 : zz_D zy_groupLoads_14_84 537 (.isub) 1 538 := ⟨zq_100 zg_14_84_522.2.2.2.2.2.2.2.2.2.2.2.2.2.2.2.1, rfl⟩
theorem zd_14_84_538 : zz_D zy_groupLoads_14_84 538 (.iload 13) 2 540 := ⟨zq_21 zg_14_84_522.2.2.2.2.2.2.2.2.2.2.2.2.2.2.2.2.1 zg_14_84_522.2.2.2.2.2.2.2.2.2.2.2.2.2.2.2.2.2.1, rfl⟩
theorem zd_14_84_540 : zz_D zy_groupLoads_14_84 540 (.isub) 1 541 := ⟨zq_100 zg_14_84_522.2.2.2.2.2.2.2.2.2.2.2.2.2.2.2.2.2.2.1, rfl⟩
theorem zd_14_84_541 : zz_D zy_groupLoads_14_84 541 (.iload 5) 2 543 := ⟨zq_21 zg_14_84_522.2.2.2.2.2.2.2.2.2.2.2.2.2.2.2.2.2.2.2.1 zg_14_84_522.2.2.2.2.2.2.2.2.2.2.2.2.2.2.2.2.2.2.2.2.1, rfl⟩
theorem zd_14_84_543 : zz_D zy_groupLoads_14_84 543 (.invokevirtual 475) 3 546 := ⟨zq_182 zg_14_84_522.2.2.2.2.2.2.2.2.2.2.2.2.2.2.2.2.2.2.2.2.2.1 zg_14_84_522.2.2.2.2.2.2.2.2.2.2.2.2.2.2.2.2.2.2.2.2.2.2.1 zg_14_84_522.2.2.2.2.2.2.2.2.2.2.2.2.2.2.2.2.2.2.2.2.2.2.2 rfl, rfl⟩
theorem zg_14_84_546 : zq_at zy_groupLoads_14_84.2.1 546 42 ∧ zq_at zy_groupLoads_14_84.2.1 547 42 ∧ zq_at zy_groupLoads_14_84.2.1 548 182 ∧ zq_at zy_groupLoads_14_84.2.1 549 1 ∧ zq_at zy_groupLoads_14_84.2.1 550 233 ∧ zq_at zy_groupLoads_14_84.2.1 551 21 ∧ zq_at zy_groupLoads_14_84.2.1 552 12 ∧ zq_at zy_groupLoads_14_84.2.1 553 21 ∧ zq_at zy_groupLoads_14_84.2.1 554 13 ∧ zq_at zy_groupLoads_14_84.2.1 555 96 ∧ zq_at zy_groupLoads_14_84.2.1 556 42 ∧ zq_at zy_groupLoads_14_84.2.1 557 180 ∧ zq_at zy_groupLoads_14_84.2.1 558 0 ∧ zq_at zy_groupLoads_14_84.2.1 559 7 ∧ zq_at zy_groupLoads_14_84.2.1 560 104 ∧ zq_at zy_groupLoads_14_84.2.1 561 96 ∧ zq_at zy_groupLoads_14_84.2.1 562 3 ∧ zq_at zy_groupLoads_14_84.2.1 563 3 ∧ zq_at zy_groupLoads_14_84.2.1 564 3 ∧ zq_at zy_groupLoads_14_84.2.1 565 182 ∧ zq_at zy_groupLoads_14_84.2.1 566 1 ∧ zq_at zy_groupLoads_14_84.2.1 567 226 ∧ zq_at zy_groupLoads_14_84.2.1 568 42 := by decide +kernel
theorem zd_14_84_546 : zz_D zy_groupLoads_14_84 546 (.aload_n 0) 1 547 := ⟨zq_42 zg_14_84_546.1, rfl⟩
theorem zd_14_84_547 : zz_D zy_groupLoads_14_84 547 (.aload_n 0) 1 548 := ⟨zq_42 zg_14_84_546.2.1, rfl⟩
theorem zd_14_84_548 : zz_D zy_groupLoads_14_84 548 (.invokevirtual 489) 3 551 := ⟨zq_182 zg_14_84_546.2.2.1 zg_14_84_546.2.2.2.1 zg_14_84_546.2.2.2.2.1 rfl, rfl⟩
theorem zd_14_84_551 : zz_D zy_groupLoads_14_84 551 (.iload 12) 2 553 := ⟨zq_21 zg_14_84_546.2.2.2.2.2.1 zg_14_84_546.2.2.2.2.2.2.1, rfl⟩
theorem zd_14_84_553 : zz_D zy_groupLoads_14_84 553 (.iload 13) 2 555 := ⟨zq_21 zg_14_84_546.2.2.2.2.2.2.2.1 zg_14_84_546.2.2.2.2.2.2.2.2.1, rfl⟩
theorem zd_14_84_555 : zz_D zy_groupLoads_14_84 555 (.iadd) 1 556 := ⟨zq_96 zg_14_84_546.2.2.2.2.2.2.2.2.2.1, rfl⟩
theorem zd_14_84_556 : zz_D zy_groupLoads_14_84 556 (.aload_n 0) 1 557 := ⟨zq_42 zg_14_84_546.2.2.2.2.2.2.2.2.2.2.1, rfl⟩
theorem zd_14_84_557 : zz_D zy_groupLoads_14_84 557 (.getfield 7) 3 560 := ⟨zq_180 zg_14_84_546.2.2.2.2.2.2.2.2.2.2.2.1 zg_14_84_546.2.2.2.2.2.2.2.2.2.2.2.2.1 zg_14_84_546.2.2.2.2.2.2.2.2.2.2.2.2.2.1 rfl, rfl⟩
theorem zd_14_84_560 : zz_D zy_groupLoads_14_84 560 (.imul) 1 561 := ⟨zq_104 zg_14_84_546.2.2.2.2.2.2.2.2.2.2.2.2.2.2.1, rfl⟩
theorem zd_14_84_561 : zz_D zy_groupLoads_14_84 561 (.iadd) 1 562 := ⟨zq_96 zg_14_84_546.2.2.2.2.2.2.2.2.2.2.2.2.2.2.2.1, rfl⟩
theorem zd_14_84_562 : zz_D zy_groupLoads_14_84 562 (.iconst 0) 1 563 := ⟨zq_3 zg_14_84_546.2.2.2.2.2.2.2.2.2.2.2.2.2.2.2.2.1, rfl⟩
theorem zd_14_84_563 : zz_D zy_groupLoads_14_84 563 (.iconst 0) 1 564 := ⟨zq_3 zg_14_84_546.2.2.2.2.2.2.2.2.2.2.2.2.2.2.2.2.2.1, rfl⟩
theorem zd_14_84_564 : zz_D zy_groupLoads_14_84 564 (.iconst 0) 1 565 := ⟨zq_3 zg_14_84_546.2.2.2.2.2.2.2.2.2.2.2.2.2.2.2.2.2.2.1, rfl⟩
theorem zd_14_84_565 : zz_D zy_groupLoads_14_84 565 (.invokevirtual 482) 3 568 := ⟨zq_182 zg_14_84_546.2.2.2.2.2.2.2.2.2.2.2.2.2.2.2.2.2.2.2.1 zg_14_84_546.2.2.2.2.2.2.2.2.2.2.2.2.2.2.2.2.2.2.2.2.1 zg_14_84_546.2.2.2.2.2.2.2.2.2.2.2.2.2.2.2.2.2.2.2.2.2.1 rfl, rfl⟩
theorem zd_14_84_568 : zz_D zy_groupLoads_14_84 568 (.aload_n 0) 1 569 := ⟨zq_42 zg_14_84_546.2.2.2.2.2.2.2.2.2.2.2.2.2.2.2.2.2.2.2.2.2.2, rfl⟩
theorem zg_14_84_569 : zq_at zy_groupLoads_14_84.2.1 569 21 ∧ zq_at zy_groupLoads_14_84.2.1 570 7 ∧ zq_at zy_groupLoads_14_84.2.1 571 182 ∧ zq_at zy_groupLoads_14_84.2.1 572 1 ∧ zq_at zy_groupLoads_14_84.2.1 573 229 ∧ zq_at zy_groupLoads_14_84.2.1 387 3 ∧ zq_at zy_groupLoads_14_84.2.1 395 42 ∧ zq_at zy_groupLoads_14_84.2.1 396 6 ∧ zq_at zy_groupLoads_14_84.2.1 397 3 ∧ zq_at zy_groupLoads_14_84.2.1 398 21 ∧ zq_at zy_groupLoads_14_84.2.1 399 12 ∧ zq_at zy_groupLoads_14_84.2.1 400 21 ∧ zq_at zy_groupLoads_14_84.2.1 401 5 ∧ zq_at zy_groupLoads_14_84.2.1 402 182 ∧ zq_at zy_groupLoads_14_84.2.1 403 1 ∧ zq_at zy_groupLoads_14_84.2.1 404 219 ∧ zq_at zy_groupLoads_14_84.2.1 405 42 ∧ zq_at zy_groupLoads_14_84.2.1 406 42 ∧ zq_at zy_groupLoads_14_84.2.1 407 182 ∧ zq_at zy_groupLoads_14_84.2.1 408 1 ∧ zq_at zy_groupLoads_14_84.2.1 409 233 ∧ zq_at zy_groupLoads_14_84.2.1 410 3 ∧ zq_at zy_groupLoads_14_84.2.1 411 3 ∧ zq_at zy_groupLoads_14_84.2.1 412 3 := by decide +kernel
theorem zd_14_84_569 : zz_D zy_groupLoads_14_84 569 (.iload 7) 2 571 := ⟨zq_21 zg_14_84_569.1 zg_14_84_569.2.1, rfl⟩
theorem zd_14_84_571 : zz_D zy_groupLoads_14_84 571 (.invokevirtual 485) 3 574 := ⟨zq_182 zg_14_84_569.2.2.1 zg_14_84_569.2.2.2.1 zg_14_84_569.2.2.2.2.1 rfl, rfl⟩
theorem zd_14_84_387 : zz_D zy_groupLoads_14_84 387 (.iconst 0) 1 388 := ⟨zq_3 zg_14_84_569.2.2.2.2.2.1, rfl⟩
theorem zd_14_84_395 : zz_D zy_groupLoads_14_84 395 (.aload_n 0) 1 396 := ⟨zq_42 zg_14_84_569.2.2.2.2.2.2.1, rfl⟩
theorem zd_14_84_396 : zz_D zy_groupLoads_14_84 396 (.iconst 3) 1 397 := ⟨zq_6 zg_14_84_569.2.2.2.2.2.2.2.1, rfl⟩
theorem zd_14_84_397 : zz_D zy_groupLoads_14_84 397 (.iconst 0) 1 398 := ⟨zq_3 zg_14_84_569.2.2.2.2.2.2.2.2.1, rfl⟩
theorem zd_14_84_398 : zz_D zy_groupLoads_14_84 398 (.iload 12) 2 400 := ⟨zq_21 zg_14_84_569.2.2.2.2.2.2.2.2.2.1 zg_14_84_569.2.2.2.2.2.2.2.2.2.2.1, rfl⟩
theorem zd_14_84_400 : zz_D zy_groupLoads_14_84 400 (.iload 5) 2 402 := ⟨zq_21 zg_14_84_569.2.2.2.2.2.2.2.2.2.2.2.1 zg_14_84_569.2.2.2.2.2.2.2.2.2.2.2.2.1, rfl⟩
theorem zd_14_84_402 : zz_D zy_groupLoads_14_84 402 (.invokevirtual 475) 3 405 := ⟨zq_182 zg_14_84_569.2.2.2.2.2.2.2.2.2.2.2.2.2.1 zg_14_84_569.2.2.2.2.2.2.2.2.2.2.2.2.2.2.1 zg_14_84_569.2.2.2.2.2.2.2.2.2.2.2.2.2.2.2.1 rfl, rfl⟩
theorem zd_14_84_405 : zz_D zy_groupLoads_14_84 405 (.aload_n 0) 1 406 := ⟨zq_42 zg_14_84_569.2.2.2.2.2.2.2.2.2.2.2.2.2.2.2.2.1, rfl⟩
theorem zd_14_84_406 : zz_D zy_groupLoads_14_84 406 (.aload_n 0) 1 407 := ⟨zq_42 zg_14_84_569.2.2.2.2.2.2.2.2.2.2.2.2.2.2.2.2.2.1, rfl⟩
theorem zd_14_84_407 : zz_D zy_groupLoads_14_84 407 (.invokevirtual 489) 3 410 := ⟨zq_182 zg_14_84_569.2.2.2.2.2.2.2.2.2.2.2.2.2.2.2.2.2.2.1 zg_14_84_569.2.2.2.2.2.2.2.2.2.2.2.2.2.2.2.2.2.2.2.1 zg_14_84_569.2.2.2.2.2.2.2.2.2.2.2.2.2.2.2.2.2.2.2.2.1 rfl, rfl⟩
theorem zd_14_84_410 : zz_D zy_groupLoads_14_84 410 (.iconst 0) 1 411 := ⟨zq_3 zg_14_84_569.2.2.2.2.2.2.2.2.2.2.2.2.2.2.2.2.2.2.2.2.2.1, rfl⟩
theorem zd_14_84_411 : zz_D zy_groupLoads_14_84 411 (.iconst 0) 1 412 := ⟨zq_3 zg_14_84_569.2.2.2.2.2.2.2.2.2.2.2.2.2.2.2.2.2.2.2.2.2.2.1, rfl⟩
theorem zd_14_84_412 : zz_D zy_groupLoads_14_84 412 (.iconst 0) 1 413 := ⟨zq_3 zg_14_84_569.2.2.2.2.2.2.2.2.2.2.2.2.2.2.2.2.2.2.2.2.2.2.2, rfl⟩
theorem zg_14_84_413 : zq_at zy_groupLoads_14_84.2.1 413 182 ∧ zq_at zy_groupLoads_14_84.2.1 414 1 ∧ zq_at zy_groupLoads_14_84.2.1 415 226 ∧ zq_at zy_groupLoads_14_84.2.1 416 42 ∧ zq_at zy_groupLoads_14_84.2.1 417 21 ∧ zq_at zy_groupLoads_14_84.2.1 418 7 ∧ zq_at zy_groupLoads_14_84.2.1 419 182 ∧ zq_at zy_groupLoads_14_84.2.1 420 1 ∧ zq_at zy_groupLoads_14_84.2.1 421 229 := by decide +kernel
theorem zd_14_84_413 : zz_D zy_groupLoads_14_84 413 (.invokevirtual 482) 3 416 := ⟨zq_182 zg_14_84_413.1 zg_14_84_413.2.1 zg_14_84_413.2.2.1 rfl, rfl⟩
theorem zd_14_84_416 : zz_D zy_groupLoads_14_84 416 (.aload_n 0) 1 417 := ⟨zq_42 zg_14_84_413.2.2.2.1, rfl⟩
theorem zd_14_84_417 : zz_D zy_groupLoads_14_84 417 (.iload 7) 2 419 := ⟨zq_21 zg_14_84_413.2.2.2.2.1 zg_14_84_413.2.2.2.2.2.1, rfl⟩
theorem zd_14_84_419 : zz_D zy_groupLoads_14_84 419 (.invokevirtual 485) 3 422 := ⟨zq_182 zg_14_84_413.2.2.2.2.2.2.1 zg_14_84_413.2.2.2.2.2.2.2.1 zg_14_84_413.2.2.2.2.2.2.2.2 rfl, rfl⟩

-- TensorForgeModel partOf ()I
abbrev zr_partOf_14_99 : Room := { frames := 0, cells := 0, slots := 0, locals := 0 }
def zp_partOf_14_99  (S0 : zz_S) : Int → zz_S → Prop := fun r S => S0 = S ∧ (0 ≤ r ∧ r ≤ 128) ∧ (r ≠ 0 → S0 1079 30 = 102) ∧ (r = zt_b8 (zt_ob (S0 1079 30) (S0 1079 61)))
theorem zc_partOf_14_99 {g : mm_G} {l : Launch}  (S0 : zz_S) (n : Nat) (hn : zz_end ≤ n) (G_S0 : zz_G S0)  : mm_Met g l zy_partOf_14_99 zr_partOf_14_99 [.ref 1079] (zz_M S0 n) n (zz_QI n (zp_partOf_14_99  S0)) := by
  refine zz_enter (by decide) (Nat.le_of_ble_eq_true rfl) (zz_less (ls1 := [some (.ref 1079)]) ⟨rfl, trivial⟩ ?_)
  refine zz_aload_n (x := 1079) rfl zd_14_99_0 ?_
  have g1 := zz_G.r G_S0 1079 30 0 102 rfl rfl
  refine zz_geti (z := S0 1079 30) zd_14_99_1 zf_Md_347 zT_1079 rfl (zz_ltn hn rfl) rfl ?_
  refine zz_bipush (by decide) zd_14_99_4 ?_
  refine zz_icmp_eq (by omega) (by omega) zd_14_99_6 (fun c2 => ?_) (fun c2 => ?_)
  · refine zz_aload_n (x := 1079) rfl zd_14_99_11 ?_
    have g3 := zz_G.r G_S0 1079 61 (-9223372036854775808) 9223372036854775807 rfl rfl
    refine zz_getl (z := S0 1079 61) zd_14_99_12 zf_Md_522 zT_1079 rfl (zz_ltn hn rfl) rfl ?_
    refine zz_ldc2 (z := 802) zq_Md_165 (by decide) zd_14_99_15 ?_
    refine zz_lcmp (by omega) (by omega) zd_14_99_18 (fun v4 hv4 => ?_)
    refine zz_if_ne (by omega) zd_14_99_19 (fun c5 => ?_) (fun c5 => ?_)
    · refine zz_aload_n (x := 1079) rfl zd_14_99_26 ?_
      refine zz_getl (z := S0 1079 61) zd_14_99_27 zf_Md_522 zT_1079 rfl (zz_ltn hn rfl) rfl ?_
      refine zz_ldc2 (z := 21094748847) zq_Md_540 (by decide) zd_14_99_30 ?_
      refine zz_lcmp (by omega) (by omega) zd_14_99_33 (fun v6 hv6 => ?_)
      refine zz_if_ne (by omega) zd_14_99_34 (fun c7 => ?_) (fun c7 => ?_)
      · refine zz_aload_n (x := 1079) rfl zd_14_99_41 ?_
        refine zz_getl (z := S0 1079 61) zd_14_99_42 zf_Md_522 zT_1079 rfl (zz_ltn hn rfl) rfl ?_
        refine zz_ldc2 (z := 641) zq_Md_163 (by decide) zd_14_99_45 ?_
        refine zz_lcmp (by omega) (by omega) zd_14_99_48 (fun v8 hv8 => ?_)
        refine zz_if_ne (by omega) zd_14_99_49 (fun c9 => ?_) (fun c9 => ?_)
        · refine zz_aload_n (x := 1079) rfl zd_14_99_56 ?_
          refine zz_getl (z := S0 1079 61) zd_14_99_57 zf_Md_522 zT_1079 rfl (zz_ltn hn rfl) rfl ?_
          refine zz_ldc2 (z := 530067) zq_Md_171 (by decide) zd_14_99_60 ?_
          refine zz_lcmp (by omega) (by omega) zd_14_99_63 (fun v10 hv10 => ?_)
          refine zz_if_ne (by omega) zd_14_99_64 (fun c11 => ?_) (fun c11 => ?_)
          · refine zz_aload_n (x := 1079) rfl zd_14_99_72 ?_
            refine zz_getl (z := S0 1079 61) zd_14_99_73 zf_Md_522 zT_1079 rfl (zz_ltn hn rfl) rfl ?_
            refine zz_ldc2 (z := 171141) zq_Md_542 (by decide) zd_14_99_76 ?_
            refine zz_lcmp (by omega) (by omega) zd_14_99_79 (fun v12 hv12 => ?_)
            refine zz_if_ne (by omega) zd_14_99_80 (fun c13 => ?_) (fun c13 => ?_)
            · refine zz_aload_n (x := 1079) rfl zd_14_99_88 ?_
              refine zz_getl (z := S0 1079 61) zd_14_99_89 zf_Md_522 zT_1079 rfl (zz_ltn hn rfl) rfl ?_
              refine zz_ldc2 (z := 21177619) zq_Md_544 (by decide) zd_14_99_92 ?_
              refine zz_lcmp (by omega) (by omega) zd_14_99_95 (fun v14 hv14 => ?_)
              refine zz_if_ne (by omega) zd_14_99_96 (fun c15 => ?_) (fun c15 => ?_)
              · refine zz_aload_n (x := 1079) rfl zd_14_99_104 ?_
                refine zz_getl (z := S0 1079 61) zd_14_99_105 zf_Md_522 zT_1079 rfl (zz_ltn hn rfl) rfl ?_
                refine zz_ldc2 (z := 700594) zq_Md_546 (by decide) zd_14_99_108 ?_
                refine zz_lcmp (by omega) (by omega) zd_14_99_111 (fun v16 hv16 => ?_)
                refine zz_if_ne (by omega) zd_14_99_112 (fun c17 => ?_) (fun c17 => ?_)
                · refine zz_aload_n (x := 1079) rfl zd_14_99_120 ?_
                  refine zz_getl (z := S0 1079 61) zd_14_99_121 zf_Md_522 zT_1079 rfl (zz_ltn hn rfl) rfl ?_
                  refine zz_ldc2 (z := 609) zq_Md_548 (by decide) zd_14_99_124 ?_
                  refine zz_lcmp (by omega) (by omega) zd_14_99_127 (fun v18 hv18 => ?_)
                  refine zz_if_ne (by omega) zd_14_99_128 (fun c19 => ?_) (fun c19 => ?_)
                  · refine zz_iconst zd_14_99_137 ?_
                    exact zz_iret zd_14_99_138 rfl (Nat.zero_le _) (Nat.zero_le _) ⟨_, _, rfl, rfl, by omega, by omega, (by rw [zt_obN (by omega) (by omega) (by omega) (by omega) (by omega) (by omega) (by omega) (by omega)]; rfl)⟩
                  · refine zz_sipush (by decide) zd_14_99_131 ?_
                    refine zz_goto zd_14_99_134 ?_
                    exact zz_iret zd_14_99_138 rfl (Nat.zero_le _) (Nat.zero_le _) ⟨_, _, rfl, rfl, by omega, by omega, (by rw [show S0 1079 30 = 102 by omega, show S0 1079 61 = 609 by omega]; rfl)⟩
                · refine zz_bipush (by decide) zd_14_99_115 ?_
                  refine zz_goto zd_14_99_117 ?_
                  exact zz_iret zd_14_99_138 rfl (Nat.zero_le _) (Nat.zero_le _) ⟨_, _, rfl, rfl, by omega, by omega, (by rw [show S0 1079 30 = 102 by omega, show S0 1079 61 = 700594 by omega]; rfl)⟩
              · refine zz_bipush (by decide) zd_14_99_99 ?_
                refine zz_goto zd_14_99_101 ?_
                exact zz_iret zd_14_99_138 rfl (Nat.zero_le _) (Nat.zero_le _) ⟨_, _, rfl, rfl, by omega, by omega, (by rw [show S0 1079 30 = 102 by omega, show S0 1079 61 = 21177619 by omega]; rfl)⟩
            · refine zz_bipush (by decide) zd_14_99_83 ?_
              refine zz_goto zd_14_99_85 ?_
              exact zz_iret zd_14_99_138 rfl (Nat.zero_le _) (Nat.zero_le _) ⟨_, _, rfl, rfl, by omega, by omega, (by rw [show S0 1079 30 = 102 by omega, show S0 1079 61 = 171141 by omega]; rfl)⟩
          · refine zz_bipush (by decide) zd_14_99_67 ?_
            refine zz_goto zd_14_99_69 ?_
            exact zz_iret zd_14_99_138 rfl (Nat.zero_le _) (Nat.zero_le _) ⟨_, _, rfl, rfl, by omega, by omega, (by rw [show S0 1079 30 = 102 by omega, show S0 1079 61 = 530067 by omega]; rfl)⟩
        · refine zz_iconst zd_14_99_52 ?_
          refine zz_goto zd_14_99_53 ?_
          exact zz_iret zd_14_99_138 rfl (Nat.zero_le _) (Nat.zero_le _) ⟨_, _, rfl, rfl, by omega, by omega, (by rw [show S0 1079 30 = 102 by omega, show S0 1079 61 = 641 by omega]; rfl)⟩
      · refine zz_iconst zd_14_99_37 ?_
        refine zz_goto zd_14_99_38 ?_
        exact zz_iret zd_14_99_138 rfl (Nat.zero_le _) (Nat.zero_le _) ⟨_, _, rfl, rfl, by omega, by omega, (by rw [show S0 1079 30 = 102 by omega, show S0 1079 61 = 21094748847 by omega]; rfl)⟩
    · refine zz_iconst zd_14_99_22 ?_
      refine zz_goto zd_14_99_23 ?_
      exact zz_iret zd_14_99_138 rfl (Nat.zero_le _) (Nat.zero_le _) ⟨_, _, rfl, rfl, by omega, by omega, (by rw [show S0 1079 30 = 102 by omega, show S0 1079 61 = 802 by omega]; rfl)⟩
  · refine zz_iconst zd_14_99_9 ?_
    exact zz_iret zd_14_99_10 rfl (Nat.zero_le _) (Nat.zero_le _) ⟨_, _, rfl, rfl, by omega, by omega, (by rw [zt_obN (by omega) (by omega) (by omega) (by omega) (by omega) (by omega) (by omega) (by omega)]; rfl)⟩
abbrev zy_takePart_14_100 : mm_Y := (⟨"TensorForgeModel", "takePart", "(I)Z"⟩, prog_14_method_100_code, 3, (some .boolean))
theorem zyw_takePart_14_100 : mm_Yw zy_takePart_14_100 1 := ⟨mm_tb_1 2235 (by decide +kernel) rfl, mm_tb_1 12 (by decide +kernel) rfl, ⟨by decide, by decide⟩, by decide +kernel⟩
theorem zd_14_100_1 : ∃ len, decode zy_takePart_14_100.2.1 1 = .ok (.lookupswitch 137 #[(1, 67), (2, 96), (4, 102), (8, 108), (16, 114), (32, 120), (64, 127)], len) := ⟨67, by decide +kernel⟩
theorem zk_Md_550 : mm_Vl "TensorForgeModel" 550 11 1 zy_takeNet_14_95 := ⟨zyw_takeNet_14_95, (R_Md, F_Md, 69), rfl, mm_tb_1 2236 (by decide +kernel) rfl, mm_tb_1 2238 (by decide +kernel) rfl, mm_tb_s 148 (by decide +kernel) rfl⟩
theorem zk_Md_553 : mm_Vl "TensorForgeModel" 553 11 0 zy_takeX_14_96 := ⟨zyw_takeX_14_96, (R_Md, F_Md, 69), rfl, mm_tb_1 2240 (by decide +kernel) rfl, mm_tb_1 2242 (by decide +kernel) rfl, mm_tb_s 149 (by decide +kernel) rfl⟩
theorem zf_Md_564 : mm_Fl "TensorForgeModel" 564 11 64 .long false := ⟨R_Md, F_Md, 69, t_Md, rfl, i_Md, by decide, mm_tb_1 1675 (by decide +kernel) rfl, rfl, t_Md_ok, n_Md, rfl, by decide +kernel⟩
theorem zk_Md_557 : mm_Vl "TensorForgeModel" 557 11 1 zy_isKeyword_14_97 := ⟨zyw_isKeyword_14_97, (R_Md, F_Md, 69), rfl, mm_tb_1 2244 (by decide +kernel) rfl, mm_tb_1 2246 (by decide +kernel) rfl, mm_tb_s 150 (by decide +kernel) rfl⟩
theorem zk_Md_560 : mm_Vl "TensorForgeModel" 560 11 1 zy_named_14_98 := ⟨zyw_named_14_98, (R_Md, F_Md, 69), rfl, mm_tb_1 2215 (by decide +kernel) rfl, mm_tb_1 2217 (by decide +kernel) rfl, mm_tb_s 144 (by decide +kernel) rfl⟩
theorem zg_14_100_0 : zq_at zy_takePart_14_100.2.1 0 27 ∧ zq_at zy_takePart_14_100.2.1 68 42 ∧ zq_at zy_takePart_14_100.2.1 69 3 ∧ zq_at zy_takePart_14_100.2.1 70 182 ∧ zq_at zy_takePart_14_100.2.1 71 2 ∧ zq_at zy_takePart_14_100.2.1 72 38 ∧ zq_at zy_takePart_14_100.2.1 73 153 ∧ zq_at zy_takePart_14_100.2.1 74 0 ∧ zq_at zy_takePart_14_100.2.1 75 22 ∧ zq_at zy_takePart_14_100.2.1 95 3 ∧ zq_at zy_takePart_14_100.2.1 96 172 ∧ zq_at zy_takePart_14_100.2.1 76 42 ∧ zq_at zy_takePart_14_100.2.1 77 182 ∧ zq_at zy_takePart_14_100.2.1 78 2 ∧ zq_at zy_takePart_14_100.2.1 79 41 ∧ zq_at zy_takePart_14_100.2.1 80 153 ∧ zq_at zy_takePart_14_100.2.1 81 0 ∧ zq_at zy_takePart_14_100.2.1 82 15 ∧ zq_at zy_takePart_14_100.2.1 83 42 ∧ zq_at zy_takePart_14_100.2.1 84 4 ∧ zq_at zy_takePart_14_100.2.1 85 182 ∧ zq_at zy_takePart_14_100.2.1 86 2 ∧ zq_at zy_takePart_14_100.2.1 87 38 := by decide +kernel
theorem zd_14_100_0 : zz_D zy_takePart_14_100 0 (.iload_n 1) 1 1 := ⟨zq_27 zg_14_100_0.1, rfl⟩
theorem zd_14_100_68 : zz_D zy_takePart_14_100 68 (.aload_n 0) 1 69 := ⟨zq_42 zg_14_100_0.2.1, rfl⟩
theorem zd_14_100_69 : zz_D zy_takePart_14_100 69 (.iconst 0) 1 70 := ⟨zq_3 zg_14_100_0.2.2.1, rfl⟩
theorem zd_14_100_70 : zz_D zy_takePart_14_100 70 (.invokevirtual 550) 3 73 := ⟨zq_182 zg_14_100_0.2.2.2.1 zg_14_100_0.2.2.2.2.1 zg_14_100_0.2.2.2.2.2.1 rfl, rfl⟩
theorem zd_14_100_73 : zz_B zy_takePart_14_100 73 (Instr.ifCond .eq) 95 76 := ⟨22, zq_153 zg_14_100_0.2.2.2.2.2.2.1 zg_14_100_0.2.2.2.2.2.2.2.1 zg_14_100_0.2.2.2.2.2.2.2.2.1 (by decide), rfl, rfl⟩
theorem zd_14_100_95 : zz_D zy_takePart_14_100 95 (.iconst 0) 1 96 := ⟨zq_3 zg_14_100_0.2.2.2.2.2.2.2.2.2.1, rfl⟩
theorem zd_14_100_96 : zz_D zy_takePart_14_100 96 (.ireturn) 1 97 := ⟨zq_172 zg_14_100_0.2.2.2.2.2.2.2.2.2.2.1, rfl⟩
theorem zd_14_100_76 : zz_D zy_takePart_14_100 76 (.aload_n 0) 1 77 := ⟨zq_42 zg_14_100_0.2.2.2.2.2.2.2.2.2.2.2.1, rfl⟩
theorem zd_14_100_77 : zz_D zy_takePart_14_100 77 (.invokevirtual 553) 3 80 := ⟨zq_182 zg_14_100_0.2.2.2.2.2.2.2.2.2.2.2.2.1 zg_14_100_0.2.2.2.2.2.2.2.2.2.2.2.2.2.1 zg_14_100_0.2.2.2.2.2.2.2.2.2.2.2.2.2.2.1 rfl, rfl⟩
theorem zd_14_100_80 : zz_B zy_takePart_14_100 80 (Instr.ifCond .eq) 95 83 := ⟨15, zq_153 zg_14_100_0.2.2.2.2.2.2.2.2.2.2.2.2.2.2.2.1 zg_14_100_0.2.2.2.2.2.2.2.2.2.2.2.2.2.2.2.2.1 zg_14_100_0.2.2.2.2.2.2.2.2.2.2.2.2.2.2.2.2.2.1 (by decide), rfl, rfl⟩
theorem zd_14_100_83 : zz_D zy_takePart_14_100 83 (.aload_n 0) 1 84 := ⟨zq_42 zg_14_100_0.2.2.2.2.2.2.2.2.2.2.2.2.2.2.2.2.2.2.1, rfl⟩
theorem zd_14_100_84 : zz_D zy_takePart_14_100 84 (.iconst 1) 1 85 := ⟨zq_4 zg_14_100_0.2.2.2.2.2.2.2.2.2.2.2.2.2.2.2.2.2.2.2.1, rfl⟩
theorem zd_14_100_85 : zz_D zy_takePart_14_100 85 (.invokevirtual 550) 3 88 := ⟨zq_182 zg_14_100_0.2.2.2.2.2.2.2.2.2.2.2.2.2.2.2.2.2.2.2.2.1 zg_14_100_0.2.2.2.2.2.2.2.2.2.2.2.2.2.2.2.2.2.2.2.2.2.1 zg_14_100_0.2.2.2.2.2.2.2.2.2.2.2.2.2.2.2.2.2.2.2.2.2.2 rfl, rfl⟩
theorem zg_14_100_88 : zq_at zy_takePart_14_100.2.1 88 153 ∧ zq_at zy_takePart_14_100.2.1 89 0 ∧ zq_at zy_takePart_14_100.2.1 90 7 ∧ zq_at zy_takePart_14_100.2.1 91 4 ∧ zq_at zy_takePart_14_100.2.1 92 167 ∧ zq_at zy_takePart_14_100.2.1 93 0 ∧ zq_at zy_takePart_14_100.2.1 94 4 ∧ zq_at zy_takePart_14_100.2.1 97 42 ∧ zq_at zy_takePart_14_100.2.1 98 5 ∧ zq_at zy_takePart_14_100.2.1 99 182 ∧ zq_at zy_takePart_14_100.2.1 100 2 ∧ zq_at zy_takePart_14_100.2.1 101 38 ∧ zq_at zy_takePart_14_100.2.1 102 172 ∧ zq_at zy_takePart_14_100.2.1 103 42 ∧ zq_at zy_takePart_14_100.2.1 104 6 ∧ zq_at zy_takePart_14_100.2.1 105 182 ∧ zq_at zy_takePart_14_100.2.1 106 2 ∧ zq_at zy_takePart_14_100.2.1 107 38 ∧ zq_at zy_takePart_14_100.2.1 108 172 ∧ zq_at zy_takePart_14_100.2.1 109 42 ∧ zq_at zy_takePart_14_100.2.1 110 7 ∧ zq_at zy_takePart_14_100.2.1 111 182 ∧ zq_at zy_takePart_14_100.2.1 112 2 ∧ zq_at zy_takePart_14_100.2.1 113 38 := by decide +kernel
theorem zd_14_100_88 : zz_B zy_takePart_14_100 88 (Instr.ifCond .eq) 95 91 := ⟨7, zq_153 zg_14_100_88.1 zg_14_100_88.2.1 zg_14_100_88.2.2.1 (by decide), rfl, rfl⟩
theorem zd_14_100_91 : zz_D zy_takePart_14_100 91 (.iconst 1) 1 92 := ⟨zq_4 zg_14_100_88.2.2.2.1, rfl⟩
theorem zd_14_100_92 : zz_B zy_takePart_14_100 92 Instr.goto 96 95 := ⟨4, zq_167 zg_14_100_88.2.2.2.2.1 zg_14_100_88.2.2.2.2.2.1 zg_14_100_88.2.2.2.2.2.2.1 (by decide), rfl, rfl⟩
theorem zd_14_100_97 : zz_D zy_takePart_14_100 97 (.aload_n 0) 1 98 := ⟨zq_42 zg_14_100_88.2.2.2.2.2.2.2.1, rfl⟩
theorem zd_14_100_98 : zz_D zy_takePart_14_100 98 (.iconst 2) 1 99 := ⟨zq_5 zg_14_100_88.2.2.2.2.2.2.2.2.1, rfl⟩
theorem zd_14_100_99 : zz_D zy_takePart_14_100 99 (.invokevirtual 550) 3 102 := ⟨zq_182 zg_14_100_88.2.2.2.2.2.2.2.2.2.1 zg_14_100_88.2.2.2.2.2.2.2.2.2.2.1 zg_14_100_88.2.2.2.2.2.2.2.2.2.2.2.1 rfl, rfl⟩
theorem zd_14_100_102 : zz_D zy_takePart_14_100 102 (.ireturn) 1 103 := ⟨zq_172 zg_14_100_88.2.2.2.2.2.2.2.2.2.2.2.2.1, rfl⟩
theorem zd_14_100_103 : zz_D zy_takePart_14_100 103 (.aload_n 0) 1 104 := ⟨zq_42 zg_14_100_88.2.2.2.2.2.2.2.2.2.2.2.2.2.1, rfl⟩
theorem zd_14_100_104 : zz_D zy_takePart_14_100 104 (.iconst 3) 1 105 := ⟨zq_6 zg_14_100_88.2.2.2.2.2.2.2.2.2.2.2.2.2.2.1, rfl⟩
theorem zd_14_100_105 : zz_D zy_takePart_14_100 105 (.invokevirtual 550) 3 108 := ⟨zq_182 zg_14_100_88.2.2.2.2.2.2.2.2.2.2.2.2.2.2.2.1 zg_14_100_88.2.2.2.2.2.2.2.2.2.2.2.2.2.2.2.2.1 zg_14_100_88.2.2.2.2.2.2.2.2.2.2.2.2.2.2.2.2.2.1 rfl, rfl⟩
theorem zd_14_100_108 : zz_D zy_takePart_14_100 108 (.ireturn) 1 109 := ⟨zq_172 zg_14_100_88.2.2.2.2.2.2.2.2.2.2.2.2.2.2.2.2.2.2.1, rfl⟩
theorem zd_14_100_109 : zz_D zy_takePart_14_100 109 (.aload_n 0) 1 110 := ⟨zq_42 zg_14_100_88.2.2.2.2.2.2.2.2.2.2.2.2.2.2.2.2.2.2.2.1, rfl⟩
theorem zd_14_100_110 : zz_D zy_takePart_14_100 110 (.iconst 4) 1 111 := ⟨zq_7 zg_14_100_88.2.2.2.2.2.2.2.2.2.2.2.2.2.2.2.2.2.2.2.2.1, rfl⟩
theorem zd_14_100_111 : zz_D zy_takePart_14_100 111 (.invokevirtual 550) 3 114 := ⟨zq_182 zg_14_100_88.2.2.2.2.2.2.2.2.2.2.2.2.2.2.2.2.2.2.2.2.2.1 zg_14_100_88.2.2.2.2.2.2.2.2.2.2.2.2.2.2.2.2.2.2.2.2.2.2.1 zg_14_100_88.2.2.2.2.2.2.2.2.2.2.2.2.2.2.2.2.2.2.2.2.2.2.2 rfl, rfl⟩
theorem zg_14_100_114 : zq_at zy_takePart_14_100.2.1 114 172 ∧ zq_at zy_takePart_14_100.2.1 115 42 ∧ zq_at zy_takePart_14_100.2.1 116 8 ∧ zq_at zy_takePart_14_100.2.1 117 182 ∧ zq_at zy_takePart_14_100.2.1 118 2 ∧ zq_at zy_takePart_14_100.2.1 119 38 ∧ zq_at zy_takePart_14_100.2.1 120 172 ∧ zq_at zy_takePart_14_100.2.1 121 42 ∧ zq_at zy_takePart_14_100.2.1 122 16 ∧ zq_at zy_takePart_14_100.2.1 123 6 ∧ zq_at zy_takePart_14_100.2.1 124 182 ∧ zq_at zy_takePart_14_100.2.1 125 2 ∧ zq_at zy_takePart_14_100.2.1 126 38 ∧ zq_at zy_takePart_14_100.2.1 127 172 ∧ zq_at zy_takePart_14_100.2.1 128 42 ∧ zq_at zy_takePart_14_100.2.1 129 180 ∧ zq_at zy_takePart_14_100.2.1 130 0 ∧ zq_at zy_takePart_14_100.2.1 131 136 ∧ zq_at zy_takePart_14_100.2.1 132 16 ∧ zq_at zy_takePart_14_100.2.1 133 7 ∧ zq_at zy_takePart_14_100.2.1 134 4 ∧ zq_at zy_takePart_14_100.2.1 135 79 ∧ zq_at zy_takePart_14_100.2.1 136 4 ∧ zq_at zy_takePart_14_100.2.1 137 172 := by decide +kernel
theorem zd_14_100_114 : zz_D zy_takePart_14_100 114 (.ireturn) 1 115 := ⟨zq_172 zg_14_100_114.1, rfl⟩
theorem zd_14_100_115 : zz_D zy_takePart_14_100 115 (.aload_n 0) 1 116 := ⟨zq_42 zg_14_100_114.2.1, rfl⟩
theorem zd_14_100_116 : zz_D zy_takePart_14_100 116 (.iconst 5) 1 117 := ⟨zq_8 zg_14_100_114.2.2.1, rfl⟩
theorem zd_14_100_117 : zz_D zy_takePart_14_100 117 (.invokevirtual 550) 3 120 := ⟨zq_182 zg_14_100_114.2.2.2.1 zg_14_100_114.2.2.2.2.1 zg_14_100_114.2.2.2.2.2.1 rfl, rfl⟩
theorem zd_14_100_120 : zz_D zy_takePart_14_100 120 (.ireturn) 1 121 := ⟨zq_172 zg_14_100_114.2.2.2.2.2.2.1, rfl⟩
theorem zd_14_100_121 : zz_D zy_takePart_14_100 121 (.aload_n 0) 1 122 := ⟨zq_42 zg_14_100_114.2.2.2.2.2.2.2.1, rfl⟩
theorem zd_14_100_122 : zz_D zy_takePart_14_100 122 (.bipush 6) 2 124 := ⟨zq_16 zg_14_100_114.2.2.2.2.2.2.2.2.1 zg_14_100_114.2.2.2.2.2.2.2.2.2.1 (by decide), rfl⟩
theorem zd_14_100_124 : zz_D zy_takePart_14_100 124 (.invokevirtual 550) 3 127 := ⟨zq_182 zg_14_100_114.2.2.2.2.2.2.2.2.2.2.1 zg_14_100_114.2.2.2.2.2.2.2.2.2.2.2.1 zg_14_100_114.2.2.2.2.2.2.2.2.2.2.2.2.1 rfl, rfl⟩
theorem zd_14_100_127 : zz_D zy_takePart_14_100 127 (.ireturn) 1 128 := ⟨zq_172 zg_14_100_114.2.2.2.2.2.2.2.2.2.2.2.2.2.1, rfl⟩
theorem zd_14_100_128 : zz_D zy_takePart_14_100 128 (.aload_n 0) 1 129 := ⟨zq_42 zg_14_100_114.2.2.2.2.2.2.2.2.2.2.2.2.2.2.1, rfl⟩
theorem zd_14_100_129 : zz_D zy_takePart_14_100 129 (.getfield 136) 3 132 := ⟨zq_180 zg_14_100_114.2.2.2.2.2.2.2.2.2.2.2.2.2.2.2.1 zg_14_100_114.2.2.2.2.2.2.2.2.2.2.2.2.2.2.2.2.1 zg_14_100_114.2.2.2.2.2.2.2.2.2.2.2.2.2.2.2.2.2.1 rfl, rfl⟩
theorem zd_14_100_132 : zz_D zy_takePart_14_100 132 (.bipush 7) 2 134 := ⟨zq_16 zg_14_100_114.2.2.2.2.2.2.2.2.2.2.2.2.2.2.2.2.2.2.1 zg_14_100_114.2.2.2.2.2.2.2.2.2.2.2.2.2.2.2.2.2.2.2.1 (by decide), rfl⟩
theorem zd_14_100_134 : zz_D zy_takePart_14_100 134 (.iconst 1) 1 135 := ⟨zq_4 zg_14_100_114.2.2.2.2.2.2.2.2.2.2.2.2.2.2.2.2.2.2.2.2.1, rfl⟩
theorem zd_14_100_135 : zz_D zy_takePart_14_100 135 (.iastore) 1 136 := ⟨zq_79 zg_14_100_114.2.2.2.2.2.2.2.2.2.2.2.2.2.2.2.2.2.2.2.2.2.1, rfl⟩
theorem zd_14_100_136 : zz_D zy_takePart_14_100 136 (.iconst 1) 1 137 := ⟨zq_4 zg_14_100_114.2.2.2.2.2.2.2.2.2.2.2.2.2.2.2.2.2.2.2.2.2.2.1, rfl⟩
theorem zd_14_100_137 : zz_D zy_takePart_14_100 137 (.ireturn) 1 138 := ⟨zq_172 zg_14_100_114.2.2.2.2.2.2.2.2.2.2.2.2.2.2.2.2.2.2.2.2.2.2.2, rfl⟩
theorem zg_14_100_138 : zq_at zy_takePart_14_100.2.1 138 42 ∧ zq_at zy_takePart_14_100.2.1 139 180 ∧ zq_at zy_takePart_14_100.2.1 140 1 ∧ zq_at zy_takePart_14_100.2.1 141 91 ∧ zq_at zy_takePart_14_100.2.1 142 16 ∧ zq_at zy_takePart_14_100.2.1 143 102 ∧ zq_at zy_takePart_14_100.2.1 144 160 ∧ zq_at zy_takePart_14_100.2.1 145 0 ∧ zq_at zy_takePart_14_100.2.1 146 29 ∧ zq_at zy_takePart_14_100.2.1 173 3 ∧ zq_at zy_takePart_14_100.2.1 174 61 ∧ zq_at zy_takePart_14_100.2.1 175 42 ∧ zq_at zy_takePart_14_100.2.1 176 42 ∧ zq_at zy_takePart_14_100.2.1 177 180 ∧ zq_at zy_takePart_14_100.2.1 178 2 ∧ zq_at zy_takePart_14_100.2.1 179 10 ∧ zq_at zy_takePart_14_100.2.1 180 181 ∧ zq_at zy_takePart_14_100.2.1 181 2 ∧ zq_at zy_takePart_14_100.2.1 182 52 ∧ zq_at zy_takePart_14_100.2.1 183 42 ∧ zq_at zy_takePart_14_100.2.1 184 182 ∧ zq_at zy_takePart_14_100.2.1 185 2 ∧ zq_at zy_takePart_14_100.2.1 186 14 ∧ zq_at zy_takePart_14_100.2.1 187 28 := by decide +kernel
theorem zd_14_100_138 : zz_D zy_takePart_14_100 138 (.aload_n 0) 1 139 := ⟨zq_42 zg_14_100_138.1, rfl⟩
theorem zd_14_100_139 : zz_D zy_takePart_14_100 139 (.getfield 347) 3 142 := ⟨zq_180 zg_14_100_138.2.1 zg_14_100_138.2.2.1 zg_14_100_138.2.2.2.1 rfl, rfl⟩
theorem zd_14_100_142 : zz_D zy_takePart_14_100 142 (.bipush 102) 2 144 := ⟨zq_16 zg_14_100_138.2.2.2.2.1 zg_14_100_138.2.2.2.2.2.1 (by decide), rfl⟩
theorem zd_14_100_144 : zz_B zy_takePart_14_100 144 (Instr.if_icmp .ne) 173 147 := ⟨29, zq_160 zg_14_100_138.2.2.2.2.2.2.1 zg_14_100_138.2.2.2.2.2.2.2.1 zg_14_100_138.2.2.2.2.2.2.2.2.1 (by decide), rfl, rfl⟩
theorem zd_14_100_173 : zz_D zy_takePart_14_100 173 (.iconst 0) 1 174 := ⟨zq_3 zg_14_100_138.2.2.2.2.2.2.2.2.2.1, rfl⟩
theorem zd_14_100_174 : zz_D zy_takePart_14_100 174 (.istore_n 2) 1 175 := ⟨zq_61 zg_14_100_138.2.2.2.2.2.2.2.2.2.2.1, rfl⟩
theorem zd_14_100_175 : zz_D zy_takePart_14_100 175 (.aload_n 0) 1 176 := ⟨zq_42 zg_14_100_138.2.2.2.2.2.2.2.2.2.2.2.1, rfl⟩
theorem zd_14_100_176 : zz_D zy_takePart_14_100 176 (.aload_n 0) 1 177 := ⟨zq_42 zg_14_100_138.2.2.2.2.2.2.2.2.2.2.2.2.1, rfl⟩
theorem zd_14_100_177 : zz_D zy_takePart_14_100 177 (.getfield 522) 3 180 := ⟨zq_180 zg_14_100_138.2.2.2.2.2.2.2.2.2.2.2.2.2.1 zg_14_100_138.2.2.2.2.2.2.2.2.2.2.2.2.2.2.1 zg_14_100_138.2.2.2.2.2.2.2.2.2.2.2.2.2.2.2.1 rfl, rfl⟩
theorem zd_14_100_180 : zz_D zy_takePart_14_100 180 (.putfield 564) 3 183 := ⟨zq_181 zg_14_100_138.2.2.2.2.2.2.2.2.2.2.2.2.2.2.2.2.1 zg_14_100_138.2.2.2.2.2.2.2.2.2.2.2.2.2.2.2.2.2.1 zg_14_100_138.2.2.2.2.2.2.2.2.2.2.2.2.2.2.2.2.2.2.1 rfl, rfl⟩
theorem zd_14_100_183 : zz_D zy_takePart_14_100 183 (.aload_n 0) 1 184 := ⟨zq_42 zg_14_100_138.2.2.2.2.2.2.2.2.2.2.2.2.2.2.2.2.2.2.2.1, rfl⟩
theorem zd_14_100_184 : zz_D zy_takePart_14_100 184 (.invokevirtual 526) 3 187 := ⟨zq_182 zg_14_100_138.2.2.2.2.2.2.2.2.2.2.2.2.2.2.2.2.2.2.2.2.1 zg_14_100_138.2.2.2.2.2.2.2.2.2.2.2.2.2.2.2.2.2.2.2.2.2.1 zg_14_100_138.2.2.2.2.2.2.2.2.2.2.2.2.2.2.2.2.2.2.2.2.2.2.1 rfl, rfl⟩
theorem zd_14_100_187 : zz_D zy_takePart_14_100 187 (.iload_n 2) 1 188 := ⟨zq_28 zg_14_100_138.2.2.2.2.2.2.2.2.2.2.2.2.2.2.2.2.2.2.2.2.2.2.2, rfl⟩
theorem zg_14_100_188 : zq_at zy_takePart_14_100.2.1 188 172 ∧ zq_at zy_takePart_14_100.2.1 147 42 ∧ zq_at zy_takePart_14_100.2.1 148 42 ∧ zq_at zy_takePart_14_100.2.1 149 180 ∧ zq_at zy_takePart_14_100.2.1 150 2 ∧ zq_at zy_takePart_14_100.2.1 151 10 ∧ zq_at zy_takePart_14_100.2.1 152 182 ∧ zq_at zy_takePart_14_100.2.1 153 2 ∧ zq_at zy_takePart_14_100.2.1 154 45 ∧ zq_at zy_takePart_14_100.2.1 155 154 ∧ zq_at zy_takePart_14_100.2.1 156 0 ∧ zq_at zy_takePart_14_100.2.1 157 18 ∧ zq_at zy_takePart_14_100.2.1 158 42 ∧ zq_at zy_takePart_14_100.2.1 159 42 ∧ zq_at zy_takePart_14_100.2.1 160 180 ∧ zq_at zy_takePart_14_100.2.1 161 2 ∧ zq_at zy_takePart_14_100.2.1 162 10 ∧ zq_at zy_takePart_14_100.2.1 163 182 ∧ zq_at zy_takePart_14_100.2.1 164 2 ∧ zq_at zy_takePart_14_100.2.1 165 48 ∧ zq_at zy_takePart_14_100.2.1 166 156 ∧ zq_at zy_takePart_14_100.2.1 167 0 ∧ zq_at zy_takePart_14_100.2.1 168 7 ∧ zq_at zy_takePart_14_100.2.1 169 4 := by decide +kernel
theorem zd_14_100_188 : zz_D zy_takePart_14_100 188 (.ireturn) 1 189 := ⟨zq_172 zg_14_100_188.1, rfl⟩
theorem zd_14_100_147 : zz_D zy_takePart_14_100 147 (.aload_n 0) 1 148 := ⟨zq_42 zg_14_100_188.2.1, rfl⟩
theorem zd_14_100_148 : zz_D zy_takePart_14_100 148 (.aload_n 0) 1 149 := ⟨zq_42 zg_14_100_188.2.2.1, rfl⟩
theorem zd_14_100_149 : zz_D zy_takePart_14_100 149 (.getfield 522) 3 152 := ⟨zq_180 zg_14_100_188.2.2.2.1 zg_14_100_188.2.2.2.2.1 zg_14_100_188.2.2.2.2.2.1 rfl, rfl⟩
theorem zd_14_100_152 : zz_D zy_takePart_14_100 152 (.invokevirtual 557) 3 155 := ⟨zq_182 zg_14_100_188.2.2.2.2.2.2.1 zg_14_100_188.2.2.2.2.2.2.2.1 zg_14_100_188.2.2.2.2.2.2.2.2.1 rfl, rfl⟩
theorem zd_14_100_155 : zz_B zy_takePart_14_100 155 (Instr.ifCond .ne) 173 158 := ⟨18, zq_154 zg_14_100_188.2.2.2.2.2.2.2.2.2.1 zg_14_100_188.2.2.2.2.2.2.2.2.2.2.1 zg_14_100_188.2.2.2.2.2.2.2.2.2.2.2.1 (by decide), rfl, rfl⟩
theorem zd_14_100_158 : zz_D zy_takePart_14_100 158 (.aload_n 0) 1 159 := ⟨zq_42 zg_14_100_188.2.2.2.2.2.2.2.2.2.2.2.2.1, rfl⟩
theorem zd_14_100_159 : zz_D zy_takePart_14_100 159 (.aload_n 0) 1 160 := ⟨zq_42 zg_14_100_188.2.2.2.2.2.2.2.2.2.2.2.2.2.1, rfl⟩
theorem zd_14_100_160 : zz_D zy_takePart_14_100 160 (.getfield 522) 3 163 := ⟨zq_180 zg_14_100_188.2.2.2.2.2.2.2.2.2.2.2.2.2.2.1 zg_14_100_188.2.2.2.2.2.2.2.2.2.2.2.2.2.2.2.1 zg_14_100_188.2.2.2.2.2.2.2.2.2.2.2.2.2.2.2.2.1 rfl, rfl⟩
theorem zd_14_100_163 : zz_D zy_takePart_14_100 163 (.invokevirtual 560) 3 166 := ⟨zq_182 zg_14_100_188.2.2.2.2.2.2.2.2.2.2.2.2.2.2.2.2.2.1 zg_14_100_188.2.2.2.2.2.2.2.2.2.2.2.2.2.2.2.2.2.2.1 zg_14_100_188.2.2.2.2.2.2.2.2.2.2.2.2.2.2.2.2.2.2.2.1 rfl, rfl⟩
theorem zd_14_100_166 : zz_B zy_takePart_14_100 166 (Instr.ifCond .ge) 173 169 := ⟨7, zq_156 zg_14_100_188.2.2.2.2.2.2.2.2.2.2.2.2.2.2.2.2.2.2.2.2.1 zg_14_100_188.2.2.2.2.2.2.2.2.2.2.2.2.2.2.2.2.2.2.2.2.2.1 zg_14_100_188.2.2.2.2.2.2.2.2.2.2.2.2.2.2.2.2.2.2.2.2.2.2.1 (by decide), rfl, rfl⟩
theorem zd_14_100_169 : zz_D zy_takePart_14_100 169 (.iconst 1) 1 170 := ⟨zq_4 zg_14_100_188.2.2.2.2.2.2.2.2.2.2.2.2.2.2.2.2.2.2.2.2.2.2.2, rfl⟩
theorem zg_14_100_170 : zq_at zy_takePart_14_100.2.1 170 167 ∧ zq_at zy_takePart_14_100.2.1 171 0 ∧ zq_at zy_takePart_14_100.2.1 172 4 := by decide +kernel
theorem zd_14_100_170 : zz_B zy_takePart_14_100 170 Instr.goto 174 173 := ⟨4, zq_167 zg_14_100_170.1 zg_14_100_170.2.1 zg_14_100_170.2.2 (by decide), rfl, rfl⟩
-- TensorForgeModel takePart (I)Z
abbrev zr_takePart_14_100 : Room := { frames := 4, cells := 0, slots := 0, locals := 61 }
def zp_takePart_14_100 (p0 : Int) (S0 : zz_S) : Int → zz_S → Prop := fun r S => zz_G S ∧ zz_fr [(1079, 30), (1079, 31), (1079, 32), (1079, 61), (1079, 64), (1118, 7)] [] (fun a i => (a = 1118 ∧ i = 0) ∨ (a = 1118 ∧ i = 1) ∨ (a = 1118 ∧ i = 2) ∨ (a = 1118 ∧ i = 3) ∨ (a = 1118 ∧ i = 4) ∨ (a = 1118 ∧ i = 5) ∨ (a = 1118 ∧ i = 6)) S0 S ∧ (0 ≤ r ∧ r ≤ 1) ∧ (S 1079 32 > S0 1079 32 ∨ (S 1079 32 = S0 1079 32 ∧ (S 1079 30 = S0 1079 30 ∨ S 1079 30 = 0 ∨ S 1079 30 = 101))) ∧ (∀ (p i : Int) (o : Nat → Int), zt_MK (S0 1099) (S0 1079 33) p (S0 1079 30) (S0 1079 32) (S0 1079 31) (S0 1079 61) → 1 ≤ i ∧ i ≤ 8 → p0 = zt_b8 i → (zn_T8 (S0 1118) o ∧ S0 1079 64 = o 9) → (r = 1 ∧ zt_og (zt_km (S0 1099) (S0 1079 33)) (zt_tn (S0 1099) (S0 1079 33)) (zt_kd (S0 1099) (S0 1079 33)) (S0 1117) (S0 1079 36).toNat i p ∧ zt_MK (S0 1099) (S0 1079 33) (zt_oe (zt_tn (S0 1099) (S0 1079 33)) i p) (S 1079 30) (S 1079 32) (S 1079 31) (S 1079 61) ∧ (zn_T8 (S 1118) (zt_ou (zt_tn (S0 1099) (S0 1079 33)) (zt_tv (S0 1099) (S0 1079 33)) (zt_kd (S0 1099) (S0 1079 33)) i p o) ∧ S 1079 64 = (zt_ou (zt_tn (S0 1099) (S0 1079 33)) (zt_tv (S0 1099) (S0 1079 33)) (zt_kd (S0 1099) (S0 1079 33)) i p o) 9)) ∨ (r = 0 ∧ ¬ zt_og (zt_km (S0 1099) (S0 1079 33)) (zt_tn (S0 1099) (S0 1079 33)) (zt_kd (S0 1099) (S0 1079 33)) (S0 1117) (S0 1079 36).toNat i p))
set_option maxHeartbeats 8000000 in
theorem zc_takePart_14_100 {g : mm_G} {l : Launch} (p0 : Int) (S0 : zz_S) (n : Nat) (hn : zz_end ≤ n) (G_S0 : zz_G S0) (hp0 : (-2147483648) ≤ p0 ∧ p0 ≤ 2147483647) (hN : ∀ w : Nat, 1 ≤ w → w ≤ 20 → S0 1100 w = zt_cd (zt_nw.getD w [])) : mm_Met g l zy_takePart_14_100 zr_takePart_14_100 [.ref 1079, zi p0] (zz_M S0 n) n (zz_QI n (zp_takePart_14_100 p0 S0)) := by
  refine zz_enter (by decide) (Nat.le_of_ble_eq_true rfl) (zz_less (ls1 := [some (.ref 1079), some (zi p0)]) ⟨rfl, ⟨rfl, trivial⟩⟩ ?_)
  have F_S0 : zz_fr [(1079, 30), (1079, 31), (1079, 32), (1079, 61), (1079, 64), (1118, 7)] [] (fun a i => (a = 1118 ∧ i = 0) ∨ (a = 1118 ∧ i = 1) ∨ (a = 1118 ∧ i = 2) ∨ (a = 1118 ∧ i = 3) ∨ (a = 1118 ∧ i = 4) ∨ (a = 1118 ∧ i = 5) ∨ (a = 1118 ∧ i = 6)) S0 S0 := zz_fr.refl
  refine zz_iload_n (x := p0) rfl zd_14_100_0 ?_
  by_cases c1 : p0 = 1
  · refine zz_lsw (off := 67) (by omega) zd_14_100_1 (by decide) (by rw [c1]; rfl) rfl ?_
    refine zz_aload_n (x := 1079) rfl zd_14_100_68 ?_
    refine zz_iconst zd_14_100_69 ?_
    have g2 := zz_G.r G_S0 1079 30 0 102 rfl rfl
    have g3 := zz_G.r G_S0 1079 32 0 1500 rfl rfl
    have g4 := zz_G.r G_S0 1079 31 0 9999 rfl rfl
    have g5 := zz_G.r G_S0 1079 33 0 1500 rfl rfl
    refine zz_callVI [zi 0] zd_14_100_70 zk_Md_550 zT_1079 (zz_ltn hn rfl) rfl rfl ⟨Nat.le_of_ble_eq_true rfl, Nat.le_of_ble_eq_true rfl⟩ ⟨rfl, rfl⟩ (Nat.zero_le _) (Nat.zero_le _) (zc_takeNet_14_95 0 S0 n hn G_S0 (by omega) hN) (fun v7 S6 hP => ?_)
    obtain ⟨G_S6, fS6, o8, o9, o10, o11⟩ := hP
    have o8 : 0 ≤ v7 ∧ v7 ≤ 1 := o8
    have o9 : S6 1079 32 > S0 1079 32 ∨ (S6 1079 32 = S0 1079 32 ∧ (S6 1079 30 = S0 1079 30 ∨ S6 1079 30 = 0 ∨ S6 1079 30 = 101)) := o9
    have o10 : (v7 = 1 ∧ S0 1079 30 = 100 ∧ S6 1118 0 = S0 1079 31) ∨ (v7 = 0 ∧ S0 1079 30 ≠ 100) := o10
    have o11 : v7 = 1 → zt_MK (S0 1099) (S0 1079 33) (S0 1079 32) (S6 1079 30) (S6 1079 32) (S6 1079 31) (S6 1079 61) := o11
    have F_S6 := zz_fr.trans F_S0 fS6 rfl (fun a i h => Or.inr (Or.inr (Or.inl h)))
    rcases (by omega : v7 = 0 ∨ v7 = 1) with rfl | rfl
    · skip
      refine zz_if_eq (by omega) zd_14_100_73 (fun c12 => ?_) (fun c12 => ?_)
      · refine zz_iconst zd_14_100_95 ?_
        have g13 := zz_G.r G_S6 1079 30 0 102 rfl rfl
        have g14 := zz_G.r G_S6 1079 32 0 1500 rfl rfl
        have g15 := zz_G.r G_S6 1079 31 0 9999 rfl rfl
        have e16 : S6 1079 64 = S0 1079 64 := (zz_rc fS6 rfl rfl (by first | decide | (intro h; exact absurd h.1 (by decide)) | omega) rfl)
        have g17 := zz_G.r G_S6 1118 0 0 9999 rfl rfl
        have g18 := zz_G.r G_S0 1118 1 0 9999 rfl rfl
        have e19 : S6 1118 1 = S0 1118 1 := (zz_rc fS6 rfl rfl (by first | decide | (intro h; exact absurd h.2 (by decide)) | omega) rfl)
        have g20 := zz_G.r G_S0 1118 2 0 9999 rfl rfl
        have e21 : S6 1118 2 = S0 1118 2 := (zz_rc fS6 rfl rfl (by first | decide | (intro h; exact absurd h.2 (by decide)) | omega) rfl)
        have g22 := zz_G.r G_S0 1118 3 0 9999 rfl rfl
        have e23 : S6 1118 3 = S0 1118 3 := (zz_rc fS6 rfl rfl (by first | decide | (intro h; exact absurd h.2 (by decide)) | omega) rfl)
        have g24 := zz_G.r G_S0 1118 4 0 9999 rfl rfl
        have e25 : S6 1118 4 = S0 1118 4 := (zz_rc fS6 rfl rfl (by first | decide | (intro h; exact absurd h.2 (by decide)) | omega) rfl)
        have g26 := zz_G.r G_S0 1118 5 0 9999 rfl rfl
        have e27 : S6 1118 5 = S0 1118 5 := (zz_rc fS6 rfl rfl (by first | decide | (intro h; exact absurd h.2 (by decide)) | omega) rfl)
        have g28 := zz_G.r G_S0 1118 6 0 9999 rfl rfl
        have e29 : S6 1118 6 = S0 1118 6 := (zz_rc fS6 rfl rfl (by first | decide | (intro h; exact absurd h.2 (by decide)) | omega) rfl)
        have g30 := zz_G.r G_S0 1118 7 0 9999 rfl rfl
        have e31 : S6 1118 7 = S0 1118 7 := (zz_rc fS6 rfl rfl (by first | decide | (intro h; exact absurd h.2 (by decide)) | omega) rfl)
        exact zz_zret zd_14_100_96 rfl (by omega) (Nat.zero_le _) (Nat.zero_le _) ⟨_, _, rfl, G_S6, F_S6, by omega, by omega, (fun p i o hM hi hb hD => by obtain ⟨⟨d1, d2, d3, d4, d5, d6, d7⟩, d9⟩ := hD; have m1 := hM.1; have m2 := hM.2.1; obtain rfl : i = 1 := (by have j9 := zt_b8j hi; omega); clear hb; exact Or.inr ⟨rfl, fun g => by have y := ((zt_og1 rfl).mp g).1; omega⟩)⟩
      · exfalso; omega
    · skip
      refine zz_if_eq (by omega) zd_14_100_73 (fun c32 => ?_) (fun c32 => ?_)
      · exfalso; omega
      · refine zz_aload_n (x := 1079) rfl zd_14_100_76 ?_
        have g33 := zz_G.r G_S6 1079 30 0 102 rfl rfl
        have g34 := zz_G.r G_S6 1079 32 0 1500 rfl rfl
        have e35 : S6 1079 33 = S0 1079 33 := (zz_rc fS6 rfl rfl (by first | decide | (intro h; exact absurd h.1 (by decide)) | omega) rfl)
        refine zz_callVI [] zd_14_100_77 zk_Md_553 zT_1079 (zz_ltn hn rfl) rfl rfl ⟨Nat.le_of_ble_eq_true rfl, Nat.le_of_ble_eq_true rfl⟩ ⟨rfl, rfl⟩ (Nat.zero_le _) (Nat.zero_le _) (zc_takeX_14_96  S6 n hn G_S6 (fun u h1 h2 => ((zz_rc fS6 (zz_nc1 rfl) rfl (by first | decide | (intro h; exact absurd h.1 (by decide)) | omega) rfl)).trans (hN u h1 h2))) (fun v37 S36 hP => ?_)
        obtain ⟨G_S36, fS36, o38, o39, o40, o41⟩ := hP
        rw [show S6 1099 = S0 1099 from funext (fun u => (zz_rc fS6 (zz_nc1 rfl) rfl (by first | decide | (intro h; exact absurd h.1 (by decide)) | omega) rfl)), show S6 1079 33 = S0 1079 33 from (zz_rc fS6 rfl rfl (by first | decide | (intro h; exact absurd h.1 (by decide)) | omega) rfl)] at o41
        have F_S36 := zz_fr.trans F_S6 fS36 rfl zz_nv
        rcases (by omega : v37 = 0 ∨ v37 = 1) with rfl | rfl
        · skip
          refine zz_if_eq (by omega) zd_14_100_80 (fun c42 => ?_) (fun c42 => ?_)
          · refine zz_iconst zd_14_100_95 ?_
            have g43 := zz_G.r G_S36 1079 30 0 102 rfl rfl
            have g44 := zz_G.r G_S36 1079 32 0 1500 rfl rfl
            have g45 := zz_G.r G_S36 1079 31 0 9999 rfl rfl
            have e46 : S36 1079 64 = S0 1079 64 := (zz_rc fS36 rfl rfl (fun h => h) (zz_rc fS6 rfl rfl (by first | decide | (intro h; exact absurd h.1 (by decide)) | omega) rfl))
            have g47 := zz_G.r G_S6 1118 0 0 9999 rfl rfl
            have e48 : S36 1118 0 = S6 1118 0 := (zz_rc fS36 rfl rfl (fun h => h) rfl)
            have g49 := zz_G.r G_S0 1118 1 0 9999 rfl rfl
            have e50 : S36 1118 1 = S0 1118 1 := (zz_rc fS36 rfl rfl (fun h => h) (zz_rc fS6 rfl rfl (by first | decide | (intro h; exact absurd h.2 (by decide)) | omega) rfl))
            have g51 := zz_G.r G_S0 1118 2 0 9999 rfl rfl
            have e52 : S36 1118 2 = S0 1118 2 := (zz_rc fS36 rfl rfl (fun h => h) (zz_rc fS6 rfl rfl (by first | decide | (intro h; exact absurd h.2 (by decide)) | omega) rfl))
            have g53 := zz_G.r G_S0 1118 3 0 9999 rfl rfl
            have e54 : S36 1118 3 = S0 1118 3 := (zz_rc fS36 rfl rfl (fun h => h) (zz_rc fS6 rfl rfl (by first | decide | (intro h; exact absurd h.2 (by decide)) | omega) rfl))
            have g55 := zz_G.r G_S0 1118 4 0 9999 rfl rfl
            have e56 : S36 1118 4 = S0 1118 4 := (zz_rc fS36 rfl rfl (fun h => h) (zz_rc fS6 rfl rfl (by first | decide | (intro h; exact absurd h.2 (by decide)) | omega) rfl))
            have g57 := zz_G.r G_S0 1118 5 0 9999 rfl rfl
            have e58 : S36 1118 5 = S0 1118 5 := (zz_rc fS36 rfl rfl (fun h => h) (zz_rc fS6 rfl rfl (by first | decide | (intro h; exact absurd h.2 (by decide)) | omega) rfl))
            have g59 := zz_G.r G_S0 1118 6 0 9999 rfl rfl
            have e60 : S36 1118 6 = S0 1118 6 := (zz_rc fS36 rfl rfl (fun h => h) (zz_rc fS6 rfl rfl (by first | decide | (intro h; exact absurd h.2 (by decide)) | omega) rfl))
            have g61 := zz_G.r G_S0 1118 7 0 9999 rfl rfl
            have e62 : S36 1118 7 = S0 1118 7 := (zz_rc fS36 rfl rfl (fun h => h) (zz_rc fS6 rfl rfl (by first | decide | (intro h; exact absurd h.2 (by decide)) | omega) rfl))
            exact zz_zret zd_14_100_96 rfl (by omega) (Nat.zero_le _) (Nat.zero_le _) ⟨_, _, rfl, G_S36, F_S36, by omega, by omega, (fun p i o hM hi hb hD => by obtain ⟨⟨d1, d2, d3, d4, d5, d6, d7⟩, d9⟩ := hD; have m1 := hM.1; have m2 := hM.2.1; obtain rfl : i = 1 := (by have j9 := zt_b8j hi; omega); clear hb; have k1 := o11 rfl; rw [m2] at k1; have k2 := k1.1; have k3 := k1.2.1; have x1 := o40; have x4 := k1.2.2.2; have x2 := o41; rw [k3] at x2; have x5 := x2.1; have x6 := x2.2.1; exact Or.inr ⟨rfl, fun g => by have y := ((zt_og1 rfl).mp g).2.1; have z := x4 (by omega); omega⟩)⟩
          · exfalso; omega
        · skip
          refine zz_if_eq (by omega) zd_14_100_80 (fun c63 => ?_) (fun c63 => ?_)
          · exfalso; omega
          · refine zz_aload_n (x := 1079) rfl zd_14_100_83 ?_
            refine zz_iconst zd_14_100_84 ?_
            have g64 := zz_G.r G_S36 1079 30 0 102 rfl rfl
            have g65 := zz_G.r G_S36 1079 32 0 1500 rfl rfl
            have g66 := zz_G.r G_S36 1079 31 0 9999 rfl rfl
            have e67 : S36 1079 33 = S0 1079 33 := (zz_rc fS36 rfl rfl (fun h => h) (zz_rc fS6 rfl rfl (by first | decide | (intro h; exact absurd h.1 (by decide)) | omega) rfl))
            refine zz_callVI [zi 1] zd_14_100_85 zk_Md_550 zT_1079 (zz_ltn hn rfl) rfl rfl ⟨Nat.le_of_ble_eq_true rfl, Nat.le_of_ble_eq_true rfl⟩ ⟨rfl, rfl⟩ (Nat.zero_le _) (Nat.zero_le _) (zc_takeNet_14_95 1 S36 n hn G_S36 (by omega) (fun u h1 h2 => ((zz_rc fS36 (zz_nc1 rfl) rfl (fun h => h) (zz_rc fS6 (zz_nc1 rfl) rfl (by first | decide | (intro h; exact absurd h.1 (by decide)) | omega) rfl))).trans (hN u h1 h2))) (fun v69 S68 hP => ?_)
            obtain ⟨G_S68, fS68, o70, o71, o72, o73⟩ := hP
            have o70 : 0 ≤ v69 ∧ v69 ≤ 1 := o70
            have o71 : S68 1079 32 > S36 1079 32 ∨ (S68 1079 32 = S36 1079 32 ∧ (S68 1079 30 = S36 1079 30 ∨ S68 1079 30 = 0 ∨ S68 1079 30 = 101)) := o71
            have o72 : (v69 = 1 ∧ S36 1079 30 = 100 ∧ S68 1118 1 = S36 1079 31) ∨ (v69 = 0 ∧ S36 1079 30 ≠ 100) := o72
            have o73 : v69 = 1 → zt_MK (S36 1099) (S36 1079 33) (S36 1079 32) (S68 1079 30) (S68 1079 32) (S68 1079 31) (S68 1079 61) := o73
            rw [show S36 1099 = S0 1099 from funext (fun u => (zz_rc fS36 (zz_nc1 rfl) rfl (fun h => h) (zz_rc fS6 (zz_nc1 rfl) rfl (by first | decide | (intro h; exact absurd h.1 (by decide)) | omega) rfl))), show S36 1079 33 = S0 1079 33 from (zz_rc fS36 rfl rfl (fun h => h) (zz_rc fS6 rfl rfl (by first | decide | (intro h; exact absurd h.1 (by decide)) | omega) rfl))] at o73
            have F_S68 := zz_fr.trans F_S36 fS68 rfl (fun a i h => Or.inr (Or.inr (Or.inr (Or.inl h))))
            rcases (by omega : v69 = 0 ∨ v69 = 1) with rfl | rfl
            · skip
              refine zz_if_eq (by omega) zd_14_100_88 (fun c74 => ?_) (fun c74 => ?_)
              · refine zz_iconst zd_14_100_95 ?_
                have g75 := zz_G.r G_S68 1079 30 0 102 rfl rfl
                have g76 := zz_G.r G_S68 1079 32 0 1500 rfl rfl
                have g77 := zz_G.r G_S68 1079 31 0 9999 rfl rfl
                have e78 : S68 1079 64 = S0 1079 64 := (zz_rc fS68 rfl rfl (by first | decide | (intro h; exact absurd h.1 (by decide)) | omega) (zz_rc fS36 rfl rfl (fun h => h) (zz_rc fS6 rfl rfl (by first | decide | (intro h; exact absurd h.1 (by decide)) | omega) rfl)))
                have g79 := zz_G.r G_S6 1118 0 0 9999 rfl rfl
                have e80 : S68 1118 0 = S6 1118 0 := (zz_rc fS68 rfl rfl (by first | decide | (intro h; exact absurd h.2 (by decide)) | omega) (zz_rc fS36 rfl rfl (fun h => h) rfl))
                have g81 := zz_G.r G_S68 1118 1 0 9999 rfl rfl
                have g82 := zz_G.r G_S0 1118 2 0 9999 rfl rfl
                have e83 : S68 1118 2 = S0 1118 2 := (zz_rc fS68 rfl rfl (by first | decide | (intro h; exact absurd h.2 (by decide)) | omega) (zz_rc fS36 rfl rfl (fun h => h) (zz_rc fS6 rfl rfl (by first | decide | (intro h; exact absurd h.2 (by decide)) | omega) rfl)))
                have g84 := zz_G.r G_S0 1118 3 0 9999 rfl rfl
                have e85 : S68 1118 3 = S0 1118 3 := (zz_rc fS68 rfl rfl (by first | decide | (intro h; exact absurd h.2 (by decide)) | omega) (zz_rc fS36 rfl rfl (fun h => h) (zz_rc fS6 rfl rfl (by first | decide | (intro h; exact absurd h.2 (by decide)) | omega) rfl)))
                have g86 := zz_G.r G_S0 1118 4 0 9999 rfl rfl
                have e87 : S68 1118 4 = S0 1118 4 := (zz_rc fS68 rfl rfl (by first | decide | (intro h; exact absurd h.2 (by decide)) | omega) (zz_rc fS36 rfl rfl (fun h => h) (zz_rc fS6 rfl rfl (by first | decide | (intro h; exact absurd h.2 (by decide)) | omega) rfl)))
                have g88 := zz_G.r G_S0 1118 5 0 9999 rfl rfl
                have e89 : S68 1118 5 = S0 1118 5 := (zz_rc fS68 rfl rfl (by first | decide | (intro h; exact absurd h.2 (by decide)) | omega) (zz_rc fS36 rfl rfl (fun h => h) (zz_rc fS6 rfl rfl (by first | decide | (intro h; exact absurd h.2 (by decide)) | omega) rfl)))
                have g90 := zz_G.r G_S0 1118 6 0 9999 rfl rfl
                have e91 : S68 1118 6 = S0 1118 6 := (zz_rc fS68 rfl rfl (by first | decide | (intro h; exact absurd h.2 (by decide)) | omega) (zz_rc fS36 rfl rfl (fun h => h) (zz_rc fS6 rfl rfl (by first | decide | (intro h; exact absurd h.2 (by decide)) | omega) rfl)))
                have g92 := zz_G.r G_S0 1118 7 0 9999 rfl rfl
                have e93 : S68 1118 7 = S0 1118 7 := (zz_rc fS68 rfl rfl (by first | decide | (intro h; exact absurd h.2 (by decide)) | omega) (zz_rc fS36 rfl rfl (fun h => h) (zz_rc fS6 rfl rfl (by first | decide | (intro h; exact absurd h.2 (by decide)) | omega) rfl)))
                exact zz_zret zd_14_100_96 rfl (by omega) (Nat.zero_le _) (Nat.zero_le _) ⟨_, _, rfl, G_S68, F_S68, by omega, by omega, (fun p i o hM hi hb hD => by obtain ⟨⟨d1, d2, d3, d4, d5, d6, d7⟩, d9⟩ := hD; have m1 := hM.1; have m2 := hM.2.1; obtain rfl : i = 1 := (by have j9 := zt_b8j hi; omega); clear hb; have k1 := o11 rfl; rw [m2] at k1; have k2 := k1.1; have k3 := k1.2.1; have x1 := o40; have x4 := k1.2.2.2; have x2 := o41; rw [k3] at x2; have x5 := x2.1; have x6 := x2.2.1; exact Or.inr ⟨rfl, fun g => by have y := ((zt_og1 rfl).mp g).2.2; omega⟩)⟩
              · exfalso; omega
            · skip
              refine zz_if_eq (by omega) zd_14_100_88 (fun c94 => ?_) (fun c94 => ?_)
              · exfalso; omega
              · refine zz_iconst zd_14_100_91 ?_
                refine zz_goto zd_14_100_92 ?_
                have g95 := zz_G.r G_S68 1079 30 0 102 rfl rfl
                have g96 := zz_G.r G_S68 1079 32 0 1500 rfl rfl
                have g97 := zz_G.r G_S68 1079 31 0 9999 rfl rfl
                have e98 : S68 1079 64 = S0 1079 64 := (zz_rc fS68 rfl rfl (by first | decide | (intro h; exact absurd h.1 (by decide)) | omega) (zz_rc fS36 rfl rfl (fun h => h) (zz_rc fS6 rfl rfl (by first | decide | (intro h; exact absurd h.1 (by decide)) | omega) rfl)))
                have g99 := zz_G.r G_S6 1118 0 0 9999 rfl rfl
                have e100 : S68 1118 0 = S6 1118 0 := (zz_rc fS68 rfl rfl (by first | decide | (intro h; exact absurd h.2 (by decide)) | omega) (zz_rc fS36 rfl rfl (fun h => h) rfl))
                have g101 := zz_G.r G_S68 1118 1 0 9999 rfl rfl
                have g102 := zz_G.r G_S0 1118 2 0 9999 rfl rfl
                have e103 : S68 1118 2 = S0 1118 2 := (zz_rc fS68 rfl rfl (by first | decide | (intro h; exact absurd h.2 (by decide)) | omega) (zz_rc fS36 rfl rfl (fun h => h) (zz_rc fS6 rfl rfl (by first | decide | (intro h; exact absurd h.2 (by decide)) | omega) rfl)))
                have g104 := zz_G.r G_S0 1118 3 0 9999 rfl rfl
                have e105 : S68 1118 3 = S0 1118 3 := (zz_rc fS68 rfl rfl (by first | decide | (intro h; exact absurd h.2 (by decide)) | omega) (zz_rc fS36 rfl rfl (fun h => h) (zz_rc fS6 rfl rfl (by first | decide | (intro h; exact absurd h.2 (by decide)) | omega) rfl)))
                have g106 := zz_G.r G_S0 1118 4 0 9999 rfl rfl
                have e107 : S68 1118 4 = S0 1118 4 := (zz_rc fS68 rfl rfl (by first | decide | (intro h; exact absurd h.2 (by decide)) | omega) (zz_rc fS36 rfl rfl (fun h => h) (zz_rc fS6 rfl rfl (by first | decide | (intro h; exact absurd h.2 (by decide)) | omega) rfl)))
                have g108 := zz_G.r G_S0 1118 5 0 9999 rfl rfl
                have e109 : S68 1118 5 = S0 1118 5 := (zz_rc fS68 rfl rfl (by first | decide | (intro h; exact absurd h.2 (by decide)) | omega) (zz_rc fS36 rfl rfl (fun h => h) (zz_rc fS6 rfl rfl (by first | decide | (intro h; exact absurd h.2 (by decide)) | omega) rfl)))
                have g110 := zz_G.r G_S0 1118 6 0 9999 rfl rfl
                have e111 : S68 1118 6 = S0 1118 6 := (zz_rc fS68 rfl rfl (by first | decide | (intro h; exact absurd h.2 (by decide)) | omega) (zz_rc fS36 rfl rfl (fun h => h) (zz_rc fS6 rfl rfl (by first | decide | (intro h; exact absurd h.2 (by decide)) | omega) rfl)))
                have g112 := zz_G.r G_S0 1118 7 0 9999 rfl rfl
                have e113 : S68 1118 7 = S0 1118 7 := (zz_rc fS68 rfl rfl (by first | decide | (intro h; exact absurd h.2 (by decide)) | omega) (zz_rc fS36 rfl rfl (fun h => h) (zz_rc fS6 rfl rfl (by first | decide | (intro h; exact absurd h.2 (by decide)) | omega) rfl)))
                exact zz_zret zd_14_100_96 rfl (by omega) (Nat.zero_le _) (Nat.zero_le _) ⟨_, _, rfl, G_S68, F_S68, by omega, by omega, (fun p i o hM hi hb hD => by obtain ⟨⟨d1, d2, d3, d4, d5, d6, d7⟩, d9⟩ := hD; have m1 := hM.1; have m2 := hM.2.1; obtain rfl : i = 1 := (by have j9 := zt_b8j hi; omega); clear hb; have k1 := o11 rfl; rw [m2] at k1; have k2 := k1.1; have k3 := k1.2.1; have x1 := o40; have x4 := k1.2.2.2; have x2 := o41; rw [k3] at x2; have x5 := x2.1; have x6 := x2.2.1; have y1 := hM.2.2.1 (by omega); have y2 := x2.2.2.1 (by omega); have z4 := x4 (by omega); have k9 := o73 rfl; rw [x6] at k9; exact Or.inl ⟨rfl, (zt_og1 rfl).mpr ⟨by omega, ⟨by omega, by omega⟩, by omega⟩, k9, ⟨⟨(fun _ => ⟨(show S68 1118 0 = zt_tv (S0 1099) (S0 1079 33) p by omega), (show S68 1118 1 = zt_tv (S0 1099) (S0 1079 33) (zt_tn (S0 1099) (S0 1079 33) (zt_tn (S0 1099) (S0 1079 33) p)) by omega)⟩), (fun x => by have y := d2 x; exact (show S68 1118 2 = o 3 by omega)), (show S68 1118 3 = o 4 by omega), (show S68 1118 4 = o 5 by omega), (show S68 1118 5 = o 6 by omega), (show S68 1118 6 = o 7 by omega), (show S68 1118 7 = o 8 by omega)⟩, (show S68 1079 64 = o 9 by omega)⟩⟩)⟩
  by_cases c114 : p0 = 2
  · refine zz_lsw (off := 96) (by omega) zd_14_100_1 (by decide) (by rw [c114]; rfl) rfl ?_
    refine zz_aload_n (x := 1079) rfl zd_14_100_97 ?_
    refine zz_iconst zd_14_100_98 ?_
    have g115 := zz_G.r G_S0 1079 30 0 102 rfl rfl
    have g116 := zz_G.r G_S0 1079 32 0 1500 rfl rfl
    have g117 := zz_G.r G_S0 1079 31 0 9999 rfl rfl
    have g118 := zz_G.r G_S0 1079 33 0 1500 rfl rfl
    refine zz_callVI [zi 2] zd_14_100_99 zk_Md_550 zT_1079 (zz_ltn hn rfl) rfl rfl ⟨Nat.le_of_ble_eq_true rfl, Nat.le_of_ble_eq_true rfl⟩ ⟨rfl, rfl⟩ (Nat.zero_le _) (Nat.zero_le _) (zc_takeNet_14_95 2 S0 n hn G_S0 (by omega) hN) (fun v120 S119 hP => ?_)
    obtain ⟨G_S119, fS119, o121, o122, o123, o124⟩ := hP
    have o121 : 0 ≤ v120 ∧ v120 ≤ 1 := o121
    have o122 : S119 1079 32 > S0 1079 32 ∨ (S119 1079 32 = S0 1079 32 ∧ (S119 1079 30 = S0 1079 30 ∨ S119 1079 30 = 0 ∨ S119 1079 30 = 101)) := o122
    have o123 : (v120 = 1 ∧ S0 1079 30 = 100 ∧ S119 1118 2 = S0 1079 31) ∨ (v120 = 0 ∧ S0 1079 30 ≠ 100) := o123
    have o124 : v120 = 1 → zt_MK (S0 1099) (S0 1079 33) (S0 1079 32) (S119 1079 30) (S119 1079 32) (S119 1079 31) (S119 1079 61) := o124
    have F_S119 := zz_fr.trans F_S0 fS119 rfl (fun a i h => Or.inr (Or.inr (Or.inr (Or.inr (Or.inl h)))))
    rcases (by omega : v120 = 0 ∨ v120 = 1) with rfl | rfl
    · have g125 := zz_G.r G_S119 1079 30 0 102 rfl rfl
      have g126 := zz_G.r G_S119 1079 32 0 1500 rfl rfl
      have g127 := zz_G.r G_S119 1079 31 0 9999 rfl rfl
      have e128 : S119 1079 64 = S0 1079 64 := (zz_rc fS119 rfl rfl (by first | decide | (intro h; exact absurd h.1 (by decide)) | omega) rfl)
      have g129 := zz_G.r G_S0 1118 0 0 9999 rfl rfl
      have e130 : S119 1118 0 = S0 1118 0 := (zz_rc fS119 rfl rfl (by first | decide | (intro h; exact absurd h.2 (by decide)) | omega) rfl)
      have g131 := zz_G.r G_S0 1118 1 0 9999 rfl rfl
      have e132 : S119 1118 1 = S0 1118 1 := (zz_rc fS119 rfl rfl (by first | decide | (intro h; exact absurd h.2 (by decide)) | omega) rfl)
      have g133 := zz_G.r G_S119 1118 2 0 9999 rfl rfl
      have g134 := zz_G.r G_S0 1118 3 0 9999 rfl rfl
      have e135 : S119 1118 3 = S0 1118 3 := (zz_rc fS119 rfl rfl (by first | decide | (intro h; exact absurd h.2 (by decide)) | omega) rfl)
      have g136 := zz_G.r G_S0 1118 4 0 9999 rfl rfl
      have e137 : S119 1118 4 = S0 1118 4 := (zz_rc fS119 rfl rfl (by first | decide | (intro h; exact absurd h.2 (by decide)) | omega) rfl)
      have g138 := zz_G.r G_S0 1118 5 0 9999 rfl rfl
      have e139 : S119 1118 5 = S0 1118 5 := (zz_rc fS119 rfl rfl (by first | decide | (intro h; exact absurd h.2 (by decide)) | omega) rfl)
      have g140 := zz_G.r G_S0 1118 6 0 9999 rfl rfl
      have e141 : S119 1118 6 = S0 1118 6 := (zz_rc fS119 rfl rfl (by first | decide | (intro h; exact absurd h.2 (by decide)) | omega) rfl)
      have g142 := zz_G.r G_S0 1118 7 0 9999 rfl rfl
      have e143 : S119 1118 7 = S0 1118 7 := (zz_rc fS119 rfl rfl (by first | decide | (intro h; exact absurd h.2 (by decide)) | omega) rfl)
      exact zz_zret zd_14_100_102 rfl (by omega) (Nat.zero_le _) (Nat.zero_le _) ⟨_, _, rfl, G_S119, F_S119, by omega, by omega, (fun p i o hM hi hb hD => by obtain ⟨⟨d1, d2, d3, d4, d5, d6, d7⟩, d9⟩ := hD; have m1 := hM.1; have m2 := hM.2.1; obtain rfl : i = 2 := (by have j9 := zt_b8j hi; omega); clear hb; rcases o123 with x | x; have k9 := o124 x.1; rw [m2] at k9; have y1 := hM.2.2.1 (by omega); exact Or.inl ⟨x.1, (zt_ogk (by decide)).mpr (by omega), k9, ⟨⟨(fun x => by have y := d1 x; exact ⟨(show S119 1118 0 = o 1 by omega), (show S119 1118 1 = o 2 by omega)⟩), (fun _ => (show S119 1118 2 = zt_tv (S0 1099) (S0 1079 33) p by omega)), (show S119 1118 3 = o 4 by omega), (show S119 1118 4 = o 5 by omega), (show S119 1118 5 = o 6 by omega), (show S119 1118 6 = o 7 by omega), (show S119 1118 7 = o 8 by omega)⟩, (show S119 1079 64 = o 9 by omega)⟩⟩; exact Or.inr ⟨x.1, fun g => by have y := (zt_ogk (by decide)).mp g; omega⟩)⟩
    · have g144 := zz_G.r G_S119 1079 30 0 102 rfl rfl
      have g145 := zz_G.r G_S119 1079 32 0 1500 rfl rfl
      have g146 := zz_G.r G_S119 1079 31 0 9999 rfl rfl
      have e147 : S119 1079 64 = S0 1079 64 := (zz_rc fS119 rfl rfl (by first | decide | (intro h; exact absurd h.1 (by decide)) | omega) rfl)
      have g148 := zz_G.r G_S0 1118 0 0 9999 rfl rfl
      have e149 : S119 1118 0 = S0 1118 0 := (zz_rc fS119 rfl rfl (by first | decide | (intro h; exact absurd h.2 (by decide)) | omega) rfl)
      have g150 := zz_G.r G_S0 1118 1 0 9999 rfl rfl
      have e151 : S119 1118 1 = S0 1118 1 := (zz_rc fS119 rfl rfl (by first | decide | (intro h; exact absurd h.2 (by decide)) | omega) rfl)
      have g152 := zz_G.r G_S119 1118 2 0 9999 rfl rfl
      have g153 := zz_G.r G_S0 1118 3 0 9999 rfl rfl
      have e154 : S119 1118 3 = S0 1118 3 := (zz_rc fS119 rfl rfl (by first | decide | (intro h; exact absurd h.2 (by decide)) | omega) rfl)
      have g155 := zz_G.r G_S0 1118 4 0 9999 rfl rfl
      have e156 : S119 1118 4 = S0 1118 4 := (zz_rc fS119 rfl rfl (by first | decide | (intro h; exact absurd h.2 (by decide)) | omega) rfl)
      have g157 := zz_G.r G_S0 1118 5 0 9999 rfl rfl
      have e158 : S119 1118 5 = S0 1118 5 := (zz_rc fS119 rfl rfl (by first | decide | (intro h; exact absurd h.2 (by decide)) | omega) rfl)
      have g159 := zz_G.r G_S0 1118 6 0 9999 rfl rfl
      have e160 : S119 1118 6 = S0 1118 6 := (zz_rc fS119 rfl rfl (by first | decide | (intro h; exact absurd h.2 (by decide)) | omega) rfl)
      have g161 := zz_G.r G_S0 1118 7 0 9999 rfl rfl
      have e162 : S119 1118 7 = S0 1118 7 := (zz_rc fS119 rfl rfl (by first | decide | (intro h; exact absurd h.2 (by decide)) | omega) rfl)
      exact zz_zret zd_14_100_102 rfl (by omega) (Nat.zero_le _) (Nat.zero_le _) ⟨_, _, rfl, G_S119, F_S119, by omega, by omega, (fun p i o hM hi hb hD => by obtain ⟨⟨d1, d2, d3, d4, d5, d6, d7⟩, d9⟩ := hD; have m1 := hM.1; have m2 := hM.2.1; obtain rfl : i = 2 := (by have j9 := zt_b8j hi; omega); clear hb; rcases o123 with x | x; have k9 := o124 x.1; rw [m2] at k9; have y1 := hM.2.2.1 (by omega); exact Or.inl ⟨x.1, (zt_ogk (by decide)).mpr (by omega), k9, ⟨⟨(fun x => by have y := d1 x; exact ⟨(show S119 1118 0 = o 1 by omega), (show S119 1118 1 = o 2 by omega)⟩), (fun _ => (show S119 1118 2 = zt_tv (S0 1099) (S0 1079 33) p by omega)), (show S119 1118 3 = o 4 by omega), (show S119 1118 4 = o 5 by omega), (show S119 1118 5 = o 6 by omega), (show S119 1118 6 = o 7 by omega), (show S119 1118 7 = o 8 by omega)⟩, (show S119 1079 64 = o 9 by omega)⟩⟩; exact Or.inr ⟨x.1, fun g => by have y := (zt_ogk (by decide)).mp g; omega⟩)⟩
  by_cases c163 : p0 = 4
  · refine zz_lsw (off := 102) (by omega) zd_14_100_1 (by decide) (by rw [c163]; rfl) rfl ?_
    refine zz_aload_n (x := 1079) rfl zd_14_100_103 ?_
    refine zz_iconst zd_14_100_104 ?_
    have g164 := zz_G.r G_S0 1079 30 0 102 rfl rfl
    have g165 := zz_G.r G_S0 1079 32 0 1500 rfl rfl
    have g166 := zz_G.r G_S0 1079 31 0 9999 rfl rfl
    have g167 := zz_G.r G_S0 1079 33 0 1500 rfl rfl
    refine zz_callVI [zi 3] zd_14_100_105 zk_Md_550 zT_1079 (zz_ltn hn rfl) rfl rfl ⟨Nat.le_of_ble_eq_true rfl, Nat.le_of_ble_eq_true rfl⟩ ⟨rfl, rfl⟩ (Nat.zero_le _) (Nat.zero_le _) (zc_takeNet_14_95 3 S0 n hn G_S0 (by omega) hN) (fun v169 S168 hP => ?_)
    obtain ⟨G_S168, fS168, o170, o171, o172, o173⟩ := hP
    have o170 : 0 ≤ v169 ∧ v169 ≤ 1 := o170
    have o171 : S168 1079 32 > S0 1079 32 ∨ (S168 1079 32 = S0 1079 32 ∧ (S168 1079 30 = S0 1079 30 ∨ S168 1079 30 = 0 ∨ S168 1079 30 = 101)) := o171
    have o172 : (v169 = 1 ∧ S0 1079 30 = 100 ∧ S168 1118 3 = S0 1079 31) ∨ (v169 = 0 ∧ S0 1079 30 ≠ 100) := o172
    have o173 : v169 = 1 → zt_MK (S0 1099) (S0 1079 33) (S0 1079 32) (S168 1079 30) (S168 1079 32) (S168 1079 31) (S168 1079 61) := o173
    have F_S168 := zz_fr.trans F_S0 fS168 rfl (fun a i h => Or.inr (Or.inr (Or.inr (Or.inr (Or.inr (Or.inl h))))))
    rcases (by omega : v169 = 0 ∨ v169 = 1) with rfl | rfl
    · have g174 := zz_G.r G_S168 1079 30 0 102 rfl rfl
      have g175 := zz_G.r G_S168 1079 32 0 1500 rfl rfl
      have g176 := zz_G.r G_S168 1079 31 0 9999 rfl rfl
      have e177 : S168 1079 64 = S0 1079 64 := (zz_rc fS168 rfl rfl (by first | decide | (intro h; exact absurd h.1 (by decide)) | omega) rfl)
      have g178 := zz_G.r G_S0 1118 0 0 9999 rfl rfl
      have e179 : S168 1118 0 = S0 1118 0 := (zz_rc fS168 rfl rfl (by first | decide | (intro h; exact absurd h.2 (by decide)) | omega) rfl)
      have g180 := zz_G.r G_S0 1118 1 0 9999 rfl rfl
      have e181 : S168 1118 1 = S0 1118 1 := (zz_rc fS168 rfl rfl (by first | decide | (intro h; exact absurd h.2 (by decide)) | omega) rfl)
      have g182 := zz_G.r G_S0 1118 2 0 9999 rfl rfl
      have e183 : S168 1118 2 = S0 1118 2 := (zz_rc fS168 rfl rfl (by first | decide | (intro h; exact absurd h.2 (by decide)) | omega) rfl)
      have g184 := zz_G.r G_S168 1118 3 0 9999 rfl rfl
      have g185 := zz_G.r G_S0 1118 4 0 9999 rfl rfl
      have e186 : S168 1118 4 = S0 1118 4 := (zz_rc fS168 rfl rfl (by first | decide | (intro h; exact absurd h.2 (by decide)) | omega) rfl)
      have g187 := zz_G.r G_S0 1118 5 0 9999 rfl rfl
      have e188 : S168 1118 5 = S0 1118 5 := (zz_rc fS168 rfl rfl (by first | decide | (intro h; exact absurd h.2 (by decide)) | omega) rfl)
      have g189 := zz_G.r G_S0 1118 6 0 9999 rfl rfl
      have e190 : S168 1118 6 = S0 1118 6 := (zz_rc fS168 rfl rfl (by first | decide | (intro h; exact absurd h.2 (by decide)) | omega) rfl)
      have g191 := zz_G.r G_S0 1118 7 0 9999 rfl rfl
      have e192 : S168 1118 7 = S0 1118 7 := (zz_rc fS168 rfl rfl (by first | decide | (intro h; exact absurd h.2 (by decide)) | omega) rfl)
      exact zz_zret zd_14_100_108 rfl (by omega) (Nat.zero_le _) (Nat.zero_le _) ⟨_, _, rfl, G_S168, F_S168, by omega, by omega, (fun p i o hM hi hb hD => by obtain ⟨⟨d1, d2, d3, d4, d5, d6, d7⟩, d9⟩ := hD; have m1 := hM.1; have m2 := hM.2.1; obtain rfl : i = 3 := (by have j9 := zt_b8j hi; omega); clear hb; rcases o172 with x | x; have k9 := o173 x.1; rw [m2] at k9; have y1 := hM.2.2.1 (by omega); exact Or.inl ⟨x.1, (zt_ogk (by decide)).mpr (by omega), k9, ⟨⟨(fun x => by have y := d1 x; exact ⟨(show S168 1118 0 = o 1 by omega), (show S168 1118 1 = o 2 by omega)⟩), (fun x => by have y := d2 x; exact (show S168 1118 2 = o 3 by omega)), (show S168 1118 3 = zt_tv (S0 1099) (S0 1079 33) p by omega), (show S168 1118 4 = o 5 by omega), (show S168 1118 5 = o 6 by omega), (show S168 1118 6 = o 7 by omega), (show S168 1118 7 = o 8 by omega)⟩, (show S168 1079 64 = o 9 by omega)⟩⟩; exact Or.inr ⟨x.1, fun g => by have y := (zt_ogk (by decide)).mp g; omega⟩)⟩
    · have g193 := zz_G.r G_S168 1079 30 0 102 rfl rfl
      have g194 := zz_G.r G_S168 1079 32 0 1500 rfl rfl
      have g195 := zz_G.r G_S168 1079 31 0 9999 rfl rfl
      have e196 : S168 1079 64 = S0 1079 64 := (zz_rc fS168 rfl rfl (by first | decide | (intro h; exact absurd h.1 (by decide)) | omega) rfl)
      have g197 := zz_G.r G_S0 1118 0 0 9999 rfl rfl
      have e198 : S168 1118 0 = S0 1118 0 := (zz_rc fS168 rfl rfl (by first | decide | (intro h; exact absurd h.2 (by decide)) | omega) rfl)
      have g199 := zz_G.r G_S0 1118 1 0 9999 rfl rfl
      have e200 : S168 1118 1 = S0 1118 1 := (zz_rc fS168 rfl rfl (by first | decide | (intro h; exact absurd h.2 (by decide)) | omega) rfl)
      have g201 := zz_G.r G_S0 1118 2 0 9999 rfl rfl
      have e202 : S168 1118 2 = S0 1118 2 := (zz_rc fS168 rfl rfl (by first | decide | (intro h; exact absurd h.2 (by decide)) | omega) rfl)
      have g203 := zz_G.r G_S168 1118 3 0 9999 rfl rfl
      have g204 := zz_G.r G_S0 1118 4 0 9999 rfl rfl
      have e205 : S168 1118 4 = S0 1118 4 := (zz_rc fS168 rfl rfl (by first | decide | (intro h; exact absurd h.2 (by decide)) | omega) rfl)
      have g206 := zz_G.r G_S0 1118 5 0 9999 rfl rfl
      have e207 : S168 1118 5 = S0 1118 5 := (zz_rc fS168 rfl rfl (by first | decide | (intro h; exact absurd h.2 (by decide)) | omega) rfl)
      have g208 := zz_G.r G_S0 1118 6 0 9999 rfl rfl
      have e209 : S168 1118 6 = S0 1118 6 := (zz_rc fS168 rfl rfl (by first | decide | (intro h; exact absurd h.2 (by decide)) | omega) rfl)
      have g210 := zz_G.r G_S0 1118 7 0 9999 rfl rfl
      have e211 : S168 1118 7 = S0 1118 7 := (zz_rc fS168 rfl rfl (by first | decide | (intro h; exact absurd h.2 (by decide)) | omega) rfl)
      exact zz_zret zd_14_100_108 rfl (by omega) (Nat.zero_le _) (Nat.zero_le _) ⟨_, _, rfl, G_S168, F_S168, by omega, by omega, (fun p i o hM hi hb hD => by obtain ⟨⟨d1, d2, d3, d4, d5, d6, d7⟩, d9⟩ := hD; have m1 := hM.1; have m2 := hM.2.1; obtain rfl : i = 3 := (by have j9 := zt_b8j hi; omega); clear hb; rcases o172 with x | x; have k9 := o173 x.1; rw [m2] at k9; have y1 := hM.2.2.1 (by omega); exact Or.inl ⟨x.1, (zt_ogk (by decide)).mpr (by omega), k9, ⟨⟨(fun x => by have y := d1 x; exact ⟨(show S168 1118 0 = o 1 by omega), (show S168 1118 1 = o 2 by omega)⟩), (fun x => by have y := d2 x; exact (show S168 1118 2 = o 3 by omega)), (show S168 1118 3 = zt_tv (S0 1099) (S0 1079 33) p by omega), (show S168 1118 4 = o 5 by omega), (show S168 1118 5 = o 6 by omega), (show S168 1118 6 = o 7 by omega), (show S168 1118 7 = o 8 by omega)⟩, (show S168 1079 64 = o 9 by omega)⟩⟩; exact Or.inr ⟨x.1, fun g => by have y := (zt_ogk (by decide)).mp g; omega⟩)⟩
  by_cases c212 : p0 = 8
  · refine zz_lsw (off := 108) (by omega) zd_14_100_1 (by decide) (by rw [c212]; rfl) rfl ?_
    refine zz_aload_n (x := 1079) rfl zd_14_100_109 ?_
    refine zz_iconst zd_14_100_110 ?_
    have g213 := zz_G.r G_S0 1079 30 0 102 rfl rfl
    have g214 := zz_G.r G_S0 1079 32 0 1500 rfl rfl
    have g215 := zz_G.r G_S0 1079 31 0 9999 rfl rfl
    have g216 := zz_G.r G_S0 1079 33 0 1500 rfl rfl
    refine zz_callVI [zi 4] zd_14_100_111 zk_Md_550 zT_1079 (zz_ltn hn rfl) rfl rfl ⟨Nat.le_of_ble_eq_true rfl, Nat.le_of_ble_eq_true rfl⟩ ⟨rfl, rfl⟩ (Nat.zero_le _) (Nat.zero_le _) (zc_takeNet_14_95 4 S0 n hn G_S0 (by omega) hN) (fun v218 S217 hP => ?_)
    obtain ⟨G_S217, fS217, o219, o220, o221, o222⟩ := hP
    have o219 : 0 ≤ v218 ∧ v218 ≤ 1 := o219
    have o220 : S217 1079 32 > S0 1079 32 ∨ (S217 1079 32 = S0 1079 32 ∧ (S217 1079 30 = S0 1079 30 ∨ S217 1079 30 = 0 ∨ S217 1079 30 = 101)) := o220
    have o221 : (v218 = 1 ∧ S0 1079 30 = 100 ∧ S217 1118 4 = S0 1079 31) ∨ (v218 = 0 ∧ S0 1079 30 ≠ 100) := o221
    have o222 : v218 = 1 → zt_MK (S0 1099) (S0 1079 33) (S0 1079 32) (S217 1079 30) (S217 1079 32) (S217 1079 31) (S217 1079 61) := o222
    have F_S217 := zz_fr.trans F_S0 fS217 rfl (fun a i h => Or.inr (Or.inr (Or.inr (Or.inr (Or.inr (Or.inr (Or.inl h)))))))
    rcases (by omega : v218 = 0 ∨ v218 = 1) with rfl | rfl
    · have g223 := zz_G.r G_S217 1079 30 0 102 rfl rfl
      have g224 := zz_G.r G_S217 1079 32 0 1500 rfl rfl
      have g225 := zz_G.r G_S217 1079 31 0 9999 rfl rfl
      have e226 : S217 1079 64 = S0 1079 64 := (zz_rc fS217 rfl rfl (by first | decide | (intro h; exact absurd h.1 (by decide)) | omega) rfl)
      have g227 := zz_G.r G_S0 1118 0 0 9999 rfl rfl
      have e228 : S217 1118 0 = S0 1118 0 := (zz_rc fS217 rfl rfl (by first | decide | (intro h; exact absurd h.2 (by decide)) | omega) rfl)
      have g229 := zz_G.r G_S0 1118 1 0 9999 rfl rfl
      have e230 : S217 1118 1 = S0 1118 1 := (zz_rc fS217 rfl rfl (by first | decide | (intro h; exact absurd h.2 (by decide)) | omega) rfl)
      have g231 := zz_G.r G_S0 1118 2 0 9999 rfl rfl
      have e232 : S217 1118 2 = S0 1118 2 := (zz_rc fS217 rfl rfl (by first | decide | (intro h; exact absurd h.2 (by decide)) | omega) rfl)
      have g233 := zz_G.r G_S0 1118 3 0 9999 rfl rfl
      have e234 : S217 1118 3 = S0 1118 3 := (zz_rc fS217 rfl rfl (by first | decide | (intro h; exact absurd h.2 (by decide)) | omega) rfl)
      have g235 := zz_G.r G_S217 1118 4 0 9999 rfl rfl
      have g236 := zz_G.r G_S0 1118 5 0 9999 rfl rfl
      have e237 : S217 1118 5 = S0 1118 5 := (zz_rc fS217 rfl rfl (by first | decide | (intro h; exact absurd h.2 (by decide)) | omega) rfl)
      have g238 := zz_G.r G_S0 1118 6 0 9999 rfl rfl
      have e239 : S217 1118 6 = S0 1118 6 := (zz_rc fS217 rfl rfl (by first | decide | (intro h; exact absurd h.2 (by decide)) | omega) rfl)
      have g240 := zz_G.r G_S0 1118 7 0 9999 rfl rfl
      have e241 : S217 1118 7 = S0 1118 7 := (zz_rc fS217 rfl rfl (by first | decide | (intro h; exact absurd h.2 (by decide)) | omega) rfl)
      exact zz_zret zd_14_100_114 rfl (by omega) (Nat.zero_le _) (Nat.zero_le _) ⟨_, _, rfl, G_S217, F_S217, by omega, by omega, (fun p i o hM hi hb hD => by obtain ⟨⟨d1, d2, d3, d4, d5, d6, d7⟩, d9⟩ := hD; have m1 := hM.1; have m2 := hM.2.1; obtain rfl : i = 4 := (by have j9 := zt_b8j hi; omega); clear hb; rcases o221 with x | x; have k9 := o222 x.1; rw [m2] at k9; have y1 := hM.2.2.1 (by omega); exact Or.inl ⟨x.1, (zt_ogk (by decide)).mpr (by omega), k9, ⟨⟨(fun x => by have y := d1 x; exact ⟨(show S217 1118 0 = o 1 by omega), (show S217 1118 1 = o 2 by omega)⟩), (fun x => by have y := d2 x; exact (show S217 1118 2 = o 3 by omega)), (show S217 1118 3 = o 4 by omega), (show S217 1118 4 = zt_tv (S0 1099) (S0 1079 33) p by omega), (show S217 1118 5 = o 6 by omega), (show S217 1118 6 = o 7 by omega), (show S217 1118 7 = o 8 by omega)⟩, (show S217 1079 64 = o 9 by omega)⟩⟩; exact Or.inr ⟨x.1, fun g => by have y := (zt_ogk (by decide)).mp g; omega⟩)⟩
    · have g242 := zz_G.r G_S217 1079 30 0 102 rfl rfl
      have g243 := zz_G.r G_S217 1079 32 0 1500 rfl rfl
      have g244 := zz_G.r G_S217 1079 31 0 9999 rfl rfl
      have e245 : S217 1079 64 = S0 1079 64 := (zz_rc fS217 rfl rfl (by first | decide | (intro h; exact absurd h.1 (by decide)) | omega) rfl)
      have g246 := zz_G.r G_S0 1118 0 0 9999 rfl rfl
      have e247 : S217 1118 0 = S0 1118 0 := (zz_rc fS217 rfl rfl (by first | decide | (intro h; exact absurd h.2 (by decide)) | omega) rfl)
      have g248 := zz_G.r G_S0 1118 1 0 9999 rfl rfl
      have e249 : S217 1118 1 = S0 1118 1 := (zz_rc fS217 rfl rfl (by first | decide | (intro h; exact absurd h.2 (by decide)) | omega) rfl)
      have g250 := zz_G.r G_S0 1118 2 0 9999 rfl rfl
      have e251 : S217 1118 2 = S0 1118 2 := (zz_rc fS217 rfl rfl (by first | decide | (intro h; exact absurd h.2 (by decide)) | omega) rfl)
      have g252 := zz_G.r G_S0 1118 3 0 9999 rfl rfl
      have e253 : S217 1118 3 = S0 1118 3 := (zz_rc fS217 rfl rfl (by first | decide | (intro h; exact absurd h.2 (by decide)) | omega) rfl)
      have g254 := zz_G.r G_S217 1118 4 0 9999 rfl rfl
      have g255 := zz_G.r G_S0 1118 5 0 9999 rfl rfl
      have e256 : S217 1118 5 = S0 1118 5 := (zz_rc fS217 rfl rfl (by first | decide | (intro h; exact absurd h.2 (by decide)) | omega) rfl)
      have g257 := zz_G.r G_S0 1118 6 0 9999 rfl rfl
      have e258 : S217 1118 6 = S0 1118 6 := (zz_rc fS217 rfl rfl (by first | decide | (intro h; exact absurd h.2 (by decide)) | omega) rfl)
      have g259 := zz_G.r G_S0 1118 7 0 9999 rfl rfl
      have e260 : S217 1118 7 = S0 1118 7 := (zz_rc fS217 rfl rfl (by first | decide | (intro h; exact absurd h.2 (by decide)) | omega) rfl)
      exact zz_zret zd_14_100_114 rfl (by omega) (Nat.zero_le _) (Nat.zero_le _) ⟨_, _, rfl, G_S217, F_S217, by omega, by omega, (fun p i o hM hi hb hD => by obtain ⟨⟨d1, d2, d3, d4, d5, d6, d7⟩, d9⟩ := hD; have m1 := hM.1; have m2 := hM.2.1; obtain rfl : i = 4 := (by have j9 := zt_b8j hi; omega); clear hb; rcases o221 with x | x; have k9 := o222 x.1; rw [m2] at k9; have y1 := hM.2.2.1 (by omega); exact Or.inl ⟨x.1, (zt_ogk (by decide)).mpr (by omega), k9, ⟨⟨(fun x => by have y := d1 x; exact ⟨(show S217 1118 0 = o 1 by omega), (show S217 1118 1 = o 2 by omega)⟩), (fun x => by have y := d2 x; exact (show S217 1118 2 = o 3 by omega)), (show S217 1118 3 = o 4 by omega), (show S217 1118 4 = zt_tv (S0 1099) (S0 1079 33) p by omega), (show S217 1118 5 = o 6 by omega), (show S217 1118 6 = o 7 by omega), (show S217 1118 7 = o 8 by omega)⟩, (show S217 1079 64 = o 9 by omega)⟩⟩; exact Or.inr ⟨x.1, fun g => by have y := (zt_ogk (by decide)).mp g; omega⟩)⟩
  by_cases c261 : p0 = 16
  · refine zz_lsw (off := 114) (by omega) zd_14_100_1 (by decide) (by rw [c261]; rfl) rfl ?_
    refine zz_aload_n (x := 1079) rfl zd_14_100_115 ?_
    refine zz_iconst zd_14_100_116 ?_
    have g262 := zz_G.r G_S0 1079 30 0 102 rfl rfl
    have g263 := zz_G.r G_S0 1079 32 0 1500 rfl rfl
    have g264 := zz_G.r G_S0 1079 31 0 9999 rfl rfl
    have g265 := zz_G.r G_S0 1079 33 0 1500 rfl rfl
    refine zz_callVI [zi 5] zd_14_100_117 zk_Md_550 zT_1079 (zz_ltn hn rfl) rfl rfl ⟨Nat.le_of_ble_eq_true rfl, Nat.le_of_ble_eq_true rfl⟩ ⟨rfl, rfl⟩ (Nat.zero_le _) (Nat.zero_le _) (zc_takeNet_14_95 5 S0 n hn G_S0 (by omega) hN) (fun v267 S266 hP => ?_)
    obtain ⟨G_S266, fS266, o268, o269, o270, o271⟩ := hP
    have o268 : 0 ≤ v267 ∧ v267 ≤ 1 := o268
    have o269 : S266 1079 32 > S0 1079 32 ∨ (S266 1079 32 = S0 1079 32 ∧ (S266 1079 30 = S0 1079 30 ∨ S266 1079 30 = 0 ∨ S266 1079 30 = 101)) := o269
    have o270 : (v267 = 1 ∧ S0 1079 30 = 100 ∧ S266 1118 5 = S0 1079 31) ∨ (v267 = 0 ∧ S0 1079 30 ≠ 100) := o270
    have o271 : v267 = 1 → zt_MK (S0 1099) (S0 1079 33) (S0 1079 32) (S266 1079 30) (S266 1079 32) (S266 1079 31) (S266 1079 61) := o271
    have F_S266 := zz_fr.trans F_S0 fS266 rfl (fun a i h => Or.inr (Or.inr (Or.inr (Or.inr (Or.inr (Or.inr (Or.inr (Or.inl h))))))))
    rcases (by omega : v267 = 0 ∨ v267 = 1) with rfl | rfl
    · have g272 := zz_G.r G_S266 1079 30 0 102 rfl rfl
      have g273 := zz_G.r G_S266 1079 32 0 1500 rfl rfl
      have g274 := zz_G.r G_S266 1079 31 0 9999 rfl rfl
      have e275 : S266 1079 64 = S0 1079 64 := (zz_rc fS266 rfl rfl (by first | decide | (intro h; exact absurd h.1 (by decide)) | omega) rfl)
      have g276 := zz_G.r G_S0 1118 0 0 9999 rfl rfl
      have e277 : S266 1118 0 = S0 1118 0 := (zz_rc fS266 rfl rfl (by first | decide | (intro h; exact absurd h.2 (by decide)) | omega) rfl)
      have g278 := zz_G.r G_S0 1118 1 0 9999 rfl rfl
      have e279 : S266 1118 1 = S0 1118 1 := (zz_rc fS266 rfl rfl (by first | decide | (intro h; exact absurd h.2 (by decide)) | omega) rfl)
      have g280 := zz_G.r G_S0 1118 2 0 9999 rfl rfl
      have e281 : S266 1118 2 = S0 1118 2 := (zz_rc fS266 rfl rfl (by first | decide | (intro h; exact absurd h.2 (by decide)) | omega) rfl)
      have g282 := zz_G.r G_S0 1118 3 0 9999 rfl rfl
      have e283 : S266 1118 3 = S0 1118 3 := (zz_rc fS266 rfl rfl (by first | decide | (intro h; exact absurd h.2 (by decide)) | omega) rfl)
      have g284 := zz_G.r G_S0 1118 4 0 9999 rfl rfl
      have e285 : S266 1118 4 = S0 1118 4 := (zz_rc fS266 rfl rfl (by first | decide | (intro h; exact absurd h.2 (by decide)) | omega) rfl)
      have g286 := zz_G.r G_S266 1118 5 0 9999 rfl rfl
      have g287 := zz_G.r G_S0 1118 6 0 9999 rfl rfl
      have e288 : S266 1118 6 = S0 1118 6 := (zz_rc fS266 rfl rfl (by first | decide | (intro h; exact absurd h.2 (by decide)) | omega) rfl)
      have g289 := zz_G.r G_S0 1118 7 0 9999 rfl rfl
      have e290 : S266 1118 7 = S0 1118 7 := (zz_rc fS266 rfl rfl (by first | decide | (intro h; exact absurd h.2 (by decide)) | omega) rfl)
      exact zz_zret zd_14_100_120 rfl (by omega) (Nat.zero_le _) (Nat.zero_le _) ⟨_, _, rfl, G_S266, F_S266, by omega, by omega, (fun p i o hM hi hb hD => by obtain ⟨⟨d1, d2, d3, d4, d5, d6, d7⟩, d9⟩ := hD; have m1 := hM.1; have m2 := hM.2.1; obtain rfl : i = 5 := (by have j9 := zt_b8j hi; omega); clear hb; rcases o270 with x | x; have k9 := o271 x.1; rw [m2] at k9; have y1 := hM.2.2.1 (by omega); exact Or.inl ⟨x.1, (zt_ogk (by decide)).mpr (by omega), k9, ⟨⟨(fun x => by have y := d1 x; exact ⟨(show S266 1118 0 = o 1 by omega), (show S266 1118 1 = o 2 by omega)⟩), (fun x => by have y := d2 x; exact (show S266 1118 2 = o 3 by omega)), (show S266 1118 3 = o 4 by omega), (show S266 1118 4 = o 5 by omega), (show S266 1118 5 = zt_tv (S0 1099) (S0 1079 33) p by omega), (show S266 1118 6 = o 7 by omega), (show S266 1118 7 = o 8 by omega)⟩, (show S266 1079 64 = o 9 by omega)⟩⟩; exact Or.inr ⟨x.1, fun g => by have y := (zt_ogk (by decide)).mp g; omega⟩)⟩
    · have g291 := zz_G.r G_S266 1079 30 0 102 rfl rfl
      have g292 := zz_G.r G_S266 1079 32 0 1500 rfl rfl
      have g293 := zz_G.r G_S266 1079 31 0 9999 rfl rfl
      have e294 : S266 1079 64 = S0 1079 64 := (zz_rc fS266 rfl rfl (by first | decide | (intro h; exact absurd h.1 (by decide)) | omega) rfl)
      have g295 := zz_G.r G_S0 1118 0 0 9999 rfl rfl
      have e296 : S266 1118 0 = S0 1118 0 := (zz_rc fS266 rfl rfl (by first | decide | (intro h; exact absurd h.2 (by decide)) | omega) rfl)
      have g297 := zz_G.r G_S0 1118 1 0 9999 rfl rfl
      have e298 : S266 1118 1 = S0 1118 1 := (zz_rc fS266 rfl rfl (by first | decide | (intro h; exact absurd h.2 (by decide)) | omega) rfl)
      have g299 := zz_G.r G_S0 1118 2 0 9999 rfl rfl
      have e300 : S266 1118 2 = S0 1118 2 := (zz_rc fS266 rfl rfl (by first | decide | (intro h; exact absurd h.2 (by decide)) | omega) rfl)
      have g301 := zz_G.r G_S0 1118 3 0 9999 rfl rfl
      have e302 : S266 1118 3 = S0 1118 3 := (zz_rc fS266 rfl rfl (by first | decide | (intro h; exact absurd h.2 (by decide)) | omega) rfl)
      have g303 := zz_G.r G_S0 1118 4 0 9999 rfl rfl
      have e304 : S266 1118 4 = S0 1118 4 := (zz_rc fS266 rfl rfl (by first | decide | (intro h; exact absurd h.2 (by decide)) | omega) rfl)
      have g305 := zz_G.r G_S266 1118 5 0 9999 rfl rfl
      have g306 := zz_G.r G_S0 1118 6 0 9999 rfl rfl
      have e307 : S266 1118 6 = S0 1118 6 := (zz_rc fS266 rfl rfl (by first | decide | (intro h; exact absurd h.2 (by decide)) | omega) rfl)
      have g308 := zz_G.r G_S0 1118 7 0 9999 rfl rfl
      have e309 : S266 1118 7 = S0 1118 7 := (zz_rc fS266 rfl rfl (by first | decide | (intro h; exact absurd h.2 (by decide)) | omega) rfl)
      exact zz_zret zd_14_100_120 rfl (by omega) (Nat.zero_le _) (Nat.zero_le _) ⟨_, _, rfl, G_S266, F_S266, by omega, by omega, (fun p i o hM hi hb hD => by obtain ⟨⟨d1, d2, d3, d4, d5, d6, d7⟩, d9⟩ := hD; have m1 := hM.1; have m2 := hM.2.1; obtain rfl : i = 5 := (by have j9 := zt_b8j hi; omega); clear hb; rcases o270 with x | x; have k9 := o271 x.1; rw [m2] at k9; have y1 := hM.2.2.1 (by omega); exact Or.inl ⟨x.1, (zt_ogk (by decide)).mpr (by omega), k9, ⟨⟨(fun x => by have y := d1 x; exact ⟨(show S266 1118 0 = o 1 by omega), (show S266 1118 1 = o 2 by omega)⟩), (fun x => by have y := d2 x; exact (show S266 1118 2 = o 3 by omega)), (show S266 1118 3 = o 4 by omega), (show S266 1118 4 = o 5 by omega), (show S266 1118 5 = zt_tv (S0 1099) (S0 1079 33) p by omega), (show S266 1118 6 = o 7 by omega), (show S266 1118 7 = o 8 by omega)⟩, (show S266 1079 64 = o 9 by omega)⟩⟩; exact Or.inr ⟨x.1, fun g => by have y := (zt_ogk (by decide)).mp g; omega⟩)⟩
  by_cases c310 : p0 = 32
  · refine zz_lsw (off := 120) (by omega) zd_14_100_1 (by decide) (by rw [c310]; rfl) rfl ?_
    refine zz_aload_n (x := 1079) rfl zd_14_100_121 ?_
    refine zz_bipush (by decide) zd_14_100_122 ?_
    have g311 := zz_G.r G_S0 1079 30 0 102 rfl rfl
    have g312 := zz_G.r G_S0 1079 32 0 1500 rfl rfl
    have g313 := zz_G.r G_S0 1079 31 0 9999 rfl rfl
    have g314 := zz_G.r G_S0 1079 33 0 1500 rfl rfl
    refine zz_callVI [zi 6] zd_14_100_124 zk_Md_550 zT_1079 (zz_ltn hn rfl) rfl rfl ⟨Nat.le_of_ble_eq_true rfl, Nat.le_of_ble_eq_true rfl⟩ ⟨rfl, rfl⟩ (Nat.zero_le _) (Nat.zero_le _) (zc_takeNet_14_95 6 S0 n hn G_S0 (by omega) hN) (fun v316 S315 hP => ?_)
    obtain ⟨G_S315, fS315, o317, o318, o319, o320⟩ := hP
    have o317 : 0 ≤ v316 ∧ v316 ≤ 1 := o317
    have o318 : S315 1079 32 > S0 1079 32 ∨ (S315 1079 32 = S0 1079 32 ∧ (S315 1079 30 = S0 1079 30 ∨ S315 1079 30 = 0 ∨ S315 1079 30 = 101)) := o318
    have o319 : (v316 = 1 ∧ S0 1079 30 = 100 ∧ S315 1118 6 = S0 1079 31) ∨ (v316 = 0 ∧ S0 1079 30 ≠ 100) := o319
    have o320 : v316 = 1 → zt_MK (S0 1099) (S0 1079 33) (S0 1079 32) (S315 1079 30) (S315 1079 32) (S315 1079 31) (S315 1079 61) := o320
    have F_S315 := zz_fr.trans F_S0 fS315 rfl (fun a i h => Or.inr (Or.inr (Or.inr (Or.inr (Or.inr (Or.inr (Or.inr (Or.inr (h)))))))))
    rcases (by omega : v316 = 0 ∨ v316 = 1) with rfl | rfl
    · have g321 := zz_G.r G_S315 1079 30 0 102 rfl rfl
      have g322 := zz_G.r G_S315 1079 32 0 1500 rfl rfl
      have g323 := zz_G.r G_S315 1079 31 0 9999 rfl rfl
      have e324 : S315 1079 64 = S0 1079 64 := (zz_rc fS315 rfl rfl (by first | decide | (intro h; exact absurd h.1 (by decide)) | omega) rfl)
      have g325 := zz_G.r G_S0 1118 0 0 9999 rfl rfl
      have e326 : S315 1118 0 = S0 1118 0 := (zz_rc fS315 rfl rfl (by first | decide | (intro h; exact absurd h.2 (by decide)) | omega) rfl)
      have g327 := zz_G.r G_S0 1118 1 0 9999 rfl rfl
      have e328 : S315 1118 1 = S0 1118 1 := (zz_rc fS315 rfl rfl (by first | decide | (intro h; exact absurd h.2 (by decide)) | omega) rfl)
      have g329 := zz_G.r G_S0 1118 2 0 9999 rfl rfl
      have e330 : S315 1118 2 = S0 1118 2 := (zz_rc fS315 rfl rfl (by first | decide | (intro h; exact absurd h.2 (by decide)) | omega) rfl)
      have g331 := zz_G.r G_S0 1118 3 0 9999 rfl rfl
      have e332 : S315 1118 3 = S0 1118 3 := (zz_rc fS315 rfl rfl (by first | decide | (intro h; exact absurd h.2 (by decide)) | omega) rfl)
      have g333 := zz_G.r G_S0 1118 4 0 9999 rfl rfl
      have e334 : S315 1118 4 = S0 1118 4 := (zz_rc fS315 rfl rfl (by first | decide | (intro h; exact absurd h.2 (by decide)) | omega) rfl)
      have g335 := zz_G.r G_S0 1118 5 0 9999 rfl rfl
      have e336 : S315 1118 5 = S0 1118 5 := (zz_rc fS315 rfl rfl (by first | decide | (intro h; exact absurd h.2 (by decide)) | omega) rfl)
      have g337 := zz_G.r G_S315 1118 6 0 9999 rfl rfl
      have g338 := zz_G.r G_S0 1118 7 0 9999 rfl rfl
      have e339 : S315 1118 7 = S0 1118 7 := (zz_rc fS315 rfl rfl (by first | decide | (intro h; exact absurd h.2 (by decide)) | omega) rfl)
      exact zz_zret zd_14_100_127 rfl (by omega) (Nat.zero_le _) (Nat.zero_le _) ⟨_, _, rfl, G_S315, F_S315, by omega, by omega, (fun p i o hM hi hb hD => by obtain ⟨⟨d1, d2, d3, d4, d5, d6, d7⟩, d9⟩ := hD; have m1 := hM.1; have m2 := hM.2.1; obtain rfl : i = 6 := (by have j9 := zt_b8j hi; omega); clear hb; rcases o319 with x | x; have k9 := o320 x.1; rw [m2] at k9; have y1 := hM.2.2.1 (by omega); exact Or.inl ⟨x.1, (zt_ogk (by decide)).mpr (by omega), k9, ⟨⟨(fun x => by have y := d1 x; exact ⟨(show S315 1118 0 = o 1 by omega), (show S315 1118 1 = o 2 by omega)⟩), (fun x => by have y := d2 x; exact (show S315 1118 2 = o 3 by omega)), (show S315 1118 3 = o 4 by omega), (show S315 1118 4 = o 5 by omega), (show S315 1118 5 = o 6 by omega), (show S315 1118 6 = zt_tv (S0 1099) (S0 1079 33) p by omega), (show S315 1118 7 = o 8 by omega)⟩, (show S315 1079 64 = o 9 by omega)⟩⟩; exact Or.inr ⟨x.1, fun g => by have y := (zt_ogk (by decide)).mp g; omega⟩)⟩
    · have g340 := zz_G.r G_S315 1079 30 0 102 rfl rfl
      have g341 := zz_G.r G_S315 1079 32 0 1500 rfl rfl
      have g342 := zz_G.r G_S315 1079 31 0 9999 rfl rfl
      have e343 : S315 1079 64 = S0 1079 64 := (zz_rc fS315 rfl rfl (by first | decide | (intro h; exact absurd h.1 (by decide)) | omega) rfl)
      have g344 := zz_G.r G_S0 1118 0 0 9999 rfl rfl
      have e345 : S315 1118 0 = S0 1118 0 := (zz_rc fS315 rfl rfl (by first | decide | (intro h; exact absurd h.2 (by decide)) | omega) rfl)
      have g346 := zz_G.r G_S0 1118 1 0 9999 rfl rfl
      have e347 : S315 1118 1 = S0 1118 1 := (zz_rc fS315 rfl rfl (by first | decide | (intro h; exact absurd h.2 (by decide)) | omega) rfl)
      have g348 := zz_G.r G_S0 1118 2 0 9999 rfl rfl
      have e349 : S315 1118 2 = S0 1118 2 := (zz_rc fS315 rfl rfl (by first | decide | (intro h; exact absurd h.2 (by decide)) | omega) rfl)
      have g350 := zz_G.r G_S0 1118 3 0 9999 rfl rfl
      have e351 : S315 1118 3 = S0 1118 3 := (zz_rc fS315 rfl rfl (by first | decide | (intro h; exact absurd h.2 (by decide)) | omega) rfl)
      have g352 := zz_G.r G_S0 1118 4 0 9999 rfl rfl
      have e353 : S315 1118 4 = S0 1118 4 := (zz_rc fS315 rfl rfl (by first | decide | (intro h; exact absurd h.2 (by decide)) | omega) rfl)
      have g354 := zz_G.r G_S0 1118 5 0 9999 rfl rfl
      have e355 : S315 1118 5 = S0 1118 5 := (zz_rc fS315 rfl rfl (by first | decide | (intro h; exact absurd h.2 (by decide)) | omega) rfl)
      have g356 := zz_G.r G_S315 1118 6 0 9999 rfl rfl
      have g357 := zz_G.r G_S0 1118 7 0 9999 rfl rfl
      have e358 : S315 1118 7 = S0 1118 7 := (zz_rc fS315 rfl rfl (by first | decide | (intro h; exact absurd h.2 (by decide)) | omega) rfl)
      exact zz_zret zd_14_100_127 rfl (by omega) (Nat.zero_le _) (Nat.zero_le _) ⟨_, _, rfl, G_S315, F_S315, by omega, by omega, (fun p i o hM hi hb hD => by obtain ⟨⟨d1, d2, d3, d4, d5, d6, d7⟩, d9⟩ := hD; have m1 := hM.1; have m2 := hM.2.1; obtain rfl : i = 6 := (by have j9 := zt_b8j hi; omega); clear hb; rcases o319 with x | x; have k9 := o320 x.1; rw [m2] at k9; have y1 := hM.2.2.1 (by omega); exact Or.inl ⟨x.1, (zt_ogk (by decide)).mpr (by omega), k9, ⟨⟨(fun x => by have y := d1 x; exact ⟨(show S315 1118 0 = o 1 by omega), (show S315 1118 1 = o 2 by omega)⟩), (fun x => by have y := d2 x; exact (show S315 1118 2 = o 3 by omega)), (show S315 1118 3 = o 4 by omega), (show S315 1118 4 = o 5 by omega), (show S315 1118 5 = o 6 by omega), (show S315 1118 6 = zt_tv (S0 1099) (S0 1079 33) p by omega), (show S315 1118 7 = o 8 by omega)⟩, (show S315 1079 64 = o 9 by omega)⟩⟩; exact Or.inr ⟨x.1, fun g => by have y := (zt_ogk (by decide)).mp g; omega⟩)⟩
  by_cases c359 : p0 = 64
  · refine zz_lsw (off := 127) (by omega) zd_14_100_1 (by decide) (by rw [c359]; rfl) rfl ?_
    refine zz_aload_n (x := 1079) rfl zd_14_100_128 ?_
    refine zz_getr (kd := 0) (z := 1118) zd_14_100_129 zf_Md_136 zT_1079 rfl (zz_ltn hn rfl) (zz_G.eq G_S0 1079 63 1118 rfl rfl) (by decide) 1118 rfl ?_
    refine zz_bipush (by decide) zd_14_100_132 ?_
    refine zz_iconst zd_14_100_134 ?_
    refine zz_iast zd_14_100_135 zT_1118 rfl (zz_ltn hn rfl) (by decide) (by decide) (fun S360 qS360 => ?_)
    have G_S360 := zz_G.put G_S0 qS360 0 9999 rfl (by omega)
    have F_S360 := zz_fr.puts F_S0 qS360 rfl
    refine zz_iconst zd_14_100_136 ?_
    have g361 := zz_G.r G_S0 1079 30 0 102 rfl rfl
    have e362 : S360 1079 30 = S0 1079 30 := (zz_ro qS360 (fun h => absurd h.1 (by decide)) rfl)
    have g363 := zz_G.r G_S0 1079 32 0 1500 rfl rfl
    have e364 : S360 1079 32 = S0 1079 32 := (zz_ro qS360 (fun h => absurd h.1 (by decide)) rfl)
    have g365 := zz_G.r G_S0 1079 31 0 9999 rfl rfl
    have e366 : S360 1079 31 = S0 1079 31 := (zz_ro qS360 (fun h => absurd h.1 (by decide)) rfl)
    have e367 : S360 1079 61 = S0 1079 61 := (zz_ro qS360 (fun h => absurd h.1 (by decide)) rfl)
    have e368 : S360 1079 64 = S0 1079 64 := (zz_ro qS360 (fun h => absurd h.1 (by decide)) rfl)
    have g369 := zz_G.r G_S0 1118 0 0 9999 rfl rfl
    have e370 : S360 1118 0 = S0 1118 0 := (zz_ro qS360 (fun h => absurd h.2 (by decide)) rfl)
    have g371 := zz_G.r G_S0 1118 1 0 9999 rfl rfl
    have e372 : S360 1118 1 = S0 1118 1 := (zz_ro qS360 (fun h => absurd h.2 (by decide)) rfl)
    have g373 := zz_G.r G_S0 1118 2 0 9999 rfl rfl
    have e374 : S360 1118 2 = S0 1118 2 := (zz_ro qS360 (fun h => absurd h.2 (by decide)) rfl)
    have g375 := zz_G.r G_S0 1118 3 0 9999 rfl rfl
    have e376 : S360 1118 3 = S0 1118 3 := (zz_ro qS360 (fun h => absurd h.2 (by decide)) rfl)
    have g377 := zz_G.r G_S0 1118 4 0 9999 rfl rfl
    have e378 : S360 1118 4 = S0 1118 4 := (zz_ro qS360 (fun h => absurd h.2 (by decide)) rfl)
    have g379 := zz_G.r G_S0 1118 5 0 9999 rfl rfl
    have e380 : S360 1118 5 = S0 1118 5 := (zz_ro qS360 (fun h => absurd h.2 (by decide)) rfl)
    have g381 := zz_G.r G_S0 1118 6 0 9999 rfl rfl
    have e382 : S360 1118 6 = S0 1118 6 := (zz_ro qS360 (fun h => absurd h.2 (by decide)) rfl)
    have e383 : S360 1118 7 = 1 := (zz_rs qS360)
    exact zz_zret zd_14_100_137 rfl (by omega) (Nat.zero_le _) (Nat.zero_le _) ⟨_, _, rfl, G_S360, F_S360, by omega, by omega, (fun p i o hM hi hb hD => by obtain ⟨⟨d1, d2, d3, d4, d5, d6, d7⟩, d9⟩ := hD; have m1 := hM.1; have m2 := hM.2.1; obtain rfl : i = 7 := (by have j9 := zt_b8j hi; omega); clear hb; exact Or.inl ⟨rfl, zt_og7 rfl, (show zt_MK (S0 1099) (S0 1079 33) p (S360 1079 30) (S360 1079 32) (S360 1079 31) (S360 1079 61) from ⟨by omega, by omega, fun x => by have y := hM.2.2.1 (by omega); omega, fun x => by have y := hM.2.2.2 (by omega); omega⟩), ⟨⟨(fun x => by have y := d1 x; exact ⟨(show S360 1118 0 = o 1 by omega), (show S360 1118 1 = o 2 by omega)⟩), (fun x => by have y := d2 x; exact (show S360 1118 2 = o 3 by omega)), (show S360 1118 3 = o 4 by omega), (show S360 1118 4 = o 5 by omega), (show S360 1118 5 = o 6 by omega), (show S360 1118 6 = o 7 by omega), (show S360 1118 7 = 1 by omega)⟩, (show S360 1079 64 = o 9 by omega)⟩⟩)⟩
  refine zz_lsw (off := 137) (by omega) zd_14_100_1 (by decide) (by simp [Op.lookupswitch.offset]; omega) rfl ?_
  refine zz_aload_n (x := 1079) rfl zd_14_100_138 ?_
  have g384 := zz_G.r G_S0 1079 30 0 102 rfl rfl
  refine zz_geti (z := S0 1079 30) zd_14_100_139 zf_Md_347 zT_1079 rfl (zz_ltn hn rfl) rfl ?_
  refine zz_bipush (by decide) zd_14_100_142 ?_
  refine zz_icmp_ne (by omega) (by omega) zd_14_100_144 (fun c385 => ?_) (fun c385 => ?_)
  · refine zz_iconst zd_14_100_173 ?_
    refine zz_istore_n [some (.ref 1079), some (zi p0), some (zi 0)] zd_14_100_174 (by decide) rfl ?_
    refine zz_aload_n (x := 1079) rfl zd_14_100_175 ?_
    refine zz_aload_n (x := 1079) rfl zd_14_100_176 ?_
    have g386 := zz_G.r G_S0 1079 61 (-9223372036854775808) 9223372036854775807 rfl rfl
    refine zz_getl (z := S0 1079 61) zd_14_100_177 zf_Md_522 zT_1079 rfl (zz_ltn hn rfl) rfl ?_
    refine zz_putl zd_14_100_180 zf_Md_564 zT_1079 rfl (zz_ltn hn rfl) (fun S387 qS387 => ?_)
    have G_S387 := zz_G.put G_S0 qS387 (-9223372036854775808) 9223372036854775807 rfl (by omega)
    have F_S387 := zz_fr.puts F_S0 qS387 rfl
    refine zz_aload_n (x := 1079) rfl zd_14_100_183 ?_
    have g388 := zz_G.r G_S0 1079 32 0 1500 rfl rfl
    have e389 : S387 1079 32 = S0 1079 32 := (zz_ro qS387 (fun h => absurd h.2 (by decide)) rfl)
    have g390 := zz_G.r G_S0 1079 33 0 1500 rfl rfl
    have e391 : S387 1079 33 = S0 1079 33 := (zz_ro qS387 (fun h => absurd h.2 (by decide)) rfl)
    refine zz_callVV [] zd_14_100_184 zk_Md_526 zT_1079 (zz_ltn hn rfl) rfl rfl ⟨Nat.le_of_ble_eq_true rfl, Nat.le_of_ble_eq_true rfl⟩ ⟨rfl, rfl⟩ (Nat.zero_le _) (Nat.zero_le _) (zc_advanceNet_14_93  S387 n hn G_S387 (fun u h1 h2 => ((zz_ro qS387 (fun h => absurd h.1 (by decide)) rfl)).trans (hN u h1 h2))) (fun S392 hP => ?_)
    obtain ⟨G_S392, fS392, o394, o395, o396, o397, o398, o399⟩ := hP
    rw [show S387 1079 32 = S0 1079 32 from (zz_ro qS387 (fun h => absurd h.2 (by decide)) rfl)] at o394
    rw [show S387 1099 = S0 1099 from funext (fun u => (zz_ro qS387 (fun h => absurd h.1 (by decide)) rfl)), show S387 1079 33 = S0 1079 33 from (zz_ro qS387 (fun h => absurd h.2 (by decide)) rfl), show S387 1079 32 = S0 1079 32 from (zz_ro qS387 (fun h => absurd h.2 (by decide)) rfl)] at o395
    rw [show S387 1099 = S0 1099 from funext (fun u => (zz_ro qS387 (fun h => absurd h.1 (by decide)) rfl)), show S387 1079 33 = S0 1079 33 from (zz_ro qS387 (fun h => absurd h.2 (by decide)) rfl), show S387 1079 32 = S0 1079 32 from (zz_ro qS387 (fun h => absurd h.2 (by decide)) rfl)] at o396
    rw [show S387 1099 = S0 1099 from funext (fun u => (zz_ro qS387 (fun h => absurd h.1 (by decide)) rfl)), show S387 1079 33 = S0 1079 33 from (zz_ro qS387 (fun h => absurd h.2 (by decide)) rfl), show S387 1079 32 = S0 1079 32 from (zz_ro qS387 (fun h => absurd h.2 (by decide)) rfl)] at o397
    rw [show S387 1099 = S0 1099 from funext (fun u => (zz_ro qS387 (fun h => absurd h.1 (by decide)) rfl)), show S387 1079 33 = S0 1079 33 from (zz_ro qS387 (fun h => absurd h.2 (by decide)) rfl), show S387 1079 32 = S0 1079 32 from (zz_ro qS387 (fun h => absurd h.2 (by decide)) rfl)] at o398
    rw [show S387 1099 = S0 1099 from funext (fun u => (zz_ro qS387 (fun h => absurd h.1 (by decide)) rfl)), show S387 1079 33 = S0 1079 33 from (zz_ro qS387 (fun h => absurd h.2 (by decide)) rfl), show S387 1079 32 = S0 1079 32 from (zz_ro qS387 (fun h => absurd h.2 (by decide)) rfl)] at o399
    have F_S392 := zz_fr.trans F_S387 fS392 rfl zz_nv
    refine zz_iload_n (x := 0) rfl zd_14_100_187 ?_
    have g400 := zz_G.r G_S392 1079 30 0 102 rfl rfl
    have g401 := zz_G.r G_S392 1079 32 0 1500 rfl rfl
    have g402 := zz_G.r G_S392 1079 31 0 9999 rfl rfl
    have e403 : S392 1079 64 = S0 1079 61 := (zz_rc fS392 rfl rfl (fun h => h) (zz_rs qS387))
    have g404 := zz_G.r G_S0 1118 0 0 9999 rfl rfl
    have e405 : S392 1118 0 = S0 1118 0 := (zz_rc fS392 rfl rfl (fun h => h) (zz_ro qS387 (fun h => absurd h.1 (by decide)) rfl))
    have g406 := zz_G.r G_S0 1118 1 0 9999 rfl rfl
    have e407 : S392 1118 1 = S0 1118 1 := (zz_rc fS392 rfl rfl (fun h => h) (zz_ro qS387 (fun h => absurd h.1 (by decide)) rfl))
    have g408 := zz_G.r G_S0 1118 2 0 9999 rfl rfl
    have e409 : S392 1118 2 = S0 1118 2 := (zz_rc fS392 rfl rfl (fun h => h) (zz_ro qS387 (fun h => absurd h.1 (by decide)) rfl))
    have g410 := zz_G.r G_S0 1118 3 0 9999 rfl rfl
    have e411 : S392 1118 3 = S0 1118 3 := (zz_rc fS392 rfl rfl (fun h => h) (zz_ro qS387 (fun h => absurd h.1 (by decide)) rfl))
    have g412 := zz_G.r G_S0 1118 4 0 9999 rfl rfl
    have e413 : S392 1118 4 = S0 1118 4 := (zz_rc fS392 rfl rfl (fun h => h) (zz_ro qS387 (fun h => absurd h.1 (by decide)) rfl))
    have g414 := zz_G.r G_S0 1118 5 0 9999 rfl rfl
    have e415 : S392 1118 5 = S0 1118 5 := (zz_rc fS392 rfl rfl (fun h => h) (zz_ro qS387 (fun h => absurd h.1 (by decide)) rfl))
    have g416 := zz_G.r G_S0 1118 6 0 9999 rfl rfl
    have e417 : S392 1118 6 = S0 1118 6 := (zz_rc fS392 rfl rfl (fun h => h) (zz_ro qS387 (fun h => absurd h.1 (by decide)) rfl))
    have g418 := zz_G.r G_S0 1118 7 0 9999 rfl rfl
    have e419 : S392 1118 7 = S0 1118 7 := (zz_rc fS392 rfl rfl (fun h => h) (zz_ro qS387 (fun h => absurd h.1 (by decide)) rfl))
    exact zz_zret zd_14_100_188 rfl (by omega) (Nat.zero_le _) (Nat.zero_le _) ⟨_, _, rfl, G_S392, F_S392, by omega, by omega, (fun p i o hM hi hb hD => by obtain ⟨⟨d1, d2, d3, d4, d5, d6, d7⟩, d9⟩ := hD; have m1 := hM.1; have m2 := hM.2.1; obtain rfl : i = 8 := (by have j9 := zt_b8j hi; omega); clear hb; exact Or.inr ⟨rfl, fun g => by have y := ((zt_og8 rfl).mp g).1; omega⟩)⟩
  · refine zz_aload_n (x := 1079) rfl zd_14_100_147 ?_
    refine zz_aload_n (x := 1079) rfl zd_14_100_148 ?_
    have g420 := zz_G.r G_S0 1079 61 (-9223372036854775808) 9223372036854775807 rfl rfl
    refine zz_getl (z := S0 1079 61) zd_14_100_149 zf_Md_522 zT_1079 rfl (zz_ltn hn rfl) rfl ?_
    refine zz_callVI [zl (S0 1079 61)] zd_14_100_152 zk_Md_557 zT_1079 (zz_ltn hn rfl) rfl rfl ⟨Nat.le_of_ble_eq_true rfl, Nat.le_of_ble_eq_true rfl⟩ ⟨rfl, rfl⟩ (Nat.zero_le _) (Nat.zero_le _) (zc_isKeyword_14_97 (S0 1079 61) S0 n hn G_S0 (by omega)) (fun v422 S421 hP => ?_)
    obtain ⟨rfl, o423, o424⟩ := hP
    rcases (by omega : v422 = 0 ∨ v422 = 1) with rfl | rfl
    · refine zz_if_ne (by omega) zd_14_100_155 (fun c425 => ?_) (fun c425 => ?_)
      · exfalso; omega
      · refine zz_aload_n (x := 1079) rfl zd_14_100_158 ?_
        refine zz_aload_n (x := 1079) rfl zd_14_100_159 ?_
        refine zz_getl (z := S0 1079 61) zd_14_100_160 zf_Md_522 zT_1079 rfl (zz_ltn hn rfl) rfl ?_
        have g426 := zz_G.r G_S0 1079 36 0 11 rfl rfl
        refine zz_callVI [zl (S0 1079 61)] zd_14_100_163 zk_Md_560 zT_1079 (zz_ltn hn rfl) rfl rfl ⟨Nat.le_of_ble_eq_true rfl, Nat.le_of_ble_eq_true rfl⟩ ⟨rfl, rfl⟩ (Nat.zero_le _) (Nat.zero_le _) (zc_named_14_98 (S0 1079 61) S0 n hn G_S0 (by omega)) (fun v428 S427 hP => ?_)
        obtain ⟨rfl, o429, o430⟩ := hP
        refine zz_if_ge (by omega) zd_14_100_166 (fun c431 => ?_) (fun c431 => ?_)
        · refine zz_iconst zd_14_100_173 ?_
          refine zz_istore_n [some (.ref 1079), some (zi p0), some (zi 0)] zd_14_100_174 (by decide) rfl ?_
          refine zz_aload_n (x := 1079) rfl zd_14_100_175 ?_
          refine zz_aload_n (x := 1079) rfl zd_14_100_176 ?_
          refine zz_getl (z := S0 1079 61) zd_14_100_177 zf_Md_522 zT_1079 rfl (zz_ltn hn rfl) rfl ?_
          refine zz_putl zd_14_100_180 zf_Md_564 zT_1079 rfl (zz_ltn hn rfl) (fun S432 qS432 => ?_)
          have G_S432 := zz_G.put G_S0 qS432 (-9223372036854775808) 9223372036854775807 rfl (by omega)
          have F_S432 := zz_fr.puts F_S0 qS432 rfl
          refine zz_aload_n (x := 1079) rfl zd_14_100_183 ?_
          have g433 := zz_G.r G_S0 1079 32 0 1500 rfl rfl
          have e434 : S432 1079 32 = S0 1079 32 := (zz_ro qS432 (fun h => absurd h.2 (by decide)) rfl)
          have g435 := zz_G.r G_S0 1079 33 0 1500 rfl rfl
          have e436 : S432 1079 33 = S0 1079 33 := (zz_ro qS432 (fun h => absurd h.2 (by decide)) rfl)
          refine zz_callVV [] zd_14_100_184 zk_Md_526 zT_1079 (zz_ltn hn rfl) rfl rfl ⟨Nat.le_of_ble_eq_true rfl, Nat.le_of_ble_eq_true rfl⟩ ⟨rfl, rfl⟩ (Nat.zero_le _) (Nat.zero_le _) (zc_advanceNet_14_93  S432 n hn G_S432 (fun u h1 h2 => ((zz_ro qS432 (fun h => absurd h.1 (by decide)) rfl)).trans (hN u h1 h2))) (fun S437 hP => ?_)
          obtain ⟨G_S437, fS437, o439, o440, o441, o442, o443, o444⟩ := hP
          rw [show S432 1079 32 = S0 1079 32 from (zz_ro qS432 (fun h => absurd h.2 (by decide)) rfl)] at o439
          rw [show S432 1099 = S0 1099 from funext (fun u => (zz_ro qS432 (fun h => absurd h.1 (by decide)) rfl)), show S432 1079 33 = S0 1079 33 from (zz_ro qS432 (fun h => absurd h.2 (by decide)) rfl), show S432 1079 32 = S0 1079 32 from (zz_ro qS432 (fun h => absurd h.2 (by decide)) rfl)] at o440
          rw [show S432 1099 = S0 1099 from funext (fun u => (zz_ro qS432 (fun h => absurd h.1 (by decide)) rfl)), show S432 1079 33 = S0 1079 33 from (zz_ro qS432 (fun h => absurd h.2 (by decide)) rfl), show S432 1079 32 = S0 1079 32 from (zz_ro qS432 (fun h => absurd h.2 (by decide)) rfl)] at o441
          rw [show S432 1099 = S0 1099 from funext (fun u => (zz_ro qS432 (fun h => absurd h.1 (by decide)) rfl)), show S432 1079 33 = S0 1079 33 from (zz_ro qS432 (fun h => absurd h.2 (by decide)) rfl), show S432 1079 32 = S0 1079 32 from (zz_ro qS432 (fun h => absurd h.2 (by decide)) rfl)] at o442
          rw [show S432 1099 = S0 1099 from funext (fun u => (zz_ro qS432 (fun h => absurd h.1 (by decide)) rfl)), show S432 1079 33 = S0 1079 33 from (zz_ro qS432 (fun h => absurd h.2 (by decide)) rfl), show S432 1079 32 = S0 1079 32 from (zz_ro qS432 (fun h => absurd h.2 (by decide)) rfl)] at o443
          rw [show S432 1099 = S0 1099 from funext (fun u => (zz_ro qS432 (fun h => absurd h.1 (by decide)) rfl)), show S432 1079 33 = S0 1079 33 from (zz_ro qS432 (fun h => absurd h.2 (by decide)) rfl), show S432 1079 32 = S0 1079 32 from (zz_ro qS432 (fun h => absurd h.2 (by decide)) rfl)] at o444
          have F_S437 := zz_fr.trans F_S432 fS437 rfl zz_nv
          refine zz_iload_n (x := 0) rfl zd_14_100_187 ?_
          have g445 := zz_G.r G_S437 1079 30 0 102 rfl rfl
          have g446 := zz_G.r G_S437 1079 32 0 1500 rfl rfl
          have g447 := zz_G.r G_S437 1079 31 0 9999 rfl rfl
          have e448 : S437 1079 64 = S0 1079 61 := (zz_rc fS437 rfl rfl (fun h => h) (zz_rs qS432))
          have g449 := zz_G.r G_S0 1118 0 0 9999 rfl rfl
          have e450 : S437 1118 0 = S0 1118 0 := (zz_rc fS437 rfl rfl (fun h => h) (zz_ro qS432 (fun h => absurd h.1 (by decide)) rfl))
          have g451 := zz_G.r G_S0 1118 1 0 9999 rfl rfl
          have e452 : S437 1118 1 = S0 1118 1 := (zz_rc fS437 rfl rfl (fun h => h) (zz_ro qS432 (fun h => absurd h.1 (by decide)) rfl))
          have g453 := zz_G.r G_S0 1118 2 0 9999 rfl rfl
          have e454 : S437 1118 2 = S0 1118 2 := (zz_rc fS437 rfl rfl (fun h => h) (zz_ro qS432 (fun h => absurd h.1 (by decide)) rfl))
          have g455 := zz_G.r G_S0 1118 3 0 9999 rfl rfl
          have e456 : S437 1118 3 = S0 1118 3 := (zz_rc fS437 rfl rfl (fun h => h) (zz_ro qS432 (fun h => absurd h.1 (by decide)) rfl))
          have g457 := zz_G.r G_S0 1118 4 0 9999 rfl rfl
          have e458 : S437 1118 4 = S0 1118 4 := (zz_rc fS437 rfl rfl (fun h => h) (zz_ro qS432 (fun h => absurd h.1 (by decide)) rfl))
          have g459 := zz_G.r G_S0 1118 5 0 9999 rfl rfl
          have e460 : S437 1118 5 = S0 1118 5 := (zz_rc fS437 rfl rfl (fun h => h) (zz_ro qS432 (fun h => absurd h.1 (by decide)) rfl))
          have g461 := zz_G.r G_S0 1118 6 0 9999 rfl rfl
          have e462 : S437 1118 6 = S0 1118 6 := (zz_rc fS437 rfl rfl (fun h => h) (zz_ro qS432 (fun h => absurd h.1 (by decide)) rfl))
          have g463 := zz_G.r G_S0 1118 7 0 9999 rfl rfl
          have e464 : S437 1118 7 = S0 1118 7 := (zz_rc fS437 rfl rfl (fun h => h) (zz_ro qS432 (fun h => absurd h.1 (by decide)) rfl))
          exact zz_zret zd_14_100_188 rfl (by omega) (Nat.zero_le _) (Nat.zero_le _) ⟨_, _, rfl, G_S437, F_S437, by omega, by omega, (fun p i o hM hi hb hD => by obtain ⟨⟨d1, d2, d3, d4, d5, d6, d7⟩, d9⟩ := hD; have m1 := hM.1; have m2 := hM.2.1; obtain rfl : i = 8 := (by have j9 := zt_b8j hi; omega); clear hb; have w9 := hM.2.2.2 (by omega); have q9 := o424; rw [w9] at q9; have n9 := o430; rw [w9] at n9; exact Or.inr ⟨rfl, fun g => by have y := ((zt_og8 rfl).mp g).2.2; omega⟩)⟩
        · refine zz_iconst zd_14_100_169 ?_
          refine zz_goto zd_14_100_170 ?_
          refine zz_istore_n [some (.ref 1079), some (zi p0), some (zi 1)] zd_14_100_174 (by decide) rfl ?_
          refine zz_aload_n (x := 1079) rfl zd_14_100_175 ?_
          refine zz_aload_n (x := 1079) rfl zd_14_100_176 ?_
          refine zz_getl (z := S0 1079 61) zd_14_100_177 zf_Md_522 zT_1079 rfl (zz_ltn hn rfl) rfl ?_
          refine zz_putl zd_14_100_180 zf_Md_564 zT_1079 rfl (zz_ltn hn rfl) (fun S465 qS465 => ?_)
          have G_S465 := zz_G.put G_S0 qS465 (-9223372036854775808) 9223372036854775807 rfl (by omega)
          have F_S465 := zz_fr.puts F_S0 qS465 rfl
          refine zz_aload_n (x := 1079) rfl zd_14_100_183 ?_
          have g466 := zz_G.r G_S0 1079 32 0 1500 rfl rfl
          have e467 : S465 1079 32 = S0 1079 32 := (zz_ro qS465 (fun h => absurd h.2 (by decide)) rfl)
          have g468 := zz_G.r G_S0 1079 33 0 1500 rfl rfl
          have e469 : S465 1079 33 = S0 1079 33 := (zz_ro qS465 (fun h => absurd h.2 (by decide)) rfl)
          refine zz_callVV [] zd_14_100_184 zk_Md_526 zT_1079 (zz_ltn hn rfl) rfl rfl ⟨Nat.le_of_ble_eq_true rfl, Nat.le_of_ble_eq_true rfl⟩ ⟨rfl, rfl⟩ (Nat.zero_le _) (Nat.zero_le _) (zc_advanceNet_14_93  S465 n hn G_S465 (fun u h1 h2 => ((zz_ro qS465 (fun h => absurd h.1 (by decide)) rfl)).trans (hN u h1 h2))) (fun S470 hP => ?_)
          obtain ⟨G_S470, fS470, o472, o473, o474, o475, o476, o477⟩ := hP
          rw [show S465 1079 32 = S0 1079 32 from (zz_ro qS465 (fun h => absurd h.2 (by decide)) rfl)] at o472
          rw [show S465 1099 = S0 1099 from funext (fun u => (zz_ro qS465 (fun h => absurd h.1 (by decide)) rfl)), show S465 1079 33 = S0 1079 33 from (zz_ro qS465 (fun h => absurd h.2 (by decide)) rfl), show S465 1079 32 = S0 1079 32 from (zz_ro qS465 (fun h => absurd h.2 (by decide)) rfl)] at o473
          rw [show S465 1099 = S0 1099 from funext (fun u => (zz_ro qS465 (fun h => absurd h.1 (by decide)) rfl)), show S465 1079 33 = S0 1079 33 from (zz_ro qS465 (fun h => absurd h.2 (by decide)) rfl), show S465 1079 32 = S0 1079 32 from (zz_ro qS465 (fun h => absurd h.2 (by decide)) rfl)] at o474
          rw [show S465 1099 = S0 1099 from funext (fun u => (zz_ro qS465 (fun h => absurd h.1 (by decide)) rfl)), show S465 1079 33 = S0 1079 33 from (zz_ro qS465 (fun h => absurd h.2 (by decide)) rfl), show S465 1079 32 = S0 1079 32 from (zz_ro qS465 (fun h => absurd h.2 (by decide)) rfl)] at o475
          rw [show S465 1099 = S0 1099 from funext (fun u => (zz_ro qS465 (fun h => absurd h.1 (by decide)) rfl)), show S465 1079 33 = S0 1079 33 from (zz_ro qS465 (fun h => absurd h.2 (by decide)) rfl), show S465 1079 32 = S0 1079 32 from (zz_ro qS465 (fun h => absurd h.2 (by decide)) rfl)] at o476
          rw [show S465 1099 = S0 1099 from funext (fun u => (zz_ro qS465 (fun h => absurd h.1 (by decide)) rfl)), show S465 1079 33 = S0 1079 33 from (zz_ro qS465 (fun h => absurd h.2 (by decide)) rfl), show S465 1079 32 = S0 1079 32 from (zz_ro qS465 (fun h => absurd h.2 (by decide)) rfl)] at o477
          have F_S470 := zz_fr.trans F_S465 fS470 rfl zz_nv
          refine zz_iload_n (x := 1) rfl zd_14_100_187 ?_
          have g478 := zz_G.r G_S470 1079 30 0 102 rfl rfl
          have g479 := zz_G.r G_S470 1079 32 0 1500 rfl rfl
          have g480 := zz_G.r G_S470 1079 31 0 9999 rfl rfl
          have e481 : S470 1079 64 = S0 1079 61 := (zz_rc fS470 rfl rfl (fun h => h) (zz_rs qS465))
          have g482 := zz_G.r G_S0 1118 0 0 9999 rfl rfl
          have e483 : S470 1118 0 = S0 1118 0 := (zz_rc fS470 rfl rfl (fun h => h) (zz_ro qS465 (fun h => absurd h.1 (by decide)) rfl))
          have g484 := zz_G.r G_S0 1118 1 0 9999 rfl rfl
          have e485 : S470 1118 1 = S0 1118 1 := (zz_rc fS470 rfl rfl (fun h => h) (zz_ro qS465 (fun h => absurd h.1 (by decide)) rfl))
          have g486 := zz_G.r G_S0 1118 2 0 9999 rfl rfl
          have e487 : S470 1118 2 = S0 1118 2 := (zz_rc fS470 rfl rfl (fun h => h) (zz_ro qS465 (fun h => absurd h.1 (by decide)) rfl))
          have g488 := zz_G.r G_S0 1118 3 0 9999 rfl rfl
          have e489 : S470 1118 3 = S0 1118 3 := (zz_rc fS470 rfl rfl (fun h => h) (zz_ro qS465 (fun h => absurd h.1 (by decide)) rfl))
          have g490 := zz_G.r G_S0 1118 4 0 9999 rfl rfl
          have e491 : S470 1118 4 = S0 1118 4 := (zz_rc fS470 rfl rfl (fun h => h) (zz_ro qS465 (fun h => absurd h.1 (by decide)) rfl))
          have g492 := zz_G.r G_S0 1118 5 0 9999 rfl rfl
          have e493 : S470 1118 5 = S0 1118 5 := (zz_rc fS470 rfl rfl (fun h => h) (zz_ro qS465 (fun h => absurd h.1 (by decide)) rfl))
          have g494 := zz_G.r G_S0 1118 6 0 9999 rfl rfl
          have e495 : S470 1118 6 = S0 1118 6 := (zz_rc fS470 rfl rfl (fun h => h) (zz_ro qS465 (fun h => absurd h.1 (by decide)) rfl))
          have g496 := zz_G.r G_S0 1118 7 0 9999 rfl rfl
          have e497 : S470 1118 7 = S0 1118 7 := (zz_rc fS470 rfl rfl (fun h => h) (zz_ro qS465 (fun h => absurd h.1 (by decide)) rfl))
          exact zz_zret zd_14_100_188 rfl (by omega) (Nat.zero_le _) (Nat.zero_le _) ⟨_, _, rfl, G_S470, F_S470, by omega, by omega, (fun p i o hM hi hb hD => by obtain ⟨⟨d1, d2, d3, d4, d5, d6, d7⟩, d9⟩ := hD; have m1 := hM.1; have m2 := hM.2.1; obtain rfl : i = 8 := (by have j9 := zt_b8j hi; omega); clear hb; have k9 := o477; rw [m2] at k9; have w9 := hM.2.2.2 (by omega); have n9 := o430; have q9 := o424; rw [w9] at n9 q9; have f9 := zt_nfr (S0 1079 36).toNat (S0 1117) (zt_kd (S0 1099) (S0 1079 33) p); exact Or.inl ⟨rfl, (zt_og8 rfl).mpr ⟨by omega, (q9.resolve_left (fun h => absurd h.1 (by decide))).2, by omega⟩, k9, ⟨⟨(fun x => by have y := d1 x; exact ⟨(show S470 1118 0 = o 1 by omega), (show S470 1118 1 = o 2 by omega)⟩), (fun x => by have y := d2 x; exact (show S470 1118 2 = o 3 by omega)), (show S470 1118 3 = o 4 by omega), (show S470 1118 4 = o 5 by omega), (show S470 1118 5 = o 6 by omega), (show S470 1118 6 = o 7 by omega), (show S470 1118 7 = o 8 by omega)⟩, (show S470 1079 64 = zt_kd (S0 1099) (S0 1079 33) p by omega)⟩⟩)⟩
    · refine zz_if_ne (by omega) zd_14_100_155 (fun c498 => ?_) (fun c498 => ?_)
      · refine zz_iconst zd_14_100_173 ?_
        refine zz_istore_n [some (.ref 1079), some (zi p0), some (zi 0)] zd_14_100_174 (by decide) rfl ?_
        refine zz_aload_n (x := 1079) rfl zd_14_100_175 ?_
        refine zz_aload_n (x := 1079) rfl zd_14_100_176 ?_
        refine zz_getl (z := S0 1079 61) zd_14_100_177 zf_Md_522 zT_1079 rfl (zz_ltn hn rfl) rfl ?_
        refine zz_putl zd_14_100_180 zf_Md_564 zT_1079 rfl (zz_ltn hn rfl) (fun S499 qS499 => ?_)
        have G_S499 := zz_G.put G_S0 qS499 (-9223372036854775808) 9223372036854775807 rfl (by omega)
        have F_S499 := zz_fr.puts F_S0 qS499 rfl
        refine zz_aload_n (x := 1079) rfl zd_14_100_183 ?_
        have g500 := zz_G.r G_S0 1079 32 0 1500 rfl rfl
        have e501 : S499 1079 32 = S0 1079 32 := (zz_ro qS499 (fun h => absurd h.2 (by decide)) rfl)
        have g502 := zz_G.r G_S0 1079 33 0 1500 rfl rfl
        have e503 : S499 1079 33 = S0 1079 33 := (zz_ro qS499 (fun h => absurd h.2 (by decide)) rfl)
        refine zz_callVV [] zd_14_100_184 zk_Md_526 zT_1079 (zz_ltn hn rfl) rfl rfl ⟨Nat.le_of_ble_eq_true rfl, Nat.le_of_ble_eq_true rfl⟩ ⟨rfl, rfl⟩ (Nat.zero_le _) (Nat.zero_le _) (zc_advanceNet_14_93  S499 n hn G_S499 (fun u h1 h2 => ((zz_ro qS499 (fun h => absurd h.1 (by decide)) rfl)).trans (hN u h1 h2))) (fun S504 hP => ?_)
        obtain ⟨G_S504, fS504, o506, o507, o508, o509, o510, o511⟩ := hP
        rw [show S499 1079 32 = S0 1079 32 from (zz_ro qS499 (fun h => absurd h.2 (by decide)) rfl)] at o506
        rw [show S499 1099 = S0 1099 from funext (fun u => (zz_ro qS499 (fun h => absurd h.1 (by decide)) rfl)), show S499 1079 33 = S0 1079 33 from (zz_ro qS499 (fun h => absurd h.2 (by decide)) rfl), show S499 1079 32 = S0 1079 32 from (zz_ro qS499 (fun h => absurd h.2 (by decide)) rfl)] at o507
        rw [show S499 1099 = S0 1099 from funext (fun u => (zz_ro qS499 (fun h => absurd h.1 (by decide)) rfl)), show S499 1079 33 = S0 1079 33 from (zz_ro qS499 (fun h => absurd h.2 (by decide)) rfl), show S499 1079 32 = S0 1079 32 from (zz_ro qS499 (fun h => absurd h.2 (by decide)) rfl)] at o508
        rw [show S499 1099 = S0 1099 from funext (fun u => (zz_ro qS499 (fun h => absurd h.1 (by decide)) rfl)), show S499 1079 33 = S0 1079 33 from (zz_ro qS499 (fun h => absurd h.2 (by decide)) rfl), show S499 1079 32 = S0 1079 32 from (zz_ro qS499 (fun h => absurd h.2 (by decide)) rfl)] at o509
        rw [show S499 1099 = S0 1099 from funext (fun u => (zz_ro qS499 (fun h => absurd h.1 (by decide)) rfl)), show S499 1079 33 = S0 1079 33 from (zz_ro qS499 (fun h => absurd h.2 (by decide)) rfl), show S499 1079 32 = S0 1079 32 from (zz_ro qS499 (fun h => absurd h.2 (by decide)) rfl)] at o510
        rw [show S499 1099 = S0 1099 from funext (fun u => (zz_ro qS499 (fun h => absurd h.1 (by decide)) rfl)), show S499 1079 33 = S0 1079 33 from (zz_ro qS499 (fun h => absurd h.2 (by decide)) rfl), show S499 1079 32 = S0 1079 32 from (zz_ro qS499 (fun h => absurd h.2 (by decide)) rfl)] at o511
        have F_S504 := zz_fr.trans F_S499 fS504 rfl zz_nv
        refine zz_iload_n (x := 0) rfl zd_14_100_187 ?_
        have g512 := zz_G.r G_S504 1079 30 0 102 rfl rfl
        have g513 := zz_G.r G_S504 1079 32 0 1500 rfl rfl
        have g514 := zz_G.r G_S504 1079 31 0 9999 rfl rfl
        have e515 : S504 1079 64 = S0 1079 61 := (zz_rc fS504 rfl rfl (fun h => h) (zz_rs qS499))
        have g516 := zz_G.r G_S0 1118 0 0 9999 rfl rfl
        have e517 : S504 1118 0 = S0 1118 0 := (zz_rc fS504 rfl rfl (fun h => h) (zz_ro qS499 (fun h => absurd h.1 (by decide)) rfl))
        have g518 := zz_G.r G_S0 1118 1 0 9999 rfl rfl
        have e519 : S504 1118 1 = S0 1118 1 := (zz_rc fS504 rfl rfl (fun h => h) (zz_ro qS499 (fun h => absurd h.1 (by decide)) rfl))
        have g520 := zz_G.r G_S0 1118 2 0 9999 rfl rfl
        have e521 : S504 1118 2 = S0 1118 2 := (zz_rc fS504 rfl rfl (fun h => h) (zz_ro qS499 (fun h => absurd h.1 (by decide)) rfl))
        have g522 := zz_G.r G_S0 1118 3 0 9999 rfl rfl
        have e523 : S504 1118 3 = S0 1118 3 := (zz_rc fS504 rfl rfl (fun h => h) (zz_ro qS499 (fun h => absurd h.1 (by decide)) rfl))
        have g524 := zz_G.r G_S0 1118 4 0 9999 rfl rfl
        have e525 : S504 1118 4 = S0 1118 4 := (zz_rc fS504 rfl rfl (fun h => h) (zz_ro qS499 (fun h => absurd h.1 (by decide)) rfl))
        have g526 := zz_G.r G_S0 1118 5 0 9999 rfl rfl
        have e527 : S504 1118 5 = S0 1118 5 := (zz_rc fS504 rfl rfl (fun h => h) (zz_ro qS499 (fun h => absurd h.1 (by decide)) rfl))
        have g528 := zz_G.r G_S0 1118 6 0 9999 rfl rfl
        have e529 : S504 1118 6 = S0 1118 6 := (zz_rc fS504 rfl rfl (fun h => h) (zz_ro qS499 (fun h => absurd h.1 (by decide)) rfl))
        have g530 := zz_G.r G_S0 1118 7 0 9999 rfl rfl
        have e531 : S504 1118 7 = S0 1118 7 := (zz_rc fS504 rfl rfl (fun h => h) (zz_ro qS499 (fun h => absurd h.1 (by decide)) rfl))
        exact zz_zret zd_14_100_188 rfl (by omega) (Nat.zero_le _) (Nat.zero_le _) ⟨_, _, rfl, G_S504, F_S504, by omega, by omega, (fun p i o hM hi hb hD => by obtain ⟨⟨d1, d2, d3, d4, d5, d6, d7⟩, d9⟩ := hD; have m1 := hM.1; have m2 := hM.2.1; obtain rfl : i = 8 := (by have j9 := zt_b8j hi; omega); clear hb; have w9 := hM.2.2.2 (by omega); have q9 := o424; rw [w9] at q9; exact Or.inr ⟨rfl, fun g => ((zt_og8 rfl).mp g).2.1 (q9.resolve_right (fun h => absurd h.1 (by decide))).2⟩)⟩
      · exfalso; omega
theorem zz_orb8 {x y v : Int} (hx : 0 ≤ x ∧ x ≤ 255) (hy : 0 ≤ y ∧ y ≤ 255) (e : v = (Int32.ofInt x ||| Int32.ofInt y).toInt) : 0 ≤ v ∧ v ≤ 255 := by
  have tx : (Int32.ofInt x).toInt = x := zz_t32 (by omega)
  have ty : (Int32.ofInt y).toInt = y := zz_t32 (by omega)
  generalize Int32.ofInt x = a at tx e
  generalize Int32.ofInt y = b at ty e
  have h1 : a.toBitVec.toInt = a.toInt := rfl
  have h1y : b.toBitVec.toInt = b.toInt := rfl
  have h2 : (a ||| b).toInt = (a.toBitVec ||| b.toBitVec).toInt := by rw [← Int32.toInt_toBitVec, Int32.toBitVec_or]
  have hm : a.toBitVec.msb = false := by rw [BitVec.msb_eq_toInt, h1, tx]; exact decide_eq_false (by omega)
  have hmy : b.toBitVec.msb = false := by rw [BitVec.msb_eq_toInt, h1y, ty]; exact decide_eq_false (by omega)
  have hm2 : (a.toBitVec ||| b.toBitVec).msb = false := by rw [BitVec.msb_or, hm, hmy]; rfl
  rw [BitVec.toInt_eq_toNat_of_msb hm] at h1
  rw [BitVec.toInt_eq_toNat_of_msb hmy] at h1y
  rw [h2, BitVec.toInt_eq_toNat_of_msb hm2, BitVec.toNat_or] at e
  have h3 := Nat.or_lt_two_pow (n := 8) (show a.toBitVec.toNat < 2 ^ 8 by omega) (show b.toBitVec.toNat < 2 ^ 8 by omega)
  omega
abbrev zy_takeParts_14_101 : mm_Y := (⟨"TensorForgeModel", "takeParts", "(I)Z"⟩, prog_14_method_101_code, 3, (some .boolean))
theorem zyw_takeParts_14_101 : mm_Yw zy_takeParts_14_101 1 := ⟨mm_tb_1 2222 (by decide +kernel) rfl, mm_tb_1 12 (by decide +kernel) rfl, ⟨by decide, by decide⟩, by decide +kernel⟩
theorem zf_Md_567 : mm_Fl "TensorForgeModel" 567 11 65 .int false := ⟨R_Md, F_Md, 69, t_Md, rfl, i_Md, by decide, mm_tb_1 1676 (by decide +kernel) rfl, rfl, t_Md_ok, n_Md, rfl, by decide +kernel⟩
theorem zk_Md_570 : mm_Vl "TensorForgeModel" 570 11 0 zy_partOf_14_99 := ⟨zyw_partOf_14_99, (R_Md, F_Md, 69), rfl, mm_tb_1 2223 (by decide +kernel) rfl, mm_tb_1 2225 (by decide +kernel) rfl, mm_tb_s 146 (by decide +kernel) rfl⟩
theorem zk_Md_573 : mm_Vl "TensorForgeModel" 573 11 1 zy_takePart_14_100 := ⟨zyw_takePart_14_100, (R_Md, F_Md, 69), rfl, mm_tb_1 2232 (by decide +kernel) rfl, mm_tb_1 2234 (by decide +kernel) rfl, mm_tb_s 147 (by decide +kernel) rfl⟩
theorem zg_14_101_0 : zq_at zy_takeParts_14_101.2.1 0 3 ∧ zq_at zy_takeParts_14_101.2.1 1 61 ∧ zq_at zy_takeParts_14_101.2.1 2 28 ∧ zq_at zy_takeParts_14_101.2.1 3 16 ∧ zq_at zy_takeParts_14_101.2.1 4 8 ∧ zq_at zy_takeParts_14_101.2.1 5 162 ∧ zq_at zy_takeParts_14_101.2.1 6 0 ∧ zq_at zy_takeParts_14_101.2.1 7 25 ∧ zq_at zy_takeParts_14_101.2.1 8 42 ∧ zq_at zy_takeParts_14_101.2.1 9 180 ∧ zq_at zy_takeParts_14_101.2.1 10 0 ∧ zq_at zy_takeParts_14_101.2.1 11 136 ∧ zq_at zy_takeParts_14_101.2.1 12 28 ∧ zq_at zy_takeParts_14_101.2.1 13 28 ∧ zq_at zy_takeParts_14_101.2.1 14 7 ∧ zq_at zy_takeParts_14_101.2.1 15 160 ∧ zq_at zy_takeParts_14_101.2.1 16 0 ∧ zq_at zy_takeParts_14_101.2.1 17 7 ∧ zq_at zy_takeParts_14_101.2.1 22 3 ∧ zq_at zy_takeParts_14_101.2.1 23 79 ∧ zq_at zy_takeParts_14_101.2.1 24 132 ∧ zq_at zy_takeParts_14_101.2.1 25 2 ∧ zq_at zy_takeParts_14_101.2.1 26 1 := by decide +kernel
theorem zd_14_101_0 : zz_D zy_takeParts_14_101 0 (.iconst 0) 1 1 := ⟨zq_3 zg_14_101_0.1, rfl⟩
theorem zd_14_101_1 : zz_D zy_takeParts_14_101 1 (.istore_n 2) 1 2 := ⟨zq_61 zg_14_101_0.2.1, rfl⟩
theorem zd_14_101_2 : zz_D zy_takeParts_14_101 2 (.iload_n 2) 1 3 := ⟨zq_28 zg_14_101_0.2.2.1, rfl⟩
theorem zd_14_101_3 : zz_D zy_takeParts_14_101 3 (.bipush 8) 2 5 := ⟨zq_16 zg_14_101_0.2.2.2.1 zg_14_101_0.2.2.2.2.1 (by decide), rfl⟩
theorem zd_14_101_5 : zz_B zy_takeParts_14_101 5 (Instr.if_icmp .ge) 30 8 := ⟨25, zq_162 zg_14_101_0.2.2.2.2.2.1 zg_14_101_0.2.2.2.2.2.2.1 zg_14_101_0.2.2.2.2.2.2.2.1 (by decide), rfl, rfl⟩
theorem zd_14_101_8 : zz_D zy_takeParts_14_101 8 (.aload_n 0) 1 9 := ⟨zq_42 zg_14_101_0.2.2.2.2.2.2.2.2.1, rfl⟩
theorem zd_14_101_9 : zz_D zy_takeParts_14_101 9 (.getfield 136) 3 12 := ⟨zq_180 zg_14_101_0.2.2.2.2.2.2.2.2.2.1 zg_14_101_0.2.2.2.2.2.2.2.2.2.2.1 zg_14_101_0.2.2.2.2.2.2.2.2.2.2.2.1 rfl, rfl⟩
theorem zd_14_101_12 : zz_D zy_takeParts_14_101 12 (.iload_n 2) 1 13 := ⟨zq_28 zg_14_101_0.2.2.2.2.2.2.2.2.2.2.2.2.1, rfl⟩
theorem zd_14_101_13 : zz_D zy_takeParts_14_101 13 (.iload_n 2) 1 14 := ⟨zq_28 zg_14_101_0.2.2.2.2.2.2.2.2.2.2.2.2.2.1, rfl⟩
theorem zd_14_101_14 : zz_D zy_takeParts_14_101 14 (.iconst 4) 1 15 := ⟨zq_7 zg_14_101_0.2.2.2.2.2.2.2.2.2.2.2.2.2.2.1, rfl⟩
theorem zd_14_101_15 : zz_B zy_takeParts_14_101 15 (Instr.if_icmp .ne) 22 18 := ⟨7, zq_160 zg_14_101_0.2.2.2.2.2.2.2.2.2.2.2.2.2.2.2.1 zg_14_101_0.2.2.2.2.2.2.2.2.2.2.2.2.2.2.2.2.1 zg_14_101_0.2.2.2.2.2.2.2.2.2.2.2.2.2.2.2.2.2.1 (by decide), rfl, rfl⟩
theorem zd_14_101_22 : zz_D zy_takeParts_14_101 22 (.iconst 0) 1 23 := ⟨zq_3 zg_14_101_0.2.2.2.2.2.2.2.2.2.2.2.2.2.2.2.2.2.2.1, rfl⟩
theorem zd_14_101_23 : zz_D zy_takeParts_14_101 23 (.iastore) 1 24 := ⟨zq_79 zg_14_101_0.2.2.2.2.2.2.2.2.2.2.2.2.2.2.2.2.2.2.2.1, rfl⟩
theorem zd_14_101_24 : zz_D zy_takeParts_14_101 24 (.iinc 2 1) 3 27 := ⟨zq_132 zg_14_101_0.2.2.2.2.2.2.2.2.2.2.2.2.2.2.2.2.2.2.2.2.1 zg_14_101_0.2.2.2.2.2.2.2.2.2.2.2.2.2.2.2.2.2.2.2.2.2.1 zg_14_101_0.2.2.2.2.2.2.2.2.2.2.2.2.2.2.2.2.2.2.2.2.2.2 (by decide), rfl⟩
theorem zg_14_101_27 : zq_at zy_takeParts_14_101.2.1 27 167 ∧ zq_at zy_takeParts_14_101.2.1 28 255 ∧ zq_at zy_takeParts_14_101.2.1 29 231 ∧ zq_at zy_takeParts_14_101.2.1 18 4 ∧ zq_at zy_takeParts_14_101.2.1 19 167 ∧ zq_at zy_takeParts_14_101.2.1 20 0 ∧ zq_at zy_takeParts_14_101.2.1 21 4 ∧ zq_at zy_takeParts_14_101.2.1 30 42 ∧ zq_at zy_takeParts_14_101.2.1 31 9 ∧ zq_at zy_takeParts_14_101.2.1 32 181 ∧ zq_at zy_takeParts_14_101.2.1 33 2 ∧ zq_at zy_takeParts_14_101.2.1 34 52 ∧ zq_at zy_takeParts_14_101.2.1 35 42 ∧ zq_at zy_takeParts_14_101.2.1 36 3 ∧ zq_at zy_takeParts_14_101.2.1 37 181 ∧ zq_at zy_takeParts_14_101.2.1 38 2 ∧ zq_at zy_takeParts_14_101.2.1 39 55 ∧ zq_at zy_takeParts_14_101.2.1 40 42 ∧ zq_at zy_takeParts_14_101.2.1 41 180 ∧ zq_at zy_takeParts_14_101.2.1 42 1 ∧ zq_at zy_takeParts_14_101.2.1 43 91 ∧ zq_at zy_takeParts_14_101.2.1 44 153 ∧ zq_at zy_takeParts_14_101.2.1 45 0 ∧ zq_at zy_takeParts_14_101.2.1 46 52 := by decide +kernel
theorem zd_14_101_27 : zz_B zy_takeParts_14_101 27 Instr.goto 2 30 := ⟨(-25), zq_167 zg_14_101_27.1 zg_14_101_27.2.1 zg_14_101_27.2.2.1 (by decide), rfl, rfl⟩
theorem zd_14_101_18 : zz_D zy_takeParts_14_101 18 (.iconst 1) 1 19 := ⟨zq_4 zg_14_101_27.2.2.2.1, rfl⟩
theorem zd_14_101_19 : zz_B zy_takeParts_14_101 19 Instr.goto 23 22 := ⟨4, zq_167 zg_14_101_27.2.2.2.2.1 zg_14_101_27.2.2.2.2.2.1 zg_14_101_27.2.2.2.2.2.2.1 (by decide), rfl, rfl⟩
theorem zd_14_101_30 : zz_D zy_takeParts_14_101 30 (.aload_n 0) 1 31 := ⟨zq_42 zg_14_101_27.2.2.2.2.2.2.2.1, rfl⟩
theorem zd_14_101_31 : zz_D zy_takeParts_14_101 31 (.lconst 0) 1 32 := ⟨zq_9 zg_14_101_27.2.2.2.2.2.2.2.2.1, rfl⟩
theorem zd_14_101_32 : zz_D zy_takeParts_14_101 32 (.putfield 564) 3 35 := ⟨zq_181 zg_14_101_27.2.2.2.2.2.2.2.2.2.1 zg_14_101_27.2.2.2.2.2.2.2.2.2.2.1 zg_14_101_27.2.2.2.2.2.2.2.2.2.2.2.1 rfl, rfl⟩
theorem zd_14_101_35 : zz_D zy_takeParts_14_101 35 (.aload_n 0) 1 36 := ⟨zq_42 zg_14_101_27.2.2.2.2.2.2.2.2.2.2.2.2.1, rfl⟩
theorem zd_14_101_36 : zz_D zy_takeParts_14_101 36 (.iconst 0) 1 37 := ⟨zq_3 zg_14_101_27.2.2.2.2.2.2.2.2.2.2.2.2.2.1, rfl⟩
theorem zd_14_101_37 : zz_D zy_takeParts_14_101 37 (.putfield 567) 3 40 := ⟨zq_181 zg_14_101_27.2.2.2.2.2.2.2.2.2.2.2.2.2.2.1 zg_14_101_27.2.2.2.2.2.2.2.2.2.2.2.2.2.2.2.1 zg_14_101_27.2.2.2.2.2.2.2.2.2.2.2.2.2.2.2.2.1 rfl, rfl⟩
theorem zd_14_101_40 : zz_D zy_takeParts_14_101 40 (.aload_n 0) 1 41 := ⟨zq_42 zg_14_101_27.2.2.2.2.2.2.2.2.2.2.2.2.2.2.2.2.2.1, rfl⟩
theorem zd_14_101_41 : zz_D zy_takeParts_14_101 41 (.getfield 347) 3 44 := ⟨zq_180 zg_14_101_27.2.2.2.2.2.2.2.2.2.2.2.2.2.2.2.2.2.2.1 zg_14_101_27.2.2.2.2.2.2.2.2.2.2.2.2.2.2.2.2.2.2.2.1 zg_14_101_27.2.2.2.2.2.2.2.2.2.2.2.2.2.2.2.2.2.2.2.2.1 rfl, rfl⟩
theorem zd_14_101_44 : zz_B zy_takeParts_14_101 44 (Instr.ifCond .eq) 96 47 := ⟨52, zq_153 zg_14_101_27.2.2.2.2.2.2.2.2.2.2.2.2.2.2.2.2.2.2.2.2.2.1 zg_14_101_27.2.2.2.2.2.2.2.2.2.2.2.2.2.2.2.2.2.2.2.2.2.2.1 zg_14_101_27.2.2.2.2.2.2.2.2.2.2.2.2.2.2.2.2.2.2.2.2.2.2.2 (by decide), rfl, rfl⟩
theorem zg_14_101_96 : zq_at zy_takeParts_14_101.2.1 96 4 ∧ zq_at zy_takeParts_14_101.2.1 97 172 ∧ zq_at zy_takeParts_14_101.2.1 47 42 ∧ zq_at zy_takeParts_14_101.2.1 48 182 ∧ zq_at zy_takeParts_14_101.2.1 49 2 ∧ zq_at zy_takeParts_14_101.2.1 50 58 ∧ zq_at zy_takeParts_14_101.2.1 51 61 ∧ zq_at zy_takeParts_14_101.2.1 52 28 ∧ zq_at zy_takeParts_14_101.2.1 53 27 ∧ zq_at zy_takeParts_14_101.2.1 54 126 ∧ zq_at zy_takeParts_14_101.2.1 55 153 ∧ zq_at zy_takeParts_14_101.2.1 56 0 ∧ zq_at zy_takeParts_14_101.2.1 57 12 ∧ zq_at zy_takeParts_14_101.2.1 67 3 ∧ zq_at zy_takeParts_14_101.2.1 68 172 ∧ zq_at zy_takeParts_14_101.2.1 58 28 ∧ zq_at zy_takeParts_14_101.2.1 59 42 ∧ zq_at zy_takeParts_14_101.2.1 60 180 ∧ zq_at zy_takeParts_14_101.2.1 61 2 ∧ zq_at zy_takeParts_14_101.2.1 62 55 ∧ zq_at zy_takeParts_14_101.2.1 63 126 ∧ zq_at zy_takeParts_14_101.2.1 64 153 ∧ zq_at zy_takeParts_14_101.2.1 65 0 ∧ zq_at zy_takeParts_14_101.2.1 66 5 := by decide +kernel
theorem zd_14_101_96 : zz_D zy_takeParts_14_101 96 (.iconst 1) 1 97 := ⟨zq_4 zg_14_101_96.1, rfl⟩
theorem zd_14_101_97 : zz_D zy_takeParts_14_101 97 (.ireturn) 1 98 := ⟨zq_172 zg_14_101_96.2.1, rfl⟩
theorem zd_14_101_47 : zz_D zy_takeParts_14_101 47 (.aload_n 0) 1 48 := ⟨zq_42 zg_14_101_96.2.2.1, rfl⟩
theorem zd_14_101_48 : zz_D zy_takeParts_14_101 48 (.invokevirtual 570) 3 51 := ⟨zq_182 zg_14_101_96.2.2.2.1 zg_14_101_96.2.2.2.2.1 zg_14_101_96.2.2.2.2.2.1 rfl, rfl⟩
theorem zd_14_101_51 : zz_D zy_takeParts_14_101 51 (.istore_n 2) 1 52 := ⟨zq_61 zg_14_101_96.2.2.2.2.2.2.1, rfl⟩
theorem zd_14_101_52 : zz_D zy_takeParts_14_101 52 (.iload_n 2) 1 53 := ⟨zq_28 zg_14_101_96.2.2.2.2.2.2.2.1, rfl⟩
theorem zd_14_101_53 : zz_D zy_takeParts_14_101 53 (.iload_n 1) 1 54 := ⟨zq_27 zg_14_101_96.2.2.2.2.2.2.2.2.1, rfl⟩
theorem zd_14_101_54 : zz_D zy_takeParts_14_101 54 (.iand) 1 55 := ⟨zq_126 zg_14_101_96.2.2.2.2.2.2.2.2.2.1, rfl⟩
theorem zd_14_101_55 : zz_B zy_takeParts_14_101 55 (Instr.ifCond .eq) 67 58 := ⟨12, zq_153 zg_14_101_96.2.2.2.2.2.2.2.2.2.2.1 zg_14_101_96.2.2.2.2.2.2.2.2.2.2.2.1 zg_14_101_96.2.2.2.2.2.2.2.2.2.2.2.2.1 (by decide), rfl, rfl⟩
theorem zd_14_101_67 : zz_D zy_takeParts_14_101 67 (.iconst 0) 1 68 := ⟨zq_3 zg_14_101_96.2.2.2.2.2.2.2.2.2.2.2.2.2.1, rfl⟩
theorem zd_14_101_68 : zz_D zy_takeParts_14_101 68 (.ireturn) 1 69 := ⟨zq_172 zg_14_101_96.2.2.2.2.2.2.2.2.2.2.2.2.2.2.1, rfl⟩
theorem zd_14_101_58 : zz_D zy_takeParts_14_101 58 (.iload_n 2) 1 59 := ⟨zq_28 zg_14_101_96.2.2.2.2.2.2.2.2.2.2.2.2.2.2.2.1, rfl⟩
theorem zd_14_101_59 : zz_D zy_takeParts_14_101 59 (.aload_n 0) 1 60 := ⟨zq_42 zg_14_101_96.2.2.2.2.2.2.2.2.2.2.2.2.2.2.2.2.1, rfl⟩
theorem zd_14_101_60 : zz_D zy_takeParts_14_101 60 (.getfield 567) 3 63 := ⟨zq_180 zg_14_101_96.2.2.2.2.2.2.2.2.2.2.2.2.2.2.2.2.2.1 zg_14_101_96.2.2.2.2.2.2.2.2.2.2.2.2.2.2.2.2.2.2.1 zg_14_101_96.2.2.2.2.2.2.2.2.2.2.2.2.2.2.2.2.2.2.2.1 rfl, rfl⟩
theorem zd_14_101_63 : zz_D zy_takeParts_14_101 63 (.iand) 1 64 := ⟨zq_126 zg_14_101_96.2.2.2.2.2.2.2.2.2.2.2.2.2.2.2.2.2.2.2.2.1, rfl⟩
theorem zd_14_101_64 : zz_B zy_takeParts_14_101 64 (Instr.ifCond .eq) 69 67 := ⟨5, zq_153 zg_14_101_96.2.2.2.2.2.2.2.2.2.2.2.2.2.2.2.2.2.2.2.2.2.1 zg_14_101_96.2.2.2.2.2.2.2.2.2.2.2.2.2.2.2.2.2.2.2.2.2.2.1 zg_14_101_96.2.2.2.2.2.2.2.2.2.2.2.2.2.2.2.2.2.2.2.2.2.2.2 (by decide), rfl, rfl⟩
theorem zg_14_101_69 : zq_at zy_takeParts_14_101.2.1 69 42 ∧ zq_at zy_takeParts_14_101.2.1 70 42 ∧ zq_at zy_takeParts_14_101.2.1 71 180 ∧ zq_at zy_takeParts_14_101.2.1 72 2 ∧ zq_at zy_takeParts_14_101.2.1 73 55 ∧ zq_at zy_takeParts_14_101.2.1 74 28 ∧ zq_at zy_takeParts_14_101.2.1 75 128 ∧ zq_at zy_takeParts_14_101.2.1 76 181 ∧ zq_at zy_takeParts_14_101.2.1 77 2 ∧ zq_at zy_takeParts_14_101.2.1 78 55 ∧ zq_at zy_takeParts_14_101.2.1 79 42 ∧ zq_at zy_takeParts_14_101.2.1 80 182 ∧ zq_at zy_takeParts_14_101.2.1 81 2 ∧ zq_at zy_takeParts_14_101.2.1 82 14 ∧ zq_at zy_takeParts_14_101.2.1 83 42 ∧ zq_at zy_takeParts_14_101.2.1 84 28 ∧ zq_at zy_takeParts_14_101.2.1 85 182 ∧ zq_at zy_takeParts_14_101.2.1 86 2 ∧ zq_at zy_takeParts_14_101.2.1 87 61 ∧ zq_at zy_takeParts_14_101.2.1 88 154 ∧ zq_at zy_takeParts_14_101.2.1 89 0 ∧ zq_at zy_takeParts_14_101.2.1 90 5 ∧ zq_at zy_takeParts_14_101.2.1 91 3 ∧ zq_at zy_takeParts_14_101.2.1 92 172 := by decide +kernel
theorem zd_14_101_69 : zz_D zy_takeParts_14_101 69 (.aload_n 0) 1 70 := ⟨zq_42 zg_14_101_69.1, rfl⟩
theorem zd_14_101_70 : zz_D zy_takeParts_14_101 70 (.aload_n 0) 1 71 := ⟨zq_42 zg_14_101_69.2.1, rfl⟩
theorem zd_14_101_71 : zz_D zy_takeParts_14_101 71 (.getfield 567) 3 74 := ⟨zq_180 zg_14_101_69.2.2.1 zg_14_101_69.2.2.2.1 zg_14_101_69.2.2.2.2.1 rfl, rfl⟩
theorem zd_14_101_74 : zz_D zy_takeParts_14_101 74 (.iload_n 2) 1 75 := ⟨zq_28 zg_14_101_69.2.2.2.2.2.1, rfl⟩
theorem zd_14_101_75 : zz_D zy_takeParts_14_101 75 (.ior) 1 76 := ⟨zq_128 zg_14_101_69.2.2.2.2.2.2.1, rfl⟩
theorem zd_14_101_76 : zz_D zy_takeParts_14_101 76 (.putfield 567) 3 79 := ⟨zq_181 zg_14_101_69.2.2.2.2.2.2.2.1 zg_14_101_69.2.2.2.2.2.2.2.2.1 zg_14_101_69.2.2.2.2.2.2.2.2.2.1 rfl, rfl⟩
theorem zd_14_101_79 : zz_D zy_takeParts_14_101 79 (.aload_n 0) 1 80 := ⟨zq_42 zg_14_101_69.2.2.2.2.2.2.2.2.2.2.1, rfl⟩
theorem zd_14_101_80 : zz_D zy_takeParts_14_101 80 (.invokevirtual 526) 3 83 := ⟨zq_182 zg_14_101_69.2.2.2.2.2.2.2.2.2.2.2.1 zg_14_101_69.2.2.2.2.2.2.2.2.2.2.2.2.1 zg_14_101_69.2.2.2.2.2.2.2.2.2.2.2.2.2.1 rfl, rfl⟩
theorem zd_14_101_83 : zz_D zy_takeParts_14_101 83 (.aload_n 0) 1 84 := ⟨zq_42 zg_14_101_69.2.2.2.2.2.2.2.2.2.2.2.2.2.2.1, rfl⟩
theorem zd_14_101_84 : zz_D zy_takeParts_14_101 84 (.iload_n 2) 1 85 := ⟨zq_28 zg_14_101_69.2.2.2.2.2.2.2.2.2.2.2.2.2.2.2.1, rfl⟩
theorem zd_14_101_85 : zz_D zy_takeParts_14_101 85 (.invokevirtual 573) 3 88 := ⟨zq_182 zg_14_101_69.2.2.2.2.2.2.2.2.2.2.2.2.2.2.2.2.1 zg_14_101_69.2.2.2.2.2.2.2.2.2.2.2.2.2.2.2.2.2.1 zg_14_101_69.2.2.2.2.2.2.2.2.2.2.2.2.2.2.2.2.2.2.1 rfl, rfl⟩
theorem zd_14_101_88 : zz_B zy_takeParts_14_101 88 (Instr.ifCond .ne) 93 91 := ⟨5, zq_154 zg_14_101_69.2.2.2.2.2.2.2.2.2.2.2.2.2.2.2.2.2.2.2.1 zg_14_101_69.2.2.2.2.2.2.2.2.2.2.2.2.2.2.2.2.2.2.2.2.1 zg_14_101_69.2.2.2.2.2.2.2.2.2.2.2.2.2.2.2.2.2.2.2.2.2.1 (by decide), rfl, rfl⟩
theorem zd_14_101_91 : zz_D zy_takeParts_14_101 91 (.iconst 0) 1 92 := ⟨zq_3 zg_14_101_69.2.2.2.2.2.2.2.2.2.2.2.2.2.2.2.2.2.2.2.2.2.2.1, rfl⟩
theorem zd_14_101_92 : zz_D zy_takeParts_14_101 92 (.ireturn) 1 93 := ⟨zq_172 zg_14_101_69.2.2.2.2.2.2.2.2.2.2.2.2.2.2.2.2.2.2.2.2.2.2.2, rfl⟩
theorem zg_14_101_93 : zq_at zy_takeParts_14_101.2.1 93 167 ∧ zq_at zy_takeParts_14_101.2.1 94 255 ∧ zq_at zy_takeParts_14_101.2.1 95 203 := by decide +kernel
theorem zd_14_101_93 : zz_B zy_takeParts_14_101 93 Instr.goto 40 96 := ⟨(-53), zq_167 zg_14_101_93.1 zg_14_101_93.2.1 zg_14_101_93.2.2 (by decide), rfl, rfl⟩

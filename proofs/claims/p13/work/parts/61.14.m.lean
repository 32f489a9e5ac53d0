-- TensorForgeModel partOf ()I
abbrev zr_partOf_14_99 : Room := { frames := 0, cells := 0, slots := 0, locals := 0 }
def zp_partOf_14_99  (S0 : zz_S) : Int → zz_S → Prop := fun r S => S0 = S ∧ (0 ≤ r ∧ r ≤ 128) ∧ (r ≠ 0 → S0 1079 30 = 102)
theorem zc_partOf_14_99 {g : mm_G} {l : Launch}  (S0 : zz_S) (n : Nat) (hn : zz_end ≤ n) (G_S0 : zz_G S0)  : mm_Met g l zy_partOf_14_99 zr_partOf_14_99 [.ref 1079] (zz_M S0 n) n (zz_QI n (zp_partOf_14_99  S0)) := by
  refine zz_enter (by decide) (Nat.le_of_ble_eq_true rfl) (zz_less (ls1 := [some (.ref 1079)]) ⟨rfl, trivial⟩ ?_)
  refine zz_aload_n (x := 1079) rfl zd_14_99_0 ?_
  have g1 := zz_G.r G_S0 1079 30 0 102 rfl rfl
  refine zz_geti (z := S0 1079 30) zd_14_99_1 zf_Md_347 zT_1079 rfl (zz_ltn hn rfl) rfl ?_
  refine zz_bipush (by decide) zd_14_99_4 ?_
  refine zz_icmp_eq (by omega) (by omega) zd_14_99_6 (fun c2 => ?_) (fun c2 => ?_)
  · refine zz_aload_n (x := 1079) rfl zd_14_99_11 ?_
    have g3 := zz_G.r G_S0 1079 61 (-9223372036854775808) 9223372036854775807 rfl rfl
    refine zz_getl (z := S0 1079 61) zd_14_99_12 zf_Md_522 zT_1079 rfl (zz_ltn hn rfl) rfl ?_
    refine zz_ldc2 (z := 802) zq_Md_165 (by decide) zd_14_99_15 ?_
    refine zz_lcmp (by omega) (by omega) zd_14_99_18 (fun v4 hv4 => ?_)
    refine zz_if_ne (by omega) zd_14_99_19 (fun c5 => ?_) (fun c5 => ?_)
    · refine zz_aload_n (x := 1079) rfl zd_14_99_26 ?_
      refine zz_getl (z := S0 1079 61) zd_14_99_27 zf_Md_522 zT_1079 rfl (zz_ltn hn rfl) rfl ?_
      refine zz_ldc2 (z := 21094748847) zq_Md_540 (by decide) zd_14_99_30 ?_
      refine zz_lcmp (by omega) (by omega) zd_14_99_33 (fun v6 hv6 => ?_)
      refine zz_if_ne (by omega) zd_14_99_34 (fun c7 => ?_) (fun c7 => ?_)
      · refine zz_aload_n (x := 1079) rfl zd_14_99_41 ?_
        refine zz_getl (z := S0 1079 61) zd_14_99_42 zf_Md_522 zT_1079 rfl (zz_ltn hn rfl) rfl ?_
        refine zz_ldc2 (z := 641) zq_Md_163 (by decide) zd_14_99_45 ?_
        refine zz_lcmp (by omega) (by omega) zd_14_99_48 (fun v8 hv8 => ?_)
        refine zz_if_ne (by omega) zd_14_99_49 (fun c9 => ?_) (fun c9 => ?_)
        · refine zz_aload_n (x := 1079) rfl zd_14_99_56 ?_
          refine zz_getl (z := S0 1079 61) zd_14_99_57 zf_Md_522 zT_1079 rfl (zz_ltn hn rfl) rfl ?_
          refine zz_ldc2 (z := 530067) zq_Md_171 (by decide) zd_14_99_60 ?_
          refine zz_lcmp (by omega) (by omega) zd_14_99_63 (fun v10 hv10 => ?_)
          refine zz_if_ne (by omega) zd_14_99_64 (fun c11 => ?_) (fun c11 => ?_)
          · refine zz_aload_n (x := 1079) rfl zd_14_99_72 ?_
            refine zz_getl (z := S0 1079 61) zd_14_99_73 zf_Md_522 zT_1079 rfl (zz_ltn hn rfl) rfl ?_
            refine zz_ldc2 (z := 171141) zq_Md_542 (by decide) zd_14_99_76 ?_
            refine zz_lcmp (by omega) (by omega) zd_14_99_79 (fun v12 hv12 => ?_)
            refine zz_if_ne (by omega) zd_14_99_80 (fun c13 => ?_) (fun c13 => ?_)
            · refine zz_aload_n (x := 1079) rfl zd_14_99_88 ?_
              refine zz_getl (z := S0 1079 61) zd_14_99_89 zf_Md_522 zT_1079 rfl (zz_ltn hn rfl) rfl ?_
              refine zz_ldc2 (z := 21177619) zq_Md_544 (by decide) zd_14_99_92 ?_
              refine zz_lcmp (by omega) (by omega) zd_14_99_95 (fun v14 hv14 => ?_)
              refine zz_if_ne (by omega) zd_14_99_96 (fun c15 => ?_) (fun c15 => ?_)
              · refine zz_aload_n (x := 1079) rfl zd_14_99_104 ?_
                refine zz_getl (z := S0 1079 61) zd_14_99_105 zf_Md_522 zT_1079 rfl (zz_ltn hn rfl) rfl ?_
                refine zz_ldc2 (z := 700594) zq_Md_546 (by decide) zd_14_99_108 ?_
                refine zz_lcmp (by omega) (by omega) zd_14_99_111 (fun v16 hv16 => ?_)
                refine zz_if_ne (by omega) zd_14_99_112 (fun c17 => ?_) (fun c17 => ?_)
                · refine zz_aload_n (x := 1079) rfl zd_14_99_120 ?_
                  refine zz_getl (z := S0 1079 61) zd_14_99_121 zf_Md_522 zT_1079 rfl (zz_ltn hn rfl) rfl ?_
                  refine zz_ldc2 (z := 609) zq_Md_548 (by decide) zd_14_99_124 ?_
                  refine zz_lcmp (by omega) (by omega) zd_14_99_127 (fun v18 hv18 => ?_)
                  refine zz_if_ne (by omega) zd_14_99_128 (fun c19 => ?_) (fun c19 => ?_)
                  · refine zz_iconst zd_14_99_137 ?_
                    exact zz_iret zd_14_99_138 rfl (Nat.zero_le _) (Nat.zero_le _) ⟨_, _, rfl, rfl, by omega, by omega⟩
                  · refine zz_sipush (by decide) zd_14_99_131 ?_
                    refine zz_goto zd_14_99_134 ?_
                    exact zz_iret zd_14_99_138 rfl (Nat.zero_le _) (Nat.zero_le _) ⟨_, _, rfl, rfl, by omega, by omega⟩
                · refine zz_bipush (by decide) zd_14_99_115 ?_
                  refine zz_goto zd_14_99_117 ?_
                  exact zz_iret zd_14_99_138 rfl (Nat.zero_le _) (Nat.zero_le _) ⟨_, _, rfl, rfl, by omega, by omega⟩
              · refine zz_bipush (by decide) zd_14_99_99 ?_
                refine zz_goto zd_14_99_101 ?_
                exact zz_iret zd_14_99_138 rfl (Nat.zero_le _) (Nat.zero_le _) ⟨_, _, rfl, rfl, by omega, by omega⟩
            · refine zz_bipush (by decide) zd_14_99_83 ?_
              refine zz_goto zd_14_99_85 ?_
              exact zz_iret zd_14_99_138 rfl (Nat.zero_le _) (Nat.zero_le _) ⟨_, _, rfl, rfl, by omega, by omega⟩
          · refine zz_bipush (by decide) zd_14_99_67 ?_
            refine zz_goto zd_14_99_69 ?_
            exact zz_iret zd_14_99_138 rfl (Nat.zero_le _) (Nat.zero_le _) ⟨_, _, rfl, rfl, by omega, by omega⟩
        · refine zz_iconst zd_14_99_52 ?_
          refine zz_goto zd_14_99_53 ?_
          exact zz_iret zd_14_99_138 rfl (Nat.zero_le _) (Nat.zero_le _) ⟨_, _, rfl, rfl, by omega, by omega⟩
      · refine zz_iconst zd_14_99_37 ?_
        refine zz_goto zd_14_99_38 ?_
        exact zz_iret zd_14_99_138 rfl (Nat.zero_le _) (Nat.zero_le _) ⟨_, _, rfl, rfl, by omega, by omega⟩
    · refine zz_iconst zd_14_99_22 ?_
      refine zz_goto zd_14_99_23 ?_
      exact zz_iret zd_14_99_138 rfl (Nat.zero_le _) (Nat.zero_le _) ⟨_, _, rfl, rfl, by omega, by omega⟩
  · refine zz_iconst zd_14_99_9 ?_
    exact zz_iret zd_14_99_10 rfl (Nat.zero_le _) (Nat.zero_le _) ⟨_, _, rfl, rfl, by omega, by omega⟩
abbrev zy_takePart_14_100 : mm_Y := (⟨"TensorForgeModel", "takePart", "(I)Z"⟩, prog_14_method_100_code, 3, (some .boolean))
theorem zyw_takePart_14_100 : mm_Yw zy_takePart_14_100 1 := ⟨mm_tb_1 2231 (by decide +kernel) rfl, mm_tb_1 12 (by decide +kernel) rfl, ⟨by decide, by decide⟩, by decide +kernel⟩
theorem zd_14_100_1 : ∃ len, decode zy_takePart_14_100.2.1 1 = .ok (.lookupswitch 137 #[(1, 67), (2, 96), (4, 102), (8, 108), (16, 114), (32, 120), (64, 127)], len) := ⟨67, by decide +kernel⟩
theorem zk_Md_550 : mm_Vl "TensorForgeModel" 550 11 1 zy_takeNet_14_95 := ⟨zyw_takeNet_14_95, (R_Md, F_Md, 69), rfl, mm_tb_1 2232 (by decide +kernel) rfl, mm_tb_1 2234 (by decide +kernel) rfl, mm_tb_s 148 (by decide +kernel) rfl⟩
theorem zk_Md_553 : mm_Vl "TensorForgeModel" 553 11 0 zy_takeX_14_96 := ⟨zyw_takeX_14_96, (R_Md, F_Md, 69), rfl, mm_tb_1 2236 (by decide +kernel) rfl, mm_tb_1 2238 (by decide +kernel) rfl, mm_tb_s 149 (by decide +kernel) rfl⟩
theorem zf_Md_564 : mm_Fl "TensorForgeModel" 564 11 64 .long false := ⟨R_Md, F_Md, 69, t_Md, rfl, i_Md, by decide, mm_tb_1 1675 (by decide +kernel) rfl, rfl, t_Md_ok, n_Md, rfl, by decide +kernel⟩
theorem zk_Md_557 : mm_Vl "TensorForgeModel" 557 11 1 zy_isKeyword_14_97 := ⟨zyw_isKeyword_14_97, (R_Md, F_Md, 69), rfl, mm_tb_1 2240 (by decide +kernel) rfl, mm_tb_1 2242 (by decide +kernel) rfl, mm_tb_s 150 (by decide +kernel) rfl⟩
theorem zk_Md_560 : mm_Vl "TensorForgeModel" 560 11 1 zy_named_14_98 := ⟨zyw_named_14_98, (R_Md, F_Md, 69), rfl, mm_tb_1 2211 (by decide +kernel) rfl, mm_tb_1 2213 (by decide +kernel) rfl, mm_tb_s 144 (by decide +kernel) rfl⟩
theorem zg_14_100_0 : (decode zy_takePart_14_100.2.1 0 = .ok ((.iload_n 1), 1)) ∧ (decode zy_takePart_14_100.2.1 68 = .ok ((.aload_n 0), 1)) ∧ (decode zy_takePart_14_100.2.1 69 = .ok ((.iconst 0), 1)) ∧ (decode zy_takePart_14_100.2.1 70 = .ok ((.invokevirtual 550), 3)) ∧ (decode zy_takePart_14_100.2.1 73 = .ok ((Instr.ifCond .eq) 22, 3)) ∧ (decode zy_takePart_14_100.2.1 95 = .ok ((.iconst 0), 1)) ∧ (decode zy_takePart_14_100.2.1 96 = .ok ((.ireturn), 1)) ∧ (decode zy_takePart_14_100.2.1 76 = .ok ((.aload_n 0), 1)) ∧ (decode zy_takePart_14_100.2.1 77 = .ok ((.invokevirtual 553), 3)) ∧ (decode zy_takePart_14_100.2.1 80 = .ok ((Instr.ifCond .eq) 15, 3)) := by decide +kernel
theorem zd_14_100_0 : zz_D zy_takePart_14_100 0 (.iload_n 1) 1 1 := ⟨zg_14_100_0.1, rfl⟩
theorem zd_14_100_68 : zz_D zy_takePart_14_100 68 (.aload_n 0) 1 69 := ⟨zg_14_100_0.2.1, rfl⟩
theorem zd_14_100_69 : zz_D zy_takePart_14_100 69 (.iconst 0) 1 70 := ⟨zg_14_100_0.2.2.1, rfl⟩
theorem zd_14_100_70 : zz_D zy_takePart_14_100 70 (.invokevirtual 550) 3 73 := ⟨zg_14_100_0.2.2.2.1, rfl⟩
theorem zd_14_100_73 : zz_B zy_takePart_14_100 73 (Instr.ifCond .eq) 95 76 := ⟨22, zg_14_100_0.2.2.2.2.1, rfl, rfl⟩
theorem zd_14_100_95 : zz_D zy_takePart_14_100 95 (.iconst 0) 1 96 := ⟨zg_14_100_0.2.2.2.2.2.1, rfl⟩
theorem zd_14_100_96 : zz_D zy_takePart_14_100 96 (.ireturn) 1 97 := ⟨zg_14_100_0.2.2.2.2.2.2.1, rfl⟩
theorem zd_14_100_76 : zz_D zy_takePart_14_100 76 (.aload_n 0) 1 77 := ⟨zg_14_100_0.2.2.2.2.2.2.2.1, rfl⟩
theorem zd_14_100_77 : zz_D zy_takePart_14_100 77 (.invokevirtual 553) 3 80 := ⟨zg_14_100_0.2.2.2.2.2.2.2.2.1, rfl⟩
theorem zd_14_100_80 : zz_B zy_takePart_14_100 80 (Instr.ifCond .eq) 95 83 := ⟨15, zg_14_100_0.2.2.2.2.2.2.2.2.2, rfl, rfl⟩
theorem zg_14_100_83 : (decode zy_takePart_14_100.2.1 83 = .ok ((.aload_n 0), 1)) ∧ (decode zy_takePart_14_100.2.1 84 = .ok ((.iconst 1), 1)) ∧ (decode zy_takePart_14_100.2.1 85 = .ok ((.invokevirtual 550), 3)) ∧ (decode zy_takePart_14_100.2.1 88 = .ok ((Instr.ifCond .eq) 7, 3)) ∧ (decode zy_takePart_14_100.2.1 91 = .ok ((.iconst 1), 1)) ∧ (decode zy_takePart_14_100.2.1 92 = .ok (Instr.goto 4, 3)) ∧ (decode zy_takePart_14_100.2.1 97 = .ok ((.aload_n 0), 1)) ∧ (decode zy_takePart_14_100.2.1 98 = .ok ((.iconst 2), 1)) ∧ (decode zy_takePart_14_100.2.1 99 = .ok ((.invokevirtual 550), 3)) ∧ (decode zy_takePart_14_100.2.1 102 = .ok ((.ireturn), 1)) := by decide +kernel
theorem zd_14_100_83 : zz_D zy_takePart_14_100 83 (.aload_n 0) 1 84 := ⟨zg_14_100_83.1, rfl⟩
theorem zd_14_100_84 : zz_D zy_takePart_14_100 84 (.iconst 1) 1 85 := ⟨zg_14_100_83.2.1, rfl⟩
theorem zd_14_100_85 : zz_D zy_takePart_14_100 85 (.invokevirtual 550) 3 88 := ⟨zg_14_100_83.2.2.1, rfl⟩
theorem zd_14_100_88 : zz_B zy_takePart_14_100 88 (Instr.ifCond .eq) 95 91 := ⟨7, zg_14_100_83.2.2.2.1, rfl, rfl⟩
theorem zd_14_100_91 : zz_D zy_takePart_14_100 91 (.iconst 1) 1 92 := ⟨zg_14_100_83.2.2.2.2.1, rfl⟩
theorem zd_14_100_92 : zz_B zy_takePart_14_100 92 Instr.goto 96 95 := ⟨4, zg_14_100_83.2.2.2.2.2.1, rfl, rfl⟩
theorem zd_14_100_97 : zz_D zy_takePart_14_100 97 (.aload_n 0) 1 98 := ⟨zg_14_100_83.2.2.2.2.2.2.1, rfl⟩
theorem zd_14_100_98 : zz_D zy_takePart_14_100 98 (.iconst 2) 1 99 := ⟨zg_14_100_83.2.2.2.2.2.2.2.1, rfl⟩
theorem zd_14_100_99 : zz_D zy_takePart_14_100 99 (.invokevirtual 550) 3 102 := ⟨zg_14_100_83.2.2.2.2.2.2.2.2.1, rfl⟩
theorem zd_14_100_102 : zz_D zy_takePart_14_100 102 (.ireturn) 1 103 := ⟨zg_14_100_83.2.2.2.2.2.2.2.2.2, rfl⟩
theorem zg_14_100_103 : (decode zy_takePart_14_100.2.1 103 = .ok ((.aload_n 0), 1)) ∧ (decode zy_takePart_14_100.2.1 104 = .ok ((.iconst 3), 1)) ∧ (decode zy_takePart_14_100.2.1 105 = .ok ((.invokevirtual 550), 3)) ∧ (decode zy_takePart_14_100.2.1 108 = .ok ((.ireturn), 1)) ∧ (decode zy_takePart_14_100.2.1 109 = .ok ((.aload_n 0), 1)) ∧ (decode zy_takePart_14_100.2.1 110 = .ok ((.iconst 4), 1)) ∧ (decode zy_takePart_14_100.2.1 111 = .ok ((.invokevirtual 550), 3)) ∧ (decode zy_takePart_14_100.2.1 114 = .ok ((.ireturn), 1)) ∧ (decode zy_takePart_14_100.2.1 115 = .ok ((.aload_n 0), 1)) ∧ (decode zy_takePart_14_100.2.1 116 = .ok ((.iconst 5), 1)) := by decide +kernel
theorem zd_14_100_103 : zz_D zy_takePart_14_100 103 (.aload_n 0) 1 104 := ⟨zg_14_100_103.1, rfl⟩
theorem zd_14_100_104 : zz_D zy_takePart_14_100 104 (.iconst 3) 1 105 := ⟨zg_14_100_103.2.1, rfl⟩
theorem zd_14_100_105 : zz_D zy_takePart_14_100 105 (.invokevirtual 550) 3 108 := ⟨zg_14_100_103.2.2.1, rfl⟩
theorem zd_14_100_108 : zz_D zy_takePart_14_100 108 (.ireturn) 1 109 := ⟨zg_14_100_103.2.2.2.1, rfl⟩
theorem zd_14_100_109 : zz_D zy_takePart_14_100 109 (.aload_n 0) 1 110 := ⟨zg_14_100_103.2.2.2.2.1, rfl⟩
theorem zd_14_100_110 : zz_D zy_takePart_14_100 110 (.iconst 4) 1 111 := ⟨zg_14_100_103.2.2.2.2.2.1, rfl⟩
theorem zd_14_100_111 : zz_D zy_takePart_14_100 111 (.invokevirtual 550) 3 114 := ⟨zg_14_100_103.2.2.2.2.2.2.1, rfl⟩
theorem zd_14_100_114 : zz_D zy_takePart_14_100 114 (.ireturn) 1 115 := ⟨zg_14_100_103.2.2.2.2.2.2.2.1, rfl⟩
theorem zd_14_100_115 : zz_D zy_takePart_14_100 115 (.aload_n 0) 1 116 := ⟨zg_14_100_103.2.2.2.2.2.2.2.2.1, rfl⟩
theorem zd_14_100_116 : zz_D zy_takePart_14_100 116 (.iconst 5) 1 117 := ⟨zg_14_100_103.2.2.2.2.2.2.2.2.2, rfl⟩
theorem zg_14_100_117 : (decode zy_takePart_14_100.2.1 117 = .ok ((.invokevirtual 550), 3)) ∧ (decode zy_takePart_14_100.2.1 120 = .ok ((.ireturn), 1)) ∧ (decode zy_takePart_14_100.2.1 121 = .ok ((.aload_n 0), 1)) ∧ (decode zy_takePart_14_100.2.1 122 = .ok ((.bipush 6), 2)) ∧ (decode zy_takePart_14_100.2.1 124 = .ok ((.invokevirtual 550), 3)) ∧ (decode zy_takePart_14_100.2.1 127 = .ok ((.ireturn), 1)) ∧ (decode zy_takePart_14_100.2.1 128 = .ok ((.aload_n 0), 1)) ∧ (decode zy_takePart_14_100.2.1 129 = .ok ((.getfield 136), 3)) ∧ (decode zy_takePart_14_100.2.1 132 = .ok ((.bipush 7), 2)) ∧ (decode zy_takePart_14_100.2.1 134 = .ok ((.iconst 1), 1)) := by decide +kernel
theorem zd_14_100_117 : zz_D zy_takePart_14_100 117 (.invokevirtual 550) 3 120 := ⟨zg_14_100_117.1, rfl⟩
theorem zd_14_100_120 : zz_D zy_takePart_14_100 120 (.ireturn) 1 121 := ⟨zg_14_100_117.2.1, rfl⟩
theorem zd_14_100_121 : zz_D zy_takePart_14_100 121 (.aload_n 0) 1 122 := ⟨zg_14_100_117.2.2.1, rfl⟩
theorem zd_14_100_122 : zz_D zy_takePart_14_100 122 (.bipush 6) 2 124 := ⟨zg_14_100_117.2.2.2.1, rfl⟩
theorem zd_14_100_124 : zz_D zy_takePart_14_100 124 (.invokevirtual 550) 3 127 := ⟨zg_14_100_117.2.2.2.2.1, rfl⟩
theorem zd_14_100_127 : zz_D zy_takePart_14_100 127 (.ireturn) 1 128 := ⟨zg_14_100_117.2.2.2.2.2.1, rfl⟩
theorem zd_14_100_128 : zz_D zy_takePart_14_100 128 (.aload_n 0) 1 129 := ⟨zg_14_100_117.2.2.2.2.2.2.1, rfl⟩
theorem zd_14_100_129 : zz_D zy_takePart_14_100 129 (.getfield 136) 3 132 := ⟨zg_14_100_117.2.2.2.2.2.2.2.1, rfl⟩
theorem zd_14_100_132 : zz_D zy_takePart_14_100 132 (.bipush 7) 2 134 := ⟨zg_14_100_117.2.2.2.2.2.2.2.2.1, rfl⟩
theorem zd_14_100_134 : zz_D zy_takePart_14_100 134 (.iconst 1) 1 135 := ⟨zg_14_100_117.2.2.2.2.2.2.2.2.2, rfl⟩
theorem zg_14_100_135 : (decode zy_takePart_14_100.2.1 135 = .ok ((.iastore), 1)) ∧ (decode zy_takePart_14_100.2.1 136 = .ok ((.iconst 1), 1)) ∧ (decode zy_takePart_14_100.2.1 137 = .ok ((.ireturn), 1)) ∧ (decode zy_takePart_14_100.2.1 138 = .ok ((.aload_n 0), 1)) ∧ (decode zy_takePart_14_100.2.1 139 = .ok ((.getfield 347), 3)) ∧ (decode zy_takePart_14_100.2.1 142 = .ok ((.bipush 102), 2)) ∧ (decode zy_takePart_14_100.2.1 144 = .ok ((Instr.if_icmp .ne) 29, 3)) ∧ (decode zy_takePart_14_100.2.1 173 = .ok ((.iconst 0), 1)) ∧ (decode zy_takePart_14_100.2.1 174 = .ok ((.istore_n 2), 1)) ∧ (decode zy_takePart_14_100.2.1 175 = .ok ((.aload_n 0), 1)) := by decide +kernel
theorem zd_14_100_135 : zz_D zy_takePart_14_100 135 (.iastore) 1 136 := ⟨zg_14_100_135.1, rfl⟩
theorem zd_14_100_136 : zz_D zy_takePart_14_100 136 (.iconst 1) 1 137 := ⟨zg_14_100_135.2.1, rfl⟩
theorem zd_14_100_137 : zz_D zy_takePart_14_100 137 (.ireturn) 1 138 := ⟨zg_14_100_135.2.2.1, rfl⟩
theorem zd_14_100_138 : zz_D zy_takePart_14_100 138 (.aload_n 0) 1 139 := ⟨zg_14_100_135.2.2.2.1, rfl⟩
theorem zd_14_100_139 : zz_D zy_takePart_14_100 139 (.getfield 347) 3 142 := ⟨zg_14_100_135.2.2.2.2.1, rfl⟩
theorem zd_14_100_142 : zz_D zy_takePart_14_100 142 (.bipush 102) 2 144 := ⟨zg_14_100_135.2.2.2.2.2.1, rfl⟩
theorem zd_14_100_144 : zz_B zy_takePart_14_100 144 (Instr.if_icmp .ne) 173 147 := ⟨29, zg_14_100_135.2.2.2.2.2.2.1, rfl, rfl⟩
theorem zd_14_100_173 : zz_D zy_takePart_14_100 173 (.iconst 0) 1 174 := ⟨zg_14_100_135.2.2.2.2.2.2.2.1, rfl⟩
theorem zd_14_100_174 : zz_D zy_takePart_14_100 174 (.istore_n 2) 1 175 := ⟨zg_14_100_135.2.2.2.2.2.2.2.2.1, rfl⟩
theorem zd_14_100_175 : zz_D zy_takePart_14_100 175 (.aload_n 0) 1 176 := ⟨zg_14_100_135.2.2.2.2.2.2.2.2.2, rfl⟩
theorem zg_14_100_176 : (decode zy_takePart_14_100.2.1 176 = .ok ((.aload_n 0), 1)) ∧ (decode zy_takePart_14_100.2.1 177 = .ok ((.getfield 522), 3)) ∧ (decode zy_takePart_14_100.2.1 180 = .ok ((.putfield 564), 3)) ∧ (decode zy_takePart_14_100.2.1 183 = .ok ((.aload_n 0), 1)) ∧ (decode zy_takePart_14_100.2.1 184 = .ok ((.invokevirtual 526), 3)) ∧ (decode zy_takePart_14_100.2.1 187 = .ok ((.iload_n 2), 1)) ∧ (decode zy_takePart_14_100.2.1 188 = .ok ((.ireturn), 1)) ∧ (decode zy_takePart_14_100.2.1 147 = .ok ((.aload_n 0), 1)) ∧ (decode zy_takePart_14_100.2.1 148 = .ok ((.aload_n 0), 1)) ∧ (decode zy_takePart_14_100.2.1 149 = .ok ((.getfield 522), 3)) := by decide +kernel
theorem zd_14_100_176 : zz_D zy_takePart_14_100 176 (.aload_n 0) 1 177 := ⟨zg_14_100_176.1, rfl⟩
theorem zd_14_100_177 : zz_D zy_takePart_14_100 177 (.getfield 522) 3 180 := ⟨zg_14_100_176.2.1, rfl⟩
theorem zd_14_100_180 : zz_D zy_takePart_14_100 180 (.putfield 564) 3 183 := ⟨zg_14_100_176.2.2.1, rfl⟩
theorem zd_14_100_183 : zz_D zy_takePart_14_100 183 (.aload_n 0) 1 184 := ⟨zg_14_100_176.2.2.2.1, rfl⟩
theorem zd_14_100_184 : zz_D zy_takePart_14_100 184 (.invokevirtual 526) 3 187 := ⟨zg_14_100_176.2.2.2.2.1, rfl⟩
theorem zd_14_100_187 : zz_D zy_takePart_14_100 187 (.iload_n 2) 1 188 := ⟨zg_14_100_176.2.2.2.2.2.1, rfl⟩
theorem zd_14_100_188 : zz_D zy_takePart_14_100 188 (.ireturn) 1 189 := ⟨zg_14_100_176.2.2.2.2.2.2.1, rfl⟩
theorem zd_14_100_147 : zz_D zy_takePart_14_100 147 (.aload_n 0) 1 148 := ⟨zg_14_100_176.2.2.2.2.2.2.2.1, rfl⟩
theorem zd_14_100_148 : zz_D zy_takePart_14_100 148 (.aload_n 0) 1 149 := ⟨zg_14_100_176.2.2.2.2.2.2.2.2.1, rfl⟩
theorem zd_14_100_149 : zz_D zy_takePart_14_100 149 (.getfield 522) 3 152 := ⟨zg_14_100_176.2.2.2.2.2.2.2.2.2, rfl⟩
theorem zg_14_100_152 : (decode zy_takePart_14_100.2.1 152 = .ok ((.invokevirtual 557), 3)) ∧ (decode zy_takePart_14_100.2.1 155 = .ok ((Instr.ifCond .ne) 18, 3)) ∧ (decode zy_takePart_14_100.2.1 158 = .ok ((.aload_n 0), 1)) ∧ (decode zy_takePart_14_100.2.1 159 = .ok ((.aload_n 0), 1)) ∧ (decode zy_takePart_14_100.2.1 160 = .ok ((.getfield 522), 3)) ∧ (decode zy_takePart_14_100.2.1 163 = .ok ((.invokevirtual 560), 3)) ∧ (decode zy_takePart_14_100.2.1 166 = .ok ((Instr.ifCond .ge) 7, 3)) ∧ (decode zy_takePart_14_100.2.1 169 = .ok ((.iconst 1), 1)) ∧ (decode zy_takePart_14_100.2.1 170 = .ok (Instr.goto 4, 3)) := by decide +kernel
theorem zd_14_100_152 : zz_D zy_takePart_14_100 152 (.invokevirtual 557) 3 155 := ⟨zg_14_100_152.1, rfl⟩
theorem zd_14_100_155 : zz_B zy_takePart_14_100 155 (Instr.ifCond .ne) 173 158 := ⟨18, zg_14_100_152.2.1, rfl, rfl⟩
theorem zd_14_100_158 : zz_D zy_takePart_14_100 158 (.aload_n 0) 1 159 := ⟨zg_14_100_152.2.2.1, rfl⟩
theorem zd_14_100_159 : zz_D zy_takePart_14_100 159 (.aload_n 0) 1 160 := ⟨zg_14_100_152.2.2.2.1, rfl⟩
theorem zd_14_100_160 : zz_D zy_takePart_14_100 160 (.getfield 522) 3 163 := ⟨zg_14_100_152.2.2.2.2.1, rfl⟩
theorem zd_14_100_163 : zz_D zy_takePart_14_100 163 (.invokevirtual 560) 3 166 := ⟨zg_14_100_152.2.2.2.2.2.1, rfl⟩
theorem zd_14_100_166 : zz_B zy_takePart_14_100 166 (Instr.ifCond .ge) 173 169 := ⟨7, zg_14_100_152.2.2.2.2.2.2.1, rfl, rfl⟩
theorem zd_14_100_169 : zz_D zy_takePart_14_100 169 (.iconst 1) 1 170 := ⟨zg_14_100_152.2.2.2.2.2.2.2.1, rfl⟩
theorem zd_14_100_170 : zz_B zy_takePart_14_100 170 Instr.goto 174 173 := ⟨4, zg_14_100_152.2.2.2.2.2.2.2.2, rfl, rfl⟩
-- TensorForgeModel takePart (I)Z
abbrev zr_takePart_14_100 : Room := { frames := 4, cells := 0, slots := 0, locals := 61 }
def zp_takePart_14_100 (p0 : Int) (S0 : zz_S) : Int → zz_S → Prop := fun r S => zz_G S ∧ zz_fr [(1079, 30), (1079, 31), (1079, 32), (1079, 61), (1079, 64)] [1118] (fun _ _ => False) S0 S ∧ (0 ≤ r ∧ r ≤ 1) ∧ (S 1079 32 > S0 1079 32 ∨ (S 1079 32 = S0 1079 32 ∧ (S 1079 30 = S0 1079 30 ∨ S 1079 30 = 0 ∨ S 1079 30 = 101)))
theorem zc_takePart_14_100 {g : mm_G} {l : Launch} (p0 : Int) (S0 : zz_S) (n : Nat) (hn : zz_end ≤ n) (G_S0 : zz_G S0) (hp0 : (-2147483648) ≤ p0 ∧ p0 ≤ 2147483647) (hN : ∀ w : Nat, 1 ≤ w → w ≤ 20 → S0 1100 w = zt_cd (zt_nw.getD w [])) : mm_Met g l zy_takePart_14_100 zr_takePart_14_100 [.ref 1079, zi p0] (zz_M S0 n) n (zz_QI n (zp_takePart_14_100 p0 S0)) := by
  refine zz_enter (by decide) (Nat.le_of_ble_eq_true rfl) (zz_less (ls1 := [some (.ref 1079), some (zi p0)]) ⟨rfl, ⟨rfl, trivial⟩⟩ ?_)
  have F_S0 : zz_fr [(1079, 30), (1079, 31), (1079, 32), (1079, 61), (1079, 64)] [1118] (fun _ _ => False) S0 S0 := zz_fr.refl
  refine zz_iload_n (x := p0) rfl zd_14_100_0 ?_
  by_cases c1 : p0 = 1
  · refine zz_lsw (off := 67) (by omega) zd_14_100_1 (by decide) (by rw [c1]; rfl) rfl ?_
    refine zz_aload_n (x := 1079) rfl zd_14_100_68 ?_
    refine zz_iconst zd_14_100_69 ?_
    have g2 := zz_G.r G_S0 1079 30 0 102 rfl rfl
    have g3 := zz_G.r G_S0 1079 32 0 1500 rfl rfl
    refine zz_callVI [zi 0] zd_14_100_70 zk_Md_550 zT_1079 (zz_ltn hn rfl) rfl rfl ⟨Nat.le_of_ble_eq_true rfl, Nat.le_of_ble_eq_true rfl⟩ ⟨rfl, rfl⟩ (Nat.zero_le _) (Nat.zero_le _) (zc_takeNet_14_95 0 S0 n hn G_S0 (by omega) hN) (fun v5 S4 hP => ?_)
    obtain ⟨G_S4, fS4, o6, o7⟩ := hP
    have F_S4 := zz_fr.trans F_S0 fS4 rfl zz_nv
    rcases (by omega : v5 = 0 ∨ v5 = 1) with rfl | rfl
    · refine zz_if_eq (by omega) zd_14_100_73 (fun c8 => ?_) (fun c8 => ?_)
      · refine zz_iconst zd_14_100_95 ?_
        have g9 := zz_G.r G_S4 1079 30 0 102 rfl rfl
        have g10 := zz_G.r G_S4 1079 32 0 1500 rfl rfl
        exact zz_zret zd_14_100_96 rfl (by omega) (Nat.zero_le _) (Nat.zero_le _) ⟨_, _, rfl, G_S4, F_S4, by omega, by omega⟩
      · exfalso; omega
    · refine zz_if_eq (by omega) zd_14_100_73 (fun c11 => ?_) (fun c11 => ?_)
      · exfalso; omega
      · refine zz_aload_n (x := 1079) rfl zd_14_100_76 ?_
        have g12 := zz_G.r G_S4 1079 30 0 102 rfl rfl
        have g13 := zz_G.r G_S4 1079 32 0 1500 rfl rfl
        refine zz_callVI [] zd_14_100_77 zk_Md_553 zT_1079 (zz_ltn hn rfl) rfl rfl ⟨Nat.le_of_ble_eq_true rfl, Nat.le_of_ble_eq_true rfl⟩ ⟨rfl, rfl⟩ (Nat.zero_le _) (Nat.zero_le _) (zc_takeX_14_96  S4 n hn G_S4 (fun u h1 h2 => ((zz_rc fS4 (zz_nc1 rfl) rfl (fun h => h) rfl)).trans (hN u h1 h2))) (fun v15 S14 hP => ?_)
        obtain ⟨G_S14, fS14, o16, o17⟩ := hP
        have F_S14 := zz_fr.trans F_S4 fS14 rfl zz_nv
        rcases (by omega : v15 = 0 ∨ v15 = 1) with rfl | rfl
        · refine zz_if_eq (by omega) zd_14_100_80 (fun c18 => ?_) (fun c18 => ?_)
          · refine zz_iconst zd_14_100_95 ?_
            have g19 := zz_G.r G_S14 1079 30 0 102 rfl rfl
            have g20 := zz_G.r G_S14 1079 32 0 1500 rfl rfl
            exact zz_zret zd_14_100_96 rfl (by omega) (Nat.zero_le _) (Nat.zero_le _) ⟨_, _, rfl, G_S14, F_S14, by omega, by omega⟩
          · exfalso; omega
        · refine zz_if_eq (by omega) zd_14_100_80 (fun c21 => ?_) (fun c21 => ?_)
          · exfalso; omega
          · refine zz_aload_n (x := 1079) rfl zd_14_100_83 ?_
            refine zz_iconst zd_14_100_84 ?_
            have g22 := zz_G.r G_S14 1079 30 0 102 rfl rfl
            have g23 := zz_G.r G_S14 1079 32 0 1500 rfl rfl
            refine zz_callVI [zi 1] zd_14_100_85 zk_Md_550 zT_1079 (zz_ltn hn rfl) rfl rfl ⟨Nat.le_of_ble_eq_true rfl, Nat.le_of_ble_eq_true rfl⟩ ⟨rfl, rfl⟩ (Nat.zero_le _) (Nat.zero_le _) (zc_takeNet_14_95 1 S14 n hn G_S14 (by omega) (fun u h1 h2 => ((zz_rc fS14 (zz_nc1 rfl) rfl (fun h => h) (zz_rc fS4 (zz_nc1 rfl) rfl (fun h => h) rfl))).trans (hN u h1 h2))) (fun v25 S24 hP => ?_)
            obtain ⟨G_S24, fS24, o26, o27⟩ := hP
            have F_S24 := zz_fr.trans F_S14 fS24 rfl zz_nv
            rcases (by omega : v25 = 0 ∨ v25 = 1) with rfl | rfl
            · refine zz_if_eq (by omega) zd_14_100_88 (fun c28 => ?_) (fun c28 => ?_)
              · refine zz_iconst zd_14_100_95 ?_
                have g29 := zz_G.r G_S24 1079 30 0 102 rfl rfl
                have g30 := zz_G.r G_S24 1079 32 0 1500 rfl rfl
                exact zz_zret zd_14_100_96 rfl (by omega) (Nat.zero_le _) (Nat.zero_le _) ⟨_, _, rfl, G_S24, F_S24, by omega, by omega⟩
              · exfalso; omega
            · refine zz_if_eq (by omega) zd_14_100_88 (fun c31 => ?_) (fun c31 => ?_)
              · exfalso; omega
              · refine zz_iconst zd_14_100_91 ?_
                refine zz_goto zd_14_100_92 ?_
                have g32 := zz_G.r G_S24 1079 30 0 102 rfl rfl
                have g33 := zz_G.r G_S24 1079 32 0 1500 rfl rfl
                exact zz_zret zd_14_100_96 rfl (by omega) (Nat.zero_le _) (Nat.zero_le _) ⟨_, _, rfl, G_S24, F_S24, by omega, by omega⟩
  by_cases c34 : p0 = 2
  · refine zz_lsw (off := 96) (by omega) zd_14_100_1 (by decide) (by rw [c34]; rfl) rfl ?_
    refine zz_aload_n (x := 1079) rfl zd_14_100_97 ?_
    refine zz_iconst zd_14_100_98 ?_
    have g35 := zz_G.r G_S0 1079 30 0 102 rfl rfl
    have g36 := zz_G.r G_S0 1079 32 0 1500 rfl rfl
    refine zz_callVI [zi 2] zd_14_100_99 zk_Md_550 zT_1079 (zz_ltn hn rfl) rfl rfl ⟨Nat.le_of_ble_eq_true rfl, Nat.le_of_ble_eq_true rfl⟩ ⟨rfl, rfl⟩ (Nat.zero_le _) (Nat.zero_le _) (zc_takeNet_14_95 2 S0 n hn G_S0 (by omega) hN) (fun v38 S37 hP => ?_)
    obtain ⟨G_S37, fS37, o39, o40⟩ := hP
    have F_S37 := zz_fr.trans F_S0 fS37 rfl zz_nv
    rcases (by omega : v38 = 0 ∨ v38 = 1) with rfl | rfl
    · have g41 := zz_G.r G_S37 1079 30 0 102 rfl rfl
      have g42 := zz_G.r G_S37 1079 32 0 1500 rfl rfl
      exact zz_zret zd_14_100_102 rfl (by omega) (Nat.zero_le _) (Nat.zero_le _) ⟨_, _, rfl, G_S37, F_S37, by omega, by omega⟩
    · have g43 := zz_G.r G_S37 1079 30 0 102 rfl rfl
      have g44 := zz_G.r G_S37 1079 32 0 1500 rfl rfl
      exact zz_zret zd_14_100_102 rfl (by omega) (Nat.zero_le _) (Nat.zero_le _) ⟨_, _, rfl, G_S37, F_S37, by omega, by omega⟩
  by_cases c45 : p0 = 4
  · refine zz_lsw (off := 102) (by omega) zd_14_100_1 (by decide) (by rw [c45]; rfl) rfl ?_
    refine zz_aload_n (x := 1079) rfl zd_14_100_103 ?_
    refine zz_iconst zd_14_100_104 ?_
    have g46 := zz_G.r G_S0 1079 30 0 102 rfl rfl
    have g47 := zz_G.r G_S0 1079 32 0 1500 rfl rfl
    refine zz_callVI [zi 3] zd_14_100_105 zk_Md_550 zT_1079 (zz_ltn hn rfl) rfl rfl ⟨Nat.le_of_ble_eq_true rfl, Nat.le_of_ble_eq_true rfl⟩ ⟨rfl, rfl⟩ (Nat.zero_le _) (Nat.zero_le _) (zc_takeNet_14_95 3 S0 n hn G_S0 (by omega) hN) (fun v49 S48 hP => ?_)
    obtain ⟨G_S48, fS48, o50, o51⟩ := hP
    have F_S48 := zz_fr.trans F_S0 fS48 rfl zz_nv
    rcases (by omega : v49 = 0 ∨ v49 = 1) with rfl | rfl
    · have g52 := zz_G.r G_S48 1079 30 0 102 rfl rfl
      have g53 := zz_G.r G_S48 1079 32 0 1500 rfl rfl
      exact zz_zret zd_14_100_108 rfl (by omega) (Nat.zero_le _) (Nat.zero_le _) ⟨_, _, rfl, G_S48, F_S48, by omega, by omega⟩
    · have g54 := zz_G.r G_S48 1079 30 0 102 rfl rfl
      have g55 := zz_G.r G_S48 1079 32 0 1500 rfl rfl
      exact zz_zret zd_14_100_108 rfl (by omega) (Nat.zero_le _) (Nat.zero_le _) ⟨_, _, rfl, G_S48, F_S48, by omega, by omega⟩
  by_cases c56 : p0 = 8
  · refine zz_lsw (off := 108) (by omega) zd_14_100_1 (by decide) (by rw [c56]; rfl) rfl ?_
    refine zz_aload_n (x := 1079) rfl zd_14_100_109 ?_
    refine zz_iconst zd_14_100_110 ?_
    have g57 := zz_G.r G_S0 1079 30 0 102 rfl rfl
    have g58 := zz_G.r G_S0 1079 32 0 1500 rfl rfl
    refine zz_callVI [zi 4] zd_14_100_111 zk_Md_550 zT_1079 (zz_ltn hn rfl) rfl rfl ⟨Nat.le_of_ble_eq_true rfl, Nat.le_of_ble_eq_true rfl⟩ ⟨rfl, rfl⟩ (Nat.zero_le _) (Nat.zero_le _) (zc_takeNet_14_95 4 S0 n hn G_S0 (by omega) hN) (fun v60 S59 hP => ?_)
    obtain ⟨G_S59, fS59, o61, o62⟩ := hP
    have F_S59 := zz_fr.trans F_S0 fS59 rfl zz_nv
    rcases (by omega : v60 = 0 ∨ v60 = 1) with rfl | rfl
    · have g63 := zz_G.r G_S59 1079 30 0 102 rfl rfl
      have g64 := zz_G.r G_S59 1079 32 0 1500 rfl rfl
      exact zz_zret zd_14_100_114 rfl (by omega) (Nat.zero_le _) (Nat.zero_le _) ⟨_, _, rfl, G_S59, F_S59, by omega, by omega⟩
    · have g65 := zz_G.r G_S59 1079 30 0 102 rfl rfl
      have g66 := zz_G.r G_S59 1079 32 0 1500 rfl rfl
      exact zz_zret zd_14_100_114 rfl (by omega) (Nat.zero_le _) (Nat.zero_le _) ⟨_, _, rfl, G_S59, F_S59, by omega, by omega⟩
  by_cases c67 : p0 = 16
  · refine zz_lsw (off := 114) (by omega) zd_14_100_1 (by decide) (by rw [c67]; rfl) rfl ?_
    refine zz_aload_n (x := 1079) rfl zd_14_100_115 ?_
    refine zz_iconst zd_14_100_116 ?_
    have g68 := zz_G.r G_S0 1079 30 0 102 rfl rfl
    have g69 := zz_G.r G_S0 1079 32 0 1500 rfl rfl
    refine zz_callVI [zi 5] zd_14_100_117 zk_Md_550 zT_1079 (zz_ltn hn rfl) rfl rfl ⟨Nat.le_of_ble_eq_true rfl, Nat.le_of_ble_eq_true rfl⟩ ⟨rfl, rfl⟩ (Nat.zero_le _) (Nat.zero_le _) (zc_takeNet_14_95 5 S0 n hn G_S0 (by omega) hN) (fun v71 S70 hP => ?_)
    obtain ⟨G_S70, fS70, o72, o73⟩ := hP
    have F_S70 := zz_fr.trans F_S0 fS70 rfl zz_nv
    rcases (by omega : v71 = 0 ∨ v71 = 1) with rfl | rfl
    · have g74 := zz_G.r G_S70 1079 30 0 102 rfl rfl
      have g75 := zz_G.r G_S70 1079 32 0 1500 rfl rfl
      exact zz_zret zd_14_100_120 rfl (by omega) (Nat.zero_le _) (Nat.zero_le _) ⟨_, _, rfl, G_S70, F_S70, by omega, by omega⟩
    · have g76 := zz_G.r G_S70 1079 30 0 102 rfl rfl
      have g77 := zz_G.r G_S70 1079 32 0 1500 rfl rfl
      exact zz_zret zd_14_100_120 rfl (by omega) (Nat.zero_le _) (Nat.zero_le _) ⟨_, _, rfl, G_S70, F_S70, by omega, by omega⟩
  by_cases c78 : p0 = 32
  · refine zz_lsw (off := 120) (by omega) zd_14_100_1 (by decide) (by rw [c78]; rfl) rfl ?_
    refine zz_aload_n (x := 1079) rfl zd_14_100_121 ?_
    refine zz_bipush (by decide) zd_14_100_122 ?_
    have g79 := zz_G.r G_S0 1079 30 0 102 rfl rfl
    have g80 := zz_G.r G_S0 1079 32 0 1500 rfl rfl
    refine zz_callVI [zi 6] zd_14_100_124 zk_Md_550 zT_1079 (zz_ltn hn rfl) rfl rfl ⟨Nat.le_of_ble_eq_true rfl, Nat.le_of_ble_eq_true rfl⟩ ⟨rfl, rfl⟩ (Nat.zero_le _) (Nat.zero_le _) (zc_takeNet_14_95 6 S0 n hn G_S0 (by omega) hN) (fun v82 S81 hP => ?_)
    obtain ⟨G_S81, fS81, o83, o84⟩ := hP
    have F_S81 := zz_fr.trans F_S0 fS81 rfl zz_nv
    rcases (by omega : v82 = 0 ∨ v82 = 1) with rfl | rfl
    · have g85 := zz_G.r G_S81 1079 30 0 102 rfl rfl
      have g86 := zz_G.r G_S81 1079 32 0 1500 rfl rfl
      exact zz_zret zd_14_100_127 rfl (by omega) (Nat.zero_le _) (Nat.zero_le _) ⟨_, _, rfl, G_S81, F_S81, by omega, by omega⟩
    · have g87 := zz_G.r G_S81 1079 30 0 102 rfl rfl
      have g88 := zz_G.r G_S81 1079 32 0 1500 rfl rfl
      exact zz_zret zd_14_100_127 rfl (by omega) (Nat.zero_le _) (Nat.zero_le _) ⟨_, _, rfl, G_S81, F_S81, by omega, by omega⟩
  by_cases c89 : p0 = 64
  · refine zz_lsw (off := 127) (by omega) zd_14_100_1 (by decide) (by rw [c89]; rfl) rfl ?_
    refine zz_aload_n (x := 1079) rfl zd_14_100_128 ?_
    refine zz_getr (kd := 0) (z := 1118) zd_14_100_129 zf_Md_136 zT_1079 rfl (zz_ltn hn rfl) (zz_G.eq G_S0 1079 63 1118 rfl rfl) (by decide) 1118 rfl ?_
    refine zz_bipush (by decide) zd_14_100_132 ?_
    refine zz_iconst zd_14_100_134 ?_
    refine zz_iast zd_14_100_135 zT_1118 rfl (zz_ltn hn rfl) (by decide) (by decide) (fun S90 qS90 => ?_)
    have G_S90 := zz_G.put G_S0 qS90 0 9999 rfl (by omega)
    have F_S90 := zz_fr.putc F_S0 qS90 rfl
    refine zz_iconst zd_14_100_136 ?_
    have g91 := zz_G.r G_S0 1079 30 0 102 rfl rfl
    have e92 : S90 1079 30 = S0 1079 30 := (zz_ro qS90 (fun h => absurd h.1 (by decide)) rfl)
    have g93 := zz_G.r G_S0 1079 32 0 1500 rfl rfl
    have e94 : S90 1079 32 = S0 1079 32 := (zz_ro qS90 (fun h => absurd h.1 (by decide)) rfl)
    exact zz_zret zd_14_100_137 rfl (by omega) (Nat.zero_le _) (Nat.zero_le _) ⟨_, _, rfl, G_S90, F_S90, by omega, by omega⟩
  refine zz_lsw (off := 137) (by omega) zd_14_100_1 (by decide) (by simp [Op.lookupswitch.offset]; omega) rfl ?_
  refine zz_aload_n (x := 1079) rfl zd_14_100_138 ?_
  have g95 := zz_G.r G_S0 1079 30 0 102 rfl rfl
  refine zz_geti (z := S0 1079 30) zd_14_100_139 zf_Md_347 zT_1079 rfl (zz_ltn hn rfl) rfl ?_
  refine zz_bipush (by decide) zd_14_100_142 ?_
  refine zz_icmp_ne (by omega) (by omega) zd_14_100_144 (fun c96 => ?_) (fun c96 => ?_)
  · refine zz_iconst zd_14_100_173 ?_
    refine zz_istore_n [some (.ref 1079), some (zi p0), some (zi 0)] zd_14_100_174 (by decide) rfl ?_
    refine zz_aload_n (x := 1079) rfl zd_14_100_175 ?_
    refine zz_aload_n (x := 1079) rfl zd_14_100_176 ?_
    have g97 := zz_G.r G_S0 1079 61 (-9223372036854775808) 9223372036854775807 rfl rfl
    refine zz_getl (z := S0 1079 61) zd_14_100_177 zf_Md_522 zT_1079 rfl (zz_ltn hn rfl) rfl ?_
    refine zz_putl zd_14_100_180 zf_Md_564 zT_1079 rfl (zz_ltn hn rfl) (fun S98 qS98 => ?_)
    have G_S98 := zz_G.put G_S0 qS98 (-9223372036854775808) 9223372036854775807 rfl (by omega)
    have F_S98 := zz_fr.puts F_S0 qS98 rfl
    refine zz_aload_n (x := 1079) rfl zd_14_100_183 ?_
    have g99 := zz_G.r G_S0 1079 32 0 1500 rfl rfl
    have e100 : S98 1079 32 = S0 1079 32 := (zz_ro qS98 (fun h => absurd h.2 (by decide)) rfl)
    refine zz_callVV [] zd_14_100_184 zk_Md_526 zT_1079 (zz_ltn hn rfl) rfl rfl ⟨Nat.le_of_ble_eq_true rfl, Nat.le_of_ble_eq_true rfl⟩ ⟨rfl, rfl⟩ (Nat.zero_le _) (Nat.zero_le _) (zc_advanceNet_14_93  S98 n hn G_S98 (fun u h1 h2 => ((zz_ro qS98 (fun h => absurd h.1 (by decide)) rfl)).trans (hN u h1 h2))) (fun S101 hP => ?_)
    obtain ⟨G_S101, fS101, o103⟩ := hP
    have F_S101 := zz_fr.trans F_S98 fS101 rfl zz_nv
    refine zz_iload_n (x := 0) rfl zd_14_100_187 ?_
    have g104 := zz_G.r G_S101 1079 30 0 102 rfl rfl
    have g105 := zz_G.r G_S101 1079 32 0 1500 rfl rfl
    exact zz_zret zd_14_100_188 rfl (by omega) (Nat.zero_le _) (Nat.zero_le _) ⟨_, _, rfl, G_S101, F_S101, by omega, by omega⟩
  · refine zz_aload_n (x := 1079) rfl zd_14_100_147 ?_
    refine zz_aload_n (x := 1079) rfl zd_14_100_148 ?_
    have g106 := zz_G.r G_S0 1079 61 (-9223372036854775808) 9223372036854775807 rfl rfl
    refine zz_getl (z := S0 1079 61) zd_14_100_149 zf_Md_522 zT_1079 rfl (zz_ltn hn rfl) rfl ?_
    refine zz_callVI [zl (S0 1079 61)] zd_14_100_152 zk_Md_557 zT_1079 (zz_ltn hn rfl) rfl rfl ⟨Nat.le_of_ble_eq_true rfl, Nat.le_of_ble_eq_true rfl⟩ ⟨rfl, rfl⟩ (Nat.zero_le _) (Nat.zero_le _) (zc_isKeyword_14_97 (S0 1079 61) S0 n hn G_S0 (by omega)) (fun v108 S107 hP => ?_)
    obtain ⟨rfl, o109⟩ := hP
    rcases (by omega : v108 = 0 ∨ v108 = 1) with rfl | rfl
    · refine zz_if_ne (by omega) zd_14_100_155 (fun c110 => ?_) (fun c110 => ?_)
      · exfalso; omega
      · refine zz_aload_n (x := 1079) rfl zd_14_100_158 ?_
        refine zz_aload_n (x := 1079) rfl zd_14_100_159 ?_
        refine zz_getl (z := S0 1079 61) zd_14_100_160 zf_Md_522 zT_1079 rfl (zz_ltn hn rfl) rfl ?_
        refine zz_callVI [zl (S0 1079 61)] zd_14_100_163 zk_Md_560 zT_1079 (zz_ltn hn rfl) rfl rfl ⟨Nat.le_of_ble_eq_true rfl, Nat.le_of_ble_eq_true rfl⟩ ⟨rfl, rfl⟩ (Nat.zero_le _) (Nat.zero_le _) (zc_named_14_98 (S0 1079 61) S0 n hn G_S0 (by omega)) (fun v112 S111 hP => ?_)
        obtain ⟨rfl, o113⟩ := hP
        refine zz_if_ge (by omega) zd_14_100_166 (fun c114 => ?_) (fun c114 => ?_)
        · refine zz_iconst zd_14_100_173 ?_
          refine zz_istore_n [some (.ref 1079), some (zi p0), some (zi 0)] zd_14_100_174 (by decide) rfl ?_
          refine zz_aload_n (x := 1079) rfl zd_14_100_175 ?_
          refine zz_aload_n (x := 1079) rfl zd_14_100_176 ?_
          refine zz_getl (z := S0 1079 61) zd_14_100_177 zf_Md_522 zT_1079 rfl (zz_ltn hn rfl) rfl ?_
          refine zz_putl zd_14_100_180 zf_Md_564 zT_1079 rfl (zz_ltn hn rfl) (fun S115 qS115 => ?_)
          have G_S115 := zz_G.put G_S0 qS115 (-9223372036854775808) 9223372036854775807 rfl (by omega)
          have F_S115 := zz_fr.puts F_S0 qS115 rfl
          refine zz_aload_n (x := 1079) rfl zd_14_100_183 ?_
          have g116 := zz_G.r G_S0 1079 32 0 1500 rfl rfl
          have e117 : S115 1079 32 = S0 1079 32 := (zz_ro qS115 (fun h => absurd h.2 (by decide)) rfl)
          refine zz_callVV [] zd_14_100_184 zk_Md_526 zT_1079 (zz_ltn hn rfl) rfl rfl ⟨Nat.le_of_ble_eq_true rfl, Nat.le_of_ble_eq_true rfl⟩ ⟨rfl, rfl⟩ (Nat.zero_le _) (Nat.zero_le _) (zc_advanceNet_14_93  S115 n hn G_S115 (fun u h1 h2 => ((zz_ro qS115 (fun h => absurd h.1 (by decide)) rfl)).trans (hN u h1 h2))) (fun S118 hP => ?_)
          obtain ⟨G_S118, fS118, o120⟩ := hP
          have F_S118 := zz_fr.trans F_S115 fS118 rfl zz_nv
          refine zz_iload_n (x := 0) rfl zd_14_100_187 ?_
          have g121 := zz_G.r G_S118 1079 30 0 102 rfl rfl
          have g122 := zz_G.r G_S118 1079 32 0 1500 rfl rfl
          exact zz_zret zd_14_100_188 rfl (by omega) (Nat.zero_le _) (Nat.zero_le _) ⟨_, _, rfl, G_S118, F_S118, by omega, by omega⟩
        · refine zz_iconst zd_14_100_169 ?_
          refine zz_goto zd_14_100_170 ?_
          refine zz_istore_n [some (.ref 1079), some (zi p0), some (zi 1)] zd_14_100_174 (by decide) rfl ?_
          refine zz_aload_n (x := 1079) rfl zd_14_100_175 ?_
          refine zz_aload_n (x := 1079) rfl zd_14_100_176 ?_
          refine zz_getl (z := S0 1079 61) zd_14_100_177 zf_Md_522 zT_1079 rfl (zz_ltn hn rfl) rfl ?_
          refine zz_putl zd_14_100_180 zf_Md_564 zT_1079 rfl (zz_ltn hn rfl) (fun S123 qS123 => ?_)
          have G_S123 := zz_G.put G_S0 qS123 (-9223372036854775808) 9223372036854775807 rfl (by omega)
          have F_S123 := zz_fr.puts F_S0 qS123 rfl
          refine zz_aload_n (x := 1079) rfl zd_14_100_183 ?_
          have g124 := zz_G.r G_S0 1079 32 0 1500 rfl rfl
          have e125 : S123 1079 32 = S0 1079 32 := (zz_ro qS123 (fun h => absurd h.2 (by decide)) rfl)
          refine zz_callVV [] zd_14_100_184 zk_Md_526 zT_1079 (zz_ltn hn rfl) rfl rfl ⟨Nat.le_of_ble_eq_true rfl, Nat.le_of_ble_eq_true rfl⟩ ⟨rfl, rfl⟩ (Nat.zero_le _) (Nat.zero_le _) (zc_advanceNet_14_93  S123 n hn G_S123 (fun u h1 h2 => ((zz_ro qS123 (fun h => absurd h.1 (by decide)) rfl)).trans (hN u h1 h2))) (fun S126 hP => ?_)
          obtain ⟨G_S126, fS126, o128⟩ := hP
          have F_S126 := zz_fr.trans F_S123 fS126 rfl zz_nv
          refine zz_iload_n (x := 1) rfl zd_14_100_187 ?_
          have g129 := zz_G.r G_S126 1079 30 0 102 rfl rfl
          have g130 := zz_G.r G_S126 1079 32 0 1500 rfl rfl
          exact zz_zret zd_14_100_188 rfl (by omega) (Nat.zero_le _) (Nat.zero_le _) ⟨_, _, rfl, G_S126, F_S126, by omega, by omega⟩
    · refine zz_if_ne (by omega) zd_14_100_155 (fun c131 => ?_) (fun c131 => ?_)
      · refine zz_iconst zd_14_100_173 ?_
        refine zz_istore_n [some (.ref 1079), some (zi p0), some (zi 0)] zd_14_100_174 (by decide) rfl ?_
        refine zz_aload_n (x := 1079) rfl zd_14_100_175 ?_
        refine zz_aload_n (x := 1079) rfl zd_14_100_176 ?_
        refine zz_getl (z := S0 1079 61) zd_14_100_177 zf_Md_522 zT_1079 rfl (zz_ltn hn rfl) rfl ?_
        refine zz_putl zd_14_100_180 zf_Md_564 zT_1079 rfl (zz_ltn hn rfl) (fun S132 qS132 => ?_)
        have G_S132 := zz_G.put G_S0 qS132 (-9223372036854775808) 9223372036854775807 rfl (by omega)
        have F_S132 := zz_fr.puts F_S0 qS132 rfl
        refine zz_aload_n (x := 1079) rfl zd_14_100_183 ?_
        have g133 := zz_G.r G_S0 1079 32 0 1500 rfl rfl
        have e134 : S132 1079 32 = S0 1079 32 := (zz_ro qS132 (fun h => absurd h.2 (by decide)) rfl)
        refine zz_callVV [] zd_14_100_184 zk_Md_526 zT_1079 (zz_ltn hn rfl) rfl rfl ⟨Nat.le_of_ble_eq_true rfl, Nat.le_of_ble_eq_true rfl⟩ ⟨rfl, rfl⟩ (Nat.zero_le _) (Nat.zero_le _) (zc_advanceNet_14_93  S132 n hn G_S132 (fun u h1 h2 => ((zz_ro qS132 (fun h => absurd h.1 (by decide)) rfl)).trans (hN u h1 h2))) (fun S135 hP => ?_)
        obtain ⟨G_S135, fS135, o137⟩ := hP
        have F_S135 := zz_fr.trans F_S132 fS135 rfl zz_nv
        refine zz_iload_n (x := 0) rfl zd_14_100_187 ?_
        have g138 := zz_G.r G_S135 1079 30 0 102 rfl rfl
        have g139 := zz_G.r G_S135 1079 32 0 1500 rfl rfl
        exact zz_zret zd_14_100_188 rfl (by omega) (Nat.zero_le _) (Nat.zero_le _) ⟨_, _, rfl, G_S135, F_S135, by omega, by omega⟩
      · exfalso; omega
theorem zz_orb8 {x y v : Int} (hx : 0 ≤ x ∧ x ≤ 255) (hy : 0 ≤ y ∧ y ≤ 255) (e : v = (Int32.ofInt x ||| Int32.ofInt y).toInt) : 0 ≤ v ∧ v ≤ 255 := by
  have tx : (Int32.ofInt x).toInt = x := zz_t32 (by omega)
  have ty : (Int32.ofInt y).toInt = y := zz_t32 (by omega)
  generalize Int32.ofInt x = a at tx e
  generalize Int32.ofInt y = b at ty e
  have h1 : a.toBitVec.toInt = a.toInt := rfl
  have h1y : b.toBitVec.toInt = b.toInt := rfl
  have h2 : (a ||| b).toInt = (a.toBitVec ||| b.toBitVec).toInt := by rw [← Int32.toInt_toBitVec, Int32.toBitVec_or]
  have hm : a.toBitVec.msb = false := by rw [BitVec.msb_eq_toInt, h1, tx]; exact decide_eq_false (by omega)
  have hmy : b.toBitVec.msb = false := by rw [BitVec.msb_eq_toInt, h1y, ty]; exact decide_eq_false (by omega)
  have hm2 : (a.toBitVec ||| b.toBitVec).msb = false := by rw [BitVec.msb_or, hm, hmy]; rfl
  rw [BitVec.toInt_eq_toNat_of_msb hm] at h1
  rw [BitVec.toInt_eq_toNat_of_msb hmy] at h1y
  rw [h2, BitVec.toInt_eq_toNat_of_msb hm2, BitVec.toNat_or] at e
  have h3 := Nat.or_lt_two_pow (n := 8) (show a.toBitVec.toNat < 2 ^ 8 by omega) (show b.toBitVec.toNat < 2 ^ 8 by omega)
  omega
abbrev zy_takeParts_14_101 : mm_Y := (⟨"TensorForgeModel", "takeParts", "(I)Z"⟩, prog_14_method_101_code, 3, (some .boolean))
theorem zyw_takeParts_14_101 : mm_Yw zy_takeParts_14_101 1 := ⟨mm_tb_1 2218 (by decide +kernel) rfl, mm_tb_1 12 (by decide +kernel) rfl, ⟨by decide, by decide⟩, by decide +kernel⟩
theorem zf_Md_567 : mm_Fl "TensorForgeModel" 567 11 65 .int false := ⟨R_Md, F_Md, 69, t_Md, rfl, i_Md, by decide, mm_tb_1 1676 (by decide +kernel) rfl, rfl, t_Md_ok, n_Md, rfl, by decide +kernel⟩
theorem zk_Md_570 : mm_Vl "TensorForgeModel" 570 11 0 zy_partOf_14_99 := ⟨zyw_partOf_14_99, (R_Md, F_Md, 69), rfl, mm_tb_1 2219 (by decide +kernel) rfl, mm_tb_1 2221 (by decide +kernel) rfl, mm_tb_s 146 (by decide +kernel) rfl⟩
theorem zk_Md_573 : mm_Vl "TensorForgeModel" 573 11 1 zy_takePart_14_100 := ⟨zyw_takePart_14_100, (R_Md, F_Md, 69), rfl, mm_tb_1 2228 (by decide +kernel) rfl, mm_tb_1 2230 (by decide +kernel) rfl, mm_tb_s 147 (by decide +kernel) rfl⟩
theorem zg_14_101_0 : (decode zy_takeParts_14_101.2.1 0 = .ok ((.iconst 0), 1)) ∧ (decode zy_takeParts_14_101.2.1 1 = .ok ((.istore_n 2), 1)) ∧ (decode zy_takeParts_14_101.2.1 2 = .ok ((.iload_n 2), 1)) ∧ (decode zy_takeParts_14_101.2.1 3 = .ok ((.bipush 8), 2)) ∧ (decode zy_takeParts_14_101.2.1 5 = .ok ((Instr.if_icmp .ge) 25, 3)) ∧ (decode zy_takeParts_14_101.2.1 8 = .ok ((.aload_n 0), 1)) ∧ (decode zy_takeParts_14_101.2.1 9 = .ok ((.getfield 136), 3)) ∧ (decode zy_takeParts_14_101.2.1 12 = .ok ((.iload_n 2), 1)) ∧ (decode zy_takeParts_14_101.2.1 13 = .ok ((.iload_n 2), 1)) ∧ (decode zy_takeParts_14_101.2.1 14 = .ok ((.iconst 4), 1)) := by decide +kernel
theorem zd_14_101_0 : zz_D zy_takeParts_14_101 0 (.iconst 0) 1 1 := ⟨zg_14_101_0.1, rfl⟩
theorem zd_14_101_1 : zz_D zy_takeParts_14_101 1 (.istore_n 2) 1 2 := ⟨zg_14_101_0.2.1, rfl⟩
theorem zd_14_101_2 : zz_D zy_takeParts_14_101 2 (.iload_n 2) 1 3 := ⟨zg_14_101_0.2.2.1, rfl⟩
theorem zd_14_101_3 : zz_D zy_takeParts_14_101 3 (.bipush 8) 2 5 := ⟨zg_14_101_0.2.2.2.1, rfl⟩
theorem zd_14_101_5 : zz_B zy_takeParts_14_101 5 (Instr.if_icmp .ge) 30 8 := ⟨25, zg_14_101_0.2.2.2.2.1, rfl, rfl⟩
theorem zd_14_101_8 : zz_D zy_takeParts_14_101 8 (.aload_n 0) 1 9 := ⟨zg_14_101_0.2.2.2.2.2.1, rfl⟩
theorem zd_14_101_9 : zz_D zy_takeParts_14_101 9 (.getfield 136) 3 12 := ⟨zg_14_101_0.2.2.2.2.2.2.1, rfl⟩
theorem zd_14_101_12 : zz_D zy_takeParts_14_101 12 (.iload_n 2) 1 13 := ⟨zg_14_101_0.2.2.2.2.2.2.2.1, rfl⟩
theorem zd_14_101_13 : zz_D zy_takeParts_14_101 13 (.iload_n 2) 1 14 := ⟨zg_14_101_0.2.2.2.2.2.2.2.2.1, rfl⟩
theorem zd_14_101_14 : zz_D zy_takeParts_14_101 14 (.iconst 4) 1 15 := ⟨zg_14_101_0.2.2.2.2.2.2.2.2.2, rfl⟩
theorem zg_14_101_15 : (decode zy_takeParts_14_101.2.1 15 = .ok ((Instr.if_icmp .ne) 7, 3)) ∧ (decode zy_takeParts_14_101.2.1 22 = .ok ((.iconst 0), 1)) ∧ (decode zy_takeParts_14_101.2.1 23 = .ok ((.iastore), 1)) ∧ (decode zy_takeParts_14_101.2.1 24 = .ok ((.iinc 2 1), 3)) ∧ (decode zy_takeParts_14_101.2.1 27 = .ok (Instr.goto (-25), 3)) ∧ (decode zy_takeParts_14_101.2.1 18 = .ok ((.iconst 1), 1)) ∧ (decode zy_takeParts_14_101.2.1 19 = .ok (Instr.goto 4, 3)) ∧ (decode zy_takeParts_14_101.2.1 30 = .ok ((.aload_n 0), 1)) ∧ (decode zy_takeParts_14_101.2.1 31 = .ok ((.lconst 0), 1)) ∧ (decode zy_takeParts_14_101.2.1 32 = .ok ((.putfield 564), 3)) := by decide +kernel
theorem zd_14_101_15 : zz_B zy_takeParts_14_101 15 (Instr.if_icmp .ne) 22 18 := ⟨7, zg_14_101_15.1, rfl, rfl⟩
theorem zd_14_101_22 : zz_D zy_takeParts_14_101 22 (.iconst 0) 1 23 := ⟨zg_14_101_15.2.1, rfl⟩
theorem zd_14_101_23 : zz_D zy_takeParts_14_101 23 (.iastore) 1 24 := ⟨zg_14_101_15.2.2.1, rfl⟩
theorem zd_14_101_24 : zz_D zy_takeParts_14_101 24 (.iinc 2 1) 3 27 := ⟨zg_14_101_15.2.2.2.1, rfl⟩
theorem zd_14_101_27 : zz_B zy_takeParts_14_101 27 Instr.goto 2 30 := ⟨(-25), zg_14_101_15.2.2.2.2.1, rfl, rfl⟩
theorem zd_14_101_18 : zz_D zy_takeParts_14_101 18 (.iconst 1) 1 19 := ⟨zg_14_101_15.2.2.2.2.2.1, rfl⟩
theorem zd_14_101_19 : zz_B zy_takeParts_14_101 19 Instr.goto 23 22 := ⟨4, zg_14_101_15.2.2.2.2.2.2.1, rfl, rfl⟩
theorem zd_14_101_30 : zz_D zy_takeParts_14_101 30 (.aload_n 0) 1 31 := ⟨zg_14_101_15.2.2.2.2.2.2.2.1, rfl⟩
theorem zd_14_101_31 : zz_D zy_takeParts_14_101 31 (.lconst 0) 1 32 := ⟨zg_14_101_15.2.2.2.2.2.2.2.2.1, rfl⟩
theorem zd_14_101_32 : zz_D zy_takeParts_14_101 32 (.putfield 564) 3 35 := ⟨zg_14_101_15.2.2.2.2.2.2.2.2.2, rfl⟩
theorem zg_14_101_35 : (decode zy_takeParts_14_101.2.1 35 = .ok ((.aload_n 0), 1)) ∧ (decode zy_takeParts_14_101.2.1 36 = .ok ((.iconst 0), 1)) ∧ (decode zy_takeParts_14_101.2.1 37 = .ok ((.putfield 567), 3)) ∧ (decode zy_takeParts_14_101.2.1 40 = .ok ((.aload_n 0), 1)) ∧ (decode zy_takeParts_14_101.2.1 41 = .ok ((.getfield 347), 3)) ∧ (decode zy_takeParts_14_101.2.1 44 = .ok ((Instr.ifCond .eq) 52, 3)) ∧ (decode zy_takeParts_14_101.2.1 96 = .ok ((.iconst 1), 1)) ∧ (decode zy_takeParts_14_101.2.1 97 = .ok ((.ireturn), 1)) ∧ (decode zy_takeParts_14_101.2.1 47 = .ok ((.aload_n 0), 1)) ∧ (decode zy_takeParts_14_101.2.1 48 = .ok ((.invokevirtual 570), 3)) := by decide +kernel
theorem zd_14_101_35 : zz_D zy_takeParts_14_101 35 (.aload_n 0) 1 36 := ⟨zg_14_101_35.1, rfl⟩
theorem zd_14_101_36 : zz_D zy_takeParts_14_101 36 (.iconst 0) 1 37 := ⟨zg_14_101_35.2.1, rfl⟩
theorem zd_14_101_37 : zz_D zy_takeParts_14_101 37 (.putfield 567) 3 40 := ⟨zg_14_101_35.2.2.1, rfl⟩
theorem zd_14_101_40 : zz_D zy_takeParts_14_101 40 (.aload_n 0) 1 41 := ⟨zg_14_101_35.2.2.2.1, rfl⟩
theorem zd_14_101_41 : zz_D zy_takeParts_14_101 41 (.getfield 347) 3 44 := ⟨zg_14_101_35.2.2.2.2.1, rfl⟩
theorem zd_14_101_44 : zz_B zy_takeParts_14_101 44 (Instr.ifCond .eq) 96 47 := ⟨52, zg_14_101_35.2.2.2.2.2.1, rfl, rfl⟩
theorem zd_14_101_96 : zz_D zy_takeParts_14_101 96 (.iconst 1) 1 97 := ⟨zg_14_101_35.2.2.2.2.2.2.1, rfl⟩
theorem zd_14_101_97 : zz_D zy_takeParts_14_101 97 (.ireturn) 1 98 := ⟨zg_14_101_35.2.2.2.2.2.2.2.1, rfl⟩
theorem zd_14_101_47 : zz_D zy_takeParts_14_101 47 (.aload_n 0) 1 48 := ⟨zg_14_101_35.2.2.2.2.2.2.2.2.1, rfl⟩
theorem zd_14_101_48 : zz_D zy_takeParts_14_101 48 (.invokevirtual 570) 3 51 := ⟨zg_14_101_35.2.2.2.2.2.2.2.2.2, rfl⟩
theorem zg_14_101_51 : (decode zy_takeParts_14_101.2.1 51 = .ok ((.istore_n 2), 1)) ∧ (decode zy_takeParts_14_101.2.1 52 = .ok ((.iload_n 2), 1)) ∧ (decode zy_takeParts_14_101.2.1 53 = .ok ((.iload_n 1), 1)) ∧ (decode zy_takeParts_14_101.2.1 54 = .ok ((.iand), 1)) ∧ (decode zy_takeParts_14_101.2.1 55 = .ok ((Instr.ifCond .eq) 12, 3)) ∧ (decode zy_takeParts_14_101.2.1 67 = .ok ((.iconst 0), 1)) ∧ (decode zy_takeParts_14_101.2.1 68 = .ok ((.ireturn), 1)) ∧ (decode zy_takeParts_14_101.2.1 58 = .ok ((.iload_n 2), 1)) ∧ (decode zy_takeParts_14_101.2.1 59 = .ok ((.aload_n 0), 1)) ∧ (decode zy_takeParts_14_101.2.1 60 = .ok ((.getfield 567), 3)) := by decide +kernel
theorem zd_14_101_51 : zz_D zy_takeParts_14_101 51 (.istore_n 2) 1 52 := ⟨zg_14_101_51.1, rfl⟩
theorem zd_14_101_52 : zz_D zy_takeParts_14_101 52 (.iload_n 2) 1 53 := ⟨zg_14_101_51.2.1, rfl⟩
theorem zd_14_101_53 : zz_D zy_takeParts_14_101 53 (.iload_n 1) 1 54 := ⟨zg_14_101_51.2.2.1, rfl⟩
theorem zd_14_101_54 : zz_D zy_takeParts_14_101 54 (.iand) 1 55 := ⟨zg_14_101_51.2.2.2.1, rfl⟩
theorem zd_14_101_55 : zz_B zy_takeParts_14_101 55 (Instr.ifCond .eq) 67 58 := ⟨12, zg_14_101_51.2.2.2.2.1, rfl, rfl⟩
theorem zd_14_101_67 : zz_D zy_takeParts_14_101 67 (.iconst 0) 1 68 := ⟨zg_14_101_51.2.2.2.2.2.1, rfl⟩
theorem zd_14_101_68 : zz_D zy_takeParts_14_101 68 (.ireturn) 1 69 := ⟨zg_14_101_51.2.2.2.2.2.2.1, rfl⟩
theorem zd_14_101_58 : zz_D zy_takeParts_14_101 58 (.iload_n 2) 1 59 := ⟨zg_14_101_51.2.2.2.2.2.2.2.1, rfl⟩
theorem zd_14_101_59 : zz_D zy_takeParts_14_101 59 (.aload_n 0) 1 60 := ⟨zg_14_101_51.2.2.2.2.2.2.2.2.1, rfl⟩
theorem zd_14_101_60 : zz_D zy_takeParts_14_101 60 (.getfield 567) 3 63 := ⟨zg_14_101_51.2.2.2.2.2.2.2.2.2, rfl⟩
theorem zg_14_101_63 : (decode zy_takeParts_14_101.2.1 63 = .ok ((.iand), 1)) ∧ (decode zy_takeParts_14_101.2.1 64 = .ok ((Instr.ifCond .eq) 5, 3)) ∧ (decode zy_takeParts_14_101.2.1 69 = .ok ((.aload_n 0), 1)) ∧ (decode zy_takeParts_14_101.2.1 70 = .ok ((.aload_n 0), 1)) ∧ (decode zy_takeParts_14_101.2.1 71 = .ok ((.getfield 567), 3)) ∧ (decode zy_takeParts_14_101.2.1 74 = .ok ((.iload_n 2), 1)) ∧ (decode zy_takeParts_14_101.2.1 75 = .ok ((.ior), 1)) ∧ (decode zy_takeParts_14_101.2.1 76 = .ok ((.putfield 567), 3)) ∧ (decode zy_takeParts_14_101.2.1 79 = .ok ((.aload_n 0), 1)) ∧ (decode zy_takeParts_14_101.2.1 80 = .ok ((.invokevirtual 526), 3)) := by decide +kernel
theorem zd_14_101_63 : zz_D zy_takeParts_14_101 63 (.iand) 1 64 := ⟨zg_14_101_63.1, rfl⟩
theorem zd_14_101_64 : zz_B zy_takeParts_14_101 64 (Instr.ifCond .eq) 69 67 := ⟨5, zg_14_101_63.2.1, rfl, rfl⟩
theorem zd_14_101_69 : zz_D zy_takeParts_14_101 69 (.aload_n 0) 1 70 := ⟨zg_14_101_63.2.2.1, rfl⟩
theorem zd_14_101_70 : zz_D zy_takeParts_14_101 70 (.aload_n 0) 1 71 := ⟨zg_14_101_63.2.2.2.1, rfl⟩
theorem zd_14_101_71 : zz_D zy_takeParts_14_101 71 (.getfield 567) 3 74 := ⟨zg_14_101_63.2.2.2.2.1, rfl⟩
theorem zd_14_101_74 : zz_D zy_takeParts_14_101 74 (.iload_n 2) 1 75 := ⟨zg_14_101_63.2.2.2.2.2.1, rfl⟩
theorem zd_14_101_75 : zz_D zy_takeParts_14_101 75 (.ior) 1 76 := ⟨zg_14_101_63.2.2.2.2.2.2.1, rfl⟩
theorem zd_14_101_76 : zz_D zy_takeParts_14_101 76 (.putfield 567) 3 79 := ⟨zg_14_101_63.2.2.2.2.2.2.2.1, rfl⟩
theorem zd_14_101_79 : zz_D zy_takeParts_14_101 79 (.aload_n 0) 1 80 := ⟨zg_14_101_63.2.2.2.2.2.2.2.2.1, rfl⟩
theorem zd_14_101_80 : zz_D zy_takeParts_14_101 80 (.invokevirtual 526) 3 83 := ⟨zg_14_101_63.2.2.2.2.2.2.2.2.2, rfl⟩
theorem zg_14_101_83 : (decode zy_takeParts_14_101.2.1 83 = .ok ((.aload_n 0), 1)) ∧ (decode zy_takeParts_14_101.2.1 84 = .ok ((.iload_n 2), 1)) ∧ (decode zy_takeParts_14_101.2.1 85 = .ok ((.invokevirtual 573), 3)) ∧ (decode zy_takeParts_14_101.2.1 88 = .ok ((Instr.ifCond .ne) 5, 3)) ∧ (decode zy_takeParts_14_101.2.1 91 = .ok ((.iconst 0), 1)) ∧ (decode zy_takeParts_14_101.2.1 92 = .ok ((.ireturn), 1)) ∧ (decode zy_takeParts_14_101.2.1 93 = .ok (Instr.goto (-53), 3)) := by decide +kernel
theorem zd_14_101_83 : zz_D zy_takeParts_14_101 83 (.aload_n 0) 1 84 := ⟨zg_14_101_83.1, rfl⟩
theorem zd_14_101_84 : zz_D zy_takeParts_14_101 84 (.iload_n 2) 1 85 := ⟨zg_14_101_83.2.1, rfl⟩
theorem zd_14_101_85 : zz_D zy_takeParts_14_101 85 (.invokevirtual 573) 3 88 := ⟨zg_14_101_83.2.2.1, rfl⟩
theorem zd_14_101_88 : zz_B zy_takeParts_14_101 88 (Instr.ifCond .ne) 93 91 := ⟨5, zg_14_101_83.2.2.2.1, rfl, rfl⟩
theorem zd_14_101_91 : zz_D zy_takeParts_14_101 91 (.iconst 0) 1 92 := ⟨zg_14_101_83.2.2.2.2.1, rfl⟩
theorem zd_14_101_92 : zz_D zy_takeParts_14_101 92 (.ireturn) 1 93 := ⟨zg_14_101_83.2.2.2.2.2.1, rfl⟩
theorem zd_14_101_93 : zz_B zy_takeParts_14_101 93 Instr.goto 40 96 := ⟨(-53), zg_14_101_83.2.2.2.2.2.2, rfl, rfl⟩

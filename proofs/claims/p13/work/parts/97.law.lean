abbrev zy_law_L : mm_Y := (x, code, maxLocals, ret)
theorem zd_L_law_40 : zz_W zy_law_L 40 1140 0 27 #[128, 153, 190, 230, 299, 324, 352, 365, 437, 494, 522, 547, 560, 600, 613, 641, 681, 730, 820, 872, 924, 964, 980, 991, 1004, 1044, 1060, 1100] := ⟨128, by decide +kernel⟩
theorem zhl_side_L : mm_Hl "TensorForgeLaw" 98 2 [(0, 5, 8, 13)] zy_side_L := ⟨zxY_side_L, mm_tb_1 0 (by decide +kernel) rfl, ⟨by decide, by decide⟩, by decide +kernel, mm_tb_1 1040 (by decide +kernel) rfl, mm_tb_1 1041 (by decide +kernel) rfl⟩
theorem zk_TFLaw_103 : mm_Vl "TensorForgeLaw" 103 11 1 zy_side_14_6 := ⟨zyw_side_14_6, (R_Md, F_Md, 69), rfl, mm_tb_1 1820 (by decide +kernel) rfl, mm_tb_1 1821 (by decide +kernel) rfl, mm_tb_1 1822 (by decide +kernel) rfl⟩
theorem zhl_memory_L : mm_Hl "TensorForgeLaw" 104 3 [(0, 6, 9, 19)] zy_memory_L := ⟨zxY_memory_L, mm_tb_1 0 (by decide +kernel) rfl, ⟨by decide, by decide⟩, by decide +kernel, mm_tb_1 1125 (by decide +kernel) rfl, mm_tb_1 1126 (by decide +kernel) rfl⟩
theorem zk_TFLaw_107 : mm_Vl "TensorForgeLaw" 107 11 2 zy_memory_14_8 := ⟨zyw_memory_14_8, (R_Md, F_Md, 69), rfl, mm_tb_1 1836 (by decide +kernel) rfl, mm_tb_1 1837 (by decide +kernel) rfl, mm_tb_1 1838 (by decide +kernel) rfl⟩
theorem zhl_look_L : mm_Hl "TensorForgeLaw" 108 4 [(0, 10, 13, 13), (0, 10, 17, 19)] zy_look_L := ⟨zxY_look_L, mm_tb_1 0 (by decide +kernel) rfl, ⟨by decide, by decide⟩, by decide +kernel, mm_tb_1 1153 (by decide +kernel) rfl, mm_tb_1 1154 (by decide +kernel) rfl⟩
theorem zk_TFLaw_111 : mm_Vl "TensorForgeLaw" 111 11 2 zy_look_14_10 := ⟨zyw_look_14_10, (R_Md, F_Md, 69), rfl, mm_tb_1 1844 (by decide +kernel) rfl, mm_tb_1 1845 (by decide +kernel) rfl, mm_tb_1 1846 (by decide +kernel) rfl⟩
theorem zq_TFLaw_112 : Cond.constantLong "TensorForgeLaw" 112 (4294967295 : Int64) ∈ mm_tb := mm_tb_1 2309 (by decide +kernel) rfl
theorem zhl_word_L : mm_Hl "TensorForgeLaw" 114 3 [(0, 6, 9, 19), (0, 6, 13, 29)] zy_word_L := ⟨zxY_word_L, mm_tb_1 0 (by decide +kernel) rfl, ⟨by decide, by decide⟩, by decide +kernel, mm_tb_1 1167 (by decide +kernel) rfl, mm_tb_1 1168 (by decide +kernel) rfl⟩
theorem zk_TFLaw_117 : mm_Vl "TensorForgeLaw" 117 11 2 zy_word_14_14 := ⟨zyw_word_14_14, (R_Md, F_Md, 69), rfl, mm_tb_1 1863 (by decide +kernel) rfl, mm_tb_1 1864 (by decide +kernel) rfl, mm_tb_1 1865 (by decide +kernel) rfl⟩
theorem zhl_cut_L : mm_Hl "TensorForgeLaw" 118 2 [(0, 5, 8, 13)] zy_cut_L := ⟨zxY_cut_L, mm_tb_1 0 (by decide +kernel) rfl, ⟨by decide, by decide⟩, by decide +kernel, mm_tb_1 1192 (by decide +kernel) rfl, mm_tb_1 1193 (by decide +kernel) rfl⟩
theorem zk_TFLaw_120 : mm_Vl "TensorForgeLaw" 120 11 1 zy_cut_14_15 := ⟨zyw_cut_14_15, (R_Md, F_Md, 69), rfl, mm_tb_1 1867 (by decide +kernel) rfl, mm_tb_1 1868 (by decide +kernel) rfl, mm_tb_1 1869 (by decide +kernel) rfl⟩
theorem zhl_wordOf_L : mm_Hl "TensorForgeLaw" 121 3 [(0, 8, 11, 19)] zy_wordOf_L := ⟨zxY_wordOf_L, mm_tb_1 0 (by decide +kernel) rfl, ⟨by decide, by decide⟩, by decide +kernel, mm_tb_1 1200 (by decide +kernel) rfl, mm_tb_1 1201 (by decide +kernel) rfl⟩
theorem zk_TFLaw_124 : mm_Vl "TensorForgeLaw" 124 11 1 zy_wordOf_14_16 := ⟨zyw_wordOf_14_16, (R_Md, F_Md, 69), rfl, mm_tb_1 1871 (by decide +kernel) rfl, mm_tb_1 1872 (by decide +kernel) rfl, mm_tb_1 1873 (by decide +kernel) rfl⟩
theorem zk_TFLaw_125 : mm_Vl "TensorForgeLaw" 125 0 0 zy_length_1_8 := ⟨zyw_length_1_8, (R_TF, F_TF, 12), rfl, mm_tb_1 477 (by decide +kernel) rfl, mm_tb_1 478 (by decide +kernel) rfl, mm_tb_1 479 (by decide +kernel) rfl⟩
theorem zk_TFLaw_128 : mm_Vl "TensorForgeLaw" 128 11 0 zy_length_14_17 := ⟨zyw_length_14_17, (R_Md, F_Md, 69), rfl, mm_tb_1 1875 (by decide +kernel) rfl, mm_tb_1 1876 (by decide +kernel) rfl, mm_tb_1 1877 (by decide +kernel) rfl⟩
theorem zhl_field_L : mm_Hl "TensorForgeLaw" 129 4 [(0, 11, 14, 13)] zy_field_L := ⟨zxY_field_L, mm_tb_1 0 (by decide +kernel) rfl, ⟨by decide, by decide⟩, by decide +kernel, mm_tb_1 1207 (by decide +kernel) rfl, mm_tb_1 1208 (by decide +kernel) rfl⟩
theorem zk_TFLaw_132 : mm_Vl "TensorForgeLaw" 132 11 2 zy_field_14_13 := ⟨zyw_field_14_13, (R_Md, F_Md, 69), rfl, mm_tb_1 1852 (by decide +kernel) rfl, mm_tb_1 1853 (by decide +kernel) rfl, mm_tb_1 1854 (by decide +kernel) rfl⟩
theorem zk_TFLaw_133 : mm_Vl "TensorForgeLaw" 133 0 1 zy_illegal_1_10 := ⟨zyw_illegal_1_10, (R_TF, F_TF, 12), rfl, mm_tb_1 481 (by decide +kernel) rfl, mm_tb_1 482 (by decide +kernel) rfl, mm_tb_1 483 (by decide +kernel) rfl⟩
theorem zk_TFLaw_137 : mm_Vl "TensorForgeLaw" 137 11 1 zy_illegal_14_25 := ⟨zyw_illegal_14_25, (R_Md, F_Md, 69), rfl, mm_tb_1 1879 (by decide +kernel) rfl, mm_tb_1 1880 (by decide +kernel) rfl, mm_tb_1 1881 (by decide +kernel) rfl⟩
theorem zhl_put_L : mm_Hl "TensorForgeLaw" 138 3 [(0, 9, 12, 13), (0, 9, 15, 29)] zy_put_L := ⟨zxY_put_L, mm_tb_1 0 (by decide +kernel) rfl, ⟨by decide, by decide⟩, by decide +kernel, mm_tb_1 1216 (by decide +kernel) rfl, mm_tb_1 1217 (by decide +kernel) rfl⟩
theorem zk_TFLaw_140 : mm_Vl "TensorForgeLaw" 140 11 1 zy_put_14_47 := ⟨zyw_put_14_47, (R_Md, F_Md, 69), rfl, mm_tb_1 1993 (by decide +kernel) rfl, mm_tb_1 1994 (by decide +kernel) rfl, mm_tb_1 1995 (by decide +kernel) rfl⟩
theorem zhl_end_L : mm_Hl "TensorForgeLaw" 141 2 [(0, 5, 8, 13)] zy_end_L := ⟨zxY_end_L, mm_tb_1 0 (by decide +kernel) rfl, ⟨by decide, by decide⟩, by decide +kernel, mm_tb_1 1236 (by decide +kernel) rfl, mm_tb_1 1237 (by decide +kernel) rfl⟩
theorem zk_TFLaw_143 : mm_Vl "TensorForgeLaw" 143 11 1 zy_end_14_48 := ⟨zyw_end_14_48, (R_Md, F_Md, 69), rfl, mm_tb_1 1999 (by decide +kernel) rfl, mm_tb_1 2000 (by decide +kernel) rfl, mm_tb_1 2001 (by decide +kernel) rfl⟩
theorem zk_TFLaw_144 : mm_Vl "TensorForgeLaw" 144 0 0 zy_assemble_1_13 := ⟨zyw_assemble_1_13, (R_TF, F_TF, 12), rfl, mm_tb_1 556 (by decide +kernel) rfl, mm_tb_1 557 (by decide +kernel) rfl, mm_tb_1 558 (by decide +kernel) rfl⟩
theorem zk_TFLaw_147 : mm_Vl "TensorForgeLaw" 147 11 0 zy_assemble_14_55 := ⟨zyw_assemble_14_55, (R_Md, F_Md, 69), rfl, mm_tb_1 2003 (by decide +kernel) rfl, mm_tb_1 2004 (by decide +kernel) rfl, mm_tb_1 2005 (by decide +kernel) rfl⟩
theorem zhl_listing_L : mm_Hl "TensorForgeLaw" 148 4 [(0, 10, 13, 19)] zy_listing_L := ⟨zxY_listing_L, mm_tb_1 0 (by decide +kernel) rfl, ⟨by decide, by decide⟩, by decide +kernel, mm_tb_1 1244 (by decide +kernel) rfl, mm_tb_1 1245 (by decide +kernel) rfl⟩
theorem zk_TFLaw_150 : mm_Vl "TensorForgeLaw" 150 11 2 zy_listing_14_62 := ⟨zyw_listing_14_62, (R_Md, F_Md, 69), rfl, mm_tb_1 2042 (by decide +kernel) rfl, mm_tb_1 2043 (by decide +kernel) rfl, mm_tb_1 2044 (by decide +kernel) rfl⟩
theorem zk_TFLaw_151 : mm_Vl "TensorForgeLaw" 151 0 0 zy_run_1_15 := ⟨zyw_run_1_15, (R_TF, F_TF, 12), rfl, mm_tb_1 693 (by decide +kernel) rfl, mm_tb_1 694 (by decide +kernel) rfl, mm_tb_1 695 (by decide +kernel) rfl⟩
theorem zk_TFLaw_154 : mm_Vl "TensorForgeLaw" 154 11 0 zy_run_14_44 := ⟨zyw_run_14_44, (R_Md, F_Md, 69), rfl, mm_tb_1 1911 (by decide +kernel) rfl, mm_tb_1 1912 (by decide +kernel) rfl, mm_tb_1 1913 (by decide +kernel) rfl⟩
theorem zhl_stopped_L : mm_Hl "TensorForgeLaw" 155 3 [(0, 9, 12, 13)] zy_stopped_L := ⟨zxY_stopped_L, mm_tb_1 0 (by decide +kernel) rfl, ⟨by decide, by decide⟩, by decide +kernel, mm_tb_1 1304 (by decide +kernel) rfl, mm_tb_1 1305 (by decide +kernel) rfl⟩
theorem zk_TFLaw_157 : mm_Vl "TensorForgeLaw" 157 11 1 zy_stopped_14_45 := ⟨zyw_stopped_14_45, (R_Md, F_Md, 69), rfl, mm_tb_1 1985 (by decide +kernel) rfl, mm_tb_1 1986 (by decide +kernel) rfl, mm_tb_1 1987 (by decide +kernel) rfl⟩
theorem zhl_instruction_L : mm_Hl "TensorForgeLaw" 158 4 [(0, 10, 13, 58), (0, 10, 17, 19), (0, 10, 21, 13)] zy_instruction_L := ⟨zxY_instruction_L, mm_tb_1 0 (by decide +kernel) rfl, ⟨by decide, by decide⟩, by decide +kernel, mm_tb_1 1312 (by decide +kernel) rfl, mm_tb_1 1313 (by decide +kernel) rfl⟩
theorem zk_TFLaw_160 : mm_Vl "TensorForgeLaw" 160 11 2 zy_instruction_14_46 := ⟨zyw_instruction_14_46, (R_Md, F_Md, 69), rfl, mm_tb_1 1989 (by decide +kernel) rfl, mm_tb_1 1990 (by decide +kernel) rfl, mm_tb_1 1991 (by decide +kernel) rfl⟩
theorem zhl_input_L : mm_Hl "TensorForgeLaw" 161 4 [(0, 7, 10, 13)] zy_input_L := ⟨zxY_input_L, mm_tb_1 0 (by decide +kernel) rfl, ⟨by decide, by decide⟩, by decide +kernel, mm_tb_1 1343 (by decide +kernel) rfl, mm_tb_1 1344 (by decide +kernel) rfl⟩
theorem zk_TFLaw_164 : mm_Vl "TensorForgeLaw" 164 11 3 zy_input_14_63 := ⟨zyw_input_14_63, (R_Md, F_Md, 69), rfl, mm_tb_1 2069 (by decide +kernel) rfl, mm_tb_1 2070 (by decide +kernel) rfl, mm_tb_1 2071 (by decide +kernel) rfl⟩
theorem zhl_convolution_L : mm_Hl "TensorForgeLaw" 165 8 [(0, 18, 21, 19), (0, 18, 25, 13), (0, 18, 29, 29)] zy_convolution_L := ⟨zxY_convolution_L, mm_tb_1 0 (by decide +kernel) rfl, ⟨by decide, by decide⟩, by decide +kernel, mm_tb_1 1353 (by decide +kernel) rfl, mm_tb_1 1354 (by decide +kernel) rfl⟩
theorem zk_TFLaw_168 : mm_Vl "TensorForgeLaw" 168 11 6 zy_convolution_14_67 := ⟨zyw_convolution_14_67, (R_Md, F_Md, 69), rfl, mm_tb_1 2074 (by decide +kernel) rfl, mm_tb_1 2075 (by decide +kernel) rfl, mm_tb_1 2076 (by decide +kernel) rfl⟩
theorem zhl_pool_L : mm_Hl "TensorForgeLaw" 169 5 [(0, 12, 15, 19), (0, 12, 19, 13), (0, 12, 23, 29)] zy_pool_L := ⟨zxY_pool_L, mm_tb_1 0 (by decide +kernel) rfl, ⟨by decide, by decide⟩, by decide +kernel, mm_tb_1 1375 (by decide +kernel) rfl, mm_tb_1 1376 (by decide +kernel) rfl⟩
theorem zk_TFLaw_172 : mm_Vl "TensorForgeLaw" 172 11 3 zy_pool_14_69 := ⟨zyw_pool_14_69, (R_Md, F_Md, 69), rfl, mm_tb_1 2097 (by decide +kernel) rfl, mm_tb_1 2098 (by decide +kernel) rfl, mm_tb_1 2099 (by decide +kernel) rfl⟩
theorem zhl_addition_L : mm_Hl "TensorForgeLaw" 173 5 [(0, 12, 15, 19), (0, 12, 19, 13), (0, 12, 23, 29)] zy_addition_L := ⟨zxY_addition_L, mm_tb_1 0 (by decide +kernel) rfl, ⟨by decide, by decide⟩, by decide +kernel, mm_tb_1 1382 (by decide +kernel) rfl, mm_tb_1 1383 (by decide +kernel) rfl⟩
theorem zk_TFLaw_175 : mm_Vl "TensorForgeLaw" 175 11 3 zy_addition_14_70 := ⟨zyw_addition_14_70, (R_Md, F_Md, 69), rfl, mm_tb_1 2101 (by decide +kernel) rfl, mm_tb_1 2102 (by decide +kernel) rfl, mm_tb_1 2103 (by decide +kernel) rfl⟩
theorem zhl_form_L : mm_Hl "TensorForgeLaw" 176 4 [(0, 10, 13, 19), (0, 10, 17, 13)] zy_form_L := ⟨zxY_form_L, mm_tb_1 0 (by decide +kernel) rfl, ⟨by decide, by decide⟩, by decide +kernel, mm_tb_1 1389 (by decide +kernel) rfl, mm_tb_1 1390 (by decide +kernel) rfl⟩
theorem zk_TFLaw_178 : mm_Vl "TensorForgeLaw" 178 11 2 zy_form_14_71 := ⟨zyw_form_14_71, (R_Md, F_Md, 69), rfl, mm_tb_1 2105 (by decide +kernel) rfl, mm_tb_1 2106 (by decide +kernel) rfl, mm_tb_1 2107 (by decide +kernel) rfl⟩
theorem zhl_compile_L : mm_Hl "TensorForgeLaw" 179 2 [(0, 8, 11, 29)] zy_compile_L := ⟨zxY_compile_L, mm_tb_1 0 (by decide +kernel) rfl, ⟨by decide, by decide⟩, by decide +kernel, mm_tb_1 1398 (by decide +kernel) rfl, mm_tb_1 1399 (by decide +kernel) rfl⟩
theorem zk_TFLaw_182 : mm_Vl "TensorForgeLaw" 182 11 0 zy_compile_14_89 := ⟨zyw_compile_14_89, (R_Md, F_Md, 69), rfl, mm_tb_1 2129 (by decide +kernel) rfl, mm_tb_1 2130 (by decide +kernel) rfl, mm_tb_1 2131 (by decide +kernel) rfl⟩
theorem zk_TFLaw_183 : mm_Vl "TensorForgeLaw" 183 0 0 zy_reckon_1_24 := ⟨zyw_reckon_1_24, (R_TF, F_TF, 12), rfl, mm_tb_1 850 (by decide +kernel) rfl, mm_tb_1 851 (by decide +kernel) rfl, mm_tb_1 852 (by decide +kernel) rfl⟩
theorem zk_TFLaw_186 : mm_Vl "TensorForgeLaw" 186 11 0 zy_reckon_14_76 := ⟨zyw_reckon_14_76, (R_Md, F_Md, 69), rfl, mm_tb_1 2109 (by decide +kernel) rfl, mm_tb_1 2110 (by decide +kernel) rfl, mm_tb_1 2111 (by decide +kernel) rfl⟩
theorem zk_TFLaw_187 : mm_Vl "TensorForgeLaw" 187 0 0 zy_network_1_25 := ⟨zyw_network_1_25, (R_TF, F_TF, 12), rfl, mm_tb_1 908 (by decide +kernel) rfl, mm_tb_1 909 (by decide +kernel) rfl, mm_tb_1 910 (by decide +kernel) rfl⟩
theorem zk_TFLaw_190 : mm_Vl "TensorForgeLaw" 190 11 0 zy_network_14_105 := ⟨zyw_network_14_105, (R_Md, F_Md, 69), rfl, mm_tb_1 2180 (by decide +kernel) rfl, mm_tb_1 2181 (by decide +kernel) rfl, mm_tb_1 2182 (by decide +kernel) rfl⟩
theorem zhl_networkSign_L : mm_Hl "TensorForgeLaw" 191 4 [(0, 10, 13, 19)] zy_networkSign_L := ⟨zxY_networkSign_L, mm_tb_1 0 (by decide +kernel) rfl, ⟨by decide, by decide⟩, by decide +kernel, mm_tb_1 1481 (by decide +kernel) rfl, mm_tb_1 1482 (by decide +kernel) rfl⟩
theorem zk_TFLaw_193 : mm_Vl "TensorForgeLaw" 193 11 2 zy_networkSign_14_109 := ⟨zyw_networkSign_14_109, (R_Md, F_Md, 69), rfl, mm_tb_1 2253 (by decide +kernel) rfl, mm_tb_1 2254 (by decide +kernel) rfl, mm_tb_1 2255 (by decide +kernel) rfl⟩
theorem zhl_place_L : mm_Hl "TensorForgeLaw" 194 2 [(0, 8, 11, 29)] zy_place_L := ⟨zxY_place_L, mm_tb_1 0 (by decide +kernel) rfl, ⟨by decide, by decide⟩, by decide +kernel, mm_tb_1 1505 (by decide +kernel) rfl, mm_tb_1 1506 (by decide +kernel) rfl⟩
theorem zk_TFLaw_196 : mm_Vl "TensorForgeLaw" 196 11 0 zy_place_14_113 := ⟨zyw_place_14_113, (R_Md, F_Md, 69), rfl, mm_tb_1 2269 (by decide +kernel) rfl, mm_tb_1 2270 (by decide +kernel) rfl, mm_tb_1 2271 (by decide +kernel) rfl⟩
theorem zhl_under_L : mm_Hl "TensorForgeLaw" 197 4 [(0, 10, 13, 58), (0, 10, 17, 13)] zy_under_L := ⟨zxY_under_L, mm_tb_1 0 (by decide +kernel) rfl, ⟨by decide, by decide⟩, by decide +kernel, mm_tb_1 1534 (by decide +kernel) rfl, mm_tb_1 1535 (by decide +kernel) rfl⟩
theorem zk_TFLaw_199 : mm_Vl "TensorForgeLaw" 199 11 2 zy_under_14_117 := ⟨zyw_under_14_117, (R_Md, F_Md, 69), rfl, mm_tb_1 2289 (by decide +kernel) rfl, mm_tb_1 2290 (by decide +kernel) rfl, mm_tb_1 2291 (by decide +kernel) rfl⟩
theorem zhl_waits_L : mm_Hl "TensorForgeLaw" 200 4 [(0, 10, 13, 58), (0, 10, 17, 13)] zy_waits_L := ⟨zxY_waits_L, mm_tb_1 0 (by decide +kernel) rfl, ⟨by decide, by decide⟩, by decide +kernel, mm_tb_1 1558 (by decide +kernel) rfl, mm_tb_1 1559 (by decide +kernel) rfl⟩
theorem zk_TFLaw_202 : mm_Vl "TensorForgeLaw" 202 11 2 zy_waits_14_119 := ⟨zyw_waits_14_119, (R_Md, F_Md, 69), rfl, mm_tb_1 2301 (by decide +kernel) rfl, mm_tb_1 2302 (by decide +kernel) rfl, mm_tb_1 2303 (by decide +kernel) rfl⟩
theorem zg_L_law_23 : (decode zy_law_L.2.1 23 = .ok ((.iload 4), 2)) ∧ (decode zy_law_L.2.1 25 = .ok ((.aload_n 0), 1)) ∧ (decode zy_law_L.2.1 26 = .ok ((.arraylength), 1)) ∧ (decode zy_law_L.2.1 27 = .ok ((.bipush 7), 2)) ∧ (decode zy_law_L.2.1 29 = .ok ((.isub), 1)) ∧ (decode zy_law_L.2.1 30 = .ok ((Instr.if_icmp .gt) 1156, 3)) ∧ (decode zy_law_L.2.1 1186 = .ok ((.iconst 1), 1)) ∧ (decode zy_law_L.2.1 1187 = .ok ((.ireturn), 1)) ∧ (decode zy_law_L.2.1 33 = .ok ((.aload_n 0), 1)) ∧ (decode zy_law_L.2.1 34 = .ok ((.iload 4), 2)) := by decide +kernel
theorem zd_L_law_23 : zz_D zy_law_L 23 (.iload 4) 2 25 := ⟨zg_L_law_23.1, rfl⟩
theorem zd_L_law_25 : zz_D zy_law_L 25 (.aload_n 0) 1 26 := ⟨zg_L_law_23.2.1, rfl⟩
theorem zd_L_law_26 : zz_D zy_law_L 26 (.arraylength) 1 27 := ⟨zg_L_law_23.2.2.1, rfl⟩
theorem zd_L_law_27 : zz_D zy_law_L 27 (.bipush 7) 2 29 := ⟨zg_L_law_23.2.2.2.1, rfl⟩
theorem zd_L_law_29 : zz_D zy_law_L 29 (.isub) 1 30 := ⟨zg_L_law_23.2.2.2.2.1, rfl⟩
theorem zd_L_law_30 : zz_B zy_law_L 30 (Instr.if_icmp .gt) 1186 33 := ⟨1156, zg_L_law_23.2.2.2.2.2.1, rfl, rfl⟩
theorem zd_L_law_1186 : zz_D zy_law_L 1186 (.iconst 1) 1 1187 := ⟨zg_L_law_23.2.2.2.2.2.2.1, rfl⟩
theorem zd_L_law_1187 : zz_D zy_law_L 1187 (.ireturn) 1 1188 := ⟨zg_L_law_23.2.2.2.2.2.2.2.1, rfl⟩
theorem zd_L_law_33 : zz_D zy_law_L 33 (.aload_n 0) 1 34 := ⟨zg_L_law_23.2.2.2.2.2.2.2.2.1, rfl⟩
theorem zd_L_law_34 : zz_D zy_law_L 34 (.iload 4) 2 36 := ⟨zg_L_law_23.2.2.2.2.2.2.2.2.2, rfl⟩
theorem zg_L_law_36 : (decode zy_law_L.2.1 36 = .ok ((.iaload), 1)) ∧ (decode zy_law_L.2.1 37 = .ok ((.bipush 31), 2)) ∧ (decode zy_law_L.2.1 39 = .ok ((.iand), 1)) ∧ (decode zy_law_L.2.1 168 = .ok ((.aload_n 1), 1)) ∧ (decode zy_law_L.2.1 169 = .ok ((.aload_n 0), 1)) ∧ (decode zy_law_L.2.1 170 = .ok ((.iload 4), 2)) ∧ (decode zy_law_L.2.1 172 = .ok ((.iconst 1), 1)) ∧ (decode zy_law_L.2.1 173 = .ok ((.iadd), 1)) ∧ (decode zy_law_L.2.1 174 = .ok ((.iaload), 1)) ∧ (decode zy_law_L.2.1 175 = .ok ((.invokestatic 98), 3)) := by decide +kernel
theorem zd_L_law_36 : zz_D zy_law_L 36 (.iaload) 1 37 := ⟨zg_L_law_36.1, rfl⟩
theorem zd_L_law_37 : zz_D zy_law_L 37 (.bipush 31) 2 39 := ⟨zg_L_law_36.2.1, rfl⟩
theorem zd_L_law_39 : zz_D zy_law_L 39 (.iand) 1 40 := ⟨zg_L_law_36.2.2.1, rfl⟩
theorem zd_L_law_168 : zz_D zy_law_L 168 (.aload_n 1) 1 169 := ⟨zg_L_law_36.2.2.2.1, rfl⟩
theorem zd_L_law_169 : zz_D zy_law_L 169 (.aload_n 0) 1 170 := ⟨zg_L_law_36.2.2.2.2.1, rfl⟩
theorem zd_L_law_170 : zz_D zy_law_L 170 (.iload 4) 2 172 := ⟨zg_L_law_36.2.2.2.2.2.1, rfl⟩
theorem zd_L_law_172 : zz_D zy_law_L 172 (.iconst 1) 1 173 := ⟨zg_L_law_36.2.2.2.2.2.2.1, rfl⟩
theorem zd_L_law_173 : zz_D zy_law_L 173 (.iadd) 1 174 := ⟨zg_L_law_36.2.2.2.2.2.2.2.1, rfl⟩
theorem zd_L_law_174 : zz_D zy_law_L 174 (.iaload) 1 175 := ⟨zg_L_law_36.2.2.2.2.2.2.2.2.1, rfl⟩
theorem zd_L_law_175 : zz_D zy_law_L 175 (.invokestatic 98) 3 178 := ⟨zg_L_law_36.2.2.2.2.2.2.2.2.2, rfl⟩
theorem zg_L_law_178 : (decode zy_law_L.2.1 178 = .ok ((.istore 5), 2)) ∧ (decode zy_law_L.2.1 180 = .ok ((.aload_n 2), 1)) ∧ (decode zy_law_L.2.1 181 = .ok ((.aload_n 0), 1)) ∧ (decode zy_law_L.2.1 182 = .ok ((.iload 4), 2)) ∧ (decode zy_law_L.2.1 184 = .ok ((.iconst 1), 1)) ∧ (decode zy_law_L.2.1 185 = .ok ((.iadd), 1)) ∧ (decode zy_law_L.2.1 186 = .ok ((.iaload), 1)) ∧ (decode zy_law_L.2.1 187 = .ok ((.invokevirtual 103), 3)) ∧ (decode zy_law_L.2.1 190 = .ok (Instr.goto 990, 3)) ∧ (decode zy_law_L.2.1 1180 = .ok ((.iinc 4 7), 3)) := by decide +kernel
theorem zd_L_law_178 : zz_D zy_law_L 178 (.istore 5) 2 180 := ⟨zg_L_law_178.1, rfl⟩
theorem zd_L_law_180 : zz_D zy_law_L 180 (.aload_n 2) 1 181 := ⟨zg_L_law_178.2.1, rfl⟩
theorem zd_L_law_181 : zz_D zy_law_L 181 (.aload_n 0) 1 182 := ⟨zg_L_law_178.2.2.1, rfl⟩
theorem zd_L_law_182 : zz_D zy_law_L 182 (.iload 4) 2 184 := ⟨zg_L_law_178.2.2.2.1, rfl⟩
theorem zd_L_law_184 : zz_D zy_law_L 184 (.iconst 1) 1 185 := ⟨zg_L_law_178.2.2.2.2.1, rfl⟩
theorem zd_L_law_185 : zz_D zy_law_L 185 (.iadd) 1 186 := ⟨zg_L_law_178.2.2.2.2.2.1, rfl⟩
theorem zd_L_law_186 : zz_D zy_law_L 186 (.iaload) 1 187 := ⟨zg_L_law_178.2.2.2.2.2.2.1, rfl⟩
theorem zd_L_law_187 : zz_D zy_law_L 187 (.invokevirtual 103) 3 190 := ⟨zg_L_law_178.2.2.2.2.2.2.2.1, rfl⟩
theorem zd_L_law_190 : zz_B zy_law_L 190 Instr.goto 1180 193 := ⟨990, zg_L_law_178.2.2.2.2.2.2.2.2.1, rfl, rfl⟩
theorem zd_L_law_1180 : zz_D zy_law_L 1180 (.iinc 4 7) 3 1183 := ⟨zg_L_law_178.2.2.2.2.2.2.2.2.2, rfl⟩
theorem zg_L_law_1183 : (decode zy_law_L.2.1 1183 = .ok (Instr.goto (-1160), 3)) ∧ (decode zy_law_L.2.1 193 = .ok ((.aload_n 1), 1)) ∧ (decode zy_law_L.2.1 194 = .ok ((.aload_n 0), 1)) ∧ (decode zy_law_L.2.1 195 = .ok ((.iload 4), 2)) ∧ (decode zy_law_L.2.1 197 = .ok ((.iconst 1), 1)) ∧ (decode zy_law_L.2.1 198 = .ok ((.iadd), 1)) ∧ (decode zy_law_L.2.1 199 = .ok ((.iaload), 1)) ∧ (decode zy_law_L.2.1 200 = .ok ((.aload_n 0), 1)) ∧ (decode zy_law_L.2.1 201 = .ok ((.iload 4), 2)) ∧ (decode zy_law_L.2.1 203 = .ok ((.iconst 2), 1)) := by decide +kernel
theorem zd_L_law_1183 : zz_B zy_law_L 1183 Instr.goto 23 1186 := ⟨(-1160), zg_L_law_1183.1, rfl, rfl⟩
theorem zd_L_law_193 : zz_D zy_law_L 193 (.aload_n 1) 1 194 := ⟨zg_L_law_1183.2.1, rfl⟩
theorem zd_L_law_194 : zz_D zy_law_L 194 (.aload_n 0) 1 195 := ⟨zg_L_law_1183.2.2.1, rfl⟩
theorem zd_L_law_195 : zz_D zy_law_L 195 (.iload 4) 2 197 := ⟨zg_L_law_1183.2.2.2.1, rfl⟩
theorem zd_L_law_197 : zz_D zy_law_L 197 (.iconst 1) 1 198 := ⟨zg_L_law_1183.2.2.2.2.1, rfl⟩
theorem zd_L_law_198 : zz_D zy_law_L 198 (.iadd) 1 199 := ⟨zg_L_law_1183.2.2.2.2.2.1, rfl⟩
theorem zd_L_law_199 : zz_D zy_law_L 199 (.iaload) 1 200 := ⟨zg_L_law_1183.2.2.2.2.2.2.1, rfl⟩
theorem zd_L_law_200 : zz_D zy_law_L 200 (.aload_n 0) 1 201 := ⟨zg_L_law_1183.2.2.2.2.2.2.2.1, rfl⟩
theorem zd_L_law_201 : zz_D zy_law_L 201 (.iload 4) 2 203 := ⟨zg_L_law_1183.2.2.2.2.2.2.2.2.1, rfl⟩
theorem zd_L_law_203 : zz_D zy_law_L 203 (.iconst 2) 1 204 := ⟨zg_L_law_1183.2.2.2.2.2.2.2.2.2, rfl⟩
theorem zg_L_law_204 : (decode zy_law_L.2.1 204 = .ok ((.iadd), 1)) ∧ (decode zy_law_L.2.1 205 = .ok ((.iaload), 1)) ∧ (decode zy_law_L.2.1 206 = .ok ((.invokestatic 104), 3)) ∧ (decode zy_law_L.2.1 209 = .ok ((.istore 5), 2)) ∧ (decode zy_law_L.2.1 211 = .ok ((.aload_n 2), 1)) ∧ (decode zy_law_L.2.1 212 = .ok ((.aload_n 0), 1)) ∧ (decode zy_law_L.2.1 213 = .ok ((.iload 4), 2)) ∧ (decode zy_law_L.2.1 215 = .ok ((.iconst 1), 1)) ∧ (decode zy_law_L.2.1 216 = .ok ((.iadd), 1)) ∧ (decode zy_law_L.2.1 217 = .ok ((.iaload), 1)) := by decide +kernel
theorem zd_L_law_204 : zz_D zy_law_L 204 (.iadd) 1 205 := ⟨zg_L_law_204.1, rfl⟩
theorem zd_L_law_205 : zz_D zy_law_L 205 (.iaload) 1 206 := ⟨zg_L_law_204.2.1, rfl⟩
theorem zd_L_law_206 : zz_D zy_law_L 206 (.invokestatic 104) 3 209 := ⟨zg_L_law_204.2.2.1, rfl⟩
theorem zd_L_law_209 : zz_D zy_law_L 209 (.istore 5) 2 211 := ⟨zg_L_law_204.2.2.2.1, rfl⟩
theorem zd_L_law_211 : zz_D zy_law_L 211 (.aload_n 2) 1 212 := ⟨zg_L_law_204.2.2.2.2.1, rfl⟩
theorem zd_L_law_212 : zz_D zy_law_L 212 (.aload_n 0) 1 213 := ⟨zg_L_law_204.2.2.2.2.2.1, rfl⟩
theorem zd_L_law_213 : zz_D zy_law_L 213 (.iload 4) 2 215 := ⟨zg_L_law_204.2.2.2.2.2.2.1, rfl⟩
theorem zd_L_law_215 : zz_D zy_law_L 215 (.iconst 1) 1 216 := ⟨zg_L_law_204.2.2.2.2.2.2.2.1, rfl⟩
theorem zd_L_law_216 : zz_D zy_law_L 216 (.iadd) 1 217 := ⟨zg_L_law_204.2.2.2.2.2.2.2.2.1, rfl⟩
theorem zd_L_law_217 : zz_D zy_law_L 217 (.iaload) 1 218 := ⟨zg_L_law_204.2.2.2.2.2.2.2.2.2, rfl⟩
theorem zg_L_law_218 : (decode zy_law_L.2.1 218 = .ok ((.aload_n 0), 1)) ∧ (decode zy_law_L.2.1 219 = .ok ((.iload 4), 2)) ∧ (decode zy_law_L.2.1 221 = .ok ((.iconst 2), 1)) ∧ (decode zy_law_L.2.1 222 = .ok ((.iadd), 1)) ∧ (decode zy_law_L.2.1 223 = .ok ((.iaload), 1)) ∧ (decode zy_law_L.2.1 224 = .ok ((.invokevirtual 107), 3)) ∧ (decode zy_law_L.2.1 227 = .ok (Instr.goto 953, 3)) ∧ (decode zy_law_L.2.1 230 = .ok ((.aload_n 1), 1)) ∧ (decode zy_law_L.2.1 231 = .ok ((.aload_n 0), 1)) ∧ (decode zy_law_L.2.1 232 = .ok ((.iload 4), 2)) := by decide +kernel
theorem zd_L_law_218 : zz_D zy_law_L 218 (.aload_n 0) 1 219 := ⟨zg_L_law_218.1, rfl⟩
theorem zd_L_law_219 : zz_D zy_law_L 219 (.iload 4) 2 221 := ⟨zg_L_law_218.2.1, rfl⟩
theorem zd_L_law_221 : zz_D zy_law_L 221 (.iconst 2) 1 222 := ⟨zg_L_law_218.2.2.1, rfl⟩
theorem zd_L_law_222 : zz_D zy_law_L 222 (.iadd) 1 223 := ⟨zg_L_law_218.2.2.2.1, rfl⟩
theorem zd_L_law_223 : zz_D zy_law_L 223 (.iaload) 1 224 := ⟨zg_L_law_218.2.2.2.2.1, rfl⟩
theorem zd_L_law_224 : zz_D zy_law_L 224 (.invokevirtual 107) 3 227 := ⟨zg_L_law_218.2.2.2.2.2.1, rfl⟩
theorem zd_L_law_227 : zz_B zy_law_L 227 Instr.goto 1180 230 := ⟨953, zg_L_law_218.2.2.2.2.2.2.1, rfl, rfl⟩
theorem zd_L_law_230 : zz_D zy_law_L 230 (.aload_n 1) 1 231 := ⟨zg_L_law_218.2.2.2.2.2.2.2.1, rfl⟩
theorem zd_L_law_231 : zz_D zy_law_L 231 (.aload_n 0) 1 232 := ⟨zg_L_law_218.2.2.2.2.2.2.2.2.1, rfl⟩
theorem zd_L_law_232 : zz_D zy_law_L 232 (.iload 4) 2 234 := ⟨zg_L_law_218.2.2.2.2.2.2.2.2.2, rfl⟩
theorem zg_L_law_234 : (decode zy_law_L.2.1 234 = .ok ((.iconst 1), 1)) ∧ (decode zy_law_L.2.1 235 = .ok ((.iadd), 1)) ∧ (decode zy_law_L.2.1 236 = .ok ((.iaload), 1)) ∧ (decode zy_law_L.2.1 237 = .ok ((.aload_n 0), 1)) ∧ (decode zy_law_L.2.1 238 = .ok ((.iload 4), 2)) ∧ (decode zy_law_L.2.1 240 = .ok ((.iconst 2), 1)) ∧ (decode zy_law_L.2.1 241 = .ok ((.iadd), 1)) ∧ (decode zy_law_L.2.1 242 = .ok ((.iaload), 1)) ∧ (decode zy_law_L.2.1 243 = .ok ((.aload_n 3), 1)) ∧ (decode zy_law_L.2.1 244 = .ok ((.invokestatic 108), 3)) := by decide +kernel
theorem zd_L_law_234 : zz_D zy_law_L 234 (.iconst 1) 1 235 := ⟨zg_L_law_234.1, rfl⟩
theorem zd_L_law_235 : zz_D zy_law_L 235 (.iadd) 1 236 := ⟨zg_L_law_234.2.1, rfl⟩
theorem zd_L_law_236 : zz_D zy_law_L 236 (.iaload) 1 237 := ⟨zg_L_law_234.2.2.1, rfl⟩
theorem zd_L_law_237 : zz_D zy_law_L 237 (.aload_n 0) 1 238 := ⟨zg_L_law_234.2.2.2.1, rfl⟩
theorem zd_L_law_238 : zz_D zy_law_L 238 (.iload 4) 2 240 := ⟨zg_L_law_234.2.2.2.2.1, rfl⟩
theorem zd_L_law_240 : zz_D zy_law_L 240 (.iconst 2) 1 241 := ⟨zg_L_law_234.2.2.2.2.2.1, rfl⟩
theorem zd_L_law_241 : zz_D zy_law_L 241 (.iadd) 1 242 := ⟨zg_L_law_234.2.2.2.2.2.2.1, rfl⟩
theorem zd_L_law_242 : zz_D zy_law_L 242 (.iaload) 1 243 := ⟨zg_L_law_234.2.2.2.2.2.2.2.1, rfl⟩
theorem zd_L_law_243 : zz_D zy_law_L 243 (.aload_n 3) 1 244 := ⟨zg_L_law_234.2.2.2.2.2.2.2.2.1, rfl⟩
theorem zd_L_law_244 : zz_D zy_law_L 244 (.invokestatic 108) 3 247 := ⟨zg_L_law_234.2.2.2.2.2.2.2.2.2, rfl⟩
theorem zg_L_law_247 : (decode zy_law_L.2.1 247 = .ok ((.istore 5), 2)) ∧ (decode zy_law_L.2.1 249 = .ok ((.aload_n 2), 1)) ∧ (decode zy_law_L.2.1 250 = .ok ((.aload_n 0), 1)) ∧ (decode zy_law_L.2.1 251 = .ok ((.iload 4), 2)) ∧ (decode zy_law_L.2.1 253 = .ok ((.iconst 1), 1)) ∧ (decode zy_law_L.2.1 254 = .ok ((.iadd), 1)) ∧ (decode zy_law_L.2.1 255 = .ok ((.iaload), 1)) ∧ (decode zy_law_L.2.1 256 = .ok ((.aload_n 0), 1)) ∧ (decode zy_law_L.2.1 257 = .ok ((.iload 4), 2)) ∧ (decode zy_law_L.2.1 259 = .ok ((.iconst 2), 1)) := by decide +kernel
theorem zd_L_law_247 : zz_D zy_law_L 247 (.istore 5) 2 249 := ⟨zg_L_law_247.1, rfl⟩
theorem zd_L_law_249 : zz_D zy_law_L 249 (.aload_n 2) 1 250 := ⟨zg_L_law_247.2.1, rfl⟩
theorem zd_L_law_250 : zz_D zy_law_L 250 (.aload_n 0) 1 251 := ⟨zg_L_law_247.2.2.1, rfl⟩
theorem zd_L_law_251 : zz_D zy_law_L 251 (.iload 4) 2 253 := ⟨zg_L_law_247.2.2.2.1, rfl⟩
theorem zd_L_law_253 : zz_D zy_law_L 253 (.iconst 1) 1 254 := ⟨zg_L_law_247.2.2.2.2.1, rfl⟩
theorem zd_L_law_254 : zz_D zy_law_L 254 (.iadd) 1 255 := ⟨zg_L_law_247.2.2.2.2.2.1, rfl⟩
theorem zd_L_law_255 : zz_D zy_law_L 255 (.iaload) 1 256 := ⟨zg_L_law_247.2.2.2.2.2.2.1, rfl⟩
theorem zd_L_law_256 : zz_D zy_law_L 256 (.aload_n 0) 1 257 := ⟨zg_L_law_247.2.2.2.2.2.2.2.1, rfl⟩
theorem zd_L_law_257 : zz_D zy_law_L 257 (.iload 4) 2 259 := ⟨zg_L_law_247.2.2.2.2.2.2.2.2.1, rfl⟩
theorem zd_L_law_259 : zz_D zy_law_L 259 (.iconst 2) 1 260 := ⟨zg_L_law_247.2.2.2.2.2.2.2.2.2, rfl⟩
theorem zg_L_law_260 : (decode zy_law_L.2.1 260 = .ok ((.iadd), 1)) ∧ (decode zy_law_L.2.1 261 = .ok ((.iaload), 1)) ∧ (decode zy_law_L.2.1 262 = .ok ((.invokevirtual 111), 3)) ∧ (decode zy_law_L.2.1 265 = .ok ((.istore 6), 2)) ∧ (decode zy_law_L.2.1 267 = .ok (Instr.goto 913, 3)) ∧ (decode zy_law_L.2.1 270 = .ok ((.aload_n 1), 1)) ∧ (decode zy_law_L.2.1 271 = .ok ((.aload_n 0), 1)) ∧ (decode zy_law_L.2.1 272 = .ok ((.iload 4), 2)) ∧ (decode zy_law_L.2.1 274 = .ok ((.iconst 1), 1)) ∧ (decode zy_law_L.2.1 275 = .ok ((.iadd), 1)) := by decide +kernel
theorem zd_L_law_260 : zz_D zy_law_L 260 (.iadd) 1 261 := ⟨zg_L_law_260.1, rfl⟩
theorem zd_L_law_261 : zz_D zy_law_L 261 (.iaload) 1 262 := ⟨zg_L_law_260.2.1, rfl⟩
theorem zd_L_law_262 : zz_D zy_law_L 262 (.invokevirtual 111) 3 265 := ⟨zg_L_law_260.2.2.1, rfl⟩
theorem zd_L_law_265 : zz_D zy_law_L 265 (.istore 6) 2 267 := ⟨zg_L_law_260.2.2.2.1, rfl⟩
theorem zd_L_law_267 : zz_B zy_law_L 267 Instr.goto 1180 270 := ⟨913, zg_L_law_260.2.2.2.2.1, rfl, rfl⟩
theorem zd_L_law_270 : zz_D zy_law_L 270 (.aload_n 1) 1 271 := ⟨zg_L_law_260.2.2.2.2.2.1, rfl⟩
theorem zd_L_law_271 : zz_D zy_law_L 271 (.aload_n 0) 1 272 := ⟨zg_L_law_260.2.2.2.2.2.2.1, rfl⟩
theorem zd_L_law_272 : zz_D zy_law_L 272 (.iload 4) 2 274 := ⟨zg_L_law_260.2.2.2.2.2.2.2.1, rfl⟩
theorem zd_L_law_274 : zz_D zy_law_L 274 (.iconst 1) 1 275 := ⟨zg_L_law_260.2.2.2.2.2.2.2.2.1, rfl⟩
theorem zd_L_law_275 : zz_D zy_law_L 275 (.iadd) 1 276 := ⟨zg_L_law_260.2.2.2.2.2.2.2.2.2, rfl⟩
theorem zg_L_law_276 : (decode zy_law_L.2.1 276 = .ok ((.iaload), 1)) ∧ (decode zy_law_L.2.1 277 = .ok ((.aload_n 0), 1)) ∧ (decode zy_law_L.2.1 278 = .ok ((.iload 4), 2)) ∧ (decode zy_law_L.2.1 280 = .ok ((.iconst 2), 1)) ∧ (decode zy_law_L.2.1 281 = .ok ((.iadd), 1)) ∧ (decode zy_law_L.2.1 282 = .ok ((.iaload), 1)) ∧ (decode zy_law_L.2.1 283 = .ok ((.i2l), 1)) ∧ (decode zy_law_L.2.1 284 = .ok ((.bipush 32), 2)) ∧ (decode zy_law_L.2.1 286 = .ok ((.lshl), 1)) ∧ (decode zy_law_L.2.1 287 = .ok ((.aload_n 0), 1)) := by decide +kernel
theorem zd_L_law_276 : zz_D zy_law_L 276 (.iaload) 1 277 := ⟨zg_L_law_276.1, rfl⟩
theorem zd_L_law_277 : zz_D zy_law_L 277 (.aload_n 0) 1 278 := ⟨zg_L_law_276.2.1, rfl⟩
theorem zd_L_law_278 : zz_D zy_law_L 278 (.iload 4) 2 280 := ⟨zg_L_law_276.2.2.1, rfl⟩
theorem zd_L_law_280 : zz_D zy_law_L 280 (.iconst 2) 1 281 := ⟨zg_L_law_276.2.2.2.1, rfl⟩
theorem zd_L_law_281 : zz_D zy_law_L 281 (.iadd) 1 282 := ⟨zg_L_law_276.2.2.2.2.1, rfl⟩
theorem zd_L_law_282 : zz_D zy_law_L 282 (.iaload) 1 283 := ⟨zg_L_law_276.2.2.2.2.2.1, rfl⟩
theorem zd_L_law_283 : zz_D zy_law_L 283 (.i2l) 1 284 := ⟨zg_L_law_276.2.2.2.2.2.2.1, rfl⟩
theorem zd_L_law_284 : zz_D zy_law_L 284 (.bipush 32) 2 286 := ⟨zg_L_law_276.2.2.2.2.2.2.2.1, rfl⟩
theorem zd_L_law_286 : zz_D zy_law_L 286 (.lshl) 1 287 := ⟨zg_L_law_276.2.2.2.2.2.2.2.2.1, rfl⟩
theorem zd_L_law_287 : zz_D zy_law_L 287 (.aload_n 0) 1 288 := ⟨zg_L_law_276.2.2.2.2.2.2.2.2.2, rfl⟩
theorem zg_L_law_288 : (decode zy_law_L.2.1 288 = .ok ((.iload 4), 2)) ∧ (decode zy_law_L.2.1 290 = .ok ((.iconst 3), 1)) ∧ (decode zy_law_L.2.1 291 = .ok ((.iadd), 1)) ∧ (decode zy_law_L.2.1 292 = .ok ((.iaload), 1)) ∧ (decode zy_law_L.2.1 293 = .ok ((.i2l), 1)) ∧ (decode zy_law_L.2.1 294 = .ok ((.ldc2_w 112), 3)) ∧ (decode zy_law_L.2.1 297 = .ok ((.land), 1)) ∧ (decode zy_law_L.2.1 298 = .ok ((.lor), 1)) ∧ (decode zy_law_L.2.1 299 = .ok ((.invokestatic 114), 3)) ∧ (decode zy_law_L.2.1 302 = .ok ((.istore 5), 2)) := by decide +kernel
theorem zd_L_law_288 : zz_D zy_law_L 288 (.iload 4) 2 290 := ⟨zg_L_law_288.1, rfl⟩
theorem zd_L_law_290 : zz_D zy_law_L 290 (.iconst 3) 1 291 := ⟨zg_L_law_288.2.1, rfl⟩
theorem zd_L_law_291 : zz_D zy_law_L 291 (.iadd) 1 292 := ⟨zg_L_law_288.2.2.1, rfl⟩
theorem zd_L_law_292 : zz_D zy_law_L 292 (.iaload) 1 293 := ⟨zg_L_law_288.2.2.2.1, rfl⟩
theorem zd_L_law_293 : zz_D zy_law_L 293 (.i2l) 1 294 := ⟨zg_L_law_288.2.2.2.2.1, rfl⟩
theorem zd_L_law_294 : zz_D zy_law_L 294 (.ldc2_w 112) 3 297 := ⟨zg_L_law_288.2.2.2.2.2.1, rfl⟩
theorem zd_L_law_297 : zz_D zy_law_L 297 (.land) 1 298 := ⟨zg_L_law_288.2.2.2.2.2.2.1, rfl⟩
theorem zd_L_law_298 : zz_D zy_law_L 298 (.lor) 1 299 := ⟨zg_L_law_288.2.2.2.2.2.2.2.1, rfl⟩
theorem zd_L_law_299 : zz_D zy_law_L 299 (.invokestatic 114) 3 302 := ⟨zg_L_law_288.2.2.2.2.2.2.2.2.1, rfl⟩
theorem zd_L_law_302 : zz_D zy_law_L 302 (.istore 5) 2 304 := ⟨zg_L_law_288.2.2.2.2.2.2.2.2.2, rfl⟩
theorem zg_L_law_304 : (decode zy_law_L.2.1 304 = .ok ((.aload_n 2), 1)) ∧ (decode zy_law_L.2.1 305 = .ok ((.aload_n 0), 1)) ∧ (decode zy_law_L.2.1 306 = .ok ((.iload 4), 2)) ∧ (decode zy_law_L.2.1 308 = .ok ((.iconst 1), 1)) ∧ (decode zy_law_L.2.1 309 = .ok ((.iadd), 1)) ∧ (decode zy_law_L.2.1 310 = .ok ((.iaload), 1)) ∧ (decode zy_law_L.2.1 311 = .ok ((.aload_n 0), 1)) ∧ (decode zy_law_L.2.1 312 = .ok ((.iload 4), 2)) ∧ (decode zy_law_L.2.1 314 = .ok ((.iconst 2), 1)) ∧ (decode zy_law_L.2.1 315 = .ok ((.iadd), 1)) := by decide +kernel
theorem zd_L_law_304 : zz_D zy_law_L 304 (.aload_n 2) 1 305 := ⟨zg_L_law_304.1, rfl⟩
theorem zd_L_law_305 : zz_D zy_law_L 305 (.aload_n 0) 1 306 := ⟨zg_L_law_304.2.1, rfl⟩
theorem zd_L_law_306 : zz_D zy_law_L 306 (.iload 4) 2 308 := ⟨zg_L_law_304.2.2.1, rfl⟩
theorem zd_L_law_308 : zz_D zy_law_L 308 (.iconst 1) 1 309 := ⟨zg_L_law_304.2.2.2.1, rfl⟩
theorem zd_L_law_309 : zz_D zy_law_L 309 (.iadd) 1 310 := ⟨zg_L_law_304.2.2.2.2.1, rfl⟩
theorem zd_L_law_310 : zz_D zy_law_L 310 (.iaload) 1 311 := ⟨zg_L_law_304.2.2.2.2.2.1, rfl⟩
theorem zd_L_law_311 : zz_D zy_law_L 311 (.aload_n 0) 1 312 := ⟨zg_L_law_304.2.2.2.2.2.2.1, rfl⟩
theorem zd_L_law_312 : zz_D zy_law_L 312 (.iload 4) 2 314 := ⟨zg_L_law_304.2.2.2.2.2.2.2.1, rfl⟩
theorem zd_L_law_314 : zz_D zy_law_L 314 (.iconst 2) 1 315 := ⟨zg_L_law_304.2.2.2.2.2.2.2.2.1, rfl⟩
theorem zd_L_law_315 : zz_D zy_law_L 315 (.iadd) 1 316 := ⟨zg_L_law_304.2.2.2.2.2.2.2.2.2, rfl⟩
theorem zg_L_law_316 : (decode zy_law_L.2.1 316 = .ok ((.iaload), 1)) ∧ (decode zy_law_L.2.1 317 = .ok ((.i2l), 1)) ∧ (decode zy_law_L.2.1 318 = .ok ((.bipush 32), 2)) ∧ (decode zy_law_L.2.1 320 = .ok ((.lshl), 1)) ∧ (decode zy_law_L.2.1 321 = .ok ((.aload_n 0), 1)) ∧ (decode zy_law_L.2.1 322 = .ok ((.iload 4), 2)) ∧ (decode zy_law_L.2.1 324 = .ok ((.iconst 3), 1)) ∧ (decode zy_law_L.2.1 325 = .ok ((.iadd), 1)) ∧ (decode zy_law_L.2.1 326 = .ok ((.iaload), 1)) ∧ (decode zy_law_L.2.1 327 = .ok ((.i2l), 1)) := by decide +kernel
theorem zd_L_law_316 : zz_D zy_law_L 316 (.iaload) 1 317 := ⟨zg_L_law_316.1, rfl⟩
theorem zd_L_law_317 : zz_D zy_law_L 317 (.i2l) 1 318 := ⟨zg_L_law_316.2.1, rfl⟩
theorem zd_L_law_318 : zz_D zy_law_L 318 (.bipush 32) 2 320 := ⟨zg_L_law_316.2.2.1, rfl⟩
theorem zd_L_law_320 : zz_D zy_law_L 320 (.lshl) 1 321 := ⟨zg_L_law_316.2.2.2.1, rfl⟩
theorem zd_L_law_321 : zz_D zy_law_L 321 (.aload_n 0) 1 322 := ⟨zg_L_law_316.2.2.2.2.1, rfl⟩
theorem zd_L_law_322 : zz_D zy_law_L 322 (.iload 4) 2 324 := ⟨zg_L_law_316.2.2.2.2.2.1, rfl⟩
theorem zd_L_law_324 : zz_D zy_law_L 324 (.iconst 3) 1 325 := ⟨zg_L_law_316.2.2.2.2.2.2.1, rfl⟩
theorem zd_L_law_325 : zz_D zy_law_L 325 (.iadd) 1 326 := ⟨zg_L_law_316.2.2.2.2.2.2.2.1, rfl⟩
theorem zd_L_law_326 : zz_D zy_law_L 326 (.iaload) 1 327 := ⟨zg_L_law_316.2.2.2.2.2.2.2.2.1, rfl⟩
theorem zd_L_law_327 : zz_D zy_law_L 327 (.i2l) 1 328 := ⟨zg_L_law_316.2.2.2.2.2.2.2.2.2, rfl⟩
theorem zg_L_law_328 : (decode zy_law_L.2.1 328 = .ok ((.ldc2_w 112), 3)) ∧ (decode zy_law_L.2.1 331 = .ok ((.land), 1)) ∧ (decode zy_law_L.2.1 332 = .ok ((.lor), 1)) ∧ (decode zy_law_L.2.1 333 = .ok ((.invokevirtual 117), 3)) ∧ (decode zy_law_L.2.1 336 = .ok (Instr.goto 844, 3)) ∧ (decode zy_law_L.2.1 339 = .ok ((.aload_n 1), 1)) ∧ (decode zy_law_L.2.1 340 = .ok ((.aload_n 0), 1)) ∧ (decode zy_law_L.2.1 341 = .ok ((.iload 4), 2)) ∧ (decode zy_law_L.2.1 343 = .ok ((.iconst 1), 1)) ∧ (decode zy_law_L.2.1 344 = .ok ((.iadd), 1)) := by decide +kernel
theorem zd_L_law_328 : zz_D zy_law_L 328 (.ldc2_w 112) 3 331 := ⟨zg_L_law_328.1, rfl⟩
theorem zd_L_law_331 : zz_D zy_law_L 331 (.land) 1 332 := ⟨zg_L_law_328.2.1, rfl⟩
theorem zd_L_law_332 : zz_D zy_law_L 332 (.lor) 1 333 := ⟨zg_L_law_328.2.2.1, rfl⟩
theorem zd_L_law_333 : zz_D zy_law_L 333 (.invokevirtual 117) 3 336 := ⟨zg_L_law_328.2.2.2.1, rfl⟩
theorem zd_L_law_336 : zz_B zy_law_L 336 Instr.goto 1180 339 := ⟨844, zg_L_law_328.2.2.2.2.1, rfl, rfl⟩
theorem zd_L_law_339 : zz_D zy_law_L 339 (.aload_n 1) 1 340 := ⟨zg_L_law_328.2.2.2.2.2.1, rfl⟩
theorem zd_L_law_340 : zz_D zy_law_L 340 (.aload_n 0) 1 341 := ⟨zg_L_law_328.2.2.2.2.2.2.1, rfl⟩
theorem zd_L_law_341 : zz_D zy_law_L 341 (.iload 4) 2 343 := ⟨zg_L_law_328.2.2.2.2.2.2.2.1, rfl⟩
theorem zd_L_law_343 : zz_D zy_law_L 343 (.iconst 1) 1 344 := ⟨zg_L_law_328.2.2.2.2.2.2.2.2.1, rfl⟩
theorem zd_L_law_344 : zz_D zy_law_L 344 (.iadd) 1 345 := ⟨zg_L_law_328.2.2.2.2.2.2.2.2.2, rfl⟩
theorem zg_L_law_345 : (decode zy_law_L.2.1 345 = .ok ((.iaload), 1)) ∧ (decode zy_law_L.2.1 346 = .ok ((.invokestatic 118), 3)) ∧ (decode zy_law_L.2.1 349 = .ok ((.istore 5), 2)) ∧ (decode zy_law_L.2.1 351 = .ok ((.aload_n 2), 1)) ∧ (decode zy_law_L.2.1 352 = .ok ((.aload_n 0), 1)) ∧ (decode zy_law_L.2.1 353 = .ok ((.iload 4), 2)) ∧ (decode zy_law_L.2.1 355 = .ok ((.iconst 1), 1)) ∧ (decode zy_law_L.2.1 356 = .ok ((.iadd), 1)) ∧ (decode zy_law_L.2.1 357 = .ok ((.iaload), 1)) ∧ (decode zy_law_L.2.1 358 = .ok ((.invokevirtual 120), 3)) := by decide +kernel
theorem zd_L_law_345 : zz_D zy_law_L 345 (.iaload) 1 346 := ⟨zg_L_law_345.1, rfl⟩
theorem zd_L_law_346 : zz_D zy_law_L 346 (.invokestatic 118) 3 349 := ⟨zg_L_law_345.2.1, rfl⟩
theorem zd_L_law_349 : zz_D zy_law_L 349 (.istore 5) 2 351 := ⟨zg_L_law_345.2.2.1, rfl⟩
theorem zd_L_law_351 : zz_D zy_law_L 351 (.aload_n 2) 1 352 := ⟨zg_L_law_345.2.2.2.1, rfl⟩
theorem zd_L_law_352 : zz_D zy_law_L 352 (.aload_n 0) 1 353 := ⟨zg_L_law_345.2.2.2.2.1, rfl⟩
theorem zd_L_law_353 : zz_D zy_law_L 353 (.iload 4) 2 355 := ⟨zg_L_law_345.2.2.2.2.2.1, rfl⟩
theorem zd_L_law_355 : zz_D zy_law_L 355 (.iconst 1) 1 356 := ⟨zg_L_law_345.2.2.2.2.2.2.1, rfl⟩
theorem zd_L_law_356 : zz_D zy_law_L 356 (.iadd) 1 357 := ⟨zg_L_law_345.2.2.2.2.2.2.2.1, rfl⟩
theorem zd_L_law_357 : zz_D zy_law_L 357 (.iaload) 1 358 := ⟨zg_L_law_345.2.2.2.2.2.2.2.2.1, rfl⟩
theorem zd_L_law_358 : zz_D zy_law_L 358 (.invokevirtual 120) 3 361 := ⟨zg_L_law_345.2.2.2.2.2.2.2.2.2, rfl⟩
theorem zg_L_law_361 : (decode zy_law_L.2.1 361 = .ok (Instr.goto 819, 3)) ∧ (decode zy_law_L.2.1 364 = .ok ((.aload_n 1), 1)) ∧ (decode zy_law_L.2.1 365 = .ok ((.aload_n 0), 1)) ∧ (decode zy_law_L.2.1 366 = .ok ((.iload 4), 2)) ∧ (decode zy_law_L.2.1 368 = .ok ((.iconst 1), 1)) ∧ (decode zy_law_L.2.1 369 = .ok ((.iadd), 1)) ∧ (decode zy_law_L.2.1 370 = .ok ((.iaload), 1)) ∧ (decode zy_law_L.2.1 371 = .ok ((.aload_n 3), 1)) ∧ (decode zy_law_L.2.1 372 = .ok ((.invokestatic 121), 3)) ∧ (decode zy_law_L.2.1 375 = .ok ((.istore 5), 2)) := by decide +kernel
theorem zd_L_law_361 : zz_B zy_law_L 361 Instr.goto 1180 364 := ⟨819, zg_L_law_361.1, rfl, rfl⟩
theorem zd_L_law_364 : zz_D zy_law_L 364 (.aload_n 1) 1 365 := ⟨zg_L_law_361.2.1, rfl⟩
theorem zd_L_law_365 : zz_D zy_law_L 365 (.aload_n 0) 1 366 := ⟨zg_L_law_361.2.2.1, rfl⟩
theorem zd_L_law_366 : zz_D zy_law_L 366 (.iload 4) 2 368 := ⟨zg_L_law_361.2.2.2.1, rfl⟩
theorem zd_L_law_368 : zz_D zy_law_L 368 (.iconst 1) 1 369 := ⟨zg_L_law_361.2.2.2.2.1, rfl⟩
theorem zd_L_law_369 : zz_D zy_law_L 369 (.iadd) 1 370 := ⟨zg_L_law_361.2.2.2.2.2.1, rfl⟩
theorem zd_L_law_370 : zz_D zy_law_L 370 (.iaload) 1 371 := ⟨zg_L_law_361.2.2.2.2.2.2.1, rfl⟩
theorem zd_L_law_371 : zz_D zy_law_L 371 (.aload_n 3) 1 372 := ⟨zg_L_law_361.2.2.2.2.2.2.2.1, rfl⟩
theorem zd_L_law_372 : zz_D zy_law_L 372 (.invokestatic 121) 3 375 := ⟨zg_L_law_361.2.2.2.2.2.2.2.2.1, rfl⟩
theorem zd_L_law_375 : zz_D zy_law_L 375 (.istore 5) 2 377 := ⟨zg_L_law_361.2.2.2.2.2.2.2.2.2, rfl⟩
theorem zg_L_law_377 : (decode zy_law_L.2.1 377 = .ok ((.aload_n 2), 1)) ∧ (decode zy_law_L.2.1 378 = .ok ((.aload_n 0), 1)) ∧ (decode zy_law_L.2.1 379 = .ok ((.iload 4), 2)) ∧ (decode zy_law_L.2.1 381 = .ok ((.iconst 1), 1)) ∧ (decode zy_law_L.2.1 382 = .ok ((.iadd), 1)) ∧ (decode zy_law_L.2.1 383 = .ok ((.iaload), 1)) ∧ (decode zy_law_L.2.1 384 = .ok ((.invokevirtual 124), 3)) ∧ (decode zy_law_L.2.1 387 = .ok ((.lstore 6), 2)) ∧ (decode zy_law_L.2.1 389 = .ok (Instr.goto 791, 3)) ∧ (decode zy_law_L.2.1 392 = .ok ((.aload_n 1), 1)) := by decide +kernel
theorem zd_L_law_377 : zz_D zy_law_L 377 (.aload_n 2) 1 378 := ⟨zg_L_law_377.1, rfl⟩
theorem zd_L_law_378 : zz_D zy_law_L 378 (.aload_n 0) 1 379 := ⟨zg_L_law_377.2.1, rfl⟩
theorem zd_L_law_379 : zz_D zy_law_L 379 (.iload 4) 2 381 := ⟨zg_L_law_377.2.2.1, rfl⟩
theorem zd_L_law_381 : zz_D zy_law_L 381 (.iconst 1) 1 382 := ⟨zg_L_law_377.2.2.2.1, rfl⟩
theorem zd_L_law_382 : zz_D zy_law_L 382 (.iadd) 1 383 := ⟨zg_L_law_377.2.2.2.2.1, rfl⟩
theorem zd_L_law_383 : zz_D zy_law_L 383 (.iaload) 1 384 := ⟨zg_L_law_377.2.2.2.2.2.1, rfl⟩
theorem zd_L_law_384 : zz_D zy_law_L 384 (.invokevirtual 124) 3 387 := ⟨zg_L_law_377.2.2.2.2.2.2.1, rfl⟩
theorem zd_L_law_387 : zz_D zy_law_L 387 (.lstore 6) 2 389 := ⟨zg_L_law_377.2.2.2.2.2.2.2.1, rfl⟩
theorem zd_L_law_389 : zz_B zy_law_L 389 Instr.goto 1180 392 := ⟨791, zg_L_law_377.2.2.2.2.2.2.2.2.1, rfl, rfl⟩
theorem zd_L_law_392 : zz_D zy_law_L 392 (.aload_n 1) 1 393 := ⟨zg_L_law_377.2.2.2.2.2.2.2.2.2, rfl⟩
theorem zg_L_law_393 : (decode zy_law_L.2.1 393 = .ok ((.invokevirtual 125), 3)) ∧ (decode zy_law_L.2.1 396 = .ok ((.pop), 1)) ∧ (decode zy_law_L.2.1 397 = .ok ((.aload_n 2), 1)) ∧ (decode zy_law_L.2.1 398 = .ok ((.invokevirtual 128), 3)) ∧ (decode zy_law_L.2.1 401 = .ok ((.pop), 1)) ∧ (decode zy_law_L.2.1 402 = .ok (Instr.goto 778, 3)) ∧ (decode zy_law_L.2.1 405 = .ok ((.aload_n 1), 1)) ∧ (decode zy_law_L.2.1 406 = .ok ((.aload_n 0), 1)) ∧ (decode zy_law_L.2.1 407 = .ok ((.iload 4), 2)) ∧ (decode zy_law_L.2.1 409 = .ok ((.iconst 1), 1)) := by decide +kernel
theorem zd_L_law_393 : zz_D zy_law_L 393 (.invokevirtual 125) 3 396 := ⟨zg_L_law_393.1, rfl⟩
theorem zd_L_law_396 : zz_D zy_law_L 396 (.pop) 1 397 := ⟨zg_L_law_393.2.1, rfl⟩
theorem zd_L_law_397 : zz_D zy_law_L 397 (.aload_n 2) 1 398 := ⟨zg_L_law_393.2.2.1, rfl⟩
theorem zd_L_law_398 : zz_D zy_law_L 398 (.invokevirtual 128) 3 401 := ⟨zg_L_law_393.2.2.2.1, rfl⟩
theorem zd_L_law_401 : zz_D zy_law_L 401 (.pop) 1 402 := ⟨zg_L_law_393.2.2.2.2.1, rfl⟩
theorem zd_L_law_402 : zz_B zy_law_L 402 Instr.goto 1180 405 := ⟨778, zg_L_law_393.2.2.2.2.2.1, rfl, rfl⟩
theorem zd_L_law_405 : zz_D zy_law_L 405 (.aload_n 1) 1 406 := ⟨zg_L_law_393.2.2.2.2.2.2.1, rfl⟩
theorem zd_L_law_406 : zz_D zy_law_L 406 (.aload_n 0) 1 407 := ⟨zg_L_law_393.2.2.2.2.2.2.2.1, rfl⟩
theorem zd_L_law_407 : zz_D zy_law_L 407 (.iload 4) 2 409 := ⟨zg_L_law_393.2.2.2.2.2.2.2.2.1, rfl⟩
theorem zd_L_law_409 : zz_D zy_law_L 409 (.iconst 1) 1 410 := ⟨zg_L_law_393.2.2.2.2.2.2.2.2.2, rfl⟩
theorem zg_L_law_410 : (decode zy_law_L.2.1 410 = .ok ((.iadd), 1)) ∧ (decode zy_law_L.2.1 411 = .ok ((.iaload), 1)) ∧ (decode zy_law_L.2.1 412 = .ok ((.i2l), 1)) ∧ (decode zy_law_L.2.1 413 = .ok ((.bipush 32), 2)) ∧ (decode zy_law_L.2.1 415 = .ok ((.lshl), 1)) ∧ (decode zy_law_L.2.1 416 = .ok ((.aload_n 0), 1)) ∧ (decode zy_law_L.2.1 417 = .ok ((.iload 4), 2)) ∧ (decode zy_law_L.2.1 419 = .ok ((.iconst 2), 1)) ∧ (decode zy_law_L.2.1 420 = .ok ((.iadd), 1)) ∧ (decode zy_law_L.2.1 421 = .ok ((.iaload), 1)) := by decide +kernel
theorem zd_L_law_410 : zz_D zy_law_L 410 (.iadd) 1 411 := ⟨zg_L_law_410.1, rfl⟩
theorem zd_L_law_411 : zz_D zy_law_L 411 (.iaload) 1 412 := ⟨zg_L_law_410.2.1, rfl⟩
theorem zd_L_law_412 : zz_D zy_law_L 412 (.i2l) 1 413 := ⟨zg_L_law_410.2.2.1, rfl⟩
theorem zd_L_law_413 : zz_D zy_law_L 413 (.bipush 32) 2 415 := ⟨zg_L_law_410.2.2.2.1, rfl⟩
theorem zd_L_law_415 : zz_D zy_law_L 415 (.lshl) 1 416 := ⟨zg_L_law_410.2.2.2.2.1, rfl⟩
theorem zd_L_law_416 : zz_D zy_law_L 416 (.aload_n 0) 1 417 := ⟨zg_L_law_410.2.2.2.2.2.1, rfl⟩
theorem zd_L_law_417 : zz_D zy_law_L 417 (.iload 4) 2 419 := ⟨zg_L_law_410.2.2.2.2.2.2.1, rfl⟩
theorem zd_L_law_419 : zz_D zy_law_L 419 (.iconst 2) 1 420 := ⟨zg_L_law_410.2.2.2.2.2.2.2.1, rfl⟩
theorem zd_L_law_420 : zz_D zy_law_L 420 (.iadd) 1 421 := ⟨zg_L_law_410.2.2.2.2.2.2.2.2.1, rfl⟩
theorem zd_L_law_421 : zz_D zy_law_L 421 (.iaload) 1 422 := ⟨zg_L_law_410.2.2.2.2.2.2.2.2.2, rfl⟩
theorem zg_L_law_422 : (decode zy_law_L.2.1 422 = .ok ((.i2l), 1)) ∧ (decode zy_law_L.2.1 423 = .ok ((.ldc2_w 112), 3)) ∧ (decode zy_law_L.2.1 426 = .ok ((.land), 1)) ∧ (decode zy_law_L.2.1 427 = .ok ((.lor), 1)) ∧ (decode zy_law_L.2.1 428 = .ok ((.aload_n 0), 1)) ∧ (decode zy_law_L.2.1 429 = .ok ((.iload 4), 2)) ∧ (decode zy_law_L.2.1 431 = .ok ((.iconst 3), 1)) ∧ (decode zy_law_L.2.1 432 = .ok ((.iadd), 1)) ∧ (decode zy_law_L.2.1 433 = .ok ((.iaload), 1)) ∧ (decode zy_law_L.2.1 434 = .ok ((.aload_n 3), 1)) := by decide +kernel
theorem zd_L_law_422 : zz_D zy_law_L 422 (.i2l) 1 423 := ⟨zg_L_law_422.1, rfl⟩
theorem zd_L_law_423 : zz_D zy_law_L 423 (.ldc2_w 112) 3 426 := ⟨zg_L_law_422.2.1, rfl⟩
theorem zd_L_law_426 : zz_D zy_law_L 426 (.land) 1 427 := ⟨zg_L_law_422.2.2.1, rfl⟩
theorem zd_L_law_427 : zz_D zy_law_L 427 (.lor) 1 428 := ⟨zg_L_law_422.2.2.2.1, rfl⟩
theorem zd_L_law_428 : zz_D zy_law_L 428 (.aload_n 0) 1 429 := ⟨zg_L_law_422.2.2.2.2.1, rfl⟩
theorem zd_L_law_429 : zz_D zy_law_L 429 (.iload 4) 2 431 := ⟨zg_L_law_422.2.2.2.2.2.1, rfl⟩
theorem zd_L_law_431 : zz_D zy_law_L 431 (.iconst 3) 1 432 := ⟨zg_L_law_422.2.2.2.2.2.2.1, rfl⟩
theorem zd_L_law_432 : zz_D zy_law_L 432 (.iadd) 1 433 := ⟨zg_L_law_422.2.2.2.2.2.2.2.1, rfl⟩
theorem zd_L_law_433 : zz_D zy_law_L 433 (.iaload) 1 434 := ⟨zg_L_law_422.2.2.2.2.2.2.2.2.1, rfl⟩
theorem zd_L_law_434 : zz_D zy_law_L 434 (.aload_n 3) 1 435 := ⟨zg_L_law_422.2.2.2.2.2.2.2.2.2, rfl⟩
theorem zg_L_law_435 : (decode zy_law_L.2.1 435 = .ok ((.invokestatic 129), 3)) ∧ (decode zy_law_L.2.1 438 = .ok ((.istore 5), 2)) ∧ (decode zy_law_L.2.1 440 = .ok ((.aload_n 2), 1)) ∧ (decode zy_law_L.2.1 441 = .ok ((.aload_n 0), 1)) ∧ (decode zy_law_L.2.1 442 = .ok ((.iload 4), 2)) ∧ (decode zy_law_L.2.1 444 = .ok ((.iconst 1), 1)) ∧ (decode zy_law_L.2.1 445 = .ok ((.iadd), 1)) ∧ (decode zy_law_L.2.1 446 = .ok ((.iaload), 1)) ∧ (decode zy_law_L.2.1 447 = .ok ((.i2l), 1)) ∧ (decode zy_law_L.2.1 448 = .ok ((.bipush 32), 2)) := by decide +kernel
theorem zd_L_law_435 : zz_D zy_law_L 435 (.invokestatic 129) 3 438 := ⟨zg_L_law_435.1, rfl⟩
theorem zd_L_law_438 : zz_D zy_law_L 438 (.istore 5) 2 440 := ⟨zg_L_law_435.2.1, rfl⟩
theorem zd_L_law_440 : zz_D zy_law_L 440 (.aload_n 2) 1 441 := ⟨zg_L_law_435.2.2.1, rfl⟩
theorem zd_L_law_441 : zz_D zy_law_L 441 (.aload_n 0) 1 442 := ⟨zg_L_law_435.2.2.2.1, rfl⟩
theorem zd_L_law_442 : zz_D zy_law_L 442 (.iload 4) 2 444 := ⟨zg_L_law_435.2.2.2.2.1, rfl⟩
theorem zd_L_law_444 : zz_D zy_law_L 444 (.iconst 1) 1 445 := ⟨zg_L_law_435.2.2.2.2.2.1, rfl⟩
theorem zd_L_law_445 : zz_D zy_law_L 445 (.iadd) 1 446 := ⟨zg_L_law_435.2.2.2.2.2.2.1, rfl⟩
theorem zd_L_law_446 : zz_D zy_law_L 446 (.iaload) 1 447 := ⟨zg_L_law_435.2.2.2.2.2.2.2.1, rfl⟩
theorem zd_L_law_447 : zz_D zy_law_L 447 (.i2l) 1 448 := ⟨zg_L_law_435.2.2.2.2.2.2.2.2.1, rfl⟩
theorem zd_L_law_448 : zz_D zy_law_L 448 (.bipush 32) 2 450 := ⟨zg_L_law_435.2.2.2.2.2.2.2.2.2, rfl⟩
theorem zg_L_law_450 : (decode zy_law_L.2.1 450 = .ok ((.lshl), 1)) ∧ (decode zy_law_L.2.1 451 = .ok ((.aload_n 0), 1)) ∧ (decode zy_law_L.2.1 452 = .ok ((.iload 4), 2)) ∧ (decode zy_law_L.2.1 454 = .ok ((.iconst 2), 1)) ∧ (decode zy_law_L.2.1 455 = .ok ((.iadd), 1)) ∧ (decode zy_law_L.2.1 456 = .ok ((.iaload), 1)) ∧ (decode zy_law_L.2.1 457 = .ok ((.i2l), 1)) ∧ (decode zy_law_L.2.1 458 = .ok ((.ldc2_w 112), 3)) ∧ (decode zy_law_L.2.1 461 = .ok ((.land), 1)) ∧ (decode zy_law_L.2.1 462 = .ok ((.lor), 1)) := by decide +kernel
theorem zd_L_law_450 : zz_D zy_law_L 450 (.lshl) 1 451 := ⟨zg_L_law_450.1, rfl⟩
theorem zd_L_law_451 : zz_D zy_law_L 451 (.aload_n 0) 1 452 := ⟨zg_L_law_450.2.1, rfl⟩
theorem zd_L_law_452 : zz_D zy_law_L 452 (.iload 4) 2 454 := ⟨zg_L_law_450.2.2.1, rfl⟩
theorem zd_L_law_454 : zz_D zy_law_L 454 (.iconst 2) 1 455 := ⟨zg_L_law_450.2.2.2.1, rfl⟩
theorem zd_L_law_455 : zz_D zy_law_L 455 (.iadd) 1 456 := ⟨zg_L_law_450.2.2.2.2.1, rfl⟩
theorem zd_L_law_456 : zz_D zy_law_L 456 (.iaload) 1 457 := ⟨zg_L_law_450.2.2.2.2.2.1, rfl⟩
theorem zd_L_law_457 : zz_D zy_law_L 457 (.i2l) 1 458 := ⟨zg_L_law_450.2.2.2.2.2.2.1, rfl⟩
theorem zd_L_law_458 : zz_D zy_law_L 458 (.ldc2_w 112) 3 461 := ⟨zg_L_law_450.2.2.2.2.2.2.2.1, rfl⟩
theorem zd_L_law_461 : zz_D zy_law_L 461 (.land) 1 462 := ⟨zg_L_law_450.2.2.2.2.2.2.2.2.1, rfl⟩
theorem zd_L_law_462 : zz_D zy_law_L 462 (.lor) 1 463 := ⟨zg_L_law_450.2.2.2.2.2.2.2.2.2, rfl⟩
theorem zg_L_law_463 : (decode zy_law_L.2.1 463 = .ok ((.aload_n 0), 1)) ∧ (decode zy_law_L.2.1 464 = .ok ((.iload 4), 2)) ∧ (decode zy_law_L.2.1 466 = .ok ((.iconst 3), 1)) ∧ (decode zy_law_L.2.1 467 = .ok ((.iadd), 1)) ∧ (decode zy_law_L.2.1 468 = .ok ((.iaload), 1)) ∧ (decode zy_law_L.2.1 469 = .ok ((.invokevirtual 132), 3)) ∧ (decode zy_law_L.2.1 472 = .ok ((.istore 6), 2)) ∧ (decode zy_law_L.2.1 474 = .ok (Instr.goto 706, 3)) ∧ (decode zy_law_L.2.1 477 = .ok ((.aload_n 1), 1)) ∧ (decode zy_law_L.2.1 478 = .ok ((.aload_n 0), 1)) := by decide +kernel
theorem zd_L_law_463 : zz_D zy_law_L 463 (.aload_n 0) 1 464 := ⟨zg_L_law_463.1, rfl⟩
theorem zd_L_law_464 : zz_D zy_law_L 464 (.iload 4) 2 466 := ⟨zg_L_law_463.2.1, rfl⟩
theorem zd_L_law_466 : zz_D zy_law_L 466 (.iconst 3) 1 467 := ⟨zg_L_law_463.2.2.1, rfl⟩
theorem zd_L_law_467 : zz_D zy_law_L 467 (.iadd) 1 468 := ⟨zg_L_law_463.2.2.2.1, rfl⟩
theorem zd_L_law_468 : zz_D zy_law_L 468 (.iaload) 1 469 := ⟨zg_L_law_463.2.2.2.2.1, rfl⟩
theorem zd_L_law_469 : zz_D zy_law_L 469 (.invokevirtual 132) 3 472 := ⟨zg_L_law_463.2.2.2.2.2.1, rfl⟩
theorem zd_L_law_472 : zz_D zy_law_L 472 (.istore 6) 2 474 := ⟨zg_L_law_463.2.2.2.2.2.2.1, rfl⟩
theorem zd_L_law_474 : zz_B zy_law_L 474 Instr.goto 1180 477 := ⟨706, zg_L_law_463.2.2.2.2.2.2.2.1, rfl, rfl⟩
theorem zd_L_law_477 : zz_D zy_law_L 477 (.aload_n 1) 1 478 := ⟨zg_L_law_463.2.2.2.2.2.2.2.2.1, rfl⟩
theorem zd_L_law_478 : zz_D zy_law_L 478 (.aload_n 0) 1 479 := ⟨zg_L_law_463.2.2.2.2.2.2.2.2.2, rfl⟩
theorem zg_L_law_479 : (decode zy_law_L.2.1 479 = .ok ((.iload 4), 2)) ∧ (decode zy_law_L.2.1 481 = .ok ((.iconst 1), 1)) ∧ (decode zy_law_L.2.1 482 = .ok ((.iadd), 1)) ∧ (decode zy_law_L.2.1 483 = .ok ((.iaload), 1)) ∧ (decode zy_law_L.2.1 484 = .ok ((.i2l), 1)) ∧ (decode zy_law_L.2.1 485 = .ok ((.bipush 32), 2)) ∧ (decode zy_law_L.2.1 487 = .ok ((.lshl), 1)) ∧ (decode zy_law_L.2.1 488 = .ok ((.aload_n 0), 1)) ∧ (decode zy_law_L.2.1 489 = .ok ((.iload 4), 2)) ∧ (decode zy_law_L.2.1 491 = .ok ((.iconst 2), 1)) := by decide +kernel
theorem zd_L_law_479 : zz_D zy_law_L 479 (.iload 4) 2 481 := ⟨zg_L_law_479.1, rfl⟩
theorem zd_L_law_481 : zz_D zy_law_L 481 (.iconst 1) 1 482 := ⟨zg_L_law_479.2.1, rfl⟩
theorem zd_L_law_482 : zz_D zy_law_L 482 (.iadd) 1 483 := ⟨zg_L_law_479.2.2.1, rfl⟩
theorem zd_L_law_483 : zz_D zy_law_L 483 (.iaload) 1 484 := ⟨zg_L_law_479.2.2.2.1, rfl⟩
theorem zd_L_law_484 : zz_D zy_law_L 484 (.i2l) 1 485 := ⟨zg_L_law_479.2.2.2.2.1, rfl⟩
theorem zd_L_law_485 : zz_D zy_law_L 485 (.bipush 32) 2 487 := ⟨zg_L_law_479.2.2.2.2.2.1, rfl⟩
theorem zd_L_law_487 : zz_D zy_law_L 487 (.lshl) 1 488 := ⟨zg_L_law_479.2.2.2.2.2.2.1, rfl⟩
theorem zd_L_law_488 : zz_D zy_law_L 488 (.aload_n 0) 1 489 := ⟨zg_L_law_479.2.2.2.2.2.2.2.1, rfl⟩
theorem zd_L_law_489 : zz_D zy_law_L 489 (.iload 4) 2 491 := ⟨zg_L_law_479.2.2.2.2.2.2.2.2.1, rfl⟩
theorem zd_L_law_491 : zz_D zy_law_L 491 (.iconst 2) 1 492 := ⟨zg_L_law_479.2.2.2.2.2.2.2.2.2, rfl⟩
theorem zg_L_law_492 : (decode zy_law_L.2.1 492 = .ok ((.iadd), 1)) ∧ (decode zy_law_L.2.1 493 = .ok ((.iaload), 1)) ∧ (decode zy_law_L.2.1 494 = .ok ((.i2l), 1)) ∧ (decode zy_law_L.2.1 495 = .ok ((.ldc2_w 112), 3)) ∧ (decode zy_law_L.2.1 498 = .ok ((.land), 1)) ∧ (decode zy_law_L.2.1 499 = .ok ((.lor), 1)) ∧ (decode zy_law_L.2.1 500 = .ok ((.invokevirtual 133), 3)) ∧ (decode zy_law_L.2.1 503 = .ok ((.pop), 1)) ∧ (decode zy_law_L.2.1 504 = .ok ((.aload_n 2), 1)) ∧ (decode zy_law_L.2.1 505 = .ok ((.aload_n 0), 1)) := by decide +kernel
theorem zd_L_law_492 : zz_D zy_law_L 492 (.iadd) 1 493 := ⟨zg_L_law_492.1, rfl⟩
theorem zd_L_law_493 : zz_D zy_law_L 493 (.iaload) 1 494 := ⟨zg_L_law_492.2.1, rfl⟩
theorem zd_L_law_494 : zz_D zy_law_L 494 (.i2l) 1 495 := ⟨zg_L_law_492.2.2.1, rfl⟩
theorem zd_L_law_495 : zz_D zy_law_L 495 (.ldc2_w 112) 3 498 := ⟨zg_L_law_492.2.2.2.1, rfl⟩
theorem zd_L_law_498 : zz_D zy_law_L 498 (.land) 1 499 := ⟨zg_L_law_492.2.2.2.2.1, rfl⟩
theorem zd_L_law_499 : zz_D zy_law_L 499 (.lor) 1 500 := ⟨zg_L_law_492.2.2.2.2.2.1, rfl⟩
theorem zd_L_law_500 : zz_D zy_law_L 500 (.invokevirtual 133) 3 503 := ⟨zg_L_law_492.2.2.2.2.2.2.1, rfl⟩
theorem zd_L_law_503 : zz_D zy_law_L 503 (.pop) 1 504 := ⟨zg_L_law_492.2.2.2.2.2.2.2.1, rfl⟩
theorem zd_L_law_504 : zz_D zy_law_L 504 (.aload_n 2) 1 505 := ⟨zg_L_law_492.2.2.2.2.2.2.2.2.1, rfl⟩
theorem zd_L_law_505 : zz_D zy_law_L 505 (.aload_n 0) 1 506 := ⟨zg_L_law_492.2.2.2.2.2.2.2.2.2, rfl⟩
theorem zg_L_law_506 : (decode zy_law_L.2.1 506 = .ok ((.iload 4), 2)) ∧ (decode zy_law_L.2.1 508 = .ok ((.iconst 1), 1)) ∧ (decode zy_law_L.2.1 509 = .ok ((.iadd), 1)) ∧ (decode zy_law_L.2.1 510 = .ok ((.iaload), 1)) ∧ (decode zy_law_L.2.1 511 = .ok ((.i2l), 1)) ∧ (decode zy_law_L.2.1 512 = .ok ((.bipush 32), 2)) ∧ (decode zy_law_L.2.1 514 = .ok ((.lshl), 1)) ∧ (decode zy_law_L.2.1 515 = .ok ((.aload_n 0), 1)) ∧ (decode zy_law_L.2.1 516 = .ok ((.iload 4), 2)) ∧ (decode zy_law_L.2.1 518 = .ok ((.iconst 2), 1)) := by decide +kernel
theorem zd_L_law_506 : zz_D zy_law_L 506 (.iload 4) 2 508 := ⟨zg_L_law_506.1, rfl⟩
theorem zd_L_law_508 : zz_D zy_law_L 508 (.iconst 1) 1 509 := ⟨zg_L_law_506.2.1, rfl⟩
theorem zd_L_law_509 : zz_D zy_law_L 509 (.iadd) 1 510 := ⟨zg_L_law_506.2.2.1, rfl⟩
theorem zd_L_law_510 : zz_D zy_law_L 510 (.iaload) 1 511 := ⟨zg_L_law_506.2.2.2.1, rfl⟩
theorem zd_L_law_511 : zz_D zy_law_L 511 (.i2l) 1 512 := ⟨zg_L_law_506.2.2.2.2.1, rfl⟩
theorem zd_L_law_512 : zz_D zy_law_L 512 (.bipush 32) 2 514 := ⟨zg_L_law_506.2.2.2.2.2.1, rfl⟩
theorem zd_L_law_514 : zz_D zy_law_L 514 (.lshl) 1 515 := ⟨zg_L_law_506.2.2.2.2.2.2.1, rfl⟩
theorem zd_L_law_515 : zz_D zy_law_L 515 (.aload_n 0) 1 516 := ⟨zg_L_law_506.2.2.2.2.2.2.2.1, rfl⟩
theorem zd_L_law_516 : zz_D zy_law_L 516 (.iload 4) 2 518 := ⟨zg_L_law_506.2.2.2.2.2.2.2.2.1, rfl⟩
theorem zd_L_law_518 : zz_D zy_law_L 518 (.iconst 2) 1 519 := ⟨zg_L_law_506.2.2.2.2.2.2.2.2.2, rfl⟩
theorem zg_L_law_519 : (decode zy_law_L.2.1 519 = .ok ((.iadd), 1)) ∧ (decode zy_law_L.2.1 520 = .ok ((.iaload), 1)) ∧ (decode zy_law_L.2.1 521 = .ok ((.i2l), 1)) ∧ (decode zy_law_L.2.1 522 = .ok ((.ldc2_w 112), 3)) ∧ (decode zy_law_L.2.1 525 = .ok ((.land), 1)) ∧ (decode zy_law_L.2.1 526 = .ok ((.lor), 1)) ∧ (decode zy_law_L.2.1 527 = .ok ((.invokevirtual 137), 3)) ∧ (decode zy_law_L.2.1 530 = .ok ((.pop), 1)) ∧ (decode zy_law_L.2.1 531 = .ok (Instr.goto 649, 3)) ∧ (decode zy_law_L.2.1 534 = .ok ((.aload_n 1), 1)) := by decide +kernel
theorem zd_L_law_519 : zz_D zy_law_L 519 (.iadd) 1 520 := ⟨zg_L_law_519.1, rfl⟩
theorem zd_L_law_520 : zz_D zy_law_L 520 (.iaload) 1 521 := ⟨zg_L_law_519.2.1, rfl⟩
theorem zd_L_law_521 : zz_D zy_law_L 521 (.i2l) 1 522 := ⟨zg_L_law_519.2.2.1, rfl⟩
theorem zd_L_law_522 : zz_D zy_law_L 522 (.ldc2_w 112) 3 525 := ⟨zg_L_law_519.2.2.2.1, rfl⟩
theorem zd_L_law_525 : zz_D zy_law_L 525 (.land) 1 526 := ⟨zg_L_law_519.2.2.2.2.1, rfl⟩
theorem zd_L_law_526 : zz_D zy_law_L 526 (.lor) 1 527 := ⟨zg_L_law_519.2.2.2.2.2.1, rfl⟩
theorem zd_L_law_527 : zz_D zy_law_L 527 (.invokevirtual 137) 3 530 := ⟨zg_L_law_519.2.2.2.2.2.2.1, rfl⟩
theorem zd_L_law_530 : zz_D zy_law_L 530 (.pop) 1 531 := ⟨zg_L_law_519.2.2.2.2.2.2.2.1, rfl⟩
theorem zd_L_law_531 : zz_B zy_law_L 531 Instr.goto 1180 534 := ⟨649, zg_L_law_519.2.2.2.2.2.2.2.2.1, rfl, rfl⟩
theorem zd_L_law_534 : zz_D zy_law_L 534 (.aload_n 1) 1 535 := ⟨zg_L_law_519.2.2.2.2.2.2.2.2.2, rfl⟩
theorem zg_L_law_535 : (decode zy_law_L.2.1 535 = .ok ((.aload_n 0), 1)) ∧ (decode zy_law_L.2.1 536 = .ok ((.iload 4), 2)) ∧ (decode zy_law_L.2.1 538 = .ok ((.iconst 1), 1)) ∧ (decode zy_law_L.2.1 539 = .ok ((.iadd), 1)) ∧ (decode zy_law_L.2.1 540 = .ok ((.iaload), 1)) ∧ (decode zy_law_L.2.1 541 = .ok ((.aload_n 3), 1)) ∧ (decode zy_law_L.2.1 542 = .ok ((.invokestatic 138), 3)) ∧ (decode zy_law_L.2.1 545 = .ok ((.istore 5), 2)) ∧ (decode zy_law_L.2.1 547 = .ok ((.aload_n 2), 1)) ∧ (decode zy_law_L.2.1 548 = .ok ((.aload_n 0), 1)) := by decide +kernel
theorem zd_L_law_535 : zz_D zy_law_L 535 (.aload_n 0) 1 536 := ⟨zg_L_law_535.1, rfl⟩
theorem zd_L_law_536 : zz_D zy_law_L 536 (.iload 4) 2 538 := ⟨zg_L_law_535.2.1, rfl⟩
theorem zd_L_law_538 : zz_D zy_law_L 538 (.iconst 1) 1 539 := ⟨zg_L_law_535.2.2.1, rfl⟩
theorem zd_L_law_539 : zz_D zy_law_L 539 (.iadd) 1 540 := ⟨zg_L_law_535.2.2.2.1, rfl⟩
theorem zd_L_law_540 : zz_D zy_law_L 540 (.iaload) 1 541 := ⟨zg_L_law_535.2.2.2.2.1, rfl⟩
theorem zd_L_law_541 : zz_D zy_law_L 541 (.aload_n 3) 1 542 := ⟨zg_L_law_535.2.2.2.2.2.1, rfl⟩
theorem zd_L_law_542 : zz_D zy_law_L 542 (.invokestatic 138) 3 545 := ⟨zg_L_law_535.2.2.2.2.2.2.1, rfl⟩
theorem zd_L_law_545 : zz_D zy_law_L 545 (.istore 5) 2 547 := ⟨zg_L_law_535.2.2.2.2.2.2.2.1, rfl⟩
theorem zd_L_law_547 : zz_D zy_law_L 547 (.aload_n 2) 1 548 := ⟨zg_L_law_535.2.2.2.2.2.2.2.2.1, rfl⟩
theorem zd_L_law_548 : zz_D zy_law_L 548 (.aload_n 0) 1 549 := ⟨zg_L_law_535.2.2.2.2.2.2.2.2.2, rfl⟩
theorem zg_L_law_549 : (decode zy_law_L.2.1 549 = .ok ((.iload 4), 2)) ∧ (decode zy_law_L.2.1 551 = .ok ((.iconst 1), 1)) ∧ (decode zy_law_L.2.1 552 = .ok ((.iadd), 1)) ∧ (decode zy_law_L.2.1 553 = .ok ((.iaload), 1)) ∧ (decode zy_law_L.2.1 554 = .ok ((.invokevirtual 140), 3)) ∧ (decode zy_law_L.2.1 557 = .ok ((.istore 6), 2)) ∧ (decode zy_law_L.2.1 559 = .ok (Instr.goto 621, 3)) ∧ (decode zy_law_L.2.1 562 = .ok ((.aload_n 1), 1)) ∧ (decode zy_law_L.2.1 563 = .ok ((.aload_n 0), 1)) ∧ (decode zy_law_L.2.1 564 = .ok ((.iload 4), 2)) := by decide +kernel
theorem zd_L_law_549 : zz_D zy_law_L 549 (.iload 4) 2 551 := ⟨zg_L_law_549.1, rfl⟩
theorem zd_L_law_551 : zz_D zy_law_L 551 (.iconst 1) 1 552 := ⟨zg_L_law_549.2.1, rfl⟩
theorem zd_L_law_552 : zz_D zy_law_L 552 (.iadd) 1 553 := ⟨zg_L_law_549.2.2.1, rfl⟩
theorem zd_L_law_553 : zz_D zy_law_L 553 (.iaload) 1 554 := ⟨zg_L_law_549.2.2.2.1, rfl⟩
theorem zd_L_law_554 : zz_D zy_law_L 554 (.invokevirtual 140) 3 557 := ⟨zg_L_law_549.2.2.2.2.1, rfl⟩
theorem zd_L_law_557 : zz_D zy_law_L 557 (.istore 6) 2 559 := ⟨zg_L_law_549.2.2.2.2.2.1, rfl⟩
theorem zd_L_law_559 : zz_B zy_law_L 559 Instr.goto 1180 562 := ⟨621, zg_L_law_549.2.2.2.2.2.2.1, rfl, rfl⟩
theorem zd_L_law_562 : zz_D zy_law_L 562 (.aload_n 1) 1 563 := ⟨zg_L_law_549.2.2.2.2.2.2.2.1, rfl⟩
theorem zd_L_law_563 : zz_D zy_law_L 563 (.aload_n 0) 1 564 := ⟨zg_L_law_549.2.2.2.2.2.2.2.2.1, rfl⟩
theorem zd_L_law_564 : zz_D zy_law_L 564 (.iload 4) 2 566 := ⟨zg_L_law_549.2.2.2.2.2.2.2.2.2, rfl⟩
theorem zg_L_law_566 : (decode zy_law_L.2.1 566 = .ok ((.iconst 1), 1)) ∧ (decode zy_law_L.2.1 567 = .ok ((.iadd), 1)) ∧ (decode zy_law_L.2.1 568 = .ok ((.iaload), 1)) ∧ (decode zy_law_L.2.1 569 = .ok ((.invokestatic 141), 3)) ∧ (decode zy_law_L.2.1 572 = .ok ((.istore 5), 2)) ∧ (decode zy_law_L.2.1 574 = .ok ((.aload_n 2), 1)) ∧ (decode zy_law_L.2.1 575 = .ok ((.aload_n 0), 1)) ∧ (decode zy_law_L.2.1 576 = .ok ((.iload 4), 2)) ∧ (decode zy_law_L.2.1 578 = .ok ((.iconst 1), 1)) ∧ (decode zy_law_L.2.1 579 = .ok ((.iadd), 1)) := by decide +kernel
theorem zd_L_law_566 : zz_D zy_law_L 566 (.iconst 1) 1 567 := ⟨zg_L_law_566.1, rfl⟩
theorem zd_L_law_567 : zz_D zy_law_L 567 (.iadd) 1 568 := ⟨zg_L_law_566.2.1, rfl⟩
theorem zd_L_law_568 : zz_D zy_law_L 568 (.iaload) 1 569 := ⟨zg_L_law_566.2.2.1, rfl⟩
theorem zd_L_law_569 : zz_D zy_law_L 569 (.invokestatic 141) 3 572 := ⟨zg_L_law_566.2.2.2.1, rfl⟩
theorem zd_L_law_572 : zz_D zy_law_L 572 (.istore 5) 2 574 := ⟨zg_L_law_566.2.2.2.2.1, rfl⟩
theorem zd_L_law_574 : zz_D zy_law_L 574 (.aload_n 2) 1 575 := ⟨zg_L_law_566.2.2.2.2.2.1, rfl⟩
theorem zd_L_law_575 : zz_D zy_law_L 575 (.aload_n 0) 1 576 := ⟨zg_L_law_566.2.2.2.2.2.2.1, rfl⟩
theorem zd_L_law_576 : zz_D zy_law_L 576 (.iload 4) 2 578 := ⟨zg_L_law_566.2.2.2.2.2.2.2.1, rfl⟩
theorem zd_L_law_578 : zz_D zy_law_L 578 (.iconst 1) 1 579 := ⟨zg_L_law_566.2.2.2.2.2.2.2.2.1, rfl⟩
theorem zd_L_law_579 : zz_D zy_law_L 579 (.iadd) 1 580 := ⟨zg_L_law_566.2.2.2.2.2.2.2.2.2, rfl⟩
theorem zg_L_law_580 : (decode zy_law_L.2.1 580 = .ok ((.iaload), 1)) ∧ (decode zy_law_L.2.1 581 = .ok ((.invokevirtual 143), 3)) ∧ (decode zy_law_L.2.1 584 = .ok (Instr.goto 596, 3)) ∧ (decode zy_law_L.2.1 587 = .ok ((.aload_n 1), 1)) ∧ (decode zy_law_L.2.1 588 = .ok ((.invokevirtual 144), 3)) ∧ (decode zy_law_L.2.1 591 = .ok ((.aload_n 2), 1)) ∧ (decode zy_law_L.2.1 592 = .ok ((.invokevirtual 147), 3)) ∧ (decode zy_law_L.2.1 595 = .ok ((Instr.if_icmp .eq) 585, 3)) ∧ (decode zy_law_L.2.1 600 = .ok ((.aload_n 1), 1)) ∧ (decode zy_law_L.2.1 601 = .ok ((.aload_n 0), 1)) := by decide +kernel
theorem zd_L_law_580 : zz_D zy_law_L 580 (.iaload) 1 581 := ⟨zg_L_law_580.1, rfl⟩
theorem zd_L_law_581 : zz_D zy_law_L 581 (.invokevirtual 143) 3 584 := ⟨zg_L_law_580.2.1, rfl⟩
theorem zd_L_law_584 : zz_B zy_law_L 584 Instr.goto 1180 587 := ⟨596, zg_L_law_580.2.2.1, rfl, rfl⟩
theorem zd_L_law_587 : zz_D zy_law_L 587 (.aload_n 1) 1 588 := ⟨zg_L_law_580.2.2.2.1, rfl⟩
theorem zd_L_law_588 : zz_D zy_law_L 588 (.invokevirtual 144) 3 591 := ⟨zg_L_law_580.2.2.2.2.1, rfl⟩
theorem zd_L_law_591 : zz_D zy_law_L 591 (.aload_n 2) 1 592 := ⟨zg_L_law_580.2.2.2.2.2.1, rfl⟩
theorem zd_L_law_592 : zz_D zy_law_L 592 (.invokevirtual 147) 3 595 := ⟨zg_L_law_580.2.2.2.2.2.2.1, rfl⟩
theorem zd_L_law_595 : zz_B zy_law_L 595 (Instr.if_icmp .eq) 1180 598 := ⟨585, zg_L_law_580.2.2.2.2.2.2.2.1, rfl, rfl⟩
theorem zd_L_law_600 : zz_D zy_law_L 600 (.aload_n 1) 1 601 := ⟨zg_L_law_580.2.2.2.2.2.2.2.2.1, rfl⟩
theorem zd_L_law_601 : zz_D zy_law_L 601 (.aload_n 0) 1 602 := ⟨zg_L_law_580.2.2.2.2.2.2.2.2.2, rfl⟩
theorem zg_L_law_602 : (decode zy_law_L.2.1 602 = .ok ((.iload 4), 2)) ∧ (decode zy_law_L.2.1 604 = .ok ((.iconst 1), 1)) ∧ (decode zy_law_L.2.1 605 = .ok ((.iadd), 1)) ∧ (decode zy_law_L.2.1 606 = .ok ((.iaload), 1)) ∧ (decode zy_law_L.2.1 607 = .ok ((.aload_n 0), 1)) ∧ (decode zy_law_L.2.1 608 = .ok ((.iload 4), 2)) ∧ (decode zy_law_L.2.1 610 = .ok ((.iconst 2), 1)) ∧ (decode zy_law_L.2.1 611 = .ok ((.iadd), 1)) ∧ (decode zy_law_L.2.1 612 = .ok ((.iaload), 1)) ∧ (decode zy_law_L.2.1 613 = .ok ((.aload_n 3), 1)) := by decide +kernel
theorem zd_L_law_602 : zz_D zy_law_L 602 (.iload 4) 2 604 := ⟨zg_L_law_602.1, rfl⟩
theorem zd_L_law_604 : zz_D zy_law_L 604 (.iconst 1) 1 605 := ⟨zg_L_law_602.2.1, rfl⟩
theorem zd_L_law_605 : zz_D zy_law_L 605 (.iadd) 1 606 := ⟨zg_L_law_602.2.2.1, rfl⟩
theorem zd_L_law_606 : zz_D zy_law_L 606 (.iaload) 1 607 := ⟨zg_L_law_602.2.2.2.1, rfl⟩
theorem zd_L_law_607 : zz_D zy_law_L 607 (.aload_n 0) 1 608 := ⟨zg_L_law_602.2.2.2.2.1, rfl⟩
theorem zd_L_law_608 : zz_D zy_law_L 608 (.iload 4) 2 610 := ⟨zg_L_law_602.2.2.2.2.2.1, rfl⟩
theorem zd_L_law_610 : zz_D zy_law_L 610 (.iconst 2) 1 611 := ⟨zg_L_law_602.2.2.2.2.2.2.1, rfl⟩
theorem zd_L_law_611 : zz_D zy_law_L 611 (.iadd) 1 612 := ⟨zg_L_law_602.2.2.2.2.2.2.2.1, rfl⟩
theorem zd_L_law_612 : zz_D zy_law_L 612 (.iaload) 1 613 := ⟨zg_L_law_602.2.2.2.2.2.2.2.2.1, rfl⟩
theorem zd_L_law_613 : zz_D zy_law_L 613 (.aload_n 3) 1 614 := ⟨zg_L_law_602.2.2.2.2.2.2.2.2.2, rfl⟩
theorem zg_L_law_614 : (decode zy_law_L.2.1 614 = .ok ((.invokestatic 148), 3)) ∧ (decode zy_law_L.2.1 617 = .ok ((.istore 5), 2)) ∧ (decode zy_law_L.2.1 619 = .ok ((.aload_n 2), 1)) ∧ (decode zy_law_L.2.1 620 = .ok ((.aload_n 0), 1)) ∧ (decode zy_law_L.2.1 621 = .ok ((.iload 4), 2)) ∧ (decode zy_law_L.2.1 623 = .ok ((.iconst 1), 1)) ∧ (decode zy_law_L.2.1 624 = .ok ((.iadd), 1)) ∧ (decode zy_law_L.2.1 625 = .ok ((.iaload), 1)) ∧ (decode zy_law_L.2.1 626 = .ok ((.aload_n 0), 1)) ∧ (decode zy_law_L.2.1 627 = .ok ((.iload 4), 2)) := by decide +kernel
theorem zd_L_law_614 : zz_D zy_law_L 614 (.invokestatic 148) 3 617 := ⟨zg_L_law_614.1, rfl⟩
theorem zd_L_law_617 : zz_D zy_law_L 617 (.istore 5) 2 619 := ⟨zg_L_law_614.2.1, rfl⟩
theorem zd_L_law_619 : zz_D zy_law_L 619 (.aload_n 2) 1 620 := ⟨zg_L_law_614.2.2.1, rfl⟩
theorem zd_L_law_620 : zz_D zy_law_L 620 (.aload_n 0) 1 621 := ⟨zg_L_law_614.2.2.2.1, rfl⟩
theorem zd_L_law_621 : zz_D zy_law_L 621 (.iload 4) 2 623 := ⟨zg_L_law_614.2.2.2.2.1, rfl⟩
theorem zd_L_law_623 : zz_D zy_law_L 623 (.iconst 1) 1 624 := ⟨zg_L_law_614.2.2.2.2.2.1, rfl⟩
theorem zd_L_law_624 : zz_D zy_law_L 624 (.iadd) 1 625 := ⟨zg_L_law_614.2.2.2.2.2.2.1, rfl⟩
theorem zd_L_law_625 : zz_D zy_law_L 625 (.iaload) 1 626 := ⟨zg_L_law_614.2.2.2.2.2.2.2.1, rfl⟩
theorem zd_L_law_626 : zz_D zy_law_L 626 (.aload_n 0) 1 627 := ⟨zg_L_law_614.2.2.2.2.2.2.2.2.1, rfl⟩
theorem zd_L_law_627 : zz_D zy_law_L 627 (.iload 4) 2 629 := ⟨zg_L_law_614.2.2.2.2.2.2.2.2.2, rfl⟩
theorem zg_L_law_629 : (decode zy_law_L.2.1 629 = .ok ((.iconst 2), 1)) ∧ (decode zy_law_L.2.1 630 = .ok ((.iadd), 1)) ∧ (decode zy_law_L.2.1 631 = .ok ((.iaload), 1)) ∧ (decode zy_law_L.2.1 632 = .ok ((.invokevirtual 150), 3)) ∧ (decode zy_law_L.2.1 635 = .ok ((.istore 6), 2)) ∧ (decode zy_law_L.2.1 637 = .ok (Instr.goto 543, 3)) ∧ (decode zy_law_L.2.1 640 = .ok ((.aload_n 1), 1)) ∧ (decode zy_law_L.2.1 641 = .ok ((.invokevirtual 151), 3)) ∧ (decode zy_law_L.2.1 644 = .ok ((.pop), 1)) ∧ (decode zy_law_L.2.1 645 = .ok ((.aload_n 2), 1)) := by decide +kernel
theorem zd_L_law_629 : zz_D zy_law_L 629 (.iconst 2) 1 630 := ⟨zg_L_law_629.1, rfl⟩
theorem zd_L_law_630 : zz_D zy_law_L 630 (.iadd) 1 631 := ⟨zg_L_law_629.2.1, rfl⟩
theorem zd_L_law_631 : zz_D zy_law_L 631 (.iaload) 1 632 := ⟨zg_L_law_629.2.2.1, rfl⟩
theorem zd_L_law_632 : zz_D zy_law_L 632 (.invokevirtual 150) 3 635 := ⟨zg_L_law_629.2.2.2.1, rfl⟩
theorem zd_L_law_635 : zz_D zy_law_L 635 (.istore 6) 2 637 := ⟨zg_L_law_629.2.2.2.2.1, rfl⟩
theorem zd_L_law_637 : zz_B zy_law_L 637 Instr.goto 1180 640 := ⟨543, zg_L_law_629.2.2.2.2.2.1, rfl, rfl⟩
theorem zd_L_law_640 : zz_D zy_law_L 640 (.aload_n 1) 1 641 := ⟨zg_L_law_629.2.2.2.2.2.2.1, rfl⟩
theorem zd_L_law_641 : zz_D zy_law_L 641 (.invokevirtual 151) 3 644 := ⟨zg_L_law_629.2.2.2.2.2.2.2.1, rfl⟩
theorem zd_L_law_644 : zz_D zy_law_L 644 (.pop) 1 645 := ⟨zg_L_law_629.2.2.2.2.2.2.2.2.1, rfl⟩
theorem zd_L_law_645 : zz_D zy_law_L 645 (.aload_n 2) 1 646 := ⟨zg_L_law_629.2.2.2.2.2.2.2.2.2, rfl⟩
theorem zg_L_law_646 : (decode zy_law_L.2.1 646 = .ok ((.invokevirtual 154), 3)) ∧ (decode zy_law_L.2.1 649 = .ok ((.pop), 1)) ∧ (decode zy_law_L.2.1 650 = .ok (Instr.goto 530, 3)) ∧ (decode zy_law_L.2.1 653 = .ok ((.aload_n 1), 1)) ∧ (decode zy_law_L.2.1 654 = .ok ((.aload_n 0), 1)) ∧ (decode zy_law_L.2.1 655 = .ok ((.iload 4), 2)) ∧ (decode zy_law_L.2.1 657 = .ok ((.iconst 1), 1)) ∧ (decode zy_law_L.2.1 658 = .ok ((.iadd), 1)) ∧ (decode zy_law_L.2.1 659 = .ok ((.iaload), 1)) ∧ (decode zy_law_L.2.1 660 = .ok ((.aload_n 3), 1)) := by decide +kernel
theorem zd_L_law_646 : zz_D zy_law_L 646 (.invokevirtual 154) 3 649 := ⟨zg_L_law_646.1, rfl⟩
theorem zd_L_law_649 : zz_D zy_law_L 649 (.pop) 1 650 := ⟨zg_L_law_646.2.1, rfl⟩
theorem zd_L_law_650 : zz_B zy_law_L 650 Instr.goto 1180 653 := ⟨530, zg_L_law_646.2.2.1, rfl, rfl⟩
theorem zd_L_law_653 : zz_D zy_law_L 653 (.aload_n 1) 1 654 := ⟨zg_L_law_646.2.2.2.1, rfl⟩
theorem zd_L_law_654 : zz_D zy_law_L 654 (.aload_n 0) 1 655 := ⟨zg_L_law_646.2.2.2.2.1, rfl⟩
theorem zd_L_law_655 : zz_D zy_law_L 655 (.iload 4) 2 657 := ⟨zg_L_law_646.2.2.2.2.2.1, rfl⟩
theorem zd_L_law_657 : zz_D zy_law_L 657 (.iconst 1) 1 658 := ⟨zg_L_law_646.2.2.2.2.2.2.1, rfl⟩
theorem zd_L_law_658 : zz_D zy_law_L 658 (.iadd) 1 659 := ⟨zg_L_law_646.2.2.2.2.2.2.2.1, rfl⟩
theorem zd_L_law_659 : zz_D zy_law_L 659 (.iaload) 1 660 := ⟨zg_L_law_646.2.2.2.2.2.2.2.2.1, rfl⟩
theorem zd_L_law_660 : zz_D zy_law_L 660 (.aload_n 3) 1 661 := ⟨zg_L_law_646.2.2.2.2.2.2.2.2.2, rfl⟩
theorem zg_L_law_661 : (decode zy_law_L.2.1 661 = .ok ((.invokestatic 155), 3)) ∧ (decode zy_law_L.2.1 664 = .ok ((.istore 5), 2)) ∧ (decode zy_law_L.2.1 666 = .ok ((.aload_n 2), 1)) ∧ (decode zy_law_L.2.1 667 = .ok ((.aload_n 0), 1)) ∧ (decode zy_law_L.2.1 668 = .ok ((.iload 4), 2)) ∧ (decode zy_law_L.2.1 670 = .ok ((.iconst 1), 1)) ∧ (decode zy_law_L.2.1 671 = .ok ((.iadd), 1)) ∧ (decode zy_law_L.2.1 672 = .ok ((.iaload), 1)) ∧ (decode zy_law_L.2.1 673 = .ok ((.invokevirtual 157), 3)) ∧ (decode zy_law_L.2.1 676 = .ok ((.istore 6), 2)) := by decide +kernel
theorem zd_L_law_661 : zz_D zy_law_L 661 (.invokestatic 155) 3 664 := ⟨zg_L_law_661.1, rfl⟩
theorem zd_L_law_664 : zz_D zy_law_L 664 (.istore 5) 2 666 := ⟨zg_L_law_661.2.1, rfl⟩
theorem zd_L_law_666 : zz_D zy_law_L 666 (.aload_n 2) 1 667 := ⟨zg_L_law_661.2.2.1, rfl⟩
theorem zd_L_law_667 : zz_D zy_law_L 667 (.aload_n 0) 1 668 := ⟨zg_L_law_661.2.2.2.1, rfl⟩
theorem zd_L_law_668 : zz_D zy_law_L 668 (.iload 4) 2 670 := ⟨zg_L_law_661.2.2.2.2.1, rfl⟩
theorem zd_L_law_670 : zz_D zy_law_L 670 (.iconst 1) 1 671 := ⟨zg_L_law_661.2.2.2.2.2.1, rfl⟩
theorem zd_L_law_671 : zz_D zy_law_L 671 (.iadd) 1 672 := ⟨zg_L_law_661.2.2.2.2.2.2.1, rfl⟩
theorem zd_L_law_672 : zz_D zy_law_L 672 (.iaload) 1 673 := ⟨zg_L_law_661.2.2.2.2.2.2.2.1, rfl⟩
theorem zd_L_law_673 : zz_D zy_law_L 673 (.invokevirtual 157) 3 676 := ⟨zg_L_law_661.2.2.2.2.2.2.2.2.1, rfl⟩
theorem zd_L_law_676 : zz_D zy_law_L 676 (.istore 6) 2 678 := ⟨zg_L_law_661.2.2.2.2.2.2.2.2.2, rfl⟩
theorem zg_L_law_678 : (decode zy_law_L.2.1 678 = .ok (Instr.goto 502, 3)) ∧ (decode zy_law_L.2.1 681 = .ok ((.aload_n 1), 1)) ∧ (decode zy_law_L.2.1 682 = .ok ((.aload_n 0), 1)) ∧ (decode zy_law_L.2.1 683 = .ok ((.iload 4), 2)) ∧ (decode zy_law_L.2.1 685 = .ok ((.iconst 1), 1)) ∧ (decode zy_law_L.2.1 686 = .ok ((.iadd), 1)) ∧ (decode zy_law_L.2.1 687 = .ok ((.iaload), 1)) ∧ (decode zy_law_L.2.1 688 = .ok ((.aload_n 0), 1)) ∧ (decode zy_law_L.2.1 689 = .ok ((.iload 4), 2)) ∧ (decode zy_law_L.2.1 691 = .ok ((.iconst 2), 1)) := by decide +kernel
theorem zd_L_law_678 : zz_B zy_law_L 678 Instr.goto 1180 681 := ⟨502, zg_L_law_678.1, rfl, rfl⟩
theorem zd_L_law_681 : zz_D zy_law_L 681 (.aload_n 1) 1 682 := ⟨zg_L_law_678.2.1, rfl⟩
theorem zd_L_law_682 : zz_D zy_law_L 682 (.aload_n 0) 1 683 := ⟨zg_L_law_678.2.2.1, rfl⟩
theorem zd_L_law_683 : zz_D zy_law_L 683 (.iload 4) 2 685 := ⟨zg_L_law_678.2.2.2.1, rfl⟩
theorem zd_L_law_685 : zz_D zy_law_L 685 (.iconst 1) 1 686 := ⟨zg_L_law_678.2.2.2.2.1, rfl⟩
theorem zd_L_law_686 : zz_D zy_law_L 686 (.iadd) 1 687 := ⟨zg_L_law_678.2.2.2.2.2.1, rfl⟩
theorem zd_L_law_687 : zz_D zy_law_L 687 (.iaload) 1 688 := ⟨zg_L_law_678.2.2.2.2.2.2.1, rfl⟩
theorem zd_L_law_688 : zz_D zy_law_L 688 (.aload_n 0) 1 689 := ⟨zg_L_law_678.2.2.2.2.2.2.2.1, rfl⟩
theorem zd_L_law_689 : zz_D zy_law_L 689 (.iload 4) 2 691 := ⟨zg_L_law_678.2.2.2.2.2.2.2.2.1, rfl⟩
theorem zd_L_law_691 : zz_D zy_law_L 691 (.iconst 2) 1 692 := ⟨zg_L_law_678.2.2.2.2.2.2.2.2.2, rfl⟩
theorem zg_L_law_692 : (decode zy_law_L.2.1 692 = .ok ((.iadd), 1)) ∧ (decode zy_law_L.2.1 693 = .ok ((.iaload), 1)) ∧ (decode zy_law_L.2.1 694 = .ok ((.aload_n 3), 1)) ∧ (decode zy_law_L.2.1 695 = .ok ((.invokestatic 158), 3)) ∧ (decode zy_law_L.2.1 698 = .ok ((.istore 5), 2)) ∧ (decode zy_law_L.2.1 700 = .ok ((.aload_n 2), 1)) ∧ (decode zy_law_L.2.1 701 = .ok ((.aload_n 0), 1)) ∧ (decode zy_law_L.2.1 702 = .ok ((.iload 4), 2)) ∧ (decode zy_law_L.2.1 704 = .ok ((.iconst 1), 1)) ∧ (decode zy_law_L.2.1 705 = .ok ((.iadd), 1)) := by decide +kernel
theorem zd_L_law_692 : zz_D zy_law_L 692 (.iadd) 1 693 := ⟨zg_L_law_692.1, rfl⟩
theorem zd_L_law_693 : zz_D zy_law_L 693 (.iaload) 1 694 := ⟨zg_L_law_692.2.1, rfl⟩
theorem zd_L_law_694 : zz_D zy_law_L 694 (.aload_n 3) 1 695 := ⟨zg_L_law_692.2.2.1, rfl⟩
theorem zd_L_law_695 : zz_D zy_law_L 695 (.invokestatic 158) 3 698 := ⟨zg_L_law_692.2.2.2.1, rfl⟩
theorem zd_L_law_698 : zz_D zy_law_L 698 (.istore 5) 2 700 := ⟨zg_L_law_692.2.2.2.2.1, rfl⟩
theorem zd_L_law_700 : zz_D zy_law_L 700 (.aload_n 2) 1 701 := ⟨zg_L_law_692.2.2.2.2.2.1, rfl⟩
theorem zd_L_law_701 : zz_D zy_law_L 701 (.aload_n 0) 1 702 := ⟨zg_L_law_692.2.2.2.2.2.2.1, rfl⟩
theorem zd_L_law_702 : zz_D zy_law_L 702 (.iload 4) 2 704 := ⟨zg_L_law_692.2.2.2.2.2.2.2.1, rfl⟩
theorem zd_L_law_704 : zz_D zy_law_L 704 (.iconst 1) 1 705 := ⟨zg_L_law_692.2.2.2.2.2.2.2.2.1, rfl⟩
theorem zd_L_law_705 : zz_D zy_law_L 705 (.iadd) 1 706 := ⟨zg_L_law_692.2.2.2.2.2.2.2.2.2, rfl⟩
theorem zg_L_law_706 : (decode zy_law_L.2.1 706 = .ok ((.iaload), 1)) ∧ (decode zy_law_L.2.1 707 = .ok ((.aload_n 0), 1)) ∧ (decode zy_law_L.2.1 708 = .ok ((.iload 4), 2)) ∧ (decode zy_law_L.2.1 710 = .ok ((.iconst 2), 1)) ∧ (decode zy_law_L.2.1 711 = .ok ((.iadd), 1)) ∧ (decode zy_law_L.2.1 712 = .ok ((.iaload), 1)) ∧ (decode zy_law_L.2.1 713 = .ok ((.invokevirtual 160), 3)) ∧ (decode zy_law_L.2.1 716 = .ok ((.istore 6), 2)) ∧ (decode zy_law_L.2.1 718 = .ok (Instr.goto 462, 3)) ∧ (decode zy_law_L.2.1 721 = .ok ((.aload_n 1), 1)) := by decide +kernel
theorem zd_L_law_706 : zz_D zy_law_L 706 (.iaload) 1 707 := ⟨zg_L_law_706.1, rfl⟩
theorem zd_L_law_707 : zz_D zy_law_L 707 (.aload_n 0) 1 708 := ⟨zg_L_law_706.2.1, rfl⟩
theorem zd_L_law_708 : zz_D zy_law_L 708 (.iload 4) 2 710 := ⟨zg_L_law_706.2.2.1, rfl⟩
theorem zd_L_law_710 : zz_D zy_law_L 710 (.iconst 2) 1 711 := ⟨zg_L_law_706.2.2.2.1, rfl⟩
theorem zd_L_law_711 : zz_D zy_law_L 711 (.iadd) 1 712 := ⟨zg_L_law_706.2.2.2.2.1, rfl⟩
theorem zd_L_law_712 : zz_D zy_law_L 712 (.iaload) 1 713 := ⟨zg_L_law_706.2.2.2.2.2.1, rfl⟩
theorem zd_L_law_713 : zz_D zy_law_L 713 (.invokevirtual 160) 3 716 := ⟨zg_L_law_706.2.2.2.2.2.2.1, rfl⟩
theorem zd_L_law_716 : zz_D zy_law_L 716 (.istore 6) 2 718 := ⟨zg_L_law_706.2.2.2.2.2.2.2.1, rfl⟩
theorem zd_L_law_718 : zz_B zy_law_L 718 Instr.goto 1180 721 := ⟨462, zg_L_law_706.2.2.2.2.2.2.2.2.1, rfl, rfl⟩
theorem zd_L_law_721 : zz_D zy_law_L 721 (.aload_n 1) 1 722 := ⟨zg_L_law_706.2.2.2.2.2.2.2.2.2, rfl⟩
theorem zg_L_law_722 : (decode zy_law_L.2.1 722 = .ok ((.aload_n 0), 1)) ∧ (decode zy_law_L.2.1 723 = .ok ((.iload 4), 2)) ∧ (decode zy_law_L.2.1 725 = .ok ((.iconst 1), 1)) ∧ (decode zy_law_L.2.1 726 = .ok ((.iadd), 1)) ∧ (decode zy_law_L.2.1 727 = .ok ((.iaload), 1)) ∧ (decode zy_law_L.2.1 728 = .ok ((.aload_n 0), 1)) ∧ (decode zy_law_L.2.1 729 = .ok ((.iload 4), 2)) ∧ (decode zy_law_L.2.1 731 = .ok ((.iconst 2), 1)) ∧ (decode zy_law_L.2.1 732 = .ok ((.iadd), 1)) ∧ (decode zy_law_L.2.1 733 = .ok ((.iaload), 1)) := by decide +kernel
theorem zd_L_law_722 : zz_D zy_law_L 722 (.aload_n 0) 1 723 := ⟨zg_L_law_722.1, rfl⟩
theorem zd_L_law_723 : zz_D zy_law_L 723 (.iload 4) 2 725 := ⟨zg_L_law_722.2.1, rfl⟩
theorem zd_L_law_725 : zz_D zy_law_L 725 (.iconst 1) 1 726 := ⟨zg_L_law_722.2.2.1, rfl⟩
theorem zd_L_law_726 : zz_D zy_law_L 726 (.iadd) 1 727 := ⟨zg_L_law_722.2.2.2.1, rfl⟩
theorem zd_L_law_727 : zz_D zy_law_L 727 (.iaload) 1 728 := ⟨zg_L_law_722.2.2.2.2.1, rfl⟩
theorem zd_L_law_728 : zz_D zy_law_L 728 (.aload_n 0) 1 729 := ⟨zg_L_law_722.2.2.2.2.2.1, rfl⟩
theorem zd_L_law_729 : zz_D zy_law_L 729 (.iload 4) 2 731 := ⟨zg_L_law_722.2.2.2.2.2.2.1, rfl⟩
theorem zd_L_law_731 : zz_D zy_law_L 731 (.iconst 2) 1 732 := ⟨zg_L_law_722.2.2.2.2.2.2.2.1, rfl⟩
theorem zd_L_law_732 : zz_D zy_law_L 732 (.iadd) 1 733 := ⟨zg_L_law_722.2.2.2.2.2.2.2.2.1, rfl⟩
theorem zd_L_law_733 : zz_D zy_law_L 733 (.iaload) 1 734 := ⟨zg_L_law_722.2.2.2.2.2.2.2.2.2, rfl⟩
theorem zg_L_law_734 : (decode zy_law_L.2.1 734 = .ok ((.aload_n 0), 1)) ∧ (decode zy_law_L.2.1 735 = .ok ((.iload 4), 2)) ∧ (decode zy_law_L.2.1 737 = .ok ((.iconst 3), 1)) ∧ (decode zy_law_L.2.1 738 = .ok ((.iadd), 1)) ∧ (decode zy_law_L.2.1 739 = .ok ((.iaload), 1)) ∧ (decode zy_law_L.2.1 740 = .ok ((.invokestatic 161), 3)) ∧ (decode zy_law_L.2.1 743 = .ok ((.istore 5), 2)) ∧ (decode zy_law_L.2.1 745 = .ok ((.aload_n 2), 1)) ∧ (decode zy_law_L.2.1 746 = .ok ((.aload_n 0), 1)) ∧ (decode zy_law_L.2.1 747 = .ok ((.iload 4), 2)) := by decide +kernel
theorem zd_L_law_734 : zz_D zy_law_L 734 (.aload_n 0) 1 735 := ⟨zg_L_law_734.1, rfl⟩
theorem zd_L_law_735 : zz_D zy_law_L 735 (.iload 4) 2 737 := ⟨zg_L_law_734.2.1, rfl⟩
theorem zd_L_law_737 : zz_D zy_law_L 737 (.iconst 3) 1 738 := ⟨zg_L_law_734.2.2.1, rfl⟩
theorem zd_L_law_738 : zz_D zy_law_L 738 (.iadd) 1 739 := ⟨zg_L_law_734.2.2.2.1, rfl⟩
theorem zd_L_law_739 : zz_D zy_law_L 739 (.iaload) 1 740 := ⟨zg_L_law_734.2.2.2.2.1, rfl⟩
theorem zd_L_law_740 : zz_D zy_law_L 740 (.invokestatic 161) 3 743 := ⟨zg_L_law_734.2.2.2.2.2.1, rfl⟩
theorem zd_L_law_743 : zz_D zy_law_L 743 (.istore 5) 2 745 := ⟨zg_L_law_734.2.2.2.2.2.2.1, rfl⟩
theorem zd_L_law_745 : zz_D zy_law_L 745 (.aload_n 2) 1 746 := ⟨zg_L_law_734.2.2.2.2.2.2.2.1, rfl⟩
theorem zd_L_law_746 : zz_D zy_law_L 746 (.aload_n 0) 1 747 := ⟨zg_L_law_734.2.2.2.2.2.2.2.2.1, rfl⟩
theorem zd_L_law_747 : zz_D zy_law_L 747 (.iload 4) 2 749 := ⟨zg_L_law_734.2.2.2.2.2.2.2.2.2, rfl⟩
theorem zg_L_law_749 : (decode zy_law_L.2.1 749 = .ok ((.iconst 1), 1)) ∧ (decode zy_law_L.2.1 750 = .ok ((.iadd), 1)) ∧ (decode zy_law_L.2.1 751 = .ok ((.iaload), 1)) ∧ (decode zy_law_L.2.1 752 = .ok ((.aload_n 0), 1)) ∧ (decode zy_law_L.2.1 753 = .ok ((.iload 4), 2)) ∧ (decode zy_law_L.2.1 755 = .ok ((.iconst 2), 1)) ∧ (decode zy_law_L.2.1 756 = .ok ((.iadd), 1)) ∧ (decode zy_law_L.2.1 757 = .ok ((.iaload), 1)) ∧ (decode zy_law_L.2.1 758 = .ok ((.aload_n 0), 1)) ∧ (decode zy_law_L.2.1 759 = .ok ((.iload 4), 2)) := by decide +kernel
theorem zd_L_law_749 : zz_D zy_law_L 749 (.iconst 1) 1 750 := ⟨zg_L_law_749.1, rfl⟩
theorem zd_L_law_750 : zz_D zy_law_L 750 (.iadd) 1 751 := ⟨zg_L_law_749.2.1, rfl⟩
theorem zd_L_law_751 : zz_D zy_law_L 751 (.iaload) 1 752 := ⟨zg_L_law_749.2.2.1, rfl⟩
theorem zd_L_law_752 : zz_D zy_law_L 752 (.aload_n 0) 1 753 := ⟨zg_L_law_749.2.2.2.1, rfl⟩
theorem zd_L_law_753 : zz_D zy_law_L 753 (.iload 4) 2 755 := ⟨zg_L_law_749.2.2.2.2.1, rfl⟩
theorem zd_L_law_755 : zz_D zy_law_L 755 (.iconst 2) 1 756 := ⟨zg_L_law_749.2.2.2.2.2.1, rfl⟩
theorem zd_L_law_756 : zz_D zy_law_L 756 (.iadd) 1 757 := ⟨zg_L_law_749.2.2.2.2.2.2.1, rfl⟩
theorem zd_L_law_757 : zz_D zy_law_L 757 (.iaload) 1 758 := ⟨zg_L_law_749.2.2.2.2.2.2.2.1, rfl⟩
theorem zd_L_law_758 : zz_D zy_law_L 758 (.aload_n 0) 1 759 := ⟨zg_L_law_749.2.2.2.2.2.2.2.2.1, rfl⟩
theorem zd_L_law_759 : zz_D zy_law_L 759 (.iload 4) 2 761 := ⟨zg_L_law_749.2.2.2.2.2.2.2.2.2, rfl⟩
theorem zg_L_law_761 : (decode zy_law_L.2.1 761 = .ok ((.iconst 3), 1)) ∧ (decode zy_law_L.2.1 762 = .ok ((.iadd), 1)) ∧ (decode zy_law_L.2.1 763 = .ok ((.iaload), 1)) ∧ (decode zy_law_L.2.1 764 = .ok ((.invokevirtual 164), 3)) ∧ (decode zy_law_L.2.1 767 = .ok (Instr.goto 413, 3)) ∧ (decode zy_law_L.2.1 770 = .ok ((.aload_n 1), 1)) ∧ (decode zy_law_L.2.1 771 = .ok ((.aload_n 0), 1)) ∧ (decode zy_law_L.2.1 772 = .ok ((.iload 4), 2)) ∧ (decode zy_law_L.2.1 774 = .ok ((.iconst 1), 1)) ∧ (decode zy_law_L.2.1 775 = .ok ((.iadd), 1)) := by decide +kernel
theorem zd_L_law_761 : zz_D zy_law_L 761 (.iconst 3) 1 762 := ⟨zg_L_law_761.1, rfl⟩
theorem zd_L_law_762 : zz_D zy_law_L 762 (.iadd) 1 763 := ⟨zg_L_law_761.2.1, rfl⟩
theorem zd_L_law_763 : zz_D zy_law_L 763 (.iaload) 1 764 := ⟨zg_L_law_761.2.2.1, rfl⟩
theorem zd_L_law_764 : zz_D zy_law_L 764 (.invokevirtual 164) 3 767 := ⟨zg_L_law_761.2.2.2.1, rfl⟩
theorem zd_L_law_767 : zz_B zy_law_L 767 Instr.goto 1180 770 := ⟨413, zg_L_law_761.2.2.2.2.1, rfl, rfl⟩
theorem zd_L_law_770 : zz_D zy_law_L 770 (.aload_n 1) 1 771 := ⟨zg_L_law_761.2.2.2.2.2.1, rfl⟩
theorem zd_L_law_771 : zz_D zy_law_L 771 (.aload_n 0) 1 772 := ⟨zg_L_law_761.2.2.2.2.2.2.1, rfl⟩
theorem zd_L_law_772 : zz_D zy_law_L 772 (.iload 4) 2 774 := ⟨zg_L_law_761.2.2.2.2.2.2.2.1, rfl⟩
theorem zd_L_law_774 : zz_D zy_law_L 774 (.iconst 1) 1 775 := ⟨zg_L_law_761.2.2.2.2.2.2.2.2.1, rfl⟩
theorem zd_L_law_775 : zz_D zy_law_L 775 (.iadd) 1 776 := ⟨zg_L_law_761.2.2.2.2.2.2.2.2.2, rfl⟩
theorem zg_L_law_776 : (decode zy_law_L.2.1 776 = .ok ((.iaload), 1)) ∧ (decode zy_law_L.2.1 777 = .ok ((.aload_n 0), 1)) ∧ (decode zy_law_L.2.1 778 = .ok ((.iload 4), 2)) ∧ (decode zy_law_L.2.1 780 = .ok ((.iconst 2), 1)) ∧ (decode zy_law_L.2.1 781 = .ok ((.iadd), 1)) ∧ (decode zy_law_L.2.1 782 = .ok ((.iaload), 1)) ∧ (decode zy_law_L.2.1 783 = .ok ((.aload_n 0), 1)) ∧ (decode zy_law_L.2.1 784 = .ok ((.iload 4), 2)) ∧ (decode zy_law_L.2.1 786 = .ok ((.iconst 3), 1)) ∧ (decode zy_law_L.2.1 787 = .ok ((.iadd), 1)) := by decide +kernel
theorem zd_L_law_776 : zz_D zy_law_L 776 (.iaload) 1 777 := ⟨zg_L_law_776.1, rfl⟩
theorem zd_L_law_777 : zz_D zy_law_L 777 (.aload_n 0) 1 778 := ⟨zg_L_law_776.2.1, rfl⟩
theorem zd_L_law_778 : zz_D zy_law_L 778 (.iload 4) 2 780 := ⟨zg_L_law_776.2.2.1, rfl⟩
theorem zd_L_law_780 : zz_D zy_law_L 780 (.iconst 2) 1 781 := ⟨zg_L_law_776.2.2.2.1, rfl⟩
theorem zd_L_law_781 : zz_D zy_law_L 781 (.iadd) 1 782 := ⟨zg_L_law_776.2.2.2.2.1, rfl⟩
theorem zd_L_law_782 : zz_D zy_law_L 782 (.iaload) 1 783 := ⟨zg_L_law_776.2.2.2.2.2.1, rfl⟩
theorem zd_L_law_783 : zz_D zy_law_L 783 (.aload_n 0) 1 784 := ⟨zg_L_law_776.2.2.2.2.2.2.1, rfl⟩
theorem zd_L_law_784 : zz_D zy_law_L 784 (.iload 4) 2 786 := ⟨zg_L_law_776.2.2.2.2.2.2.2.1, rfl⟩
theorem zd_L_law_786 : zz_D zy_law_L 786 (.iconst 3) 1 787 := ⟨zg_L_law_776.2.2.2.2.2.2.2.2.1, rfl⟩
theorem zd_L_law_787 : zz_D zy_law_L 787 (.iadd) 1 788 := ⟨zg_L_law_776.2.2.2.2.2.2.2.2.2, rfl⟩
theorem zg_L_law_788 : (decode zy_law_L.2.1 788 = .ok ((.iaload), 1)) ∧ (decode zy_law_L.2.1 789 = .ok ((.aload_n 0), 1)) ∧ (decode zy_law_L.2.1 790 = .ok ((.iload 4), 2)) ∧ (decode zy_law_L.2.1 792 = .ok ((.iconst 4), 1)) ∧ (decode zy_law_L.2.1 793 = .ok ((.iadd), 1)) ∧ (decode zy_law_L.2.1 794 = .ok ((.iaload), 1)) ∧ (decode zy_law_L.2.1 795 = .ok ((.aload_n 0), 1)) ∧ (decode zy_law_L.2.1 796 = .ok ((.iload 4), 2)) ∧ (decode zy_law_L.2.1 798 = .ok ((.iconst 5), 1)) ∧ (decode zy_law_L.2.1 799 = .ok ((.iadd), 1)) := by decide +kernel
theorem zd_L_law_788 : zz_D zy_law_L 788 (.iaload) 1 789 := ⟨zg_L_law_788.1, rfl⟩
theorem zd_L_law_789 : zz_D zy_law_L 789 (.aload_n 0) 1 790 := ⟨zg_L_law_788.2.1, rfl⟩
theorem zd_L_law_790 : zz_D zy_law_L 790 (.iload 4) 2 792 := ⟨zg_L_law_788.2.2.1, rfl⟩
theorem zd_L_law_792 : zz_D zy_law_L 792 (.iconst 4) 1 793 := ⟨zg_L_law_788.2.2.2.1, rfl⟩
theorem zd_L_law_793 : zz_D zy_law_L 793 (.iadd) 1 794 := ⟨zg_L_law_788.2.2.2.2.1, rfl⟩
theorem zd_L_law_794 : zz_D zy_law_L 794 (.iaload) 1 795 := ⟨zg_L_law_788.2.2.2.2.2.1, rfl⟩
theorem zd_L_law_795 : zz_D zy_law_L 795 (.aload_n 0) 1 796 := ⟨zg_L_law_788.2.2.2.2.2.2.1, rfl⟩
theorem zd_L_law_796 : zz_D zy_law_L 796 (.iload 4) 2 798 := ⟨zg_L_law_788.2.2.2.2.2.2.2.1, rfl⟩
theorem zd_L_law_798 : zz_D zy_law_L 798 (.iconst 5) 1 799 := ⟨zg_L_law_788.2.2.2.2.2.2.2.2.1, rfl⟩
theorem zd_L_law_799 : zz_D zy_law_L 799 (.iadd) 1 800 := ⟨zg_L_law_788.2.2.2.2.2.2.2.2.2, rfl⟩
theorem zg_L_law_800 : (decode zy_law_L.2.1 800 = .ok ((.iaload), 1)) ∧ (decode zy_law_L.2.1 801 = .ok ((.aload_n 0), 1)) ∧ (decode zy_law_L.2.1 802 = .ok ((.iload 4), 2)) ∧ (decode zy_law_L.2.1 804 = .ok ((.bipush 6), 2)) ∧ (decode zy_law_L.2.1 806 = .ok ((.iadd), 1)) ∧ (decode zy_law_L.2.1 807 = .ok ((.iaload), 1)) ∧ (decode zy_law_L.2.1 808 = .ok ((.aload_n 3), 1)) ∧ (decode zy_law_L.2.1 809 = .ok ((.invokestatic 165), 3)) ∧ (decode zy_law_L.2.1 812 = .ok ((.istore 5), 2)) ∧ (decode zy_law_L.2.1 814 = .ok ((.aload_n 2), 1)) := by decide +kernel
theorem zd_L_law_800 : zz_D zy_law_L 800 (.iaload) 1 801 := ⟨zg_L_law_800.1, rfl⟩
theorem zd_L_law_801 : zz_D zy_law_L 801 (.aload_n 0) 1 802 := ⟨zg_L_law_800.2.1, rfl⟩
theorem zd_L_law_802 : zz_D zy_law_L 802 (.iload 4) 2 804 := ⟨zg_L_law_800.2.2.1, rfl⟩
theorem zd_L_law_804 : zz_D zy_law_L 804 (.bipush 6) 2 806 := ⟨zg_L_law_800.2.2.2.1, rfl⟩
theorem zd_L_law_806 : zz_D zy_law_L 806 (.iadd) 1 807 := ⟨zg_L_law_800.2.2.2.2.1, rfl⟩
theorem zd_L_law_807 : zz_D zy_law_L 807 (.iaload) 1 808 := ⟨zg_L_law_800.2.2.2.2.2.1, rfl⟩
theorem zd_L_law_808 : zz_D zy_law_L 808 (.aload_n 3) 1 809 := ⟨zg_L_law_800.2.2.2.2.2.2.1, rfl⟩
theorem zd_L_law_809 : zz_D zy_law_L 809 (.invokestatic 165) 3 812 := ⟨zg_L_law_800.2.2.2.2.2.2.2.1, rfl⟩
theorem zd_L_law_812 : zz_D zy_law_L 812 (.istore 5) 2 814 := ⟨zg_L_law_800.2.2.2.2.2.2.2.2.1, rfl⟩
theorem zd_L_law_814 : zz_D zy_law_L 814 (.aload_n 2) 1 815 := ⟨zg_L_law_800.2.2.2.2.2.2.2.2.2, rfl⟩
theorem zg_L_law_815 : (decode zy_law_L.2.1 815 = .ok ((.aload_n 0), 1)) ∧ (decode zy_law_L.2.1 816 = .ok ((.iload 4), 2)) ∧ (decode zy_law_L.2.1 818 = .ok ((.iconst 1), 1)) ∧ (decode zy_law_L.2.1 819 = .ok ((.iadd), 1)) ∧ (decode zy_law_L.2.1 820 = .ok ((.iaload), 1)) ∧ (decode zy_law_L.2.1 821 = .ok ((.aload_n 0), 1)) ∧ (decode zy_law_L.2.1 822 = .ok ((.iload 4), 2)) ∧ (decode zy_law_L.2.1 824 = .ok ((.iconst 2), 1)) ∧ (decode zy_law_L.2.1 825 = .ok ((.iadd), 1)) ∧ (decode zy_law_L.2.1 826 = .ok ((.iaload), 1)) := by decide +kernel
theorem zd_L_law_815 : zz_D zy_law_L 815 (.aload_n 0) 1 816 := ⟨zg_L_law_815.1, rfl⟩
theorem zd_L_law_816 : zz_D zy_law_L 816 (.iload 4) 2 818 := ⟨zg_L_law_815.2.1, rfl⟩
theorem zd_L_law_818 : zz_D zy_law_L 818 (.iconst 1) 1 819 := ⟨zg_L_law_815.2.2.1, rfl⟩
theorem zd_L_law_819 : zz_D zy_law_L 819 (.iadd) 1 820 := ⟨zg_L_law_815.2.2.2.1, rfl⟩
theorem zd_L_law_820 : zz_D zy_law_L 820 (.iaload) 1 821 := ⟨zg_L_law_815.2.2.2.2.1, rfl⟩
theorem zd_L_law_821 : zz_D zy_law_L 821 (.aload_n 0) 1 822 := ⟨zg_L_law_815.2.2.2.2.2.1, rfl⟩
theorem zd_L_law_822 : zz_D zy_law_L 822 (.iload 4) 2 824 := ⟨zg_L_law_815.2.2.2.2.2.2.1, rfl⟩
theorem zd_L_law_824 : zz_D zy_law_L 824 (.iconst 2) 1 825 := ⟨zg_L_law_815.2.2.2.2.2.2.2.1, rfl⟩
theorem zd_L_law_825 : zz_D zy_law_L 825 (.iadd) 1 826 := ⟨zg_L_law_815.2.2.2.2.2.2.2.2.1, rfl⟩
theorem zd_L_law_826 : zz_D zy_law_L 826 (.iaload) 1 827 := ⟨zg_L_law_815.2.2.2.2.2.2.2.2.2, rfl⟩
theorem zg_L_law_827 : (decode zy_law_L.2.1 827 = .ok ((.aload_n 0), 1)) ∧ (decode zy_law_L.2.1 828 = .ok ((.iload 4), 2)) ∧ (decode zy_law_L.2.1 830 = .ok ((.iconst 3), 1)) ∧ (decode zy_law_L.2.1 831 = .ok ((.iadd), 1)) ∧ (decode zy_law_L.2.1 832 = .ok ((.iaload), 1)) ∧ (decode zy_law_L.2.1 833 = .ok ((.aload_n 0), 1)) ∧ (decode zy_law_L.2.1 834 = .ok ((.iload 4), 2)) ∧ (decode zy_law_L.2.1 836 = .ok ((.iconst 4), 1)) ∧ (decode zy_law_L.2.1 837 = .ok ((.iadd), 1)) ∧ (decode zy_law_L.2.1 838 = .ok ((.iaload), 1)) := by decide +kernel
theorem zd_L_law_827 : zz_D zy_law_L 827 (.aload_n 0) 1 828 := ⟨zg_L_law_827.1, rfl⟩
theorem zd_L_law_828 : zz_D zy_law_L 828 (.iload 4) 2 830 := ⟨zg_L_law_827.2.1, rfl⟩
theorem zd_L_law_830 : zz_D zy_law_L 830 (.iconst 3) 1 831 := ⟨zg_L_law_827.2.2.1, rfl⟩
theorem zd_L_law_831 : zz_D zy_law_L 831 (.iadd) 1 832 := ⟨zg_L_law_827.2.2.2.1, rfl⟩
theorem zd_L_law_832 : zz_D zy_law_L 832 (.iaload) 1 833 := ⟨zg_L_law_827.2.2.2.2.1, rfl⟩
theorem zd_L_law_833 : zz_D zy_law_L 833 (.aload_n 0) 1 834 := ⟨zg_L_law_827.2.2.2.2.2.1, rfl⟩
theorem zd_L_law_834 : zz_D zy_law_L 834 (.iload 4) 2 836 := ⟨zg_L_law_827.2.2.2.2.2.2.1, rfl⟩
theorem zd_L_law_836 : zz_D zy_law_L 836 (.iconst 4) 1 837 := ⟨zg_L_law_827.2.2.2.2.2.2.2.1, rfl⟩
theorem zd_L_law_837 : zz_D zy_law_L 837 (.iadd) 1 838 := ⟨zg_L_law_827.2.2.2.2.2.2.2.2.1, rfl⟩
theorem zd_L_law_838 : zz_D zy_law_L 838 (.iaload) 1 839 := ⟨zg_L_law_827.2.2.2.2.2.2.2.2.2, rfl⟩
theorem zg_L_law_839 : (decode zy_law_L.2.1 839 = .ok ((.aload_n 0), 1)) ∧ (decode zy_law_L.2.1 840 = .ok ((.iload 4), 2)) ∧ (decode zy_law_L.2.1 842 = .ok ((.iconst 5), 1)) ∧ (decode zy_law_L.2.1 843 = .ok ((.iadd), 1)) ∧ (decode zy_law_L.2.1 844 = .ok ((.iaload), 1)) ∧ (decode zy_law_L.2.1 845 = .ok ((.aload_n 0), 1)) ∧ (decode zy_law_L.2.1 846 = .ok ((.iload 4), 2)) ∧ (decode zy_law_L.2.1 848 = .ok ((.bipush 6), 2)) ∧ (decode zy_law_L.2.1 850 = .ok ((.iadd), 1)) ∧ (decode zy_law_L.2.1 851 = .ok ((.iaload), 1)) := by decide +kernel
theorem zd_L_law_839 : zz_D zy_law_L 839 (.aload_n 0) 1 840 := ⟨zg_L_law_839.1, rfl⟩
theorem zd_L_law_840 : zz_D zy_law_L 840 (.iload 4) 2 842 := ⟨zg_L_law_839.2.1, rfl⟩
theorem zd_L_law_842 : zz_D zy_law_L 842 (.iconst 5) 1 843 := ⟨zg_L_law_839.2.2.1, rfl⟩
theorem zd_L_law_843 : zz_D zy_law_L 843 (.iadd) 1 844 := ⟨zg_L_law_839.2.2.2.1, rfl⟩
theorem zd_L_law_844 : zz_D zy_law_L 844 (.iaload) 1 845 := ⟨zg_L_law_839.2.2.2.2.1, rfl⟩
theorem zd_L_law_845 : zz_D zy_law_L 845 (.aload_n 0) 1 846 := ⟨zg_L_law_839.2.2.2.2.2.1, rfl⟩
theorem zd_L_law_846 : zz_D zy_law_L 846 (.iload 4) 2 848 := ⟨zg_L_law_839.2.2.2.2.2.2.1, rfl⟩
theorem zd_L_law_848 : zz_D zy_law_L 848 (.bipush 6) 2 850 := ⟨zg_L_law_839.2.2.2.2.2.2.2.1, rfl⟩
theorem zd_L_law_850 : zz_D zy_law_L 850 (.iadd) 1 851 := ⟨zg_L_law_839.2.2.2.2.2.2.2.2.1, rfl⟩
theorem zd_L_law_851 : zz_D zy_law_L 851 (.iaload) 1 852 := ⟨zg_L_law_839.2.2.2.2.2.2.2.2.2, rfl⟩
theorem zg_L_law_852 : (decode zy_law_L.2.1 852 = .ok ((.invokevirtual 168), 3)) ∧ (decode zy_law_L.2.1 855 = .ok ((.istore 6), 2)) ∧ (decode zy_law_L.2.1 857 = .ok (Instr.goto 323, 3)) ∧ (decode zy_law_L.2.1 860 = .ok ((.aload_n 1), 1)) ∧ (decode zy_law_L.2.1 861 = .ok ((.aload_n 0), 1)) ∧ (decode zy_law_L.2.1 862 = .ok ((.iload 4), 2)) ∧ (decode zy_law_L.2.1 864 = .ok ((.iconst 1), 1)) ∧ (decode zy_law_L.2.1 865 = .ok ((.iadd), 1)) ∧ (decode zy_law_L.2.1 866 = .ok ((.iaload), 1)) ∧ (decode zy_law_L.2.1 867 = .ok ((.aload_n 0), 1)) := by decide +kernel
theorem zd_L_law_852 : zz_D zy_law_L 852 (.invokevirtual 168) 3 855 := ⟨zg_L_law_852.1, rfl⟩
theorem zd_L_law_855 : zz_D zy_law_L 855 (.istore 6) 2 857 := ⟨zg_L_law_852.2.1, rfl⟩
theorem zd_L_law_857 : zz_B zy_law_L 857 Instr.goto 1180 860 := ⟨323, zg_L_law_852.2.2.1, rfl, rfl⟩
theorem zd_L_law_860 : zz_D zy_law_L 860 (.aload_n 1) 1 861 := ⟨zg_L_law_852.2.2.2.1, rfl⟩
theorem zd_L_law_861 : zz_D zy_law_L 861 (.aload_n 0) 1 862 := ⟨zg_L_law_852.2.2.2.2.1, rfl⟩
theorem zd_L_law_862 : zz_D zy_law_L 862 (.iload 4) 2 864 := ⟨zg_L_law_852.2.2.2.2.2.1, rfl⟩
theorem zd_L_law_864 : zz_D zy_law_L 864 (.iconst 1) 1 865 := ⟨zg_L_law_852.2.2.2.2.2.2.1, rfl⟩
theorem zd_L_law_865 : zz_D zy_law_L 865 (.iadd) 1 866 := ⟨zg_L_law_852.2.2.2.2.2.2.2.1, rfl⟩
theorem zd_L_law_866 : zz_D zy_law_L 866 (.iaload) 1 867 := ⟨zg_L_law_852.2.2.2.2.2.2.2.2.1, rfl⟩
theorem zd_L_law_867 : zz_D zy_law_L 867 (.aload_n 0) 1 868 := ⟨zg_L_law_852.2.2.2.2.2.2.2.2.2, rfl⟩
theorem zg_L_law_868 : (decode zy_law_L.2.1 868 = .ok ((.iload 4), 2)) ∧ (decode zy_law_L.2.1 870 = .ok ((.iconst 2), 1)) ∧ (decode zy_law_L.2.1 871 = .ok ((.iadd), 1)) ∧ (decode zy_law_L.2.1 872 = .ok ((.iaload), 1)) ∧ (decode zy_law_L.2.1 873 = .ok ((.aload_n 0), 1)) ∧ (decode zy_law_L.2.1 874 = .ok ((.iload 4), 2)) ∧ (decode zy_law_L.2.1 876 = .ok ((.iconst 3), 1)) ∧ (decode zy_law_L.2.1 877 = .ok ((.iadd), 1)) ∧ (decode zy_law_L.2.1 878 = .ok ((.iaload), 1)) ∧ (decode zy_law_L.2.1 879 = .ok ((.aload_n 3), 1)) := by decide +kernel
theorem zd_L_law_868 : zz_D zy_law_L 868 (.iload 4) 2 870 := ⟨zg_L_law_868.1, rfl⟩
theorem zd_L_law_870 : zz_D zy_law_L 870 (.iconst 2) 1 871 := ⟨zg_L_law_868.2.1, rfl⟩
theorem zd_L_law_871 : zz_D zy_law_L 871 (.iadd) 1 872 := ⟨zg_L_law_868.2.2.1, rfl⟩
theorem zd_L_law_872 : zz_D zy_law_L 872 (.iaload) 1 873 := ⟨zg_L_law_868.2.2.2.1, rfl⟩
theorem zd_L_law_873 : zz_D zy_law_L 873 (.aload_n 0) 1 874 := ⟨zg_L_law_868.2.2.2.2.1, rfl⟩
theorem zd_L_law_874 : zz_D zy_law_L 874 (.iload 4) 2 876 := ⟨zg_L_law_868.2.2.2.2.2.1, rfl⟩
theorem zd_L_law_876 : zz_D zy_law_L 876 (.iconst 3) 1 877 := ⟨zg_L_law_868.2.2.2.2.2.2.1, rfl⟩
theorem zd_L_law_877 : zz_D zy_law_L 877 (.iadd) 1 878 := ⟨zg_L_law_868.2.2.2.2.2.2.2.1, rfl⟩
theorem zd_L_law_878 : zz_D zy_law_L 878 (.iaload) 1 879 := ⟨zg_L_law_868.2.2.2.2.2.2.2.2.1, rfl⟩
theorem zd_L_law_879 : zz_D zy_law_L 879 (.aload_n 3) 1 880 := ⟨zg_L_law_868.2.2.2.2.2.2.2.2.2, rfl⟩
theorem zg_L_law_880 : (decode zy_law_L.2.1 880 = .ok ((.invokestatic 169), 3)) ∧ (decode zy_law_L.2.1 883 = .ok ((.istore 5), 2)) ∧ (decode zy_law_L.2.1 885 = .ok ((.aload_n 2), 1)) ∧ (decode zy_law_L.2.1 886 = .ok ((.aload_n 0), 1)) ∧ (decode zy_law_L.2.1 887 = .ok ((.iload 4), 2)) ∧ (decode zy_law_L.2.1 889 = .ok ((.iconst 1), 1)) ∧ (decode zy_law_L.2.1 890 = .ok ((.iadd), 1)) ∧ (decode zy_law_L.2.1 891 = .ok ((.iaload), 1)) ∧ (decode zy_law_L.2.1 892 = .ok ((.aload_n 0), 1)) ∧ (decode zy_law_L.2.1 893 = .ok ((.iload 4), 2)) := by decide +kernel
theorem zd_L_law_880 : zz_D zy_law_L 880 (.invokestatic 169) 3 883 := ⟨zg_L_law_880.1, rfl⟩
theorem zd_L_law_883 : zz_D zy_law_L 883 (.istore 5) 2 885 := ⟨zg_L_law_880.2.1, rfl⟩
theorem zd_L_law_885 : zz_D zy_law_L 885 (.aload_n 2) 1 886 := ⟨zg_L_law_880.2.2.1, rfl⟩
theorem zd_L_law_886 : zz_D zy_law_L 886 (.aload_n 0) 1 887 := ⟨zg_L_law_880.2.2.2.1, rfl⟩
theorem zd_L_law_887 : zz_D zy_law_L 887 (.iload 4) 2 889 := ⟨zg_L_law_880.2.2.2.2.1, rfl⟩
theorem zd_L_law_889 : zz_D zy_law_L 889 (.iconst 1) 1 890 := ⟨zg_L_law_880.2.2.2.2.2.1, rfl⟩
theorem zd_L_law_890 : zz_D zy_law_L 890 (.iadd) 1 891 := ⟨zg_L_law_880.2.2.2.2.2.2.1, rfl⟩
theorem zd_L_law_891 : zz_D zy_law_L 891 (.iaload) 1 892 := ⟨zg_L_law_880.2.2.2.2.2.2.2.1, rfl⟩
theorem zd_L_law_892 : zz_D zy_law_L 892 (.aload_n 0) 1 893 := ⟨zg_L_law_880.2.2.2.2.2.2.2.2.1, rfl⟩
theorem zd_L_law_893 : zz_D zy_law_L 893 (.iload 4) 2 895 := ⟨zg_L_law_880.2.2.2.2.2.2.2.2.2, rfl⟩
theorem zg_L_law_895 : (decode zy_law_L.2.1 895 = .ok ((.iconst 2), 1)) ∧ (decode zy_law_L.2.1 896 = .ok ((.iadd), 1)) ∧ (decode zy_law_L.2.1 897 = .ok ((.iaload), 1)) ∧ (decode zy_law_L.2.1 898 = .ok ((.aload_n 0), 1)) ∧ (decode zy_law_L.2.1 899 = .ok ((.iload 4), 2)) ∧ (decode zy_law_L.2.1 901 = .ok ((.iconst 3), 1)) ∧ (decode zy_law_L.2.1 902 = .ok ((.iadd), 1)) ∧ (decode zy_law_L.2.1 903 = .ok ((.iaload), 1)) ∧ (decode zy_law_L.2.1 904 = .ok ((.invokevirtual 172), 3)) ∧ (decode zy_law_L.2.1 907 = .ok ((.istore 6), 2)) := by decide +kernel
theorem zd_L_law_895 : zz_D zy_law_L 895 (.iconst 2) 1 896 := ⟨zg_L_law_895.1, rfl⟩
theorem zd_L_law_896 : zz_D zy_law_L 896 (.iadd) 1 897 := ⟨zg_L_law_895.2.1, rfl⟩
theorem zd_L_law_897 : zz_D zy_law_L 897 (.iaload) 1 898 := ⟨zg_L_law_895.2.2.1, rfl⟩
theorem zd_L_law_898 : zz_D zy_law_L 898 (.aload_n 0) 1 899 := ⟨zg_L_law_895.2.2.2.1, rfl⟩
theorem zd_L_law_899 : zz_D zy_law_L 899 (.iload 4) 2 901 := ⟨zg_L_law_895.2.2.2.2.1, rfl⟩
theorem zd_L_law_901 : zz_D zy_law_L 901 (.iconst 3) 1 902 := ⟨zg_L_law_895.2.2.2.2.2.1, rfl⟩
theorem zd_L_law_902 : zz_D zy_law_L 902 (.iadd) 1 903 := ⟨zg_L_law_895.2.2.2.2.2.2.1, rfl⟩
theorem zd_L_law_903 : zz_D zy_law_L 903 (.iaload) 1 904 := ⟨zg_L_law_895.2.2.2.2.2.2.2.1, rfl⟩
theorem zd_L_law_904 : zz_D zy_law_L 904 (.invokevirtual 172) 3 907 := ⟨zg_L_law_895.2.2.2.2.2.2.2.2.1, rfl⟩
theorem zd_L_law_907 : zz_D zy_law_L 907 (.istore 6) 2 909 := ⟨zg_L_law_895.2.2.2.2.2.2.2.2.2, rfl⟩
theorem zg_L_law_909 : (decode zy_law_L.2.1 909 = .ok (Instr.goto 271, 3)) ∧ (decode zy_law_L.2.1 912 = .ok ((.aload_n 1), 1)) ∧ (decode zy_law_L.2.1 913 = .ok ((.aload_n 0), 1)) ∧ (decode zy_law_L.2.1 914 = .ok ((.iload 4), 2)) ∧ (decode zy_law_L.2.1 916 = .ok ((.iconst 1), 1)) ∧ (decode zy_law_L.2.1 917 = .ok ((.iadd), 1)) ∧ (decode zy_law_L.2.1 918 = .ok ((.iaload), 1)) ∧ (decode zy_law_L.2.1 919 = .ok ((.aload_n 0), 1)) ∧ (decode zy_law_L.2.1 920 = .ok ((.iload 4), 2)) ∧ (decode zy_law_L.2.1 922 = .ok ((.iconst 2), 1)) := by decide +kernel
theorem zd_L_law_909 : zz_B zy_law_L 909 Instr.goto 1180 912 := ⟨271, zg_L_law_909.1, rfl, rfl⟩
theorem zd_L_law_912 : zz_D zy_law_L 912 (.aload_n 1) 1 913 := ⟨zg_L_law_909.2.1, rfl⟩
theorem zd_L_law_913 : zz_D zy_law_L 913 (.aload_n 0) 1 914 := ⟨zg_L_law_909.2.2.1, rfl⟩
theorem zd_L_law_914 : zz_D zy_law_L 914 (.iload 4) 2 916 := ⟨zg_L_law_909.2.2.2.1, rfl⟩
theorem zd_L_law_916 : zz_D zy_law_L 916 (.iconst 1) 1 917 := ⟨zg_L_law_909.2.2.2.2.1, rfl⟩
theorem zd_L_law_917 : zz_D zy_law_L 917 (.iadd) 1 918 := ⟨zg_L_law_909.2.2.2.2.2.1, rfl⟩
theorem zd_L_law_918 : zz_D zy_law_L 918 (.iaload) 1 919 := ⟨zg_L_law_909.2.2.2.2.2.2.1, rfl⟩
theorem zd_L_law_919 : zz_D zy_law_L 919 (.aload_n 0) 1 920 := ⟨zg_L_law_909.2.2.2.2.2.2.2.1, rfl⟩
theorem zd_L_law_920 : zz_D zy_law_L 920 (.iload 4) 2 922 := ⟨zg_L_law_909.2.2.2.2.2.2.2.2.1, rfl⟩
theorem zd_L_law_922 : zz_D zy_law_L 922 (.iconst 2) 1 923 := ⟨zg_L_law_909.2.2.2.2.2.2.2.2.2, rfl⟩
theorem zg_L_law_923 : (decode zy_law_L.2.1 923 = .ok ((.iadd), 1)) ∧ (decode zy_law_L.2.1 924 = .ok ((.iaload), 1)) ∧ (decode zy_law_L.2.1 925 = .ok ((.aload_n 0), 1)) ∧ (decode zy_law_L.2.1 926 = .ok ((.iload 4), 2)) ∧ (decode zy_law_L.2.1 928 = .ok ((.iconst 3), 1)) ∧ (decode zy_law_L.2.1 929 = .ok ((.iadd), 1)) ∧ (decode zy_law_L.2.1 930 = .ok ((.iaload), 1)) ∧ (decode zy_law_L.2.1 931 = .ok ((.aload_n 3), 1)) ∧ (decode zy_law_L.2.1 932 = .ok ((.invokestatic 173), 3)) ∧ (decode zy_law_L.2.1 935 = .ok ((.istore 5), 2)) := by decide +kernel
theorem zd_L_law_923 : zz_D zy_law_L 923 (.iadd) 1 924 := ⟨zg_L_law_923.1, rfl⟩
theorem zd_L_law_924 : zz_D zy_law_L 924 (.iaload) 1 925 := ⟨zg_L_law_923.2.1, rfl⟩
theorem zd_L_law_925 : zz_D zy_law_L 925 (.aload_n 0) 1 926 := ⟨zg_L_law_923.2.2.1, rfl⟩
theorem zd_L_law_926 : zz_D zy_law_L 926 (.iload 4) 2 928 := ⟨zg_L_law_923.2.2.2.1, rfl⟩
theorem zd_L_law_928 : zz_D zy_law_L 928 (.iconst 3) 1 929 := ⟨zg_L_law_923.2.2.2.2.1, rfl⟩
theorem zd_L_law_929 : zz_D zy_law_L 929 (.iadd) 1 930 := ⟨zg_L_law_923.2.2.2.2.2.1, rfl⟩
theorem zd_L_law_930 : zz_D zy_law_L 930 (.iaload) 1 931 := ⟨zg_L_law_923.2.2.2.2.2.2.1, rfl⟩
theorem zd_L_law_931 : zz_D zy_law_L 931 (.aload_n 3) 1 932 := ⟨zg_L_law_923.2.2.2.2.2.2.2.1, rfl⟩
theorem zd_L_law_932 : zz_D zy_law_L 932 (.invokestatic 173) 3 935 := ⟨zg_L_law_923.2.2.2.2.2.2.2.2.1, rfl⟩
theorem zd_L_law_935 : zz_D zy_law_L 935 (.istore 5) 2 937 := ⟨zg_L_law_923.2.2.2.2.2.2.2.2.2, rfl⟩
theorem zg_L_law_937 : (decode zy_law_L.2.1 937 = .ok ((.aload_n 2), 1)) ∧ (decode zy_law_L.2.1 938 = .ok ((.aload_n 0), 1)) ∧ (decode zy_law_L.2.1 939 = .ok ((.iload 4), 2)) ∧ (decode zy_law_L.2.1 941 = .ok ((.iconst 1), 1)) ∧ (decode zy_law_L.2.1 942 = .ok ((.iadd), 1)) ∧ (decode zy_law_L.2.1 943 = .ok ((.iaload), 1)) ∧ (decode zy_law_L.2.1 944 = .ok ((.aload_n 0), 1)) ∧ (decode zy_law_L.2.1 945 = .ok ((.iload 4), 2)) ∧ (decode zy_law_L.2.1 947 = .ok ((.iconst 2), 1)) ∧ (decode zy_law_L.2.1 948 = .ok ((.iadd), 1)) := by decide +kernel
theorem zd_L_law_937 : zz_D zy_law_L 937 (.aload_n 2) 1 938 := ⟨zg_L_law_937.1, rfl⟩
theorem zd_L_law_938 : zz_D zy_law_L 938 (.aload_n 0) 1 939 := ⟨zg_L_law_937.2.1, rfl⟩
theorem zd_L_law_939 : zz_D zy_law_L 939 (.iload 4) 2 941 := ⟨zg_L_law_937.2.2.1, rfl⟩
theorem zd_L_law_941 : zz_D zy_law_L 941 (.iconst 1) 1 942 := ⟨zg_L_law_937.2.2.2.1, rfl⟩
theorem zd_L_law_942 : zz_D zy_law_L 942 (.iadd) 1 943 := ⟨zg_L_law_937.2.2.2.2.1, rfl⟩
theorem zd_L_law_943 : zz_D zy_law_L 943 (.iaload) 1 944 := ⟨zg_L_law_937.2.2.2.2.2.1, rfl⟩
theorem zd_L_law_944 : zz_D zy_law_L 944 (.aload_n 0) 1 945 := ⟨zg_L_law_937.2.2.2.2.2.2.1, rfl⟩
theorem zd_L_law_945 : zz_D zy_law_L 945 (.iload 4) 2 947 := ⟨zg_L_law_937.2.2.2.2.2.2.2.1, rfl⟩
theorem zd_L_law_947 : zz_D zy_law_L 947 (.iconst 2) 1 948 := ⟨zg_L_law_937.2.2.2.2.2.2.2.2.1, rfl⟩
theorem zd_L_law_948 : zz_D zy_law_L 948 (.iadd) 1 949 := ⟨zg_L_law_937.2.2.2.2.2.2.2.2.2, rfl⟩
theorem zg_L_law_949 : (decode zy_law_L.2.1 949 = .ok ((.iaload), 1)) ∧ (decode zy_law_L.2.1 950 = .ok ((.aload_n 0), 1)) ∧ (decode zy_law_L.2.1 951 = .ok ((.iload 4), 2)) ∧ (decode zy_law_L.2.1 953 = .ok ((.iconst 3), 1)) ∧ (decode zy_law_L.2.1 954 = .ok ((.iadd), 1)) ∧ (decode zy_law_L.2.1 955 = .ok ((.iaload), 1)) ∧ (decode zy_law_L.2.1 956 = .ok ((.invokevirtual 175), 3)) ∧ (decode zy_law_L.2.1 959 = .ok ((.istore 6), 2)) ∧ (decode zy_law_L.2.1 961 = .ok (Instr.goto 219, 3)) ∧ (decode zy_law_L.2.1 964 = .ok ((.aload_n 1), 1)) := by decide +kernel
theorem zd_L_law_949 : zz_D zy_law_L 949 (.iaload) 1 950 := ⟨zg_L_law_949.1, rfl⟩
theorem zd_L_law_950 : zz_D zy_law_L 950 (.aload_n 0) 1 951 := ⟨zg_L_law_949.2.1, rfl⟩
theorem zd_L_law_951 : zz_D zy_law_L 951 (.iload 4) 2 953 := ⟨zg_L_law_949.2.2.1, rfl⟩
theorem zd_L_law_953 : zz_D zy_law_L 953 (.iconst 3) 1 954 := ⟨zg_L_law_949.2.2.2.1, rfl⟩
theorem zd_L_law_954 : zz_D zy_law_L 954 (.iadd) 1 955 := ⟨zg_L_law_949.2.2.2.2.1, rfl⟩
theorem zd_L_law_955 : zz_D zy_law_L 955 (.iaload) 1 956 := ⟨zg_L_law_949.2.2.2.2.2.1, rfl⟩
theorem zd_L_law_956 : zz_D zy_law_L 956 (.invokevirtual 175) 3 959 := ⟨zg_L_law_949.2.2.2.2.2.2.1, rfl⟩
theorem zd_L_law_959 : zz_D zy_law_L 959 (.istore 6) 2 961 := ⟨zg_L_law_949.2.2.2.2.2.2.2.1, rfl⟩
theorem zd_L_law_961 : zz_B zy_law_L 961 Instr.goto 1180 964 := ⟨219, zg_L_law_949.2.2.2.2.2.2.2.2.1, rfl, rfl⟩
theorem zd_L_law_964 : zz_D zy_law_L 964 (.aload_n 1) 1 965 := ⟨zg_L_law_949.2.2.2.2.2.2.2.2.2, rfl⟩
theorem zg_L_law_965 : (decode zy_law_L.2.1 965 = .ok ((.aload_n 0), 1)) ∧ (decode zy_law_L.2.1 966 = .ok ((.iload 4), 2)) ∧ (decode zy_law_L.2.1 968 = .ok ((.iconst 1), 1)) ∧ (decode zy_law_L.2.1 969 = .ok ((.iadd), 1)) ∧ (decode zy_law_L.2.1 970 = .ok ((.iaload), 1)) ∧ (decode zy_law_L.2.1 971 = .ok ((.aload_n 0), 1)) ∧ (decode zy_law_L.2.1 972 = .ok ((.iload 4), 2)) ∧ (decode zy_law_L.2.1 974 = .ok ((.iconst 2), 1)) ∧ (decode zy_law_L.2.1 975 = .ok ((.iadd), 1)) ∧ (decode zy_law_L.2.1 976 = .ok ((.iaload), 1)) := by decide +kernel
theorem zd_L_law_965 : zz_D zy_law_L 965 (.aload_n 0) 1 966 := ⟨zg_L_law_965.1, rfl⟩
theorem zd_L_law_966 : zz_D zy_law_L 966 (.iload 4) 2 968 := ⟨zg_L_law_965.2.1, rfl⟩
theorem zd_L_law_968 : zz_D zy_law_L 968 (.iconst 1) 1 969 := ⟨zg_L_law_965.2.2.1, rfl⟩
theorem zd_L_law_969 : zz_D zy_law_L 969 (.iadd) 1 970 := ⟨zg_L_law_965.2.2.2.1, rfl⟩
theorem zd_L_law_970 : zz_D zy_law_L 970 (.iaload) 1 971 := ⟨zg_L_law_965.2.2.2.2.1, rfl⟩
theorem zd_L_law_971 : zz_D zy_law_L 971 (.aload_n 0) 1 972 := ⟨zg_L_law_965.2.2.2.2.2.1, rfl⟩
theorem zd_L_law_972 : zz_D zy_law_L 972 (.iload 4) 2 974 := ⟨zg_L_law_965.2.2.2.2.2.2.1, rfl⟩
theorem zd_L_law_974 : zz_D zy_law_L 974 (.iconst 2) 1 975 := ⟨zg_L_law_965.2.2.2.2.2.2.2.1, rfl⟩
theorem zd_L_law_975 : zz_D zy_law_L 975 (.iadd) 1 976 := ⟨zg_L_law_965.2.2.2.2.2.2.2.2.1, rfl⟩
theorem zd_L_law_976 : zz_D zy_law_L 976 (.iaload) 1 977 := ⟨zg_L_law_965.2.2.2.2.2.2.2.2.2, rfl⟩
theorem zg_L_law_977 : (decode zy_law_L.2.1 977 = .ok ((.aload_n 3), 1)) ∧ (decode zy_law_L.2.1 978 = .ok ((.invokestatic 176), 3)) ∧ (decode zy_law_L.2.1 981 = .ok ((.istore 5), 2)) ∧ (decode zy_law_L.2.1 983 = .ok ((.aload_n 2), 1)) ∧ (decode zy_law_L.2.1 984 = .ok ((.aload_n 0), 1)) ∧ (decode zy_law_L.2.1 985 = .ok ((.iload 4), 2)) ∧ (decode zy_law_L.2.1 987 = .ok ((.iconst 1), 1)) ∧ (decode zy_law_L.2.1 988 = .ok ((.iadd), 1)) ∧ (decode zy_law_L.2.1 989 = .ok ((.iaload), 1)) ∧ (decode zy_law_L.2.1 990 = .ok ((.aload_n 0), 1)) := by decide +kernel
theorem zd_L_law_977 : zz_D zy_law_L 977 (.aload_n 3) 1 978 := ⟨zg_L_law_977.1, rfl⟩
theorem zd_L_law_978 : zz_D zy_law_L 978 (.invokestatic 176) 3 981 := ⟨zg_L_law_977.2.1, rfl⟩
theorem zd_L_law_981 : zz_D zy_law_L 981 (.istore 5) 2 983 := ⟨zg_L_law_977.2.2.1, rfl⟩
theorem zd_L_law_983 : zz_D zy_law_L 983 (.aload_n 2) 1 984 := ⟨zg_L_law_977.2.2.2.1, rfl⟩
theorem zd_L_law_984 : zz_D zy_law_L 984 (.aload_n 0) 1 985 := ⟨zg_L_law_977.2.2.2.2.1, rfl⟩
theorem zd_L_law_985 : zz_D zy_law_L 985 (.iload 4) 2 987 := ⟨zg_L_law_977.2.2.2.2.2.1, rfl⟩
theorem zd_L_law_987 : zz_D zy_law_L 987 (.iconst 1) 1 988 := ⟨zg_L_law_977.2.2.2.2.2.2.1, rfl⟩
theorem zd_L_law_988 : zz_D zy_law_L 988 (.iadd) 1 989 := ⟨zg_L_law_977.2.2.2.2.2.2.2.1, rfl⟩
theorem zd_L_law_989 : zz_D zy_law_L 989 (.iaload) 1 990 := ⟨zg_L_law_977.2.2.2.2.2.2.2.2.1, rfl⟩
theorem zd_L_law_990 : zz_D zy_law_L 990 (.aload_n 0) 1 991 := ⟨zg_L_law_977.2.2.2.2.2.2.2.2.2, rfl⟩
theorem zg_L_law_991 : (decode zy_law_L.2.1 991 = .ok ((.iload 4), 2)) ∧ (decode zy_law_L.2.1 993 = .ok ((.iconst 2), 1)) ∧ (decode zy_law_L.2.1 994 = .ok ((.iadd), 1)) ∧ (decode zy_law_L.2.1 995 = .ok ((.iaload), 1)) ∧ (decode zy_law_L.2.1 996 = .ok ((.invokevirtual 178), 3)) ∧ (decode zy_law_L.2.1 999 = .ok ((.istore 6), 2)) ∧ (decode zy_law_L.2.1 1001 = .ok (Instr.goto 179, 3)) ∧ (decode zy_law_L.2.1 1004 = .ok ((.aload_n 1), 1)) ∧ (decode zy_law_L.2.1 1005 = .ok ((.aload_n 3), 1)) ∧ (decode zy_law_L.2.1 1006 = .ok ((.invokestatic 179), 3)) := by decide +kernel
theorem zd_L_law_991 : zz_D zy_law_L 991 (.iload 4) 2 993 := ⟨zg_L_law_991.1, rfl⟩
theorem zd_L_law_993 : zz_D zy_law_L 993 (.iconst 2) 1 994 := ⟨zg_L_law_991.2.1, rfl⟩
theorem zd_L_law_994 : zz_D zy_law_L 994 (.iadd) 1 995 := ⟨zg_L_law_991.2.2.1, rfl⟩
theorem zd_L_law_995 : zz_D zy_law_L 995 (.iaload) 1 996 := ⟨zg_L_law_991.2.2.2.1, rfl⟩
theorem zd_L_law_996 : zz_D zy_law_L 996 (.invokevirtual 178) 3 999 := ⟨zg_L_law_991.2.2.2.2.1, rfl⟩
theorem zd_L_law_999 : zz_D zy_law_L 999 (.istore 6) 2 1001 := ⟨zg_L_law_991.2.2.2.2.2.1, rfl⟩
theorem zd_L_law_1001 : zz_B zy_law_L 1001 Instr.goto 1180 1004 := ⟨179, zg_L_law_991.2.2.2.2.2.2.1, rfl, rfl⟩
theorem zd_L_law_1004 : zz_D zy_law_L 1004 (.aload_n 1) 1 1005 := ⟨zg_L_law_991.2.2.2.2.2.2.2.1, rfl⟩
theorem zd_L_law_1005 : zz_D zy_law_L 1005 (.aload_n 3) 1 1006 := ⟨zg_L_law_991.2.2.2.2.2.2.2.2.1, rfl⟩
theorem zd_L_law_1006 : zz_D zy_law_L 1006 (.invokestatic 179) 3 1009 := ⟨zg_L_law_991.2.2.2.2.2.2.2.2.2, rfl⟩
theorem zg_L_law_1009 : (decode zy_law_L.2.1 1009 = .ok ((.istore 5), 2)) ∧ (decode zy_law_L.2.1 1011 = .ok ((.aload_n 2), 1)) ∧ (decode zy_law_L.2.1 1012 = .ok ((.invokevirtual 182), 3)) ∧ (decode zy_law_L.2.1 1015 = .ok ((.istore 6), 2)) ∧ (decode zy_law_L.2.1 1017 = .ok (Instr.goto 163, 3)) ∧ (decode zy_law_L.2.1 1020 = .ok ((.aload_n 1), 1)) ∧ (decode zy_law_L.2.1 1021 = .ok ((.invokevirtual 183), 3)) ∧ (decode zy_law_L.2.1 1024 = .ok ((.aload_n 2), 1)) ∧ (decode zy_law_L.2.1 1025 = .ok ((.invokevirtual 186), 3)) ∧ (decode zy_law_L.2.1 1028 = .ok (Instr.goto 152, 3)) := by decide +kernel
theorem zd_L_law_1009 : zz_D zy_law_L 1009 (.istore 5) 2 1011 := ⟨zg_L_law_1009.1, rfl⟩
theorem zd_L_law_1011 : zz_D zy_law_L 1011 (.aload_n 2) 1 1012 := ⟨zg_L_law_1009.2.1, rfl⟩
theorem zd_L_law_1012 : zz_D zy_law_L 1012 (.invokevirtual 182) 3 1015 := ⟨zg_L_law_1009.2.2.1, rfl⟩
theorem zd_L_law_1015 : zz_D zy_law_L 1015 (.istore 6) 2 1017 := ⟨zg_L_law_1009.2.2.2.1, rfl⟩
theorem zd_L_law_1017 : zz_B zy_law_L 1017 Instr.goto 1180 1020 := ⟨163, zg_L_law_1009.2.2.2.2.1, rfl, rfl⟩
theorem zd_L_law_1020 : zz_D zy_law_L 1020 (.aload_n 1) 1 1021 := ⟨zg_L_law_1009.2.2.2.2.2.1, rfl⟩
theorem zd_L_law_1021 : zz_D zy_law_L 1021 (.invokevirtual 183) 3 1024 := ⟨zg_L_law_1009.2.2.2.2.2.2.1, rfl⟩
theorem zd_L_law_1024 : zz_D zy_law_L 1024 (.aload_n 2) 1 1025 := ⟨zg_L_law_1009.2.2.2.2.2.2.2.1, rfl⟩
theorem zd_L_law_1025 : zz_D zy_law_L 1025 (.invokevirtual 186) 3 1028 := ⟨zg_L_law_1009.2.2.2.2.2.2.2.2.1, rfl⟩
theorem zd_L_law_1028 : zz_B zy_law_L 1028 Instr.goto 1180 1031 := ⟨152, zg_L_law_1009.2.2.2.2.2.2.2.2.2, rfl, rfl⟩
theorem zg_L_law_1031 : (decode zy_law_L.2.1 1031 = .ok ((.aload_n 1), 1)) ∧ (decode zy_law_L.2.1 1032 = .ok ((.invokevirtual 187), 3)) ∧ (decode zy_law_L.2.1 1035 = .ok ((.pop), 1)) ∧ (decode zy_law_L.2.1 1036 = .ok ((.aload_n 2), 1)) ∧ (decode zy_law_L.2.1 1037 = .ok ((.invokevirtual 190), 3)) ∧ (decode zy_law_L.2.1 1040 = .ok ((.pop), 1)) ∧ (decode zy_law_L.2.1 1041 = .ok (Instr.goto 139, 3)) ∧ (decode zy_law_L.2.1 1044 = .ok ((.aload_n 1), 1)) ∧ (decode zy_law_L.2.1 1045 = .ok ((.aload_n 0), 1)) ∧ (decode zy_law_L.2.1 1046 = .ok ((.iload 4), 2)) := by decide +kernel
theorem zd_L_law_1031 : zz_D zy_law_L 1031 (.aload_n 1) 1 1032 := ⟨zg_L_law_1031.1, rfl⟩
theorem zd_L_law_1032 : zz_D zy_law_L 1032 (.invokevirtual 187) 3 1035 := ⟨zg_L_law_1031.2.1, rfl⟩
theorem zd_L_law_1035 : zz_D zy_law_L 1035 (.pop) 1 1036 := ⟨zg_L_law_1031.2.2.1, rfl⟩
theorem zd_L_law_1036 : zz_D zy_law_L 1036 (.aload_n 2) 1 1037 := ⟨zg_L_law_1031.2.2.2.1, rfl⟩
theorem zd_L_law_1037 : zz_D zy_law_L 1037 (.invokevirtual 190) 3 1040 := ⟨zg_L_law_1031.2.2.2.2.1, rfl⟩
theorem zd_L_law_1040 : zz_D zy_law_L 1040 (.pop) 1 1041 := ⟨zg_L_law_1031.2.2.2.2.2.1, rfl⟩
theorem zd_L_law_1041 : zz_B zy_law_L 1041 Instr.goto 1180 1044 := ⟨139, zg_L_law_1031.2.2.2.2.2.2.1, rfl, rfl⟩
theorem zd_L_law_1044 : zz_D zy_law_L 1044 (.aload_n 1) 1 1045 := ⟨zg_L_law_1031.2.2.2.2.2.2.2.1, rfl⟩
theorem zd_L_law_1045 : zz_D zy_law_L 1045 (.aload_n 0) 1 1046 := ⟨zg_L_law_1031.2.2.2.2.2.2.2.2.1, rfl⟩
theorem zd_L_law_1046 : zz_D zy_law_L 1046 (.iload 4) 2 1048 := ⟨zg_L_law_1031.2.2.2.2.2.2.2.2.2, rfl⟩
theorem zg_L_law_1048 : (decode zy_law_L.2.1 1048 = .ok ((.iconst 1), 1)) ∧ (decode zy_law_L.2.1 1049 = .ok ((.iadd), 1)) ∧ (decode zy_law_L.2.1 1050 = .ok ((.iaload), 1)) ∧ (decode zy_law_L.2.1 1051 = .ok ((.aload_n 0), 1)) ∧ (decode zy_law_L.2.1 1052 = .ok ((.iload 4), 2)) ∧ (decode zy_law_L.2.1 1054 = .ok ((.iconst 2), 1)) ∧ (decode zy_law_L.2.1 1055 = .ok ((.iadd), 1)) ∧ (decode zy_law_L.2.1 1056 = .ok ((.iaload), 1)) ∧ (decode zy_law_L.2.1 1057 = .ok ((.aload_n 3), 1)) ∧ (decode zy_law_L.2.1 1058 = .ok ((.invokestatic 191), 3)) := by decide +kernel
theorem zd_L_law_1048 : zz_D zy_law_L 1048 (.iconst 1) 1 1049 := ⟨zg_L_law_1048.1, rfl⟩
theorem zd_L_law_1049 : zz_D zy_law_L 1049 (.iadd) 1 1050 := ⟨zg_L_law_1048.2.1, rfl⟩
theorem zd_L_law_1050 : zz_D zy_law_L 1050 (.iaload) 1 1051 := ⟨zg_L_law_1048.2.2.1, rfl⟩
theorem zd_L_law_1051 : zz_D zy_law_L 1051 (.aload_n 0) 1 1052 := ⟨zg_L_law_1048.2.2.2.1, rfl⟩
theorem zd_L_law_1052 : zz_D zy_law_L 1052 (.iload 4) 2 1054 := ⟨zg_L_law_1048.2.2.2.2.1, rfl⟩
theorem zd_L_law_1054 : zz_D zy_law_L 1054 (.iconst 2) 1 1055 := ⟨zg_L_law_1048.2.2.2.2.2.1, rfl⟩
theorem zd_L_law_1055 : zz_D zy_law_L 1055 (.iadd) 1 1056 := ⟨zg_L_law_1048.2.2.2.2.2.2.1, rfl⟩
theorem zd_L_law_1056 : zz_D zy_law_L 1056 (.iaload) 1 1057 := ⟨zg_L_law_1048.2.2.2.2.2.2.2.1, rfl⟩
theorem zd_L_law_1057 : zz_D zy_law_L 1057 (.aload_n 3) 1 1058 := ⟨zg_L_law_1048.2.2.2.2.2.2.2.2.1, rfl⟩
theorem zd_L_law_1058 : zz_D zy_law_L 1058 (.invokestatic 191) 3 1061 := ⟨zg_L_law_1048.2.2.2.2.2.2.2.2.2, rfl⟩
theorem zg_L_law_1061 : (decode zy_law_L.2.1 1061 = .ok ((.istore 5), 2)) ∧ (decode zy_law_L.2.1 1063 = .ok ((.aload_n 2), 1)) ∧ (decode zy_law_L.2.1 1064 = .ok ((.aload_n 0), 1)) ∧ (decode zy_law_L.2.1 1065 = .ok ((.iload 4), 2)) ∧ (decode zy_law_L.2.1 1067 = .ok ((.iconst 1), 1)) ∧ (decode zy_law_L.2.1 1068 = .ok ((.iadd), 1)) ∧ (decode zy_law_L.2.1 1069 = .ok ((.iaload), 1)) ∧ (decode zy_law_L.2.1 1070 = .ok ((.aload_n 0), 1)) ∧ (decode zy_law_L.2.1 1071 = .ok ((.iload 4), 2)) ∧ (decode zy_law_L.2.1 1073 = .ok ((.iconst 2), 1)) := by decide +kernel
theorem zd_L_law_1061 : zz_D zy_law_L 1061 (.istore 5) 2 1063 := ⟨zg_L_law_1061.1, rfl⟩
theorem zd_L_law_1063 : zz_D zy_law_L 1063 (.aload_n 2) 1 1064 := ⟨zg_L_law_1061.2.1, rfl⟩
theorem zd_L_law_1064 : zz_D zy_law_L 1064 (.aload_n 0) 1 1065 := ⟨zg_L_law_1061.2.2.1, rfl⟩
theorem zd_L_law_1065 : zz_D zy_law_L 1065 (.iload 4) 2 1067 := ⟨zg_L_law_1061.2.2.2.1, rfl⟩
theorem zd_L_law_1067 : zz_D zy_law_L 1067 (.iconst 1) 1 1068 := ⟨zg_L_law_1061.2.2.2.2.1, rfl⟩
theorem zd_L_law_1068 : zz_D zy_law_L 1068 (.iadd) 1 1069 := ⟨zg_L_law_1061.2.2.2.2.2.1, rfl⟩
theorem zd_L_law_1069 : zz_D zy_law_L 1069 (.iaload) 1 1070 := ⟨zg_L_law_1061.2.2.2.2.2.2.1, rfl⟩
theorem zd_L_law_1070 : zz_D zy_law_L 1070 (.aload_n 0) 1 1071 := ⟨zg_L_law_1061.2.2.2.2.2.2.2.1, rfl⟩
theorem zd_L_law_1071 : zz_D zy_law_L 1071 (.iload 4) 2 1073 := ⟨zg_L_law_1061.2.2.2.2.2.2.2.2.1, rfl⟩
theorem zd_L_law_1073 : zz_D zy_law_L 1073 (.iconst 2) 1 1074 := ⟨zg_L_law_1061.2.2.2.2.2.2.2.2.2, rfl⟩
theorem zg_L_law_1074 : (decode zy_law_L.2.1 1074 = .ok ((.iadd), 1)) ∧ (decode zy_law_L.2.1 1075 = .ok ((.iaload), 1)) ∧ (decode zy_law_L.2.1 1076 = .ok ((.invokevirtual 193), 3)) ∧ (decode zy_law_L.2.1 1079 = .ok ((.istore 6), 2)) ∧ (decode zy_law_L.2.1 1081 = .ok (Instr.goto 99, 3)) ∧ (decode zy_law_L.2.1 1084 = .ok ((.aload_n 1), 1)) ∧ (decode zy_law_L.2.1 1085 = .ok ((.aload_n 3), 1)) ∧ (decode zy_law_L.2.1 1086 = .ok ((.invokestatic 194), 3)) ∧ (decode zy_law_L.2.1 1089 = .ok ((.istore 5), 2)) ∧ (decode zy_law_L.2.1 1091 = .ok ((.aload_n 2), 1)) := by decide +kernel
theorem zd_L_law_1074 : zz_D zy_law_L 1074 (.iadd) 1 1075 := ⟨zg_L_law_1074.1, rfl⟩
theorem zd_L_law_1075 : zz_D zy_law_L 1075 (.iaload) 1 1076 := ⟨zg_L_law_1074.2.1, rfl⟩
theorem zd_L_law_1076 : zz_D zy_law_L 1076 (.invokevirtual 193) 3 1079 := ⟨zg_L_law_1074.2.2.1, rfl⟩
theorem zd_L_law_1079 : zz_D zy_law_L 1079 (.istore 6) 2 1081 := ⟨zg_L_law_1074.2.2.2.1, rfl⟩
theorem zd_L_law_1081 : zz_B zy_law_L 1081 Instr.goto 1180 1084 := ⟨99, zg_L_law_1074.2.2.2.2.1, rfl, rfl⟩
theorem zd_L_law_1084 : zz_D zy_law_L 1084 (.aload_n 1) 1 1085 := ⟨zg_L_law_1074.2.2.2.2.2.1, rfl⟩
theorem zd_L_law_1085 : zz_D zy_law_L 1085 (.aload_n 3) 1 1086 := ⟨zg_L_law_1074.2.2.2.2.2.2.1, rfl⟩
theorem zd_L_law_1086 : zz_D zy_law_L 1086 (.invokestatic 194) 3 1089 := ⟨zg_L_law_1074.2.2.2.2.2.2.2.1, rfl⟩
theorem zd_L_law_1089 : zz_D zy_law_L 1089 (.istore 5) 2 1091 := ⟨zg_L_law_1074.2.2.2.2.2.2.2.2.1, rfl⟩
theorem zd_L_law_1091 : zz_D zy_law_L 1091 (.aload_n 2) 1 1092 := ⟨zg_L_law_1074.2.2.2.2.2.2.2.2.2, rfl⟩
theorem zg_L_law_1092 : (decode zy_law_L.2.1 1092 = .ok ((.invokevirtual 196), 3)) ∧ (decode zy_law_L.2.1 1095 = .ok ((.istore 6), 2)) ∧ (decode zy_law_L.2.1 1097 = .ok (Instr.goto 83, 3)) ∧ (decode zy_law_L.2.1 1100 = .ok ((.aload_n 1), 1)) ∧ (decode zy_law_L.2.1 1101 = .ok ((.aload_n 0), 1)) ∧ (decode zy_law_L.2.1 1102 = .ok ((.iload 4), 2)) ∧ (decode zy_law_L.2.1 1104 = .ok ((.iconst 1), 1)) ∧ (decode zy_law_L.2.1 1105 = .ok ((.iadd), 1)) ∧ (decode zy_law_L.2.1 1106 = .ok ((.iaload), 1)) ∧ (decode zy_law_L.2.1 1107 = .ok ((.aload_n 0), 1)) := by decide +kernel
theorem zd_L_law_1092 : zz_D zy_law_L 1092 (.invokevirtual 196) 3 1095 := ⟨zg_L_law_1092.1, rfl⟩
theorem zd_L_law_1095 : zz_D zy_law_L 1095 (.istore 6) 2 1097 := ⟨zg_L_law_1092.2.1, rfl⟩
theorem zd_L_law_1097 : zz_B zy_law_L 1097 Instr.goto 1180 1100 := ⟨83, zg_L_law_1092.2.2.1, rfl, rfl⟩
theorem zd_L_law_1100 : zz_D zy_law_L 1100 (.aload_n 1) 1 1101 := ⟨zg_L_law_1092.2.2.2.1, rfl⟩
theorem zd_L_law_1101 : zz_D zy_law_L 1101 (.aload_n 0) 1 1102 := ⟨zg_L_law_1092.2.2.2.2.1, rfl⟩
theorem zd_L_law_1102 : zz_D zy_law_L 1102 (.iload 4) 2 1104 := ⟨zg_L_law_1092.2.2.2.2.2.1, rfl⟩
theorem zd_L_law_1104 : zz_D zy_law_L 1104 (.iconst 1) 1 1105 := ⟨zg_L_law_1092.2.2.2.2.2.2.1, rfl⟩
theorem zd_L_law_1105 : zz_D zy_law_L 1105 (.iadd) 1 1106 := ⟨zg_L_law_1092.2.2.2.2.2.2.2.1, rfl⟩
theorem zd_L_law_1106 : zz_D zy_law_L 1106 (.iaload) 1 1107 := ⟨zg_L_law_1092.2.2.2.2.2.2.2.2.1, rfl⟩
theorem zd_L_law_1107 : zz_D zy_law_L 1107 (.aload_n 0) 1 1108 := ⟨zg_L_law_1092.2.2.2.2.2.2.2.2.2, rfl⟩
theorem zg_L_law_1108 : (decode zy_law_L.2.1 1108 = .ok ((.iload 4), 2)) ∧ (decode zy_law_L.2.1 1110 = .ok ((.iconst 2), 1)) ∧ (decode zy_law_L.2.1 1111 = .ok ((.iadd), 1)) ∧ (decode zy_law_L.2.1 1112 = .ok ((.iaload), 1)) ∧ (decode zy_law_L.2.1 1113 = .ok ((.aload_n 3), 1)) ∧ (decode zy_law_L.2.1 1114 = .ok ((.invokestatic 197), 3)) ∧ (decode zy_law_L.2.1 1117 = .ok ((.istore 5), 2)) ∧ (decode zy_law_L.2.1 1119 = .ok ((.aload_n 2), 1)) ∧ (decode zy_law_L.2.1 1120 = .ok ((.aload_n 0), 1)) ∧ (decode zy_law_L.2.1 1121 = .ok ((.iload 4), 2)) := by decide +kernel
theorem zd_L_law_1108 : zz_D zy_law_L 1108 (.iload 4) 2 1110 := ⟨zg_L_law_1108.1, rfl⟩
theorem zd_L_law_1110 : zz_D zy_law_L 1110 (.iconst 2) 1 1111 := ⟨zg_L_law_1108.2.1, rfl⟩
theorem zd_L_law_1111 : zz_D zy_law_L 1111 (.iadd) 1 1112 := ⟨zg_L_law_1108.2.2.1, rfl⟩
theorem zd_L_law_1112 : zz_D zy_law_L 1112 (.iaload) 1 1113 := ⟨zg_L_law_1108.2.2.2.1, rfl⟩
theorem zd_L_law_1113 : zz_D zy_law_L 1113 (.aload_n 3) 1 1114 := ⟨zg_L_law_1108.2.2.2.2.1, rfl⟩
theorem zd_L_law_1114 : zz_D zy_law_L 1114 (.invokestatic 197) 3 1117 := ⟨zg_L_law_1108.2.2.2.2.2.1, rfl⟩
theorem zd_L_law_1117 : zz_D zy_law_L 1117 (.istore 5) 2 1119 := ⟨zg_L_law_1108.2.2.2.2.2.2.1, rfl⟩
theorem zd_L_law_1119 : zz_D zy_law_L 1119 (.aload_n 2) 1 1120 := ⟨zg_L_law_1108.2.2.2.2.2.2.2.1, rfl⟩
theorem zd_L_law_1120 : zz_D zy_law_L 1120 (.aload_n 0) 1 1121 := ⟨zg_L_law_1108.2.2.2.2.2.2.2.2.1, rfl⟩
theorem zd_L_law_1121 : zz_D zy_law_L 1121 (.iload 4) 2 1123 := ⟨zg_L_law_1108.2.2.2.2.2.2.2.2.2, rfl⟩
theorem zg_L_law_1123 : (decode zy_law_L.2.1 1123 = .ok ((.iconst 1), 1)) ∧ (decode zy_law_L.2.1 1124 = .ok ((.iadd), 1)) ∧ (decode zy_law_L.2.1 1125 = .ok ((.iaload), 1)) ∧ (decode zy_law_L.2.1 1126 = .ok ((.aload_n 0), 1)) ∧ (decode zy_law_L.2.1 1127 = .ok ((.iload 4), 2)) ∧ (decode zy_law_L.2.1 1129 = .ok ((.iconst 2), 1)) ∧ (decode zy_law_L.2.1 1130 = .ok ((.iadd), 1)) ∧ (decode zy_law_L.2.1 1131 = .ok ((.iaload), 1)) ∧ (decode zy_law_L.2.1 1132 = .ok ((.invokevirtual 199), 3)) ∧ (decode zy_law_L.2.1 1135 = .ok ((.istore 6), 2)) := by decide +kernel
theorem zd_L_law_1123 : zz_D zy_law_L 1123 (.iconst 1) 1 1124 := ⟨zg_L_law_1123.1, rfl⟩
theorem zd_L_law_1124 : zz_D zy_law_L 1124 (.iadd) 1 1125 := ⟨zg_L_law_1123.2.1, rfl⟩
theorem zd_L_law_1125 : zz_D zy_law_L 1125 (.iaload) 1 1126 := ⟨zg_L_law_1123.2.2.1, rfl⟩
theorem zd_L_law_1126 : zz_D zy_law_L 1126 (.aload_n 0) 1 1127 := ⟨zg_L_law_1123.2.2.2.1, rfl⟩
theorem zd_L_law_1127 : zz_D zy_law_L 1127 (.iload 4) 2 1129 := ⟨zg_L_law_1123.2.2.2.2.1, rfl⟩
theorem zd_L_law_1129 : zz_D zy_law_L 1129 (.iconst 2) 1 1130 := ⟨zg_L_law_1123.2.2.2.2.2.1, rfl⟩
theorem zd_L_law_1130 : zz_D zy_law_L 1130 (.iadd) 1 1131 := ⟨zg_L_law_1123.2.2.2.2.2.2.1, rfl⟩
theorem zd_L_law_1131 : zz_D zy_law_L 1131 (.iaload) 1 1132 := ⟨zg_L_law_1123.2.2.2.2.2.2.2.1, rfl⟩
theorem zd_L_law_1132 : zz_D zy_law_L 1132 (.invokevirtual 199) 3 1135 := ⟨zg_L_law_1123.2.2.2.2.2.2.2.2.1, rfl⟩
theorem zd_L_law_1135 : zz_D zy_law_L 1135 (.istore 6) 2 1137 := ⟨zg_L_law_1123.2.2.2.2.2.2.2.2.2, rfl⟩
theorem zg_L_law_1137 : (decode zy_law_L.2.1 1137 = .ok (Instr.goto 43, 3)) ∧ (decode zy_law_L.2.1 1140 = .ok ((.aload_n 1), 1)) ∧ (decode zy_law_L.2.1 1141 = .ok ((.aload_n 0), 1)) ∧ (decode zy_law_L.2.1 1142 = .ok ((.iload 4), 2)) ∧ (decode zy_law_L.2.1 1144 = .ok ((.iconst 1), 1)) ∧ (decode zy_law_L.2.1 1145 = .ok ((.iadd), 1)) ∧ (decode zy_law_L.2.1 1146 = .ok ((.iaload), 1)) ∧ (decode zy_law_L.2.1 1147 = .ok ((.aload_n 0), 1)) ∧ (decode zy_law_L.2.1 1148 = .ok ((.iload 4), 2)) ∧ (decode zy_law_L.2.1 1150 = .ok ((.iconst 2), 1)) := by decide +kernel
theorem zd_L_law_1137 : zz_B zy_law_L 1137 Instr.goto 1180 1140 := ⟨43, zg_L_law_1137.1, rfl, rfl⟩
theorem zd_L_law_1140 : zz_D zy_law_L 1140 (.aload_n 1) 1 1141 := ⟨zg_L_law_1137.2.1, rfl⟩
theorem zd_L_law_1141 : zz_D zy_law_L 1141 (.aload_n 0) 1 1142 := ⟨zg_L_law_1137.2.2.1, rfl⟩
theorem zd_L_law_1142 : zz_D zy_law_L 1142 (.iload 4) 2 1144 := ⟨zg_L_law_1137.2.2.2.1, rfl⟩
theorem zd_L_law_1144 : zz_D zy_law_L 1144 (.iconst 1) 1 1145 := ⟨zg_L_law_1137.2.2.2.2.1, rfl⟩
theorem zd_L_law_1145 : zz_D zy_law_L 1145 (.iadd) 1 1146 := ⟨zg_L_law_1137.2.2.2.2.2.1, rfl⟩
theorem zd_L_law_1146 : zz_D zy_law_L 1146 (.iaload) 1 1147 := ⟨zg_L_law_1137.2.2.2.2.2.2.1, rfl⟩
theorem zd_L_law_1147 : zz_D zy_law_L 1147 (.aload_n 0) 1 1148 := ⟨zg_L_law_1137.2.2.2.2.2.2.2.1, rfl⟩
theorem zd_L_law_1148 : zz_D zy_law_L 1148 (.iload 4) 2 1150 := ⟨zg_L_law_1137.2.2.2.2.2.2.2.2.1, rfl⟩
theorem zd_L_law_1150 : zz_D zy_law_L 1150 (.iconst 2) 1 1151 := ⟨zg_L_law_1137.2.2.2.2.2.2.2.2.2, rfl⟩
theorem zg_L_law_1151 : (decode zy_law_L.2.1 1151 = .ok ((.iadd), 1)) ∧ (decode zy_law_L.2.1 1152 = .ok ((.iaload), 1)) ∧ (decode zy_law_L.2.1 1153 = .ok ((.aload_n 3), 1)) ∧ (decode zy_law_L.2.1 1154 = .ok ((.invokestatic 200), 3)) ∧ (decode zy_law_L.2.1 1157 = .ok ((.istore 5), 2)) ∧ (decode zy_law_L.2.1 1159 = .ok ((.aload_n 2), 1)) ∧ (decode zy_law_L.2.1 1160 = .ok ((.aload_n 0), 1)) ∧ (decode zy_law_L.2.1 1161 = .ok ((.iload 4), 2)) ∧ (decode zy_law_L.2.1 1163 = .ok ((.iconst 1), 1)) ∧ (decode zy_law_L.2.1 1164 = .ok ((.iadd), 1)) := by decide +kernel
theorem zd_L_law_1151 : zz_D zy_law_L 1151 (.iadd) 1 1152 := ⟨zg_L_law_1151.1, rfl⟩
theorem zd_L_law_1152 : zz_D zy_law_L 1152 (.iaload) 1 1153 := ⟨zg_L_law_1151.2.1, rfl⟩
theorem zd_L_law_1153 : zz_D zy_law_L 1153 (.aload_n 3) 1 1154 := ⟨zg_L_law_1151.2.2.1, rfl⟩
theorem zd_L_law_1154 : zz_D zy_law_L 1154 (.invokestatic 200) 3 1157 := ⟨zg_L_law_1151.2.2.2.1, rfl⟩
theorem zd_L_law_1157 : zz_D zy_law_L 1157 (.istore 5) 2 1159 := ⟨zg_L_law_1151.2.2.2.2.1, rfl⟩
theorem zd_L_law_1159 : zz_D zy_law_L 1159 (.aload_n 2) 1 1160 := ⟨zg_L_law_1151.2.2.2.2.2.1, rfl⟩
theorem zd_L_law_1160 : zz_D zy_law_L 1160 (.aload_n 0) 1 1161 := ⟨zg_L_law_1151.2.2.2.2.2.2.1, rfl⟩
theorem zd_L_law_1161 : zz_D zy_law_L 1161 (.iload 4) 2 1163 := ⟨zg_L_law_1151.2.2.2.2.2.2.2.1, rfl⟩
theorem zd_L_law_1163 : zz_D zy_law_L 1163 (.iconst 1) 1 1164 := ⟨zg_L_law_1151.2.2.2.2.2.2.2.2.1, rfl⟩
theorem zd_L_law_1164 : zz_D zy_law_L 1164 (.iadd) 1 1165 := ⟨zg_L_law_1151.2.2.2.2.2.2.2.2.2, rfl⟩
theorem zg_L_law_1165 : (decode zy_law_L.2.1 1165 = .ok ((.iaload), 1)) ∧ (decode zy_law_L.2.1 1166 = .ok ((.aload_n 0), 1)) ∧ (decode zy_law_L.2.1 1167 = .ok ((.iload 4), 2)) ∧ (decode zy_law_L.2.1 1169 = .ok ((.iconst 2), 1)) ∧ (decode zy_law_L.2.1 1170 = .ok ((.iadd), 1)) ∧ (decode zy_law_L.2.1 1171 = .ok ((.iaload), 1)) ∧ (decode zy_law_L.2.1 1172 = .ok ((.invokevirtual 202), 3)) ∧ (decode zy_law_L.2.1 1175 = .ok ((.istore 6), 2)) ∧ (decode zy_law_L.2.1 1177 = .ok (Instr.goto 3, 3)) := by decide +kernel
theorem zd_L_law_1165 : zz_D zy_law_L 1165 (.iaload) 1 1166 := ⟨zg_L_law_1165.1, rfl⟩
theorem zd_L_law_1166 : zz_D zy_law_L 1166 (.aload_n 0) 1 1167 := ⟨zg_L_law_1165.2.1, rfl⟩
theorem zd_L_law_1167 : zz_D zy_law_L 1167 (.iload 4) 2 1169 := ⟨zg_L_law_1165.2.2.1, rfl⟩
theorem zd_L_law_1169 : zz_D zy_law_L 1169 (.iconst 2) 1 1170 := ⟨zg_L_law_1165.2.2.2.1, rfl⟩
theorem zd_L_law_1170 : zz_D zy_law_L 1170 (.iadd) 1 1171 := ⟨zg_L_law_1165.2.2.2.2.1, rfl⟩
theorem zd_L_law_1171 : zz_D zy_law_L 1171 (.iaload) 1 1172 := ⟨zg_L_law_1165.2.2.2.2.2.1, rfl⟩
theorem zd_L_law_1172 : zz_D zy_law_L 1172 (.invokevirtual 202) 3 1175 := ⟨zg_L_law_1165.2.2.2.2.2.2.1, rfl⟩
theorem zd_L_law_1175 : zz_D zy_law_L 1175 (.istore 6) 2 1177 := ⟨zg_L_law_1165.2.2.2.2.2.2.2.1, rfl⟩
theorem zd_L_law_1177 : zz_B zy_law_L 1177 Instr.goto 1180 1180 := ⟨3, zg_L_law_1165.2.2.2.2.2.2.2.2, rfl, rfl⟩
theorem zl_0 {g : mm_G} {l : Launch} (hfl : l.flags = flags0) (hlen : g.2.2.2 997 ≤ 3584) (N : Nat) (ih : ∀ (x4 : Int) (S : zz_S) (n k j : Nat), zz_G S → zz_Hc S → zz_Hr S → 1 ≤ S 1079 36 → S 1070 1 = S 1079 28 → S 1031 6 = S 1079 1 → (∀ w : Nat, 1 ≤ w → w ≤ 20 → S 1100 w = zt_cd (zt_nw.getD w [])) → (∀ i : Int, 0 ≤ i → i < S 1070 1 → S 1071 i.toNat = S 1099 i.toNat) → zz_end ≤ n → (0 ≤ x4 ∧ x4 ≤ 3590) → (k : Int) ≤ 200 + x4 → (j : Int) ≤ 30000 + 6 * x4 → (3600 - x4).toNat < N → zz_E g l zy_law_L room_1 (fun u => ∃ M1 n1, u = (.inl (some (zi 1)), M1, n1)) S n 23 [some (.ref 998), some (.ref 1000), some (.ref 1079), some (.ref 1121), some (zi x4)] [] k j) (x4 : Int) (S : zz_S) (n k j : Nat) (G_S : zz_G S) (H_S : zz_Hc S) (R_S : zz_Hr S) (O_S : 1 ≤ S 1079 36) (T0_S : S 1070 1 = S 1079 28) (T1_S : S 1031 6 = S 1079 1) (N_S : ∀ w : Nat, 1 ≤ w → w ≤ 20 → S 1100 w = zt_cd (zt_nw.getD w [])) (U_S : ∀ i : Int, 0 ≤ i → i < S 1070 1 → S 1071 i.toNat = S 1099 i.toNat) (hn : zz_end ≤ n) (hx : 0 ≤ x4 ∧ x4 ≤ 3590) (hkk : (k : Int) ≤ 200 + x4) (hjj : (j : Int) ≤ 30000 + 6 * x4) (hR : (3600 - x4).toNat < N + 1) (hc1 : x4 ≤ zz_ln g - 7) : zz_E g l zy_law_L room_1 (fun u => ∃ M1 n1, u = (.inl (some (zi 1)), M1, n1)) S n 168 [some (.ref 998), some (.ref 1000), some (.ref 1079), some (.ref 1121), some (zi x4)] [] k j := by
  have hln : 0 ≤ zz_ln g ∧ zz_ln g ≤ 3584 := ⟨Int.natCast_nonneg _, Int.ofNat_le.mpr hlen⟩
  have hk : k ≤ 601024 := by omega
  have hj : j ≤ 7293034 := by omega
  refine zz_aload_n (x := 1000) rfl zd_L_law_168 ?_
  refine zz_aload_n (x := 998) rfl zd_L_law_169 ?_
  refine zz_iload (x := x4) rfl zd_L_law_170 ?_
  refine zz_iconst zd_L_law_172 ?_
  refine zz_iadd zd_L_law_173 ?_
  refine zz_sld (by omega) zd_L_law_174 (by omega) ?_
  have g5 := zz_sc_r g (x4 + 1).toNat
  refine zz_callHW (rz := zr_side_L) [.ref 1000, zi (zz_sc g (x4 + 1).toNat)] zd_L_law_175 zhl_side_L rfl rfl ⟨Nat.le_of_ble_eq_true rfl, Nat.le_of_ble_eq_true rfl⟩ (by show k + 1 ≤ 601024; omega) (by show j + 6 ≤ 7293034; omega) (zc_side_L (zz_sc g (x4 + 1).toNat) S (n) hn hfl G_S (by omega) H_S) (fun v7 S6 d8 hd8 hP => ?_)
  obtain ⟨G_S6, fS6, rv7, o9, o10⟩ := hP
  have g11 := zz_G.r G_S 1000 7 0 1 rfl rfl
  have hn12 : zz_end ≤ n + d8 := by omega
  have hk13 : (k + zr_side_L.cells) ≤ 601024 := by show k + 1 ≤ 601024; omega
  have hj14 : (j + zr_side_L.slots) ≤ 7293034 := by show j + 6 ≤ 7293034; omega
  have b15 := zz_rf3 (z := (S 1000 7)) (by omega)
  have H_S6 : zz_Hc S6 := o10
  have R_S6 : zz_Hr S6 := zz_Hr.fr fS6 rfl rfl (fun b q h => by have h0_ := zz_rf3 (z := (S 1000 7)) (by omega); omega) R_S
  have O_S6 : 1 ≤ S6 1079 36 := by rw [show S6 1079 36 = S 1079 36 from zz_rc fS6 rfl rfl (by have h0_ := zz_rf3 (z := (S 1000 7)) (by omega); omega) rfl]; exact O_S
  refine zz_istore [some (.ref 998), some (.ref 1000), some (.ref 1079), some (.ref 1121), some (zi x4), some (zi v7)] zd_L_law_178 (by decide) rfl ?_
  refine zz_aload_n (x := 1079) rfl zd_L_law_180 ?_
  refine zz_aload_n (x := 998) rfl zd_L_law_181 ?_
  refine zz_iload (x := x4) rfl zd_L_law_182 ?_
  refine zz_iconst zd_L_law_184 ?_
  refine zz_iadd zd_L_law_185 ?_
  refine zz_sld (by omega) zd_L_law_186 (by omega) ?_
  have g16 := zz_G.r G_S 1079 36 0 11 rfl rfl
  have e17 : S6 1079 36 = S 1079 36 := (zz_rc fS6 rfl rfl (by omega) rfl)
  have g18 := zz_G.r G_S 1079 1 2 8 rfl rfl
  have e19 : S6 1079 1 = S 1079 1 := (zz_rc fS6 rfl rfl (by omega) rfl)
  refine zz_callVV [zi (zz_sc g (x4 + 1).toNat)] zd_L_law_187 zk_TFLaw_103 zT_1079 (zz_ltn hn12 rfl) rfl rfl ⟨Nat.le_of_ble_eq_true rfl, Nat.le_of_ble_eq_true rfl⟩ ⟨rfl, rfl⟩ hk13 hj14 (zc_side_14_6 (zz_sc g (x4 + 1).toNat) S6 (n + d8) hn12 G_S6 (by omega) R_S6 (by omega)) (fun S20 hP => ?_)
  obtain ⟨G_S20, fS20, o22, o23, o24⟩ := hP
  have H_S20 : zz_Hc S20 := zz_Hc.fr (q := 0) fS20 rfl rfl G_S6 (by decide) rfl (fun b q h => h.elim) H_S6
  have R_S20 : zz_Hr S20 := o24
  have O_S20 : 1 ≤ S20 1079 36 := by omega
  refine zz_goto zd_L_law_190 ?_
  refine zz_iinc [some (.ref 998), some (.ref 1000), some (.ref 1079), some (.ref 1121), some (zi (x4 + 7)), some (zi v7)] zd_L_law_1180 rfl rfl ?_
  refine zz_goto zd_L_law_1183 ?_
  refine zz_less (ls1 := [some (.ref 998), some (.ref 1000), some (.ref 1079), some (.ref 1121), some (zi (x4 + 7))]) ⟨rfl, ⟨rfl, ⟨rfl, ⟨rfl, ⟨rfl, trivial⟩⟩⟩⟩⟩ ?_
  have g25 := zz_G.r G_S 1070 1 0 1500 rfl rfl
  have e26 : S20 1070 1 = S 1070 1 := (zz_rc fS20 rfl rfl (fun h => h) (zz_rc fS6 rfl rfl (by omega) rfl))
  have g27 := zz_G.r G_S 1079 28 0 1500 rfl rfl
  have e28 : S20 1079 28 = S 1079 28 := (zz_rc fS20 rfl rfl (fun h => h) (zz_rc fS6 rfl rfl (by omega) rfl))
  have g29 := zz_G.r G_S6 1031 6 2 8 rfl rfl
  have e30 : S20 1031 6 = S6 1031 6 := (zz_rc fS20 rfl rfl (fun h => h) rfl)
  have g31 := zz_G.r G_S20 1079 1 2 8 rfl rfl
  exact ih (x4 + 7) S20 (n + d8) (k + zr_side_L.cells) (j + zr_side_L.slots) G_S20 H_S20 R_S20 O_S20 (by omega) (by omega) (fun u h1 h2 => ((zz_rc fS20 (zz_nc1 rfl) rfl (fun h => h) (zz_rc fS6 (zz_nc1 rfl) rfl (by have h0_ := zz_rf3 (z := (S 1000 7)) (by omega); omega) rfl)) : S20 1100 u = S 1100 u).trans (N_S u h1 h2)) (fun i h1 h2 => ((zz_rc fS20 (zz_nc1 rfl) rfl (fun h => h) (zz_rc fS6 (zz_nc1 rfl) rfl (by have h0_ := zz_rf3 (z := (S 1000 7)) (by omega); omega) rfl)) : S20 1071 i.toNat = S 1071 i.toNat).trans ((U_S i h1 (by omega)).trans ((zz_rc fS20 (zz_nc1 rfl) rfl (fun h => h) (zz_rc fS6 (zz_nc1 rfl) rfl (by have h0_ := zz_rf3 (z := (S 1000 7)) (by omega); omega) rfl)) : S20 1099 i.toNat = S 1099 i.toNat).symm)) hn12 (by omega) (by show ((k + 1 : Nat) : Int) ≤ 200 + (x4 + 7); omega) (by show ((j + 6 : Nat) : Int) ≤ 30000 + 6 * (x4 + 7); omega) (by omega)
theorem zl_1 {g : mm_G} {l : Launch} (hfl : l.flags = flags0) (hlen : g.2.2.2 997 ≤ 3584) (N : Nat) (ih : ∀ (x4 : Int) (S : zz_S) (n k j : Nat), zz_G S → zz_Hc S → zz_Hr S → 1 ≤ S 1079 36 → S 1070 1 = S 1079 28 → S 1031 6 = S 1079 1 → (∀ w : Nat, 1 ≤ w → w ≤ 20 → S 1100 w = zt_cd (zt_nw.getD w [])) → (∀ i : Int, 0 ≤ i → i < S 1070 1 → S 1071 i.toNat = S 1099 i.toNat) → zz_end ≤ n → (0 ≤ x4 ∧ x4 ≤ 3590) → (k : Int) ≤ 200 + x4 → (j : Int) ≤ 30000 + 6 * x4 → (3600 - x4).toNat < N → zz_E g l zy_law_L room_1 (fun u => ∃ M1 n1, u = (.inl (some (zi 1)), M1, n1)) S n 23 [some (.ref 998), some (.ref 1000), some (.ref 1079), some (.ref 1121), some (zi x4)] [] k j) (x4 : Int) (S : zz_S) (n k j : Nat) (G_S : zz_G S) (H_S : zz_Hc S) (R_S : zz_Hr S) (O_S : 1 ≤ S 1079 36) (T0_S : S 1070 1 = S 1079 28) (T1_S : S 1031 6 = S 1079 1) (N_S : ∀ w : Nat, 1 ≤ w → w ≤ 20 → S 1100 w = zt_cd (zt_nw.getD w [])) (U_S : ∀ i : Int, 0 ≤ i → i < S 1070 1 → S 1071 i.toNat = S 1099 i.toNat) (hn : zz_end ≤ n) (hx : 0 ≤ x4 ∧ x4 ≤ 3590) (hkk : (k : Int) ≤ 200 + x4) (hjj : (j : Int) ≤ 30000 + 6 * x4) (hR : (3600 - x4).toNat < N + 1) (hc1 : x4 ≤ zz_ln g - 7) : zz_E g l zy_law_L room_1 (fun u => ∃ M1 n1, u = (.inl (some (zi 1)), M1, n1)) S n 193 [some (.ref 998), some (.ref 1000), some (.ref 1079), some (.ref 1121), some (zi x4)] [] k j := by
  have hln : 0 ≤ zz_ln g ∧ zz_ln g ≤ 3584 := ⟨Int.natCast_nonneg _, Int.ofNat_le.mpr hlen⟩
  have hk : k ≤ 601024 := by omega
  have hj : j ≤ 7293034 := by omega
  refine zz_aload_n (x := 1000) rfl zd_L_law_193 ?_
  refine zz_aload_n (x := 998) rfl zd_L_law_194 ?_
  refine zz_iload (x := x4) rfl zd_L_law_195 ?_
  refine zz_iconst zd_L_law_197 ?_
  refine zz_iadd zd_L_law_198 ?_
  refine zz_sld (by omega) zd_L_law_199 (by omega) ?_
  have g33 := zz_sc_r g (x4 + 1).toNat
  refine zz_aload_n (x := 998) rfl zd_L_law_200 ?_
  refine zz_iload (x := x4) rfl zd_L_law_201 ?_
  refine zz_iconst zd_L_law_203 ?_
  refine zz_iadd zd_L_law_204 ?_
  refine zz_sld (by omega) zd_L_law_205 (by omega) ?_
  have g34 := zz_sc_r g (x4 + 2).toNat
  refine zz_callHW (rz := zr_memory_L) [.ref 1000, zi (zz_sc g (x4 + 1).toNat), zi (zz_sc g (x4 + 2).toNat)] zd_L_law_206 zhl_memory_L rfl rfl ⟨Nat.le_of_ble_eq_true rfl, Nat.le_of_ble_eq_true rfl⟩ (by show k + 1 ≤ 601024; omega) (by show j + 6 ≤ 7293034; omega) (zc_memory_L (zz_sc g (x4 + 1).toNat) (zz_sc g (x4 + 2).toNat) S (n) hn hfl G_S (by omega) (by omega)) (fun v36 S35 d37 hd37 hP => ?_)
  obtain ⟨G_S35, fS35, rv36, o38⟩ := hP
  have hn39 : zz_end ≤ n + d37 := by omega
  have hk40 : (k + zr_memory_L.cells) ≤ 601024 := by show k + 1 ≤ 601024; omega
  have hj41 : (j + zr_memory_L.slots) ≤ 7293034 := by show j + 6 ≤ 7293034; omega
  have H_S35 : zz_Hc S35 := zz_Hc.fr (q := 0) fS35 rfl rfl G_S (by decide) rfl (fun b q h => h.elim) H_S
  have R_S35 : zz_Hr S35 := zz_Hr.fr fS35 rfl rfl (fun b q h => h.elim) R_S
  have O_S35 : 1 ≤ S35 1079 36 := by rw [show S35 1079 36 = S 1079 36 from zz_rc fS35 rfl rfl (fun h => h) rfl]; exact O_S
  refine zz_istore [some (.ref 998), some (.ref 1000), some (.ref 1079), some (.ref 1121), some (zi x4), some (zi v36)] zd_L_law_209 (by decide) rfl ?_
  refine zz_aload_n (x := 1079) rfl zd_L_law_211 ?_
  refine zz_aload_n (x := 998) rfl zd_L_law_212 ?_
  refine zz_iload (x := x4) rfl zd_L_law_213 ?_
  refine zz_iconst zd_L_law_215 ?_
  refine zz_iadd zd_L_law_216 ?_
  refine zz_sld (by omega) zd_L_law_217 (by omega) ?_
  refine zz_aload_n (x := 998) rfl zd_L_law_218 ?_
  refine zz_iload (x := x4) rfl zd_L_law_219 ?_
  refine zz_iconst zd_L_law_221 ?_
  refine zz_iadd zd_L_law_222 ?_
  refine zz_sld (by omega) zd_L_law_223 (by omega) ?_
  refine zz_callVV [zi (zz_sc g (x4 + 1).toNat), zi (zz_sc g (x4 + 2).toNat)] zd_L_law_224 zk_TFLaw_107 zT_1079 (zz_ltn hn39 rfl) rfl rfl ⟨Nat.le_of_ble_eq_true rfl, Nat.le_of_ble_eq_true rfl⟩ ⟨rfl, rfl⟩ hk40 hj41 (zc_memory_14_8 (zz_sc g (x4 + 1).toNat) (zz_sc g (x4 + 2).toNat) S35 (n + d37) hn39 G_S35 (by omega) (by omega)) (fun S42 hP => ?_)
  obtain ⟨G_S42, fS42, o44⟩ := hP
  have H_S42 : zz_Hc S42 := zz_Hc.fr (q := 0) fS42 rfl rfl G_S35 (by decide) rfl (fun b q h => h.elim) H_S35
  have R_S42 : zz_Hr S42 := zz_Hr.fr fS42 rfl rfl (fun b q h => h.elim) R_S35
  have O_S42 : 1 ≤ S42 1079 36 := by rw [show S42 1079 36 = S35 1079 36 from zz_rc fS42 rfl rfl (fun h => h) rfl]; exact O_S35
  refine zz_goto zd_L_law_227 ?_
  refine zz_iinc [some (.ref 998), some (.ref 1000), some (.ref 1079), some (.ref 1121), some (zi (x4 + 7)), some (zi v36)] zd_L_law_1180 rfl rfl ?_
  refine zz_goto zd_L_law_1183 ?_
  refine zz_less (ls1 := [some (.ref 998), some (.ref 1000), some (.ref 1079), some (.ref 1121), some (zi (x4 + 7))]) ⟨rfl, ⟨rfl, ⟨rfl, ⟨rfl, ⟨rfl, trivial⟩⟩⟩⟩⟩ ?_
  have g45 := zz_G.r G_S 1070 1 0 1500 rfl rfl
  have e46 : S42 1070 1 = S 1070 1 := (zz_rc fS42 rfl rfl (fun h => h) (zz_rc fS35 rfl rfl (fun h => h) rfl))
  have g47 := zz_G.r G_S 1079 28 0 1500 rfl rfl
  have e48 : S42 1079 28 = S 1079 28 := (zz_rc fS42 rfl rfl (fun h => h) (zz_rc fS35 rfl rfl (fun h => h) rfl))
  have g49 := zz_G.r G_S 1031 6 2 8 rfl rfl
  have e50 : S42 1031 6 = S 1031 6 := (zz_rc fS42 rfl rfl (fun h => h) (zz_rc fS35 rfl rfl (fun h => h) rfl))
  have g51 := zz_G.r G_S 1079 1 2 8 rfl rfl
  have e52 : S42 1079 1 = S 1079 1 := (zz_rc fS42 rfl rfl (fun h => h) (zz_rc fS35 rfl rfl (fun h => h) rfl))
  exact ih (x4 + 7) S42 (n + d37) (k + zr_memory_L.cells) (j + zr_memory_L.slots) G_S42 H_S42 R_S42 O_S42 (by omega) (by omega) (fun u h1 h2 => ((zz_rc fS42 (zz_nc1 rfl) rfl (fun h => h) (zz_rc fS35 (zz_nc1 rfl) rfl (fun h => h) rfl)) : S42 1100 u = S 1100 u).trans (N_S u h1 h2)) (fun i h1 h2 => ((zz_rc fS42 (zz_nc1 rfl) rfl (fun h => h) (zz_rc fS35 (zz_nc1 rfl) rfl (fun h => h) rfl)) : S42 1071 i.toNat = S 1071 i.toNat).trans ((U_S i h1 (by omega)).trans ((zz_rc fS42 (zz_nc1 rfl) rfl (fun h => h) (zz_rc fS35 (zz_nc1 rfl) rfl (fun h => h) rfl)) : S42 1099 i.toNat = S 1099 i.toNat).symm)) hn39 (by omega) (by show ((k + 1 : Nat) : Int) ≤ 200 + (x4 + 7); omega) (by show ((j + 6 : Nat) : Int) ≤ 30000 + 6 * (x4 + 7); omega) (by omega)
theorem zl_2 {g : mm_G} {l : Launch} (hfl : l.flags = flags0) (hlen : g.2.2.2 997 ≤ 3584) (N : Nat) (ih : ∀ (x4 : Int) (S : zz_S) (n k j : Nat), zz_G S → zz_Hc S → zz_Hr S → 1 ≤ S 1079 36 → S 1070 1 = S 1079 28 → S 1031 6 = S 1079 1 → (∀ w : Nat, 1 ≤ w → w ≤ 20 → S 1100 w = zt_cd (zt_nw.getD w [])) → (∀ i : Int, 0 ≤ i → i < S 1070 1 → S 1071 i.toNat = S 1099 i.toNat) → zz_end ≤ n → (0 ≤ x4 ∧ x4 ≤ 3590) → (k : Int) ≤ 200 + x4 → (j : Int) ≤ 30000 + 6 * x4 → (3600 - x4).toNat < N → zz_E g l zy_law_L room_1 (fun u => ∃ M1 n1, u = (.inl (some (zi 1)), M1, n1)) S n 23 [some (.ref 998), some (.ref 1000), some (.ref 1079), some (.ref 1121), some (zi x4)] [] k j) (x4 : Int) (S : zz_S) (n k j : Nat) (G_S : zz_G S) (H_S : zz_Hc S) (R_S : zz_Hr S) (O_S : 1 ≤ S 1079 36) (T0_S : S 1070 1 = S 1079 28) (T1_S : S 1031 6 = S 1079 1) (N_S : ∀ w : Nat, 1 ≤ w → w ≤ 20 → S 1100 w = zt_cd (zt_nw.getD w [])) (U_S : ∀ i : Int, 0 ≤ i → i < S 1070 1 → S 1071 i.toNat = S 1099 i.toNat) (hn : zz_end ≤ n) (hx : 0 ≤ x4 ∧ x4 ≤ 3590) (hkk : (k : Int) ≤ 200 + x4) (hjj : (j : Int) ≤ 30000 + 6 * x4) (hR : (3600 - x4).toNat < N + 1) (hc1 : x4 ≤ zz_ln g - 7) : zz_E g l zy_law_L room_1 (fun u => ∃ M1 n1, u = (.inl (some (zi 1)), M1, n1)) S n 230 [some (.ref 998), some (.ref 1000), some (.ref 1079), some (.ref 1121), some (zi x4)] [] k j := by
  have hln : 0 ≤ zz_ln g ∧ zz_ln g ≤ 3584 := ⟨Int.natCast_nonneg _, Int.ofNat_le.mpr hlen⟩
  have hk : k ≤ 601024 := by omega
  have hj : j ≤ 7293034 := by omega
  refine zz_aload_n (x := 1000) rfl zd_L_law_230 ?_
  refine zz_aload_n (x := 998) rfl zd_L_law_231 ?_
  refine zz_iload (x := x4) rfl zd_L_law_232 ?_
  refine zz_iconst zd_L_law_234 ?_
  refine zz_iadd zd_L_law_235 ?_
  refine zz_sld (by omega) zd_L_law_236 (by omega) ?_
  have g54 := zz_sc_r g (x4 + 1).toNat
  refine zz_aload_n (x := 998) rfl zd_L_law_237 ?_
  refine zz_iload (x := x4) rfl zd_L_law_238 ?_
  refine zz_iconst zd_L_law_240 ?_
  refine zz_iadd zd_L_law_241 ?_
  refine zz_sld (by omega) zd_L_law_242 (by omega) ?_
  have g55 := zz_sc_r g (x4 + 2).toNat
  refine zz_aload_n (x := 1121) rfl zd_L_law_243 ?_
  refine zz_callHW (rz := zr_look_L) [.ref 1000, zi (zz_sc g (x4 + 1).toNat), zi (zz_sc g (x4 + 2).toNat), .ref 1121] zd_L_law_244 zhl_look_L rfl rfl ⟨Nat.le_of_ble_eq_true rfl, Nat.le_of_ble_eq_true rfl⟩ (by show k + 1 ≤ 601024; omega) (by show j + 6 ≤ 7293034; omega) (zc_look_L (zz_sc g (x4 + 1).toNat) (zz_sc g (x4 + 2).toNat) S (n) hn hfl G_S (by omega) (by omega)) (fun v57 S56 d58 hd58 hP => ?_)
  obtain ⟨G_S56, fS56, rv57⟩ := hP
  have hn59 : zz_end ≤ n + d58 := by omega
  have hk60 : (k + zr_look_L.cells) ≤ 601024 := by show k + 1 ≤ 601024; omega
  have hj61 : (j + zr_look_L.slots) ≤ 7293034 := by show j + 6 ≤ 7293034; omega
  have H_S56 : zz_Hc S56 := zz_Hc.fr (q := 0) fS56 rfl rfl G_S (by decide) rfl (fun b q h => h.elim) H_S
  have R_S56 : zz_Hr S56 := zz_Hr.fr fS56 rfl rfl (fun b q h => h.elim) R_S
  have O_S56 : 1 ≤ S56 1079 36 := by rw [show S56 1079 36 = S 1079 36 from zz_rc fS56 rfl rfl (fun h => h) rfl]; exact O_S
  refine zz_istore [some (.ref 998), some (.ref 1000), some (.ref 1079), some (.ref 1121), some (zi x4), some (zi v57)] zd_L_law_247 (by decide) rfl ?_
  refine zz_aload_n (x := 1079) rfl zd_L_law_249 ?_
  refine zz_aload_n (x := 998) rfl zd_L_law_250 ?_
  refine zz_iload (x := x4) rfl zd_L_law_251 ?_
  refine zz_iconst zd_L_law_253 ?_
  refine zz_iadd zd_L_law_254 ?_
  refine zz_sld (by omega) zd_L_law_255 (by omega) ?_
  refine zz_aload_n (x := 998) rfl zd_L_law_256 ?_
  refine zz_iload (x := x4) rfl zd_L_law_257 ?_
  refine zz_iconst zd_L_law_259 ?_
  refine zz_iadd zd_L_law_260 ?_
  refine zz_sld (by omega) zd_L_law_261 (by omega) ?_
  refine zz_callVI [zi (zz_sc g (x4 + 1).toNat), zi (zz_sc g (x4 + 2).toNat)] zd_L_law_262 zk_TFLaw_111 zT_1079 (zz_ltn hn59 rfl) rfl rfl ⟨Nat.le_of_ble_eq_true rfl, Nat.le_of_ble_eq_true rfl⟩ ⟨rfl, rfl⟩ hk60 hj61 (zc_look_14_10 (zz_sc g (x4 + 1).toNat) (zz_sc g (x4 + 2).toNat) S56 (n + d58) hn59 G_S56 (by omega) (by omega)) (fun v63 S62 hP => ?_)
  obtain ⟨G_S62, fS62, o64⟩ := hP
  have H_S62 : zz_Hc S62 := zz_Hc.fr (q := 0) fS62 rfl rfl G_S56 (by decide) rfl (fun b q h => h.elim) H_S56
  have R_S62 : zz_Hr S62 := zz_Hr.fr fS62 rfl rfl (fun b q h => h.elim) R_S56
  have O_S62 : 1 ≤ S62 1079 36 := by rw [show S62 1079 36 = S56 1079 36 from zz_rc fS62 rfl rfl (fun h => h) rfl]; exact O_S56
  refine zz_istore [some (.ref 998), some (.ref 1000), some (.ref 1079), some (.ref 1121), some (zi x4), some (zi v57), some (zi v63)] zd_L_law_265 (by decide) rfl ?_
  refine zz_goto zd_L_law_267 ?_
  refine zz_iinc [some (.ref 998), some (.ref 1000), some (.ref 1079), some (.ref 1121), some (zi (x4 + 7)), some (zi v57), some (zi v63)] zd_L_law_1180 rfl rfl ?_
  refine zz_goto zd_L_law_1183 ?_
  refine zz_less (ls1 := [some (.ref 998), some (.ref 1000), some (.ref 1079), some (.ref 1121), some (zi (x4 + 7))]) ⟨rfl, ⟨rfl, ⟨rfl, ⟨rfl, ⟨rfl, trivial⟩⟩⟩⟩⟩ ?_
  have g65 := zz_G.r G_S 1070 1 0 1500 rfl rfl
  have e66 : S62 1070 1 = S 1070 1 := (zz_rc fS62 rfl rfl (fun h => h) (zz_rc fS56 rfl rfl (fun h => h) rfl))
  have g67 := zz_G.r G_S 1079 28 0 1500 rfl rfl
  have e68 : S62 1079 28 = S 1079 28 := (zz_rc fS62 rfl rfl (fun h => h) (zz_rc fS56 rfl rfl (fun h => h) rfl))
  have g69 := zz_G.r G_S 1031 6 2 8 rfl rfl
  have e70 : S62 1031 6 = S 1031 6 := (zz_rc fS62 rfl rfl (fun h => h) (zz_rc fS56 rfl rfl (fun h => h) rfl))
  have g71 := zz_G.r G_S 1079 1 2 8 rfl rfl
  have e72 : S62 1079 1 = S 1079 1 := (zz_rc fS62 rfl rfl (fun h => h) (zz_rc fS56 rfl rfl (fun h => h) rfl))
  exact ih (x4 + 7) S62 (n + d58) (k + zr_look_L.cells) (j + zr_look_L.slots) G_S62 H_S62 R_S62 O_S62 (by omega) (by omega) (fun u h1 h2 => ((zz_rc fS62 (zz_nc1 rfl) rfl (fun h => h) (zz_rc fS56 (zz_nc1 rfl) rfl (fun h => h) rfl)) : S62 1100 u = S 1100 u).trans (N_S u h1 h2)) (fun i h1 h2 => ((zz_rc fS62 (zz_nc1 rfl) rfl (fun h => h) (zz_rc fS56 (zz_nc1 rfl) rfl (fun h => h) rfl)) : S62 1071 i.toNat = S 1071 i.toNat).trans ((U_S i h1 (by omega)).trans ((zz_rc fS62 (zz_nc1 rfl) rfl (fun h => h) (zz_rc fS56 (zz_nc1 rfl) rfl (fun h => h) rfl)) : S62 1099 i.toNat = S 1099 i.toNat).symm)) hn59 (by omega) (by show ((k + 1 : Nat) : Int) ≤ 200 + (x4 + 7); omega) (by show ((j + 6 : Nat) : Int) ≤ 30000 + 6 * (x4 + 7); omega) (by omega)
theorem zl_3 {g : mm_G} {l : Launch} (hfl : l.flags = flags0) (hlen : g.2.2.2 997 ≤ 3584) (N : Nat) (ih : ∀ (x4 : Int) (S : zz_S) (n k j : Nat), zz_G S → zz_Hc S → zz_Hr S → 1 ≤ S 1079 36 → S 1070 1 = S 1079 28 → S 1031 6 = S 1079 1 → (∀ w : Nat, 1 ≤ w → w ≤ 20 → S 1100 w = zt_cd (zt_nw.getD w [])) → (∀ i : Int, 0 ≤ i → i < S 1070 1 → S 1071 i.toNat = S 1099 i.toNat) → zz_end ≤ n → (0 ≤ x4 ∧ x4 ≤ 3590) → (k : Int) ≤ 200 + x4 → (j : Int) ≤ 30000 + 6 * x4 → (3600 - x4).toNat < N → zz_E g l zy_law_L room_1 (fun u => ∃ M1 n1, u = (.inl (some (zi 1)), M1, n1)) S n 23 [some (.ref 998), some (.ref 1000), some (.ref 1079), some (.ref 1121), some (zi x4)] [] k j) (x4 : Int) (S : zz_S) (n k j : Nat) (G_S : zz_G S) (H_S : zz_Hc S) (R_S : zz_Hr S) (O_S : 1 ≤ S 1079 36) (T0_S : S 1070 1 = S 1079 28) (T1_S : S 1031 6 = S 1079 1) (N_S : ∀ w : Nat, 1 ≤ w → w ≤ 20 → S 1100 w = zt_cd (zt_nw.getD w [])) (U_S : ∀ i : Int, 0 ≤ i → i < S 1070 1 → S 1071 i.toNat = S 1099 i.toNat) (hn : zz_end ≤ n) (hx : 0 ≤ x4 ∧ x4 ≤ 3590) (hkk : (k : Int) ≤ 200 + x4) (hjj : (j : Int) ≤ 30000 + 6 * x4) (hR : (3600 - x4).toNat < N + 1) (hc1 : x4 ≤ zz_ln g - 7) : zz_E g l zy_law_L room_1 (fun u => ∃ M1 n1, u = (.inl (some (zi 1)), M1, n1)) S n 270 [some (.ref 998), some (.ref 1000), some (.ref 1079), some (.ref 1121), some (zi x4)] [] k j := by
  have hln : 0 ≤ zz_ln g ∧ zz_ln g ≤ 3584 := ⟨Int.natCast_nonneg _, Int.ofNat_le.mpr hlen⟩
  have hk : k ≤ 601024 := by omega
  have hj : j ≤ 7293034 := by omega
  refine zz_aload_n (x := 1000) rfl zd_L_law_270 ?_
  refine zz_aload_n (x := 998) rfl zd_L_law_271 ?_
  refine zz_iload (x := x4) rfl zd_L_law_272 ?_
  refine zz_iconst zd_L_law_274 ?_
  refine zz_iadd zd_L_law_275 ?_
  refine zz_sld (by omega) zd_L_law_276 (by omega) ?_
  have g74 := zz_sc_r g (x4 + 1).toNat
  refine zz_aload_n (x := 998) rfl zd_L_law_277 ?_
  refine zz_iload (x := x4) rfl zd_L_law_278 ?_
  refine zz_iconst zd_L_law_280 ?_
  refine zz_iadd zd_L_law_281 ?_
  refine zz_sld (by omega) zd_L_law_282 (by omega) ?_
  have g75 := zz_sc_r g (x4 + 2).toNat
  refine zz_i2l (by omega) zd_L_law_283 ?_
  refine zz_bipush (by decide) zd_L_law_284 ?_
  refine zz_lshl zd_L_law_286 (fun v76 hv76 ev76 => ?_)
  refine zz_aload_n (x := 998) rfl zd_L_law_287 ?_
  refine zz_iload (x := x4) rfl zd_L_law_288 ?_
  refine zz_iconst zd_L_law_290 ?_
  refine zz_iadd zd_L_law_291 ?_
  refine zz_sld (by omega) zd_L_law_292 (by omega) ?_
  have g77 := zz_sc_r g (x4 + 3).toNat
  refine zz_i2l (by omega) zd_L_law_293 ?_
  refine zz_ldc2 (z := 4294967295) zq_TFLaw_112 (by decide) zd_L_law_294 ?_
  refine zz_land zd_L_law_297 (fun v78 hv78 ev78 => ?_)
  have av78 := zz_band64 (by omega) (by omega) ev78
  refine zz_lor zd_L_law_298 (fun v79 hv79 ev79 => ?_)
  refine zz_callHW (rz := zr_word_L) [.ref 1000, zi (zz_sc g (x4 + 1).toNat), zl v79] zd_L_law_299 zhl_word_L rfl rfl ⟨Nat.le_of_ble_eq_true rfl, Nat.le_of_ble_eq_true rfl⟩ (by show k + 1 ≤ 601024; omega) (by show j + 6 ≤ 7293034; omega) (zc_word_L (zz_sc g (x4 + 1).toNat) v79 S (n) hn hfl G_S (by omega) (by omega)) (fun v81 S80 d82 hd82 hP => ?_)
  obtain ⟨G_S80, fS80, rv81⟩ := hP
  have g83 := zz_G.r G_S 1000 9 0 1 rfl rfl
  have hn84 : zz_end ≤ n + d82 := by omega
  have hk85 : (k + zr_word_L.cells) ≤ 601024 := by show k + 1 ≤ 601024; omega
  have hj86 : (j + zr_word_L.slots) ≤ 7293034 := by show j + 6 ≤ 7293034; omega
  have b87 := zz_rf4 (z := (S 1000 9)) (by omega)
  have H_S80 : zz_Hc S80 := zz_Hc.fr (q := 0) fS80 rfl rfl G_S (by decide) rfl (fun b q h => by have h0_ := zz_rf4 (z := (S 1000 9)) (by omega); omega) H_S
  have R_S80 : zz_Hr S80 := zz_Hr.fr fS80 rfl rfl (fun b q h => by have h0_ := zz_rf4 (z := (S 1000 9)) (by omega); omega) R_S
  have O_S80 : 1 ≤ S80 1079 36 := by rw [show S80 1079 36 = S 1079 36 from zz_rc fS80 rfl rfl (by have h0_ := zz_rf4 (z := (S 1000 9)) (by omega); omega) rfl]; exact O_S
  refine zz_istore [some (.ref 998), some (.ref 1000), some (.ref 1079), some (.ref 1121), some (zi x4), some (zi v81)] zd_L_law_302 (by decide) rfl ?_
  refine zz_aload_n (x := 1079) rfl zd_L_law_304 ?_
  refine zz_aload_n (x := 998) rfl zd_L_law_305 ?_
  refine zz_iload (x := x4) rfl zd_L_law_306 ?_
  refine zz_iconst zd_L_law_308 ?_
  refine zz_iadd zd_L_law_309 ?_
  refine zz_sld (by omega) zd_L_law_310 (by omega) ?_
  refine zz_aload_n (x := 998) rfl zd_L_law_311 ?_
  refine zz_iload (x := x4) rfl zd_L_law_312 ?_
  refine zz_iconst zd_L_law_314 ?_
  refine zz_iadd zd_L_law_315 ?_
  refine zz_sld (by omega) zd_L_law_316 (by omega) ?_
  refine zz_i2l (by omega) zd_L_law_317 ?_
  refine zz_bipush (by decide) zd_L_law_318 ?_
  refine zz_lshl zd_L_law_320 (fun v88 hv88 ev88 => ?_)
  refine zz_aload_n (x := 998) rfl zd_L_law_321 ?_
  refine zz_iload (x := x4) rfl zd_L_law_322 ?_
  refine zz_iconst zd_L_law_324 ?_
  refine zz_iadd zd_L_law_325 ?_
  refine zz_sld (by omega) zd_L_law_326 (by omega) ?_
  refine zz_i2l (by omega) zd_L_law_327 ?_
  refine zz_ldc2 (z := 4294967295) zq_TFLaw_112 (by decide) zd_L_law_328 ?_
  refine zz_land zd_L_law_331 (fun v89 hv89 ev89 => ?_)
  have av89 := zz_band64 (by omega) (by omega) ev89
  refine zz_lor zd_L_law_332 (fun v90 hv90 ev90 => ?_)
  refine zz_callVV [zi (zz_sc g (x4 + 1).toNat), zl v90] zd_L_law_333 zk_TFLaw_117 zT_1079 (zz_ltn hn84 rfl) rfl rfl ⟨Nat.le_of_ble_eq_true rfl, Nat.le_of_ble_eq_true rfl⟩ ⟨rfl, rfl⟩ hk85 hj86 (zc_word_14_14 (zz_sc g (x4 + 1).toNat) v90 S80 (n + d82) hn84 G_S80 (by omega) (by omega)) (fun S91 hP => ?_)
  obtain ⟨G_S91, fS91⟩ := hP
  have H_S91 : zz_Hc S91 := zz_Hc.fr (q := 0) fS91 rfl rfl G_S80 (by decide) rfl (fun b q h => h.elim) H_S80
  have R_S91 : zz_Hr S91 := zz_Hr.fr fS91 rfl rfl (fun b q h => h.elim) R_S80
  have O_S91 : 1 ≤ S91 1079 36 := by rw [show S91 1079 36 = S80 1079 36 from zz_rc fS91 rfl rfl (fun h => h) rfl]; exact O_S80
  refine zz_goto zd_L_law_336 ?_
  refine zz_iinc [some (.ref 998), some (.ref 1000), some (.ref 1079), some (.ref 1121), some (zi (x4 + 7)), some (zi v81)] zd_L_law_1180 rfl rfl ?_
  refine zz_goto zd_L_law_1183 ?_
  refine zz_less (ls1 := [some (.ref 998), some (.ref 1000), some (.ref 1079), some (.ref 1121), some (zi (x4 + 7))]) ⟨rfl, ⟨rfl, ⟨rfl, ⟨rfl, ⟨rfl, trivial⟩⟩⟩⟩⟩ ?_
  have g93 := zz_G.r G_S 1070 1 0 1500 rfl rfl
  have e94 : S91 1070 1 = S 1070 1 := (zz_rc fS91 rfl rfl (fun h => h) (zz_rc fS80 rfl rfl (by omega) rfl))
  have g95 := zz_G.r G_S 1079 28 0 1500 rfl rfl
  have e96 : S91 1079 28 = S 1079 28 := (zz_rc fS91 rfl rfl (fun h => h) (zz_rc fS80 rfl rfl (by omega) rfl))
  have g97 := zz_G.r G_S 1031 6 2 8 rfl rfl
  have e98 : S91 1031 6 = S 1031 6 := (zz_rc fS91 rfl rfl (fun h => h) (zz_rc fS80 rfl rfl (by omega) rfl))
  have g99 := zz_G.r G_S 1079 1 2 8 rfl rfl
  have e100 : S91 1079 1 = S 1079 1 := (zz_rc fS91 rfl rfl (fun h => h) (zz_rc fS80 rfl rfl (by omega) rfl))
  exact ih (x4 + 7) S91 (n + d82) (k + zr_word_L.cells) (j + zr_word_L.slots) G_S91 H_S91 R_S91 O_S91 (by omega) (by omega) (fun u h1 h2 => ((zz_rc fS91 (zz_nc1 rfl) rfl (fun h => h) (zz_rc fS80 (zz_nc1 rfl) rfl (by have h0_ := zz_rf4 (z := (S 1000 9)) (by omega); omega) rfl)) : S91 1100 u = S 1100 u).trans (N_S u h1 h2)) (fun i h1 h2 => ((zz_rc fS91 (zz_nc1 rfl) rfl (fun h => h) (zz_rc fS80 (zz_nc1 rfl) rfl (by have h0_ := zz_rf4 (z := (S 1000 9)) (by omega); omega) rfl)) : S91 1071 i.toNat = S 1071 i.toNat).trans ((U_S i h1 (by omega)).trans ((zz_rc fS91 (zz_nc1 rfl) rfl (fun h => h) (zz_rc fS80 (zz_nc1 rfl) rfl (by have h0_ := zz_rf4 (z := (S 1000 9)) (by omega); omega) rfl)) : S91 1099 i.toNat = S 1099 i.toNat).symm)) hn84 (by omega) (by show ((k + 1 : Nat) : Int) ≤ 200 + (x4 + 7); omega) (by show ((j + 6 : Nat) : Int) ≤ 30000 + 6 * (x4 + 7); omega) (by omega)
theorem zl_4 {g : mm_G} {l : Launch} (hfl : l.flags = flags0) (hlen : g.2.2.2 997 ≤ 3584) (N : Nat) (ih : ∀ (x4 : Int) (S : zz_S) (n k j : Nat), zz_G S → zz_Hc S → zz_Hr S → 1 ≤ S 1079 36 → S 1070 1 = S 1079 28 → S 1031 6 = S 1079 1 → (∀ w : Nat, 1 ≤ w → w ≤ 20 → S 1100 w = zt_cd (zt_nw.getD w [])) → (∀ i : Int, 0 ≤ i → i < S 1070 1 → S 1071 i.toNat = S 1099 i.toNat) → zz_end ≤ n → (0 ≤ x4 ∧ x4 ≤ 3590) → (k : Int) ≤ 200 + x4 → (j : Int) ≤ 30000 + 6 * x4 → (3600 - x4).toNat < N → zz_E g l zy_law_L room_1 (fun u => ∃ M1 n1, u = (.inl (some (zi 1)), M1, n1)) S n 23 [some (.ref 998), some (.ref 1000), some (.ref 1079), some (.ref 1121), some (zi x4)] [] k j) (x4 : Int) (S : zz_S) (n k j : Nat) (G_S : zz_G S) (H_S : zz_Hc S) (R_S : zz_Hr S) (O_S : 1 ≤ S 1079 36) (T0_S : S 1070 1 = S 1079 28) (T1_S : S 1031 6 = S 1079 1) (N_S : ∀ w : Nat, 1 ≤ w → w ≤ 20 → S 1100 w = zt_cd (zt_nw.getD w [])) (U_S : ∀ i : Int, 0 ≤ i → i < S 1070 1 → S 1071 i.toNat = S 1099 i.toNat) (hn : zz_end ≤ n) (hx : 0 ≤ x4 ∧ x4 ≤ 3590) (hkk : (k : Int) ≤ 200 + x4) (hjj : (j : Int) ≤ 30000 + 6 * x4) (hR : (3600 - x4).toNat < N + 1) (hc1 : x4 ≤ zz_ln g - 7) : zz_E g l zy_law_L room_1 (fun u => ∃ M1 n1, u = (.inl (some (zi 1)), M1, n1)) S n 339 [some (.ref 998), some (.ref 1000), some (.ref 1079), some (.ref 1121), some (zi x4)] [] k j := by
  have hln : 0 ≤ zz_ln g ∧ zz_ln g ≤ 3584 := ⟨Int.natCast_nonneg _, Int.ofNat_le.mpr hlen⟩
  have hk : k ≤ 601024 := by omega
  have hj : j ≤ 7293034 := by omega
  refine zz_aload_n (x := 1000) rfl zd_L_law_339 ?_
  refine zz_aload_n (x := 998) rfl zd_L_law_340 ?_
  refine zz_iload (x := x4) rfl zd_L_law_341 ?_
  refine zz_iconst zd_L_law_343 ?_
  refine zz_iadd zd_L_law_344 ?_
  refine zz_sld (by omega) zd_L_law_345 (by omega) ?_
  have g102 := zz_sc_r g (x4 + 1).toNat
  refine zz_callHW (rz := zr_cut_L) [.ref 1000, zi (zz_sc g (x4 + 1).toNat)] zd_L_law_346 zhl_cut_L rfl rfl ⟨Nat.le_of_ble_eq_true rfl, Nat.le_of_ble_eq_true rfl⟩ (by show k + 1 ≤ 601024; omega) (by show j + 6 ≤ 7293034; omega) (zc_cut_L (zz_sc g (x4 + 1).toNat) S (n) hn hfl G_S (by omega)) (fun v104 S103 d105 hd105 hP => ?_)
  obtain ⟨G_S103, fS103, rv104⟩ := hP
  have hn106 : zz_end ≤ n + d105 := by omega
  have hk107 : (k + zr_cut_L.cells) ≤ 601024 := by show k + 1 ≤ 601024; omega
  have hj108 : (j + zr_cut_L.slots) ≤ 7293034 := by show j + 6 ≤ 7293034; omega
  have H_S103 : zz_Hc S103 := zz_Hc.fr (q := 0) fS103 rfl rfl G_S (by decide) rfl (fun b q h => h.elim) H_S
  have R_S103 : zz_Hr S103 := zz_Hr.fr fS103 rfl rfl (fun b q h => h.elim) R_S
  have O_S103 : 1 ≤ S103 1079 36 := by rw [show S103 1079 36 = S 1079 36 from zz_rc fS103 rfl rfl (fun h => h) rfl]; exact O_S
  refine zz_istore [some (.ref 998), some (.ref 1000), some (.ref 1079), some (.ref 1121), some (zi x4), some (zi v104)] zd_L_law_349 (by decide) rfl ?_
  refine zz_aload_n (x := 1079) rfl zd_L_law_351 ?_
  refine zz_aload_n (x := 998) rfl zd_L_law_352 ?_
  refine zz_iload (x := x4) rfl zd_L_law_353 ?_
  refine zz_iconst zd_L_law_355 ?_
  refine zz_iadd zd_L_law_356 ?_
  refine zz_sld (by omega) zd_L_law_357 (by omega) ?_
  refine zz_callVV [zi (zz_sc g (x4 + 1).toNat)] zd_L_law_358 zk_TFLaw_120 zT_1079 (zz_ltn hn106 rfl) rfl rfl ⟨Nat.le_of_ble_eq_true rfl, Nat.le_of_ble_eq_true rfl⟩ ⟨rfl, rfl⟩ hk107 hj108 (zc_cut_14_15 (zz_sc g (x4 + 1).toNat) S103 (n + d105) hn106 G_S103 (by omega)) (fun S109 hP => ?_)
  obtain ⟨G_S109, fS109⟩ := hP
  have H_S109 : zz_Hc S109 := zz_Hc.fr (q := 0) fS109 rfl rfl G_S103 (by decide) rfl (fun b q h => h.elim) H_S103
  have R_S109 : zz_Hr S109 := zz_Hr.fr fS109 rfl rfl (fun b q h => h.elim) R_S103
  have O_S109 : 1 ≤ S109 1079 36 := by rw [show S109 1079 36 = S103 1079 36 from zz_rc fS109 rfl rfl (fun h => h) rfl]; exact O_S103
  refine zz_goto zd_L_law_361 ?_
  refine zz_iinc [some (.ref 998), some (.ref 1000), some (.ref 1079), some (.ref 1121), some (zi (x4 + 7)), some (zi v104)] zd_L_law_1180 rfl rfl ?_
  refine zz_goto zd_L_law_1183 ?_
  refine zz_less (ls1 := [some (.ref 998), some (.ref 1000), some (.ref 1079), some (.ref 1121), some (zi (x4 + 7))]) ⟨rfl, ⟨rfl, ⟨rfl, ⟨rfl, ⟨rfl, trivial⟩⟩⟩⟩⟩ ?_
  have g111 := zz_G.r G_S 1070 1 0 1500 rfl rfl
  have e112 : S109 1070 1 = S 1070 1 := (zz_rc fS109 rfl rfl (fun h => h) (zz_rc fS103 rfl rfl (fun h => h) rfl))
  have g113 := zz_G.r G_S 1079 28 0 1500 rfl rfl
  have e114 : S109 1079 28 = S 1079 28 := (zz_rc fS109 rfl rfl (fun h => h) (zz_rc fS103 rfl rfl (fun h => h) rfl))
  have g115 := zz_G.r G_S 1031 6 2 8 rfl rfl
  have e116 : S109 1031 6 = S 1031 6 := (zz_rc fS109 rfl rfl (fun h => h) (zz_rc fS103 rfl rfl (fun h => h) rfl))
  have g117 := zz_G.r G_S 1079 1 2 8 rfl rfl
  have e118 : S109 1079 1 = S 1079 1 := (zz_rc fS109 rfl rfl (fun h => h) (zz_rc fS103 rfl rfl (fun h => h) rfl))
  exact ih (x4 + 7) S109 (n + d105) (k + zr_cut_L.cells) (j + zr_cut_L.slots) G_S109 H_S109 R_S109 O_S109 (by omega) (by omega) (fun u h1 h2 => ((zz_rc fS109 (zz_nc1 rfl) rfl (fun h => h) (zz_rc fS103 (zz_nc1 rfl) rfl (fun h => h) rfl)) : S109 1100 u = S 1100 u).trans (N_S u h1 h2)) (fun i h1 h2 => ((zz_rc fS109 (zz_nc1 rfl) rfl (fun h => h) (zz_rc fS103 (zz_nc1 rfl) rfl (fun h => h) rfl)) : S109 1071 i.toNat = S 1071 i.toNat).trans ((U_S i h1 (by omega)).trans ((zz_rc fS109 (zz_nc1 rfl) rfl (fun h => h) (zz_rc fS103 (zz_nc1 rfl) rfl (fun h => h) rfl)) : S109 1099 i.toNat = S 1099 i.toNat).symm)) hn106 (by omega) (by show ((k + 1 : Nat) : Int) ≤ 200 + (x4 + 7); omega) (by show ((j + 6 : Nat) : Int) ≤ 30000 + 6 * (x4 + 7); omega) (by omega)
theorem zl_5 {g : mm_G} {l : Launch} (hfl : l.flags = flags0) (hlen : g.2.2.2 997 ≤ 3584) (N : Nat) (ih : ∀ (x4 : Int) (S : zz_S) (n k j : Nat), zz_G S → zz_Hc S → zz_Hr S → 1 ≤ S 1079 36 → S 1070 1 = S 1079 28 → S 1031 6 = S 1079 1 → (∀ w : Nat, 1 ≤ w → w ≤ 20 → S 1100 w = zt_cd (zt_nw.getD w [])) → (∀ i : Int, 0 ≤ i → i < S 1070 1 → S 1071 i.toNat = S 1099 i.toNat) → zz_end ≤ n → (0 ≤ x4 ∧ x4 ≤ 3590) → (k : Int) ≤ 200 + x4 → (j : Int) ≤ 30000 + 6 * x4 → (3600 - x4).toNat < N → zz_E g l zy_law_L room_1 (fun u => ∃ M1 n1, u = (.inl (some (zi 1)), M1, n1)) S n 23 [some (.ref 998), some (.ref 1000), some (.ref 1079), some (.ref 1121), some (zi x4)] [] k j) (x4 : Int) (S : zz_S) (n k j : Nat) (G_S : zz_G S) (H_S : zz_Hc S) (R_S : zz_Hr S) (O_S : 1 ≤ S 1079 36) (T0_S : S 1070 1 = S 1079 28) (T1_S : S 1031 6 = S 1079 1) (N_S : ∀ w : Nat, 1 ≤ w → w ≤ 20 → S 1100 w = zt_cd (zt_nw.getD w [])) (U_S : ∀ i : Int, 0 ≤ i → i < S 1070 1 → S 1071 i.toNat = S 1099 i.toNat) (hn : zz_end ≤ n) (hx : 0 ≤ x4 ∧ x4 ≤ 3590) (hkk : (k : Int) ≤ 200 + x4) (hjj : (j : Int) ≤ 30000 + 6 * x4) (hR : (3600 - x4).toNat < N + 1) (hc1 : x4 ≤ zz_ln g - 7) : zz_E g l zy_law_L room_1 (fun u => ∃ M1 n1, u = (.inl (some (zi 1)), M1, n1)) S n 364 [some (.ref 998), some (.ref 1000), some (.ref 1079), some (.ref 1121), some (zi x4)] [] k j := by
  have hln : 0 ≤ zz_ln g ∧ zz_ln g ≤ 3584 := ⟨Int.natCast_nonneg _, Int.ofNat_le.mpr hlen⟩
  have hk : k ≤ 601024 := by omega
  have hj : j ≤ 7293034 := by omega
  refine zz_aload_n (x := 1000) rfl zd_L_law_364 ?_
  refine zz_aload_n (x := 998) rfl zd_L_law_365 ?_
  refine zz_iload (x := x4) rfl zd_L_law_366 ?_
  refine zz_iconst zd_L_law_368 ?_
  refine zz_iadd zd_L_law_369 ?_
  refine zz_sld (by omega) zd_L_law_370 (by omega) ?_
  have g120 := zz_sc_r g (x4 + 1).toNat
  refine zz_aload_n (x := 1121) rfl zd_L_law_371 ?_
  refine zz_callHW (rz := zr_wordOf_L) [.ref 1000, zi (zz_sc g (x4 + 1).toNat), .ref 1121] zd_L_law_372 zhl_wordOf_L rfl rfl ⟨Nat.le_of_ble_eq_true rfl, Nat.le_of_ble_eq_true rfl⟩ (by show k + 1 ≤ 601024; omega) (by show j + 6 ≤ 7293034; omega) (zc_wordOf_L (zz_sc g (x4 + 1).toNat) S (n) hn hfl G_S (by omega)) (fun v122 S121 d123 hd123 hP => ?_)
  obtain ⟨G_S121, fS121, rv122⟩ := hP
  have hn124 : zz_end ≤ n + d123 := by omega
  have hk125 : (k + zr_wordOf_L.cells) ≤ 601024 := by show k + 1 ≤ 601024; omega
  have hj126 : (j + zr_wordOf_L.slots) ≤ 7293034 := by show j + 6 ≤ 7293034; omega
  have H_S121 : zz_Hc S121 := zz_Hc.fr (q := 0) fS121 rfl rfl G_S (by decide) rfl (fun b q h => h.elim) H_S
  have R_S121 : zz_Hr S121 := zz_Hr.fr fS121 rfl rfl (fun b q h => h.elim) R_S
  have O_S121 : 1 ≤ S121 1079 36 := by rw [show S121 1079 36 = S 1079 36 from zz_rc fS121 rfl rfl (fun h => h) rfl]; exact O_S
  refine zz_istore [some (.ref 998), some (.ref 1000), some (.ref 1079), some (.ref 1121), some (zi x4), some (zi v122)] zd_L_law_375 (by decide) rfl ?_
  refine zz_aload_n (x := 1079) rfl zd_L_law_377 ?_
  refine zz_aload_n (x := 998) rfl zd_L_law_378 ?_
  refine zz_iload (x := x4) rfl zd_L_law_379 ?_
  refine zz_iconst zd_L_law_381 ?_
  refine zz_iadd zd_L_law_382 ?_
  refine zz_sld (by omega) zd_L_law_383 (by omega) ?_
  refine zz_callVJ [zi (zz_sc g (x4 + 1).toNat)] zd_L_law_384 zk_TFLaw_124 zT_1079 (zz_ltn hn124 rfl) rfl rfl ⟨Nat.le_of_ble_eq_true rfl, Nat.le_of_ble_eq_true rfl⟩ ⟨rfl, rfl⟩ hk125 hj126 (zc_wordOf_14_16 (zz_sc g (x4 + 1).toNat) S121 (n + d123) hn124 G_S121 (by omega)) (fun v128 S127 hP => ?_)
  obtain ⟨G_S127, fS127, o129⟩ := hP
  have H_S127 : zz_Hc S127 := zz_Hc.fr (q := 0) fS127 rfl rfl G_S121 (by decide) rfl (fun b q h => h.elim) H_S121
  have R_S127 : zz_Hr S127 := zz_Hr.fr fS127 rfl rfl (fun b q h => h.elim) R_S121
  have O_S127 : 1 ≤ S127 1079 36 := by rw [show S127 1079 36 = S121 1079 36 from zz_rc fS127 rfl rfl (fun h => h) rfl]; exact O_S121
  refine zz_lstore [some (.ref 998), some (.ref 1000), some (.ref 1079), some (.ref 1121), some (zi x4), some (zi v122), some (zl v128), none] zd_L_law_387 (by decide) rfl ?_
  refine zz_goto zd_L_law_389 ?_
  refine zz_iinc [some (.ref 998), some (.ref 1000), some (.ref 1079), some (.ref 1121), some (zi (x4 + 7)), some (zi v122), some (zl v128), none] zd_L_law_1180 rfl rfl ?_
  refine zz_goto zd_L_law_1183 ?_
  refine zz_less (ls1 := [some (.ref 998), some (.ref 1000), some (.ref 1079), some (.ref 1121), some (zi (x4 + 7))]) ⟨rfl, ⟨rfl, ⟨rfl, ⟨rfl, ⟨rfl, trivial⟩⟩⟩⟩⟩ ?_
  have g130 := zz_G.r G_S 1070 1 0 1500 rfl rfl
  have e131 : S127 1070 1 = S 1070 1 := (zz_rc fS127 rfl rfl (fun h => h) (zz_rc fS121 rfl rfl (fun h => h) rfl))
  have g132 := zz_G.r G_S 1079 28 0 1500 rfl rfl
  have e133 : S127 1079 28 = S 1079 28 := (zz_rc fS127 rfl rfl (fun h => h) (zz_rc fS121 rfl rfl (fun h => h) rfl))
  have g134 := zz_G.r G_S 1031 6 2 8 rfl rfl
  have e135 : S127 1031 6 = S 1031 6 := (zz_rc fS127 rfl rfl (fun h => h) (zz_rc fS121 rfl rfl (fun h => h) rfl))
  have g136 := zz_G.r G_S 1079 1 2 8 rfl rfl
  have e137 : S127 1079 1 = S 1079 1 := (zz_rc fS127 rfl rfl (fun h => h) (zz_rc fS121 rfl rfl (fun h => h) rfl))
  exact ih (x4 + 7) S127 (n + d123) (k + zr_wordOf_L.cells) (j + zr_wordOf_L.slots) G_S127 H_S127 R_S127 O_S127 (by omega) (by omega) (fun u h1 h2 => ((zz_rc fS127 (zz_nc1 rfl) rfl (fun h => h) (zz_rc fS121 (zz_nc1 rfl) rfl (fun h => h) rfl)) : S127 1100 u = S 1100 u).trans (N_S u h1 h2)) (fun i h1 h2 => ((zz_rc fS127 (zz_nc1 rfl) rfl (fun h => h) (zz_rc fS121 (zz_nc1 rfl) rfl (fun h => h) rfl)) : S127 1071 i.toNat = S 1071 i.toNat).trans ((U_S i h1 (by omega)).trans ((zz_rc fS127 (zz_nc1 rfl) rfl (fun h => h) (zz_rc fS121 (zz_nc1 rfl) rfl (fun h => h) rfl)) : S127 1099 i.toNat = S 1099 i.toNat).symm)) hn124 (by omega) (by show ((k + 1 : Nat) : Int) ≤ 200 + (x4 + 7); omega) (by show ((j + 6 : Nat) : Int) ≤ 30000 + 6 * (x4 + 7); omega) (by omega)
theorem zl_6 {g : mm_G} {l : Launch} (hfl : l.flags = flags0) (hlen : g.2.2.2 997 ≤ 3584) (N : Nat) (ih : ∀ (x4 : Int) (S : zz_S) (n k j : Nat), zz_G S → zz_Hc S → zz_Hr S → 1 ≤ S 1079 36 → S 1070 1 = S 1079 28 → S 1031 6 = S 1079 1 → (∀ w : Nat, 1 ≤ w → w ≤ 20 → S 1100 w = zt_cd (zt_nw.getD w [])) → (∀ i : Int, 0 ≤ i → i < S 1070 1 → S 1071 i.toNat = S 1099 i.toNat) → zz_end ≤ n → (0 ≤ x4 ∧ x4 ≤ 3590) → (k : Int) ≤ 200 + x4 → (j : Int) ≤ 30000 + 6 * x4 → (3600 - x4).toNat < N → zz_E g l zy_law_L room_1 (fun u => ∃ M1 n1, u = (.inl (some (zi 1)), M1, n1)) S n 23 [some (.ref 998), some (.ref 1000), some (.ref 1079), some (.ref 1121), some (zi x4)] [] k j) (x4 : Int) (S : zz_S) (n k j : Nat) (G_S : zz_G S) (H_S : zz_Hc S) (R_S : zz_Hr S) (O_S : 1 ≤ S 1079 36) (T0_S : S 1070 1 = S 1079 28) (T1_S : S 1031 6 = S 1079 1) (N_S : ∀ w : Nat, 1 ≤ w → w ≤ 20 → S 1100 w = zt_cd (zt_nw.getD w [])) (U_S : ∀ i : Int, 0 ≤ i → i < S 1070 1 → S 1071 i.toNat = S 1099 i.toNat) (hn : zz_end ≤ n) (hx : 0 ≤ x4 ∧ x4 ≤ 3590) (hkk : (k : Int) ≤ 200 + x4) (hjj : (j : Int) ≤ 30000 + 6 * x4) (hR : (3600 - x4).toNat < N + 1) (hc1 : x4 ≤ zz_ln g - 7) : zz_E g l zy_law_L room_1 (fun u => ∃ M1 n1, u = (.inl (some (zi 1)), M1, n1)) S n 392 [some (.ref 998), some (.ref 1000), some (.ref 1079), some (.ref 1121), some (zi x4)] [] k j := by
  have hln : 0 ≤ zz_ln g ∧ zz_ln g ≤ 3584 := ⟨Int.natCast_nonneg _, Int.ofNat_le.mpr hlen⟩
  have hk : k ≤ 601024 := by omega
  have hj : j ≤ 7293034 := by omega
  refine zz_aload_n (x := 1000) rfl zd_L_law_392 ?_
  refine zz_callVI [] zd_L_law_393 zk_TFLaw_125 zT_1000 (zz_ltn hn rfl) rfl rfl ⟨Nat.le_of_ble_eq_true rfl, Nat.le_of_ble_eq_true rfl⟩ ⟨rfl, rfl⟩ hk hj (zc_length_1_8  S (n) hn G_S ) (fun v140 S139 hP => ?_)
  obtain ⟨rfl, o141⟩ := hP
  refine zz_pop rfl zd_L_law_396 ?_
  refine zz_aload_n (x := 1079) rfl zd_L_law_397 ?_
  refine zz_callVI [] zd_L_law_398 zk_TFLaw_128 zT_1079 (zz_ltn hn rfl) rfl rfl ⟨Nat.le_of_ble_eq_true rfl, Nat.le_of_ble_eq_true rfl⟩ ⟨rfl, rfl⟩ hk hj (zc_length_14_17  S (n) hn G_S ) (fun v143 S142 hP => ?_)
  obtain ⟨G_S142, fS142, o144⟩ := hP
  have H_S142 : zz_Hc S142 := zz_Hc.fr (q := 0) fS142 rfl rfl G_S (by decide) rfl (fun b q h => h.elim) H_S
  have R_S142 : zz_Hr S142 := zz_Hr.fr fS142 rfl rfl (fun b q h => h.elim) R_S
  have O_S142 : 1 ≤ S142 1079 36 := by rw [show S142 1079 36 = S 1079 36 from zz_rc fS142 rfl rfl (fun h => h) rfl]; exact O_S
  refine zz_pop rfl zd_L_law_401 ?_
  refine zz_goto zd_L_law_402 ?_
  refine zz_iinc [some (.ref 998), some (.ref 1000), some (.ref 1079), some (.ref 1121), some (zi (x4 + 7))] zd_L_law_1180 rfl rfl ?_
  refine zz_goto zd_L_law_1183 ?_
  refine zz_less (ls1 := [some (.ref 998), some (.ref 1000), some (.ref 1079), some (.ref 1121), some (zi (x4 + 7))]) ⟨rfl, ⟨rfl, ⟨rfl, ⟨rfl, ⟨rfl, trivial⟩⟩⟩⟩⟩ ?_
  have g145 := zz_G.r G_S 1070 1 0 1500 rfl rfl
  have e146 : S142 1070 1 = S 1070 1 := (zz_rc fS142 rfl rfl (fun h => h) rfl)
  have g147 := zz_G.r G_S 1079 28 0 1500 rfl rfl
  have e148 : S142 1079 28 = S 1079 28 := (zz_rc fS142 rfl rfl (fun h => h) rfl)
  have g149 := zz_G.r G_S 1031 6 2 8 rfl rfl
  have e150 : S142 1031 6 = S 1031 6 := (zz_rc fS142 rfl rfl (fun h => h) rfl)
  have g151 := zz_G.r G_S 1079 1 2 8 rfl rfl
  have e152 : S142 1079 1 = S 1079 1 := (zz_rc fS142 rfl rfl (fun h => h) rfl)
  exact ih (x4 + 7) S142 (n) k j G_S142 H_S142 R_S142 O_S142 (by omega) (by omega) (fun u h1 h2 => ((zz_rc fS142 (zz_nc1 rfl) rfl (fun h => h) rfl) : S142 1100 u = S 1100 u).trans (N_S u h1 h2)) (fun i h1 h2 => ((zz_rc fS142 (zz_nc1 rfl) rfl (fun h => h) rfl) : S142 1071 i.toNat = S 1071 i.toNat).trans ((U_S i h1 (by omega)).trans ((zz_rc fS142 (zz_nc1 rfl) rfl (fun h => h) rfl) : S142 1099 i.toNat = S 1099 i.toNat).symm)) hn (by omega) (by show ((k : Nat) : Int) ≤ 200 + (x4 + 7); omega) (by show ((j : Nat) : Int) ≤ 30000 + 6 * (x4 + 7); omega) (by omega)
theorem zl_7 {g : mm_G} {l : Launch} (hfl : l.flags = flags0) (hlen : g.2.2.2 997 ≤ 3584) (N : Nat) (ih : ∀ (x4 : Int) (S : zz_S) (n k j : Nat), zz_G S → zz_Hc S → zz_Hr S → 1 ≤ S 1079 36 → S 1070 1 = S 1079 28 → S 1031 6 = S 1079 1 → (∀ w : Nat, 1 ≤ w → w ≤ 20 → S 1100 w = zt_cd (zt_nw.getD w [])) → (∀ i : Int, 0 ≤ i → i < S 1070 1 → S 1071 i.toNat = S 1099 i.toNat) → zz_end ≤ n → (0 ≤ x4 ∧ x4 ≤ 3590) → (k : Int) ≤ 200 + x4 → (j : Int) ≤ 30000 + 6 * x4 → (3600 - x4).toNat < N → zz_E g l zy_law_L room_1 (fun u => ∃ M1 n1, u = (.inl (some (zi 1)), M1, n1)) S n 23 [some (.ref 998), some (.ref 1000), some (.ref 1079), some (.ref 1121), some (zi x4)] [] k j) (x4 : Int) (S : zz_S) (n k j : Nat) (G_S : zz_G S) (H_S : zz_Hc S) (R_S : zz_Hr S) (O_S : 1 ≤ S 1079 36) (T0_S : S 1070 1 = S 1079 28) (T1_S : S 1031 6 = S 1079 1) (N_S : ∀ w : Nat, 1 ≤ w → w ≤ 20 → S 1100 w = zt_cd (zt_nw.getD w [])) (U_S : ∀ i : Int, 0 ≤ i → i < S 1070 1 → S 1071 i.toNat = S 1099 i.toNat) (hn : zz_end ≤ n) (hx : 0 ≤ x4 ∧ x4 ≤ 3590) (hkk : (k : Int) ≤ 200 + x4) (hjj : (j : Int) ≤ 30000 + 6 * x4) (hR : (3600 - x4).toNat < N + 1) (hc1 : x4 ≤ zz_ln g - 7) : zz_E g l zy_law_L room_1 (fun u => ∃ M1 n1, u = (.inl (some (zi 1)), M1, n1)) S n 405 [some (.ref 998), some (.ref 1000), some (.ref 1079), some (.ref 1121), some (zi x4)] [] k j := by
  have hln : 0 ≤ zz_ln g ∧ zz_ln g ≤ 3584 := ⟨Int.natCast_nonneg _, Int.ofNat_le.mpr hlen⟩
  have hk : k ≤ 601024 := by omega
  have hj : j ≤ 7293034 := by omega
  refine zz_aload_n (x := 1000) rfl zd_L_law_405 ?_
  refine zz_aload_n (x := 998) rfl zd_L_law_406 ?_
  refine zz_iload (x := x4) rfl zd_L_law_407 ?_
  refine zz_iconst zd_L_law_409 ?_
  refine zz_iadd zd_L_law_410 ?_
  refine zz_sld (by omega) zd_L_law_411 (by omega) ?_
  have g154 := zz_sc_r g (x4 + 1).toNat
  refine zz_i2l (by omega) zd_L_law_412 ?_
  refine zz_bipush (by decide) zd_L_law_413 ?_
  refine zz_lshl zd_L_law_415 (fun v155 hv155 ev155 => ?_)
  refine zz_aload_n (x := 998) rfl zd_L_law_416 ?_
  refine zz_iload (x := x4) rfl zd_L_law_417 ?_
  refine zz_iconst zd_L_law_419 ?_
  refine zz_iadd zd_L_law_420 ?_
  refine zz_sld (by omega) zd_L_law_421 (by omega) ?_
  have g156 := zz_sc_r g (x4 + 2).toNat
  refine zz_i2l (by omega) zd_L_law_422 ?_
  refine zz_ldc2 (z := 4294967295) zq_TFLaw_112 (by decide) zd_L_law_423 ?_
  refine zz_land zd_L_law_426 (fun v157 hv157 ev157 => ?_)
  have av157 := zz_band64 (by omega) (by omega) ev157
  refine zz_lor zd_L_law_427 (fun v158 hv158 ev158 => ?_)
  refine zz_aload_n (x := 998) rfl zd_L_law_428 ?_
  refine zz_iload (x := x4) rfl zd_L_law_429 ?_
  refine zz_iconst zd_L_law_431 ?_
  refine zz_iadd zd_L_law_432 ?_
  refine zz_sld (by omega) zd_L_law_433 (by omega) ?_
  have g159 := zz_sc_r g (x4 + 3).toNat
  refine zz_aload_n (x := 1121) rfl zd_L_law_434 ?_
  refine zz_callHW (rz := zr_field_L) [.ref 1000, zl v158, zi (zz_sc g (x4 + 3).toNat), .ref 1121] zd_L_law_435 zhl_field_L rfl rfl ⟨Nat.le_of_ble_eq_true rfl, Nat.le_of_ble_eq_true rfl⟩ (by show k + 1 ≤ 601024; omega) (by show j + 6 ≤ 7293034; omega) (zc_field_L v158 (zz_sc g (x4 + 3).toNat) S (n) hn hfl G_S (by omega) (by omega)) (fun v161 S160 d162 hd162 hP => ?_)
  obtain ⟨G_S160, fS160, rv161, o163, o164⟩ := hP
  have hn165 : zz_end ≤ n + d162 := by omega
  have hk166 : (k + zr_field_L.cells) ≤ 601024 := by show k + 1 ≤ 601024; omega
  have hj167 : (j + zr_field_L.slots) ≤ 7293034 := by show j + 6 ≤ 7293034; omega
  have H_S160 : zz_Hc S160 := zz_Hc.fr (q := 0) fS160 rfl rfl G_S (by decide) rfl (fun b q h => h.elim) H_S
  have R_S160 : zz_Hr S160 := zz_Hr.fr fS160 rfl rfl (fun b q h => h.elim) R_S
  have O_S160 : 1 ≤ S160 1079 36 := by rw [show S160 1079 36 = S 1079 36 from zz_rc fS160 rfl rfl (fun h => h) rfl]; exact O_S
  refine zz_istore [some (.ref 998), some (.ref 1000), some (.ref 1079), some (.ref 1121), some (zi x4), some (zi v161)] zd_L_law_438 (by decide) rfl ?_
  refine zz_aload_n (x := 1079) rfl zd_L_law_440 ?_
  refine zz_aload_n (x := 998) rfl zd_L_law_441 ?_
  refine zz_iload (x := x4) rfl zd_L_law_442 ?_
  refine zz_iconst zd_L_law_444 ?_
  refine zz_iadd zd_L_law_445 ?_
  refine zz_sld (by omega) zd_L_law_446 (by omega) ?_
  refine zz_i2l (by omega) zd_L_law_447 ?_
  refine zz_bipush (by decide) zd_L_law_448 ?_
  refine zz_lshl zd_L_law_450 (fun v168 hv168 ev168 => ?_)
  refine zz_aload_n (x := 998) rfl zd_L_law_451 ?_
  refine zz_iload (x := x4) rfl zd_L_law_452 ?_
  refine zz_iconst zd_L_law_454 ?_
  refine zz_iadd zd_L_law_455 ?_
  refine zz_sld (by omega) zd_L_law_456 (by omega) ?_
  refine zz_i2l (by omega) zd_L_law_457 ?_
  refine zz_ldc2 (z := 4294967295) zq_TFLaw_112 (by decide) zd_L_law_458 ?_
  refine zz_land zd_L_law_461 (fun v169 hv169 ev169 => ?_)
  have av169 := zz_band64 (by omega) (by omega) ev169
  refine zz_lor zd_L_law_462 (fun v170 hv170 ev170 => ?_)
  refine zz_aload_n (x := 998) rfl zd_L_law_463 ?_
  refine zz_iload (x := x4) rfl zd_L_law_464 ?_
  refine zz_iconst zd_L_law_466 ?_
  refine zz_iadd zd_L_law_467 ?_
  refine zz_sld (by omega) zd_L_law_468 (by omega) ?_
  refine zz_callVI [zl v170, zi (zz_sc g (x4 + 3).toNat)] zd_L_law_469 zk_TFLaw_132 zT_1079 (zz_ltn hn165 rfl) rfl rfl ⟨Nat.le_of_ble_eq_true rfl, Nat.le_of_ble_eq_true rfl⟩ ⟨rfl, rfl⟩ hk166 hj167 (zc_field_14_13 v170 (zz_sc g (x4 + 3).toNat) S160 (n + d162) hn165 G_S160 (by omega) (by omega)) (fun v172 S171 hP => ?_)
  obtain ⟨G_S171, fS171, o173, o174, o175⟩ := hP
  have H_S171 : zz_Hc S171 := zz_Hc.fr (q := 0) fS171 rfl rfl G_S160 (by decide) rfl (fun b q h => h.elim) H_S160
  have R_S171 : zz_Hr S171 := zz_Hr.fr fS171 rfl rfl (fun b q h => h.elim) R_S160
  have O_S171 : 1 ≤ S171 1079 36 := by rw [show S171 1079 36 = S160 1079 36 from zz_rc fS171 rfl rfl (fun h => h) rfl]; exact O_S160
  refine zz_istore [some (.ref 998), some (.ref 1000), some (.ref 1079), some (.ref 1121), some (zi x4), some (zi v161), some (zi v172)] zd_L_law_472 (by decide) rfl ?_
  refine zz_goto zd_L_law_474 ?_
  refine zz_iinc [some (.ref 998), some (.ref 1000), some (.ref 1079), some (.ref 1121), some (zi (x4 + 7)), some (zi v161), some (zi v172)] zd_L_law_1180 rfl rfl ?_
  refine zz_goto zd_L_law_1183 ?_
  refine zz_less (ls1 := [some (.ref 998), some (.ref 1000), some (.ref 1079), some (.ref 1121), some (zi (x4 + 7))]) ⟨rfl, ⟨rfl, ⟨rfl, ⟨rfl, ⟨rfl, trivial⟩⟩⟩⟩⟩ ?_
  have g176 := zz_G.r G_S 1070 1 0 1500 rfl rfl
  have e177 : S171 1070 1 = S 1070 1 := (zz_rc fS171 rfl rfl (fun h => h) (zz_rc fS160 rfl rfl (fun h => h) rfl))
  have g178 := zz_G.r G_S 1079 28 0 1500 rfl rfl
  have e179 : S171 1079 28 = S 1079 28 := (zz_rc fS171 rfl rfl (fun h => h) (zz_rc fS160 rfl rfl (fun h => h) rfl))
  have g180 := zz_G.r G_S 1031 6 2 8 rfl rfl
  have e181 : S171 1031 6 = S 1031 6 := (zz_rc fS171 rfl rfl (fun h => h) (zz_rc fS160 rfl rfl (fun h => h) rfl))
  have g182 := zz_G.r G_S 1079 1 2 8 rfl rfl
  have e183 : S171 1079 1 = S 1079 1 := (zz_rc fS171 rfl rfl (fun h => h) (zz_rc fS160 rfl rfl (fun h => h) rfl))
  exact ih (x4 + 7) S171 (n + d162) (k + zr_field_L.cells) (j + zr_field_L.slots) G_S171 H_S171 R_S171 O_S171 (by omega) (by omega) (fun u h1 h2 => ((zz_rc fS171 (zz_nc1 rfl) rfl (fun h => h) (zz_rc fS160 (zz_nc1 rfl) rfl (fun h => h) rfl)) : S171 1100 u = S 1100 u).trans (N_S u h1 h2)) (fun i h1 h2 => ((zz_rc fS171 (zz_nc1 rfl) rfl (fun h => h) (zz_rc fS160 (zz_nc1 rfl) rfl (fun h => h) rfl)) : S171 1071 i.toNat = S 1071 i.toNat).trans ((U_S i h1 (by omega)).trans ((zz_rc fS171 (zz_nc1 rfl) rfl (fun h => h) (zz_rc fS160 (zz_nc1 rfl) rfl (fun h => h) rfl)) : S171 1099 i.toNat = S 1099 i.toNat).symm)) hn165 (by omega) (by show ((k + 1 : Nat) : Int) ≤ 200 + (x4 + 7); omega) (by show ((j + 6 : Nat) : Int) ≤ 30000 + 6 * (x4 + 7); omega) (by omega)
theorem zl_8 {g : mm_G} {l : Launch} (hfl : l.flags = flags0) (hlen : g.2.2.2 997 ≤ 3584) (N : Nat) (ih : ∀ (x4 : Int) (S : zz_S) (n k j : Nat), zz_G S → zz_Hc S → zz_Hr S → 1 ≤ S 1079 36 → S 1070 1 = S 1079 28 → S 1031 6 = S 1079 1 → (∀ w : Nat, 1 ≤ w → w ≤ 20 → S 1100 w = zt_cd (zt_nw.getD w [])) → (∀ i : Int, 0 ≤ i → i < S 1070 1 → S 1071 i.toNat = S 1099 i.toNat) → zz_end ≤ n → (0 ≤ x4 ∧ x4 ≤ 3590) → (k : Int) ≤ 200 + x4 → (j : Int) ≤ 30000 + 6 * x4 → (3600 - x4).toNat < N → zz_E g l zy_law_L room_1 (fun u => ∃ M1 n1, u = (.inl (some (zi 1)), M1, n1)) S n 23 [some (.ref 998), some (.ref 1000), some (.ref 1079), some (.ref 1121), some (zi x4)] [] k j) (x4 : Int) (S : zz_S) (n k j : Nat) (G_S : zz_G S) (H_S : zz_Hc S) (R_S : zz_Hr S) (O_S : 1 ≤ S 1079 36) (T0_S : S 1070 1 = S 1079 28) (T1_S : S 1031 6 = S 1079 1) (N_S : ∀ w : Nat, 1 ≤ w → w ≤ 20 → S 1100 w = zt_cd (zt_nw.getD w [])) (U_S : ∀ i : Int, 0 ≤ i → i < S 1070 1 → S 1071 i.toNat = S 1099 i.toNat) (hn : zz_end ≤ n) (hx : 0 ≤ x4 ∧ x4 ≤ 3590) (hkk : (k : Int) ≤ 200 + x4) (hjj : (j : Int) ≤ 30000 + 6 * x4) (hR : (3600 - x4).toNat < N + 1) (hc1 : x4 ≤ zz_ln g - 7) : zz_E g l zy_law_L room_1 (fun u => ∃ M1 n1, u = (.inl (some (zi 1)), M1, n1)) S n 477 [some (.ref 998), some (.ref 1000), some (.ref 1079), some (.ref 1121), some (zi x4)] [] k j := by
  have hln : 0 ≤ zz_ln g ∧ zz_ln g ≤ 3584 := ⟨Int.natCast_nonneg _, Int.ofNat_le.mpr hlen⟩
  have hk : k ≤ 601024 := by omega
  have hj : j ≤ 7293034 := by omega
  refine zz_aload_n (x := 1000) rfl zd_L_law_477 ?_
  refine zz_aload_n (x := 998) rfl zd_L_law_478 ?_
  refine zz_iload (x := x4) rfl zd_L_law_479 ?_
  refine zz_iconst zd_L_law_481 ?_
  refine zz_iadd zd_L_law_482 ?_
  refine zz_sld (by omega) zd_L_law_483 (by omega) ?_
  have g185 := zz_sc_r g (x4 + 1).toNat
  refine zz_i2l (by omega) zd_L_law_484 ?_
  refine zz_bipush (by decide) zd_L_law_485 ?_
  refine zz_lshl zd_L_law_487 (fun v186 hv186 ev186 => ?_)
  refine zz_aload_n (x := 998) rfl zd_L_law_488 ?_
  refine zz_iload (x := x4) rfl zd_L_law_489 ?_
  refine zz_iconst zd_L_law_491 ?_
  refine zz_iadd zd_L_law_492 ?_
  refine zz_sld (by omega) zd_L_law_493 (by omega) ?_
  have g187 := zz_sc_r g (x4 + 2).toNat
  refine zz_i2l (by omega) zd_L_law_494 ?_
  refine zz_ldc2 (z := 4294967295) zq_TFLaw_112 (by decide) zd_L_law_495 ?_
  refine zz_land zd_L_law_498 (fun v188 hv188 ev188 => ?_)
  have av188 := zz_band64 (by omega) (by omega) ev188
  refine zz_lor zd_L_law_499 (fun v189 hv189 ev189 => ?_)
  have g190 := zz_G.r G_S 1031 6 2 8 rfl rfl
  refine zz_callVI [zl v189] zd_L_law_500 zk_TFLaw_133 zT_1000 (zz_ltn hn rfl) rfl rfl ⟨Nat.le_of_ble_eq_true rfl, Nat.le_of_ble_eq_true rfl⟩ ⟨rfl, rfl⟩ hk hj (zc_illegal_1_10 v189 S (n) hn G_S (by omega)) (fun v192 S191 hP => ?_)
  obtain ⟨G_S191, fS191, o193, o194⟩ := hP
  have H_S191 : zz_Hc S191 := zz_Hc.fr (q := 0) fS191 rfl rfl G_S (by decide) rfl (fun b q h => h.elim) H_S
  have R_S191 : zz_Hr S191 := zz_Hr.fr fS191 rfl rfl (fun b q h => h.elim) R_S
  have O_S191 : 1 ≤ S191 1079 36 := by rw [show S191 1079 36 = S 1079 36 from zz_rc fS191 rfl rfl (fun h => h) rfl]; exact O_S
  rcases (by omega : v192 = 0 ∨ v192 = 1) with rfl | rfl
  · refine zz_pop rfl zd_L_law_503 ?_
    refine zz_aload_n (x := 1079) rfl zd_L_law_504 ?_
    refine zz_aload_n (x := 998) rfl zd_L_law_505 ?_
    refine zz_iload (x := x4) rfl zd_L_law_506 ?_
    refine zz_iconst zd_L_law_508 ?_
    refine zz_iadd zd_L_law_509 ?_
    refine zz_sld (by omega) zd_L_law_510 (by omega) ?_
    refine zz_i2l (by omega) zd_L_law_511 ?_
    refine zz_bipush (by decide) zd_L_law_512 ?_
    refine zz_lshl zd_L_law_514 (fun v195 hv195 ev195 => ?_)
    refine zz_aload_n (x := 998) rfl zd_L_law_515 ?_
    refine zz_iload (x := x4) rfl zd_L_law_516 ?_
    refine zz_iconst zd_L_law_518 ?_
    refine zz_iadd zd_L_law_519 ?_
    refine zz_sld (by omega) zd_L_law_520 (by omega) ?_
    refine zz_i2l (by omega) zd_L_law_521 ?_
    refine zz_ldc2 (z := 4294967295) zq_TFLaw_112 (by decide) zd_L_law_522 ?_
    refine zz_land zd_L_law_525 (fun v196 hv196 ev196 => ?_)
    have av196 := zz_band64 (by omega) (by omega) ev196
    refine zz_lor zd_L_law_526 (fun v197 hv197 ev197 => ?_)
    have g198 := zz_G.r G_S 1079 1 2 8 rfl rfl
    have e199 : S191 1079 1 = S 1079 1 := (zz_rc fS191 rfl rfl (fun h => h) rfl)
    refine zz_callVI [zl v197] zd_L_law_527 zk_TFLaw_137 zT_1079 (zz_ltn hn rfl) rfl rfl ⟨Nat.le_of_ble_eq_true rfl, Nat.le_of_ble_eq_true rfl⟩ ⟨rfl, rfl⟩ hk hj (zc_illegal_14_25 v197 S191 (n) hn G_S191 (by omega)) (fun v201 S200 hP => ?_)
    obtain ⟨G_S200, fS200, o202, o203, o204⟩ := hP
    have H_S200 : zz_Hc S200 := zz_Hc.fr (q := 0) fS200 rfl rfl G_S191 (by decide) rfl (fun b q h => h.elim) H_S191
    have R_S200 : zz_Hr S200 := zz_Hr.fr fS200 rfl rfl (fun b q h => h.elim) R_S191
    have O_S200 : 1 ≤ S200 1079 36 := by rw [show S200 1079 36 = S191 1079 36 from zz_rc fS200 rfl rfl (fun h => h) rfl]; exact O_S191
    rcases (by omega : v201 = 0 ∨ v201 = 1) with rfl | rfl
    · refine zz_pop rfl zd_L_law_530 ?_
      refine zz_goto zd_L_law_531 ?_
      refine zz_iinc [some (.ref 998), some (.ref 1000), some (.ref 1079), some (.ref 1121), some (zi (x4 + 7))] zd_L_law_1180 rfl rfl ?_
      refine zz_goto zd_L_law_1183 ?_
      refine zz_less (ls1 := [some (.ref 998), some (.ref 1000), some (.ref 1079), some (.ref 1121), some (zi (x4 + 7))]) ⟨rfl, ⟨rfl, ⟨rfl, ⟨rfl, ⟨rfl, trivial⟩⟩⟩⟩⟩ ?_
      have g205 := zz_G.r G_S 1070 1 0 1500 rfl rfl
      have e206 : S200 1070 1 = S 1070 1 := (zz_rc fS200 rfl rfl (fun h => h) (zz_rc fS191 rfl rfl (fun h => h) rfl))
      have g207 := zz_G.r G_S 1079 28 0 1500 rfl rfl
      have e208 : S200 1079 28 = S 1079 28 := (zz_rc fS200 rfl rfl (fun h => h) (zz_rc fS191 rfl rfl (fun h => h) rfl))
      have e209 : S200 1031 6 = S 1031 6 := (zz_rc fS200 rfl rfl (fun h => h) (zz_rc fS191 rfl rfl (fun h => h) rfl))
      have e210 : S200 1079 1 = S 1079 1 := (zz_rc fS200 rfl rfl (fun h => h) (zz_rc fS191 rfl rfl (fun h => h) rfl))
      exact ih (x4 + 7) S200 (n) k j G_S200 H_S200 R_S200 O_S200 (by omega) (by omega) (fun u h1 h2 => ((zz_rc fS200 (zz_nc1 rfl) rfl (fun h => h) (zz_rc fS191 (zz_nc1 rfl) rfl (fun h => h) rfl)) : S200 1100 u = S 1100 u).trans (N_S u h1 h2)) (fun i h1 h2 => ((zz_rc fS200 (zz_nc1 rfl) rfl (fun h => h) (zz_rc fS191 (zz_nc1 rfl) rfl (fun h => h) rfl)) : S200 1071 i.toNat = S 1071 i.toNat).trans ((U_S i h1 (by omega)).trans ((zz_rc fS200 (zz_nc1 rfl) rfl (fun h => h) (zz_rc fS191 (zz_nc1 rfl) rfl (fun h => h) rfl)) : S200 1099 i.toNat = S 1099 i.toNat).symm)) hn (by omega) (by show ((k : Nat) : Int) ≤ 200 + (x4 + 7); omega) (by show ((j : Nat) : Int) ≤ 30000 + 6 * (x4 + 7); omega) (by omega)
    · refine zz_pop rfl zd_L_law_530 ?_
      refine zz_goto zd_L_law_531 ?_
      refine zz_iinc [some (.ref 998), some (.ref 1000), some (.ref 1079), some (.ref 1121), some (zi (x4 + 7))] zd_L_law_1180 rfl rfl ?_
      refine zz_goto zd_L_law_1183 ?_
      refine zz_less (ls1 := [some (.ref 998), some (.ref 1000), some (.ref 1079), some (.ref 1121), some (zi (x4 + 7))]) ⟨rfl, ⟨rfl, ⟨rfl, ⟨rfl, ⟨rfl, trivial⟩⟩⟩⟩⟩ ?_
      have g211 := zz_G.r G_S 1070 1 0 1500 rfl rfl
      have e212 : S200 1070 1 = S 1070 1 := (zz_rc fS200 rfl rfl (fun h => h) (zz_rc fS191 rfl rfl (fun h => h) rfl))
      have g213 := zz_G.r G_S 1079 28 0 1500 rfl rfl
      have e214 : S200 1079 28 = S 1079 28 := (zz_rc fS200 rfl rfl (fun h => h) (zz_rc fS191 rfl rfl (fun h => h) rfl))
      have e215 : S200 1031 6 = S 1031 6 := (zz_rc fS200 rfl rfl (fun h => h) (zz_rc fS191 rfl rfl (fun h => h) rfl))
      have e216 : S200 1079 1 = S 1079 1 := (zz_rc fS200 rfl rfl (fun h => h) (zz_rc fS191 rfl rfl (fun h => h) rfl))
      exact ih (x4 + 7) S200 (n) k j G_S200 H_S200 R_S200 O_S200 (by omega) (by omega) (fun u h1 h2 => ((zz_rc fS200 (zz_nc1 rfl) rfl (fun h => h) (zz_rc fS191 (zz_nc1 rfl) rfl (fun h => h) rfl)) : S200 1100 u = S 1100 u).trans (N_S u h1 h2)) (fun i h1 h2 => ((zz_rc fS200 (zz_nc1 rfl) rfl (fun h => h) (zz_rc fS191 (zz_nc1 rfl) rfl (fun h => h) rfl)) : S200 1071 i.toNat = S 1071 i.toNat).trans ((U_S i h1 (by omega)).trans ((zz_rc fS200 (zz_nc1 rfl) rfl (fun h => h) (zz_rc fS191 (zz_nc1 rfl) rfl (fun h => h) rfl)) : S200 1099 i.toNat = S 1099 i.toNat).symm)) hn (by omega) (by show ((k : Nat) : Int) ≤ 200 + (x4 + 7); omega) (by show ((j : Nat) : Int) ≤ 30000 + 6 * (x4 + 7); omega) (by omega)
  · refine zz_pop rfl zd_L_law_503 ?_
    refine zz_aload_n (x := 1079) rfl zd_L_law_504 ?_
    refine zz_aload_n (x := 998) rfl zd_L_law_505 ?_
    refine zz_iload (x := x4) rfl zd_L_law_506 ?_
    refine zz_iconst zd_L_law_508 ?_
    refine zz_iadd zd_L_law_509 ?_
    refine zz_sld (by omega) zd_L_law_510 (by omega) ?_
    refine zz_i2l (by omega) zd_L_law_511 ?_
    refine zz_bipush (by decide) zd_L_law_512 ?_
    refine zz_lshl zd_L_law_514 (fun v217 hv217 ev217 => ?_)
    refine zz_aload_n (x := 998) rfl zd_L_law_515 ?_
    refine zz_iload (x := x4) rfl zd_L_law_516 ?_
    refine zz_iconst zd_L_law_518 ?_
    refine zz_iadd zd_L_law_519 ?_
    refine zz_sld (by omega) zd_L_law_520 (by omega) ?_
    refine zz_i2l (by omega) zd_L_law_521 ?_
    refine zz_ldc2 (z := 4294967295) zq_TFLaw_112 (by decide) zd_L_law_522 ?_
    refine zz_land zd_L_law_525 (fun v218 hv218 ev218 => ?_)
    have av218 := zz_band64 (by omega) (by omega) ev218
    refine zz_lor zd_L_law_526 (fun v219 hv219 ev219 => ?_)
    have g220 := zz_G.r G_S 1079 1 2 8 rfl rfl
    have e221 : S191 1079 1 = S 1079 1 := (zz_rc fS191 rfl rfl (fun h => h) rfl)
    refine zz_callVI [zl v219] zd_L_law_527 zk_TFLaw_137 zT_1079 (zz_ltn hn rfl) rfl rfl ⟨Nat.le_of_ble_eq_true rfl, Nat.le_of_ble_eq_true rfl⟩ ⟨rfl, rfl⟩ hk hj (zc_illegal_14_25 v219 S191 (n) hn G_S191 (by omega)) (fun v223 S222 hP => ?_)
    obtain ⟨G_S222, fS222, o224, o225, o226⟩ := hP
    have H_S222 : zz_Hc S222 := zz_Hc.fr (q := 0) fS222 rfl rfl G_S191 (by decide) rfl (fun b q h => h.elim) H_S191
    have R_S222 : zz_Hr S222 := zz_Hr.fr fS222 rfl rfl (fun b q h => h.elim) R_S191
    have O_S222 : 1 ≤ S222 1079 36 := by rw [show S222 1079 36 = S191 1079 36 from zz_rc fS222 rfl rfl (fun h => h) rfl]; exact O_S191
    rcases (by omega : v223 = 0 ∨ v223 = 1) with rfl | rfl
    · refine zz_pop rfl zd_L_law_530 ?_
      refine zz_goto zd_L_law_531 ?_
      refine zz_iinc [some (.ref 998), some (.ref 1000), some (.ref 1079), some (.ref 1121), some (zi (x4 + 7))] zd_L_law_1180 rfl rfl ?_
      refine zz_goto zd_L_law_1183 ?_
      refine zz_less (ls1 := [some (.ref 998), some (.ref 1000), some (.ref 1079), some (.ref 1121), some (zi (x4 + 7))]) ⟨rfl, ⟨rfl, ⟨rfl, ⟨rfl, ⟨rfl, trivial⟩⟩⟩⟩⟩ ?_
      have g227 := zz_G.r G_S 1070 1 0 1500 rfl rfl
      have e228 : S222 1070 1 = S 1070 1 := (zz_rc fS222 rfl rfl (fun h => h) (zz_rc fS191 rfl rfl (fun h => h) rfl))
      have g229 := zz_G.r G_S 1079 28 0 1500 rfl rfl
      have e230 : S222 1079 28 = S 1079 28 := (zz_rc fS222 rfl rfl (fun h => h) (zz_rc fS191 rfl rfl (fun h => h) rfl))
      have e231 : S222 1031 6 = S 1031 6 := (zz_rc fS222 rfl rfl (fun h => h) (zz_rc fS191 rfl rfl (fun h => h) rfl))
      have e232 : S222 1079 1 = S 1079 1 := (zz_rc fS222 rfl rfl (fun h => h) (zz_rc fS191 rfl rfl (fun h => h) rfl))
      exact ih (x4 + 7) S222 (n) k j G_S222 H_S222 R_S222 O_S222 (by omega) (by omega) (fun u h1 h2 => ((zz_rc fS222 (zz_nc1 rfl) rfl (fun h => h) (zz_rc fS191 (zz_nc1 rfl) rfl (fun h => h) rfl)) : S222 1100 u = S 1100 u).trans (N_S u h1 h2)) (fun i h1 h2 => ((zz_rc fS222 (zz_nc1 rfl) rfl (fun h => h) (zz_rc fS191 (zz_nc1 rfl) rfl (fun h => h) rfl)) : S222 1071 i.toNat = S 1071 i.toNat).trans ((U_S i h1 (by omega)).trans ((zz_rc fS222 (zz_nc1 rfl) rfl (fun h => h) (zz_rc fS191 (zz_nc1 rfl) rfl (fun h => h) rfl)) : S222 1099 i.toNat = S 1099 i.toNat).symm)) hn (by omega) (by show ((k : Nat) : Int) ≤ 200 + (x4 + 7); omega) (by show ((j : Nat) : Int) ≤ 30000 + 6 * (x4 + 7); omega) (by omega)
    · refine zz_pop rfl zd_L_law_530 ?_
      refine zz_goto zd_L_law_531 ?_
      refine zz_iinc [some (.ref 998), some (.ref 1000), some (.ref 1079), some (.ref 1121), some (zi (x4 + 7))] zd_L_law_1180 rfl rfl ?_
      refine zz_goto zd_L_law_1183 ?_
      refine zz_less (ls1 := [some (.ref 998), some (.ref 1000), some (.ref 1079), some (.ref 1121), some (zi (x4 + 7))]) ⟨rfl, ⟨rfl, ⟨rfl, ⟨rfl, ⟨rfl, trivial⟩⟩⟩⟩⟩ ?_
      have g233 := zz_G.r G_S 1070 1 0 1500 rfl rfl
      have e234 : S222 1070 1 = S 1070 1 := (zz_rc fS222 rfl rfl (fun h => h) (zz_rc fS191 rfl rfl (fun h => h) rfl))
      have g235 := zz_G.r G_S 1079 28 0 1500 rfl rfl
      have e236 : S222 1079 28 = S 1079 28 := (zz_rc fS222 rfl rfl (fun h => h) (zz_rc fS191 rfl rfl (fun h => h) rfl))
      have e237 : S222 1031 6 = S 1031 6 := (zz_rc fS222 rfl rfl (fun h => h) (zz_rc fS191 rfl rfl (fun h => h) rfl))
      have e238 : S222 1079 1 = S 1079 1 := (zz_rc fS222 rfl rfl (fun h => h) (zz_rc fS191 rfl rfl (fun h => h) rfl))
      exact ih (x4 + 7) S222 (n) k j G_S222 H_S222 R_S222 O_S222 (by omega) (by omega) (fun u h1 h2 => ((zz_rc fS222 (zz_nc1 rfl) rfl (fun h => h) (zz_rc fS191 (zz_nc1 rfl) rfl (fun h => h) rfl)) : S222 1100 u = S 1100 u).trans (N_S u h1 h2)) (fun i h1 h2 => ((zz_rc fS222 (zz_nc1 rfl) rfl (fun h => h) (zz_rc fS191 (zz_nc1 rfl) rfl (fun h => h) rfl)) : S222 1071 i.toNat = S 1071 i.toNat).trans ((U_S i h1 (by omega)).trans ((zz_rc fS222 (zz_nc1 rfl) rfl (fun h => h) (zz_rc fS191 (zz_nc1 rfl) rfl (fun h => h) rfl)) : S222 1099 i.toNat = S 1099 i.toNat).symm)) hn (by omega) (by show ((k : Nat) : Int) ≤ 200 + (x4 + 7); omega) (by show ((j : Nat) : Int) ≤ 30000 + 6 * (x4 + 7); omega) (by omega)
theorem zl_9 {g : mm_G} {l : Launch} (hfl : l.flags = flags0) (hlen : g.2.2.2 997 ≤ 3584) (N : Nat) (ih : ∀ (x4 : Int) (S : zz_S) (n k j : Nat), zz_G S → zz_Hc S → zz_Hr S → 1 ≤ S 1079 36 → S 1070 1 = S 1079 28 → S 1031 6 = S 1079 1 → (∀ w : Nat, 1 ≤ w → w ≤ 20 → S 1100 w = zt_cd (zt_nw.getD w [])) → (∀ i : Int, 0 ≤ i → i < S 1070 1 → S 1071 i.toNat = S 1099 i.toNat) → zz_end ≤ n → (0 ≤ x4 ∧ x4 ≤ 3590) → (k : Int) ≤ 200 + x4 → (j : Int) ≤ 30000 + 6 * x4 → (3600 - x4).toNat < N → zz_E g l zy_law_L room_1 (fun u => ∃ M1 n1, u = (.inl (some (zi 1)), M1, n1)) S n 23 [some (.ref 998), some (.ref 1000), some (.ref 1079), some (.ref 1121), some (zi x4)] [] k j) (x4 : Int) (S : zz_S) (n k j : Nat) (G_S : zz_G S) (H_S : zz_Hc S) (R_S : zz_Hr S) (O_S : 1 ≤ S 1079 36) (T0_S : S 1070 1 = S 1079 28) (T1_S : S 1031 6 = S 1079 1) (N_S : ∀ w : Nat, 1 ≤ w → w ≤ 20 → S 1100 w = zt_cd (zt_nw.getD w [])) (U_S : ∀ i : Int, 0 ≤ i → i < S 1070 1 → S 1071 i.toNat = S 1099 i.toNat) (hn : zz_end ≤ n) (hx : 0 ≤ x4 ∧ x4 ≤ 3590) (hkk : (k : Int) ≤ 200 + x4) (hjj : (j : Int) ≤ 30000 + 6 * x4) (hR : (3600 - x4).toNat < N + 1) (hc1 : x4 ≤ zz_ln g - 7) : zz_E g l zy_law_L room_1 (fun u => ∃ M1 n1, u = (.inl (some (zi 1)), M1, n1)) S n 534 [some (.ref 998), some (.ref 1000), some (.ref 1079), some (.ref 1121), some (zi x4)] [] k j := by
  have hln : 0 ≤ zz_ln g ∧ zz_ln g ≤ 3584 := ⟨Int.natCast_nonneg _, Int.ofNat_le.mpr hlen⟩
  have hk : k ≤ 601024 := by omega
  have hj : j ≤ 7293034 := by omega
  refine zz_aload_n (x := 1000) rfl zd_L_law_534 ?_
  refine zz_aload_n (x := 998) rfl zd_L_law_535 ?_
  refine zz_iload (x := x4) rfl zd_L_law_536 ?_
  refine zz_iconst zd_L_law_538 ?_
  refine zz_iadd zd_L_law_539 ?_
  refine zz_sld (by omega) zd_L_law_540 (by omega) ?_
  have g240 := zz_sc_r g (x4 + 1).toNat
  refine zz_aload_n (x := 1121) rfl zd_L_law_541 ?_
  refine zz_callHW (rz := zr_put_L) [.ref 1000, zi (zz_sc g (x4 + 1).toNat), .ref 1121] zd_L_law_542 zhl_put_L rfl rfl ⟨Nat.le_of_ble_eq_true rfl, Nat.le_of_ble_eq_true rfl⟩ (by show k + 1 ≤ 601024; omega) (by show j + 6 ≤ 7293034; omega) (zc_put_L (zz_sc g (x4 + 1).toNat) S (n) hn hfl G_S (by omega)) (fun v242 S241 d243 hd243 hP => ?_)
  obtain ⟨G_S241, fS241, rv242, o244, o245⟩ := hP
  have hn246 : zz_end ≤ n + d243 := by omega
  have hk247 : (k + zr_put_L.cells) ≤ 601024 := by show k + 1 ≤ 601024; omega
  have hj248 : (j + zr_put_L.slots) ≤ 7293034 := by show j + 6 ≤ 7293034; omega
  have H_S241 : zz_Hc S241 := zz_Hc.fr (q := 0) fS241 rfl rfl G_S (by decide) rfl (fun b q h => h.elim) H_S
  have R_S241 : zz_Hr S241 := zz_Hr.fr fS241 rfl rfl (fun b q h => h.elim) R_S
  have O_S241 : 1 ≤ S241 1079 36 := by rw [show S241 1079 36 = S 1079 36 from zz_rc fS241 rfl rfl (fun h => h) rfl]; exact O_S
  refine zz_istore [some (.ref 998), some (.ref 1000), some (.ref 1079), some (.ref 1121), some (zi x4), some (zi v242)] zd_L_law_545 (by decide) rfl ?_
  refine zz_aload_n (x := 1079) rfl zd_L_law_547 ?_
  refine zz_aload_n (x := 998) rfl zd_L_law_548 ?_
  refine zz_iload (x := x4) rfl zd_L_law_549 ?_
  refine zz_iconst zd_L_law_551 ?_
  refine zz_iadd zd_L_law_552 ?_
  refine zz_sld (by omega) zd_L_law_553 (by omega) ?_
  have g249 := zz_G.r G_S 1079 28 0 1500 rfl rfl
  have e250 : S241 1079 28 = S 1079 28 := (zz_rc fS241 rfl rfl (fun h => h) rfl)
  refine zz_callVI [zi (zz_sc g (x4 + 1).toNat)] zd_L_law_554 zk_TFLaw_140 zT_1079 (zz_ltn hn246 rfl) rfl rfl ⟨Nat.le_of_ble_eq_true rfl, Nat.le_of_ble_eq_true rfl⟩ ⟨rfl, rfl⟩ hk247 hj248 (zc_put_14_47 (zz_sc g (x4 + 1).toNat) S241 (n + d243) hn246 G_S241 (by omega)) (fun v252 S251 hP => ?_)
  obtain ⟨G_S251, fS251, o253, o254, o255⟩ := hP
  have H_S251 : zz_Hc S251 := zz_Hc.fr (q := 0) fS251 rfl rfl G_S241 (by decide) rfl (fun b q h => h.elim) H_S241
  have R_S251 : zz_Hr S251 := zz_Hr.fr fS251 rfl rfl (fun b q h => h.elim) R_S241
  have O_S251 : 1 ≤ S251 1079 36 := by rw [show S251 1079 36 = S241 1079 36 from zz_rc fS251 rfl rfl (fun h => h) rfl]; exact O_S241
  refine zz_istore [some (.ref 998), some (.ref 1000), some (.ref 1079), some (.ref 1121), some (zi x4), some (zi v242), some (zi v252)] zd_L_law_557 (by decide) rfl ?_
  refine zz_goto zd_L_law_559 ?_
  refine zz_iinc [some (.ref 998), some (.ref 1000), some (.ref 1079), some (.ref 1121), some (zi (x4 + 7)), some (zi v242), some (zi v252)] zd_L_law_1180 rfl rfl ?_
  refine zz_goto zd_L_law_1183 ?_
  refine zz_less (ls1 := [some (.ref 998), some (.ref 1000), some (.ref 1079), some (.ref 1121), some (zi (x4 + 7))]) ⟨rfl, ⟨rfl, ⟨rfl, ⟨rfl, ⟨rfl, trivial⟩⟩⟩⟩⟩ ?_
  have g256 := zz_G.r G_S241 1070 1 0 1500 rfl rfl
  have e257 : S251 1070 1 = S241 1070 1 := (zz_rc fS251 rfl rfl (fun h => h) rfl)
  have g258 := zz_G.r G_S251 1079 28 0 1500 rfl rfl
  have g259 := zz_G.r G_S 1031 6 2 8 rfl rfl
  have e260 : S251 1031 6 = S 1031 6 := (zz_rc fS251 rfl rfl (fun h => h) (zz_rc fS241 rfl rfl (fun h => h) rfl))
  have g261 := zz_G.r G_S 1079 1 2 8 rfl rfl
  have e262 : S251 1079 1 = S 1079 1 := (zz_rc fS251 rfl rfl (fun h => h) (zz_rc fS241 rfl rfl (fun h => h) rfl))
  have hp1 := o245
  have hp2 := o255
  rw [show S241 1099 = S 1099 from funext (fun u => ((zz_rc fS241 (zz_nc1 rfl) rfl (fun h => h) rfl) : S241 1099 u = S 1099 u))] at hp2
  rw [show S241 1071 = S251 1071 from funext (fun u => ((zz_rc fS251 (zz_nc1 rfl) rfl (fun h => h) rfl) : S251 1071 u = S241 1071 u).symm)] at hp1
  exact ih (x4 + 7) S251 (n + d243) (k + zr_put_L.cells) (j + zr_put_L.slots) G_S251 H_S251 R_S251 O_S251 (by omega) (by omega) (fun u h1 h2 => ((zz_rc fS251 (zz_nc1 rfl) rfl (fun h => h) (zz_rc fS241 (zz_nc1 rfl) rfl (fun h => h) rfl)) : S251 1100 u = S 1100 u).trans (N_S u h1 h2)) (zt_ptU (by omega) U_S hp1 hp2 (by omega) (by omega) (by omega)) hn246 (by omega) (by show ((k + 1 : Nat) : Int) ≤ 200 + (x4 + 7); omega) (by show ((j + 6 : Nat) : Int) ≤ 30000 + 6 * (x4 + 7); omega) (by omega)
theorem zl_10 {g : mm_G} {l : Launch} (hfl : l.flags = flags0) (hlen : g.2.2.2 997 ≤ 3584) (N : Nat) (ih : ∀ (x4 : Int) (S : zz_S) (n k j : Nat), zz_G S → zz_Hc S → zz_Hr S → 1 ≤ S 1079 36 → S 1070 1 = S 1079 28 → S 1031 6 = S 1079 1 → (∀ w : Nat, 1 ≤ w → w ≤ 20 → S 1100 w = zt_cd (zt_nw.getD w [])) → (∀ i : Int, 0 ≤ i → i < S 1070 1 → S 1071 i.toNat = S 1099 i.toNat) → zz_end ≤ n → (0 ≤ x4 ∧ x4 ≤ 3590) → (k : Int) ≤ 200 + x4 → (j : Int) ≤ 30000 + 6 * x4 → (3600 - x4).toNat < N → zz_E g l zy_law_L room_1 (fun u => ∃ M1 n1, u = (.inl (some (zi 1)), M1, n1)) S n 23 [some (.ref 998), some (.ref 1000), some (.ref 1079), some (.ref 1121), some (zi x4)] [] k j) (x4 : Int) (S : zz_S) (n k j : Nat) (G_S : zz_G S) (H_S : zz_Hc S) (R_S : zz_Hr S) (O_S : 1 ≤ S 1079 36) (T0_S : S 1070 1 = S 1079 28) (T1_S : S 1031 6 = S 1079 1) (N_S : ∀ w : Nat, 1 ≤ w → w ≤ 20 → S 1100 w = zt_cd (zt_nw.getD w [])) (U_S : ∀ i : Int, 0 ≤ i → i < S 1070 1 → S 1071 i.toNat = S 1099 i.toNat) (hn : zz_end ≤ n) (hx : 0 ≤ x4 ∧ x4 ≤ 3590) (hkk : (k : Int) ≤ 200 + x4) (hjj : (j : Int) ≤ 30000 + 6 * x4) (hR : (3600 - x4).toNat < N + 1) (hc1 : x4 ≤ zz_ln g - 7) : zz_E g l zy_law_L room_1 (fun u => ∃ M1 n1, u = (.inl (some (zi 1)), M1, n1)) S n 562 [some (.ref 998), some (.ref 1000), some (.ref 1079), some (.ref 1121), some (zi x4)] [] k j := by
  have hln : 0 ≤ zz_ln g ∧ zz_ln g ≤ 3584 := ⟨Int.natCast_nonneg _, Int.ofNat_le.mpr hlen⟩
  have hk : k ≤ 601024 := by omega
  have hj : j ≤ 7293034 := by omega
  refine zz_aload_n (x := 1000) rfl zd_L_law_562 ?_
  refine zz_aload_n (x := 998) rfl zd_L_law_563 ?_
  refine zz_iload (x := x4) rfl zd_L_law_564 ?_
  refine zz_iconst zd_L_law_566 ?_
  refine zz_iadd zd_L_law_567 ?_
  refine zz_sld (by omega) zd_L_law_568 (by omega) ?_
  have g264 := zz_sc_r g (x4 + 1).toNat
  refine zz_callHW (rz := zr_end_L) [.ref 1000, zi (zz_sc g (x4 + 1).toNat)] zd_L_law_569 zhl_end_L rfl rfl ⟨Nat.le_of_ble_eq_true rfl, Nat.le_of_ble_eq_true rfl⟩ (by show k + 1 ≤ 601024; omega) (by show j + 6 ≤ 7293034; omega) (zc_end_L (zz_sc g (x4 + 1).toNat) S (n) hn hfl G_S (by omega)) (fun v266 S265 d267 hd267 hP => ?_)
  obtain ⟨G_S265, fS265, rv266, o268⟩ := hP
  have hn269 : zz_end ≤ n + d267 := by omega
  have hk270 : (k + zr_end_L.cells) ≤ 601024 := by show k + 1 ≤ 601024; omega
  have hj271 : (j + zr_end_L.slots) ≤ 7293034 := by show j + 6 ≤ 7293034; omega
  have H_S265 : zz_Hc S265 := zz_Hc.fr (q := 0) fS265 rfl rfl G_S (by decide) rfl (fun b q h => h.elim) H_S
  have R_S265 : zz_Hr S265 := zz_Hr.fr fS265 rfl rfl (fun b q h => h.elim) R_S
  have O_S265 : 1 ≤ S265 1079 36 := by rw [show S265 1079 36 = S 1079 36 from zz_rc fS265 rfl rfl (fun h => h) rfl]; exact O_S
  refine zz_istore [some (.ref 998), some (.ref 1000), some (.ref 1079), some (.ref 1121), some (zi x4), some (zi v266)] zd_L_law_572 (by decide) rfl ?_
  refine zz_aload_n (x := 1079) rfl zd_L_law_574 ?_
  refine zz_aload_n (x := 998) rfl zd_L_law_575 ?_
  refine zz_iload (x := x4) rfl zd_L_law_576 ?_
  refine zz_iconst zd_L_law_578 ?_
  refine zz_iadd zd_L_law_579 ?_
  refine zz_sld (by omega) zd_L_law_580 (by omega) ?_
  have g272 := zz_G.r G_S 1079 28 0 1500 rfl rfl
  have e273 : S265 1079 28 = S 1079 28 := (zz_rc fS265 rfl rfl (fun h => h) rfl)
  refine zz_callVV [zi (zz_sc g (x4 + 1).toNat)] zd_L_law_581 zk_TFLaw_143 zT_1079 (zz_ltn hn269 rfl) rfl rfl ⟨Nat.le_of_ble_eq_true rfl, Nat.le_of_ble_eq_true rfl⟩ ⟨rfl, rfl⟩ hk270 hj271 (zc_end_14_48 (zz_sc g (x4 + 1).toNat) S265 (n + d267) hn269 G_S265 (by omega)) (fun S274 hP => ?_)
  obtain ⟨G_S274, fS274, o276⟩ := hP
  have H_S274 : zz_Hc S274 := zz_Hc.fr (q := 0) fS274 rfl rfl G_S265 (by decide) rfl (fun b q h => h.elim) H_S265
  have R_S274 : zz_Hr S274 := zz_Hr.fr fS274 rfl rfl (fun b q h => h.elim) R_S265
  have O_S274 : 1 ≤ S274 1079 36 := by rw [show S274 1079 36 = S265 1079 36 from zz_rc fS274 rfl rfl (fun h => h) rfl]; exact O_S265
  refine zz_goto zd_L_law_584 ?_
  refine zz_iinc [some (.ref 998), some (.ref 1000), some (.ref 1079), some (.ref 1121), some (zi (x4 + 7)), some (zi v266)] zd_L_law_1180 rfl rfl ?_
  refine zz_goto zd_L_law_1183 ?_
  refine zz_less (ls1 := [some (.ref 998), some (.ref 1000), some (.ref 1079), some (.ref 1121), some (zi (x4 + 7))]) ⟨rfl, ⟨rfl, ⟨rfl, ⟨rfl, ⟨rfl, trivial⟩⟩⟩⟩⟩ ?_
  have g277 := zz_G.r G_S265 1070 1 0 1500 rfl rfl
  have e278 : S274 1070 1 = S265 1070 1 := (zz_rc fS274 rfl rfl (fun h => h) rfl)
  have g279 := zz_G.r G_S274 1079 28 0 1500 rfl rfl
  have g280 := zz_G.r G_S 1031 6 2 8 rfl rfl
  have e281 : S274 1031 6 = S 1031 6 := (zz_rc fS274 rfl rfl (fun h => h) (zz_rc fS265 rfl rfl (fun h => h) rfl))
  have g282 := zz_G.r G_S 1079 1 2 8 rfl rfl
  have e283 : S274 1079 1 = S 1079 1 := (zz_rc fS274 rfl rfl (fun h => h) (zz_rc fS265 rfl rfl (fun h => h) rfl))
  exact ih (x4 + 7) S274 (n + d267) (k + zr_end_L.cells) (j + zr_end_L.slots) G_S274 H_S274 R_S274 O_S274 (by omega) (by omega) (fun u h1 h2 => ((zz_rc fS274 (zz_nc1 rfl) rfl (fun h => h) (zz_rc fS265 (zz_nc1 rfl) rfl (fun h => h) rfl)) : S274 1100 u = S 1100 u).trans (N_S u h1 h2)) (fun i h1 h2 => ((zz_rc fS274 (zz_nc1 rfl) rfl (fun h => h) (zz_rc fS265 (zz_nc1 rfl) rfl (fun h => h) rfl)) : S274 1071 i.toNat = S 1071 i.toNat).trans ((U_S i h1 (by omega)).trans ((zz_rc fS274 (zz_nc1 rfl) rfl (fun h => h) (zz_rc fS265 (zz_nc1 rfl) rfl (fun h => h) rfl)) : S274 1099 i.toNat = S 1099 i.toNat).symm)) hn269 (by omega) (by show ((k + 1 : Nat) : Int) ≤ 200 + (x4 + 7); omega) (by show ((j + 6 : Nat) : Int) ≤ 30000 + 6 * (x4 + 7); omega) (by omega)
theorem zl_11 {g : mm_G} {l : Launch} (hfl : l.flags = flags0) (hlen : g.2.2.2 997 ≤ 3584) (N : Nat) (ih : ∀ (x4 : Int) (S : zz_S) (n k j : Nat), zz_G S → zz_Hc S → zz_Hr S → 1 ≤ S 1079 36 → S 1070 1 = S 1079 28 → S 1031 6 = S 1079 1 → (∀ w : Nat, 1 ≤ w → w ≤ 20 → S 1100 w = zt_cd (zt_nw.getD w [])) → (∀ i : Int, 0 ≤ i → i < S 1070 1 → S 1071 i.toNat = S 1099 i.toNat) → zz_end ≤ n → (0 ≤ x4 ∧ x4 ≤ 3590) → (k : Int) ≤ 200 + x4 → (j : Int) ≤ 30000 + 6 * x4 → (3600 - x4).toNat < N → zz_E g l zy_law_L room_1 (fun u => ∃ M1 n1, u = (.inl (some (zi 1)), M1, n1)) S n 23 [some (.ref 998), some (.ref 1000), some (.ref 1079), some (.ref 1121), some (zi x4)] [] k j) (x4 : Int) (S : zz_S) (n k j : Nat) (G_S : zz_G S) (H_S : zz_Hc S) (R_S : zz_Hr S) (O_S : 1 ≤ S 1079 36) (T0_S : S 1070 1 = S 1079 28) (T1_S : S 1031 6 = S 1079 1) (N_S : ∀ w : Nat, 1 ≤ w → w ≤ 20 → S 1100 w = zt_cd (zt_nw.getD w [])) (U_S : ∀ i : Int, 0 ≤ i → i < S 1070 1 → S 1071 i.toNat = S 1099 i.toNat) (hn : zz_end ≤ n) (hx : 0 ≤ x4 ∧ x4 ≤ 3590) (hkk : (k : Int) ≤ 200 + x4) (hjj : (j : Int) ≤ 30000 + 6 * x4) (hR : (3600 - x4).toNat < N + 1) (hc1 : x4 ≤ zz_ln g - 7) : zz_E g l zy_law_L room_1 (fun u => ∃ M1 n1, u = (.inl (some (zi 1)), M1, n1)) S n 587 [some (.ref 998), some (.ref 1000), some (.ref 1079), some (.ref 1121), some (zi x4)] [] k j := by
  have hln : 0 ≤ zz_ln g ∧ zz_ln g ≤ 3584 := ⟨Int.natCast_nonneg _, Int.ofNat_le.mpr hlen⟩
  have hk : k ≤ 601024 := by omega
  have hj : j ≤ 7293034 := by omega
  refine zz_aload_n (x := 1000) rfl zd_L_law_587 ?_
  have g285 := zz_G.r G_S 1070 1 0 1500 rfl rfl
  refine zz_callVI [] zd_L_law_588 zk_TFLaw_144 zT_1000 (zz_ltn hn rfl) rfl rfl ⟨Nat.le_of_ble_eq_true rfl, Nat.le_of_ble_eq_true rfl⟩ ⟨rfl, rfl⟩ hk hj (zc_assemble_1_13  S (n) hn G_S ) (fun v287 S286 hP => ?_)
  obtain ⟨G_S286, fS286, o288, o289⟩ := hP
  have g290 := zz_G.r G_S 1000 10 0 1 rfl rfl
  have b291 := zz_rf4 (z := (S 1000 10)) (by omega)
  have H_S286 : zz_Hc S286 := zz_Hc.fr (q := 0) fS286 rfl rfl G_S (by decide) rfl (fun b q h => by have h0_ := zz_rf4 (z := (S 1000 10)) (by omega); omega) H_S
  have R_S286 : zz_Hr S286 := zz_Hr.fr fS286 rfl rfl (fun b q h => by have h0_ := zz_rf4 (z := (S 1000 10)) (by omega); omega) R_S
  have O_S286 : 1 ≤ S286 1079 36 := by rw [show S286 1079 36 = S 1079 36 from zz_rc fS286 rfl rfl (by have h0_ := zz_rf4 (z := (S 1000 10)) (by omega); omega) rfl]; exact O_S
  refine zz_aload_n (x := 1079) rfl zd_L_law_591 ?_
  have g292 := zz_G.r G_S 1079 28 0 1500 rfl rfl
  have e293 : S286 1079 28 = S 1079 28 := (zz_rc fS286 rfl rfl (by omega) rfl)
  refine zz_callVI [] zd_L_law_592 zk_TFLaw_147 zT_1079 (zz_ltn hn rfl) rfl rfl ⟨Nat.le_of_ble_eq_true rfl, Nat.le_of_ble_eq_true rfl⟩ ⟨rfl, rfl⟩ hk hj (zc_assemble_14_55  S286 (n) hn G_S286 (fun u h1 h2 => ((zz_rc fS286 (zz_nc1 rfl) rfl (by have h0_ := zz_rf4 (z := (S 1000 10)) (by omega); omega) rfl) : S286 1100 u = S 1100 u).trans (N_S u h1 h2))) (fun v295 S294 hP => ?_)
  obtain ⟨G_S294, fS294, o296, o297⟩ := hP
  have H_S294 : zz_Hc S294 := zz_Hc.fr (q := 0) fS294 rfl rfl G_S286 (by decide) rfl (fun b q h => h.elim) H_S286
  have R_S294 : zz_Hr S294 := zz_Hr.fr fS294 rfl rfl (fun b q h => h.elim) R_S286
  have O_S294 : 1 ≤ S294 1079 36 := by rw [show S294 1079 36 = S286 1079 36 from zz_rc fS294 rfl rfl (fun h => h) rfl]; exact O_S286
  refine zz_icmp_eq (by omega) (by omega) zd_L_law_595 (fun c298 => ?_) (fun c298 => ?_)
  · refine zz_iinc [some (.ref 998), some (.ref 1000), some (.ref 1079), some (.ref 1121), some (zi (x4 + 7))] zd_L_law_1180 rfl rfl ?_
    refine zz_goto zd_L_law_1183 ?_
    refine zz_less (ls1 := [some (.ref 998), some (.ref 1000), some (.ref 1079), some (.ref 1121), some (zi (x4 + 7))]) ⟨rfl, ⟨rfl, ⟨rfl, ⟨rfl, ⟨rfl, trivial⟩⟩⟩⟩⟩ ?_
    have e299 : S294 1070 1 = S 1070 1 := (zz_rc fS294 rfl rfl (fun h => h) (zz_rc fS286 rfl rfl (by omega) rfl))
    have e300 : S294 1079 28 = S 1079 28 := (zz_rc fS294 rfl rfl (fun h => h) (zz_rc fS286 rfl rfl (by omega) rfl))
    have g301 := zz_G.r G_S 1031 6 2 8 rfl rfl
    have e302 : S294 1031 6 = S 1031 6 := (zz_rc fS294 rfl rfl (fun h => h) (zz_rc fS286 rfl rfl (by omega) rfl))
    have g303 := zz_G.r G_S 1079 1 2 8 rfl rfl
    have e304 : S294 1079 1 = S 1079 1 := (zz_rc fS294 rfl rfl (fun h => h) (zz_rc fS286 rfl rfl (by omega) rfl))
    exact ih (x4 + 7) S294 (n) k j G_S294 H_S294 R_S294 O_S294 (by omega) (by omega) (fun u h1 h2 => ((zz_rc fS294 (zz_nc1 rfl) rfl (fun h => h) (zz_rc fS286 (zz_nc1 rfl) rfl (by have h0_ := zz_rf4 (z := (S 1000 10)) (by omega); omega) rfl)) : S294 1100 u = S 1100 u).trans (N_S u h1 h2)) (fun i h1 h2 => ((zz_rc fS294 (zz_nc1 rfl) rfl (fun h => h) (zz_rc fS286 (zz_nc1 rfl) rfl (by have h0_ := zz_rf4 (z := (S 1000 10)) (by omega); omega) rfl)) : S294 1071 i.toNat = S 1071 i.toNat).trans ((U_S i h1 (by omega)).trans ((zz_rc fS294 (zz_nc1 rfl) rfl (fun h => h) (zz_rc fS286 (zz_nc1 rfl) rfl (by have h0_ := zz_rf4 (z := (S 1000 10)) (by omega); omega) rfl)) : S294 1099 i.toNat = S 1099 i.toNat).symm)) hn (by omega) (by show ((k : Nat) : Int) ≤ 200 + (x4 + 7); omega) (by show ((j : Nat) : Int) ≤ 30000 + 6 * (x4 + 7); omega) (by omega)
  · have hf9 : zt_as (S286 1099) (S286 1079 28) 1502 0 0 0 = zt_as (S 1071) (S 1070 1) 1502 0 0 0 := by rw [show S286 1079 28 = S 1070 1 by omega]; exact (zt_ase (fun i h1 h2 => (U_S i h1 h2).trans ((zz_rc fS286 (zz_nc1 rfl) rfl (by have h0_ := zz_rf4 (z := (S 1000 10)) (by omega); omega) rfl) : S286 1099 i.toNat = S 1099 i.toNat).symm) 1502 0 0 0 (by decide)).symm
    exfalso; omega
theorem zl_12 {g : mm_G} {l : Launch} (hfl : l.flags = flags0) (hlen : g.2.2.2 997 ≤ 3584) (N : Nat) (ih : ∀ (x4 : Int) (S : zz_S) (n k j : Nat), zz_G S → zz_Hc S → zz_Hr S → 1 ≤ S 1079 36 → S 1070 1 = S 1079 28 → S 1031 6 = S 1079 1 → (∀ w : Nat, 1 ≤ w → w ≤ 20 → S 1100 w = zt_cd (zt_nw.getD w [])) → (∀ i : Int, 0 ≤ i → i < S 1070 1 → S 1071 i.toNat = S 1099 i.toNat) → zz_end ≤ n → (0 ≤ x4 ∧ x4 ≤ 3590) → (k : Int) ≤ 200 + x4 → (j : Int) ≤ 30000 + 6 * x4 → (3600 - x4).toNat < N → zz_E g l zy_law_L room_1 (fun u => ∃ M1 n1, u = (.inl (some (zi 1)), M1, n1)) S n 23 [some (.ref 998), some (.ref 1000), some (.ref 1079), some (.ref 1121), some (zi x4)] [] k j) (x4 : Int) (S : zz_S) (n k j : Nat) (G_S : zz_G S) (H_S : zz_Hc S) (R_S : zz_Hr S) (O_S : 1 ≤ S 1079 36) (T0_S : S 1070 1 = S 1079 28) (T1_S : S 1031 6 = S 1079 1) (N_S : ∀ w : Nat, 1 ≤ w → w ≤ 20 → S 1100 w = zt_cd (zt_nw.getD w [])) (U_S : ∀ i : Int, 0 ≤ i → i < S 1070 1 → S 1071 i.toNat = S 1099 i.toNat) (hn : zz_end ≤ n) (hx : 0 ≤ x4 ∧ x4 ≤ 3590) (hkk : (k : Int) ≤ 200 + x4) (hjj : (j : Int) ≤ 30000 + 6 * x4) (hR : (3600 - x4).toNat < N + 1) (hc1 : x4 ≤ zz_ln g - 7) : zz_E g l zy_law_L room_1 (fun u => ∃ M1 n1, u = (.inl (some (zi 1)), M1, n1)) S n 600 [some (.ref 998), some (.ref 1000), some (.ref 1079), some (.ref 1121), some (zi x4)] [] k j := by
  have hln : 0 ≤ zz_ln g ∧ zz_ln g ≤ 3584 := ⟨Int.natCast_nonneg _, Int.ofNat_le.mpr hlen⟩
  have hk : k ≤ 601024 := by omega
  have hj : j ≤ 7293034 := by omega
  refine zz_aload_n (x := 1000) rfl zd_L_law_600 ?_
  refine zz_aload_n (x := 998) rfl zd_L_law_601 ?_
  refine zz_iload (x := x4) rfl zd_L_law_602 ?_
  refine zz_iconst zd_L_law_604 ?_
  refine zz_iadd zd_L_law_605 ?_
  refine zz_sld (by omega) zd_L_law_606 (by omega) ?_
  have g306 := zz_sc_r g (x4 + 1).toNat
  refine zz_aload_n (x := 998) rfl zd_L_law_607 ?_
  refine zz_iload (x := x4) rfl zd_L_law_608 ?_
  refine zz_iconst zd_L_law_610 ?_
  refine zz_iadd zd_L_law_611 ?_
  refine zz_sld (by omega) zd_L_law_612 (by omega) ?_
  have g307 := zz_sc_r g (x4 + 2).toNat
  refine zz_aload_n (x := 1121) rfl zd_L_law_613 ?_
  refine zz_callHW (rz := zr_listing_L) [.ref 1000, zi (zz_sc g (x4 + 1).toNat), zi (zz_sc g (x4 + 2).toNat), .ref 1121] zd_L_law_614 zhl_listing_L rfl rfl ⟨Nat.le_of_ble_eq_true rfl, Nat.le_of_ble_eq_true rfl⟩ (by show k + 1 ≤ 601024; omega) (by show j + 6 ≤ 7293034; omega) (zc_listing_L (zz_sc g (x4 + 1).toNat) (zz_sc g (x4 + 2).toNat) S (n) hn hfl G_S (by omega) (by omega)) (fun v309 S308 d310 hd310 hP => ?_)
  obtain ⟨G_S308, fS308, rv309⟩ := hP
  have hn311 : zz_end ≤ n + d310 := by omega
  have hk312 : (k + zr_listing_L.cells) ≤ 601024 := by show k + 1 ≤ 601024; omega
  have hj313 : (j + zr_listing_L.slots) ≤ 7293034 := by show j + 6 ≤ 7293034; omega
  have H_S308 : zz_Hc S308 := zz_Hc.fr (q := 0) fS308 rfl rfl G_S (by decide) rfl (fun b q h => h.elim) H_S
  have R_S308 : zz_Hr S308 := zz_Hr.fr fS308 rfl rfl (fun b q h => h.elim) R_S
  have O_S308 : 1 ≤ S308 1079 36 := by rw [show S308 1079 36 = S 1079 36 from zz_rc fS308 rfl rfl (fun h => h) rfl]; exact O_S
  refine zz_istore [some (.ref 998), some (.ref 1000), some (.ref 1079), some (.ref 1121), some (zi x4), some (zi v309)] zd_L_law_617 (by decide) rfl ?_
  refine zz_aload_n (x := 1079) rfl zd_L_law_619 ?_
  refine zz_aload_n (x := 998) rfl zd_L_law_620 ?_
  refine zz_iload (x := x4) rfl zd_L_law_621 ?_
  refine zz_iconst zd_L_law_623 ?_
  refine zz_iadd zd_L_law_624 ?_
  refine zz_sld (by omega) zd_L_law_625 (by omega) ?_
  refine zz_aload_n (x := 998) rfl zd_L_law_626 ?_
  refine zz_iload (x := x4) rfl zd_L_law_627 ?_
  refine zz_iconst zd_L_law_629 ?_
  refine zz_iadd zd_L_law_630 ?_
  refine zz_sld (by omega) zd_L_law_631 (by omega) ?_
  refine zz_callVI [zi (zz_sc g (x4 + 1).toNat), zi (zz_sc g (x4 + 2).toNat)] zd_L_law_632 zk_TFLaw_150 zT_1079 (zz_ltn hn311 rfl) rfl rfl ⟨Nat.le_of_ble_eq_true rfl, Nat.le_of_ble_eq_true rfl⟩ ⟨rfl, rfl⟩ hk312 hj313 (zc_listing_14_62 (zz_sc g (x4 + 1).toNat) (zz_sc g (x4 + 2).toNat) S308 (n + d310) hn311 G_S308 (by omega) (by omega)) (fun v315 S314 hP => ?_)
  obtain ⟨G_S314, fS314, o316⟩ := hP
  have H_S314 : zz_Hc S314 := zz_Hc.fr (q := 0) fS314 rfl rfl G_S308 (by decide) rfl (fun b q h => h.elim) H_S308
  have R_S314 : zz_Hr S314 := zz_Hr.fr fS314 rfl rfl (fun b q h => h.elim) R_S308
  have O_S314 : 1 ≤ S314 1079 36 := by rw [show S314 1079 36 = S308 1079 36 from zz_rc fS314 rfl rfl (fun h => h) rfl]; exact O_S308
  refine zz_istore [some (.ref 998), some (.ref 1000), some (.ref 1079), some (.ref 1121), some (zi x4), some (zi v309), some (zi v315)] zd_L_law_635 (by decide) rfl ?_
  refine zz_goto zd_L_law_637 ?_
  refine zz_iinc [some (.ref 998), some (.ref 1000), some (.ref 1079), some (.ref 1121), some (zi (x4 + 7)), some (zi v309), some (zi v315)] zd_L_law_1180 rfl rfl ?_
  refine zz_goto zd_L_law_1183 ?_
  refine zz_less (ls1 := [some (.ref 998), some (.ref 1000), some (.ref 1079), some (.ref 1121), some (zi (x4 + 7))]) ⟨rfl, ⟨rfl, ⟨rfl, ⟨rfl, ⟨rfl, trivial⟩⟩⟩⟩⟩ ?_
  have g317 := zz_G.r G_S 1070 1 0 1500 rfl rfl
  have e318 : S314 1070 1 = S 1070 1 := (zz_rc fS314 rfl rfl (fun h => h) (zz_rc fS308 rfl rfl (fun h => h) rfl))
  have g319 := zz_G.r G_S 1079 28 0 1500 rfl rfl
  have e320 : S314 1079 28 = S 1079 28 := (zz_rc fS314 rfl rfl (fun h => h) (zz_rc fS308 rfl rfl (fun h => h) rfl))
  have g321 := zz_G.r G_S 1031 6 2 8 rfl rfl
  have e322 : S314 1031 6 = S 1031 6 := (zz_rc fS314 rfl rfl (fun h => h) (zz_rc fS308 rfl rfl (fun h => h) rfl))
  have g323 := zz_G.r G_S 1079 1 2 8 rfl rfl
  have e324 : S314 1079 1 = S 1079 1 := (zz_rc fS314 rfl rfl (fun h => h) (zz_rc fS308 rfl rfl (fun h => h) rfl))
  exact ih (x4 + 7) S314 (n + d310) (k + zr_listing_L.cells) (j + zr_listing_L.slots) G_S314 H_S314 R_S314 O_S314 (by omega) (by omega) (fun u h1 h2 => ((zz_rc fS314 (zz_nc1 rfl) rfl (fun h => h) (zz_rc fS308 (zz_nc1 rfl) rfl (fun h => h) rfl)) : S314 1100 u = S 1100 u).trans (N_S u h1 h2)) (fun i h1 h2 => ((zz_rc fS314 (zz_nc1 rfl) rfl (fun h => h) (zz_rc fS308 (zz_nc1 rfl) rfl (fun h => h) rfl)) : S314 1071 i.toNat = S 1071 i.toNat).trans ((U_S i h1 (by omega)).trans ((zz_rc fS314 (zz_nc1 rfl) rfl (fun h => h) (zz_rc fS308 (zz_nc1 rfl) rfl (fun h => h) rfl)) : S314 1099 i.toNat = S 1099 i.toNat).symm)) hn311 (by omega) (by show ((k + 1 : Nat) : Int) ≤ 200 + (x4 + 7); omega) (by show ((j + 6 : Nat) : Int) ≤ 30000 + 6 * (x4 + 7); omega) (by omega)
theorem zl_13 {g : mm_G} {l : Launch} (hfl : l.flags = flags0) (hlen : g.2.2.2 997 ≤ 3584) (N : Nat) (ih : ∀ (x4 : Int) (S : zz_S) (n k j : Nat), zz_G S → zz_Hc S → zz_Hr S → 1 ≤ S 1079 36 → S 1070 1 = S 1079 28 → S 1031 6 = S 1079 1 → (∀ w : Nat, 1 ≤ w → w ≤ 20 → S 1100 w = zt_cd (zt_nw.getD w [])) → (∀ i : Int, 0 ≤ i → i < S 1070 1 → S 1071 i.toNat = S 1099 i.toNat) → zz_end ≤ n → (0 ≤ x4 ∧ x4 ≤ 3590) → (k : Int) ≤ 200 + x4 → (j : Int) ≤ 30000 + 6 * x4 → (3600 - x4).toNat < N → zz_E g l zy_law_L room_1 (fun u => ∃ M1 n1, u = (.inl (some (zi 1)), M1, n1)) S n 23 [some (.ref 998), some (.ref 1000), some (.ref 1079), some (.ref 1121), some (zi x4)] [] k j) (x4 : Int) (S : zz_S) (n k j : Nat) (G_S : zz_G S) (H_S : zz_Hc S) (R_S : zz_Hr S) (O_S : 1 ≤ S 1079 36) (T0_S : S 1070 1 = S 1079 28) (T1_S : S 1031 6 = S 1079 1) (N_S : ∀ w : Nat, 1 ≤ w → w ≤ 20 → S 1100 w = zt_cd (zt_nw.getD w [])) (U_S : ∀ i : Int, 0 ≤ i → i < S 1070 1 → S 1071 i.toNat = S 1099 i.toNat) (hn : zz_end ≤ n) (hx : 0 ≤ x4 ∧ x4 ≤ 3590) (hkk : (k : Int) ≤ 200 + x4) (hjj : (j : Int) ≤ 30000 + 6 * x4) (hR : (3600 - x4).toNat < N + 1) (hc1 : x4 ≤ zz_ln g - 7) : zz_E g l zy_law_L room_1 (fun u => ∃ M1 n1, u = (.inl (some (zi 1)), M1, n1)) S n 640 [some (.ref 998), some (.ref 1000), some (.ref 1079), some (.ref 1121), some (zi x4)] [] k j := by
  have hln : 0 ≤ zz_ln g ∧ zz_ln g ≤ 3584 := ⟨Int.natCast_nonneg _, Int.ofNat_le.mpr hlen⟩
  have hk : k ≤ 601024 := by omega
  have hj : j ≤ 7293034 := by omega
  refine zz_aload_n (x := 1000) rfl zd_L_law_640 ?_
  refine zz_callVI [] zd_L_law_641 zk_TFLaw_151 zT_1000 (zz_ltn hn rfl) rfl rfl ⟨Nat.le_of_ble_eq_true rfl, Nat.le_of_ble_eq_true rfl⟩ ⟨rfl, rfl⟩ hk hj (zc_run_1_15  S (n) hn G_S ) (fun v327 S326 hP => ?_)
  obtain ⟨G_S326, fS326, o328⟩ := hP
  have H_S326 : zz_Hc S326 := zz_Hc.fr (q := 0) fS326 rfl rfl G_S (by decide) rfl (fun b q h => h.elim) H_S
  have R_S326 : zz_Hr S326 := zz_Hr.fr fS326 rfl rfl (fun b q h => h.elim) R_S
  have O_S326 : 1 ≤ S326 1079 36 := by rw [show S326 1079 36 = S 1079 36 from zz_rc fS326 rfl rfl (fun h => h) rfl]; exact O_S
  refine zz_pop rfl zd_L_law_644 ?_
  refine zz_aload_n (x := 1079) rfl zd_L_law_645 ?_
  refine zz_callVI [] zd_L_law_646 zk_TFLaw_154 zT_1079 (zz_ltn hn rfl) rfl rfl ⟨Nat.le_of_ble_eq_true rfl, Nat.le_of_ble_eq_true rfl⟩ ⟨rfl, rfl⟩ hk hj (zc_run_14_44  S326 (n) hn G_S326 ) (fun v330 S329 hP => ?_)
  obtain ⟨G_S329, fS329, o331⟩ := hP
  have H_S329 : zz_Hc S329 := zz_Hc.fr (q := 0) fS329 rfl rfl G_S326 (by decide) rfl (fun b q h => h.elim) H_S326
  have R_S329 : zz_Hr S329 := zz_Hr.fr fS329 rfl rfl (fun b q h => h.elim) R_S326
  have O_S329 : 1 ≤ S329 1079 36 := by rw [show S329 1079 36 = S326 1079 36 from zz_rc fS329 rfl rfl (fun h => h) rfl]; exact O_S326
  refine zz_pop rfl zd_L_law_649 ?_
  refine zz_goto zd_L_law_650 ?_
  refine zz_iinc [some (.ref 998), some (.ref 1000), some (.ref 1079), some (.ref 1121), some (zi (x4 + 7))] zd_L_law_1180 rfl rfl ?_
  refine zz_goto zd_L_law_1183 ?_
  refine zz_less (ls1 := [some (.ref 998), some (.ref 1000), some (.ref 1079), some (.ref 1121), some (zi (x4 + 7))]) ⟨rfl, ⟨rfl, ⟨rfl, ⟨rfl, ⟨rfl, trivial⟩⟩⟩⟩⟩ ?_
  have g332 := zz_G.r G_S 1070 1 0 1500 rfl rfl
  have e333 : S329 1070 1 = S 1070 1 := (zz_rc fS329 rfl rfl (fun h => h) (zz_rc fS326 rfl rfl (fun h => h) rfl))
  have g334 := zz_G.r G_S 1079 28 0 1500 rfl rfl
  have e335 : S329 1079 28 = S 1079 28 := (zz_rc fS329 rfl rfl (fun h => h) (zz_rc fS326 rfl rfl (fun h => h) rfl))
  have g336 := zz_G.r G_S 1031 6 2 8 rfl rfl
  have e337 : S329 1031 6 = S 1031 6 := (zz_rc fS329 rfl rfl (fun h => h) (zz_rc fS326 rfl rfl (fun h => h) rfl))
  have g338 := zz_G.r G_S 1079 1 2 8 rfl rfl
  have e339 : S329 1079 1 = S 1079 1 := (zz_rc fS329 rfl rfl (fun h => h) (zz_rc fS326 rfl rfl (fun h => h) rfl))
  exact ih (x4 + 7) S329 (n) k j G_S329 H_S329 R_S329 O_S329 (by omega) (by omega) (fun u h1 h2 => ((zz_rc fS329 (zz_nc1 rfl) rfl (fun h => h) (zz_rc fS326 (zz_nc1 rfl) rfl (fun h => h) rfl)) : S329 1100 u = S 1100 u).trans (N_S u h1 h2)) (fun i h1 h2 => ((zz_rc fS329 (zz_nc1 rfl) rfl (fun h => h) (zz_rc fS326 (zz_nc1 rfl) rfl (fun h => h) rfl)) : S329 1071 i.toNat = S 1071 i.toNat).trans ((U_S i h1 (by omega)).trans ((zz_rc fS329 (zz_nc1 rfl) rfl (fun h => h) (zz_rc fS326 (zz_nc1 rfl) rfl (fun h => h) rfl)) : S329 1099 i.toNat = S 1099 i.toNat).symm)) hn (by omega) (by show ((k : Nat) : Int) ≤ 200 + (x4 + 7); omega) (by show ((j : Nat) : Int) ≤ 30000 + 6 * (x4 + 7); omega) (by omega)
theorem zl_14 {g : mm_G} {l : Launch} (hfl : l.flags = flags0) (hlen : g.2.2.2 997 ≤ 3584) (N : Nat) (ih : ∀ (x4 : Int) (S : zz_S) (n k j : Nat), zz_G S → zz_Hc S → zz_Hr S → 1 ≤ S 1079 36 → S 1070 1 = S 1079 28 → S 1031 6 = S 1079 1 → (∀ w : Nat, 1 ≤ w → w ≤ 20 → S 1100 w = zt_cd (zt_nw.getD w [])) → (∀ i : Int, 0 ≤ i → i < S 1070 1 → S 1071 i.toNat = S 1099 i.toNat) → zz_end ≤ n → (0 ≤ x4 ∧ x4 ≤ 3590) → (k : Int) ≤ 200 + x4 → (j : Int) ≤ 30000 + 6 * x4 → (3600 - x4).toNat < N → zz_E g l zy_law_L room_1 (fun u => ∃ M1 n1, u = (.inl (some (zi 1)), M1, n1)) S n 23 [some (.ref 998), some (.ref 1000), some (.ref 1079), some (.ref 1121), some (zi x4)] [] k j) (x4 : Int) (S : zz_S) (n k j : Nat) (G_S : zz_G S) (H_S : zz_Hc S) (R_S : zz_Hr S) (O_S : 1 ≤ S 1079 36) (T0_S : S 1070 1 = S 1079 28) (T1_S : S 1031 6 = S 1079 1) (N_S : ∀ w : Nat, 1 ≤ w → w ≤ 20 → S 1100 w = zt_cd (zt_nw.getD w [])) (U_S : ∀ i : Int, 0 ≤ i → i < S 1070 1 → S 1071 i.toNat = S 1099 i.toNat) (hn : zz_end ≤ n) (hx : 0 ≤ x4 ∧ x4 ≤ 3590) (hkk : (k : Int) ≤ 200 + x4) (hjj : (j : Int) ≤ 30000 + 6 * x4) (hR : (3600 - x4).toNat < N + 1) (hc1 : x4 ≤ zz_ln g - 7) : zz_E g l zy_law_L room_1 (fun u => ∃ M1 n1, u = (.inl (some (zi 1)), M1, n1)) S n 653 [some (.ref 998), some (.ref 1000), some (.ref 1079), some (.ref 1121), some (zi x4)] [] k j := by
  have hln : 0 ≤ zz_ln g ∧ zz_ln g ≤ 3584 := ⟨Int.natCast_nonneg _, Int.ofNat_le.mpr hlen⟩
  have hk : k ≤ 601024 := by omega
  have hj : j ≤ 7293034 := by omega
  refine zz_aload_n (x := 1000) rfl zd_L_law_653 ?_
  refine zz_aload_n (x := 998) rfl zd_L_law_654 ?_
  refine zz_iload (x := x4) rfl zd_L_law_655 ?_
  refine zz_iconst zd_L_law_657 ?_
  refine zz_iadd zd_L_law_658 ?_
  refine zz_sld (by omega) zd_L_law_659 (by omega) ?_
  have g341 := zz_sc_r g (x4 + 1).toNat
  refine zz_aload_n (x := 1121) rfl zd_L_law_660 ?_
  refine zz_callHW (rz := zr_stopped_L) [.ref 1000, zi (zz_sc g (x4 + 1).toNat), .ref 1121] zd_L_law_661 zhl_stopped_L rfl rfl ⟨Nat.le_of_ble_eq_true rfl, Nat.le_of_ble_eq_true rfl⟩ (by show k + 1 ≤ 601024; omega) (by show j + 6 ≤ 7293034; omega) (zc_stopped_L (zz_sc g (x4 + 1).toNat) S (n) hn hfl G_S (by omega)) (fun v343 S342 d344 hd344 hP => ?_)
  obtain ⟨G_S342, fS342, rv343⟩ := hP
  have hn345 : zz_end ≤ n + d344 := by omega
  have hk346 : (k + zr_stopped_L.cells) ≤ 601024 := by show k + 1 ≤ 601024; omega
  have hj347 : (j + zr_stopped_L.slots) ≤ 7293034 := by show j + 6 ≤ 7293034; omega
  have H_S342 : zz_Hc S342 := zz_Hc.fr (q := 0) fS342 rfl rfl G_S (by decide) rfl (fun b q h => h.elim) H_S
  have R_S342 : zz_Hr S342 := zz_Hr.fr fS342 rfl rfl (fun b q h => h.elim) R_S
  have O_S342 : 1 ≤ S342 1079 36 := by rw [show S342 1079 36 = S 1079 36 from zz_rc fS342 rfl rfl (fun h => h) rfl]; exact O_S
  refine zz_istore [some (.ref 998), some (.ref 1000), some (.ref 1079), some (.ref 1121), some (zi x4), some (zi v343)] zd_L_law_664 (by decide) rfl ?_
  refine zz_aload_n (x := 1079) rfl zd_L_law_666 ?_
  refine zz_aload_n (x := 998) rfl zd_L_law_667 ?_
  refine zz_iload (x := x4) rfl zd_L_law_668 ?_
  refine zz_iconst zd_L_law_670 ?_
  refine zz_iadd zd_L_law_671 ?_
  refine zz_sld (by omega) zd_L_law_672 (by omega) ?_
  refine zz_callVI [zi (zz_sc g (x4 + 1).toNat)] zd_L_law_673 zk_TFLaw_157 zT_1079 (zz_ltn hn345 rfl) rfl rfl ⟨Nat.le_of_ble_eq_true rfl, Nat.le_of_ble_eq_true rfl⟩ ⟨rfl, rfl⟩ hk346 hj347 (zc_stopped_14_45 (zz_sc g (x4 + 1).toNat) S342 (n + d344) hn345 G_S342 (by omega)) (fun v349 S348 hP => ?_)
  obtain ⟨G_S348, fS348, o350⟩ := hP
  have H_S348 : zz_Hc S348 := zz_Hc.fr (q := 0) fS348 rfl rfl G_S342 (by decide) rfl (fun b q h => h.elim) H_S342
  have R_S348 : zz_Hr S348 := zz_Hr.fr fS348 rfl rfl (fun b q h => h.elim) R_S342
  have O_S348 : 1 ≤ S348 1079 36 := by rw [show S348 1079 36 = S342 1079 36 from zz_rc fS348 rfl rfl (fun h => h) rfl]; exact O_S342
  refine zz_istore [some (.ref 998), some (.ref 1000), some (.ref 1079), some (.ref 1121), some (zi x4), some (zi v343), some (zi v349)] zd_L_law_676 (by decide) rfl ?_
  refine zz_goto zd_L_law_678 ?_
  refine zz_iinc [some (.ref 998), some (.ref 1000), some (.ref 1079), some (.ref 1121), some (zi (x4 + 7)), some (zi v343), some (zi v349)] zd_L_law_1180 rfl rfl ?_
  refine zz_goto zd_L_law_1183 ?_
  refine zz_less (ls1 := [some (.ref 998), some (.ref 1000), some (.ref 1079), some (.ref 1121), some (zi (x4 + 7))]) ⟨rfl, ⟨rfl, ⟨rfl, ⟨rfl, ⟨rfl, trivial⟩⟩⟩⟩⟩ ?_
  have g351 := zz_G.r G_S 1070 1 0 1500 rfl rfl
  have e352 : S348 1070 1 = S 1070 1 := (zz_rc fS348 rfl rfl (fun h => h) (zz_rc fS342 rfl rfl (fun h => h) rfl))
  have g353 := zz_G.r G_S 1079 28 0 1500 rfl rfl
  have e354 : S348 1079 28 = S 1079 28 := (zz_rc fS348 rfl rfl (fun h => h) (zz_rc fS342 rfl rfl (fun h => h) rfl))
  have g355 := zz_G.r G_S 1031 6 2 8 rfl rfl
  have e356 : S348 1031 6 = S 1031 6 := (zz_rc fS348 rfl rfl (fun h => h) (zz_rc fS342 rfl rfl (fun h => h) rfl))
  have g357 := zz_G.r G_S 1079 1 2 8 rfl rfl
  have e358 : S348 1079 1 = S 1079 1 := (zz_rc fS348 rfl rfl (fun h => h) (zz_rc fS342 rfl rfl (fun h => h) rfl))
  exact ih (x4 + 7) S348 (n + d344) (k + zr_stopped_L.cells) (j + zr_stopped_L.slots) G_S348 H_S348 R_S348 O_S348 (by omega) (by omega) (fun u h1 h2 => ((zz_rc fS348 (zz_nc1 rfl) rfl (fun h => h) (zz_rc fS342 (zz_nc1 rfl) rfl (fun h => h) rfl)) : S348 1100 u = S 1100 u).trans (N_S u h1 h2)) (fun i h1 h2 => ((zz_rc fS348 (zz_nc1 rfl) rfl (fun h => h) (zz_rc fS342 (zz_nc1 rfl) rfl (fun h => h) rfl)) : S348 1071 i.toNat = S 1071 i.toNat).trans ((U_S i h1 (by omega)).trans ((zz_rc fS348 (zz_nc1 rfl) rfl (fun h => h) (zz_rc fS342 (zz_nc1 rfl) rfl (fun h => h) rfl)) : S348 1099 i.toNat = S 1099 i.toNat).symm)) hn345 (by omega) (by show ((k + 1 : Nat) : Int) ≤ 200 + (x4 + 7); omega) (by show ((j + 6 : Nat) : Int) ≤ 30000 + 6 * (x4 + 7); omega) (by omega)
theorem zl_15 {g : mm_G} {l : Launch} (hfl : l.flags = flags0) (hlen : g.2.2.2 997 ≤ 3584) (N : Nat) (ih : ∀ (x4 : Int) (S : zz_S) (n k j : Nat), zz_G S → zz_Hc S → zz_Hr S → 1 ≤ S 1079 36 → S 1070 1 = S 1079 28 → S 1031 6 = S 1079 1 → (∀ w : Nat, 1 ≤ w → w ≤ 20 → S 1100 w = zt_cd (zt_nw.getD w [])) → (∀ i : Int, 0 ≤ i → i < S 1070 1 → S 1071 i.toNat = S 1099 i.toNat) → zz_end ≤ n → (0 ≤ x4 ∧ x4 ≤ 3590) → (k : Int) ≤ 200 + x4 → (j : Int) ≤ 30000 + 6 * x4 → (3600 - x4).toNat < N → zz_E g l zy_law_L room_1 (fun u => ∃ M1 n1, u = (.inl (some (zi 1)), M1, n1)) S n 23 [some (.ref 998), some (.ref 1000), some (.ref 1079), some (.ref 1121), some (zi x4)] [] k j) (x4 : Int) (S : zz_S) (n k j : Nat) (G_S : zz_G S) (H_S : zz_Hc S) (R_S : zz_Hr S) (O_S : 1 ≤ S 1079 36) (T0_S : S 1070 1 = S 1079 28) (T1_S : S 1031 6 = S 1079 1) (N_S : ∀ w : Nat, 1 ≤ w → w ≤ 20 → S 1100 w = zt_cd (zt_nw.getD w [])) (U_S : ∀ i : Int, 0 ≤ i → i < S 1070 1 → S 1071 i.toNat = S 1099 i.toNat) (hn : zz_end ≤ n) (hx : 0 ≤ x4 ∧ x4 ≤ 3590) (hkk : (k : Int) ≤ 200 + x4) (hjj : (j : Int) ≤ 30000 + 6 * x4) (hR : (3600 - x4).toNat < N + 1) (hc1 : x4 ≤ zz_ln g - 7) : zz_E g l zy_law_L room_1 (fun u => ∃ M1 n1, u = (.inl (some (zi 1)), M1, n1)) S n 681 [some (.ref 998), some (.ref 1000), some (.ref 1079), some (.ref 1121), some (zi x4)] [] k j := by
  have hln : 0 ≤ zz_ln g ∧ zz_ln g ≤ 3584 := ⟨Int.natCast_nonneg _, Int.ofNat_le.mpr hlen⟩
  have hk : k ≤ 601024 := by omega
  have hj : j ≤ 7293034 := by omega
  refine zz_aload_n (x := 1000) rfl zd_L_law_681 ?_
  refine zz_aload_n (x := 998) rfl zd_L_law_682 ?_
  refine zz_iload (x := x4) rfl zd_L_law_683 ?_
  refine zz_iconst zd_L_law_685 ?_
  refine zz_iadd zd_L_law_686 ?_
  refine zz_sld (by omega) zd_L_law_687 (by omega) ?_
  have g360 := zz_sc_r g (x4 + 1).toNat
  refine zz_aload_n (x := 998) rfl zd_L_law_688 ?_
  refine zz_iload (x := x4) rfl zd_L_law_689 ?_
  refine zz_iconst zd_L_law_691 ?_
  refine zz_iadd zd_L_law_692 ?_
  refine zz_sld (by omega) zd_L_law_693 (by omega) ?_
  have g361 := zz_sc_r g (x4 + 2).toNat
  refine zz_aload_n (x := 1121) rfl zd_L_law_694 ?_
  refine zz_callHW (rz := zr_instruction_L) [.ref 1000, zi (zz_sc g (x4 + 1).toNat), zi (zz_sc g (x4 + 2).toNat), .ref 1121] zd_L_law_695 zhl_instruction_L rfl rfl ⟨Nat.le_of_ble_eq_true rfl, Nat.le_of_ble_eq_true rfl⟩ (by show k + 2 ≤ 601024; omega) (by show j + 12 ≤ 7293034; omega) (zc_instruction_L (zz_sc g (x4 + 1).toNat) (zz_sc g (x4 + 2).toNat) S (n) hn hfl G_S (by omega) (by omega)) (fun v363 S362 d364 hd364 hP => ?_)
  obtain ⟨G_S362, fS362, rv363⟩ := hP
  have hn365 : zz_end ≤ n + d364 := by omega
  have hk366 : (k + zr_instruction_L.cells) ≤ 601024 := by show k + 2 ≤ 601024; omega
  have hj367 : (j + zr_instruction_L.slots) ≤ 7293034 := by show j + 12 ≤ 7293034; omega
  have H_S362 : zz_Hc S362 := zz_Hc.fr (q := 0) fS362 rfl rfl G_S (by decide) rfl (fun b q h => h.elim) H_S
  have R_S362 : zz_Hr S362 := zz_Hr.fr fS362 rfl rfl (fun b q h => h.elim) R_S
  have O_S362 : 1 ≤ S362 1079 36 := by rw [show S362 1079 36 = S 1079 36 from zz_rc fS362 rfl rfl (fun h => h) rfl]; exact O_S
  refine zz_istore [some (.ref 998), some (.ref 1000), some (.ref 1079), some (.ref 1121), some (zi x4), some (zi v363)] zd_L_law_698 (by decide) rfl ?_
  refine zz_aload_n (x := 1079) rfl zd_L_law_700 ?_
  refine zz_aload_n (x := 998) rfl zd_L_law_701 ?_
  refine zz_iload (x := x4) rfl zd_L_law_702 ?_
  refine zz_iconst zd_L_law_704 ?_
  refine zz_iadd zd_L_law_705 ?_
  refine zz_sld (by omega) zd_L_law_706 (by omega) ?_
  refine zz_aload_n (x := 998) rfl zd_L_law_707 ?_
  refine zz_iload (x := x4) rfl zd_L_law_708 ?_
  refine zz_iconst zd_L_law_710 ?_
  refine zz_iadd zd_L_law_711 ?_
  refine zz_sld (by omega) zd_L_law_712 (by omega) ?_
  refine zz_callVI [zi (zz_sc g (x4 + 1).toNat), zi (zz_sc g (x4 + 2).toNat)] zd_L_law_713 zk_TFLaw_160 zT_1079 (zz_ltn hn365 rfl) rfl rfl ⟨Nat.le_of_ble_eq_true rfl, Nat.le_of_ble_eq_true rfl⟩ ⟨rfl, rfl⟩ hk366 hj367 (zc_instruction_14_46 (zz_sc g (x4 + 1).toNat) (zz_sc g (x4 + 2).toNat) S362 (n + d364) hn365 G_S362 (by omega) (by omega)) (fun v369 S368 hP => ?_)
  obtain ⟨G_S368, fS368, o370⟩ := hP
  have H_S368 : zz_Hc S368 := zz_Hc.fr (q := 0) fS368 rfl rfl G_S362 (by decide) rfl (fun b q h => h.elim) H_S362
  have R_S368 : zz_Hr S368 := zz_Hr.fr fS368 rfl rfl (fun b q h => h.elim) R_S362
  have O_S368 : 1 ≤ S368 1079 36 := by rw [show S368 1079 36 = S362 1079 36 from zz_rc fS368 rfl rfl (fun h => h) rfl]; exact O_S362
  refine zz_istore [some (.ref 998), some (.ref 1000), some (.ref 1079), some (.ref 1121), some (zi x4), some (zi v363), some (zi v369)] zd_L_law_716 (by decide) rfl ?_
  refine zz_goto zd_L_law_718 ?_
  refine zz_iinc [some (.ref 998), some (.ref 1000), some (.ref 1079), some (.ref 1121), some (zi (x4 + 7)), some (zi v363), some (zi v369)] zd_L_law_1180 rfl rfl ?_
  refine zz_goto zd_L_law_1183 ?_
  refine zz_less (ls1 := [some (.ref 998), some (.ref 1000), some (.ref 1079), some (.ref 1121), some (zi (x4 + 7))]) ⟨rfl, ⟨rfl, ⟨rfl, ⟨rfl, ⟨rfl, trivial⟩⟩⟩⟩⟩ ?_
  have g371 := zz_G.r G_S 1070 1 0 1500 rfl rfl
  have e372 : S368 1070 1 = S 1070 1 := (zz_rc fS368 rfl rfl (fun h => h) (zz_rc fS362 rfl rfl (fun h => h) rfl))
  have g373 := zz_G.r G_S 1079 28 0 1500 rfl rfl
  have e374 : S368 1079 28 = S 1079 28 := (zz_rc fS368 rfl rfl (fun h => h) (zz_rc fS362 rfl rfl (fun h => h) rfl))
  have g375 := zz_G.r G_S 1031 6 2 8 rfl rfl
  have e376 : S368 1031 6 = S 1031 6 := (zz_rc fS368 rfl rfl (fun h => h) (zz_rc fS362 rfl rfl (fun h => h) rfl))
  have g377 := zz_G.r G_S 1079 1 2 8 rfl rfl
  have e378 : S368 1079 1 = S 1079 1 := (zz_rc fS368 rfl rfl (fun h => h) (zz_rc fS362 rfl rfl (fun h => h) rfl))
  exact ih (x4 + 7) S368 (n + d364) (k + zr_instruction_L.cells) (j + zr_instruction_L.slots) G_S368 H_S368 R_S368 O_S368 (by omega) (by omega) (fun u h1 h2 => ((zz_rc fS368 (zz_nc1 rfl) rfl (fun h => h) (zz_rc fS362 (zz_nc1 rfl) rfl (fun h => h) rfl)) : S368 1100 u = S 1100 u).trans (N_S u h1 h2)) (fun i h1 h2 => ((zz_rc fS368 (zz_nc1 rfl) rfl (fun h => h) (zz_rc fS362 (zz_nc1 rfl) rfl (fun h => h) rfl)) : S368 1071 i.toNat = S 1071 i.toNat).trans ((U_S i h1 (by omega)).trans ((zz_rc fS368 (zz_nc1 rfl) rfl (fun h => h) (zz_rc fS362 (zz_nc1 rfl) rfl (fun h => h) rfl)) : S368 1099 i.toNat = S 1099 i.toNat).symm)) hn365 (by omega) (by show ((k + 2 : Nat) : Int) ≤ 200 + (x4 + 7); omega) (by show ((j + 12 : Nat) : Int) ≤ 30000 + 6 * (x4 + 7); omega) (by omega)
theorem zl_16 {g : mm_G} {l : Launch} (hfl : l.flags = flags0) (hlen : g.2.2.2 997 ≤ 3584) (N : Nat) (ih : ∀ (x4 : Int) (S : zz_S) (n k j : Nat), zz_G S → zz_Hc S → zz_Hr S → 1 ≤ S 1079 36 → S 1070 1 = S 1079 28 → S 1031 6 = S 1079 1 → (∀ w : Nat, 1 ≤ w → w ≤ 20 → S 1100 w = zt_cd (zt_nw.getD w [])) → (∀ i : Int, 0 ≤ i → i < S 1070 1 → S 1071 i.toNat = S 1099 i.toNat) → zz_end ≤ n → (0 ≤ x4 ∧ x4 ≤ 3590) → (k : Int) ≤ 200 + x4 → (j : Int) ≤ 30000 + 6 * x4 → (3600 - x4).toNat < N → zz_E g l zy_law_L room_1 (fun u => ∃ M1 n1, u = (.inl (some (zi 1)), M1, n1)) S n 23 [some (.ref 998), some (.ref 1000), some (.ref 1079), some (.ref 1121), some (zi x4)] [] k j) (x4 : Int) (S : zz_S) (n k j : Nat) (G_S : zz_G S) (H_S : zz_Hc S) (R_S : zz_Hr S) (O_S : 1 ≤ S 1079 36) (T0_S : S 1070 1 = S 1079 28) (T1_S : S 1031 6 = S 1079 1) (N_S : ∀ w : Nat, 1 ≤ w → w ≤ 20 → S 1100 w = zt_cd (zt_nw.getD w [])) (U_S : ∀ i : Int, 0 ≤ i → i < S 1070 1 → S 1071 i.toNat = S 1099 i.toNat) (hn : zz_end ≤ n) (hx : 0 ≤ x4 ∧ x4 ≤ 3590) (hkk : (k : Int) ≤ 200 + x4) (hjj : (j : Int) ≤ 30000 + 6 * x4) (hR : (3600 - x4).toNat < N + 1) (hc1 : x4 ≤ zz_ln g - 7) : zz_E g l zy_law_L room_1 (fun u => ∃ M1 n1, u = (.inl (some (zi 1)), M1, n1)) S n 721 [some (.ref 998), some (.ref 1000), some (.ref 1079), some (.ref 1121), some (zi x4)] [] k j := by
  have hln : 0 ≤ zz_ln g ∧ zz_ln g ≤ 3584 := ⟨Int.natCast_nonneg _, Int.ofNat_le.mpr hlen⟩
  have hk : k ≤ 601024 := by omega
  have hj : j ≤ 7293034 := by omega
  refine zz_aload_n (x := 1000) rfl zd_L_law_721 ?_
  refine zz_aload_n (x := 998) rfl zd_L_law_722 ?_
  refine zz_iload (x := x4) rfl zd_L_law_723 ?_
  refine zz_iconst zd_L_law_725 ?_
  refine zz_iadd zd_L_law_726 ?_
  refine zz_sld (by omega) zd_L_law_727 (by omega) ?_
  have g380 := zz_sc_r g (x4 + 1).toNat
  refine zz_aload_n (x := 998) rfl zd_L_law_728 ?_
  refine zz_iload (x := x4) rfl zd_L_law_729 ?_
  refine zz_iconst zd_L_law_731 ?_
  refine zz_iadd zd_L_law_732 ?_
  refine zz_sld (by omega) zd_L_law_733 (by omega) ?_
  have g381 := zz_sc_r g (x4 + 2).toNat
  refine zz_aload_n (x := 998) rfl zd_L_law_734 ?_
  refine zz_iload (x := x4) rfl zd_L_law_735 ?_
  refine zz_iconst zd_L_law_737 ?_
  refine zz_iadd zd_L_law_738 ?_
  refine zz_sld (by omega) zd_L_law_739 (by omega) ?_
  have g382 := zz_sc_r g (x4 + 3).toNat
  refine zz_callHW (rz := zr_input_L) [.ref 1000, zi (zz_sc g (x4 + 1).toNat), zi (zz_sc g (x4 + 2).toNat), zi (zz_sc g (x4 + 3).toNat)] zd_L_law_740 zhl_input_L rfl rfl ⟨Nat.le_of_ble_eq_true rfl, Nat.le_of_ble_eq_true rfl⟩ (by show k + 1 ≤ 601024; omega) (by show j + 6 ≤ 7293034; omega) (zc_input_L (zz_sc g (x4 + 1).toNat) (zz_sc g (x4 + 2).toNat) (zz_sc g (x4 + 3).toNat) S (n) hn hfl G_S (by omega) (by omega) (by omega) H_S) (fun v384 S383 d385 hd385 hP => ?_)
  obtain ⟨G_S383, fS383, rv384, o386, o387⟩ := hP
  have g388 := zz_G.r G_S 1000 7 0 1 rfl rfl
  have hn389 : zz_end ≤ n + d385 := by omega
  have hk390 : (k + zr_input_L.cells) ≤ 601024 := by show k + 1 ≤ 601024; omega
  have hj391 : (j + zr_input_L.slots) ≤ 7293034 := by show j + 6 ≤ 7293034; omega
  have b392 := zz_rf3 (z := (S 1000 7)) (by omega)
  have b393 := zz_rf6 (z := (12 * (S 1000 7) + 0)) (by omega)
  have H_S383 : zz_Hc S383 := o387
  have R_S383 : zz_Hr S383 := zz_Hr.fr fS383 rfl rfl (fun b q h => by have h0_ := zz_rf3 (z := (S 1000 7)) (by omega); have h10_ := zz_rf6 (z := (12 * (S 1000 7) + 0)) (by omega); have h11_ := zz_rf6 (z := (12 * (S 1000 7) + 0)) (by omega); have h12_ := zz_rf6 (z := (12 * (S 1000 7) + 0)) (by omega); have h13_ := zz_rf6 (z := (12 * (S 1000 7) + 0)) (by omega); have h14_ := zz_rf6 (z := (12 * (S 1000 7) + 0)) (by omega); have h15_ := zz_rf6 (z := (12 * (S 1000 7) + 0)) (by omega); have h1_ := zz_rf6 (z := (12 * (S 1000 7) + 0)) (by omega); have h2_ := zz_rf6 (z := (12 * (S 1000 7) + 0)) (by omega); have h3_ := zz_rf6 (z := (12 * (S 1000 7) + 0)) (by omega); have h4_ := zz_rf6 (z := (12 * (S 1000 7) + 0)) (by omega); have h5_ := zz_rf6 (z := (12 * (S 1000 7) + 0)) (by omega); have h6_ := zz_rf6 (z := (12 * (S 1000 7) + 0)) (by omega); have h7_ := zz_rf6 (z := (12 * (S 1000 7) + 0)) (by omega); have h8_ := zz_rf6 (z := (12 * (S 1000 7) + 0)) (by omega); have h9_ := zz_rf6 (z := (12 * (S 1000 7) + 0)) (by omega); omega) R_S
  have O_S383 : 1 ≤ S383 1079 36 := by rw [show S383 1079 36 = S 1079 36 from zz_rc fS383 rfl rfl (by have h0_ := zz_rf3 (z := (S 1000 7)) (by omega); have h10_ := zz_rf6 (z := (12 * (S 1000 7) + 0)) (by omega); have h11_ := zz_rf6 (z := (12 * (S 1000 7) + 0)) (by omega); have h12_ := zz_rf6 (z := (12 * (S 1000 7) + 0)) (by omega); have h13_ := zz_rf6 (z := (12 * (S 1000 7) + 0)) (by omega); have h14_ := zz_rf6 (z := (12 * (S 1000 7) + 0)) (by omega); have h15_ := zz_rf6 (z := (12 * (S 1000 7) + 0)) (by omega); have h1_ := zz_rf6 (z := (12 * (S 1000 7) + 0)) (by omega); have h2_ := zz_rf6 (z := (12 * (S 1000 7) + 0)) (by omega); have h3_ := zz_rf6 (z := (12 * (S 1000 7) + 0)) (by omega); have h4_ := zz_rf6 (z := (12 * (S 1000 7) + 0)) (by omega); have h5_ := zz_rf6 (z := (12 * (S 1000 7) + 0)) (by omega); have h6_ := zz_rf6 (z := (12 * (S 1000 7) + 0)) (by omega); have h7_ := zz_rf6 (z := (12 * (S 1000 7) + 0)) (by omega); have h8_ := zz_rf6 (z := (12 * (S 1000 7) + 0)) (by omega); have h9_ := zz_rf6 (z := (12 * (S 1000 7) + 0)) (by omega); omega) rfl]; exact O_S
  refine zz_istore [some (.ref 998), some (.ref 1000), some (.ref 1079), some (.ref 1121), some (zi x4), some (zi v384)] zd_L_law_743 (by decide) rfl ?_
  refine zz_aload_n (x := 1079) rfl zd_L_law_745 ?_
  refine zz_aload_n (x := 998) rfl zd_L_law_746 ?_
  refine zz_iload (x := x4) rfl zd_L_law_747 ?_
  refine zz_iconst zd_L_law_749 ?_
  refine zz_iadd zd_L_law_750 ?_
  refine zz_sld (by omega) zd_L_law_751 (by omega) ?_
  refine zz_aload_n (x := 998) rfl zd_L_law_752 ?_
  refine zz_iload (x := x4) rfl zd_L_law_753 ?_
  refine zz_iconst zd_L_law_755 ?_
  refine zz_iadd zd_L_law_756 ?_
  refine zz_sld (by omega) zd_L_law_757 (by omega) ?_
  refine zz_aload_n (x := 998) rfl zd_L_law_758 ?_
  refine zz_iload (x := x4) rfl zd_L_law_759 ?_
  refine zz_iconst zd_L_law_761 ?_
  refine zz_iadd zd_L_law_762 ?_
  refine zz_sld (by omega) zd_L_law_763 (by omega) ?_
  have g394 := zz_G.r G_S 1079 36 0 11 rfl rfl
  have e395 : S383 1079 36 = S 1079 36 := (zz_rc fS383 rfl rfl (by omega) rfl)
  refine zz_callVV [zi (zz_sc g (x4 + 1).toNat), zi (zz_sc g (x4 + 2).toNat), zi (zz_sc g (x4 + 3).toNat)] zd_L_law_764 zk_TFLaw_164 zT_1079 (zz_ltn hn389 rfl) rfl rfl ⟨Nat.le_of_ble_eq_true rfl, Nat.le_of_ble_eq_true rfl⟩ ⟨rfl, rfl⟩ hk390 hj391 (zc_input_14_63 (zz_sc g (x4 + 1).toNat) (zz_sc g (x4 + 2).toNat) (zz_sc g (x4 + 3).toNat) S383 (n + d385) hn389 G_S383 (by omega) (by omega) (by omega) R_S383) (fun S396 hP => ?_)
  obtain ⟨G_S396, fS396, o398, o399, o400, o401⟩ := hP
  have H_S396 : zz_Hc S396 := zz_Hc.fr (q := 0) fS396 rfl rfl G_S383 (by decide) rfl (fun b q h => h.elim) H_S383
  have R_S396 : zz_Hr S396 := o401
  have O_S396 : 1 ≤ S396 1079 36 := by omega
  refine zz_goto zd_L_law_767 ?_
  refine zz_iinc [some (.ref 998), some (.ref 1000), some (.ref 1079), some (.ref 1121), some (zi (x4 + 7)), some (zi v384)] zd_L_law_1180 rfl rfl ?_
  refine zz_goto zd_L_law_1183 ?_
  refine zz_less (ls1 := [some (.ref 998), some (.ref 1000), some (.ref 1079), some (.ref 1121), some (zi (x4 + 7))]) ⟨rfl, ⟨rfl, ⟨rfl, ⟨rfl, ⟨rfl, trivial⟩⟩⟩⟩⟩ ?_
  have g402 := zz_G.r G_S 1070 1 0 1500 rfl rfl
  have e403 : S396 1070 1 = S 1070 1 := (zz_rc fS396 rfl rfl (fun h => h) (zz_rc fS383 rfl rfl (by omega) rfl))
  have g404 := zz_G.r G_S 1079 28 0 1500 rfl rfl
  have e405 : S396 1079 28 = S 1079 28 := (zz_rc fS396 rfl rfl (fun h => h) (zz_rc fS383 rfl rfl (by omega) rfl))
  have g406 := zz_G.r G_S 1031 6 2 8 rfl rfl
  have e407 : S396 1031 6 = S 1031 6 := (zz_rc fS396 rfl rfl (fun h => h) (zz_rc fS383 rfl rfl (by omega) rfl))
  have g408 := zz_G.r G_S 1079 1 2 8 rfl rfl
  have e409 : S396 1079 1 = S 1079 1 := (zz_rc fS396 rfl rfl (fun h => h) (zz_rc fS383 rfl rfl (by omega) rfl))
  exact ih (x4 + 7) S396 (n + d385) (k + zr_input_L.cells) (j + zr_input_L.slots) G_S396 H_S396 R_S396 O_S396 (by omega) (by omega) (fun u h1 h2 => ((zz_rc fS396 (zz_nc1 rfl) rfl (fun h => h) (zz_rc fS383 (zz_nc1 rfl) rfl (by have h0_ := zz_rf3 (z := (S 1000 7)) (by omega); have h10_ := zz_rf6 (z := (12 * (S 1000 7) + 0)) (by omega); have h11_ := zz_rf6 (z := (12 * (S 1000 7) + 0)) (by omega); have h12_ := zz_rf6 (z := (12 * (S 1000 7) + 0)) (by omega); have h13_ := zz_rf6 (z := (12 * (S 1000 7) + 0)) (by omega); have h14_ := zz_rf6 (z := (12 * (S 1000 7) + 0)) (by omega); have h15_ := zz_rf6 (z := (12 * (S 1000 7) + 0)) (by omega); have h1_ := zz_rf6 (z := (12 * (S 1000 7) + 0)) (by omega); have h2_ := zz_rf6 (z := (12 * (S 1000 7) + 0)) (by omega); have h3_ := zz_rf6 (z := (12 * (S 1000 7) + 0)) (by omega); have h4_ := zz_rf6 (z := (12 * (S 1000 7) + 0)) (by omega); have h5_ := zz_rf6 (z := (12 * (S 1000 7) + 0)) (by omega); have h6_ := zz_rf6 (z := (12 * (S 1000 7) + 0)) (by omega); have h7_ := zz_rf6 (z := (12 * (S 1000 7) + 0)) (by omega); have h8_ := zz_rf6 (z := (12 * (S 1000 7) + 0)) (by omega); have h9_ := zz_rf6 (z := (12 * (S 1000 7) + 0)) (by omega); omega) rfl)) : S396 1100 u = S 1100 u).trans (N_S u h1 h2)) (fun i h1 h2 => ((zz_rc fS396 (zz_nc1 rfl) rfl (fun h => h) (zz_rc fS383 (zz_nc1 rfl) rfl (by have h0_ := zz_rf3 (z := (S 1000 7)) (by omega); have h10_ := zz_rf6 (z := (12 * (S 1000 7) + 0)) (by omega); have h11_ := zz_rf6 (z := (12 * (S 1000 7) + 0)) (by omega); have h12_ := zz_rf6 (z := (12 * (S 1000 7) + 0)) (by omega); have h13_ := zz_rf6 (z := (12 * (S 1000 7) + 0)) (by omega); have h14_ := zz_rf6 (z := (12 * (S 1000 7) + 0)) (by omega); have h15_ := zz_rf6 (z := (12 * (S 1000 7) + 0)) (by omega); have h1_ := zz_rf6 (z := (12 * (S 1000 7) + 0)) (by omega); have h2_ := zz_rf6 (z := (12 * (S 1000 7) + 0)) (by omega); have h3_ := zz_rf6 (z := (12 * (S 1000 7) + 0)) (by omega); have h4_ := zz_rf6 (z := (12 * (S 1000 7) + 0)) (by omega); have h5_ := zz_rf6 (z := (12 * (S 1000 7) + 0)) (by omega); have h6_ := zz_rf6 (z := (12 * (S 1000 7) + 0)) (by omega); have h7_ := zz_rf6 (z := (12 * (S 1000 7) + 0)) (by omega); have h8_ := zz_rf6 (z := (12 * (S 1000 7) + 0)) (by omega); have h9_ := zz_rf6 (z := (12 * (S 1000 7) + 0)) (by omega); omega) rfl)) : S396 1071 i.toNat = S 1071 i.toNat).trans ((U_S i h1 (by omega)).trans ((zz_rc fS396 (zz_nc1 rfl) rfl (fun h => h) (zz_rc fS383 (zz_nc1 rfl) rfl (by have h0_ := zz_rf3 (z := (S 1000 7)) (by omega); have h10_ := zz_rf6 (z := (12 * (S 1000 7) + 0)) (by omega); have h11_ := zz_rf6 (z := (12 * (S 1000 7) + 0)) (by omega); have h12_ := zz_rf6 (z := (12 * (S 1000 7) + 0)) (by omega); have h13_ := zz_rf6 (z := (12 * (S 1000 7) + 0)) (by omega); have h14_ := zz_rf6 (z := (12 * (S 1000 7) + 0)) (by omega); have h15_ := zz_rf6 (z := (12 * (S 1000 7) + 0)) (by omega); have h1_ := zz_rf6 (z := (12 * (S 1000 7) + 0)) (by omega); have h2_ := zz_rf6 (z := (12 * (S 1000 7) + 0)) (by omega); have h3_ := zz_rf6 (z := (12 * (S 1000 7) + 0)) (by omega); have h4_ := zz_rf6 (z := (12 * (S 1000 7) + 0)) (by omega); have h5_ := zz_rf6 (z := (12 * (S 1000 7) + 0)) (by omega); have h6_ := zz_rf6 (z := (12 * (S 1000 7) + 0)) (by omega); have h7_ := zz_rf6 (z := (12 * (S 1000 7) + 0)) (by omega); have h8_ := zz_rf6 (z := (12 * (S 1000 7) + 0)) (by omega); have h9_ := zz_rf6 (z := (12 * (S 1000 7) + 0)) (by omega); omega) rfl)) : S396 1099 i.toNat = S 1099 i.toNat).symm)) hn389 (by omega) (by show ((k + 1 : Nat) : Int) ≤ 200 + (x4 + 7); omega) (by show ((j + 6 : Nat) : Int) ≤ 30000 + 6 * (x4 + 7); omega) (by omega)
theorem zl_17 {g : mm_G} {l : Launch} (hfl : l.flags = flags0) (hlen : g.2.2.2 997 ≤ 3584) (N : Nat) (ih : ∀ (x4 : Int) (S : zz_S) (n k j : Nat), zz_G S → zz_Hc S → zz_Hr S → 1 ≤ S 1079 36 → S 1070 1 = S 1079 28 → S 1031 6 = S 1079 1 → (∀ w : Nat, 1 ≤ w → w ≤ 20 → S 1100 w = zt_cd (zt_nw.getD w [])) → (∀ i : Int, 0 ≤ i → i < S 1070 1 → S 1071 i.toNat = S 1099 i.toNat) → zz_end ≤ n → (0 ≤ x4 ∧ x4 ≤ 3590) → (k : Int) ≤ 200 + x4 → (j : Int) ≤ 30000 + 6 * x4 → (3600 - x4).toNat < N → zz_E g l zy_law_L room_1 (fun u => ∃ M1 n1, u = (.inl (some (zi 1)), M1, n1)) S n 23 [some (.ref 998), some (.ref 1000), some (.ref 1079), some (.ref 1121), some (zi x4)] [] k j) (x4 : Int) (S : zz_S) (n k j : Nat) (G_S : zz_G S) (H_S : zz_Hc S) (R_S : zz_Hr S) (O_S : 1 ≤ S 1079 36) (T0_S : S 1070 1 = S 1079 28) (T1_S : S 1031 6 = S 1079 1) (N_S : ∀ w : Nat, 1 ≤ w → w ≤ 20 → S 1100 w = zt_cd (zt_nw.getD w [])) (U_S : ∀ i : Int, 0 ≤ i → i < S 1070 1 → S 1071 i.toNat = S 1099 i.toNat) (hn : zz_end ≤ n) (hx : 0 ≤ x4 ∧ x4 ≤ 3590) (hkk : (k : Int) ≤ 200 + x4) (hjj : (j : Int) ≤ 30000 + 6 * x4) (hR : (3600 - x4).toNat < N + 1) (hc1 : x4 ≤ zz_ln g - 7) : zz_E g l zy_law_L room_1 (fun u => ∃ M1 n1, u = (.inl (some (zi 1)), M1, n1)) S n 770 [some (.ref 998), some (.ref 1000), some (.ref 1079), some (.ref 1121), some (zi x4)] [] k j := by
  have hln : 0 ≤ zz_ln g ∧ zz_ln g ≤ 3584 := ⟨Int.natCast_nonneg _, Int.ofNat_le.mpr hlen⟩
  have hk : k ≤ 601024 := by omega
  have hj : j ≤ 7293034 := by omega
  refine zz_aload_n (x := 1000) rfl zd_L_law_770 ?_
  refine zz_aload_n (x := 998) rfl zd_L_law_771 ?_
  refine zz_iload (x := x4) rfl zd_L_law_772 ?_
  refine zz_iconst zd_L_law_774 ?_
  refine zz_iadd zd_L_law_775 ?_
  refine zz_sld (by omega) zd_L_law_776 (by omega) ?_
  have g411 := zz_sc_r g (x4 + 1).toNat
  refine zz_aload_n (x := 998) rfl zd_L_law_777 ?_
  refine zz_iload (x := x4) rfl zd_L_law_778 ?_
  refine zz_iconst zd_L_law_780 ?_
  refine zz_iadd zd_L_law_781 ?_
  refine zz_sld (by omega) zd_L_law_782 (by omega) ?_
  have g412 := zz_sc_r g (x4 + 2).toNat
  refine zz_aload_n (x := 998) rfl zd_L_law_783 ?_
  refine zz_iload (x := x4) rfl zd_L_law_784 ?_
  refine zz_iconst zd_L_law_786 ?_
  refine zz_iadd zd_L_law_787 ?_
  refine zz_sld (by omega) zd_L_law_788 (by omega) ?_
  have g413 := zz_sc_r g (x4 + 3).toNat
  refine zz_aload_n (x := 998) rfl zd_L_law_789 ?_
  refine zz_iload (x := x4) rfl zd_L_law_790 ?_
  refine zz_iconst zd_L_law_792 ?_
  refine zz_iadd zd_L_law_793 ?_
  refine zz_sld (by omega) zd_L_law_794 (by omega) ?_
  have g414 := zz_sc_r g (x4 + 4).toNat
  refine zz_aload_n (x := 998) rfl zd_L_law_795 ?_
  refine zz_iload (x := x4) rfl zd_L_law_796 ?_
  refine zz_iconst zd_L_law_798 ?_
  refine zz_iadd zd_L_law_799 ?_
  refine zz_sld (by omega) zd_L_law_800 (by omega) ?_
  have g415 := zz_sc_r g (x4 + 5).toNat
  refine zz_aload_n (x := 998) rfl zd_L_law_801 ?_
  refine zz_iload (x := x4) rfl zd_L_law_802 ?_
  refine zz_bipush (by decide) zd_L_law_804 ?_
  refine zz_iadd zd_L_law_806 ?_
  refine zz_sld (by omega) zd_L_law_807 (by omega) ?_
  have g416 := zz_sc_r g (x4 + 6).toNat
  refine zz_aload_n (x := 1121) rfl zd_L_law_808 ?_
  refine zz_callHW (rz := zr_convolution_L) [.ref 1000, zi (zz_sc g (x4 + 1).toNat), zi (zz_sc g (x4 + 2).toNat), zi (zz_sc g (x4 + 3).toNat), zi (zz_sc g (x4 + 4).toNat), zi (zz_sc g (x4 + 5).toNat), zi (zz_sc g (x4 + 6).toNat), .ref 1121] zd_L_law_809 zhl_convolution_L rfl rfl ⟨Nat.le_of_ble_eq_true rfl, Nat.le_of_ble_eq_true rfl⟩ (by show k + 1 ≤ 601024; omega) (by show j + 6 ≤ 7293034; omega) (zc_convolution_L (zz_sc g (x4 + 1).toNat) (zz_sc g (x4 + 2).toNat) (zz_sc g (x4 + 3).toNat) (zz_sc g (x4 + 4).toNat) (zz_sc g (x4 + 5).toNat) (zz_sc g (x4 + 6).toNat) S (n) hn hfl G_S (by omega) (by omega) (by omega) (by omega) (by omega) (by omega) H_S) (fun v418 S417 d419 hd419 hP => ?_)
  obtain ⟨G_S417, fS417, rv418, o420⟩ := hP
  have hn421 : zz_end ≤ n + d419 := by omega
  have hk422 : (k + zr_convolution_L.cells) ≤ 601024 := by show k + 1 ≤ 601024; omega
  have hj423 : (j + zr_convolution_L.slots) ≤ 7293034 := by show j + 6 ≤ 7293034; omega
  have H_S417 : zz_Hc S417 := o420
  have R_S417 : zz_Hr S417 := zz_Hr.fr fS417 rfl rfl (fun b q h => h.elim) R_S
  have O_S417 : 1 ≤ S417 1079 36 := by rw [show S417 1079 36 = S 1079 36 from zz_rc fS417 rfl rfl (fun h => h) rfl]; exact O_S
  refine zz_istore [some (.ref 998), some (.ref 1000), some (.ref 1079), some (.ref 1121), some (zi x4), some (zi v418)] zd_L_law_812 (by decide) rfl ?_
  refine zz_aload_n (x := 1079) rfl zd_L_law_814 ?_
  refine zz_aload_n (x := 998) rfl zd_L_law_815 ?_
  refine zz_iload (x := x4) rfl zd_L_law_816 ?_
  refine zz_iconst zd_L_law_818 ?_
  refine zz_iadd zd_L_law_819 ?_
  refine zz_sld (by omega) zd_L_law_820 (by omega) ?_
  refine zz_aload_n (x := 998) rfl zd_L_law_821 ?_
  refine zz_iload (x := x4) rfl zd_L_law_822 ?_
  refine zz_iconst zd_L_law_824 ?_
  refine zz_iadd zd_L_law_825 ?_
  refine zz_sld (by omega) zd_L_law_826 (by omega) ?_
  refine zz_aload_n (x := 998) rfl zd_L_law_827 ?_
  refine zz_iload (x := x4) rfl zd_L_law_828 ?_
  refine zz_iconst zd_L_law_830 ?_
  refine zz_iadd zd_L_law_831 ?_
  refine zz_sld (by omega) zd_L_law_832 (by omega) ?_
  refine zz_aload_n (x := 998) rfl zd_L_law_833 ?_
  refine zz_iload (x := x4) rfl zd_L_law_834 ?_
  refine zz_iconst zd_L_law_836 ?_
  refine zz_iadd zd_L_law_837 ?_
  refine zz_sld (by omega) zd_L_law_838 (by omega) ?_
  refine zz_aload_n (x := 998) rfl zd_L_law_839 ?_
  refine zz_iload (x := x4) rfl zd_L_law_840 ?_
  refine zz_iconst zd_L_law_842 ?_
  refine zz_iadd zd_L_law_843 ?_
  refine zz_sld (by omega) zd_L_law_844 (by omega) ?_
  refine zz_aload_n (x := 998) rfl zd_L_law_845 ?_
  refine zz_iload (x := x4) rfl zd_L_law_846 ?_
  refine zz_bipush (by decide) zd_L_law_848 ?_
  refine zz_iadd zd_L_law_850 ?_
  refine zz_sld (by omega) zd_L_law_851 (by omega) ?_
  have g424 := zz_G.r G_S 1079 36 0 11 rfl rfl
  have e425 : S417 1079 36 = S 1079 36 := (zz_rc fS417 rfl rfl (fun h => h) rfl)
  refine zz_callVI [zi (zz_sc g (x4 + 1).toNat), zi (zz_sc g (x4 + 2).toNat), zi (zz_sc g (x4 + 3).toNat), zi (zz_sc g (x4 + 4).toNat), zi (zz_sc g (x4 + 5).toNat), zi (zz_sc g (x4 + 6).toNat)] zd_L_law_852 zk_TFLaw_168 zT_1079 (zz_ltn hn421 rfl) rfl rfl ⟨Nat.le_of_ble_eq_true rfl, Nat.le_of_ble_eq_true rfl⟩ ⟨rfl, rfl⟩ hk422 hj423 (zc_convolution_14_67 (zz_sc g (x4 + 1).toNat) (zz_sc g (x4 + 2).toNat) (zz_sc g (x4 + 3).toNat) (zz_sc g (x4 + 4).toNat) (zz_sc g (x4 + 5).toNat) (zz_sc g (x4 + 6).toNat) S417 (n + d419) hn421 G_S417 (by omega) (by omega) (by omega) (by omega) (by omega) (by omega) R_S417) (fun v427 S426 hP => ?_)
  obtain ⟨G_S426, fS426, o428, o429, o430⟩ := hP
  have H_S426 : zz_Hc S426 := zz_Hc.fr (q := 0) fS426 rfl rfl G_S417 (by decide) rfl (fun b q h => by omega) H_S417
  have R_S426 : zz_Hr S426 := o430
  have O_S426 : 1 ≤ S426 1079 36 := by omega
  refine zz_istore [some (.ref 998), some (.ref 1000), some (.ref 1079), some (.ref 1121), some (zi x4), some (zi v418), some (zi v427)] zd_L_law_855 (by decide) rfl ?_
  refine zz_goto zd_L_law_857 ?_
  refine zz_iinc [some (.ref 998), some (.ref 1000), some (.ref 1079), some (.ref 1121), some (zi (x4 + 7)), some (zi v418), some (zi v427)] zd_L_law_1180 rfl rfl ?_
  refine zz_goto zd_L_law_1183 ?_
  refine zz_less (ls1 := [some (.ref 998), some (.ref 1000), some (.ref 1079), some (.ref 1121), some (zi (x4 + 7))]) ⟨rfl, ⟨rfl, ⟨rfl, ⟨rfl, ⟨rfl, trivial⟩⟩⟩⟩⟩ ?_
  have g431 := zz_G.r G_S 1070 1 0 1500 rfl rfl
  have e432 : S426 1070 1 = S 1070 1 := (zz_rc fS426 rfl rfl (by omega) (zz_rc fS417 rfl rfl (fun h => h) rfl))
  have g433 := zz_G.r G_S 1079 28 0 1500 rfl rfl
  have e434 : S426 1079 28 = S 1079 28 := (zz_rc fS426 rfl rfl (by omega) (zz_rc fS417 rfl rfl (fun h => h) rfl))
  have g435 := zz_G.r G_S 1031 6 2 8 rfl rfl
  have e436 : S426 1031 6 = S 1031 6 := (zz_rc fS426 rfl rfl (by omega) (zz_rc fS417 rfl rfl (fun h => h) rfl))
  have g437 := zz_G.r G_S 1079 1 2 8 rfl rfl
  have e438 : S426 1079 1 = S 1079 1 := (zz_rc fS426 rfl rfl (by omega) (zz_rc fS417 rfl rfl (fun h => h) rfl))
  exact ih (x4 + 7) S426 (n + d419) (k + zr_convolution_L.cells) (j + zr_convolution_L.slots) G_S426 H_S426 R_S426 O_S426 (by omega) (by omega) (fun u h1 h2 => ((zz_rc fS426 (zz_nc1 rfl) rfl (by omega) (zz_rc fS417 (zz_nc1 rfl) rfl (fun h => h) rfl)) : S426 1100 u = S 1100 u).trans (N_S u h1 h2)) (fun i h1 h2 => ((zz_rc fS426 (zz_nc1 rfl) rfl (by omega) (zz_rc fS417 (zz_nc1 rfl) rfl (fun h => h) rfl)) : S426 1071 i.toNat = S 1071 i.toNat).trans ((U_S i h1 (by omega)).trans ((zz_rc fS426 (zz_nc1 rfl) rfl (by omega) (zz_rc fS417 (zz_nc1 rfl) rfl (fun h => h) rfl)) : S426 1099 i.toNat = S 1099 i.toNat).symm)) hn421 (by omega) (by show ((k + 1 : Nat) : Int) ≤ 200 + (x4 + 7); omega) (by show ((j + 6 : Nat) : Int) ≤ 30000 + 6 * (x4 + 7); omega) (by omega)
theorem zl_18 {g : mm_G} {l : Launch} (hfl : l.flags = flags0) (hlen : g.2.2.2 997 ≤ 3584) (N : Nat) (ih : ∀ (x4 : Int) (S : zz_S) (n k j : Nat), zz_G S → zz_Hc S → zz_Hr S → 1 ≤ S 1079 36 → S 1070 1 = S 1079 28 → S 1031 6 = S 1079 1 → (∀ w : Nat, 1 ≤ w → w ≤ 20 → S 1100 w = zt_cd (zt_nw.getD w [])) → (∀ i : Int, 0 ≤ i → i < S 1070 1 → S 1071 i.toNat = S 1099 i.toNat) → zz_end ≤ n → (0 ≤ x4 ∧ x4 ≤ 3590) → (k : Int) ≤ 200 + x4 → (j : Int) ≤ 30000 + 6 * x4 → (3600 - x4).toNat < N → zz_E g l zy_law_L room_1 (fun u => ∃ M1 n1, u = (.inl (some (zi 1)), M1, n1)) S n 23 [some (.ref 998), some (.ref 1000), some (.ref 1079), some (.ref 1121), some (zi x4)] [] k j) (x4 : Int) (S : zz_S) (n k j : Nat) (G_S : zz_G S) (H_S : zz_Hc S) (R_S : zz_Hr S) (O_S : 1 ≤ S 1079 36) (T0_S : S 1070 1 = S 1079 28) (T1_S : S 1031 6 = S 1079 1) (N_S : ∀ w : Nat, 1 ≤ w → w ≤ 20 → S 1100 w = zt_cd (zt_nw.getD w [])) (U_S : ∀ i : Int, 0 ≤ i → i < S 1070 1 → S 1071 i.toNat = S 1099 i.toNat) (hn : zz_end ≤ n) (hx : 0 ≤ x4 ∧ x4 ≤ 3590) (hkk : (k : Int) ≤ 200 + x4) (hjj : (j : Int) ≤ 30000 + 6 * x4) (hR : (3600 - x4).toNat < N + 1) (hc1 : x4 ≤ zz_ln g - 7) : zz_E g l zy_law_L room_1 (fun u => ∃ M1 n1, u = (.inl (some (zi 1)), M1, n1)) S n 860 [some (.ref 998), some (.ref 1000), some (.ref 1079), some (.ref 1121), some (zi x4)] [] k j := by
  have hln : 0 ≤ zz_ln g ∧ zz_ln g ≤ 3584 := ⟨Int.natCast_nonneg _, Int.ofNat_le.mpr hlen⟩
  have hk : k ≤ 601024 := by omega
  have hj : j ≤ 7293034 := by omega
  refine zz_aload_n (x := 1000) rfl zd_L_law_860 ?_
  refine zz_aload_n (x := 998) rfl zd_L_law_861 ?_
  refine zz_iload (x := x4) rfl zd_L_law_862 ?_
  refine zz_iconst zd_L_law_864 ?_
  refine zz_iadd zd_L_law_865 ?_
  refine zz_sld (by omega) zd_L_law_866 (by omega) ?_
  have g440 := zz_sc_r g (x4 + 1).toNat
  refine zz_aload_n (x := 998) rfl zd_L_law_867 ?_
  refine zz_iload (x := x4) rfl zd_L_law_868 ?_
  refine zz_iconst zd_L_law_870 ?_
  refine zz_iadd zd_L_law_871 ?_
  refine zz_sld (by omega) zd_L_law_872 (by omega) ?_
  have g441 := zz_sc_r g (x4 + 2).toNat
  refine zz_aload_n (x := 998) rfl zd_L_law_873 ?_
  refine zz_iload (x := x4) rfl zd_L_law_874 ?_
  refine zz_iconst zd_L_law_876 ?_
  refine zz_iadd zd_L_law_877 ?_
  refine zz_sld (by omega) zd_L_law_878 (by omega) ?_
  have g442 := zz_sc_r g (x4 + 3).toNat
  refine zz_aload_n (x := 1121) rfl zd_L_law_879 ?_
  refine zz_callHW (rz := zr_pool_L) [.ref 1000, zi (zz_sc g (x4 + 1).toNat), zi (zz_sc g (x4 + 2).toNat), zi (zz_sc g (x4 + 3).toNat), .ref 1121] zd_L_law_880 zhl_pool_L rfl rfl ⟨Nat.le_of_ble_eq_true rfl, Nat.le_of_ble_eq_true rfl⟩ (by show k + 1 ≤ 601024; omega) (by show j + 6 ≤ 7293034; omega) (zc_pool_L (zz_sc g (x4 + 1).toNat) (zz_sc g (x4 + 2).toNat) (zz_sc g (x4 + 3).toNat) S (n) hn hfl G_S (by omega) (by omega) (by omega) H_S) (fun v444 S443 d445 hd445 hP => ?_)
  obtain ⟨G_S443, fS443, rv444, o446⟩ := hP
  have hn447 : zz_end ≤ n + d445 := by omega
  have hk448 : (k + zr_pool_L.cells) ≤ 601024 := by show k + 1 ≤ 601024; omega
  have hj449 : (j + zr_pool_L.slots) ≤ 7293034 := by show j + 6 ≤ 7293034; omega
  have H_S443 : zz_Hc S443 := o446
  have R_S443 : zz_Hr S443 := zz_Hr.fr fS443 rfl rfl (fun b q h => h.elim) R_S
  have O_S443 : 1 ≤ S443 1079 36 := by rw [show S443 1079 36 = S 1079 36 from zz_rc fS443 rfl rfl (fun h => h) rfl]; exact O_S
  refine zz_istore [some (.ref 998), some (.ref 1000), some (.ref 1079), some (.ref 1121), some (zi x4), some (zi v444)] zd_L_law_883 (by decide) rfl ?_
  refine zz_aload_n (x := 1079) rfl zd_L_law_885 ?_
  refine zz_aload_n (x := 998) rfl zd_L_law_886 ?_
  refine zz_iload (x := x4) rfl zd_L_law_887 ?_
  refine zz_iconst zd_L_law_889 ?_
  refine zz_iadd zd_L_law_890 ?_
  refine zz_sld (by omega) zd_L_law_891 (by omega) ?_
  refine zz_aload_n (x := 998) rfl zd_L_law_892 ?_
  refine zz_iload (x := x4) rfl zd_L_law_893 ?_
  refine zz_iconst zd_L_law_895 ?_
  refine zz_iadd zd_L_law_896 ?_
  refine zz_sld (by omega) zd_L_law_897 (by omega) ?_
  refine zz_aload_n (x := 998) rfl zd_L_law_898 ?_
  refine zz_iload (x := x4) rfl zd_L_law_899 ?_
  refine zz_iconst zd_L_law_901 ?_
  refine zz_iadd zd_L_law_902 ?_
  refine zz_sld (by omega) zd_L_law_903 (by omega) ?_
  have g450 := zz_G.r G_S 1079 36 0 11 rfl rfl
  have e451 : S443 1079 36 = S 1079 36 := (zz_rc fS443 rfl rfl (fun h => h) rfl)
  refine zz_callVI [zi (zz_sc g (x4 + 1).toNat), zi (zz_sc g (x4 + 2).toNat), zi (zz_sc g (x4 + 3).toNat)] zd_L_law_904 zk_TFLaw_172 zT_1079 (zz_ltn hn447 rfl) rfl rfl ⟨Nat.le_of_ble_eq_true rfl, Nat.le_of_ble_eq_true rfl⟩ ⟨rfl, rfl⟩ hk448 hj449 (zc_pool_14_69 (zz_sc g (x4 + 1).toNat) (zz_sc g (x4 + 2).toNat) (zz_sc g (x4 + 3).toNat) S443 (n + d445) hn447 G_S443 (by omega) (by omega) (by omega) R_S443) (fun v453 S452 hP => ?_)
  obtain ⟨G_S452, fS452, o454, o455, o456⟩ := hP
  have H_S452 : zz_Hc S452 := zz_Hc.fr (q := 0) fS452 rfl rfl G_S443 (by decide) rfl (fun b q h => by omega) H_S443
  have R_S452 : zz_Hr S452 := o456
  have O_S452 : 1 ≤ S452 1079 36 := by omega
  refine zz_istore [some (.ref 998), some (.ref 1000), some (.ref 1079), some (.ref 1121), some (zi x4), some (zi v444), some (zi v453)] zd_L_law_907 (by decide) rfl ?_
  refine zz_goto zd_L_law_909 ?_
  refine zz_iinc [some (.ref 998), some (.ref 1000), some (.ref 1079), some (.ref 1121), some (zi (x4 + 7)), some (zi v444), some (zi v453)] zd_L_law_1180 rfl rfl ?_
  refine zz_goto zd_L_law_1183 ?_
  refine zz_less (ls1 := [some (.ref 998), some (.ref 1000), some (.ref 1079), some (.ref 1121), some (zi (x4 + 7))]) ⟨rfl, ⟨rfl, ⟨rfl, ⟨rfl, ⟨rfl, trivial⟩⟩⟩⟩⟩ ?_
  have g457 := zz_G.r G_S 1070 1 0 1500 rfl rfl
  have e458 : S452 1070 1 = S 1070 1 := (zz_rc fS452 rfl rfl (by omega) (zz_rc fS443 rfl rfl (fun h => h) rfl))
  have g459 := zz_G.r G_S 1079 28 0 1500 rfl rfl
  have e460 : S452 1079 28 = S 1079 28 := (zz_rc fS452 rfl rfl (by omega) (zz_rc fS443 rfl rfl (fun h => h) rfl))
  have g461 := zz_G.r G_S 1031 6 2 8 rfl rfl
  have e462 : S452 1031 6 = S 1031 6 := (zz_rc fS452 rfl rfl (by omega) (zz_rc fS443 rfl rfl (fun h => h) rfl))
  have g463 := zz_G.r G_S 1079 1 2 8 rfl rfl
  have e464 : S452 1079 1 = S 1079 1 := (zz_rc fS452 rfl rfl (by omega) (zz_rc fS443 rfl rfl (fun h => h) rfl))
  exact ih (x4 + 7) S452 (n + d445) (k + zr_pool_L.cells) (j + zr_pool_L.slots) G_S452 H_S452 R_S452 O_S452 (by omega) (by omega) (fun u h1 h2 => ((zz_rc fS452 (zz_nc1 rfl) rfl (by omega) (zz_rc fS443 (zz_nc1 rfl) rfl (fun h => h) rfl)) : S452 1100 u = S 1100 u).trans (N_S u h1 h2)) (fun i h1 h2 => ((zz_rc fS452 (zz_nc1 rfl) rfl (by omega) (zz_rc fS443 (zz_nc1 rfl) rfl (fun h => h) rfl)) : S452 1071 i.toNat = S 1071 i.toNat).trans ((U_S i h1 (by omega)).trans ((zz_rc fS452 (zz_nc1 rfl) rfl (by omega) (zz_rc fS443 (zz_nc1 rfl) rfl (fun h => h) rfl)) : S452 1099 i.toNat = S 1099 i.toNat).symm)) hn447 (by omega) (by show ((k + 1 : Nat) : Int) ≤ 200 + (x4 + 7); omega) (by show ((j + 6 : Nat) : Int) ≤ 30000 + 6 * (x4 + 7); omega) (by omega)
theorem zl_19 {g : mm_G} {l : Launch} (hfl : l.flags = flags0) (hlen : g.2.2.2 997 ≤ 3584) (N : Nat) (ih : ∀ (x4 : Int) (S : zz_S) (n k j : Nat), zz_G S → zz_Hc S → zz_Hr S → 1 ≤ S 1079 36 → S 1070 1 = S 1079 28 → S 1031 6 = S 1079 1 → (∀ w : Nat, 1 ≤ w → w ≤ 20 → S 1100 w = zt_cd (zt_nw.getD w [])) → (∀ i : Int, 0 ≤ i → i < S 1070 1 → S 1071 i.toNat = S 1099 i.toNat) → zz_end ≤ n → (0 ≤ x4 ∧ x4 ≤ 3590) → (k : Int) ≤ 200 + x4 → (j : Int) ≤ 30000 + 6 * x4 → (3600 - x4).toNat < N → zz_E g l zy_law_L room_1 (fun u => ∃ M1 n1, u = (.inl (some (zi 1)), M1, n1)) S n 23 [some (.ref 998), some (.ref 1000), some (.ref 1079), some (.ref 1121), some (zi x4)] [] k j) (x4 : Int) (S : zz_S) (n k j : Nat) (G_S : zz_G S) (H_S : zz_Hc S) (R_S : zz_Hr S) (O_S : 1 ≤ S 1079 36) (T0_S : S 1070 1 = S 1079 28) (T1_S : S 1031 6 = S 1079 1) (N_S : ∀ w : Nat, 1 ≤ w → w ≤ 20 → S 1100 w = zt_cd (zt_nw.getD w [])) (U_S : ∀ i : Int, 0 ≤ i → i < S 1070 1 → S 1071 i.toNat = S 1099 i.toNat) (hn : zz_end ≤ n) (hx : 0 ≤ x4 ∧ x4 ≤ 3590) (hkk : (k : Int) ≤ 200 + x4) (hjj : (j : Int) ≤ 30000 + 6 * x4) (hR : (3600 - x4).toNat < N + 1) (hc1 : x4 ≤ zz_ln g - 7) : zz_E g l zy_law_L room_1 (fun u => ∃ M1 n1, u = (.inl (some (zi 1)), M1, n1)) S n 912 [some (.ref 998), some (.ref 1000), some (.ref 1079), some (.ref 1121), some (zi x4)] [] k j := by
  have hln : 0 ≤ zz_ln g ∧ zz_ln g ≤ 3584 := ⟨Int.natCast_nonneg _, Int.ofNat_le.mpr hlen⟩
  have hk : k ≤ 601024 := by omega
  have hj : j ≤ 7293034 := by omega
  refine zz_aload_n (x := 1000) rfl zd_L_law_912 ?_
  refine zz_aload_n (x := 998) rfl zd_L_law_913 ?_
  refine zz_iload (x := x4) rfl zd_L_law_914 ?_
  refine zz_iconst zd_L_law_916 ?_
  refine zz_iadd zd_L_law_917 ?_
  refine zz_sld (by omega) zd_L_law_918 (by omega) ?_
  have g466 := zz_sc_r g (x4 + 1).toNat
  refine zz_aload_n (x := 998) rfl zd_L_law_919 ?_
  refine zz_iload (x := x4) rfl zd_L_law_920 ?_
  refine zz_iconst zd_L_law_922 ?_
  refine zz_iadd zd_L_law_923 ?_
  refine zz_sld (by omega) zd_L_law_924 (by omega) ?_
  have g467 := zz_sc_r g (x4 + 2).toNat
  refine zz_aload_n (x := 998) rfl zd_L_law_925 ?_
  refine zz_iload (x := x4) rfl zd_L_law_926 ?_
  refine zz_iconst zd_L_law_928 ?_
  refine zz_iadd zd_L_law_929 ?_
  refine zz_sld (by omega) zd_L_law_930 (by omega) ?_
  have g468 := zz_sc_r g (x4 + 3).toNat
  refine zz_aload_n (x := 1121) rfl zd_L_law_931 ?_
  refine zz_callHW (rz := zr_addition_L) [.ref 1000, zi (zz_sc g (x4 + 1).toNat), zi (zz_sc g (x4 + 2).toNat), zi (zz_sc g (x4 + 3).toNat), .ref 1121] zd_L_law_932 zhl_addition_L rfl rfl ⟨Nat.le_of_ble_eq_true rfl, Nat.le_of_ble_eq_true rfl⟩ (by show k + 1 ≤ 601024; omega) (by show j + 6 ≤ 7293034; omega) (zc_addition_L (zz_sc g (x4 + 1).toNat) (zz_sc g (x4 + 2).toNat) (zz_sc g (x4 + 3).toNat) S (n) hn hfl G_S (by omega) (by omega) (by omega) H_S) (fun v470 S469 d471 hd471 hP => ?_)
  obtain ⟨G_S469, fS469, rv470, o472⟩ := hP
  have hn473 : zz_end ≤ n + d471 := by omega
  have hk474 : (k + zr_addition_L.cells) ≤ 601024 := by show k + 1 ≤ 601024; omega
  have hj475 : (j + zr_addition_L.slots) ≤ 7293034 := by show j + 6 ≤ 7293034; omega
  have H_S469 : zz_Hc S469 := o472
  have R_S469 : zz_Hr S469 := zz_Hr.fr fS469 rfl rfl (fun b q h => h.elim) R_S
  have O_S469 : 1 ≤ S469 1079 36 := by rw [show S469 1079 36 = S 1079 36 from zz_rc fS469 rfl rfl (fun h => h) rfl]; exact O_S
  refine zz_istore [some (.ref 998), some (.ref 1000), some (.ref 1079), some (.ref 1121), some (zi x4), some (zi v470)] zd_L_law_935 (by decide) rfl ?_
  refine zz_aload_n (x := 1079) rfl zd_L_law_937 ?_
  refine zz_aload_n (x := 998) rfl zd_L_law_938 ?_
  refine zz_iload (x := x4) rfl zd_L_law_939 ?_
  refine zz_iconst zd_L_law_941 ?_
  refine zz_iadd zd_L_law_942 ?_
  refine zz_sld (by omega) zd_L_law_943 (by omega) ?_
  refine zz_aload_n (x := 998) rfl zd_L_law_944 ?_
  refine zz_iload (x := x4) rfl zd_L_law_945 ?_
  refine zz_iconst zd_L_law_947 ?_
  refine zz_iadd zd_L_law_948 ?_
  refine zz_sld (by omega) zd_L_law_949 (by omega) ?_
  refine zz_aload_n (x := 998) rfl zd_L_law_950 ?_
  refine zz_iload (x := x4) rfl zd_L_law_951 ?_
  refine zz_iconst zd_L_law_953 ?_
  refine zz_iadd zd_L_law_954 ?_
  refine zz_sld (by omega) zd_L_law_955 (by omega) ?_
  have g476 := zz_G.r G_S 1079 36 0 11 rfl rfl
  have e477 : S469 1079 36 = S 1079 36 := (zz_rc fS469 rfl rfl (fun h => h) rfl)
  refine zz_callVI [zi (zz_sc g (x4 + 1).toNat), zi (zz_sc g (x4 + 2).toNat), zi (zz_sc g (x4 + 3).toNat)] zd_L_law_956 zk_TFLaw_175 zT_1079 (zz_ltn hn473 rfl) rfl rfl ⟨Nat.le_of_ble_eq_true rfl, Nat.le_of_ble_eq_true rfl⟩ ⟨rfl, rfl⟩ hk474 hj475 (zc_addition_14_70 (zz_sc g (x4 + 1).toNat) (zz_sc g (x4 + 2).toNat) (zz_sc g (x4 + 3).toNat) S469 (n + d471) hn473 G_S469 (by omega) (by omega) (by omega) R_S469) (fun v479 S478 hP => ?_)
  obtain ⟨G_S478, fS478, o480, o481, o482⟩ := hP
  have H_S478 : zz_Hc S478 := zz_Hc.fr (q := 0) fS478 rfl rfl G_S469 (by decide) rfl (fun b q h => by omega) H_S469
  have R_S478 : zz_Hr S478 := o482
  have O_S478 : 1 ≤ S478 1079 36 := by omega
  refine zz_istore [some (.ref 998), some (.ref 1000), some (.ref 1079), some (.ref 1121), some (zi x4), some (zi v470), some (zi v479)] zd_L_law_959 (by decide) rfl ?_
  refine zz_goto zd_L_law_961 ?_
  refine zz_iinc [some (.ref 998), some (.ref 1000), some (.ref 1079), some (.ref 1121), some (zi (x4 + 7)), some (zi v470), some (zi v479)] zd_L_law_1180 rfl rfl ?_
  refine zz_goto zd_L_law_1183 ?_
  refine zz_less (ls1 := [some (.ref 998), some (.ref 1000), some (.ref 1079), some (.ref 1121), some (zi (x4 + 7))]) ⟨rfl, ⟨rfl, ⟨rfl, ⟨rfl, ⟨rfl, trivial⟩⟩⟩⟩⟩ ?_
  have g483 := zz_G.r G_S 1070 1 0 1500 rfl rfl
  have e484 : S478 1070 1 = S 1070 1 := (zz_rc fS478 rfl rfl (by omega) (zz_rc fS469 rfl rfl (fun h => h) rfl))
  have g485 := zz_G.r G_S 1079 28 0 1500 rfl rfl
  have e486 : S478 1079 28 = S 1079 28 := (zz_rc fS478 rfl rfl (by omega) (zz_rc fS469 rfl rfl (fun h => h) rfl))
  have g487 := zz_G.r G_S 1031 6 2 8 rfl rfl
  have e488 : S478 1031 6 = S 1031 6 := (zz_rc fS478 rfl rfl (by omega) (zz_rc fS469 rfl rfl (fun h => h) rfl))
  have g489 := zz_G.r G_S 1079 1 2 8 rfl rfl
  have e490 : S478 1079 1 = S 1079 1 := (zz_rc fS478 rfl rfl (by omega) (zz_rc fS469 rfl rfl (fun h => h) rfl))
  exact ih (x4 + 7) S478 (n + d471) (k + zr_addition_L.cells) (j + zr_addition_L.slots) G_S478 H_S478 R_S478 O_S478 (by omega) (by omega) (fun u h1 h2 => ((zz_rc fS478 (zz_nc1 rfl) rfl (by omega) (zz_rc fS469 (zz_nc1 rfl) rfl (fun h => h) rfl)) : S478 1100 u = S 1100 u).trans (N_S u h1 h2)) (fun i h1 h2 => ((zz_rc fS478 (zz_nc1 rfl) rfl (by omega) (zz_rc fS469 (zz_nc1 rfl) rfl (fun h => h) rfl)) : S478 1071 i.toNat = S 1071 i.toNat).trans ((U_S i h1 (by omega)).trans ((zz_rc fS478 (zz_nc1 rfl) rfl (by omega) (zz_rc fS469 (zz_nc1 rfl) rfl (fun h => h) rfl)) : S478 1099 i.toNat = S 1099 i.toNat).symm)) hn473 (by omega) (by show ((k + 1 : Nat) : Int) ≤ 200 + (x4 + 7); omega) (by show ((j + 6 : Nat) : Int) ≤ 30000 + 6 * (x4 + 7); omega) (by omega)
theorem zl_20 {g : mm_G} {l : Launch} (hfl : l.flags = flags0) (hlen : g.2.2.2 997 ≤ 3584) (N : Nat) (ih : ∀ (x4 : Int) (S : zz_S) (n k j : Nat), zz_G S → zz_Hc S → zz_Hr S → 1 ≤ S 1079 36 → S 1070 1 = S 1079 28 → S 1031 6 = S 1079 1 → (∀ w : Nat, 1 ≤ w → w ≤ 20 → S 1100 w = zt_cd (zt_nw.getD w [])) → (∀ i : Int, 0 ≤ i → i < S 1070 1 → S 1071 i.toNat = S 1099 i.toNat) → zz_end ≤ n → (0 ≤ x4 ∧ x4 ≤ 3590) → (k : Int) ≤ 200 + x4 → (j : Int) ≤ 30000 + 6 * x4 → (3600 - x4).toNat < N → zz_E g l zy_law_L room_1 (fun u => ∃ M1 n1, u = (.inl (some (zi 1)), M1, n1)) S n 23 [some (.ref 998), some (.ref 1000), some (.ref 1079), some (.ref 1121), some (zi x4)] [] k j) (x4 : Int) (S : zz_S) (n k j : Nat) (G_S : zz_G S) (H_S : zz_Hc S) (R_S : zz_Hr S) (O_S : 1 ≤ S 1079 36) (T0_S : S 1070 1 = S 1079 28) (T1_S : S 1031 6 = S 1079 1) (N_S : ∀ w : Nat, 1 ≤ w → w ≤ 20 → S 1100 w = zt_cd (zt_nw.getD w [])) (U_S : ∀ i : Int, 0 ≤ i → i < S 1070 1 → S 1071 i.toNat = S 1099 i.toNat) (hn : zz_end ≤ n) (hx : 0 ≤ x4 ∧ x4 ≤ 3590) (hkk : (k : Int) ≤ 200 + x4) (hjj : (j : Int) ≤ 30000 + 6 * x4) (hR : (3600 - x4).toNat < N + 1) (hc1 : x4 ≤ zz_ln g - 7) : zz_E g l zy_law_L room_1 (fun u => ∃ M1 n1, u = (.inl (some (zi 1)), M1, n1)) S n 964 [some (.ref 998), some (.ref 1000), some (.ref 1079), some (.ref 1121), some (zi x4)] [] k j := by
  have hln : 0 ≤ zz_ln g ∧ zz_ln g ≤ 3584 := ⟨Int.natCast_nonneg _, Int.ofNat_le.mpr hlen⟩
  have hk : k ≤ 601024 := by omega
  have hj : j ≤ 7293034 := by omega
  refine zz_aload_n (x := 1000) rfl zd_L_law_964 ?_
  refine zz_aload_n (x := 998) rfl zd_L_law_965 ?_
  refine zz_iload (x := x4) rfl zd_L_law_966 ?_
  refine zz_iconst zd_L_law_968 ?_
  refine zz_iadd zd_L_law_969 ?_
  refine zz_sld (by omega) zd_L_law_970 (by omega) ?_
  have g492 := zz_sc_r g (x4 + 1).toNat
  refine zz_aload_n (x := 998) rfl zd_L_law_971 ?_
  refine zz_iload (x := x4) rfl zd_L_law_972 ?_
  refine zz_iconst zd_L_law_974 ?_
  refine zz_iadd zd_L_law_975 ?_
  refine zz_sld (by omega) zd_L_law_976 (by omega) ?_
  have g493 := zz_sc_r g (x4 + 2).toNat
  refine zz_aload_n (x := 1121) rfl zd_L_law_977 ?_
  refine zz_callHW (rz := zr_form_L) [.ref 1000, zi (zz_sc g (x4 + 1).toNat), zi (zz_sc g (x4 + 2).toNat), .ref 1121] zd_L_law_978 zhl_form_L rfl rfl ⟨Nat.le_of_ble_eq_true rfl, Nat.le_of_ble_eq_true rfl⟩ (by show k + 1 ≤ 601024; omega) (by show j + 6 ≤ 7293034; omega) (zc_form_L (zz_sc g (x4 + 1).toNat) (zz_sc g (x4 + 2).toNat) S (n) hn hfl G_S (by omega) (by omega)) (fun v495 S494 d496 hd496 hP => ?_)
  obtain ⟨G_S494, fS494, rv495⟩ := hP
  have hn497 : zz_end ≤ n + d496 := by omega
  have hk498 : (k + zr_form_L.cells) ≤ 601024 := by show k + 1 ≤ 601024; omega
  have hj499 : (j + zr_form_L.slots) ≤ 7293034 := by show j + 6 ≤ 7293034; omega
  have H_S494 : zz_Hc S494 := zz_Hc.fr (q := 0) fS494 rfl rfl G_S (by decide) rfl (fun b q h => h.elim) H_S
  have R_S494 : zz_Hr S494 := zz_Hr.fr fS494 rfl rfl (fun b q h => h.elim) R_S
  have O_S494 : 1 ≤ S494 1079 36 := by rw [show S494 1079 36 = S 1079 36 from zz_rc fS494 rfl rfl (fun h => h) rfl]; exact O_S
  refine zz_istore [some (.ref 998), some (.ref 1000), some (.ref 1079), some (.ref 1121), some (zi x4), some (zi v495)] zd_L_law_981 (by decide) rfl ?_
  refine zz_aload_n (x := 1079) rfl zd_L_law_983 ?_
  refine zz_aload_n (x := 998) rfl zd_L_law_984 ?_
  refine zz_iload (x := x4) rfl zd_L_law_985 ?_
  refine zz_iconst zd_L_law_987 ?_
  refine zz_iadd zd_L_law_988 ?_
  refine zz_sld (by omega) zd_L_law_989 (by omega) ?_
  refine zz_aload_n (x := 998) rfl zd_L_law_990 ?_
  refine zz_iload (x := x4) rfl zd_L_law_991 ?_
  refine zz_iconst zd_L_law_993 ?_
  refine zz_iadd zd_L_law_994 ?_
  refine zz_sld (by omega) zd_L_law_995 (by omega) ?_
  refine zz_callVI [zi (zz_sc g (x4 + 1).toNat), zi (zz_sc g (x4 + 2).toNat)] zd_L_law_996 zk_TFLaw_178 zT_1079 (zz_ltn hn497 rfl) rfl rfl ⟨Nat.le_of_ble_eq_true rfl, Nat.le_of_ble_eq_true rfl⟩ ⟨rfl, rfl⟩ hk498 hj499 (zc_form_14_71 (zz_sc g (x4 + 1).toNat) (zz_sc g (x4 + 2).toNat) S494 (n + d496) hn497 G_S494 (by omega) (by omega)) (fun v501 S500 hP => ?_)
  obtain ⟨G_S500, fS500, o502⟩ := hP
  have H_S500 : zz_Hc S500 := zz_Hc.fr (q := 0) fS500 rfl rfl G_S494 (by decide) rfl (fun b q h => h.elim) H_S494
  have R_S500 : zz_Hr S500 := zz_Hr.fr fS500 rfl rfl (fun b q h => h.elim) R_S494
  have O_S500 : 1 ≤ S500 1079 36 := by rw [show S500 1079 36 = S494 1079 36 from zz_rc fS500 rfl rfl (fun h => h) rfl]; exact O_S494
  refine zz_istore [some (.ref 998), some (.ref 1000), some (.ref 1079), some (.ref 1121), some (zi x4), some (zi v495), some (zi v501)] zd_L_law_999 (by decide) rfl ?_
  refine zz_goto zd_L_law_1001 ?_
  refine zz_iinc [some (.ref 998), some (.ref 1000), some (.ref 1079), some (.ref 1121), some (zi (x4 + 7)), some (zi v495), some (zi v501)] zd_L_law_1180 rfl rfl ?_
  refine zz_goto zd_L_law_1183 ?_
  refine zz_less (ls1 := [some (.ref 998), some (.ref 1000), some (.ref 1079), some (.ref 1121), some (zi (x4 + 7))]) ⟨rfl, ⟨rfl, ⟨rfl, ⟨rfl, ⟨rfl, trivial⟩⟩⟩⟩⟩ ?_
  have g503 := zz_G.r G_S 1070 1 0 1500 rfl rfl
  have e504 : S500 1070 1 = S 1070 1 := (zz_rc fS500 rfl rfl (fun h => h) (zz_rc fS494 rfl rfl (fun h => h) rfl))
  have g505 := zz_G.r G_S 1079 28 0 1500 rfl rfl
  have e506 : S500 1079 28 = S 1079 28 := (zz_rc fS500 rfl rfl (fun h => h) (zz_rc fS494 rfl rfl (fun h => h) rfl))
  have g507 := zz_G.r G_S 1031 6 2 8 rfl rfl
  have e508 : S500 1031 6 = S 1031 6 := (zz_rc fS500 rfl rfl (fun h => h) (zz_rc fS494 rfl rfl (fun h => h) rfl))
  have g509 := zz_G.r G_S 1079 1 2 8 rfl rfl
  have e510 : S500 1079 1 = S 1079 1 := (zz_rc fS500 rfl rfl (fun h => h) (zz_rc fS494 rfl rfl (fun h => h) rfl))
  exact ih (x4 + 7) S500 (n + d496) (k + zr_form_L.cells) (j + zr_form_L.slots) G_S500 H_S500 R_S500 O_S500 (by omega) (by omega) (fun u h1 h2 => ((zz_rc fS500 (zz_nc1 rfl) rfl (fun h => h) (zz_rc fS494 (zz_nc1 rfl) rfl (fun h => h) rfl)) : S500 1100 u = S 1100 u).trans (N_S u h1 h2)) (fun i h1 h2 => ((zz_rc fS500 (zz_nc1 rfl) rfl (fun h => h) (zz_rc fS494 (zz_nc1 rfl) rfl (fun h => h) rfl)) : S500 1071 i.toNat = S 1071 i.toNat).trans ((U_S i h1 (by omega)).trans ((zz_rc fS500 (zz_nc1 rfl) rfl (fun h => h) (zz_rc fS494 (zz_nc1 rfl) rfl (fun h => h) rfl)) : S500 1099 i.toNat = S 1099 i.toNat).symm)) hn497 (by omega) (by show ((k + 1 : Nat) : Int) ≤ 200 + (x4 + 7); omega) (by show ((j + 6 : Nat) : Int) ≤ 30000 + 6 * (x4 + 7); omega) (by omega)
theorem zl_21 {g : mm_G} {l : Launch} (hfl : l.flags = flags0) (hlen : g.2.2.2 997 ≤ 3584) (N : Nat) (ih : ∀ (x4 : Int) (S : zz_S) (n k j : Nat), zz_G S → zz_Hc S → zz_Hr S → 1 ≤ S 1079 36 → S 1070 1 = S 1079 28 → S 1031 6 = S 1079 1 → (∀ w : Nat, 1 ≤ w → w ≤ 20 → S 1100 w = zt_cd (zt_nw.getD w [])) → (∀ i : Int, 0 ≤ i → i < S 1070 1 → S 1071 i.toNat = S 1099 i.toNat) → zz_end ≤ n → (0 ≤ x4 ∧ x4 ≤ 3590) → (k : Int) ≤ 200 + x4 → (j : Int) ≤ 30000 + 6 * x4 → (3600 - x4).toNat < N → zz_E g l zy_law_L room_1 (fun u => ∃ M1 n1, u = (.inl (some (zi 1)), M1, n1)) S n 23 [some (.ref 998), some (.ref 1000), some (.ref 1079), some (.ref 1121), some (zi x4)] [] k j) (x4 : Int) (S : zz_S) (n k j : Nat) (G_S : zz_G S) (H_S : zz_Hc S) (R_S : zz_Hr S) (O_S : 1 ≤ S 1079 36) (T0_S : S 1070 1 = S 1079 28) (T1_S : S 1031 6 = S 1079 1) (N_S : ∀ w : Nat, 1 ≤ w → w ≤ 20 → S 1100 w = zt_cd (zt_nw.getD w [])) (U_S : ∀ i : Int, 0 ≤ i → i < S 1070 1 → S 1071 i.toNat = S 1099 i.toNat) (hn : zz_end ≤ n) (hx : 0 ≤ x4 ∧ x4 ≤ 3590) (hkk : (k : Int) ≤ 200 + x4) (hjj : (j : Int) ≤ 30000 + 6 * x4) (hR : (3600 - x4).toNat < N + 1) (hc1 : x4 ≤ zz_ln g - 7) : zz_E g l zy_law_L room_1 (fun u => ∃ M1 n1, u = (.inl (some (zi 1)), M1, n1)) S n 1004 [some (.ref 998), some (.ref 1000), some (.ref 1079), some (.ref 1121), some (zi x4)] [] k j := by
  have hln : 0 ≤ zz_ln g ∧ zz_ln g ≤ 3584 := ⟨Int.natCast_nonneg _, Int.ofNat_le.mpr hlen⟩
  have hk : k ≤ 601024 := by omega
  have hj : j ≤ 7293034 := by omega
  refine zz_aload_n (x := 1000) rfl zd_L_law_1004 ?_
  refine zz_aload_n (x := 1121) rfl zd_L_law_1005 ?_
  refine zz_callHW (rz := zr_compile_L) [.ref 1000, .ref 1121] zd_L_law_1006 zhl_compile_L rfl rfl ⟨Nat.le_of_ble_eq_true rfl, Nat.le_of_ble_eq_true rfl⟩ (by show k + 1 ≤ 601024; omega) (by show j + 6 ≤ 7293034; omega) (zc_compile_L  S (n) hn hfl G_S H_S) (fun v513 S512 d514 hd514 hP => ?_)
  obtain ⟨G_S512, fS512, rv513, o515⟩ := hP
  have hn516 : zz_end ≤ n + d514 := by omega
  have hk517 : (k + zr_compile_L.cells) ≤ 601024 := by show k + 1 ≤ 601024; omega
  have hj518 : (j + zr_compile_L.slots) ≤ 7293034 := by show j + 6 ≤ 7293034; omega
  have H_S512 : zz_Hc S512 := o515
  have R_S512 : zz_Hr S512 := zz_Hr.fr fS512 rfl rfl (fun b q h => h.elim) R_S
  have O_S512 : 1 ≤ S512 1079 36 := by rw [show S512 1079 36 = S 1079 36 from zz_rc fS512 rfl rfl (fun h => h) rfl]; exact O_S
  refine zz_istore [some (.ref 998), some (.ref 1000), some (.ref 1079), some (.ref 1121), some (zi x4), some (zi v513)] zd_L_law_1009 (by decide) rfl ?_
  refine zz_aload_n (x := 1079) rfl zd_L_law_1011 ?_
  refine zz_callVI [] zd_L_law_1012 zk_TFLaw_182 zT_1079 (zz_ltn hn516 rfl) rfl rfl ⟨Nat.le_of_ble_eq_true rfl, Nat.le_of_ble_eq_true rfl⟩ ⟨rfl, rfl⟩ hk517 hj518 (zc_compile_14_89  S512 (n + d514) hn516 G_S512 ) (fun v520 S519 hP => ?_)
  obtain ⟨G_S519, fS519, o521⟩ := hP
  have H_S519 : zz_Hc S519 := zz_Hc.fr (q := 0) fS519 rfl rfl G_S512 (by decide) rfl (fun b q h => h.elim) H_S512
  have R_S519 : zz_Hr S519 := zz_Hr.fr fS519 rfl rfl (fun b q h => h.elim) R_S512
  have O_S519 : 1 ≤ S519 1079 36 := by rw [show S519 1079 36 = S512 1079 36 from zz_rc fS519 rfl rfl (fun h => h) rfl]; exact O_S512
  refine zz_istore [some (.ref 998), some (.ref 1000), some (.ref 1079), some (.ref 1121), some (zi x4), some (zi v513), some (zi v520)] zd_L_law_1015 (by decide) rfl ?_
  refine zz_goto zd_L_law_1017 ?_
  refine zz_iinc [some (.ref 998), some (.ref 1000), some (.ref 1079), some (.ref 1121), some (zi (x4 + 7)), some (zi v513), some (zi v520)] zd_L_law_1180 rfl rfl ?_
  refine zz_goto zd_L_law_1183 ?_
  refine zz_less (ls1 := [some (.ref 998), some (.ref 1000), some (.ref 1079), some (.ref 1121), some (zi (x4 + 7))]) ⟨rfl, ⟨rfl, ⟨rfl, ⟨rfl, ⟨rfl, trivial⟩⟩⟩⟩⟩ ?_
  have g522 := zz_G.r G_S 1070 1 0 1500 rfl rfl
  have e523 : S519 1070 1 = S 1070 1 := (zz_rc fS519 rfl rfl (fun h => h) (zz_rc fS512 rfl rfl (fun h => h) rfl))
  have g524 := zz_G.r G_S 1079 28 0 1500 rfl rfl
  have e525 : S519 1079 28 = S 1079 28 := (zz_rc fS519 rfl rfl (fun h => h) (zz_rc fS512 rfl rfl (fun h => h) rfl))
  have g526 := zz_G.r G_S 1031 6 2 8 rfl rfl
  have e527 : S519 1031 6 = S 1031 6 := (zz_rc fS519 rfl rfl (fun h => h) (zz_rc fS512 rfl rfl (fun h => h) rfl))
  have g528 := zz_G.r G_S 1079 1 2 8 rfl rfl
  have e529 : S519 1079 1 = S 1079 1 := (zz_rc fS519 rfl rfl (fun h => h) (zz_rc fS512 rfl rfl (fun h => h) rfl))
  exact ih (x4 + 7) S519 (n + d514) (k + zr_compile_L.cells) (j + zr_compile_L.slots) G_S519 H_S519 R_S519 O_S519 (by omega) (by omega) (fun u h1 h2 => ((zz_rc fS519 (zz_nc1 rfl) rfl (fun h => h) (zz_rc fS512 (zz_nc1 rfl) rfl (fun h => h) rfl)) : S519 1100 u = S 1100 u).trans (N_S u h1 h2)) (fun i h1 h2 => ((zz_rc fS519 (zz_nc1 rfl) rfl (fun h => h) (zz_rc fS512 (zz_nc1 rfl) rfl (fun h => h) rfl)) : S519 1071 i.toNat = S 1071 i.toNat).trans ((U_S i h1 (by omega)).trans ((zz_rc fS519 (zz_nc1 rfl) rfl (fun h => h) (zz_rc fS512 (zz_nc1 rfl) rfl (fun h => h) rfl)) : S519 1099 i.toNat = S 1099 i.toNat).symm)) hn516 (by omega) (by show ((k + 1 : Nat) : Int) ≤ 200 + (x4 + 7); omega) (by show ((j + 6 : Nat) : Int) ≤ 30000 + 6 * (x4 + 7); omega) (by omega)
theorem zl_22 {g : mm_G} {l : Launch} (hfl : l.flags = flags0) (hlen : g.2.2.2 997 ≤ 3584) (N : Nat) (ih : ∀ (x4 : Int) (S : zz_S) (n k j : Nat), zz_G S → zz_Hc S → zz_Hr S → 1 ≤ S 1079 36 → S 1070 1 = S 1079 28 → S 1031 6 = S 1079 1 → (∀ w : Nat, 1 ≤ w → w ≤ 20 → S 1100 w = zt_cd (zt_nw.getD w [])) → (∀ i : Int, 0 ≤ i → i < S 1070 1 → S 1071 i.toNat = S 1099 i.toNat) → zz_end ≤ n → (0 ≤ x4 ∧ x4 ≤ 3590) → (k : Int) ≤ 200 + x4 → (j : Int) ≤ 30000 + 6 * x4 → (3600 - x4).toNat < N → zz_E g l zy_law_L room_1 (fun u => ∃ M1 n1, u = (.inl (some (zi 1)), M1, n1)) S n 23 [some (.ref 998), some (.ref 1000), some (.ref 1079), some (.ref 1121), some (zi x4)] [] k j) (x4 : Int) (S : zz_S) (n k j : Nat) (G_S : zz_G S) (H_S : zz_Hc S) (R_S : zz_Hr S) (O_S : 1 ≤ S 1079 36) (T0_S : S 1070 1 = S 1079 28) (T1_S : S 1031 6 = S 1079 1) (N_S : ∀ w : Nat, 1 ≤ w → w ≤ 20 → S 1100 w = zt_cd (zt_nw.getD w [])) (U_S : ∀ i : Int, 0 ≤ i → i < S 1070 1 → S 1071 i.toNat = S 1099 i.toNat) (hn : zz_end ≤ n) (hx : 0 ≤ x4 ∧ x4 ≤ 3590) (hkk : (k : Int) ≤ 200 + x4) (hjj : (j : Int) ≤ 30000 + 6 * x4) (hR : (3600 - x4).toNat < N + 1) (hc1 : x4 ≤ zz_ln g - 7) : zz_E g l zy_law_L room_1 (fun u => ∃ M1 n1, u = (.inl (some (zi 1)), M1, n1)) S n 1020 [some (.ref 998), some (.ref 1000), some (.ref 1079), some (.ref 1121), some (zi x4)] [] k j := by
  have hln : 0 ≤ zz_ln g ∧ zz_ln g ≤ 3584 := ⟨Int.natCast_nonneg _, Int.ofNat_le.mpr hlen⟩
  have hk : k ≤ 601024 := by omega
  have hj : j ≤ 7293034 := by omega
  refine zz_aload_n (x := 1000) rfl zd_L_law_1020 ?_
  refine zz_callVV [] zd_L_law_1021 zk_TFLaw_183 zT_1000 (zz_ltn hn rfl) rfl rfl ⟨Nat.le_of_ble_eq_true rfl, Nat.le_of_ble_eq_true rfl⟩ ⟨rfl, rfl⟩ hk hj (zc_reckon_1_24  S (n) hn G_S ) (fun S531 hP => ?_)
  obtain ⟨G_S531, fS531⟩ := hP
  have H_S531 : zz_Hc S531 := zz_Hc.fr (q := 0) fS531 rfl rfl G_S (by decide) rfl (fun b q h => h.elim) H_S
  have R_S531 : zz_Hr S531 := zz_Hr.fr fS531 rfl rfl (fun b q h => h.elim) R_S
  have O_S531 : 1 ≤ S531 1079 36 := by rw [show S531 1079 36 = S 1079 36 from zz_rc fS531 rfl rfl (fun h => h) rfl]; exact O_S
  refine zz_aload_n (x := 1079) rfl zd_L_law_1024 ?_
  refine zz_callVV [] zd_L_law_1025 zk_TFLaw_186 zT_1079 (zz_ltn hn rfl) rfl rfl ⟨Nat.le_of_ble_eq_true rfl, Nat.le_of_ble_eq_true rfl⟩ ⟨rfl, rfl⟩ hk hj (zc_reckon_14_76  S531 (n) hn G_S531 R_S531) (fun S533 hP => ?_)
  obtain ⟨G_S533, fS533, o535⟩ := hP
  have H_S533 : zz_Hc S533 := zz_Hc.fr (q := 0) fS533 rfl rfl G_S531 (by decide) rfl (fun b q h => h.elim) H_S531
  have R_S533 : zz_Hr S533 := o535
  have O_S533 : 1 ≤ S533 1079 36 := by rw [show S533 1079 36 = S531 1079 36 from zz_rc fS533 rfl rfl (fun h => h) rfl]; exact O_S531
  refine zz_goto zd_L_law_1028 ?_
  refine zz_iinc [some (.ref 998), some (.ref 1000), some (.ref 1079), some (.ref 1121), some (zi (x4 + 7))] zd_L_law_1180 rfl rfl ?_
  refine zz_goto zd_L_law_1183 ?_
  refine zz_less (ls1 := [some (.ref 998), some (.ref 1000), some (.ref 1079), some (.ref 1121), some (zi (x4 + 7))]) ⟨rfl, ⟨rfl, ⟨rfl, ⟨rfl, ⟨rfl, trivial⟩⟩⟩⟩⟩ ?_
  have g536 := zz_G.r G_S 1070 1 0 1500 rfl rfl
  have e537 : S533 1070 1 = S 1070 1 := (zz_rc fS533 rfl rfl (fun h => h) (zz_rc fS531 rfl rfl (fun h => h) rfl))
  have g538 := zz_G.r G_S 1079 28 0 1500 rfl rfl
  have e539 : S533 1079 28 = S 1079 28 := (zz_rc fS533 rfl rfl (fun h => h) (zz_rc fS531 rfl rfl (fun h => h) rfl))
  have g540 := zz_G.r G_S 1031 6 2 8 rfl rfl
  have e541 : S533 1031 6 = S 1031 6 := (zz_rc fS533 rfl rfl (fun h => h) (zz_rc fS531 rfl rfl (fun h => h) rfl))
  have g542 := zz_G.r G_S 1079 1 2 8 rfl rfl
  have e543 : S533 1079 1 = S 1079 1 := (zz_rc fS533 rfl rfl (fun h => h) (zz_rc fS531 rfl rfl (fun h => h) rfl))
  exact ih (x4 + 7) S533 (n) k j G_S533 H_S533 R_S533 O_S533 (by omega) (by omega) (fun u h1 h2 => ((zz_rc fS533 (zz_nc1 rfl) rfl (fun h => h) (zz_rc fS531 (zz_nc1 rfl) rfl (fun h => h) rfl)) : S533 1100 u = S 1100 u).trans (N_S u h1 h2)) (fun i h1 h2 => ((zz_rc fS533 (zz_nc1 rfl) rfl (fun h => h) (zz_rc fS531 (zz_nc1 rfl) rfl (fun h => h) rfl)) : S533 1071 i.toNat = S 1071 i.toNat).trans ((U_S i h1 (by omega)).trans ((zz_rc fS533 (zz_nc1 rfl) rfl (fun h => h) (zz_rc fS531 (zz_nc1 rfl) rfl (fun h => h) rfl)) : S533 1099 i.toNat = S 1099 i.toNat).symm)) hn (by omega) (by show ((k : Nat) : Int) ≤ 200 + (x4 + 7); omega) (by show ((j : Nat) : Int) ≤ 30000 + 6 * (x4 + 7); omega) (by omega)
theorem zl_23 {g : mm_G} {l : Launch} (hfl : l.flags = flags0) (hlen : g.2.2.2 997 ≤ 3584) (N : Nat) (ih : ∀ (x4 : Int) (S : zz_S) (n k j : Nat), zz_G S → zz_Hc S → zz_Hr S → 1 ≤ S 1079 36 → S 1070 1 = S 1079 28 → S 1031 6 = S 1079 1 → (∀ w : Nat, 1 ≤ w → w ≤ 20 → S 1100 w = zt_cd (zt_nw.getD w [])) → (∀ i : Int, 0 ≤ i → i < S 1070 1 → S 1071 i.toNat = S 1099 i.toNat) → zz_end ≤ n → (0 ≤ x4 ∧ x4 ≤ 3590) → (k : Int) ≤ 200 + x4 → (j : Int) ≤ 30000 + 6 * x4 → (3600 - x4).toNat < N → zz_E g l zy_law_L room_1 (fun u => ∃ M1 n1, u = (.inl (some (zi 1)), M1, n1)) S n 23 [some (.ref 998), some (.ref 1000), some (.ref 1079), some (.ref 1121), some (zi x4)] [] k j) (x4 : Int) (S : zz_S) (n k j : Nat) (G_S : zz_G S) (H_S : zz_Hc S) (R_S : zz_Hr S) (O_S : 1 ≤ S 1079 36) (T0_S : S 1070 1 = S 1079 28) (T1_S : S 1031 6 = S 1079 1) (N_S : ∀ w : Nat, 1 ≤ w → w ≤ 20 → S 1100 w = zt_cd (zt_nw.getD w [])) (U_S : ∀ i : Int, 0 ≤ i → i < S 1070 1 → S 1071 i.toNat = S 1099 i.toNat) (hn : zz_end ≤ n) (hx : 0 ≤ x4 ∧ x4 ≤ 3590) (hkk : (k : Int) ≤ 200 + x4) (hjj : (j : Int) ≤ 30000 + 6 * x4) (hR : (3600 - x4).toNat < N + 1) (hc1 : x4 ≤ zz_ln g - 7) : zz_E g l zy_law_L room_1 (fun u => ∃ M1 n1, u = (.inl (some (zi 1)), M1, n1)) S n 1031 [some (.ref 998), some (.ref 1000), some (.ref 1079), some (.ref 1121), some (zi x4)] [] k j := by
  have hln : 0 ≤ zz_ln g ∧ zz_ln g ≤ 3584 := ⟨Int.natCast_nonneg _, Int.ofNat_le.mpr hlen⟩
  have hk : k ≤ 601024 := by omega
  have hj : j ≤ 7293034 := by omega
  refine zz_aload_n (x := 1000) rfl zd_L_law_1031 ?_
  refine zz_callVI [] zd_L_law_1032 zk_TFLaw_187 zT_1000 (zz_ltn hn rfl) rfl rfl ⟨Nat.le_of_ble_eq_true rfl, Nat.le_of_ble_eq_true rfl⟩ ⟨rfl, rfl⟩ hk hj (zc_network_1_25  S (n) hn G_S H_S) (fun v546 S545 hP => ?_)
  obtain ⟨G_S545, fS545, o547, o548⟩ := hP
  have H_S545 : zz_Hc S545 := o548
  have R_S545 : zz_Hr S545 := zz_Hr.fr fS545 rfl rfl (fun b q h => h.elim) R_S
  have O_S545 : 1 ≤ S545 1079 36 := by rw [show S545 1079 36 = S 1079 36 from zz_rc fS545 rfl rfl (fun h => h) rfl]; exact O_S
  refine zz_pop rfl zd_L_law_1035 ?_
  refine zz_aload_n (x := 1079) rfl zd_L_law_1036 ?_
  have g549 := zz_G.r G_S 1079 36 0 11 rfl rfl
  have e550 : S545 1079 36 = S 1079 36 := (zz_rc fS545 rfl rfl (fun h => h) rfl)
  refine zz_callVI [] zd_L_law_1037 zk_TFLaw_190 zT_1079 (zz_ltn hn rfl) rfl rfl ⟨Nat.le_of_ble_eq_true rfl, Nat.le_of_ble_eq_true rfl⟩ ⟨rfl, rfl⟩ hk hj (zc_network_14_105  S545 (n) hn G_S545 R_S545 (by omega) (fun u h1 h2 => ((zz_rc fS545 (zz_nc1 rfl) rfl (fun h => h) rfl) : S545 1100 u = S 1100 u).trans (N_S u h1 h2))) (fun v552 S551 hP => ?_)
  obtain ⟨G_S551, fS551, o553, o554, o555⟩ := hP
  have H_S551 : zz_Hc S551 := zz_Hc.fr (q := 0) fS551 rfl rfl G_S545 (by decide) rfl (fun b q h => h.elim) H_S545
  have R_S551 : zz_Hr S551 := o555
  have O_S551 : 1 ≤ S551 1079 36 := by omega
  refine zz_pop rfl zd_L_law_1040 ?_
  refine zz_goto zd_L_law_1041 ?_
  refine zz_iinc [some (.ref 998), some (.ref 1000), some (.ref 1079), some (.ref 1121), some (zi (x4 + 7))] zd_L_law_1180 rfl rfl ?_
  refine zz_goto zd_L_law_1183 ?_
  refine zz_less (ls1 := [some (.ref 998), some (.ref 1000), some (.ref 1079), some (.ref 1121), some (zi (x4 + 7))]) ⟨rfl, ⟨rfl, ⟨rfl, ⟨rfl, ⟨rfl, trivial⟩⟩⟩⟩⟩ ?_
  have g556 := zz_G.r G_S 1070 1 0 1500 rfl rfl
  have e557 : S551 1070 1 = S 1070 1 := (zz_rc fS551 rfl rfl (fun h => h) (zz_rc fS545 rfl rfl (fun h => h) rfl))
  have g558 := zz_G.r G_S 1079 28 0 1500 rfl rfl
  have e559 : S551 1079 28 = S 1079 28 := (zz_rc fS551 rfl rfl (fun h => h) (zz_rc fS545 rfl rfl (fun h => h) rfl))
  have g560 := zz_G.r G_S 1031 6 2 8 rfl rfl
  have e561 : S551 1031 6 = S 1031 6 := (zz_rc fS551 rfl rfl (fun h => h) (zz_rc fS545 rfl rfl (fun h => h) rfl))
  have g562 := zz_G.r G_S 1079 1 2 8 rfl rfl
  have e563 : S551 1079 1 = S 1079 1 := (zz_rc fS551 rfl rfl (fun h => h) (zz_rc fS545 rfl rfl (fun h => h) rfl))
  exact ih (x4 + 7) S551 (n) k j G_S551 H_S551 R_S551 O_S551 (by omega) (by omega) (fun u h1 h2 => ((zz_rc fS551 (zz_nc1 rfl) rfl (fun h => h) (zz_rc fS545 (zz_nc1 rfl) rfl (fun h => h) rfl)) : S551 1100 u = S 1100 u).trans (N_S u h1 h2)) (fun i h1 h2 => ((zz_rc fS551 (zz_nc1 rfl) rfl (fun h => h) (zz_rc fS545 (zz_nc1 rfl) rfl (fun h => h) rfl)) : S551 1071 i.toNat = S 1071 i.toNat).trans ((U_S i h1 (by omega)).trans ((zz_rc fS551 (zz_nc1 rfl) rfl (fun h => h) (zz_rc fS545 (zz_nc1 rfl) rfl (fun h => h) rfl)) : S551 1099 i.toNat = S 1099 i.toNat).symm)) hn (by omega) (by show ((k : Nat) : Int) ≤ 200 + (x4 + 7); omega) (by show ((j : Nat) : Int) ≤ 30000 + 6 * (x4 + 7); omega) (by omega)
theorem zl_24 {g : mm_G} {l : Launch} (hfl : l.flags = flags0) (hlen : g.2.2.2 997 ≤ 3584) (N : Nat) (ih : ∀ (x4 : Int) (S : zz_S) (n k j : Nat), zz_G S → zz_Hc S → zz_Hr S → 1 ≤ S 1079 36 → S 1070 1 = S 1079 28 → S 1031 6 = S 1079 1 → (∀ w : Nat, 1 ≤ w → w ≤ 20 → S 1100 w = zt_cd (zt_nw.getD w [])) → (∀ i : Int, 0 ≤ i → i < S 1070 1 → S 1071 i.toNat = S 1099 i.toNat) → zz_end ≤ n → (0 ≤ x4 ∧ x4 ≤ 3590) → (k : Int) ≤ 200 + x4 → (j : Int) ≤ 30000 + 6 * x4 → (3600 - x4).toNat < N → zz_E g l zy_law_L room_1 (fun u => ∃ M1 n1, u = (.inl (some (zi 1)), M1, n1)) S n 23 [some (.ref 998), some (.ref 1000), some (.ref 1079), some (.ref 1121), some (zi x4)] [] k j) (x4 : Int) (S : zz_S) (n k j : Nat) (G_S : zz_G S) (H_S : zz_Hc S) (R_S : zz_Hr S) (O_S : 1 ≤ S 1079 36) (T0_S : S 1070 1 = S 1079 28) (T1_S : S 1031 6 = S 1079 1) (N_S : ∀ w : Nat, 1 ≤ w → w ≤ 20 → S 1100 w = zt_cd (zt_nw.getD w [])) (U_S : ∀ i : Int, 0 ≤ i → i < S 1070 1 → S 1071 i.toNat = S 1099 i.toNat) (hn : zz_end ≤ n) (hx : 0 ≤ x4 ∧ x4 ≤ 3590) (hkk : (k : Int) ≤ 200 + x4) (hjj : (j : Int) ≤ 30000 + 6 * x4) (hR : (3600 - x4).toNat < N + 1) (hc1 : x4 ≤ zz_ln g - 7) : zz_E g l zy_law_L room_1 (fun u => ∃ M1 n1, u = (.inl (some (zi 1)), M1, n1)) S n 1044 [some (.ref 998), some (.ref 1000), some (.ref 1079), some (.ref 1121), some (zi x4)] [] k j := by
  have hln : 0 ≤ zz_ln g ∧ zz_ln g ≤ 3584 := ⟨Int.natCast_nonneg _, Int.ofNat_le.mpr hlen⟩
  have hk : k ≤ 601024 := by omega
  have hj : j ≤ 7293034 := by omega
  refine zz_aload_n (x := 1000) rfl zd_L_law_1044 ?_
  refine zz_aload_n (x := 998) rfl zd_L_law_1045 ?_
  refine zz_iload (x := x4) rfl zd_L_law_1046 ?_
  refine zz_iconst zd_L_law_1048 ?_
  refine zz_iadd zd_L_law_1049 ?_
  refine zz_sld (by omega) zd_L_law_1050 (by omega) ?_
  have g565 := zz_sc_r g (x4 + 1).toNat
  refine zz_aload_n (x := 998) rfl zd_L_law_1051 ?_
  refine zz_iload (x := x4) rfl zd_L_law_1052 ?_
  refine zz_iconst zd_L_law_1054 ?_
  refine zz_iadd zd_L_law_1055 ?_
  refine zz_sld (by omega) zd_L_law_1056 (by omega) ?_
  have g566 := zz_sc_r g (x4 + 2).toNat
  refine zz_aload_n (x := 1121) rfl zd_L_law_1057 ?_
  refine zz_callHW (rz := zr_networkSign_L) [.ref 1000, zi (zz_sc g (x4 + 1).toNat), zi (zz_sc g (x4 + 2).toNat), .ref 1121] zd_L_law_1058 zhl_networkSign_L rfl rfl ⟨Nat.le_of_ble_eq_true rfl, Nat.le_of_ble_eq_true rfl⟩ (by show k + 1 ≤ 601024; omega) (by show j + 6 ≤ 7293034; omega) (zc_networkSign_L (zz_sc g (x4 + 1).toNat) (zz_sc g (x4 + 2).toNat) S (n) hn hfl G_S (by omega) (by omega)) (fun v568 S567 d569 hd569 hP => ?_)
  obtain ⟨G_S567, fS567, rv568⟩ := hP
  have hn570 : zz_end ≤ n + d569 := by omega
  have hk571 : (k + zr_networkSign_L.cells) ≤ 601024 := by show k + 1 ≤ 601024; omega
  have hj572 : (j + zr_networkSign_L.slots) ≤ 7293034 := by show j + 6 ≤ 7293034; omega
  have H_S567 : zz_Hc S567 := zz_Hc.fr (q := 0) fS567 rfl rfl G_S (by decide) rfl (fun b q h => h.elim) H_S
  have R_S567 : zz_Hr S567 := zz_Hr.fr fS567 rfl rfl (fun b q h => h.elim) R_S
  have O_S567 : 1 ≤ S567 1079 36 := by rw [show S567 1079 36 = S 1079 36 from zz_rc fS567 rfl rfl (fun h => h) rfl]; exact O_S
  refine zz_istore [some (.ref 998), some (.ref 1000), some (.ref 1079), some (.ref 1121), some (zi x4), some (zi v568)] zd_L_law_1061 (by decide) rfl ?_
  refine zz_aload_n (x := 1079) rfl zd_L_law_1063 ?_
  refine zz_aload_n (x := 998) rfl zd_L_law_1064 ?_
  refine zz_iload (x := x4) rfl zd_L_law_1065 ?_
  refine zz_iconst zd_L_law_1067 ?_
  refine zz_iadd zd_L_law_1068 ?_
  refine zz_sld (by omega) zd_L_law_1069 (by omega) ?_
  refine zz_aload_n (x := 998) rfl zd_L_law_1070 ?_
  refine zz_iload (x := x4) rfl zd_L_law_1071 ?_
  refine zz_iconst zd_L_law_1073 ?_
  refine zz_iadd zd_L_law_1074 ?_
  refine zz_sld (by omega) zd_L_law_1075 (by omega) ?_
  refine zz_callVI [zi (zz_sc g (x4 + 1).toNat), zi (zz_sc g (x4 + 2).toNat)] zd_L_law_1076 zk_TFLaw_193 zT_1079 (zz_ltn hn570 rfl) rfl rfl ⟨Nat.le_of_ble_eq_true rfl, Nat.le_of_ble_eq_true rfl⟩ ⟨rfl, rfl⟩ hk571 hj572 (zc_networkSign_14_109 (zz_sc g (x4 + 1).toNat) (zz_sc g (x4 + 2).toNat) S567 (n + d569) hn570 G_S567 (by omega) (by omega)) (fun v574 S573 hP => ?_)
  obtain ⟨G_S573, fS573, o575⟩ := hP
  have H_S573 : zz_Hc S573 := zz_Hc.fr (q := 0) fS573 rfl rfl G_S567 (by decide) rfl (fun b q h => h.elim) H_S567
  have R_S573 : zz_Hr S573 := zz_Hr.fr fS573 rfl rfl (fun b q h => h.elim) R_S567
  have O_S573 : 1 ≤ S573 1079 36 := by rw [show S573 1079 36 = S567 1079 36 from zz_rc fS573 rfl rfl (fun h => h) rfl]; exact O_S567
  refine zz_istore [some (.ref 998), some (.ref 1000), some (.ref 1079), some (.ref 1121), some (zi x4), some (zi v568), some (zi v574)] zd_L_law_1079 (by decide) rfl ?_
  refine zz_goto zd_L_law_1081 ?_
  refine zz_iinc [some (.ref 998), some (.ref 1000), some (.ref 1079), some (.ref 1121), some (zi (x4 + 7)), some (zi v568), some (zi v574)] zd_L_law_1180 rfl rfl ?_
  refine zz_goto zd_L_law_1183 ?_
  refine zz_less (ls1 := [some (.ref 998), some (.ref 1000), some (.ref 1079), some (.ref 1121), some (zi (x4 + 7))]) ⟨rfl, ⟨rfl, ⟨rfl, ⟨rfl, ⟨rfl, trivial⟩⟩⟩⟩⟩ ?_
  have g576 := zz_G.r G_S 1070 1 0 1500 rfl rfl
  have e577 : S573 1070 1 = S 1070 1 := (zz_rc fS573 rfl rfl (fun h => h) (zz_rc fS567 rfl rfl (fun h => h) rfl))
  have g578 := zz_G.r G_S 1079 28 0 1500 rfl rfl
  have e579 : S573 1079 28 = S 1079 28 := (zz_rc fS573 rfl rfl (fun h => h) (zz_rc fS567 rfl rfl (fun h => h) rfl))
  have g580 := zz_G.r G_S 1031 6 2 8 rfl rfl
  have e581 : S573 1031 6 = S 1031 6 := (zz_rc fS573 rfl rfl (fun h => h) (zz_rc fS567 rfl rfl (fun h => h) rfl))
  have g582 := zz_G.r G_S 1079 1 2 8 rfl rfl
  have e583 : S573 1079 1 = S 1079 1 := (zz_rc fS573 rfl rfl (fun h => h) (zz_rc fS567 rfl rfl (fun h => h) rfl))
  exact ih (x4 + 7) S573 (n + d569) (k + zr_networkSign_L.cells) (j + zr_networkSign_L.slots) G_S573 H_S573 R_S573 O_S573 (by omega) (by omega) (fun u h1 h2 => ((zz_rc fS573 (zz_nc1 rfl) rfl (fun h => h) (zz_rc fS567 (zz_nc1 rfl) rfl (fun h => h) rfl)) : S573 1100 u = S 1100 u).trans (N_S u h1 h2)) (fun i h1 h2 => ((zz_rc fS573 (zz_nc1 rfl) rfl (fun h => h) (zz_rc fS567 (zz_nc1 rfl) rfl (fun h => h) rfl)) : S573 1071 i.toNat = S 1071 i.toNat).trans ((U_S i h1 (by omega)).trans ((zz_rc fS573 (zz_nc1 rfl) rfl (fun h => h) (zz_rc fS567 (zz_nc1 rfl) rfl (fun h => h) rfl)) : S573 1099 i.toNat = S 1099 i.toNat).symm)) hn570 (by omega) (by show ((k + 1 : Nat) : Int) ≤ 200 + (x4 + 7); omega) (by show ((j + 6 : Nat) : Int) ≤ 30000 + 6 * (x4 + 7); omega) (by omega)
theorem zl_25 {g : mm_G} {l : Launch} (hfl : l.flags = flags0) (hlen : g.2.2.2 997 ≤ 3584) (N : Nat) (ih : ∀ (x4 : Int) (S : zz_S) (n k j : Nat), zz_G S → zz_Hc S → zz_Hr S → 1 ≤ S 1079 36 → S 1070 1 = S 1079 28 → S 1031 6 = S 1079 1 → (∀ w : Nat, 1 ≤ w → w ≤ 20 → S 1100 w = zt_cd (zt_nw.getD w [])) → (∀ i : Int, 0 ≤ i → i < S 1070 1 → S 1071 i.toNat = S 1099 i.toNat) → zz_end ≤ n → (0 ≤ x4 ∧ x4 ≤ 3590) → (k : Int) ≤ 200 + x4 → (j : Int) ≤ 30000 + 6 * x4 → (3600 - x4).toNat < N → zz_E g l zy_law_L room_1 (fun u => ∃ M1 n1, u = (.inl (some (zi 1)), M1, n1)) S n 23 [some (.ref 998), some (.ref 1000), some (.ref 1079), some (.ref 1121), some (zi x4)] [] k j) (x4 : Int) (S : zz_S) (n k j : Nat) (G_S : zz_G S) (H_S : zz_Hc S) (R_S : zz_Hr S) (O_S : 1 ≤ S 1079 36) (T0_S : S 1070 1 = S 1079 28) (T1_S : S 1031 6 = S 1079 1) (N_S : ∀ w : Nat, 1 ≤ w → w ≤ 20 → S 1100 w = zt_cd (zt_nw.getD w [])) (U_S : ∀ i : Int, 0 ≤ i → i < S 1070 1 → S 1071 i.toNat = S 1099 i.toNat) (hn : zz_end ≤ n) (hx : 0 ≤ x4 ∧ x4 ≤ 3590) (hkk : (k : Int) ≤ 200 + x4) (hjj : (j : Int) ≤ 30000 + 6 * x4) (hR : (3600 - x4).toNat < N + 1) (hc1 : x4 ≤ zz_ln g - 7) : zz_E g l zy_law_L room_1 (fun u => ∃ M1 n1, u = (.inl (some (zi 1)), M1, n1)) S n 1084 [some (.ref 998), some (.ref 1000), some (.ref 1079), some (.ref 1121), some (zi x4)] [] k j := by
  have hln : 0 ≤ zz_ln g ∧ zz_ln g ≤ 3584 := ⟨Int.natCast_nonneg _, Int.ofNat_le.mpr hlen⟩
  have hk : k ≤ 601024 := by omega
  have hj : j ≤ 7293034 := by omega
  refine zz_aload_n (x := 1000) rfl zd_L_law_1084 ?_
  refine zz_aload_n (x := 1121) rfl zd_L_law_1085 ?_
  refine zz_callHW (rz := zr_place_L) [.ref 1000, .ref 1121] zd_L_law_1086 zhl_place_L rfl rfl ⟨Nat.le_of_ble_eq_true rfl, Nat.le_of_ble_eq_true rfl⟩ (by show k + 1 ≤ 601024; omega) (by show j + 6 ≤ 7293034; omega) (zc_place_L  S (n) hn hfl G_S ) (fun v586 S585 d587 hd587 hP => ?_)
  obtain ⟨G_S585, fS585, rv586⟩ := hP
  have g588 := zz_G.r G_S 1000 7 0 1 rfl rfl
  have hn589 : zz_end ≤ n + d587 := by omega
  have hk590 : (k + zr_place_L.cells) ≤ 601024 := by show k + 1 ≤ 601024; omega
  have hj591 : (j + zr_place_L.slots) ≤ 7293034 := by show j + 6 ≤ 7293034; omega
  have b592 := zz_rf6 (z := (12 * (S 1000 7) + 0)) (by omega)
  have H_S585 : zz_Hc S585 := zz_Hc.sp fS585 rfl rfl G_S (fun b q h => by have h0_ := zz_rf6 (z := (12 * (S 1000 7) + 0)) (by omega); omega) H_S
  have R_S585 : zz_Hr S585 := zz_Hr.fr fS585 rfl rfl (fun b q h => by have h0_ := zz_rf6 (z := (12 * (S 1000 7) + 0)) (by omega); omega) R_S
  have O_S585 : 1 ≤ S585 1079 36 := by rw [show S585 1079 36 = S 1079 36 from zz_rc fS585 rfl rfl (by have h0_ := zz_rf6 (z := (12 * (S 1000 7) + 0)) (by omega); omega) rfl]; exact O_S
  refine zz_istore [some (.ref 998), some (.ref 1000), some (.ref 1079), some (.ref 1121), some (zi x4), some (zi v586)] zd_L_law_1089 (by decide) rfl ?_
  refine zz_aload_n (x := 1079) rfl zd_L_law_1091 ?_
  have g593 := zz_G.r G_S 1079 36 0 11 rfl rfl
  have e594 : S585 1079 36 = S 1079 36 := (zz_rc fS585 rfl rfl (by omega) rfl)
  refine zz_callVI [] zd_L_law_1092 zk_TFLaw_196 zT_1079 (zz_ltn hn589 rfl) rfl rfl ⟨Nat.le_of_ble_eq_true rfl, Nat.le_of_ble_eq_true rfl⟩ ⟨rfl, rfl⟩ hk590 hj591 (zc_place_14_113  S585 (n + d587) hn589 G_S585 R_S585 (by omega)) (fun v596 S595 hP => ?_)
  obtain ⟨G_S595, fS595, o597, o598⟩ := hP
  have H_S595 : zz_Hc S595 := zz_Hc.fr (q := 0) fS595 rfl rfl G_S585 (by decide) rfl (fun b q h => h.elim) H_S585
  have R_S595 : zz_Hr S595 := o598
  have O_S595 : 1 ≤ S595 1079 36 := by rw [show S595 1079 36 = S585 1079 36 from zz_rc fS595 rfl rfl (fun h => h) rfl]; exact O_S585
  refine zz_istore [some (.ref 998), some (.ref 1000), some (.ref 1079), some (.ref 1121), some (zi x4), some (zi v586), some (zi v596)] zd_L_law_1095 (by decide) rfl ?_
  refine zz_goto zd_L_law_1097 ?_
  refine zz_iinc [some (.ref 998), some (.ref 1000), some (.ref 1079), some (.ref 1121), some (zi (x4 + 7)), some (zi v586), some (zi v596)] zd_L_law_1180 rfl rfl ?_
  refine zz_goto zd_L_law_1183 ?_
  refine zz_less (ls1 := [some (.ref 998), some (.ref 1000), some (.ref 1079), some (.ref 1121), some (zi (x4 + 7))]) ⟨rfl, ⟨rfl, ⟨rfl, ⟨rfl, ⟨rfl, trivial⟩⟩⟩⟩⟩ ?_
  have g599 := zz_G.r G_S 1070 1 0 1500 rfl rfl
  have e600 : S595 1070 1 = S 1070 1 := (zz_rc fS595 rfl rfl (fun h => h) (zz_rc fS585 rfl rfl (by omega) rfl))
  have g601 := zz_G.r G_S 1079 28 0 1500 rfl rfl
  have e602 : S595 1079 28 = S 1079 28 := (zz_rc fS595 rfl rfl (fun h => h) (zz_rc fS585 rfl rfl (by omega) rfl))
  have g603 := zz_G.r G_S 1031 6 2 8 rfl rfl
  have e604 : S595 1031 6 = S 1031 6 := (zz_rc fS595 rfl rfl (fun h => h) (zz_rc fS585 rfl rfl (by omega) rfl))
  have g605 := zz_G.r G_S 1079 1 2 8 rfl rfl
  have e606 : S595 1079 1 = S 1079 1 := (zz_rc fS595 rfl rfl (fun h => h) (zz_rc fS585 rfl rfl (by omega) rfl))
  exact ih (x4 + 7) S595 (n + d587) (k + zr_place_L.cells) (j + zr_place_L.slots) G_S595 H_S595 R_S595 O_S595 (by omega) (by omega) (fun u h1 h2 => ((zz_rc fS595 (zz_nc1 rfl) rfl (fun h => h) (zz_rc fS585 (zz_nc1 rfl) rfl (by have h0_ := zz_rf6 (z := (12 * (S 1000 7) + 0)) (by omega); omega) rfl)) : S595 1100 u = S 1100 u).trans (N_S u h1 h2)) (fun i h1 h2 => ((zz_rc fS595 (zz_nc1 rfl) rfl (fun h => h) (zz_rc fS585 (zz_nc1 rfl) rfl (by have h0_ := zz_rf6 (z := (12 * (S 1000 7) + 0)) (by omega); omega) rfl)) : S595 1071 i.toNat = S 1071 i.toNat).trans ((U_S i h1 (by omega)).trans ((zz_rc fS595 (zz_nc1 rfl) rfl (fun h => h) (zz_rc fS585 (zz_nc1 rfl) rfl (by have h0_ := zz_rf6 (z := (12 * (S 1000 7) + 0)) (by omega); omega) rfl)) : S595 1099 i.toNat = S 1099 i.toNat).symm)) hn589 (by omega) (by show ((k + 1 : Nat) : Int) ≤ 200 + (x4 + 7); omega) (by show ((j + 6 : Nat) : Int) ≤ 30000 + 6 * (x4 + 7); omega) (by omega)
theorem zl_26 {g : mm_G} {l : Launch} (hfl : l.flags = flags0) (hlen : g.2.2.2 997 ≤ 3584) (N : Nat) (ih : ∀ (x4 : Int) (S : zz_S) (n k j : Nat), zz_G S → zz_Hc S → zz_Hr S → 1 ≤ S 1079 36 → S 1070 1 = S 1079 28 → S 1031 6 = S 1079 1 → (∀ w : Nat, 1 ≤ w → w ≤ 20 → S 1100 w = zt_cd (zt_nw.getD w [])) → (∀ i : Int, 0 ≤ i → i < S 1070 1 → S 1071 i.toNat = S 1099 i.toNat) → zz_end ≤ n → (0 ≤ x4 ∧ x4 ≤ 3590) → (k : Int) ≤ 200 + x4 → (j : Int) ≤ 30000 + 6 * x4 → (3600 - x4).toNat < N → zz_E g l zy_law_L room_1 (fun u => ∃ M1 n1, u = (.inl (some (zi 1)), M1, n1)) S n 23 [some (.ref 998), some (.ref 1000), some (.ref 1079), some (.ref 1121), some (zi x4)] [] k j) (x4 : Int) (S : zz_S) (n k j : Nat) (G_S : zz_G S) (H_S : zz_Hc S) (R_S : zz_Hr S) (O_S : 1 ≤ S 1079 36) (T0_S : S 1070 1 = S 1079 28) (T1_S : S 1031 6 = S 1079 1) (N_S : ∀ w : Nat, 1 ≤ w → w ≤ 20 → S 1100 w = zt_cd (zt_nw.getD w [])) (U_S : ∀ i : Int, 0 ≤ i → i < S 1070 1 → S 1071 i.toNat = S 1099 i.toNat) (hn : zz_end ≤ n) (hx : 0 ≤ x4 ∧ x4 ≤ 3590) (hkk : (k : Int) ≤ 200 + x4) (hjj : (j : Int) ≤ 30000 + 6 * x4) (hR : (3600 - x4).toNat < N + 1) (hc1 : x4 ≤ zz_ln g - 7) : zz_E g l zy_law_L room_1 (fun u => ∃ M1 n1, u = (.inl (some (zi 1)), M1, n1)) S n 1100 [some (.ref 998), some (.ref 1000), some (.ref 1079), some (.ref 1121), some (zi x4)] [] k j := by
  have hln : 0 ≤ zz_ln g ∧ zz_ln g ≤ 3584 := ⟨Int.natCast_nonneg _, Int.ofNat_le.mpr hlen⟩
  have hk : k ≤ 601024 := by omega
  have hj : j ≤ 7293034 := by omega
  refine zz_aload_n (x := 1000) rfl zd_L_law_1100 ?_
  refine zz_aload_n (x := 998) rfl zd_L_law_1101 ?_
  refine zz_iload (x := x4) rfl zd_L_law_1102 ?_
  refine zz_iconst zd_L_law_1104 ?_
  refine zz_iadd zd_L_law_1105 ?_
  refine zz_sld (by omega) zd_L_law_1106 (by omega) ?_
  have g608 := zz_sc_r g (x4 + 1).toNat
  refine zz_aload_n (x := 998) rfl zd_L_law_1107 ?_
  refine zz_iload (x := x4) rfl zd_L_law_1108 ?_
  refine zz_iconst zd_L_law_1110 ?_
  refine zz_iadd zd_L_law_1111 ?_
  refine zz_sld (by omega) zd_L_law_1112 (by omega) ?_
  have g609 := zz_sc_r g (x4 + 2).toNat
  refine zz_aload_n (x := 1121) rfl zd_L_law_1113 ?_
  refine zz_callHW (rz := zr_under_L) [.ref 1000, zi (zz_sc g (x4 + 1).toNat), zi (zz_sc g (x4 + 2).toNat), .ref 1121] zd_L_law_1114 zhl_under_L rfl rfl ⟨Nat.le_of_ble_eq_true rfl, Nat.le_of_ble_eq_true rfl⟩ (by show k + 2 ≤ 601024; omega) (by show j + 12 ≤ 7293034; omega) (zc_under_L (zz_sc g (x4 + 1).toNat) (zz_sc g (x4 + 2).toNat) S (n) hn hfl G_S (by omega) (by omega)) (fun v611 S610 d612 hd612 hP => ?_)
  obtain ⟨G_S610, fS610, rv611⟩ := hP
  have hn613 : zz_end ≤ n + d612 := by omega
  have hk614 : (k + zr_under_L.cells) ≤ 601024 := by show k + 2 ≤ 601024; omega
  have hj615 : (j + zr_under_L.slots) ≤ 7293034 := by show j + 12 ≤ 7293034; omega
  have H_S610 : zz_Hc S610 := zz_Hc.fr (q := 0) fS610 rfl rfl G_S (by decide) rfl (fun b q h => h.elim) H_S
  have R_S610 : zz_Hr S610 := zz_Hr.fr fS610 rfl rfl (fun b q h => h.elim) R_S
  have O_S610 : 1 ≤ S610 1079 36 := by rw [show S610 1079 36 = S 1079 36 from zz_rc fS610 rfl rfl (fun h => h) rfl]; exact O_S
  refine zz_istore [some (.ref 998), some (.ref 1000), some (.ref 1079), some (.ref 1121), some (zi x4), some (zi v611)] zd_L_law_1117 (by decide) rfl ?_
  refine zz_aload_n (x := 1079) rfl zd_L_law_1119 ?_
  refine zz_aload_n (x := 998) rfl zd_L_law_1120 ?_
  refine zz_iload (x := x4) rfl zd_L_law_1121 ?_
  refine zz_iconst zd_L_law_1123 ?_
  refine zz_iadd zd_L_law_1124 ?_
  refine zz_sld (by omega) zd_L_law_1125 (by omega) ?_
  refine zz_aload_n (x := 998) rfl zd_L_law_1126 ?_
  refine zz_iload (x := x4) rfl zd_L_law_1127 ?_
  refine zz_iconst zd_L_law_1129 ?_
  refine zz_iadd zd_L_law_1130 ?_
  refine zz_sld (by omega) zd_L_law_1131 (by omega) ?_
  refine zz_callVI [zi (zz_sc g (x4 + 1).toNat), zi (zz_sc g (x4 + 2).toNat)] zd_L_law_1132 zk_TFLaw_199 zT_1079 (zz_ltn hn613 rfl) rfl rfl ⟨Nat.le_of_ble_eq_true rfl, Nat.le_of_ble_eq_true rfl⟩ ⟨rfl, rfl⟩ hk614 hj615 (zc_under_14_117 (zz_sc g (x4 + 1).toNat) (zz_sc g (x4 + 2).toNat) S610 (n + d612) hn613 G_S610 (by omega) (by omega)) (fun v617 S616 hP => ?_)
  obtain ⟨G_S616, fS616, o618⟩ := hP
  have H_S616 : zz_Hc S616 := zz_Hc.fr (q := 0) fS616 rfl rfl G_S610 (by decide) rfl (fun b q h => h.elim) H_S610
  have R_S616 : zz_Hr S616 := zz_Hr.fr fS616 rfl rfl (fun b q h => h.elim) R_S610
  have O_S616 : 1 ≤ S616 1079 36 := by rw [show S616 1079 36 = S610 1079 36 from zz_rc fS616 rfl rfl (fun h => h) rfl]; exact O_S610
  refine zz_istore [some (.ref 998), some (.ref 1000), some (.ref 1079), some (.ref 1121), some (zi x4), some (zi v611), some (zi v617)] zd_L_law_1135 (by decide) rfl ?_
  refine zz_goto zd_L_law_1137 ?_
  refine zz_iinc [some (.ref 998), some (.ref 1000), some (.ref 1079), some (.ref 1121), some (zi (x4 + 7)), some (zi v611), some (zi v617)] zd_L_law_1180 rfl rfl ?_
  refine zz_goto zd_L_law_1183 ?_
  refine zz_less (ls1 := [some (.ref 998), some (.ref 1000), some (.ref 1079), some (.ref 1121), some (zi (x4 + 7))]) ⟨rfl, ⟨rfl, ⟨rfl, ⟨rfl, ⟨rfl, trivial⟩⟩⟩⟩⟩ ?_
  have g619 := zz_G.r G_S 1070 1 0 1500 rfl rfl
  have e620 : S616 1070 1 = S 1070 1 := (zz_rc fS616 rfl rfl (fun h => h) (zz_rc fS610 rfl rfl (fun h => h) rfl))
  have g621 := zz_G.r G_S 1079 28 0 1500 rfl rfl
  have e622 : S616 1079 28 = S 1079 28 := (zz_rc fS616 rfl rfl (fun h => h) (zz_rc fS610 rfl rfl (fun h => h) rfl))
  have g623 := zz_G.r G_S 1031 6 2 8 rfl rfl
  have e624 : S616 1031 6 = S 1031 6 := (zz_rc fS616 rfl rfl (fun h => h) (zz_rc fS610 rfl rfl (fun h => h) rfl))
  have g625 := zz_G.r G_S 1079 1 2 8 rfl rfl
  have e626 : S616 1079 1 = S 1079 1 := (zz_rc fS616 rfl rfl (fun h => h) (zz_rc fS610 rfl rfl (fun h => h) rfl))
  exact ih (x4 + 7) S616 (n + d612) (k + zr_under_L.cells) (j + zr_under_L.slots) G_S616 H_S616 R_S616 O_S616 (by omega) (by omega) (fun u h1 h2 => ((zz_rc fS616 (zz_nc1 rfl) rfl (fun h => h) (zz_rc fS610 (zz_nc1 rfl) rfl (fun h => h) rfl)) : S616 1100 u = S 1100 u).trans (N_S u h1 h2)) (fun i h1 h2 => ((zz_rc fS616 (zz_nc1 rfl) rfl (fun h => h) (zz_rc fS610 (zz_nc1 rfl) rfl (fun h => h) rfl)) : S616 1071 i.toNat = S 1071 i.toNat).trans ((U_S i h1 (by omega)).trans ((zz_rc fS616 (zz_nc1 rfl) rfl (fun h => h) (zz_rc fS610 (zz_nc1 rfl) rfl (fun h => h) rfl)) : S616 1099 i.toNat = S 1099 i.toNat).symm)) hn613 (by omega) (by show ((k + 2 : Nat) : Int) ≤ 200 + (x4 + 7); omega) (by show ((j + 12 : Nat) : Int) ≤ 30000 + 6 * (x4 + 7); omega) (by omega)
theorem zl_27 {g : mm_G} {l : Launch} (hfl : l.flags = flags0) (hlen : g.2.2.2 997 ≤ 3584) (N : Nat) (ih : ∀ (x4 : Int) (S : zz_S) (n k j : Nat), zz_G S → zz_Hc S → zz_Hr S → 1 ≤ S 1079 36 → S 1070 1 = S 1079 28 → S 1031 6 = S 1079 1 → (∀ w : Nat, 1 ≤ w → w ≤ 20 → S 1100 w = zt_cd (zt_nw.getD w [])) → (∀ i : Int, 0 ≤ i → i < S 1070 1 → S 1071 i.toNat = S 1099 i.toNat) → zz_end ≤ n → (0 ≤ x4 ∧ x4 ≤ 3590) → (k : Int) ≤ 200 + x4 → (j : Int) ≤ 30000 + 6 * x4 → (3600 - x4).toNat < N → zz_E g l zy_law_L room_1 (fun u => ∃ M1 n1, u = (.inl (some (zi 1)), M1, n1)) S n 23 [some (.ref 998), some (.ref 1000), some (.ref 1079), some (.ref 1121), some (zi x4)] [] k j) (x4 : Int) (S : zz_S) (n k j : Nat) (G_S : zz_G S) (H_S : zz_Hc S) (R_S : zz_Hr S) (O_S : 1 ≤ S 1079 36) (T0_S : S 1070 1 = S 1079 28) (T1_S : S 1031 6 = S 1079 1) (N_S : ∀ w : Nat, 1 ≤ w → w ≤ 20 → S 1100 w = zt_cd (zt_nw.getD w [])) (U_S : ∀ i : Int, 0 ≤ i → i < S 1070 1 → S 1071 i.toNat = S 1099 i.toNat) (hn : zz_end ≤ n) (hx : 0 ≤ x4 ∧ x4 ≤ 3590) (hkk : (k : Int) ≤ 200 + x4) (hjj : (j : Int) ≤ 30000 + 6 * x4) (hR : (3600 - x4).toNat < N + 1) (hc1 : x4 ≤ zz_ln g - 7) : zz_E g l zy_law_L room_1 (fun u => ∃ M1 n1, u = (.inl (some (zi 1)), M1, n1)) S n 1140 [some (.ref 998), some (.ref 1000), some (.ref 1079), some (.ref 1121), some (zi x4)] [] k j := by
  have hln : 0 ≤ zz_ln g ∧ zz_ln g ≤ 3584 := ⟨Int.natCast_nonneg _, Int.ofNat_le.mpr hlen⟩
  have hk : k ≤ 601024 := by omega
  have hj : j ≤ 7293034 := by omega
  refine zz_aload_n (x := 1000) rfl zd_L_law_1140 ?_
  refine zz_aload_n (x := 998) rfl zd_L_law_1141 ?_
  refine zz_iload (x := x4) rfl zd_L_law_1142 ?_
  refine zz_iconst zd_L_law_1144 ?_
  refine zz_iadd zd_L_law_1145 ?_
  refine zz_sld (by omega) zd_L_law_1146 (by omega) ?_
  have g628 := zz_sc_r g (x4 + 1).toNat
  refine zz_aload_n (x := 998) rfl zd_L_law_1147 ?_
  refine zz_iload (x := x4) rfl zd_L_law_1148 ?_
  refine zz_iconst zd_L_law_1150 ?_
  refine zz_iadd zd_L_law_1151 ?_
  refine zz_sld (by omega) zd_L_law_1152 (by omega) ?_
  have g629 := zz_sc_r g (x4 + 2).toNat
  refine zz_aload_n (x := 1121) rfl zd_L_law_1153 ?_
  refine zz_callHW (rz := zr_waits_L) [.ref 1000, zi (zz_sc g (x4 + 1).toNat), zi (zz_sc g (x4 + 2).toNat), .ref 1121] zd_L_law_1154 zhl_waits_L rfl rfl ⟨Nat.le_of_ble_eq_true rfl, Nat.le_of_ble_eq_true rfl⟩ (by show k + 2 ≤ 601024; omega) (by show j + 12 ≤ 7293034; omega) (zc_waits_L (zz_sc g (x4 + 1).toNat) (zz_sc g (x4 + 2).toNat) S (n) hn hfl G_S (by omega) (by omega)) (fun v631 S630 d632 hd632 hP => ?_)
  obtain ⟨G_S630, fS630, rv631⟩ := hP
  have hn633 : zz_end ≤ n + d632 := by omega
  have hk634 : (k + zr_waits_L.cells) ≤ 601024 := by show k + 2 ≤ 601024; omega
  have hj635 : (j + zr_waits_L.slots) ≤ 7293034 := by show j + 12 ≤ 7293034; omega
  have H_S630 : zz_Hc S630 := zz_Hc.fr (q := 0) fS630 rfl rfl G_S (by decide) rfl (fun b q h => h.elim) H_S
  have R_S630 : zz_Hr S630 := zz_Hr.fr fS630 rfl rfl (fun b q h => h.elim) R_S
  have O_S630 : 1 ≤ S630 1079 36 := by rw [show S630 1079 36 = S 1079 36 from zz_rc fS630 rfl rfl (fun h => h) rfl]; exact O_S
  refine zz_istore [some (.ref 998), some (.ref 1000), some (.ref 1079), some (.ref 1121), some (zi x4), some (zi v631)] zd_L_law_1157 (by decide) rfl ?_
  refine zz_aload_n (x := 1079) rfl zd_L_law_1159 ?_
  refine zz_aload_n (x := 998) rfl zd_L_law_1160 ?_
  refine zz_iload (x := x4) rfl zd_L_law_1161 ?_
  refine zz_iconst zd_L_law_1163 ?_
  refine zz_iadd zd_L_law_1164 ?_
  refine zz_sld (by omega) zd_L_law_1165 (by omega) ?_
  refine zz_aload_n (x := 998) rfl zd_L_law_1166 ?_
  refine zz_iload (x := x4) rfl zd_L_law_1167 ?_
  refine zz_iconst zd_L_law_1169 ?_
  refine zz_iadd zd_L_law_1170 ?_
  refine zz_sld (by omega) zd_L_law_1171 (by omega) ?_
  refine zz_callVI [zi (zz_sc g (x4 + 1).toNat), zi (zz_sc g (x4 + 2).toNat)] zd_L_law_1172 zk_TFLaw_202 zT_1079 (zz_ltn hn633 rfl) rfl rfl ⟨Nat.le_of_ble_eq_true rfl, Nat.le_of_ble_eq_true rfl⟩ ⟨rfl, rfl⟩ hk634 hj635 (zc_waits_14_119 (zz_sc g (x4 + 1).toNat) (zz_sc g (x4 + 2).toNat) S630 (n + d632) hn633 G_S630 (by omega) (by omega)) (fun v637 S636 hP => ?_)
  obtain ⟨G_S636, fS636, o638⟩ := hP
  have H_S636 : zz_Hc S636 := zz_Hc.fr (q := 0) fS636 rfl rfl G_S630 (by decide) rfl (fun b q h => h.elim) H_S630
  have R_S636 : zz_Hr S636 := zz_Hr.fr fS636 rfl rfl (fun b q h => h.elim) R_S630
  have O_S636 : 1 ≤ S636 1079 36 := by rw [show S636 1079 36 = S630 1079 36 from zz_rc fS636 rfl rfl (fun h => h) rfl]; exact O_S630
  refine zz_istore [some (.ref 998), some (.ref 1000), some (.ref 1079), some (.ref 1121), some (zi x4), some (zi v631), some (zi v637)] zd_L_law_1175 (by decide) rfl ?_
  refine zz_goto zd_L_law_1177 ?_
  refine zz_iinc [some (.ref 998), some (.ref 1000), some (.ref 1079), some (.ref 1121), some (zi (x4 + 7)), some (zi v631), some (zi v637)] zd_L_law_1180 rfl rfl ?_
  refine zz_goto zd_L_law_1183 ?_
  refine zz_less (ls1 := [some (.ref 998), some (.ref 1000), some (.ref 1079), some (.ref 1121), some (zi (x4 + 7))]) ⟨rfl, ⟨rfl, ⟨rfl, ⟨rfl, ⟨rfl, trivial⟩⟩⟩⟩⟩ ?_
  have g639 := zz_G.r G_S 1070 1 0 1500 rfl rfl
  have e640 : S636 1070 1 = S 1070 1 := (zz_rc fS636 rfl rfl (fun h => h) (zz_rc fS630 rfl rfl (fun h => h) rfl))
  have g641 := zz_G.r G_S 1079 28 0 1500 rfl rfl
  have e642 : S636 1079 28 = S 1079 28 := (zz_rc fS636 rfl rfl (fun h => h) (zz_rc fS630 rfl rfl (fun h => h) rfl))
  have g643 := zz_G.r G_S 1031 6 2 8 rfl rfl
  have e644 : S636 1031 6 = S 1031 6 := (zz_rc fS636 rfl rfl (fun h => h) (zz_rc fS630 rfl rfl (fun h => h) rfl))
  have g645 := zz_G.r G_S 1079 1 2 8 rfl rfl
  have e646 : S636 1079 1 = S 1079 1 := (zz_rc fS636 rfl rfl (fun h => h) (zz_rc fS630 rfl rfl (fun h => h) rfl))
  exact ih (x4 + 7) S636 (n + d632) (k + zr_waits_L.cells) (j + zr_waits_L.slots) G_S636 H_S636 R_S636 O_S636 (by omega) (by omega) (fun u h1 h2 => ((zz_rc fS636 (zz_nc1 rfl) rfl (fun h => h) (zz_rc fS630 (zz_nc1 rfl) rfl (fun h => h) rfl)) : S636 1100 u = S 1100 u).trans (N_S u h1 h2)) (fun i h1 h2 => ((zz_rc fS636 (zz_nc1 rfl) rfl (fun h => h) (zz_rc fS630 (zz_nc1 rfl) rfl (fun h => h) rfl)) : S636 1071 i.toNat = S 1071 i.toNat).trans ((U_S i h1 (by omega)).trans ((zz_rc fS636 (zz_nc1 rfl) rfl (fun h => h) (zz_rc fS630 (zz_nc1 rfl) rfl (fun h => h) rfl)) : S636 1099 i.toNat = S 1099 i.toNat).symm)) hn633 (by omega) (by show ((k + 2 : Nat) : Int) ≤ 200 + (x4 + 7); omega) (by show ((j + 12 : Nat) : Int) ≤ 30000 + 6 * (x4 + 7); omega) (by omega)
theorem zi_law_L {g : mm_G} {l : Launch} (hfl : l.flags = flags0) (hlen : g.2.2.2 997 ≤ 3584) : ∀ N : Nat, ∀ (x4 : Int) (S : zz_S) (n k j : Nat), zz_G S → zz_Hc S → zz_Hr S → 1 ≤ S 1079 36 → S 1070 1 = S 1079 28 → S 1031 6 = S 1079 1 → (∀ w : Nat, 1 ≤ w → w ≤ 20 → S 1100 w = zt_cd (zt_nw.getD w [])) → (∀ i : Int, 0 ≤ i → i < S 1070 1 → S 1071 i.toNat = S 1099 i.toNat) → zz_end ≤ n → (0 ≤ x4 ∧ x4 ≤ 3590) → (k : Int) ≤ 200 + x4 → (j : Int) ≤ 30000 + 6 * x4 → (3600 - x4).toNat < N → zz_E g l zy_law_L room_1 (fun u => ∃ M1 n1, u = (.inl (some (zi 1)), M1, n1)) S n 23 [some (.ref 998), some (.ref 1000), some (.ref 1079), some (.ref 1121), some (zi x4)] [] k j := by
  intro N
  induction N with
  | zero => exact fun x4 S n k j _ _ _ _ _ _ _ _ _ _ _ _ h => absurd h (Nat.not_lt_zero _)
  | succ N ih =>
    intro x4 S n k j G_S H_S R_S O_S T0_S T1_S N_S U_S hn hx hkk hjj hR
    have hln : 0 ≤ zz_ln g ∧ zz_ln g ≤ 3584 := ⟨Int.natCast_nonneg _, Int.ofNat_le.mpr hlen⟩
    have hk : k ≤ 601024 := by omega
    have hj : j ≤ 7293034 := by omega
    refine zz_iload (x := x4) rfl zd_L_law_23 ?_
    refine zz_aload_n (x := 998) rfl zd_L_law_25 ?_
    refine zz_sln zd_L_law_26 ?_
    refine zz_bipush (by decide) zd_L_law_27 ?_
    refine zz_isub zd_L_law_29 ?_
    refine zz_icmp_gt (by omega) (by omega) zd_L_law_30 (fun c1 => ?_) (fun hc1 => ?_)
    · refine zz_iconst zd_L_law_1186 ?_
      exact zz_zret zd_L_law_1187 rfl (by decide) hk hj ⟨_, _, rfl⟩
    · refine zz_aload_n (x := 998) rfl zd_L_law_33 ?_
      refine zz_iload (x := x4) rfl zd_L_law_34 ?_
      refine zz_sld (by omega) zd_L_law_36 (by omega) ?_
      have g2 := zz_sc_r g x4.toNat
      refine zz_bipush (by decide) zd_L_law_37 ?_
      refine zz_iand (by omega) (by omega) zd_L_law_39 (fun v3 hv3 av3 bv3 ev3 => ?_)
      by_cases c4 : v3 = 0
      · refine zz_swIn 0 128 c4 (by decide) zd_L_law_40 rfl rfl ?_
        exact zl_0 hfl hlen N ih x4 S n k j G_S H_S R_S O_S T0_S T1_S N_S U_S hn hx hkk hjj hR hc1
      by_cases c32 : v3 = 1
      · refine zz_swIn 1 153 c32 (by decide) zd_L_law_40 rfl rfl ?_
        exact zl_1 hfl hlen N ih x4 S n k j G_S H_S R_S O_S T0_S T1_S N_S U_S hn hx hkk hjj hR hc1
      by_cases c53 : v3 = 2
      · refine zz_swIn 2 190 c53 (by decide) zd_L_law_40 rfl rfl ?_
        exact zl_2 hfl hlen N ih x4 S n k j G_S H_S R_S O_S T0_S T1_S N_S U_S hn hx hkk hjj hR hc1
      by_cases c73 : v3 = 3
      · refine zz_swIn 3 230 c73 (by decide) zd_L_law_40 rfl rfl ?_
        exact zl_3 hfl hlen N ih x4 S n k j G_S H_S R_S O_S T0_S T1_S N_S U_S hn hx hkk hjj hR hc1
      by_cases c101 : v3 = 4
      · refine zz_swIn 4 299 c101 (by decide) zd_L_law_40 rfl rfl ?_
        exact zl_4 hfl hlen N ih x4 S n k j G_S H_S R_S O_S T0_S T1_S N_S U_S hn hx hkk hjj hR hc1
      by_cases c119 : v3 = 5
      · refine zz_swIn 5 324 c119 (by decide) zd_L_law_40 rfl rfl ?_
        exact zl_5 hfl hlen N ih x4 S n k j G_S H_S R_S O_S T0_S T1_S N_S U_S hn hx hkk hjj hR hc1
      by_cases c138 : v3 = 6
      · refine zz_swIn 6 352 c138 (by decide) zd_L_law_40 rfl rfl ?_
        exact zl_6 hfl hlen N ih x4 S n k j G_S H_S R_S O_S T0_S T1_S N_S U_S hn hx hkk hjj hR hc1
      by_cases c153 : v3 = 7
      · refine zz_swIn 7 365 c153 (by decide) zd_L_law_40 rfl rfl ?_
        exact zl_7 hfl hlen N ih x4 S n k j G_S H_S R_S O_S T0_S T1_S N_S U_S hn hx hkk hjj hR hc1
      by_cases c184 : v3 = 8
      · refine zz_swIn 8 437 c184 (by decide) zd_L_law_40 rfl rfl ?_
        exact zl_8 hfl hlen N ih x4 S n k j G_S H_S R_S O_S T0_S T1_S N_S U_S hn hx hkk hjj hR hc1
      by_cases c239 : v3 = 9
      · refine zz_swIn 9 494 c239 (by decide) zd_L_law_40 rfl rfl ?_
        exact zl_9 hfl hlen N ih x4 S n k j G_S H_S R_S O_S T0_S T1_S N_S U_S hn hx hkk hjj hR hc1
      by_cases c263 : v3 = 10
      · refine zz_swIn 10 522 c263 (by decide) zd_L_law_40 rfl rfl ?_
        exact zl_10 hfl hlen N ih x4 S n k j G_S H_S R_S O_S T0_S T1_S N_S U_S hn hx hkk hjj hR hc1
      by_cases c284 : v3 = 11
      · refine zz_swIn 11 547 c284 (by decide) zd_L_law_40 rfl rfl ?_
        exact zl_11 hfl hlen N ih x4 S n k j G_S H_S R_S O_S T0_S T1_S N_S U_S hn hx hkk hjj hR hc1
      by_cases c305 : v3 = 12
      · refine zz_swIn 12 560 c305 (by decide) zd_L_law_40 rfl rfl ?_
        exact zl_12 hfl hlen N ih x4 S n k j G_S H_S R_S O_S T0_S T1_S N_S U_S hn hx hkk hjj hR hc1
      by_cases c325 : v3 = 13
      · refine zz_swIn 13 600 c325 (by decide) zd_L_law_40 rfl rfl ?_
        exact zl_13 hfl hlen N ih x4 S n k j G_S H_S R_S O_S T0_S T1_S N_S U_S hn hx hkk hjj hR hc1
      by_cases c340 : v3 = 14
      · refine zz_swIn 14 613 c340 (by decide) zd_L_law_40 rfl rfl ?_
        exact zl_14 hfl hlen N ih x4 S n k j G_S H_S R_S O_S T0_S T1_S N_S U_S hn hx hkk hjj hR hc1
      by_cases c359 : v3 = 15
      · refine zz_swIn 15 641 c359 (by decide) zd_L_law_40 rfl rfl ?_
        exact zl_15 hfl hlen N ih x4 S n k j G_S H_S R_S O_S T0_S T1_S N_S U_S hn hx hkk hjj hR hc1
      by_cases c379 : v3 = 16
      · refine zz_swIn 16 681 c379 (by decide) zd_L_law_40 rfl rfl ?_
        exact zl_16 hfl hlen N ih x4 S n k j G_S H_S R_S O_S T0_S T1_S N_S U_S hn hx hkk hjj hR hc1
      by_cases c410 : v3 = 17
      · refine zz_swIn 17 730 c410 (by decide) zd_L_law_40 rfl rfl ?_
        exact zl_17 hfl hlen N ih x4 S n k j G_S H_S R_S O_S T0_S T1_S N_S U_S hn hx hkk hjj hR hc1
      by_cases c439 : v3 = 18
      · refine zz_swIn 18 820 c439 (by decide) zd_L_law_40 rfl rfl ?_
        exact zl_18 hfl hlen N ih x4 S n k j G_S H_S R_S O_S T0_S T1_S N_S U_S hn hx hkk hjj hR hc1
      by_cases c465 : v3 = 19
      · refine zz_swIn 19 872 c465 (by decide) zd_L_law_40 rfl rfl ?_
        exact zl_19 hfl hlen N ih x4 S n k j G_S H_S R_S O_S T0_S T1_S N_S U_S hn hx hkk hjj hR hc1
      by_cases c491 : v3 = 20
      · refine zz_swIn 20 924 c491 (by decide) zd_L_law_40 rfl rfl ?_
        exact zl_20 hfl hlen N ih x4 S n k j G_S H_S R_S O_S T0_S T1_S N_S U_S hn hx hkk hjj hR hc1
      by_cases c511 : v3 = 21
      · refine zz_swIn 21 964 c511 (by decide) zd_L_law_40 rfl rfl ?_
        exact zl_21 hfl hlen N ih x4 S n k j G_S H_S R_S O_S T0_S T1_S N_S U_S hn hx hkk hjj hR hc1
      by_cases c530 : v3 = 22
      · refine zz_swIn 22 980 c530 (by decide) zd_L_law_40 rfl rfl ?_
        exact zl_22 hfl hlen N ih x4 S n k j G_S H_S R_S O_S T0_S T1_S N_S U_S hn hx hkk hjj hR hc1
      by_cases c544 : v3 = 23
      · refine zz_swIn 23 991 c544 (by decide) zd_L_law_40 rfl rfl ?_
        exact zl_23 hfl hlen N ih x4 S n k j G_S H_S R_S O_S T0_S T1_S N_S U_S hn hx hkk hjj hR hc1
      by_cases c564 : v3 = 24
      · refine zz_swIn 24 1004 c564 (by decide) zd_L_law_40 rfl rfl ?_
        exact zl_24 hfl hlen N ih x4 S n k j G_S H_S R_S O_S T0_S T1_S N_S U_S hn hx hkk hjj hR hc1
      by_cases c584 : v3 = 25
      · refine zz_swIn 25 1044 c584 (by decide) zd_L_law_40 rfl rfl ?_
        exact zl_25 hfl hlen N ih x4 S n k j G_S H_S R_S O_S T0_S T1_S N_S U_S hn hx hkk hjj hR hc1
      by_cases c607 : v3 = 26
      · refine zz_swIn 26 1060 c607 (by decide) zd_L_law_40 rfl rfl ?_
        exact zl_26 hfl hlen N ih x4 S n k j G_S H_S R_S O_S T0_S T1_S N_S U_S hn hx hkk hjj hR hc1
      by_cases c627 : v3 = 27
      · refine zz_swIn 27 1100 c627 (by decide) zd_L_law_40 rfl rfl ?_
        exact zl_27 hfl hlen N ih x4 S n k j G_S H_S R_S O_S T0_S T1_S N_S U_S hn hx hkk hjj hR hc1
      refine zz_swOut (by omega) (by omega) zd_L_law_40 rfl ?_
      refine zz_iinc [some (.ref 998), some (.ref 1000), some (.ref 1079), some (.ref 1121), some (zi (x4 + 7))] zd_L_law_1180 rfl rfl ?_
      refine zz_goto zd_L_law_1183 ?_
      refine zz_less (ls1 := [some (.ref 998), some (.ref 1000), some (.ref 1079), some (.ref 1121), some (zi (x4 + 7))]) ⟨rfl, ⟨rfl, ⟨rfl, ⟨rfl, ⟨rfl, trivial⟩⟩⟩⟩⟩ ?_
      have g647 := zz_G.r G_S 1070 1 0 1500 rfl rfl
      have g648 := zz_G.r G_S 1079 28 0 1500 rfl rfl
      have g649 := zz_G.r G_S 1031 6 2 8 rfl rfl
      have g650 := zz_G.r G_S 1079 1 2 8 rfl rfl
      exact ih (x4 + 7) S (n) k j G_S H_S R_S O_S (by omega) (by omega) (fun u h1 h2 => (rfl : S 1100 u = S 1100 u).trans (N_S u h1 h2)) (fun i h1 h2 => (rfl : S 1071 i.toNat = S 1071 i.toNat).trans ((U_S i h1 (by omega)).trans (rfl : S 1099 i.toNat = S 1099 i.toNat).symm)) hn (by omega) (by show ((k : Nat) : Int) ≤ 200 + (x4 + 7); omega) (by show ((j : Nat) : Int) ≤ 30000 + 6 * (x4 + 7); omega) (by omega)
theorem zn_TFLaw_8 : mm_Nl "TensorForgeLaw" 8 0 12 [.null, .null, .null, .null, .null, .null, .null, .null, .null, .null, .null, .int 0] := ⟨R_TF, F_TF, t_TF, rfl, i_TF, t_TF_ok, mm_tb_1 28 (by decide +kernel) rfl, mm_tb_1 29 (by decide +kernel) rfl, mm_tb_1 1 (by decide +kernel) rfl, fun q hq => by rcases (by omega : q = 0 ∨ q = 1 ∨ q = 2 ∨ q = 3 ∨ q = 4 ∨ q = 5 ∨ q = 6 ∨ q = 7 ∨ q = 8 ∨ q = 9 ∨ q = 10 ∨ q = 11) with rfl | rfl | rfl | rfl | rfl | rfl | rfl | rfl | rfl | rfl | rfl | rfl <;> rfl, fun _ => rfl⟩
theorem zk_TFLaw_94 : mm_Il "TensorForgeLaw" 94 0 zy_init_1_1 := ⟨zyw_init_1_1, mm_tb_1 30 (by decide +kernel) rfl, mm_tb_1 31 (by decide +kernel) rfl, rfl, rfl⟩
theorem zn_TFLaw_95 : mm_Nl "TensorForgeLaw" 95 11 69 [.int 0, .int 0, .null, .null, .null, .null, .null, .int 0, .null, .null, .int 0, .null, .null, .null, .int 0, .int 0, .int 0, .null, .null, .int 0, .null, .null, .null, .null, .null, .null, .null, .null, .int 0, .null, .int 0, .int 0, .int 0, .int 0, .int 0, .null, .int 0, .null, .null, .null, .null, .null, .null, .null, .null, .null, .null, .null, .null, .null, .int 0, .int 0, .int 0, .int 0, .int 0, .int 0, .int 0, .int 0, .null, .null, .int 0, .long 0, .null, .null, .long 0, .int 0, .int 0, .null, .null] := ⟨R_Md, F_Md, t_Md, rfl, i_Md, t_Md_ok, mm_tb_1 1582 (by decide +kernel) rfl, mm_tb_1 1583 (by decide +kernel) rfl, mm_tb_1 12 (by decide +kernel) rfl, fun q hq => by rcases (by omega : q = 0 ∨ q = 1 ∨ q = 2 ∨ q = 3 ∨ q = 4 ∨ q = 5 ∨ q = 6 ∨ q = 7 ∨ q = 8 ∨ q = 9 ∨ q = 10 ∨ q = 11 ∨ q = 12 ∨ q = 13 ∨ q = 14 ∨ q = 15 ∨ q = 16 ∨ q = 17 ∨ q = 18 ∨ q = 19 ∨ q = 20 ∨ q = 21 ∨ q = 22 ∨ q = 23 ∨ q = 24 ∨ q = 25 ∨ q = 26 ∨ q = 27 ∨ q = 28 ∨ q = 29 ∨ q = 30 ∨ q = 31 ∨ q = 32 ∨ q = 33 ∨ q = 34 ∨ q = 35 ∨ q = 36 ∨ q = 37 ∨ q = 38 ∨ q = 39 ∨ q = 40 ∨ q = 41 ∨ q = 42 ∨ q = 43 ∨ q = 44 ∨ q = 45 ∨ q = 46 ∨ q = 47 ∨ q = 48 ∨ q = 49 ∨ q = 50 ∨ q = 51 ∨ q = 52 ∨ q = 53 ∨ q = 54 ∨ q = 55 ∨ q = 56 ∨ q = 57 ∨ q = 58 ∨ q = 59 ∨ q = 60 ∨ q = 61 ∨ q = 62 ∨ q = 63 ∨ q = 64 ∨ q = 65 ∨ q = 66 ∨ q = 67 ∨ q = 68) with rfl | rfl | rfl | rfl | rfl | rfl | rfl | rfl | rfl | rfl | rfl | rfl | rfl | rfl | rfl | rfl | rfl | rfl | rfl | rfl | rfl | rfl | rfl | rfl | rfl | rfl | rfl | rfl | rfl | rfl | rfl | rfl | rfl | rfl | rfl | rfl | rfl | rfl | rfl | rfl | rfl | rfl | rfl | rfl | rfl | rfl | rfl | rfl | rfl | rfl | rfl | rfl | rfl | rfl | rfl | rfl | rfl | rfl | rfl | rfl | rfl | rfl | rfl | rfl | rfl | rfl | rfl | rfl | rfl <;> rfl, fun _ => rfl⟩
theorem zk_TFLaw_97 : mm_Il "TensorForgeLaw" 97 0 zy_init_14_1 := ⟨zyw_init_14_1, mm_tb_1 1584 (by decide +kernel) rfl, mm_tb_1 1585 (by decide +kernel) rfl, rfl, rfl⟩
theorem zz_hi {cl : List Nat} {a : Nat} (h : cl.all (fun c => Nat.blt c 1122) = true) (ha : 1122 ≤ a) : cl.contains a = false := by
  cases hc : cl.contains a with
  | false => rfl
  | true =>
    have h1 := (List.all_eq_true.mp h) a (List.contains_iff_mem.mp hc)
    simp only [Nat.blt_eq] at h1
    omega
theorem zz_hi2 {sl : List (Nat × Nat)} {a i : Nat} (h : sl.all (fun c => Nat.blt c.1 1122) = true) (ha : 1122 ≤ a) : sl.contains (a, i) = false := by
  cases hc : sl.contains (a, i) with
  | false => rfl
  | true =>
    have h1 := (List.all_eq_true.mp h) (a, i) (List.contains_iff_mem.mp hc)
    simp only [Nat.blt_eq] at h1
    omega
set_option maxHeartbeats 4000000 in
theorem zg_L_law_0 : (decode zy_law_L.2.1 0 = .ok ((.new 8), 3)) ∧ (decode zy_law_L.2.1 3 = .ok ((.dup), 1)) ∧ (decode zy_law_L.2.1 4 = .ok ((.invokespecial 94), 3)) ∧ (decode zy_law_L.2.1 7 = .ok ((.astore_n 1), 1)) ∧ (decode zy_law_L.2.1 8 = .ok ((.new 95), 3)) ∧ (decode zy_law_L.2.1 11 = .ok ((.dup), 1)) ∧ (decode zy_law_L.2.1 12 = .ok ((.invokespecial 97), 3)) ∧ (decode zy_law_L.2.1 15 = .ok ((.astore_n 2), 1)) ∧ (decode zy_law_L.2.1 16 = .ok ((.iconst 1), 1)) ∧ (decode zy_law_L.2.1 17 = .ok ((.newarray .long), 2)) := by decide +kernel
theorem zd_L_law_0 : zz_D zy_law_L 0 (.new 8) 3 3 := ⟨zg_L_law_0.1, rfl⟩
theorem zd_L_law_3 : zz_D zy_law_L 3 (.dup) 1 4 := ⟨zg_L_law_0.2.1, rfl⟩
theorem zd_L_law_4 : zz_D zy_law_L 4 (.invokespecial 94) 3 7 := ⟨zg_L_law_0.2.2.1, rfl⟩
theorem zd_L_law_7 : zz_D zy_law_L 7 (.astore_n 1) 1 8 := ⟨zg_L_law_0.2.2.2.1, rfl⟩
theorem zd_L_law_8 : zz_D zy_law_L 8 (.new 95) 3 11 := ⟨zg_L_law_0.2.2.2.2.1, rfl⟩
theorem zd_L_law_11 : zz_D zy_law_L 11 (.dup) 1 12 := ⟨zg_L_law_0.2.2.2.2.2.1, rfl⟩
theorem zd_L_law_12 : zz_D zy_law_L 12 (.invokespecial 97) 3 15 := ⟨zg_L_law_0.2.2.2.2.2.2.1, rfl⟩
theorem zd_L_law_15 : zz_D zy_law_L 15 (.astore_n 2) 1 16 := ⟨zg_L_law_0.2.2.2.2.2.2.2.1, rfl⟩
theorem zd_L_law_16 : zz_D zy_law_L 16 (.iconst 1) 1 17 := ⟨zg_L_law_0.2.2.2.2.2.2.2.2.1, rfl⟩
theorem zd_L_law_17 : zz_D zy_law_L 17 (.newarray .long) 2 19 := ⟨zg_L_law_0.2.2.2.2.2.2.2.2.2, rfl⟩
theorem zg_L_law_19 : (decode zy_law_L.2.1 19 = .ok ((.astore_n 3), 1)) ∧ (decode zy_law_L.2.1 20 = .ok ((.iconst 0), 1)) ∧ (decode zy_law_L.2.1 21 = .ok ((.istore 4), 2)) := by decide +kernel
theorem zd_L_law_19 : zz_D zy_law_L 19 (.astore_n 3) 1 20 := ⟨zg_L_law_19.1, rfl⟩
theorem zd_L_law_20 : zz_D zy_law_L 20 (.iconst 0) 1 21 := ⟨zg_L_law_19.2.1, rfl⟩
theorem zd_L_law_21 : zz_D zy_law_L 21 (.istore 4) 2 23 := ⟨zg_L_law_19.2.2, rfl⟩
theorem zs_law_L {g : mm_G} {l : Launch} (hfl : l.flags = flags0) (hlen : g.2.2.2 997 ≤ 3584) (S0 : zz_S) (h0 : ∀ a i, S0 a i = 0) : zz_E g l zy_law_L room_1 (fun u => ∃ M1 n1, u = (.inl (some (zi 1)), M1, n1)) S0 1000 0 [some (.ref 998)] [] 0 0 := by
  have G_S0 : zz_Gm [] [] S0 := fun a i h => by cases h
  have F_S0 : zz_fr [] [1000, 1001, 1002, 1003, 1004, 1005, 1006, 1007, 1008, 1009, 1010, 1011, 1012, 1013, 1014, 1015, 1016, 1017, 1018, 1019, 1020, 1021, 1022, 1023, 1024, 1025, 1026, 1027, 1028, 1029, 1030, 1031, 1032, 1033, 1034, 1035, 1036, 1037, 1038, 1039, 1040, 1041, 1042, 1043, 1044, 1045, 1046, 1047, 1048, 1049, 1050, 1051, 1052, 1053, 1054, 1055, 1056, 1057, 1058, 1059, 1060, 1061, 1062, 1063, 1064, 1065, 1066, 1067, 1068, 1069, 1070, 1071, 1072, 1073, 1074, 1075, 1076, 1077, 1078, 1079, 1080, 1081, 1082, 1083, 1084, 1085, 1086, 1087, 1088, 1089, 1090, 1091, 1092, 1093, 1094, 1095, 1096, 1097, 1098, 1099, 1100, 1101, 1102, 1103, 1104, 1105, 1106, 1107, 1108, 1109, 1110, 1111, 1112, 1113, 1114, 1115, 1116, 1117, 1118, 1119, 1120, 1121] (fun _ _ => False) S0 S0 := zz_fr.refl
  refine zz_new (zz_ov [(-1), (-1), (-1), (-1), (-1), (-1), (-1), (-1), (-1), (-1), (-1), 0]) zd_L_law_0 zn_TFLaw_8 zT_1000 rfl (Nat.le_of_ble_eq_true rfl) (Nat.le_of_ble_eq_true rfl) (fun S1 qS1 => ?_)
  have G_S1 := zz_Gm.nwo G_S0 qS1 (by decide +kernel)
  have F_S1 := zz_fr.nw F_S0 qS1 (by decide +kernel)
  refine zz_setn (n1 := 1001) (k1 := 1) (j1 := 12) rfl rfl rfl ?_
  refine zz_dup rfl zd_L_law_3 ?_
  refine zz_callN (n1 := 1079) [] zd_L_law_4 zk_TFLaw_94 rfl rfl ⟨Nat.le_of_ble_eq_true rfl, Nat.le_of_ble_eq_true rfl⟩ (Nat.le_of_ble_eq_true rfl) (Nat.le_of_ble_eq_true rfl) (zc_init_1_1_c1000_1001 S1 (zz_Gm.own qS1 (zz_ovG (rs := [(1031, 1031), (1042, 1042), (1070, 1070), (1072, 1072), (1073, 1073), (1076, 1076), (1077, 1077), (0, 1), (0, 1), (0, 1), (0, 1), (0, 600)]) (fun _ => rfl) rfl (by decide +kernel)))) (fun S2 hP => ?_)
  obtain ⟨gS2, fS2, o3, o4, o5, o6⟩ := hP
  have F_S2 := zz_fr.trans F_S1 fS2 (by decide +kernel) zz_nv
  have G_S2 := zz_Gm.call [] G_S1 fS2 gS2 (by decide +kernel) (by decide +kernel) (by decide +kernel) (by decide +kernel)
  refine zz_setn (n1 := 1079) (k1 := 79) (j1 := 10884) rfl rfl rfl ?_
  refine zz_astore_n [some (.ref 998), some (.ref 1000)] zd_L_law_7 (by decide) rfl ?_
  refine zz_new (zz_ov [0, 0, (-1), (-1), (-1), (-1), (-1), 0, (-1), (-1), 0, (-1), (-1), (-1), 0, 0, 0, (-1), (-1), 0, (-1), (-1), (-1), (-1), (-1), (-1), (-1), (-1), 0, (-1), 0, 0, 0, 0, 0, (-1), 0, (-1), (-1), (-1), (-1), (-1), (-1), (-1), (-1), (-1), (-1), (-1), (-1), (-1), 0, 0, 0, 0, 0, 0, 0, 0, (-1), (-1), 0, 0, (-1), (-1), 0, 0, 0, (-1), (-1)]) zd_L_law_8 zn_TFLaw_95 zT_1079 (by decide +kernel) (Nat.le_of_ble_eq_true rfl) (Nat.le_of_ble_eq_true rfl) (fun S7 qS7 => ?_)
  have G_S7 := zz_Gm.nwo G_S2 qS7 (by decide +kernel)
  have F_S7 := zz_fr.nw F_S2 qS7 (by decide +kernel)
  refine zz_setn (n1 := 1080) (k1 := 80) (j1 := 10953) rfl rfl rfl ?_
  refine zz_dup rfl zd_L_law_11 ?_
  refine zz_callN (n1 := 1121) [] zd_L_law_12 zk_TFLaw_97 rfl rfl ⟨Nat.le_of_ble_eq_true rfl, Nat.le_of_ble_eq_true rfl⟩ (Nat.le_of_ble_eq_true rfl) (Nat.le_of_ble_eq_true rfl) (zc_init_14_1_c1079_1080 S7 (zz_Gm.own qS7 (zz_ovG (rs := [(0, 3), (2, 8), (1080, 1080), (1081, 1081), (1082, 1082), (1083, 1083), (1084, 1084), (0, 600), (1085, 1085), (1086, 1086), (0, 1000000), (1087, 1087), (1088, 1088), (1089, 1089), (0, 4), ((-1), 600), ((-2147483648), 2147483647), (1090, 1090), (1091, 1091), ((-1), 600), (1092, 1092), (1093, 1093), (1094, 1094), (1095, 1095), (1096, 1096), (1097, 1097), (1098, 1098), (1099, 1099), (0, 1500), (1100, 1100), (0, 102), (0, 9999), (0, 1500), (0, 1500), (0, 200), (1101, 1101), (0, 11), (1102, 1102), (1103, 1103), (1104, 1104), (1105, 1105), (1106, 1106), (1107, 1107), (1108, 1108), (1109, 1109), (1110, 1110), (1111, 1111), (1112, 1112), (1113, 1113), (1114, 1114), ((-2147483648), 2147483647), ((-2147483648), 2147483647), ((-2147483648), 2147483647), ((-2147483648), 2147483647), ((-2147483648), 2147483647), ((-2147483648), 2147483647), ((-2147483648), 2147483647), ((-2147483648), 2147483647), (1115, 1115), (1116, 1116), ((-2147483648), 2147483647), ((-9223372036854775808), 9223372036854775807), (1117, 1117), (1118, 1118), ((-9223372036854775808), 9223372036854775807), (0, 255), (0, 11), (1119, 1119), (1120, 1120)]) (fun _ => rfl) rfl (by decide +kernel)))) (fun S8 hP => ?_)
  obtain ⟨gS8, fS8, o9, o10, o11, o12, o13, o14, o15, o16, o17, o18, o19, o20, o21, o22, o23, o24, o25, o26, o27, o28, o29, o30, o31⟩ := hP
  have F_S8 := zz_fr.trans F_S7 fS8 (by decide +kernel) zz_nv
  have G_S8 := zz_Gm.call [] G_S7 fS8 gS8 (by decide +kernel) (by decide +kernel) (by decide +kernel) (by decide +kernel)
  refine zz_setn (n1 := 1121) (k1 := 121) (j1 := 22894) rfl rfl rfl ?_
  have z32 : S8 1079 28 = 0 := o11.trans ((zz_nws qS7 28).trans (by decide +kernel))
  refine zz_astore_n [some (.ref 998), some (.ref 1000), some (.ref 1079)] zd_L_law_15 (by decide) rfl ?_
  refine zz_iconst zd_L_law_16 ?_
  refine zz_newa (z := 1) (fun _ => 0) zd_L_law_17 zT_1121 rfl (mm_tb_1 181 (by decide +kernel) rfl) rfl (by decide) (by decide) (fun _ => rfl) (fun _ => rfl) (fun _ h => by cases h) (Nat.le_of_ble_eq_true rfl) (Nat.le_of_ble_eq_true rfl) (fun S33 qS33 => ?_)
  have G_S33 := zz_Gm.nwa [] G_S8 qS33 (by decide +kernel) (fun i _ => ⟨(by decide : ((-9223372036854775808) : Int) ≤ 0), (by decide : (0 : Int) ≤ 9223372036854775807)⟩)
  have F_S33 := zz_fr.nw F_S8 qS33 (by decide +kernel)
  refine zz_setn (n1 := 1122) (k1 := 122) (j1 := 22895) rfl rfl rfl ?_
  refine zz_astore_n [some (.ref 998), some (.ref 1000), some (.ref 1079), some (.ref 1121)] zd_L_law_19 (by decide) rfl ?_
  refine zz_iconst zd_L_law_20 ?_
  refine zz_istore [some (.ref 998), some (.ref 1000), some (.ref 1079), some (.ref 1121), some (zi 0)] zd_L_law_21 (by decide) rfl ?_
  have g34 := trivial
  have e35 : S33 1001 1 = S2 1001 1 := (zz_nwo qS33 (by decide) (zz_rc fS8 (by decide +kernel) (by decide +kernel) (fun h => h) (zz_nwo qS7 (by decide) rfl)))
  have g36 := trivial
  have e37 : S33 1003 0 = S2 1003 0 := (zz_nwo qS33 (by decide) (zz_rc fS8 (by decide +kernel) (by decide +kernel) (fun h => h) (zz_nwo qS7 (by decide) rfl)))
  have g38 := trivial
  have e39 : S33 1003 12 = S2 1003 12 := (zz_nwo qS33 (by decide) (zz_rc fS8 (by decide +kernel) (by decide +kernel) (fun h => h) (zz_nwo qS7 (by decide) rfl)))
  have g40 := trivial
  have e41 : S33 1003 3 = S2 1003 3 := (zz_nwo qS33 (by decide) (zz_rc fS8 (by decide +kernel) (by decide +kernel) (fun h => h) (zz_nwo qS7 (by decide) rfl)))
  have g42 := trivial
  have e43 : S33 1003 4 = S2 1003 4 := (zz_nwo qS33 (by decide) (zz_rc fS8 (by decide +kernel) (by decide +kernel) (fun h => h) (zz_nwo qS7 (by decide) rfl)))
  have g44 := trivial
  have e45 : S33 1015 1 = S2 1015 1 := (zz_nwo qS33 (by decide) (zz_rc fS8 (by decide +kernel) (by decide +kernel) (fun h => h) (zz_nwo qS7 (by decide) rfl)))
  have g46 := trivial
  have e47 : S33 1017 0 = S2 1017 0 := (zz_nwo qS33 (by decide) (zz_rc fS8 (by decide +kernel) (by decide +kernel) (fun h => h) (zz_nwo qS7 (by decide) rfl)))
  have g48 := trivial
  have e49 : S33 1017 12 = S2 1017 12 := (zz_nwo qS33 (by decide) (zz_rc fS8 (by decide +kernel) (by decide +kernel) (fun h => h) (zz_nwo qS7 (by decide) rfl)))
  have g50 := trivial
  have e51 : S33 1017 3 = S2 1017 3 := (zz_nwo qS33 (by decide) (zz_rc fS8 (by decide +kernel) (by decide +kernel) (fun h => h) (zz_nwo qS7 (by decide) rfl)))
  have g52 := trivial
  have e53 : S33 1017 4 = S2 1017 4 := (zz_nwo qS33 (by decide) (zz_rc fS8 (by decide +kernel) (by decide +kernel) (fun h => h) (zz_nwo qS7 (by decide) rfl)))
  have g54 := trivial
  have e55 : S33 1079 36 = S8 1079 36 := (zz_nwo qS33 (by decide) rfl)
  have g56 := trivial
  have e57 : S33 1102 0 = S8 1102 0 := (zz_nwo qS33 (by decide) rfl)
  have g58 := trivial
  have e59 : S33 1103 0 = S8 1103 0 := (zz_nwo qS33 (by decide) rfl)
  have g60 := trivial
  have e61 : S33 1104 0 = S8 1104 0 := (zz_nwo qS33 (by decide) rfl)
  have g62 := trivial
  have e63 : S33 1105 0 = S8 1105 0 := (zz_nwo qS33 (by decide) rfl)
  have GG : zz_G S33 := zz_Gm.full G_S33 (by decide +kernel) (fun a i ha => (F_S33 a i (zz_hi2 (by decide +kernel) ha) (zz_hi (by decide +kernel) ha) (fun h => h)).trans (h0 a i))
  have HH : zz_Hc S33 := by
    intro q hq k hk hkt
    rcases (by omega : q = 0 ∨ q = 1) with rfl | rfl
    · have hkt : k < S33 1001 1 := hkt
      have hk0 : k = 0 := by omega
      subst hk0
      show (S33 1003 0 = 3 ∨ (S33 1003 3 ≤ 3 ∧ S33 1003 4 ≤ 3)) ∧ S33 1003 12 ≤ 63
      omega
    · have hkt : k < S33 1015 1 := hkt
      have hk0 : k = 0 := by omega
      subst hk0
      show (S33 1017 0 = 3 ∨ (S33 1017 3 ≤ 3 ∧ S33 1017 4 ≤ 3)) ∧ S33 1017 12 ≤ 63
      omega
  have RR : zz_Hr S33 := zz_Hr.one (by omega) (by unfold zz_tn zz_sz; rw [show S33 1102 0 = 1 by omega, show S33 1103 0 = 1 by omega, show S33 1104 0 = 1 by omega, show S33 1105 0 = 0 by omega]; decide)
  have e64 : S33 1100 1 = 20328611 := (zz_nwo qS33 (by decide) o12)
  have e65 : S33 1100 10 = 641 := (zz_nwo qS33 (by decide) o21)
  have e66 : S33 1100 11 = 802 := (zz_nwo qS33 (by decide) o22)
  have e67 : S33 1100 12 = 24 := (zz_nwo qS33 (by decide) o23)
  have e68 : S33 1100 13 = 1 := (zz_nwo qS33 (by decide) o24)
  have e69 : S33 1100 14 = 2 := (zz_nwo qS33 (by decide) o25)
  have e70 : S33 1100 15 = 530067 := (zz_nwo qS33 (by decide) o26)
  have e71 : S33 1100 16 = 14 := (zz_nwo qS33 (by decide) o27)
  have e72 : S33 1100 17 = 16880 := (zz_nwo qS33 (by decide) o28)
  have e73 : S33 1100 18 = 282288 := (zz_nwo qS33 (by decide) o29)
  have e74 : S33 1100 19 = 187144354 := (zz_nwo qS33 (by decide) o30)
  have e75 : S33 1100 2 = 21080810679 := (zz_nwo qS33 (by decide) o13)
  have e76 : S33 1100 20 = 149201058 := (zz_nwo qS33 (by decide) o31)
  have e77 : S33 1100 3 = 18912643 := (zz_nwo qS33 (by decide) o14)
  have e78 : S33 1100 4 = 636595 := (zz_nwo qS33 (by decide) o15)
  have e79 : S33 1100 5 = 872425337517 := (zz_nwo qS33 (by decide) o16)
  have e80 : S33 1100 6 = 5847987683 := (zz_nwo qS33 (by decide) o17)
  have e81 : S33 1100 7 = 788088878 := (zz_nwo qS33 (by decide) o18)
  have e82 : S33 1100 8 = 5848723 := (zz_nwo qS33 (by decide) o19)
  have e83 : S33 1100 9 = 664631 := (zz_nwo qS33 (by decide) o20)
  have NN : ∀ w : Nat, 1 ≤ w → w ≤ 20 → S33 1100 w = zt_cd (zt_nw.getD w []) := by
    intro w h1 h2
    rcases (by omega : w = 1 ∨ w = 2 ∨ w = 3 ∨ w = 4 ∨ w = 5 ∨ w = 6 ∨ w = 7 ∨ w = 8 ∨ w = 9 ∨ w = 10 ∨ w = 11 ∨ w = 12 ∨ w = 13 ∨ w = 14 ∨ w = 15 ∨ w = 16 ∨ w = 17 ∨ w = 18 ∨ w = 19 ∨ w = 20) with rfl | rfl | rfl | rfl | rfl | rfl | rfl | rfl | rfl | rfl | rfl | rfl | rfl | rfl | rfl | rfl | rfl | rfl | rfl | rfl
    · exact (show S33 1100 1 = 20328611 by omega).trans (by decide +kernel)
    · exact (show S33 1100 2 = 21080810679 by omega).trans (by decide +kernel)
    · exact (show S33 1100 3 = 18912643 by omega).trans (by decide +kernel)
    · exact (show S33 1100 4 = 636595 by omega).trans (by decide +kernel)
    · exact (show S33 1100 5 = 872425337517 by omega).trans (by decide +kernel)
    · exact (show S33 1100 6 = 5847987683 by omega).trans (by decide +kernel)
    · exact (show S33 1100 7 = 788088878 by omega).trans (by decide +kernel)
    · exact (show S33 1100 8 = 5848723 by omega).trans (by decide +kernel)
    · exact (show S33 1100 9 = 664631 by omega).trans (by decide +kernel)
    · exact (show S33 1100 10 = 641 by omega).trans (by decide +kernel)
    · exact (show S33 1100 11 = 802 by omega).trans (by decide +kernel)
    · exact (show S33 1100 12 = 24 by omega).trans (by decide +kernel)
    · exact (show S33 1100 13 = 1 by omega).trans (by decide +kernel)
    · exact (show S33 1100 14 = 2 by omega).trans (by decide +kernel)
    · exact (show S33 1100 15 = 530067 by omega).trans (by decide +kernel)
    · exact (show S33 1100 16 = 14 by omega).trans (by decide +kernel)
    · exact (show S33 1100 17 = 16880 by omega).trans (by decide +kernel)
    · exact (show S33 1100 18 = 282288 by omega).trans (by decide +kernel)
    · exact (show S33 1100 19 = 187144354 by omega).trans (by decide +kernel)
    · exact (show S33 1100 20 = 149201058 by omega).trans (by decide +kernel)
  refine zz_less (ls1 := [some (.ref 998), some (.ref 1000), some (.ref 1079), some (.ref 1121), some (zi 0)]) ⟨rfl, ⟨rfl, ⟨rfl, ⟨rfl, ⟨rfl, trivial⟩⟩⟩⟩⟩ ?_
  have e84 : S33 1070 1 = 0 := (zz_nwo qS33 (by decide) (zz_rc fS8 (by decide +kernel) (by decide +kernel) (fun h => h) (zz_nwo qS7 (by decide) o6)))
  have e85 : S33 1079 28 = 0 := (zz_nwo qS33 (by decide) z32)
  have e86 : S33 1031 6 = 2 := (zz_nwo qS33 (by decide) (zz_rc fS8 (by decide +kernel) (by decide +kernel) (fun h => h) (zz_nwo qS7 (by decide) o5)))
  have e87 : S33 1079 1 = 2 := (zz_nwo qS33 (by decide) o10)
  exact zi_law_L hfl hlen _ 0 S33 1122 122 22895 GG HH RR (by omega) (by omega) (by omega) NN (fun i h1 h2 => absurd h2 (by omega)) (Nat.le_refl _) (by decide) (by show ((122 : Nat) : Int) ≤ 200 + 0; decide) (by show ((22895 : Nat) : Int) ≤ 30000 + 6 * 0; decide) (Nat.lt_succ_self _)

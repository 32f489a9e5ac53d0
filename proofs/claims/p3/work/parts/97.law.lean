abbrev zy_law_L : mm_Y := (x, code, maxLocals, ret)
theorem zd_L_law_40 : zz_W zy_law_L 40 1151 0 27 #[128, 153, 201, 241, 310, 335, 363, 376, 448, 505, 533, 558, 571, 611, 624, 652, 692, 741, 831, 883, 935, 975, 991, 1002, 1015, 1055, 1071, 1111] := ⟨128, by decide +kernel⟩
theorem zhl_side_L : mm_Hl "TensorForgeLaw" 98 2 [(0, 5, 8, 13)] zy_side_L := ⟨zxY_side_L, mm_tb_1 0 (by decide +kernel) rfl, ⟨by decide, by decide⟩, by decide +kernel, mm_tb_1 1040 (by decide +kernel) rfl, mm_tb_1 1041 (by decide +kernel) rfl⟩
theorem zk_TFLaw_103 : mm_Vl "TensorForgeLaw" 103 11 1 zy_side_14_6 := ⟨zyw_side_14_6, (R_Md, F_Md, 69), rfl, mm_tb_1 1824 (by decide +kernel) rfl, mm_tb_1 1825 (by decide +kernel) rfl, mm_tb_1 1826 (by decide +kernel) rfl⟩
theorem zhl_memory_L : mm_Hl "TensorForgeLaw" 104 3 [(0, 6, 9, 19)] zy_memory_L := ⟨zxY_memory_L, mm_tb_1 0 (by decide +kernel) rfl, ⟨by decide, by decide⟩, by decide +kernel, mm_tb_1 1125 (by decide +kernel) rfl, mm_tb_1 1126 (by decide +kernel) rfl⟩
theorem zk_TFLaw_107 : mm_Vl "TensorForgeLaw" 107 11 2 zy_memory_14_8 := ⟨zyw_memory_14_8, (R_Md, F_Md, 69), rfl, mm_tb_1 1840 (by decide +kernel) rfl, mm_tb_1 1841 (by decide +kernel) rfl, mm_tb_1 1842 (by decide +kernel) rfl⟩
theorem zk_TFLaw_108 : mm_Vl "TensorForgeLaw" 108 11 0 zy_thrown_14_2 := ⟨zyw_thrown_14_2, (R_Md, F_Md, 69), rfl, mm_tb_1 1820 (by decide +kernel) rfl, mm_tb_1 1821 (by decide +kernel) rfl, mm_tb_1 1822 (by decide +kernel) rfl⟩
theorem zhl_look_L : mm_Hl "TensorForgeLaw" 111 4 [(0, 10, 13, 13), (0, 10, 17, 19)] zy_look_L := ⟨zxY_look_L, mm_tb_1 0 (by decide +kernel) rfl, ⟨by decide, by decide⟩, by decide +kernel, mm_tb_1 1153 (by decide +kernel) rfl, mm_tb_1 1154 (by decide +kernel) rfl⟩
theorem zk_TFLaw_114 : mm_Vl "TensorForgeLaw" 114 11 2 zy_look_14_10 := ⟨zyw_look_14_10, (R_Md, F_Md, 69), rfl, mm_tb_1 1848 (by decide +kernel) rfl, mm_tb_1 1849 (by decide +kernel) rfl, mm_tb_1 1850 (by decide +kernel) rfl⟩
theorem zq_TFLaw_115 : Cond.constantLong "TensorForgeLaw" 115 (4294967295 : Int64) ∈ mm_tb := mm_tb_1 2313 (by decide +kernel) rfl
theorem zhl_word_L : mm_Hl "TensorForgeLaw" 117 3 [(0, 6, 9, 19), (0, 6, 13, 29)] zy_word_L := ⟨zxY_word_L, mm_tb_1 0 (by decide +kernel) rfl, ⟨by decide, by decide⟩, by decide +kernel, mm_tb_1 1167 (by decide +kernel) rfl, mm_tb_1 1168 (by decide +kernel) rfl⟩
theorem zk_TFLaw_120 : mm_Vl "TensorForgeLaw" 120 11 2 zy_word_14_14 := ⟨zyw_word_14_14, (R_Md, F_Md, 69), rfl, mm_tb_1 1867 (by decide +kernel) rfl, mm_tb_1 1868 (by decide +kernel) rfl, mm_tb_1 1869 (by decide +kernel) rfl⟩
theorem zhl_cut_L : mm_Hl "TensorForgeLaw" 121 2 [(0, 5, 8, 13)] zy_cut_L := ⟨zxY_cut_L, mm_tb_1 0 (by decide +kernel) rfl, ⟨by decide, by decide⟩, by decide +kernel, mm_tb_1 1192 (by decide +kernel) rfl, mm_tb_1 1193 (by decide +kernel) rfl⟩
theorem zk_TFLaw_123 : mm_Vl "TensorForgeLaw" 123 11 1 zy_cut_14_15 := ⟨zyw_cut_14_15, (R_Md, F_Md, 69), rfl, mm_tb_1 1871 (by decide +kernel) rfl, mm_tb_1 1872 (by decide +kernel) rfl, mm_tb_1 1873 (by decide +kernel) rfl⟩
theorem zhl_wordOf_L : mm_Hl "TensorForgeLaw" 124 3 [(0, 8, 11, 19)] zy_wordOf_L := ⟨zxY_wordOf_L, mm_tb_1 0 (by decide +kernel) rfl, ⟨by decide, by decide⟩, by decide +kernel, mm_tb_1 1200 (by decide +kernel) rfl, mm_tb_1 1201 (by decide +kernel) rfl⟩
theorem zk_TFLaw_127 : mm_Vl "TensorForgeLaw" 127 11 1 zy_wordOf_14_16 := ⟨zyw_wordOf_14_16, (R_Md, F_Md, 69), rfl, mm_tb_1 1875 (by decide +kernel) rfl, mm_tb_1 1876 (by decide +kernel) rfl, mm_tb_1 1877 (by decide +kernel) rfl⟩
theorem zk_TFLaw_128 : mm_Vl "TensorForgeLaw" 128 0 0 zy_length_1_8 := ⟨zyw_length_1_8, (R_TF, F_TF, 12), rfl, mm_tb_1 477 (by decide +kernel) rfl, mm_tb_1 478 (by decide +kernel) rfl, mm_tb_1 479 (by decide +kernel) rfl⟩
theorem zk_TFLaw_131 : mm_Vl "TensorForgeLaw" 131 11 0 zy_length_14_17 := ⟨zyw_length_14_17, (R_Md, F_Md, 69), rfl, mm_tb_1 1879 (by decide +kernel) rfl, mm_tb_1 1880 (by decide +kernel) rfl, mm_tb_1 1881 (by decide +kernel) rfl⟩
theorem zhl_field_L : mm_Hl "TensorForgeLaw" 132 4 [(0, 11, 14, 13)] zy_field_L := ⟨zxY_field_L, mm_tb_1 0 (by decide +kernel) rfl, ⟨by decide, by decide⟩, by decide +kernel, mm_tb_1 1207 (by decide +kernel) rfl, mm_tb_1 1208 (by decide +kernel) rfl⟩
theorem zk_TFLaw_135 : mm_Vl "TensorForgeLaw" 135 11 2 zy_field_14_13 := ⟨zyw_field_14_13, (R_Md, F_Md, 69), rfl, mm_tb_1 1856 (by decide +kernel) rfl, mm_tb_1 1857 (by decide +kernel) rfl, mm_tb_1 1858 (by decide +kernel) rfl⟩
theorem zk_TFLaw_136 : mm_Vl "TensorForgeLaw" 136 0 1 zy_illegal_1_10 := ⟨zyw_illegal_1_10, (R_TF, F_TF, 12), rfl, mm_tb_1 481 (by decide +kernel) rfl, mm_tb_1 482 (by decide +kernel) rfl, mm_tb_1 483 (by decide +kernel) rfl⟩
theorem zk_TFLaw_140 : mm_Vl "TensorForgeLaw" 140 11 1 zy_illegal_14_25 := ⟨zyw_illegal_14_25, (R_Md, F_Md, 69), rfl, mm_tb_1 1883 (by decide +kernel) rfl, mm_tb_1 1884 (by decide +kernel) rfl, mm_tb_1 1885 (by decide +kernel) rfl⟩
theorem zhl_put_L : mm_Hl "TensorForgeLaw" 141 3 [(0, 9, 12, 13), (0, 9, 15, 29)] zy_put_L := ⟨zxY_put_L, mm_tb_1 0 (by decide +kernel) rfl, ⟨by decide, by decide⟩, by decide +kernel, mm_tb_1 1216 (by decide +kernel) rfl, mm_tb_1 1217 (by decide +kernel) rfl⟩
theorem zk_TFLaw_143 : mm_Vl "TensorForgeLaw" 143 11 1 zy_put_14_47 := ⟨zyw_put_14_47, (R_Md, F_Md, 69), rfl, mm_tb_1 1997 (by decide +kernel) rfl, mm_tb_1 1998 (by decide +kernel) rfl, mm_tb_1 1999 (by decide +kernel) rfl⟩
theorem zhl_end_L : mm_Hl "TensorForgeLaw" 144 2 [(0, 5, 8, 13)] zy_end_L := ⟨zxY_end_L, mm_tb_1 0 (by decide +kernel) rfl, ⟨by decide, by decide⟩, by decide +kernel, mm_tb_1 1236 (by decide +kernel) rfl, mm_tb_1 1237 (by decide +kernel) rfl⟩
theorem zk_TFLaw_146 : mm_Vl "TensorForgeLaw" 146 11 1 zy_end_14_48 := ⟨zyw_end_14_48, (R_Md, F_Md, 69), rfl, mm_tb_1 2003 (by decide +kernel) rfl, mm_tb_1 2004 (by decide +kernel) rfl, mm_tb_1 2005 (by decide +kernel) rfl⟩
theorem zk_TFLaw_147 : mm_Vl "TensorForgeLaw" 147 0 0 zy_assemble_1_13 := ⟨zyw_assemble_1_13, (R_TF, F_TF, 12), rfl, mm_tb_1 556 (by decide +kernel) rfl, mm_tb_1 557 (by decide +kernel) rfl, mm_tb_1 558 (by decide +kernel) rfl⟩
theorem zk_TFLaw_150 : mm_Vl "TensorForgeLaw" 150 11 0 zy_assemble_14_55 := ⟨zyw_assemble_14_55, (R_Md, F_Md, 69), rfl, mm_tb_1 2007 (by decide +kernel) rfl, mm_tb_1 2008 (by decide +kernel) rfl, mm_tb_1 2009 (by decide +kernel) rfl⟩
theorem zhl_listing_L : mm_Hl "TensorForgeLaw" 151 4 [(0, 10, 13, 19)] zy_listing_L := ⟨zxY_listing_L, mm_tb_1 0 (by decide +kernel) rfl, ⟨by decide, by decide⟩, by decide +kernel, mm_tb_1 1244 (by decide +kernel) rfl, mm_tb_1 1245 (by decide +kernel) rfl⟩
theorem zk_TFLaw_153 : mm_Vl "TensorForgeLaw" 153 11 2 zy_listing_14_62 := ⟨zyw_listing_14_62, (R_Md, F_Md, 69), rfl, mm_tb_1 2046 (by decide +kernel) rfl, mm_tb_1 2047 (by decide +kernel) rfl, mm_tb_1 2048 (by decide +kernel) rfl⟩
theorem zk_TFLaw_154 : mm_Vl "TensorForgeLaw" 154 0 0 zy_run_1_15 := ⟨zyw_run_1_15, (R_TF, F_TF, 12), rfl, mm_tb_1 693 (by decide +kernel) rfl, mm_tb_1 694 (by decide +kernel) rfl, mm_tb_1 695 (by decide +kernel) rfl⟩
theorem zk_TFLaw_157 : mm_Vl "TensorForgeLaw" 157 11 0 zy_run_14_44 := ⟨zyw_run_14_44, (R_Md, F_Md, 69), rfl, mm_tb_1 1915 (by decide +kernel) rfl, mm_tb_1 1916 (by decide +kernel) rfl, mm_tb_1 1917 (by decide +kernel) rfl⟩
theorem zhl_stopped_L : mm_Hl "TensorForgeLaw" 158 3 [(0, 9, 12, 13)] zy_stopped_L := ⟨zxY_stopped_L, mm_tb_1 0 (by decide +kernel) rfl, ⟨by decide, by decide⟩, by decide +kernel, mm_tb_1 1304 (by decide +kernel) rfl, mm_tb_1 1305 (by decide +kernel) rfl⟩
theorem zk_TFLaw_160 : mm_Vl "TensorForgeLaw" 160 11 1 zy_stopped_14_45 := ⟨zyw_stopped_14_45, (R_Md, F_Md, 69), rfl, mm_tb_1 1989 (by decide +kernel) rfl, mm_tb_1 1990 (by decide +kernel) rfl, mm_tb_1 1991 (by decide +kernel) rfl⟩
theorem zhl_instruction_L : mm_Hl "TensorForgeLaw" 161 4 [(0, 10, 13, 58), (0, 10, 17, 19), (0, 10, 21, 13)] zy_instruction_L := ⟨zxY_instruction_L, mm_tb_1 0 (by decide +kernel) rfl, ⟨by decide, by decide⟩, by decide +kernel, mm_tb_1 1312 (by decide +kernel) rfl, mm_tb_1 1313 (by decide +kernel) rfl⟩
theorem zk_TFLaw_163 : mm_Vl "TensorForgeLaw" 163 11 2 zy_instruction_14_46 := ⟨zyw_instruction_14_46, (R_Md, F_Md, 69), rfl, mm_tb_1 1993 (by decide +kernel) rfl, mm_tb_1 1994 (by decide +kernel) rfl, mm_tb_1 1995 (by decide +kernel) rfl⟩
theorem zhl_input_L : mm_Hl "TensorForgeLaw" 164 4 [(0, 7, 10, 13)] zy_input_L := ⟨zxY_input_L, mm_tb_1 0 (by decide +kernel) rfl, ⟨by decide, by decide⟩, by decide +kernel, mm_tb_1 1343 (by decide +kernel) rfl, mm_tb_1 1344 (by decide +kernel) rfl⟩
theorem zk_TFLaw_167 : mm_Vl "TensorForgeLaw" 167 11 3 zy_input_14_63 := ⟨zyw_input_14_63, (R_Md, F_Md, 69), rfl, mm_tb_1 2073 (by decide +kernel) rfl, mm_tb_1 2074 (by decide +kernel) rfl, mm_tb_1 2075 (by decide +kernel) rfl⟩
theorem zhl_convolution_L : mm_Hl "TensorForgeLaw" 168 8 [(0, 18, 21, 19), (0, 18, 25, 13), (0, 18, 29, 29)] zy_convolution_L := ⟨zxY_convolution_L, mm_tb_1 0 (by decide +kernel) rfl, ⟨by decide, by decide⟩, by decide +kernel, mm_tb_1 1353 (by decide +kernel) rfl, mm_tb_1 1354 (by decide +kernel) rfl⟩
theorem zk_TFLaw_171 : mm_Vl "TensorForgeLaw" 171 11 6 zy_convolution_14_67 := ⟨zyw_convolution_14_67, (R_Md, F_Md, 69), rfl, mm_tb_1 2078 (by decide +kernel) rfl, mm_tb_1 2079 (by decide +kernel) rfl, mm_tb_1 2080 (by decide +kernel) rfl⟩
theorem zhl_pool_L : mm_Hl "TensorForgeLaw" 172 5 [(0, 12, 15, 19), (0, 12, 19, 13), (0, 12, 23, 29)] zy_pool_L := ⟨zxY_pool_L, mm_tb_1 0 (by decide +kernel) rfl, ⟨by decide, by decide⟩, by decide +kernel, mm_tb_1 1375 (by decide +kernel) rfl, mm_tb_1 1376 (by decide +kernel) rfl⟩
theorem zk_TFLaw_175 : mm_Vl "TensorForgeLaw" 175 11 3 zy_pool_14_69 := ⟨zyw_pool_14_69, (R_Md, F_Md, 69), rfl, mm_tb_1 2101 (by decide +kernel) rfl, mm_tb_1 2102 (by decide +kernel) rfl, mm_tb_1 2103 (by decide +kernel) rfl⟩
theorem zhl_addition_L : mm_Hl "TensorForgeLaw" 176 5 [(0, 12, 15, 19), (0, 12, 19, 13), (0, 12, 23, 29)] zy_addition_L := ⟨zxY_addition_L, mm_tb_1 0 (by decide +kernel) rfl, ⟨by decide, by decide⟩, by decide +kernel, mm_tb_1 1382 (by decide +kernel) rfl, mm_tb_1 1383 (by decide +kernel) rfl⟩
theorem zk_TFLaw_178 : mm_Vl "TensorForgeLaw" 178 11 3 zy_addition_14_70 := ⟨zyw_addition_14_70, (R_Md, F_Md, 69), rfl, mm_tb_1 2105 (by decide +kernel) rfl, mm_tb_1 2106 (by decide +kernel) rfl, mm_tb_1 2107 (by decide +kernel) rfl⟩
theorem zhl_form_L : mm_Hl "TensorForgeLaw" 179 4 [(0, 10, 13, 19), (0, 10, 17, 13)] zy_form_L := ⟨zxY_form_L, mm_tb_1 0 (by decide +kernel) rfl, ⟨by decide, by decide⟩, by decide +kernel, mm_tb_1 1389 (by decide +kernel) rfl, mm_tb_1 1390 (by decide +kernel) rfl⟩
theorem zk_TFLaw_181 : mm_Vl "TensorForgeLaw" 181 11 2 zy_form_14_71 := ⟨zyw_form_14_71, (R_Md, F_Md, 69), rfl, mm_tb_1 2109 (by decide +kernel) rfl, mm_tb_1 2110 (by decide +kernel) rfl, mm_tb_1 2111 (by decide +kernel) rfl⟩
theorem zhl_compile_L : mm_Hl "TensorForgeLaw" 182 2 [(0, 8, 11, 29)] zy_compile_L := ⟨zxY_compile_L, mm_tb_1 0 (by decide +kernel) rfl, ⟨by decide, by decide⟩, by decide +kernel, mm_tb_1 1398 (by decide +kernel) rfl, mm_tb_1 1399 (by decide +kernel) rfl⟩
theorem zk_TFLaw_185 : mm_Vl "TensorForgeLaw" 185 11 0 zy_compile_14_89 := ⟨zyw_compile_14_89, (R_Md, F_Md, 69), rfl, mm_tb_1 2133 (by decide +kernel) rfl, mm_tb_1 2134 (by decide +kernel) rfl, mm_tb_1 2135 (by decide +kernel) rfl⟩
theorem zk_TFLaw_186 : mm_Vl "TensorForgeLaw" 186 0 0 zy_reckon_1_24 := ⟨zyw_reckon_1_24, (R_TF, F_TF, 12), rfl, mm_tb_1 850 (by decide +kernel) rfl, mm_tb_1 851 (by decide +kernel) rfl, mm_tb_1 852 (by decide +kernel) rfl⟩
theorem zk_TFLaw_189 : mm_Vl "TensorForgeLaw" 189 11 0 zy_reckon_14_76 := ⟨zyw_reckon_14_76, (R_Md, F_Md, 69), rfl, mm_tb_1 2113 (by decide +kernel) rfl, mm_tb_1 2114 (by decide +kernel) rfl, mm_tb_1 2115 (by decide +kernel) rfl⟩
theorem zk_TFLaw_190 : mm_Vl "TensorForgeLaw" 190 0 0 zy_network_1_25 := ⟨zyw_network_1_25, (R_TF, F_TF, 12), rfl, mm_tb_1 908 (by decide +kernel) rfl, mm_tb_1 909 (by decide +kernel) rfl, mm_tb_1 910 (by decide +kernel) rfl⟩
theorem zk_TFLaw_193 : mm_Vl "TensorForgeLaw" 193 11 0 zy_network_14_105 := ⟨zyw_network_14_105, (R_Md, F_Md, 69), rfl, mm_tb_1 2184 (by decide +kernel) rfl, mm_tb_1 2185 (by decide +kernel) rfl, mm_tb_1 2186 (by decide +kernel) rfl⟩
theorem zhl_networkSign_L : mm_Hl "TensorForgeLaw" 194 4 [(0, 10, 13, 19)] zy_networkSign_L := ⟨zxY_networkSign_L, mm_tb_1 0 (by decide +kernel) rfl, ⟨by decide, by decide⟩, by decide +kernel, mm_tb_1 1481 (by decide +kernel) rfl, mm_tb_1 1482 (by decide +kernel) rfl⟩
theorem zk_TFLaw_196 : mm_Vl "TensorForgeLaw" 196 11 2 zy_networkSign_14_109 := ⟨zyw_networkSign_14_109, (R_Md, F_Md, 69), rfl, mm_tb_1 2257 (by decide +kernel) rfl, mm_tb_1 2258 (by decide +kernel) rfl, mm_tb_1 2259 (by decide +kernel) rfl⟩
theorem zhl_place_L : mm_Hl "TensorForgeLaw" 197 2 [(0, 8, 11, 29)] zy_place_L := ⟨zxY_place_L, mm_tb_1 0 (by decide +kernel) rfl, ⟨by decide, by decide⟩, by decide +kernel, mm_tb_1 1505 (by decide +kernel) rfl, mm_tb_1 1506 (by decide +kernel) rfl⟩
theorem zk_TFLaw_199 : mm_Vl "TensorForgeLaw" 199 11 0 zy_place_14_113 := ⟨zyw_place_14_113, (R_Md, F_Md, 69), rfl, mm_tb_1 2273 (by decide +kernel) rfl, mm_tb_1 2274 (by decide +kernel) rfl, mm_tb_1 2275 (by decide +kernel) rfl⟩
theorem zhl_under_L : mm_Hl "TensorForgeLaw" 200 4 [(0, 10, 13, 58), (0, 10, 17, 13)] zy_under_L := ⟨zxY_under_L, mm_tb_1 0 (by decide +kernel) rfl, ⟨by decide, by decide⟩, by decide +kernel, mm_tb_1 1534 (by decide +kernel) rfl, mm_tb_1 1535 (by decide +kernel) rfl⟩
theorem zk_TFLaw_202 : mm_Vl "TensorForgeLaw" 202 11 2 zy_under_14_117 := ⟨zyw_under_14_117, (R_Md, F_Md, 69), rfl, mm_tb_1 2293 (by decide +kernel) rfl, mm_tb_1 2294 (by decide +kernel) rfl, mm_tb_1 2295 (by decide +kernel) rfl⟩
theorem zhl_waits_L : mm_Hl "TensorForgeLaw" 203 4 [(0, 10, 13, 58), (0, 10, 17, 13)] zy_waits_L := ⟨zxY_waits_L, mm_tb_1 0 (by decide +kernel) rfl, ⟨by decide, by decide⟩, by decide +kernel, mm_tb_1 1558 (by decide +kernel) rfl, mm_tb_1 1559 (by decide +kernel) rfl⟩
theorem zk_TFLaw_205 : mm_Vl "TensorForgeLaw" 205 11 2 zy_waits_14_119 := ⟨zyw_waits_14_119, (R_Md, F_Md, 69), rfl, mm_tb_1 2305 (by decide +kernel) rfl, mm_tb_1 2306 (by decide +kernel) rfl, mm_tb_1 2307 (by decide +kernel) rfl⟩
theorem zg_L_law_23 : (decode zy_law_L.2.1 23 = .ok ((.iload 4), 2)) ∧ (decode zy_law_L.2.1 25 = .ok ((.aload_n 0), 1)) ∧ (decode zy_law_L.2.1 26 = .ok ((.arraylength), 1)) ∧ (decode zy_law_L.2.1 27 = .ok ((.bipush 7), 2)) ∧ (decode zy_law_L.2.1 29 = .ok ((.isub), 1)) ∧ (decode zy_law_L.2.1 30 = .ok ((Instr.if_icmp .gt) 1167, 3)) ∧ (decode zy_law_L.2.1 1197 = .ok ((.iconst 1), 1)) ∧ (decode zy_law_L.2.1 1198 = .ok ((.ireturn), 1)) ∧ (decode zy_law_L.2.1 33 = .ok ((.aload_n 0), 1)) ∧ (decode zy_law_L.2.1 34 = .ok ((.iload 4), 2)) := by decide +kernel
theorem zd_L_law_23 : zz_D zy_law_L 23 (.iload 4) 2 25 := ⟨zg_L_law_23.1, rfl⟩
theorem zd_L_law_25 : zz_D zy_law_L 25 (.aload_n 0) 1 26 := ⟨zg_L_law_23.2.1, rfl⟩
theorem zd_L_law_26 : zz_D zy_law_L 26 (.arraylength) 1 27 := ⟨zg_L_law_23.2.2.1, rfl⟩
theorem zd_L_law_27 : zz_D zy_law_L 27 (.bipush 7) 2 29 := ⟨zg_L_law_23.2.2.2.1, rfl⟩
theorem zd_L_law_29 : zz_D zy_law_L 29 (.isub) 1 30 := ⟨zg_L_law_23.2.2.2.2.1, rfl⟩
theorem zd_L_law_30 : zz_B zy_law_L 30 (Instr.if_icmp .gt) 1197 33 := ⟨1167, zg_L_law_23.2.2.2.2.2.1, rfl, rfl⟩
theorem zd_L_law_1197 : zz_D zy_law_L 1197 (.iconst 1) 1 1198 := ⟨zg_L_law_23.2.2.2.2.2.2.1, rfl⟩
theorem zd_L_law_1198 : zz_D zy_law_L 1198 (.ireturn) 1 1199 := ⟨zg_L_law_23.2.2.2.2.2.2.2.1, rfl⟩
theorem zd_L_law_33 : zz_D zy_law_L 33 (.aload_n 0) 1 34 := ⟨zg_L_law_23.2.2.2.2.2.2.2.2.1, rfl⟩
theorem zd_L_law_34 : zz_D zy_law_L 34 (.iload 4) 2 36 := ⟨zg_L_law_23.2.2.2.2.2.2.2.2.2, rfl⟩
theorem zg_L_law_36 : (decode zy_law_L.2.1 36 = .ok ((.iaload), 1)) ∧ (decode zy_law_L.2.1 37 = .ok ((.bipush 31), 2)) ∧ (decode zy_law_L.2.1 39 = .ok ((.iand), 1)) ∧ (decode zy_law_L.2.1 168 = .ok ((.aload_n 1), 1)) ∧ (decode zy_law_L.2.1 169 = .ok ((.aload_n 0), 1)) ∧ (decode zy_law_L.2.1 170 = .ok ((.iload 4), 2)) ∧ (decode zy_law_L.2.1 172 = .ok ((.iconst 1), 1)) ∧ (decode zy_law_L.2.1 173 = .ok ((.iadd), 1)) ∧ (decode zy_law_L.2.1 174 = .ok ((.iaload), 1)) ∧ (decode zy_law_L.2.1 175 = .ok ((.invokestatic 98), 3)) := by decide +kernel
theorem zd_L_law_36 : zz_D zy_law_L 36 (.iaload) 1 37 := ⟨zg_L_law_36.1, rfl⟩
theorem zd_L_law_37 : zz_D zy_law_L 37 (.bipush 31) 2 39 := ⟨zg_L_law_36.2.1, rfl⟩
theorem zd_L_law_39 : zz_D zy_law_L 39 (.iand) 1 40 := ⟨zg_L_law_36.2.2.1, rfl⟩
theorem zd_L_law_168 : zz_D zy_law_L 168 (.aload_n 1) 1 169 := ⟨zg_L_law_36.2.2.2.1, rfl⟩
theorem zd_L_law_169 : zz_D zy_law_L 169 (.aload_n 0) 1 170 := ⟨zg_L_law_36.2.2.2.2.1, rfl⟩
theorem zd_L_law_170 : zz_D zy_law_L 170 (.iload 4) 2 172 := ⟨zg_L_law_36.2.2.2.2.2.1, rfl⟩
theorem zd_L_law_172 : zz_D zy_law_L 172 (.iconst 1) 1 173 := ⟨zg_L_law_36.2.2.2.2.2.2.1, rfl⟩
theorem zd_L_law_173 : zz_D zy_law_L 173 (.iadd) 1 174 := ⟨zg_L_law_36.2.2.2.2.2.2.2.1, rfl⟩
theorem zd_L_law_174 : zz_D zy_law_L 174 (.iaload) 1 175 := ⟨zg_L_law_36.2.2.2.2.2.2.2.2.1, rfl⟩
theorem zd_L_law_175 : zz_D zy_law_L 175 (.invokestatic 98) 3 178 := ⟨zg_L_law_36.2.2.2.2.2.2.2.2.2, rfl⟩
theorem zg_L_law_178 : (decode zy_law_L.2.1 178 = .ok ((.istore 5), 2)) ∧ (decode zy_law_L.2.1 180 = .ok ((.aload_n 2), 1)) ∧ (decode zy_law_L.2.1 181 = .ok ((.aload_n 0), 1)) ∧ (decode zy_law_L.2.1 182 = .ok ((.iload 4), 2)) ∧ (decode zy_law_L.2.1 184 = .ok ((.iconst 1), 1)) ∧ (decode zy_law_L.2.1 185 = .ok ((.iadd), 1)) ∧ (decode zy_law_L.2.1 186 = .ok ((.iaload), 1)) ∧ (decode zy_law_L.2.1 187 = .ok ((.invokevirtual 103), 3)) ∧ (decode zy_law_L.2.1 190 = .ok (Instr.goto 1001, 3)) ∧ (decode zy_law_L.2.1 1191 = .ok ((.iinc 4 7), 3)) := by decide +kernel
theorem zd_L_law_178 : zz_D zy_law_L 178 (.istore 5) 2 180 := ⟨zg_L_law_178.1, rfl⟩
theorem zd_L_law_180 : zz_D zy_law_L 180 (.aload_n 2) 1 181 := ⟨zg_L_law_178.2.1, rfl⟩
theorem zd_L_law_181 : zz_D zy_law_L 181 (.aload_n 0) 1 182 := ⟨zg_L_law_178.2.2.1, rfl⟩
theorem zd_L_law_182 : zz_D zy_law_L 182 (.iload 4) 2 184 := ⟨zg_L_law_178.2.2.2.1, rfl⟩
theorem zd_L_law_184 : zz_D zy_law_L 184 (.iconst 1) 1 185 := ⟨zg_L_law_178.2.2.2.2.1, rfl⟩
theorem zd_L_law_185 : zz_D zy_law_L 185 (.iadd) 1 186 := ⟨zg_L_law_178.2.2.2.2.2.1, rfl⟩
theorem zd_L_law_186 : zz_D zy_law_L 186 (.iaload) 1 187 := ⟨zg_L_law_178.2.2.2.2.2.2.1, rfl⟩
theorem zd_L_law_187 : zz_D zy_law_L 187 (.invokevirtual 103) 3 190 := ⟨zg_L_law_178.2.2.2.2.2.2.2.1, rfl⟩
theorem zd_L_law_190 : zz_B zy_law_L 190 Instr.goto 1191 193 := ⟨1001, zg_L_law_178.2.2.2.2.2.2.2.2.1, rfl, rfl⟩
theorem zd_L_law_1191 : zz_D zy_law_L 1191 (.iinc 4 7) 3 1194 := ⟨zg_L_law_178.2.2.2.2.2.2.2.2.2, rfl⟩
theorem zg_L_law_1194 : (decode zy_law_L.2.1 1194 = .ok (Instr.goto (-1171), 3)) ∧ (decode zy_law_L.2.1 193 = .ok ((.aload_n 1), 1)) ∧ (decode zy_law_L.2.1 194 = .ok ((.aload_n 0), 1)) ∧ (decode zy_law_L.2.1 195 = .ok ((.iload 4), 2)) ∧ (decode zy_law_L.2.1 197 = .ok ((.iconst 1), 1)) ∧ (decode zy_law_L.2.1 198 = .ok ((.iadd), 1)) ∧ (decode zy_law_L.2.1 199 = .ok ((.iaload), 1)) ∧ (decode zy_law_L.2.1 200 = .ok ((.aload_n 0), 1)) ∧ (decode zy_law_L.2.1 201 = .ok ((.iload 4), 2)) ∧ (decode zy_law_L.2.1 203 = .ok ((.iconst 2), 1)) := by decide +kernel
theorem zd_L_law_1194 : zz_B zy_law_L 1194 Instr.goto 23 1197 := ⟨(-1171), zg_L_law_1194.1, rfl, rfl⟩
theorem zd_L_law_193 : zz_D zy_law_L 193 (.aload_n 1) 1 194 := ⟨zg_L_law_1194.2.1, rfl⟩
theorem zd_L_law_194 : zz_D zy_law_L 194 (.aload_n 0) 1 195 := ⟨zg_L_law_1194.2.2.1, rfl⟩
theorem zd_L_law_195 : zz_D zy_law_L 195 (.iload 4) 2 197 := ⟨zg_L_law_1194.2.2.2.1, rfl⟩
theorem zd_L_law_197 : zz_D zy_law_L 197 (.iconst 1) 1 198 := ⟨zg_L_law_1194.2.2.2.2.1, rfl⟩
theorem zd_L_law_198 : zz_D zy_law_L 198 (.iadd) 1 199 := ⟨zg_L_law_1194.2.2.2.2.2.1, rfl⟩
theorem zd_L_law_199 : zz_D zy_law_L 199 (.iaload) 1 200 := ⟨zg_L_law_1194.2.2.2.2.2.2.1, rfl⟩
theorem zd_L_law_200 : zz_D zy_law_L 200 (.aload_n 0) 1 201 := ⟨zg_L_law_1194.2.2.2.2.2.2.2.1, rfl⟩
theorem zd_L_law_201 : zz_D zy_law_L 201 (.iload 4) 2 203 := ⟨zg_L_law_1194.2.2.2.2.2.2.2.2.1, rfl⟩
theorem zd_L_law_203 : zz_D zy_law_L 203 (.iconst 2) 1 204 := ⟨zg_L_law_1194.2.2.2.2.2.2.2.2.2, rfl⟩
theorem zg_L_law_204 : (decode zy_law_L.2.1 204 = .ok ((.iadd), 1)) ∧ (decode zy_law_L.2.1 205 = .ok ((.iaload), 1)) ∧ (decode zy_law_L.2.1 206 = .ok ((.invokestatic 104), 3)) ∧ (decode zy_law_L.2.1 209 = .ok ((.istore 5), 2)) ∧ (decode zy_law_L.2.1 211 = .ok ((.aload_n 2), 1)) ∧ (decode zy_law_L.2.1 212 = .ok ((.aload_n 0), 1)) ∧ (decode zy_law_L.2.1 213 = .ok ((.iload 4), 2)) ∧ (decode zy_law_L.2.1 215 = .ok ((.iconst 1), 1)) ∧ (decode zy_law_L.2.1 216 = .ok ((.iadd), 1)) ∧ (decode zy_law_L.2.1 217 = .ok ((.iaload), 1)) := by decide +kernel
theorem zd_L_law_204 : zz_D zy_law_L 204 (.iadd) 1 205 := ⟨zg_L_law_204.1, rfl⟩
theorem zd_L_law_205 : zz_D zy_law_L 205 (.iaload) 1 206 := ⟨zg_L_law_204.2.1, rfl⟩
theorem zd_L_law_206 : zz_D zy_law_L 206 (.invokestatic 104) 3 209 := ⟨zg_L_law_204.2.2.1, rfl⟩
theorem zd_L_law_209 : zz_D zy_law_L 209 (.istore 5) 2 211 := ⟨zg_L_law_204.2.2.2.1, rfl⟩
theorem zd_L_law_211 : zz_D zy_law_L 211 (.aload_n 2) 1 212 := ⟨zg_L_law_204.2.2.2.2.1, rfl⟩
theorem zd_L_law_212 : zz_D zy_law_L 212 (.aload_n 0) 1 213 := ⟨zg_L_law_204.2.2.2.2.2.1, rfl⟩
theorem zd_L_law_213 : zz_D zy_law_L 213 (.iload 4) 2 215 := ⟨zg_L_law_204.2.2.2.2.2.2.1, rfl⟩
theorem zd_L_law_215 : zz_D zy_law_L 215 (.iconst 1) 1 216 := ⟨zg_L_law_204.2.2.2.2.2.2.2.1, rfl⟩
theorem zd_L_law_216 : zz_D zy_law_L 216 (.iadd) 1 217 := ⟨zg_L_law_204.2.2.2.2.2.2.2.2.1, rfl⟩
theorem zd_L_law_217 : zz_D zy_law_L 217 (.iaload) 1 218 := ⟨zg_L_law_204.2.2.2.2.2.2.2.2.2, rfl⟩
theorem zg_L_law_218 : (decode zy_law_L.2.1 218 = .ok ((.aload_n 0), 1)) ∧ (decode zy_law_L.2.1 219 = .ok ((.iload 4), 2)) ∧ (decode zy_law_L.2.1 221 = .ok ((.iconst 2), 1)) ∧ (decode zy_law_L.2.1 222 = .ok ((.iadd), 1)) ∧ (decode zy_law_L.2.1 223 = .ok ((.iaload), 1)) ∧ (decode zy_law_L.2.1 224 = .ok ((.invokevirtual 107), 3)) ∧ (decode zy_law_L.2.1 227 = .ok ((.aload_n 2), 1)) ∧ (decode zy_law_L.2.1 228 = .ok ((.invokevirtual 108), 3)) ∧ (decode zy_law_L.2.1 231 = .ok ((.iload 5), 2)) ∧ (decode zy_law_L.2.1 233 = .ok ((Instr.if_icmp .eq) 5, 3)) := by decide +kernel
theorem zd_L_law_218 : zz_D zy_law_L 218 (.aload_n 0) 1 219 := ⟨zg_L_law_218.1, rfl⟩
theorem zd_L_law_219 : zz_D zy_law_L 219 (.iload 4) 2 221 := ⟨zg_L_law_218.2.1, rfl⟩
theorem zd_L_law_221 : zz_D zy_law_L 221 (.iconst 2) 1 222 := ⟨zg_L_law_218.2.2.1, rfl⟩
theorem zd_L_law_222 : zz_D zy_law_L 222 (.iadd) 1 223 := ⟨zg_L_law_218.2.2.2.1, rfl⟩
theorem zd_L_law_223 : zz_D zy_law_L 223 (.iaload) 1 224 := ⟨zg_L_law_218.2.2.2.2.1, rfl⟩
theorem zd_L_law_224 : zz_D zy_law_L 224 (.invokevirtual 107) 3 227 := ⟨zg_L_law_218.2.2.2.2.2.1, rfl⟩
theorem zd_L_law_227 : zz_D zy_law_L 227 (.aload_n 2) 1 228 := ⟨zg_L_law_218.2.2.2.2.2.2.1, rfl⟩
theorem zd_L_law_228 : zz_D zy_law_L 228 (.invokevirtual 108) 3 231 := ⟨zg_L_law_218.2.2.2.2.2.2.2.1, rfl⟩
theorem zd_L_law_231 : zz_D zy_law_L 231 (.iload 5) 2 233 := ⟨zg_L_law_218.2.2.2.2.2.2.2.2.1, rfl⟩
theorem zd_L_law_233 : zz_B zy_law_L 233 (Instr.if_icmp .eq) 238 236 := ⟨5, zg_L_law_218.2.2.2.2.2.2.2.2.2, rfl, rfl⟩
theorem zg_L_law_238 : (decode zy_law_L.2.1 238 = .ok (Instr.goto 953, 3)) ∧ (decode zy_law_L.2.1 241 = .ok ((.aload_n 1), 1)) ∧ (decode zy_law_L.2.1 242 = .ok ((.aload_n 0), 1)) ∧ (decode zy_law_L.2.1 243 = .ok ((.iload 4), 2)) ∧ (decode zy_law_L.2.1 245 = .ok ((.iconst 1), 1)) ∧ (decode zy_law_L.2.1 246 = .ok ((.iadd), 1)) ∧ (decode zy_law_L.2.1 247 = .ok ((.iaload), 1)) ∧ (decode zy_law_L.2.1 248 = .ok ((.aload_n 0), 1)) ∧ (decode zy_law_L.2.1 249 = .ok ((.iload 4), 2)) ∧ (decode zy_law_L.2.1 251 = .ok ((.iconst 2), 1)) := by decide +kernel
theorem zd_L_law_238 : zz_B zy_law_L 238 Instr.goto 1191 241 := ⟨953, zg_L_law_238.1, rfl, rfl⟩
theorem zd_L_law_241 : zz_D zy_law_L 241 (.aload_n 1) 1 242 := ⟨zg_L_law_238.2.1, rfl⟩
theorem zd_L_law_242 : zz_D zy_law_L 242 (.aload_n 0) 1 243 := ⟨zg_L_law_238.2.2.1, rfl⟩
theorem zd_L_law_243 : zz_D zy_law_L 243 (.iload 4) 2 245 := ⟨zg_L_law_238.2.2.2.1, rfl⟩
theorem zd_L_law_245 : zz_D zy_law_L 245 (.iconst 1) 1 246 := ⟨zg_L_law_238.2.2.2.2.1, rfl⟩
theorem zd_L_law_246 : zz_D zy_law_L 246 (.iadd) 1 247 := ⟨zg_L_law_238.2.2.2.2.2.1, rfl⟩
theorem zd_L_law_247 : zz_D zy_law_L 247 (.iaload) 1 248 := ⟨zg_L_law_238.2.2.2.2.2.2.1, rfl⟩
theorem zd_L_law_248 : zz_D zy_law_L 248 (.aload_n 0) 1 249 := ⟨zg_L_law_238.2.2.2.2.2.2.2.1, rfl⟩
theorem zd_L_law_249 : zz_D zy_law_L 249 (.iload 4) 2 251 := ⟨zg_L_law_238.2.2.2.2.2.2.2.2.1, rfl⟩
theorem zd_L_law_251 : zz_D zy_law_L 251 (.iconst 2) 1 252 := ⟨zg_L_law_238.2.2.2.2.2.2.2.2.2, rfl⟩
theorem zg_L_law_252 : (decode zy_law_L.2.1 252 = .ok ((.iadd), 1)) ∧ (decode zy_law_L.2.1 253 = .ok ((.iaload), 1)) ∧ (decode zy_law_L.2.1 254 = .ok ((.aload_n 3), 1)) ∧ (decode zy_law_L.2.1 255 = .ok ((.invokestatic 111), 3)) ∧ (decode zy_law_L.2.1 258 = .ok ((.istore 5), 2)) ∧ (decode zy_law_L.2.1 260 = .ok ((.aload_n 2), 1)) ∧ (decode zy_law_L.2.1 261 = .ok ((.aload_n 0), 1)) ∧ (decode zy_law_L.2.1 262 = .ok ((.iload 4), 2)) ∧ (decode zy_law_L.2.1 264 = .ok ((.iconst 1), 1)) ∧ (decode zy_law_L.2.1 265 = .ok ((.iadd), 1)) := by decide +kernel
theorem zd_L_law_252 : zz_D zy_law_L 252 (.iadd) 1 253 := ⟨zg_L_law_252.1, rfl⟩
theorem zd_L_law_253 : zz_D zy_law_L 253 (.iaload) 1 254 := ⟨zg_L_law_252.2.1, rfl⟩
theorem zd_L_law_254 : zz_D zy_law_L 254 (.aload_n 3) 1 255 := ⟨zg_L_law_252.2.2.1, rfl⟩
theorem zd_L_law_255 : zz_D zy_law_L 255 (.invokestatic 111) 3 258 := ⟨zg_L_law_252.2.2.2.1, rfl⟩
theorem zd_L_law_258 : zz_D zy_law_L 258 (.istore 5) 2 260 := ⟨zg_L_law_252.2.2.2.2.1, rfl⟩
theorem zd_L_law_260 : zz_D zy_law_L 260 (.aload_n 2) 1 261 := ⟨zg_L_law_252.2.2.2.2.2.1, rfl⟩
theorem zd_L_law_261 : zz_D zy_law_L 261 (.aload_n 0) 1 262 := ⟨zg_L_law_252.2.2.2.2.2.2.1, rfl⟩
theorem zd_L_law_262 : zz_D zy_law_L 262 (.iload 4) 2 264 := ⟨zg_L_law_252.2.2.2.2.2.2.2.1, rfl⟩
theorem zd_L_law_264 : zz_D zy_law_L 264 (.iconst 1) 1 265 := ⟨zg_L_law_252.2.2.2.2.2.2.2.2.1, rfl⟩
theorem zd_L_law_265 : zz_D zy_law_L 265 (.iadd) 1 266 := ⟨zg_L_law_252.2.2.2.2.2.2.2.2.2, rfl⟩
theorem zg_L_law_266 : (decode zy_law_L.2.1 266 = .ok ((.iaload), 1)) ∧ (decode zy_law_L.2.1 267 = .ok ((.aload_n 0), 1)) ∧ (decode zy_law_L.2.1 268 = .ok ((.iload 4), 2)) ∧ (decode zy_law_L.2.1 270 = .ok ((.iconst 2), 1)) ∧ (decode zy_law_L.2.1 271 = .ok ((.iadd), 1)) ∧ (decode zy_law_L.2.1 272 = .ok ((.iaload), 1)) ∧ (decode zy_law_L.2.1 273 = .ok ((.invokevirtual 114), 3)) ∧ (decode zy_law_L.2.1 276 = .ok ((.istore 6), 2)) ∧ (decode zy_law_L.2.1 278 = .ok (Instr.goto 913, 3)) ∧ (decode zy_law_L.2.1 281 = .ok ((.aload_n 1), 1)) := by decide +kernel
theorem zd_L_law_266 : zz_D zy_law_L 266 (.iaload) 1 267 := ⟨zg_L_law_266.1, rfl⟩
theorem zd_L_law_267 : zz_D zy_law_L 267 (.aload_n 0) 1 268 := ⟨zg_L_law_266.2.1, rfl⟩
theorem zd_L_law_268 : zz_D zy_law_L 268 (.iload 4) 2 270 := ⟨zg_L_law_266.2.2.1, rfl⟩
theorem zd_L_law_270 : zz_D zy_law_L 270 (.iconst 2) 1 271 := ⟨zg_L_law_266.2.2.2.1, rfl⟩
theorem zd_L_law_271 : zz_D zy_law_L 271 (.iadd) 1 272 := ⟨zg_L_law_266.2.2.2.2.1, rfl⟩
theorem zd_L_law_272 : zz_D zy_law_L 272 (.iaload) 1 273 := ⟨zg_L_law_266.2.2.2.2.2.1, rfl⟩
theorem zd_L_law_273 : zz_D zy_law_L 273 (.invokevirtual 114) 3 276 := ⟨zg_L_law_266.2.2.2.2.2.2.1, rfl⟩
theorem zd_L_law_276 : zz_D zy_law_L 276 (.istore 6) 2 278 := ⟨zg_L_law_266.2.2.2.2.2.2.2.1, rfl⟩
theorem zd_L_law_278 : zz_B zy_law_L 278 Instr.goto 1191 281 := ⟨913, zg_L_law_266.2.2.2.2.2.2.2.2.1, rfl, rfl⟩
theorem zd_L_law_281 : zz_D zy_law_L 281 (.aload_n 1) 1 282 := ⟨zg_L_law_266.2.2.2.2.2.2.2.2.2, rfl⟩
theorem zg_L_law_282 : (decode zy_law_L.2.1 282 = .ok ((.aload_n 0), 1)) ∧ (decode zy_law_L.2.1 283 = .ok ((.iload 4), 2)) ∧ (decode zy_law_L.2.1 285 = .ok ((.iconst 1), 1)) ∧ (decode zy_law_L.2.1 286 = .ok ((.iadd), 1)) ∧ (decode zy_law_L.2.1 287 = .ok ((.iaload), 1)) ∧ (decode zy_law_L.2.1 288 = .ok ((.aload_n 0), 1)) ∧ (decode zy_law_L.2.1 289 = .ok ((.iload 4), 2)) ∧ (decode zy_law_L.2.1 291 = .ok ((.iconst 2), 1)) ∧ (decode zy_law_L.2.1 292 = .ok ((.iadd), 1)) ∧ (decode zy_law_L.2.1 293 = .ok ((.iaload), 1)) := by decide +kernel
theorem zd_L_law_282 : zz_D zy_law_L 282 (.aload_n 0) 1 283 := ⟨zg_L_law_282.1, rfl⟩
theorem zd_L_law_283 : zz_D zy_law_L 283 (.iload 4) 2 285 := ⟨zg_L_law_282.2.1, rfl⟩
theorem zd_L_law_285 : zz_D zy_law_L 285 (.iconst 1) 1 286 := ⟨zg_L_law_282.2.2.1, rfl⟩
theorem zd_L_law_286 : zz_D zy_law_L 286 (.iadd) 1 287 := ⟨zg_L_law_282.2.2.2.1, rfl⟩
theorem zd_L_law_287 : zz_D zy_law_L 287 (.iaload) 1 288 := ⟨zg_L_law_282.2.2.2.2.1, rfl⟩
theorem zd_L_law_288 : zz_D zy_law_L 288 (.aload_n 0) 1 289 := ⟨zg_L_law_282.2.2.2.2.2.1, rfl⟩
theorem zd_L_law_289 : zz_D zy_law_L 289 (.iload 4) 2 291 := ⟨zg_L_law_282.2.2.2.2.2.2.1, rfl⟩
theorem zd_L_law_291 : zz_D zy_law_L 291 (.iconst 2) 1 292 := ⟨zg_L_law_282.2.2.2.2.2.2.2.1, rfl⟩
theorem zd_L_law_292 : zz_D zy_law_L 292 (.iadd) 1 293 := ⟨zg_L_law_282.2.2.2.2.2.2.2.2.1, rfl⟩
theorem zd_L_law_293 : zz_D zy_law_L 293 (.iaload) 1 294 := ⟨zg_L_law_282.2.2.2.2.2.2.2.2.2, rfl⟩
theorem zg_L_law_294 : (decode zy_law_L.2.1 294 = .ok ((.i2l), 1)) ∧ (decode zy_law_L.2.1 295 = .ok ((.bipush 32), 2)) ∧ (decode zy_law_L.2.1 297 = .ok ((.lshl), 1)) ∧ (decode zy_law_L.2.1 298 = .ok ((.aload_n 0), 1)) ∧ (decode zy_law_L.2.1 299 = .ok ((.iload 4), 2)) ∧ (decode zy_law_L.2.1 301 = .ok ((.iconst 3), 1)) ∧ (decode zy_law_L.2.1 302 = .ok ((.iadd), 1)) ∧ (decode zy_law_L.2.1 303 = .ok ((.iaload), 1)) ∧ (decode zy_law_L.2.1 304 = .ok ((.i2l), 1)) ∧ (decode zy_law_L.2.1 305 = .ok ((.ldc2_w 115), 3)) := by decide +kernel
theorem zd_L_law_294 : zz_D zy_law_L 294 (.i2l) 1 295 := ⟨zg_L_law_294.1, rfl⟩
theorem zd_L_law_295 : zz_D zy_law_L 295 (.bipush 32) 2 297 := ⟨zg_L_law_294.2.1, rfl⟩
theorem zd_L_law_297 : zz_D zy_law_L 297 (.lshl) 1 298 := ⟨zg_L_law_294.2.2.1, rfl⟩
theorem zd_L_law_298 : zz_D zy_law_L 298 (.aload_n 0) 1 299 := ⟨zg_L_law_294.2.2.2.1, rfl⟩
theorem zd_L_law_299 : zz_D zy_law_L 299 (.iload 4) 2 301 := ⟨zg_L_law_294.2.2.2.2.1, rfl⟩
theorem zd_L_law_301 : zz_D zy_law_L 301 (.iconst 3) 1 302 := ⟨zg_L_law_294.2.2.2.2.2.1, rfl⟩
theorem zd_L_law_302 : zz_D zy_law_L 302 (.iadd) 1 303 := ⟨zg_L_law_294.2.2.2.2.2.2.1, rfl⟩
theorem zd_L_law_303 : zz_D zy_law_L 303 (.iaload) 1 304 := ⟨zg_L_law_294.2.2.2.2.2.2.2.1, rfl⟩
theorem zd_L_law_304 : zz_D zy_law_L 304 (.i2l) 1 305 := ⟨zg_L_law_294.2.2.2.2.2.2.2.2.1, rfl⟩
theorem zd_L_law_305 : zz_D zy_law_L 305 (.ldc2_w 115) 3 308 := ⟨zg_L_law_294.2.2.2.2.2.2.2.2.2, rfl⟩
theorem zg_L_law_308 : (decode zy_law_L.2.1 308 = .ok ((.land), 1)) ∧ (decode zy_law_L.2.1 309 = .ok ((.lor), 1)) ∧ (decode zy_law_L.2.1 310 = .ok ((.invokestatic 117), 3)) ∧ (decode zy_law_L.2.1 313 = .ok ((.istore 5), 2)) ∧ (decode zy_law_L.2.1 315 = .ok ((.aload_n 2), 1)) ∧ (decode zy_law_L.2.1 316 = .ok ((.aload_n 0), 1)) ∧ (decode zy_law_L.2.1 317 = .ok ((.iload 4), 2)) ∧ (decode zy_law_L.2.1 319 = .ok ((.iconst 1), 1)) ∧ (decode zy_law_L.2.1 320 = .ok ((.iadd), 1)) ∧ (decode zy_law_L.2.1 321 = .ok ((.iaload), 1)) := by decide +kernel
theorem zd_L_law_308 : zz_D zy_law_L 308 (.land) 1 309 := ⟨zg_L_law_308.1, rfl⟩
theorem zd_L_law_309 : zz_D zy_law_L 309 (.lor) 1 310 := ⟨zg_L_law_308.2.1, rfl⟩
theorem zd_L_law_310 : zz_D zy_law_L 310 (.invokestatic 117) 3 313 := ⟨zg_L_law_308.2.2.1, rfl⟩
theorem zd_L_law_313 : zz_D zy_law_L 313 (.istore 5) 2 315 := ⟨zg_L_law_308.2.2.2.1, rfl⟩
theorem zd_L_law_315 : zz_D zy_law_L 315 (.aload_n 2) 1 316 := ⟨zg_L_law_308.2.2.2.2.1, rfl⟩
theorem zd_L_law_316 : zz_D zy_law_L 316 (.aload_n 0) 1 317 := ⟨zg_L_law_308.2.2.2.2.2.1, rfl⟩
theorem zd_L_law_317 : zz_D zy_law_L 317 (.iload 4) 2 319 := ⟨zg_L_law_308.2.2.2.2.2.2.1, rfl⟩
theorem zd_L_law_319 : zz_D zy_law_L 319 (.iconst 1) 1 320 := ⟨zg_L_law_308.2.2.2.2.2.2.2.1, rfl⟩
theorem zd_L_law_320 : zz_D zy_law_L 320 (.iadd) 1 321 := ⟨zg_L_law_308.2.2.2.2.2.2.2.2.1, rfl⟩
theorem zd_L_law_321 : zz_D zy_law_L 321 (.iaload) 1 322 := ⟨zg_L_law_308.2.2.2.2.2.2.2.2.2, rfl⟩
theorem zg_L_law_322 : (decode zy_law_L.2.1 322 = .ok ((.aload_n 0), 1)) ∧ (decode zy_law_L.2.1 323 = .ok ((.iload 4), 2)) ∧ (decode zy_law_L.2.1 325 = .ok ((.iconst 2), 1)) ∧ (decode zy_law_L.2.1 326 = .ok ((.iadd), 1)) ∧ (decode zy_law_L.2.1 327 = .ok ((.iaload), 1)) ∧ (decode zy_law_L.2.1 328 = .ok ((.i2l), 1)) ∧ (decode zy_law_L.2.1 329 = .ok ((.bipush 32), 2)) ∧ (decode zy_law_L.2.1 331 = .ok ((.lshl), 1)) ∧ (decode zy_law_L.2.1 332 = .ok ((.aload_n 0), 1)) ∧ (decode zy_law_L.2.1 333 = .ok ((.iload 4), 2)) := by decide +kernel
theorem zd_L_law_322 : zz_D zy_law_L 322 (.aload_n 0) 1 323 := ⟨zg_L_law_322.1, rfl⟩
theorem zd_L_law_323 : zz_D zy_law_L 323 (.iload 4) 2 325 := ⟨zg_L_law_322.2.1, rfl⟩
theorem zd_L_law_325 : zz_D zy_law_L 325 (.iconst 2) 1 326 := ⟨zg_L_law_322.2.2.1, rfl⟩
theorem zd_L_law_326 : zz_D zy_law_L 326 (.iadd) 1 327 := ⟨zg_L_law_322.2.2.2.1, rfl⟩
theorem zd_L_law_327 : zz_D zy_law_L 327 (.iaload) 1 328 := ⟨zg_L_law_322.2.2.2.2.1, rfl⟩
theorem zd_L_law_328 : zz_D zy_law_L 328 (.i2l) 1 329 := ⟨zg_L_law_322.2.2.2.2.2.1, rfl⟩
theorem zd_L_law_329 : zz_D zy_law_L 329 (.bipush 32) 2 331 := ⟨zg_L_law_322.2.2.2.2.2.2.1, rfl⟩
theorem zd_L_law_331 : zz_D zy_law_L 331 (.lshl) 1 332 := ⟨zg_L_law_322.2.2.2.2.2.2.2.1, rfl⟩
theorem zd_L_law_332 : zz_D zy_law_L 332 (.aload_n 0) 1 333 := ⟨zg_L_law_322.2.2.2.2.2.2.2.2.1, rfl⟩
theorem zd_L_law_333 : zz_D zy_law_L 333 (.iload 4) 2 335 := ⟨zg_L_law_322.2.2.2.2.2.2.2.2.2, rfl⟩
theorem zg_L_law_335 : (decode zy_law_L.2.1 335 = .ok ((.iconst 3), 1)) ∧ (decode zy_law_L.2.1 336 = .ok ((.iadd), 1)) ∧ (decode zy_law_L.2.1 337 = .ok ((.iaload), 1)) ∧ (decode zy_law_L.2.1 338 = .ok ((.i2l), 1)) ∧ (decode zy_law_L.2.1 339 = .ok ((.ldc2_w 115), 3)) ∧ (decode zy_law_L.2.1 342 = .ok ((.land), 1)) ∧ (decode zy_law_L.2.1 343 = .ok ((.lor), 1)) ∧ (decode zy_law_L.2.1 344 = .ok ((.invokevirtual 120), 3)) ∧ (decode zy_law_L.2.1 347 = .ok (Instr.goto 844, 3)) ∧ (decode zy_law_L.2.1 350 = .ok ((.aload_n 1), 1)) := by decide +kernel
theorem zd_L_law_335 : zz_D zy_law_L 335 (.iconst 3) 1 336 := ⟨zg_L_law_335.1, rfl⟩
theorem zd_L_law_336 : zz_D zy_law_L 336 (.iadd) 1 337 := ⟨zg_L_law_335.2.1, rfl⟩
theorem zd_L_law_337 : zz_D zy_law_L 337 (.iaload) 1 338 := ⟨zg_L_law_335.2.2.1, rfl⟩
theorem zd_L_law_338 : zz_D zy_law_L 338 (.i2l) 1 339 := ⟨zg_L_law_335.2.2.2.1, rfl⟩
theorem zd_L_law_339 : zz_D zy_law_L 339 (.ldc2_w 115) 3 342 := ⟨zg_L_law_335.2.2.2.2.1, rfl⟩
theorem zd_L_law_342 : zz_D zy_law_L 342 (.land) 1 343 := ⟨zg_L_law_335.2.2.2.2.2.1, rfl⟩
theorem zd_L_law_343 : zz_D zy_law_L 343 (.lor) 1 344 := ⟨zg_L_law_335.2.2.2.2.2.2.1, rfl⟩
theorem zd_L_law_344 : zz_D zy_law_L 344 (.invokevirtual 120) 3 347 := ⟨zg_L_law_335.2.2.2.2.2.2.2.1, rfl⟩
theorem zd_L_law_347 : zz_B zy_law_L 347 Instr.goto 1191 350 := ⟨844, zg_L_law_335.2.2.2.2.2.2.2.2.1, rfl, rfl⟩
theorem zd_L_law_350 : zz_D zy_law_L 350 (.aload_n 1) 1 351 := ⟨zg_L_law_335.2.2.2.2.2.2.2.2.2, rfl⟩
theorem zg_L_law_351 : (decode zy_law_L.2.1 351 = .ok ((.aload_n 0), 1)) ∧ (decode zy_law_L.2.1 352 = .ok ((.iload 4), 2)) ∧ (decode zy_law_L.2.1 354 = .ok ((.iconst 1), 1)) ∧ (decode zy_law_L.2.1 355 = .ok ((.iadd), 1)) ∧ (decode zy_law_L.2.1 356 = .ok ((.iaload), 1)) ∧ (decode zy_law_L.2.1 357 = .ok ((.invokestatic 121), 3)) ∧ (decode zy_law_L.2.1 360 = .ok ((.istore 5), 2)) ∧ (decode zy_law_L.2.1 362 = .ok ((.aload_n 2), 1)) ∧ (decode zy_law_L.2.1 363 = .ok ((.aload_n 0), 1)) ∧ (decode zy_law_L.2.1 364 = .ok ((.iload 4), 2)) := by decide +kernel
theorem zd_L_law_351 : zz_D zy_law_L 351 (.aload_n 0) 1 352 := ⟨zg_L_law_351.1, rfl⟩
theorem zd_L_law_352 : zz_D zy_law_L 352 (.iload 4) 2 354 := ⟨zg_L_law_351.2.1, rfl⟩
theorem zd_L_law_354 : zz_D zy_law_L 354 (.iconst 1) 1 355 := ⟨zg_L_law_351.2.2.1, rfl⟩
theorem zd_L_law_355 : zz_D zy_law_L 355 (.iadd) 1 356 := ⟨zg_L_law_351.2.2.2.1, rfl⟩
theorem zd_L_law_356 : zz_D zy_law_L 356 (.iaload) 1 357 := ⟨zg_L_law_351.2.2.2.2.1, rfl⟩
theorem zd_L_law_357 : zz_D zy_law_L 357 (.invokestatic 121) 3 360 := ⟨zg_L_law_351.2.2.2.2.2.1, rfl⟩
theorem zd_L_law_360 : zz_D zy_law_L 360 (.istore 5) 2 362 := ⟨zg_L_law_351.2.2.2.2.2.2.1, rfl⟩
theorem zd_L_law_362 : zz_D zy_law_L 362 (.aload_n 2) 1 363 := ⟨zg_L_law_351.2.2.2.2.2.2.2.1, rfl⟩
theorem zd_L_law_363 : zz_D zy_law_L 363 (.aload_n 0) 1 364 := ⟨zg_L_law_351.2.2.2.2.2.2.2.2.1, rfl⟩
theorem zd_L_law_364 : zz_D zy_law_L 364 (.iload 4) 2 366 := ⟨zg_L_law_351.2.2.2.2.2.2.2.2.2, rfl⟩
theorem zg_L_law_366 : (decode zy_law_L.2.1 366 = .ok ((.iconst 1), 1)) ∧ (decode zy_law_L.2.1 367 = .ok ((.iadd), 1)) ∧ (decode zy_law_L.2.1 368 = .ok ((.iaload), 1)) ∧ (decode zy_law_L.2.1 369 = .ok ((.invokevirtual 123), 3)) ∧ (decode zy_law_L.2.1 372 = .ok (Instr.goto 819, 3)) ∧ (decode zy_law_L.2.1 375 = .ok ((.aload_n 1), 1)) ∧ (decode zy_law_L.2.1 376 = .ok ((.aload_n 0), 1)) ∧ (decode zy_law_L.2.1 377 = .ok ((.iload 4), 2)) ∧ (decode zy_law_L.2.1 379 = .ok ((.iconst 1), 1)) ∧ (decode zy_law_L.2.1 380 = .ok ((.iadd), 1)) := by decide +kernel
theorem zd_L_law_366 : zz_D zy_law_L 366 (.iconst 1) 1 367 := ⟨zg_L_law_366.1, rfl⟩
theorem zd_L_law_367 : zz_D zy_law_L 367 (.iadd) 1 368 := ⟨zg_L_law_366.2.1, rfl⟩
theorem zd_L_law_368 : zz_D zy_law_L 368 (.iaload) 1 369 := ⟨zg_L_law_366.2.2.1, rfl⟩
theorem zd_L_law_369 : zz_D zy_law_L 369 (.invokevirtual 123) 3 372 := ⟨zg_L_law_366.2.2.2.1, rfl⟩
theorem zd_L_law_372 : zz_B zy_law_L 372 Instr.goto 1191 375 := ⟨819, zg_L_law_366.2.2.2.2.1, rfl, rfl⟩
theorem zd_L_law_375 : zz_D zy_law_L 375 (.aload_n 1) 1 376 := ⟨zg_L_law_366.2.2.2.2.2.1, rfl⟩
theorem zd_L_law_376 : zz_D zy_law_L 376 (.aload_n 0) 1 377 := ⟨zg_L_law_366.2.2.2.2.2.2.1, rfl⟩
theorem zd_L_law_377 : zz_D zy_law_L 377 (.iload 4) 2 379 := ⟨zg_L_law_366.2.2.2.2.2.2.2.1, rfl⟩
theorem zd_L_law_379 : zz_D zy_law_L 379 (.iconst 1) 1 380 := ⟨zg_L_law_366.2.2.2.2.2.2.2.2.1, rfl⟩
theorem zd_L_law_380 : zz_D zy_law_L 380 (.iadd) 1 381 := ⟨zg_L_law_366.2.2.2.2.2.2.2.2.2, rfl⟩
theorem zg_L_law_381 : (decode zy_law_L.2.1 381 = .ok ((.iaload), 1)) ∧ (decode zy_law_L.2.1 382 = .ok ((.aload_n 3), 1)) ∧ (decode zy_law_L.2.1 383 = .ok ((.invokestatic 124), 3)) ∧ (decode zy_law_L.2.1 386 = .ok ((.istore 5), 2)) ∧ (decode zy_law_L.2.1 388 = .ok ((.aload_n 2), 1)) ∧ (decode zy_law_L.2.1 389 = .ok ((.aload_n 0), 1)) ∧ (decode zy_law_L.2.1 390 = .ok ((.iload 4), 2)) ∧ (decode zy_law_L.2.1 392 = .ok ((.iconst 1), 1)) ∧ (decode zy_law_L.2.1 393 = .ok ((.iadd), 1)) ∧ (decode zy_law_L.2.1 394 = .ok ((.iaload), 1)) := by decide +kernel
theorem zd_L_law_381 : zz_D zy_law_L 381 (.iaload) 1 382 := ⟨zg_L_law_381.1, rfl⟩
theorem zd_L_law_382 : zz_D zy_law_L 382 (.aload_n 3) 1 383 := ⟨zg_L_law_381.2.1, rfl⟩
theorem zd_L_law_383 : zz_D zy_law_L 383 (.invokestatic 124) 3 386 := ⟨zg_L_law_381.2.2.1, rfl⟩
theorem zd_L_law_386 : zz_D zy_law_L 386 (.istore 5) 2 388 := ⟨zg_L_law_381.2.2.2.1, rfl⟩
theorem zd_L_law_388 : zz_D zy_law_L 388 (.aload_n 2) 1 389 := ⟨zg_L_law_381.2.2.2.2.1, rfl⟩
theorem zd_L_law_389 : zz_D zy_law_L 389 (.aload_n 0) 1 390 := ⟨zg_L_law_381.2.2.2.2.2.1, rfl⟩
theorem zd_L_law_390 : zz_D zy_law_L 390 (.iload 4) 2 392 := ⟨zg_L_law_381.2.2.2.2.2.2.1, rfl⟩
theorem zd_L_law_392 : zz_D zy_law_L 392 (.iconst 1) 1 393 := ⟨zg_L_law_381.2.2.2.2.2.2.2.1, rfl⟩
theorem zd_L_law_393 : zz_D zy_law_L 393 (.iadd) 1 394 := ⟨zg_L_law_381.2.2.2.2.2.2.2.2.1, rfl⟩
theorem zd_L_law_394 : zz_D zy_law_L 394 (.iaload) 1 395 := ⟨zg_L_law_381.2.2.2.2.2.2.2.2.2, rfl⟩
theorem zg_L_law_395 : (decode zy_law_L.2.1 395 = .ok ((.invokevirtual 127), 3)) ∧ (decode zy_law_L.2.1 398 = .ok ((.lstore 6), 2)) ∧ (decode zy_law_L.2.1 400 = .ok (Instr.goto 791, 3)) ∧ (decode zy_law_L.2.1 403 = .ok ((.aload_n 1), 1)) ∧ (decode zy_law_L.2.1 404 = .ok ((.invokevirtual 128), 3)) ∧ (decode zy_law_L.2.1 407 = .ok ((.pop), 1)) ∧ (decode zy_law_L.2.1 408 = .ok ((.aload_n 2), 1)) ∧ (decode zy_law_L.2.1 409 = .ok ((.invokevirtual 131), 3)) ∧ (decode zy_law_L.2.1 412 = .ok ((.pop), 1)) ∧ (decode zy_law_L.2.1 413 = .ok (Instr.goto 778, 3)) := by decide +kernel
theorem zd_L_law_395 : zz_D zy_law_L 395 (.invokevirtual 127) 3 398 := ⟨zg_L_law_395.1, rfl⟩
theorem zd_L_law_398 : zz_D zy_law_L 398 (.lstore 6) 2 400 := ⟨zg_L_law_395.2.1, rfl⟩
theorem zd_L_law_400 : zz_B zy_law_L 400 Instr.goto 1191 403 := ⟨791, zg_L_law_395.2.2.1, rfl, rfl⟩
theorem zd_L_law_403 : zz_D zy_law_L 403 (.aload_n 1) 1 404 := ⟨zg_L_law_395.2.2.2.1, rfl⟩
theorem zd_L_law_404 : zz_D zy_law_L 404 (.invokevirtual 128) 3 407 := ⟨zg_L_law_395.2.2.2.2.1, rfl⟩
theorem zd_L_law_407 : zz_D zy_law_L 407 (.pop) 1 408 := ⟨zg_L_law_395.2.2.2.2.2.1, rfl⟩
theorem zd_L_law_408 : zz_D zy_law_L 408 (.aload_n 2) 1 409 := ⟨zg_L_law_395.2.2.2.2.2.2.1, rfl⟩
theorem zd_L_law_409 : zz_D zy_law_L 409 (.invokevirtual 131) 3 412 := ⟨zg_L_law_395.2.2.2.2.2.2.2.1, rfl⟩
theorem zd_L_law_412 : zz_D zy_law_L 412 (.pop) 1 413 := ⟨zg_L_law_395.2.2.2.2.2.2.2.2.1, rfl⟩
theorem zd_L_law_413 : zz_B zy_law_L 413 Instr.goto 1191 416 := ⟨778, zg_L_law_395.2.2.2.2.2.2.2.2.2, rfl, rfl⟩
theorem zg_L_law_416 : (decode zy_law_L.2.1 416 = .ok ((.aload_n 1), 1)) ∧ (decode zy_law_L.2.1 417 = .ok ((.aload_n 0), 1)) ∧ (decode zy_law_L.2.1 418 = .ok ((.iload 4), 2)) ∧ (decode zy_law_L.2.1 420 = .ok ((.iconst 1), 1)) ∧ (decode zy_law_L.2.1 421 = .ok ((.iadd), 1)) ∧ (decode zy_law_L.2.1 422 = .ok ((.iaload), 1)) ∧ (decode zy_law_L.2.1 423 = .ok ((.i2l), 1)) ∧ (decode zy_law_L.2.1 424 = .ok ((.bipush 32), 2)) ∧ (decode zy_law_L.2.1 426 = .ok ((.lshl), 1)) ∧ (decode zy_law_L.2.1 427 = .ok ((.aload_n 0), 1)) := by decide +kernel
theorem zd_L_law_416 : zz_D zy_law_L 416 (.aload_n 1) 1 417 := ⟨zg_L_law_416.1, rfl⟩
theorem zd_L_law_417 : zz_D zy_law_L 417 (.aload_n 0) 1 418 := ⟨zg_L_law_416.2.1, rfl⟩
theorem zd_L_law_418 : zz_D zy_law_L 418 (.iload 4) 2 420 := ⟨zg_L_law_416.2.2.1, rfl⟩
theorem zd_L_law_420 : zz_D zy_law_L 420 (.iconst 1) 1 421 := ⟨zg_L_law_416.2.2.2.1, rfl⟩
theorem zd_L_law_421 : zz_D zy_law_L 421 (.iadd) 1 422 := ⟨zg_L_law_416.2.2.2.2.1, rfl⟩
theorem zd_L_law_422 : zz_D zy_law_L 422 (.iaload) 1 423 := ⟨zg_L_law_416.2.2.2.2.2.1, rfl⟩
theorem zd_L_law_423 : zz_D zy_law_L 423 (.i2l) 1 424 := ⟨zg_L_law_416.2.2.2.2.2.2.1, rfl⟩
theorem zd_L_law_424 : zz_D zy_law_L 424 (.bipush 32) 2 426 := ⟨zg_L_law_416.2.2.2.2.2.2.2.1, rfl⟩
theorem zd_L_law_426 : zz_D zy_law_L 426 (.lshl) 1 427 := ⟨zg_L_law_416.2.2.2.2.2.2.2.2.1, rfl⟩
theorem zd_L_law_427 : zz_D zy_law_L 427 (.aload_n 0) 1 428 := ⟨zg_L_law_416.2.2.2.2.2.2.2.2.2, rfl⟩
theorem zg_L_law_428 : (decode zy_law_L.2.1 428 = .ok ((.iload 4), 2)) ∧ (decode zy_law_L.2.1 430 = .ok ((.iconst 2), 1)) ∧ (decode zy_law_L.2.1 431 = .ok ((.iadd), 1)) ∧ (decode zy_law_L.2.1 432 = .ok ((.iaload), 1)) ∧ (decode zy_law_L.2.1 433 = .ok ((.i2l), 1)) ∧ (decode zy_law_L.2.1 434 = .ok ((.ldc2_w 115), 3)) ∧ (decode zy_law_L.2.1 437 = .ok ((.land), 1)) ∧ (decode zy_law_L.2.1 438 = .ok ((.lor), 1)) ∧ (decode zy_law_L.2.1 439 = .ok ((.aload_n 0), 1)) ∧ (decode zy_law_L.2.1 440 = .ok ((.iload 4), 2)) := by decide +kernel
theorem zd_L_law_428 : zz_D zy_law_L 428 (.iload 4) 2 430 := ⟨zg_L_law_428.1, rfl⟩
theorem zd_L_law_430 : zz_D zy_law_L 430 (.iconst 2) 1 431 := ⟨zg_L_law_428.2.1, rfl⟩
theorem zd_L_law_431 : zz_D zy_law_L 431 (.iadd) 1 432 := ⟨zg_L_law_428.2.2.1, rfl⟩
theorem zd_L_law_432 : zz_D zy_law_L 432 (.iaload) 1 433 := ⟨zg_L_law_428.2.2.2.1, rfl⟩
theorem zd_L_law_433 : zz_D zy_law_L 433 (.i2l) 1 434 := ⟨zg_L_law_428.2.2.2.2.1, rfl⟩
theorem zd_L_law_434 : zz_D zy_law_L 434 (.ldc2_w 115) 3 437 := ⟨zg_L_law_428.2.2.2.2.2.1, rfl⟩
theorem zd_L_law_437 : zz_D zy_law_L 437 (.land) 1 438 := ⟨zg_L_law_428.2.2.2.2.2.2.1, rfl⟩
theorem zd_L_law_438 : zz_D zy_law_L 438 (.lor) 1 439 := ⟨zg_L_law_428.2.2.2.2.2.2.2.1, rfl⟩
theorem zd_L_law_439 : zz_D zy_law_L 439 (.aload_n 0) 1 440 := ⟨zg_L_law_428.2.2.2.2.2.2.2.2.1, rfl⟩
theorem zd_L_law_440 : zz_D zy_law_L 440 (.iload 4) 2 442 := ⟨zg_L_law_428.2.2.2.2.2.2.2.2.2, rfl⟩
theorem zg_L_law_442 : (decode zy_law_L.2.1 442 = .ok ((.iconst 3), 1)) ∧ (decode zy_law_L.2.1 443 = .ok ((.iadd), 1)) ∧ (decode zy_law_L.2.1 444 = .ok ((.iaload), 1)) ∧ (decode zy_law_L.2.1 445 = .ok ((.aload_n 3), 1)) ∧ (decode zy_law_L.2.1 446 = .ok ((.invokestatic 132), 3)) ∧ (decode zy_law_L.2.1 449 = .ok ((.istore 5), 2)) ∧ (decode zy_law_L.2.1 451 = .ok ((.aload_n 2), 1)) ∧ (decode zy_law_L.2.1 452 = .ok ((.aload_n 0), 1)) ∧ (decode zy_law_L.2.1 453 = .ok ((.iload 4), 2)) ∧ (decode zy_law_L.2.1 455 = .ok ((.iconst 1), 1)) := by decide +kernel
theorem zd_L_law_442 : zz_D zy_law_L 442 (.iconst 3) 1 443 := ⟨zg_L_law_442.1, rfl⟩
theorem zd_L_law_443 : zz_D zy_law_L 443 (.iadd) 1 444 := ⟨zg_L_law_442.2.1, rfl⟩
theorem zd_L_law_444 : zz_D zy_law_L 444 (.iaload) 1 445 := ⟨zg_L_law_442.2.2.1, rfl⟩
theorem zd_L_law_445 : zz_D zy_law_L 445 (.aload_n 3) 1 446 := ⟨zg_L_law_442.2.2.2.1, rfl⟩
theorem zd_L_law_446 : zz_D zy_law_L 446 (.invokestatic 132) 3 449 := ⟨zg_L_law_442.2.2.2.2.1, rfl⟩
theorem zd_L_law_449 : zz_D zy_law_L 449 (.istore 5) 2 451 := ⟨zg_L_law_442.2.2.2.2.2.1, rfl⟩
theorem zd_L_law_451 : zz_D zy_law_L 451 (.aload_n 2) 1 452 := ⟨zg_L_law_442.2.2.2.2.2.2.1, rfl⟩
theorem zd_L_law_452 : zz_D zy_law_L 452 (.aload_n 0) 1 453 := ⟨zg_L_law_442.2.2.2.2.2.2.2.1, rfl⟩
theorem zd_L_law_453 : zz_D zy_law_L 453 (.iload 4) 2 455 := ⟨zg_L_law_442.2.2.2.2.2.2.2.2.1, rfl⟩
theorem zd_L_law_455 : zz_D zy_law_L 455 (.iconst 1) 1 456 := ⟨zg_L_law_442.2.2.2.2.2.2.2.2.2, rfl⟩
theorem zg_L_law_456 : (decode zy_law_L.2.1 456 = .ok ((.iadd), 1)) ∧ (decode zy_law_L.2.1 457 = .ok ((.iaload), 1)) ∧ (decode zy_law_L.2.1 458 = .ok ((.i2l), 1)) ∧ (decode zy_law_L.2.1 459 = .ok ((.bipush 32), 2)) ∧ (decode zy_law_L.2.1 461 = .ok ((.lshl), 1)) ∧ (decode zy_law_L.2.1 462 = .ok ((.aload_n 0), 1)) ∧ (decode zy_law_L.2.1 463 = .ok ((.iload 4), 2)) ∧ (decode zy_law_L.2.1 465 = .ok ((.iconst 2), 1)) ∧ (decode zy_law_L.2.1 466 = .ok ((.iadd), 1)) ∧ (decode zy_law_L.2.1 467 = .ok ((.iaload), 1)) := by decide +kernel
theorem zd_L_law_456 : zz_D zy_law_L 456 (.iadd) 1 457 := ⟨zg_L_law_456.1, rfl⟩
theorem zd_L_law_457 : zz_D zy_law_L 457 (.iaload) 1 458 := ⟨zg_L_law_456.2.1, rfl⟩
theorem zd_L_law_458 : zz_D zy_law_L 458 (.i2l) 1 459 := ⟨zg_L_law_456.2.2.1, rfl⟩
theorem zd_L_law_459 : zz_D zy_law_L 459 (.bipush 32) 2 461 := ⟨zg_L_law_456.2.2.2.1, rfl⟩
theorem zd_L_law_461 : zz_D zy_law_L 461 (.lshl) 1 462 := ⟨zg_L_law_456.2.2.2.2.1, rfl⟩
theorem zd_L_law_462 : zz_D zy_law_L 462 (.aload_n 0) 1 463 := ⟨zg_L_law_456.2.2.2.2.2.1, rfl⟩
theorem zd_L_law_463 : zz_D zy_law_L 463 (.iload 4) 2 465 := ⟨zg_L_law_456.2.2.2.2.2.2.1, rfl⟩
theorem zd_L_law_465 : zz_D zy_law_L 465 (.iconst 2) 1 466 := ⟨zg_L_law_456.2.2.2.2.2.2.2.1, rfl⟩
theorem zd_L_law_466 : zz_D zy_law_L 466 (.iadd) 1 467 := ⟨zg_L_law_456.2.2.2.2.2.2.2.2.1, rfl⟩
theorem zd_L_law_467 : zz_D zy_law_L 467 (.iaload) 1 468 := ⟨zg_L_law_456.2.2.2.2.2.2.2.2.2, rfl⟩
theorem zg_L_law_468 : (decode zy_law_L.2.1 468 = .ok ((.i2l), 1)) ∧ (decode zy_law_L.2.1 469 = .ok ((.ldc2_w 115), 3)) ∧ (decode zy_law_L.2.1 472 = .ok ((.land), 1)) ∧ (decode zy_law_L.2.1 473 = .ok ((.lor), 1)) ∧ (decode zy_law_L.2.1 474 = .ok ((.aload_n 0), 1)) ∧ (decode zy_law_L.2.1 475 = .ok ((.iload 4), 2)) ∧ (decode zy_law_L.2.1 477 = .ok ((.iconst 3), 1)) ∧ (decode zy_law_L.2.1 478 = .ok ((.iadd), 1)) ∧ (decode zy_law_L.2.1 479 = .ok ((.iaload), 1)) ∧ (decode zy_law_L.2.1 480 = .ok ((.invokevirtual 135), 3)) := by decide +kernel
theorem zd_L_law_468 : zz_D zy_law_L 468 (.i2l) 1 469 := ⟨zg_L_law_468.1, rfl⟩
theorem zd_L_law_469 : zz_D zy_law_L 469 (.ldc2_w 115) 3 472 := ⟨zg_L_law_468.2.1, rfl⟩
theorem zd_L_law_472 : zz_D zy_law_L 472 (.land) 1 473 := ⟨zg_L_law_468.2.2.1, rfl⟩
theorem zd_L_law_473 : zz_D zy_law_L 473 (.lor) 1 474 := ⟨zg_L_law_468.2.2.2.1, rfl⟩
theorem zd_L_law_474 : zz_D zy_law_L 474 (.aload_n 0) 1 475 := ⟨zg_L_law_468.2.2.2.2.1, rfl⟩
theorem zd_L_law_475 : zz_D zy_law_L 475 (.iload 4) 2 477 := ⟨zg_L_law_468.2.2.2.2.2.1, rfl⟩
theorem zd_L_law_477 : zz_D zy_law_L 477 (.iconst 3) 1 478 := ⟨zg_L_law_468.2.2.2.2.2.2.1, rfl⟩
theorem zd_L_law_478 : zz_D zy_law_L 478 (.iadd) 1 479 := ⟨zg_L_law_468.2.2.2.2.2.2.2.1, rfl⟩
theorem zd_L_law_479 : zz_D zy_law_L 479 (.iaload) 1 480 := ⟨zg_L_law_468.2.2.2.2.2.2.2.2.1, rfl⟩
theorem zd_L_law_480 : zz_D zy_law_L 480 (.invokevirtual 135) 3 483 := ⟨zg_L_law_468.2.2.2.2.2.2.2.2.2, rfl⟩
theorem zg_L_law_483 : (decode zy_law_L.2.1 483 = .ok ((.istore 6), 2)) ∧ (decode zy_law_L.2.1 485 = .ok (Instr.goto 706, 3)) ∧ (decode zy_law_L.2.1 488 = .ok ((.aload_n 1), 1)) ∧ (decode zy_law_L.2.1 489 = .ok ((.aload_n 0), 1)) ∧ (decode zy_law_L.2.1 490 = .ok ((.iload 4), 2)) ∧ (decode zy_law_L.2.1 492 = .ok ((.iconst 1), 1)) ∧ (decode zy_law_L.2.1 493 = .ok ((.iadd), 1)) ∧ (decode zy_law_L.2.1 494 = .ok ((.iaload), 1)) ∧ (decode zy_law_L.2.1 495 = .ok ((.i2l), 1)) ∧ (decode zy_law_L.2.1 496 = .ok ((.bipush 32), 2)) := by decide +kernel
theorem zd_L_law_483 : zz_D zy_law_L 483 (.istore 6) 2 485 := ⟨zg_L_law_483.1, rfl⟩
theorem zd_L_law_485 : zz_B zy_law_L 485 Instr.goto 1191 488 := ⟨706, zg_L_law_483.2.1, rfl, rfl⟩
theorem zd_L_law_488 : zz_D zy_law_L 488 (.aload_n 1) 1 489 := ⟨zg_L_law_483.2.2.1, rfl⟩
theorem zd_L_law_489 : zz_D zy_law_L 489 (.aload_n 0) 1 490 := ⟨zg_L_law_483.2.2.2.1, rfl⟩
theorem zd_L_law_490 : zz_D zy_law_L 490 (.iload 4) 2 492 := ⟨zg_L_law_483.2.2.2.2.1, rfl⟩
theorem zd_L_law_492 : zz_D zy_law_L 492 (.iconst 1) 1 493 := ⟨zg_L_law_483.2.2.2.2.2.1, rfl⟩
theorem zd_L_law_493 : zz_D zy_law_L 493 (.iadd) 1 494 := ⟨zg_L_law_483.2.2.2.2.2.2.1, rfl⟩
theorem zd_L_law_494 : zz_D zy_law_L 494 (.iaload) 1 495 := ⟨zg_L_law_483.2.2.2.2.2.2.2.1, rfl⟩
theorem zd_L_law_495 : zz_D zy_law_L 495 (.i2l) 1 496 := ⟨zg_L_law_483.2.2.2.2.2.2.2.2.1, rfl⟩
theorem zd_L_law_496 : zz_D zy_law_L 496 (.bipush 32) 2 498 := ⟨zg_L_law_483.2.2.2.2.2.2.2.2.2, rfl⟩
theorem zg_L_law_498 : (decode zy_law_L.2.1 498 = .ok ((.lshl), 1)) ∧ (decode zy_law_L.2.1 499 = .ok ((.aload_n 0), 1)) ∧ (decode zy_law_L.2.1 500 = .ok ((.iload 4), 2)) ∧ (decode zy_law_L.2.1 502 = .ok ((.iconst 2), 1)) ∧ (decode zy_law_L.2.1 503 = .ok ((.iadd), 1)) ∧ (decode zy_law_L.2.1 504 = .ok ((.iaload), 1)) ∧ (decode zy_law_L.2.1 505 = .ok ((.i2l), 1)) ∧ (decode zy_law_L.2.1 506 = .ok ((.ldc2_w 115), 3)) ∧ (decode zy_law_L.2.1 509 = .ok ((.land), 1)) ∧ (decode zy_law_L.2.1 510 = .ok ((.lor), 1)) := by decide +kernel
theorem zd_L_law_498 : zz_D zy_law_L 498 (.lshl) 1 499 := ⟨zg_L_law_498.1, rfl⟩
theorem zd_L_law_499 : zz_D zy_law_L 499 (.aload_n 0) 1 500 := ⟨zg_L_law_498.2.1, rfl⟩
theorem zd_L_law_500 : zz_D zy_law_L 500 (.iload 4) 2 502 := ⟨zg_L_law_498.2.2.1, rfl⟩
theorem zd_L_law_502 : zz_D zy_law_L 502 (.iconst 2) 1 503 := ⟨zg_L_law_498.2.2.2.1, rfl⟩
theorem zd_L_law_503 : zz_D zy_law_L 503 (.iadd) 1 504 := ⟨zg_L_law_498.2.2.2.2.1, rfl⟩
theorem zd_L_law_504 : zz_D zy_law_L 504 (.iaload) 1 505 := ⟨zg_L_law_498.2.2.2.2.2.1, rfl⟩
theorem zd_L_law_505 : zz_D zy_law_L 505 (.i2l) 1 506 := ⟨zg_L_law_498.2.2.2.2.2.2.1, rfl⟩
theorem zd_L_law_506 : zz_D zy_law_L 506 (.ldc2_w 115) 3 509 := ⟨zg_L_law_498.2.2.2.2.2.2.2.1, rfl⟩
theorem zd_L_law_509 : zz_D zy_law_L 509 (.land) 1 510 := ⟨zg_L_law_498.2.2.2.2.2.2.2.2.1, rfl⟩
theorem zd_L_law_510 : zz_D zy_law_L 510 (.lor) 1 511 := ⟨zg_L_law_498.2.2.2.2.2.2.2.2.2, rfl⟩
theorem zg_L_law_511 : (decode zy_law_L.2.1 511 = .ok ((.invokevirtual 136), 3)) ∧ (decode zy_law_L.2.1 514 = .ok ((.pop), 1)) ∧ (decode zy_law_L.2.1 515 = .ok ((.aload_n 2), 1)) ∧ (decode zy_law_L.2.1 516 = .ok ((.aload_n 0), 1)) ∧ (decode zy_law_L.2.1 517 = .ok ((.iload 4), 2)) ∧ (decode zy_law_L.2.1 519 = .ok ((.iconst 1), 1)) ∧ (decode zy_law_L.2.1 520 = .ok ((.iadd), 1)) ∧ (decode zy_law_L.2.1 521 = .ok ((.iaload), 1)) ∧ (decode zy_law_L.2.1 522 = .ok ((.i2l), 1)) ∧ (decode zy_law_L.2.1 523 = .ok ((.bipush 32), 2)) := by decide +kernel
theorem zd_L_law_511 : zz_D zy_law_L 511 (.invokevirtual 136) 3 514 := ⟨zg_L_law_511.1, rfl⟩
theorem zd_L_law_514 : zz_D zy_law_L 514 (.pop) 1 515 := ⟨zg_L_law_511.2.1, rfl⟩
theorem zd_L_law_515 : zz_D zy_law_L 515 (.aload_n 2) 1 516 := ⟨zg_L_law_511.2.2.1, rfl⟩
theorem zd_L_law_516 : zz_D zy_law_L 516 (.aload_n 0) 1 517 := ⟨zg_L_law_511.2.2.2.1, rfl⟩
theorem zd_L_law_517 : zz_D zy_law_L 517 (.iload 4) 2 519 := ⟨zg_L_law_511.2.2.2.2.1, rfl⟩
theorem zd_L_law_519 : zz_D zy_law_L 519 (.iconst 1) 1 520 := ⟨zg_L_law_511.2.2.2.2.2.1, rfl⟩
theorem zd_L_law_520 : zz_D zy_law_L 520 (.iadd) 1 521 := ⟨zg_L_law_511.2.2.2.2.2.2.1, rfl⟩
theorem zd_L_law_521 : zz_D zy_law_L 521 (.iaload) 1 522 := ⟨zg_L_law_511.2.2.2.2.2.2.2.1, rfl⟩
theorem zd_L_law_522 : zz_D zy_law_L 522 (.i2l) 1 523 := ⟨zg_L_law_511.2.2.2.2.2.2.2.2.1, rfl⟩
theorem zd_L_law_523 : zz_D zy_law_L 523 (.bipush 32) 2 525 := ⟨zg_L_law_511.2.2.2.2.2.2.2.2.2, rfl⟩
theorem zg_L_law_525 : (decode zy_law_L.2.1 525 = .ok ((.lshl), 1)) ∧ (decode zy_law_L.2.1 526 = .ok ((.aload_n 0), 1)) ∧ (decode zy_law_L.2.1 527 = .ok ((.iload 4), 2)) ∧ (decode zy_law_L.2.1 529 = .ok ((.iconst 2), 1)) ∧ (decode zy_law_L.2.1 530 = .ok ((.iadd), 1)) ∧ (decode zy_law_L.2.1 531 = .ok ((.iaload), 1)) ∧ (decode zy_law_L.2.1 532 = .ok ((.i2l), 1)) ∧ (decode zy_law_L.2.1 533 = .ok ((.ldc2_w 115), 3)) ∧ (decode zy_law_L.2.1 536 = .ok ((.land), 1)) ∧ (decode zy_law_L.2.1 537 = .ok ((.lor), 1)) := by decide +kernel
theorem zd_L_law_525 : zz_D zy_law_L 525 (.lshl) 1 526 := ⟨zg_L_law_525.1, rfl⟩
theorem zd_L_law_526 : zz_D zy_law_L 526 (.aload_n 0) 1 527 := ⟨zg_L_law_525.2.1, rfl⟩
theorem zd_L_law_527 : zz_D zy_law_L 527 (.iload 4) 2 529 := ⟨zg_L_law_525.2.2.1, rfl⟩
theorem zd_L_law_529 : zz_D zy_law_L 529 (.iconst 2) 1 530 := ⟨zg_L_law_525.2.2.2.1, rfl⟩
theorem zd_L_law_530 : zz_D zy_law_L 530 (.iadd) 1 531 := ⟨zg_L_law_525.2.2.2.2.1, rfl⟩
theorem zd_L_law_531 : zz_D zy_law_L 531 (.iaload) 1 532 := ⟨zg_L_law_525.2.2.2.2.2.1, rfl⟩
theorem zd_L_law_532 : zz_D zy_law_L 532 (.i2l) 1 533 := ⟨zg_L_law_525.2.2.2.2.2.2.1, rfl⟩
theorem zd_L_law_533 : zz_D zy_law_L 533 (.ldc2_w 115) 3 536 := ⟨zg_L_law_525.2.2.2.2.2.2.2.1, rfl⟩
theorem zd_L_law_536 : zz_D zy_law_L 536 (.land) 1 537 := ⟨zg_L_law_525.2.2.2.2.2.2.2.2.1, rfl⟩
theorem zd_L_law_537 : zz_D zy_law_L 537 (.lor) 1 538 := ⟨zg_L_law_525.2.2.2.2.2.2.2.2.2, rfl⟩
theorem zg_L_law_538 : (decode zy_law_L.2.1 538 = .ok ((.invokevirtual 140), 3)) ∧ (decode zy_law_L.2.1 541 = .ok ((.pop), 1)) ∧ (decode zy_law_L.2.1 542 = .ok (Instr.goto 649, 3)) ∧ (decode zy_law_L.2.1 545 = .ok ((.aload_n 1), 1)) ∧ (decode zy_law_L.2.1 546 = .ok ((.aload_n 0), 1)) ∧ (decode zy_law_L.2.1 547 = .ok ((.iload 4), 2)) ∧ (decode zy_law_L.2.1 549 = .ok ((.iconst 1), 1)) ∧ (decode zy_law_L.2.1 550 = .ok ((.iadd), 1)) ∧ (decode zy_law_L.2.1 551 = .ok ((.iaload), 1)) ∧ (decode zy_law_L.2.1 552 = .ok ((.aload_n 3), 1)) := by decide +kernel
theorem zd_L_law_538 : zz_D zy_law_L 538 (.invokevirtual 140) 3 541 := ⟨zg_L_law_538.1, rfl⟩
theorem zd_L_law_541 : zz_D zy_law_L 541 (.pop) 1 542 := ⟨zg_L_law_538.2.1, rfl⟩
theorem zd_L_law_542 : zz_B zy_law_L 542 Instr.goto 1191 545 := ⟨649, zg_L_law_538.2.2.1, rfl, rfl⟩
theorem zd_L_law_545 : zz_D zy_law_L 545 (.aload_n 1) 1 546 := ⟨zg_L_law_538.2.2.2.1, rfl⟩
theorem zd_L_law_546 : zz_D zy_law_L 546 (.aload_n 0) 1 547 := ⟨zg_L_law_538.2.2.2.2.1, rfl⟩
theorem zd_L_law_547 : zz_D zy_law_L 547 (.iload 4) 2 549 := ⟨zg_L_law_538.2.2.2.2.2.1, rfl⟩
theorem zd_L_law_549 : zz_D zy_law_L 549 (.iconst 1) 1 550 := ⟨zg_L_law_538.2.2.2.2.2.2.1, rfl⟩
theorem zd_L_law_550 : zz_D zy_law_L 550 (.iadd) 1 551 := ⟨zg_L_law_538.2.2.2.2.2.2.2.1, rfl⟩
theorem zd_L_law_551 : zz_D zy_law_L 551 (.iaload) 1 552 := ⟨zg_L_law_538.2.2.2.2.2.2.2.2.1, rfl⟩
theorem zd_L_law_552 : zz_D zy_law_L 552 (.aload_n 3) 1 553 := ⟨zg_L_law_538.2.2.2.2.2.2.2.2.2, rfl⟩
theorem zg_L_law_553 : (decode zy_law_L.2.1 553 = .ok ((.invokestatic 141), 3)) ∧ (decode zy_law_L.2.1 556 = .ok ((.istore 5), 2)) ∧ (decode zy_law_L.2.1 558 = .ok ((.aload_n 2), 1)) ∧ (decode zy_law_L.2.1 559 = .ok ((.aload_n 0), 1)) ∧ (decode zy_law_L.2.1 560 = .ok ((.iload 4), 2)) ∧ (decode zy_law_L.2.1 562 = .ok ((.iconst 1), 1)) ∧ (decode zy_law_L.2.1 563 = .ok ((.iadd), 1)) ∧ (decode zy_law_L.2.1 564 = .ok ((.iaload), 1)) ∧ (decode zy_law_L.2.1 565 = .ok ((.invokevirtual 143), 3)) ∧ (decode zy_law_L.2.1 568 = .ok ((.istore 6), 2)) := by decide +kernel
theorem zd_L_law_553 : zz_D zy_law_L 553 (.invokestatic 141) 3 556 := ⟨zg_L_law_553.1, rfl⟩
theorem zd_L_law_556 : zz_D zy_law_L 556 (.istore 5) 2 558 := ⟨zg_L_law_553.2.1, rfl⟩
theorem zd_L_law_558 : zz_D zy_law_L 558 (.aload_n 2) 1 559 := ⟨zg_L_law_553.2.2.1, rfl⟩
theorem zd_L_law_559 : zz_D zy_law_L 559 (.aload_n 0) 1 560 := ⟨zg_L_law_553.2.2.2.1, rfl⟩
theorem zd_L_law_560 : zz_D zy_law_L 560 (.iload 4) 2 562 := ⟨zg_L_law_553.2.2.2.2.1, rfl⟩
theorem zd_L_law_562 : zz_D zy_law_L 562 (.iconst 1) 1 563 := ⟨zg_L_law_553.2.2.2.2.2.1, rfl⟩
theorem zd_L_law_563 : zz_D zy_law_L 563 (.iadd) 1 564 := ⟨zg_L_law_553.2.2.2.2.2.2.1, rfl⟩
theorem zd_L_law_564 : zz_D zy_law_L 564 (.iaload) 1 565 := ⟨zg_L_law_553.2.2.2.2.2.2.2.1, rfl⟩
theorem zd_L_law_565 : zz_D zy_law_L 565 (.invokevirtual 143) 3 568 := ⟨zg_L_law_553.2.2.2.2.2.2.2.2.1, rfl⟩
theorem zd_L_law_568 : zz_D zy_law_L 568 (.istore 6) 2 570 := ⟨zg_L_law_553.2.2.2.2.2.2.2.2.2, rfl⟩
theorem zg_L_law_570 : (decode zy_law_L.2.1 570 = .ok (Instr.goto 621, 3)) ∧ (decode zy_law_L.2.1 573 = .ok ((.aload_n 1), 1)) ∧ (decode zy_law_L.2.1 574 = .ok ((.aload_n 0), 1)) ∧ (decode zy_law_L.2.1 575 = .ok ((.iload 4), 2)) ∧ (decode zy_law_L.2.1 577 = .ok ((.iconst 1), 1)) ∧ (decode zy_law_L.2.1 578 = .ok ((.iadd), 1)) ∧ (decode zy_law_L.2.1 579 = .ok ((.iaload), 1)) ∧ (decode zy_law_L.2.1 580 = .ok ((.invokestatic 144), 3)) ∧ (decode zy_law_L.2.1 583 = .ok ((.istore 5), 2)) ∧ (decode zy_law_L.2.1 585 = .ok ((.aload_n 2), 1)) := by decide +kernel
theorem zd_L_law_570 : zz_B zy_law_L 570 Instr.goto 1191 573 := ⟨621, zg_L_law_570.1, rfl, rfl⟩
theorem zd_L_law_573 : zz_D zy_law_L 573 (.aload_n 1) 1 574 := ⟨zg_L_law_570.2.1, rfl⟩
theorem zd_L_law_574 : zz_D zy_law_L 574 (.aload_n 0) 1 575 := ⟨zg_L_law_570.2.2.1, rfl⟩
theorem zd_L_law_575 : zz_D zy_law_L 575 (.iload 4) 2 577 := ⟨zg_L_law_570.2.2.2.1, rfl⟩
theorem zd_L_law_577 : zz_D zy_law_L 577 (.iconst 1) 1 578 := ⟨zg_L_law_570.2.2.2.2.1, rfl⟩
theorem zd_L_law_578 : zz_D zy_law_L 578 (.iadd) 1 579 := ⟨zg_L_law_570.2.2.2.2.2.1, rfl⟩
theorem zd_L_law_579 : zz_D zy_law_L 579 (.iaload) 1 580 := ⟨zg_L_law_570.2.2.2.2.2.2.1, rfl⟩
theorem zd_L_law_580 : zz_D zy_law_L 580 (.invokestatic 144) 3 583 := ⟨zg_L_law_570.2.2.2.2.2.2.2.1, rfl⟩
theorem zd_L_law_583 : zz_D zy_law_L 583 (.istore 5) 2 585 := ⟨zg_L_law_570.2.2.2.2.2.2.2.2.1, rfl⟩
theorem zd_L_law_585 : zz_D zy_law_L 585 (.aload_n 2) 1 586 := ⟨zg_L_law_570.2.2.2.2.2.2.2.2.2, rfl⟩
theorem zg_L_law_586 : (decode zy_law_L.2.1 586 = .ok ((.aload_n 0), 1)) ∧ (decode zy_law_L.2.1 587 = .ok ((.iload 4), 2)) ∧ (decode zy_law_L.2.1 589 = .ok ((.iconst 1), 1)) ∧ (decode zy_law_L.2.1 590 = .ok ((.iadd), 1)) ∧ (decode zy_law_L.2.1 591 = .ok ((.iaload), 1)) ∧ (decode zy_law_L.2.1 592 = .ok ((.invokevirtual 146), 3)) ∧ (decode zy_law_L.2.1 595 = .ok (Instr.goto 596, 3)) ∧ (decode zy_law_L.2.1 598 = .ok ((.aload_n 1), 1)) ∧ (decode zy_law_L.2.1 599 = .ok ((.invokevirtual 147), 3)) ∧ (decode zy_law_L.2.1 602 = .ok ((.pop), 1)) := by decide +kernel
theorem zd_L_law_586 : zz_D zy_law_L 586 (.aload_n 0) 1 587 := ⟨zg_L_law_586.1, rfl⟩
theorem zd_L_law_587 : zz_D zy_law_L 587 (.iload 4) 2 589 := ⟨zg_L_law_586.2.1, rfl⟩
theorem zd_L_law_589 : zz_D zy_law_L 589 (.iconst 1) 1 590 := ⟨zg_L_law_586.2.2.1, rfl⟩
theorem zd_L_law_590 : zz_D zy_law_L 590 (.iadd) 1 591 := ⟨zg_L_law_586.2.2.2.1, rfl⟩
theorem zd_L_law_591 : zz_D zy_law_L 591 (.iaload) 1 592 := ⟨zg_L_law_586.2.2.2.2.1, rfl⟩
theorem zd_L_law_592 : zz_D zy_law_L 592 (.invokevirtual 146) 3 595 := ⟨zg_L_law_586.2.2.2.2.2.1, rfl⟩
theorem zd_L_law_595 : zz_B zy_law_L 595 Instr.goto 1191 598 := ⟨596, zg_L_law_586.2.2.2.2.2.2.1, rfl, rfl⟩
theorem zd_L_law_598 : zz_D zy_law_L 598 (.aload_n 1) 1 599 := ⟨zg_L_law_586.2.2.2.2.2.2.2.1, rfl⟩
theorem zd_L_law_599 : zz_D zy_law_L 599 (.invokevirtual 147) 3 602 := ⟨zg_L_law_586.2.2.2.2.2.2.2.2.1, rfl⟩
theorem zd_L_law_602 : zz_D zy_law_L 602 (.pop) 1 603 := ⟨zg_L_law_586.2.2.2.2.2.2.2.2.2, rfl⟩
theorem zg_L_law_603 : (decode zy_law_L.2.1 603 = .ok ((.aload_n 2), 1)) ∧ (decode zy_law_L.2.1 604 = .ok ((.invokevirtual 150), 3)) ∧ (decode zy_law_L.2.1 607 = .ok ((.pop), 1)) ∧ (decode zy_law_L.2.1 608 = .ok (Instr.goto 583, 3)) ∧ (decode zy_law_L.2.1 611 = .ok ((.aload_n 1), 1)) ∧ (decode zy_law_L.2.1 612 = .ok ((.aload_n 0), 1)) ∧ (decode zy_law_L.2.1 613 = .ok ((.iload 4), 2)) ∧ (decode zy_law_L.2.1 615 = .ok ((.iconst 1), 1)) ∧ (decode zy_law_L.2.1 616 = .ok ((.iadd), 1)) ∧ (decode zy_law_L.2.1 617 = .ok ((.iaload), 1)) := by decide +kernel
theorem zd_L_law_603 : zz_D zy_law_L 603 (.aload_n 2) 1 604 := ⟨zg_L_law_603.1, rfl⟩
theorem zd_L_law_604 : zz_D zy_law_L 604 (.invokevirtual 150) 3 607 := ⟨zg_L_law_603.2.1, rfl⟩
theorem zd_L_law_607 : zz_D zy_law_L 607 (.pop) 1 608 := ⟨zg_L_law_603.2.2.1, rfl⟩
theorem zd_L_law_608 : zz_B zy_law_L 608 Instr.goto 1191 611 := ⟨583, zg_L_law_603.2.2.2.1, rfl, rfl⟩
theorem zd_L_law_611 : zz_D zy_law_L 611 (.aload_n 1) 1 612 := ⟨zg_L_law_603.2.2.2.2.1, rfl⟩
theorem zd_L_law_612 : zz_D zy_law_L 612 (.aload_n 0) 1 613 := ⟨zg_L_law_603.2.2.2.2.2.1, rfl⟩
theorem zd_L_law_613 : zz_D zy_law_L 613 (.iload 4) 2 615 := ⟨zg_L_law_603.2.2.2.2.2.2.1, rfl⟩
theorem zd_L_law_615 : zz_D zy_law_L 615 (.iconst 1) 1 616 := ⟨zg_L_law_603.2.2.2.2.2.2.2.1, rfl⟩
theorem zd_L_law_616 : zz_D zy_law_L 616 (.iadd) 1 617 := ⟨zg_L_law_603.2.2.2.2.2.2.2.2.1, rfl⟩
theorem zd_L_law_617 : zz_D zy_law_L 617 (.iaload) 1 618 := ⟨zg_L_law_603.2.2.2.2.2.2.2.2.2, rfl⟩
theorem zg_L_law_618 : (decode zy_law_L.2.1 618 = .ok ((.aload_n 0), 1)) ∧ (decode zy_law_L.2.1 619 = .ok ((.iload 4), 2)) ∧ (decode zy_law_L.2.1 621 = .ok ((.iconst 2), 1)) ∧ (decode zy_law_L.2.1 622 = .ok ((.iadd), 1)) ∧ (decode zy_law_L.2.1 623 = .ok ((.iaload), 1)) ∧ (decode zy_law_L.2.1 624 = .ok ((.aload_n 3), 1)) ∧ (decode zy_law_L.2.1 625 = .ok ((.invokestatic 151), 3)) ∧ (decode zy_law_L.2.1 628 = .ok ((.istore 5), 2)) ∧ (decode zy_law_L.2.1 630 = .ok ((.aload_n 2), 1)) ∧ (decode zy_law_L.2.1 631 = .ok ((.aload_n 0), 1)) := by decide +kernel
theorem zd_L_law_618 : zz_D zy_law_L 618 (.aload_n 0) 1 619 := ⟨zg_L_law_618.1, rfl⟩
theorem zd_L_law_619 : zz_D zy_law_L 619 (.iload 4) 2 621 := ⟨zg_L_law_618.2.1, rfl⟩
theorem zd_L_law_621 : zz_D zy_law_L 621 (.iconst 2) 1 622 := ⟨zg_L_law_618.2.2.1, rfl⟩
theorem zd_L_law_622 : zz_D zy_law_L 622 (.iadd) 1 623 := ⟨zg_L_law_618.2.2.2.1, rfl⟩
theorem zd_L_law_623 : zz_D zy_law_L 623 (.iaload) 1 624 := ⟨zg_L_law_618.2.2.2.2.1, rfl⟩
theorem zd_L_law_624 : zz_D zy_law_L 624 (.aload_n 3) 1 625 := ⟨zg_L_law_618.2.2.2.2.2.1, rfl⟩
theorem zd_L_law_625 : zz_D zy_law_L 625 (.invokestatic 151) 3 628 := ⟨zg_L_law_618.2.2.2.2.2.2.1, rfl⟩
theorem zd_L_law_628 : zz_D zy_law_L 628 (.istore 5) 2 630 := ⟨zg_L_law_618.2.2.2.2.2.2.2.1, rfl⟩
theorem zd_L_law_630 : zz_D zy_law_L 630 (.aload_n 2) 1 631 := ⟨zg_L_law_618.2.2.2.2.2.2.2.2.1, rfl⟩
theorem zd_L_law_631 : zz_D zy_law_L 631 (.aload_n 0) 1 632 := ⟨zg_L_law_618.2.2.2.2.2.2.2.2.2, rfl⟩
theorem zg_L_law_632 : (decode zy_law_L.2.1 632 = .ok ((.iload 4), 2)) ∧ (decode zy_law_L.2.1 634 = .ok ((.iconst 1), 1)) ∧ (decode zy_law_L.2.1 635 = .ok ((.iadd), 1)) ∧ (decode zy_law_L.2.1 636 = .ok ((.iaload), 1)) ∧ (decode zy_law_L.2.1 637 = .ok ((.aload_n 0), 1)) ∧ (decode zy_law_L.2.1 638 = .ok ((.iload 4), 2)) ∧ (decode zy_law_L.2.1 640 = .ok ((.iconst 2), 1)) ∧ (decode zy_law_L.2.1 641 = .ok ((.iadd), 1)) ∧ (decode zy_law_L.2.1 642 = .ok ((.iaload), 1)) ∧ (decode zy_law_L.2.1 643 = .ok ((.invokevirtual 153), 3)) := by decide +kernel
theorem zd_L_law_632 : zz_D zy_law_L 632 (.iload 4) 2 634 := ⟨zg_L_law_632.1, rfl⟩
theorem zd_L_law_634 : zz_D zy_law_L 634 (.iconst 1) 1 635 := ⟨zg_L_law_632.2.1, rfl⟩
theorem zd_L_law_635 : zz_D zy_law_L 635 (.iadd) 1 636 := ⟨zg_L_law_632.2.2.1, rfl⟩
theorem zd_L_law_636 : zz_D zy_law_L 636 (.iaload) 1 637 := ⟨zg_L_law_632.2.2.2.1, rfl⟩
theorem zd_L_law_637 : zz_D zy_law_L 637 (.aload_n 0) 1 638 := ⟨zg_L_law_632.2.2.2.2.1, rfl⟩
theorem zd_L_law_638 : zz_D zy_law_L 638 (.iload 4) 2 640 := ⟨zg_L_law_632.2.2.2.2.2.1, rfl⟩
theorem zd_L_law_640 : zz_D zy_law_L 640 (.iconst 2) 1 641 := ⟨zg_L_law_632.2.2.2.2.2.2.1, rfl⟩
theorem zd_L_law_641 : zz_D zy_law_L 641 (.iadd) 1 642 := ⟨zg_L_law_632.2.2.2.2.2.2.2.1, rfl⟩
theorem zd_L_law_642 : zz_D zy_law_L 642 (.iaload) 1 643 := ⟨zg_L_law_632.2.2.2.2.2.2.2.2.1, rfl⟩
theorem zd_L_law_643 : zz_D zy_law_L 643 (.invokevirtual 153) 3 646 := ⟨zg_L_law_632.2.2.2.2.2.2.2.2.2, rfl⟩
theorem zg_L_law_646 : (decode zy_law_L.2.1 646 = .ok ((.istore 6), 2)) ∧ (decode zy_law_L.2.1 648 = .ok (Instr.goto 543, 3)) ∧ (decode zy_law_L.2.1 651 = .ok ((.aload_n 1), 1)) ∧ (decode zy_law_L.2.1 652 = .ok ((.invokevirtual 154), 3)) ∧ (decode zy_law_L.2.1 655 = .ok ((.pop), 1)) ∧ (decode zy_law_L.2.1 656 = .ok ((.aload_n 2), 1)) ∧ (decode zy_law_L.2.1 657 = .ok ((.invokevirtual 157), 3)) ∧ (decode zy_law_L.2.1 660 = .ok ((.pop), 1)) ∧ (decode zy_law_L.2.1 661 = .ok (Instr.goto 530, 3)) ∧ (decode zy_law_L.2.1 664 = .ok ((.aload_n 1), 1)) := by decide +kernel
theorem zd_L_law_646 : zz_D zy_law_L 646 (.istore 6) 2 648 := ⟨zg_L_law_646.1, rfl⟩
theorem zd_L_law_648 : zz_B zy_law_L 648 Instr.goto 1191 651 := ⟨543, zg_L_law_646.2.1, rfl, rfl⟩
theorem zd_L_law_651 : zz_D zy_law_L 651 (.aload_n 1) 1 652 := ⟨zg_L_law_646.2.2.1, rfl⟩
theorem zd_L_law_652 : zz_D zy_law_L 652 (.invokevirtual 154) 3 655 := ⟨zg_L_law_646.2.2.2.1, rfl⟩
theorem zd_L_law_655 : zz_D zy_law_L 655 (.pop) 1 656 := ⟨zg_L_law_646.2.2.2.2.1, rfl⟩
theorem zd_L_law_656 : zz_D zy_law_L 656 (.aload_n 2) 1 657 := ⟨zg_L_law_646.2.2.2.2.2.1, rfl⟩
theorem zd_L_law_657 : zz_D zy_law_L 657 (.invokevirtual 157) 3 660 := ⟨zg_L_law_646.2.2.2.2.2.2.1, rfl⟩
theorem zd_L_law_660 : zz_D zy_law_L 660 (.pop) 1 661 := ⟨zg_L_law_646.2.2.2.2.2.2.2.1, rfl⟩
theorem zd_L_law_661 : zz_B zy_law_L 661 Instr.goto 1191 664 := ⟨530, zg_L_law_646.2.2.2.2.2.2.2.2.1, rfl, rfl⟩
theorem zd_L_law_664 : zz_D zy_law_L 664 (.aload_n 1) 1 665 := ⟨zg_L_law_646.2.2.2.2.2.2.2.2.2, rfl⟩
theorem zg_L_law_665 : (decode zy_law_L.2.1 665 = .ok ((.aload_n 0), 1)) ∧ (decode zy_law_L.2.1 666 = .ok ((.iload 4), 2)) ∧ (decode zy_law_L.2.1 668 = .ok ((.iconst 1), 1)) ∧ (decode zy_law_L.2.1 669 = .ok ((.iadd), 1)) ∧ (decode zy_law_L.2.1 670 = .ok ((.iaload), 1)) ∧ (decode zy_law_L.2.1 671 = .ok ((.aload_n 3), 1)) ∧ (decode zy_law_L.2.1 672 = .ok ((.invokestatic 158), 3)) ∧ (decode zy_law_L.2.1 675 = .ok ((.istore 5), 2)) ∧ (decode zy_law_L.2.1 677 = .ok ((.aload_n 2), 1)) ∧ (decode zy_law_L.2.1 678 = .ok ((.aload_n 0), 1)) := by decide +kernel
theorem zd_L_law_665 : zz_D zy_law_L 665 (.aload_n 0) 1 666 := ⟨zg_L_law_665.1, rfl⟩
theorem zd_L_law_666 : zz_D zy_law_L 666 (.iload 4) 2 668 := ⟨zg_L_law_665.2.1, rfl⟩
theorem zd_L_law_668 : zz_D zy_law_L 668 (.iconst 1) 1 669 := ⟨zg_L_law_665.2.2.1, rfl⟩
theorem zd_L_law_669 : zz_D zy_law_L 669 (.iadd) 1 670 := ⟨zg_L_law_665.2.2.2.1, rfl⟩
theorem zd_L_law_670 : zz_D zy_law_L 670 (.iaload) 1 671 := ⟨zg_L_law_665.2.2.2.2.1, rfl⟩
theorem zd_L_law_671 : zz_D zy_law_L 671 (.aload_n 3) 1 672 := ⟨zg_L_law_665.2.2.2.2.2.1, rfl⟩
theorem zd_L_law_672 : zz_D zy_law_L 672 (.invokestatic 158) 3 675 := ⟨zg_L_law_665.2.2.2.2.2.2.1, rfl⟩
theorem zd_L_law_675 : zz_D zy_law_L 675 (.istore 5) 2 677 := ⟨zg_L_law_665.2.2.2.2.2.2.2.1, rfl⟩
theorem zd_L_law_677 : zz_D zy_law_L 677 (.aload_n 2) 1 678 := ⟨zg_L_law_665.2.2.2.2.2.2.2.2.1, rfl⟩
theorem zd_L_law_678 : zz_D zy_law_L 678 (.aload_n 0) 1 679 := ⟨zg_L_law_665.2.2.2.2.2.2.2.2.2, rfl⟩
theorem zg_L_law_679 : (decode zy_law_L.2.1 679 = .ok ((.iload 4), 2)) ∧ (decode zy_law_L.2.1 681 = .ok ((.iconst 1), 1)) ∧ (decode zy_law_L.2.1 682 = .ok ((.iadd), 1)) ∧ (decode zy_law_L.2.1 683 = .ok ((.iaload), 1)) ∧ (decode zy_law_L.2.1 684 = .ok ((.invokevirtual 160), 3)) ∧ (decode zy_law_L.2.1 687 = .ok ((.istore 6), 2)) ∧ (decode zy_law_L.2.1 689 = .ok (Instr.goto 502, 3)) ∧ (decode zy_law_L.2.1 692 = .ok ((.aload_n 1), 1)) ∧ (decode zy_law_L.2.1 693 = .ok ((.aload_n 0), 1)) ∧ (decode zy_law_L.2.1 694 = .ok ((.iload 4), 2)) := by decide +kernel
theorem zd_L_law_679 : zz_D zy_law_L 679 (.iload 4) 2 681 := ⟨zg_L_law_679.1, rfl⟩
theorem zd_L_law_681 : zz_D zy_law_L 681 (.iconst 1) 1 682 := ⟨zg_L_law_679.2.1, rfl⟩
theorem zd_L_law_682 : zz_D zy_law_L 682 (.iadd) 1 683 := ⟨zg_L_law_679.2.2.1, rfl⟩
theorem zd_L_law_683 : zz_D zy_law_L 683 (.iaload) 1 684 := ⟨zg_L_law_679.2.2.2.1, rfl⟩
theorem zd_L_law_684 : zz_D zy_law_L 684 (.invokevirtual 160) 3 687 := ⟨zg_L_law_679.2.2.2.2.1, rfl⟩
theorem zd_L_law_687 : zz_D zy_law_L 687 (.istore 6) 2 689 := ⟨zg_L_law_679.2.2.2.2.2.1, rfl⟩
theorem zd_L_law_689 : zz_B zy_law_L 689 Instr.goto 1191 692 := ⟨502, zg_L_law_679.2.2.2.2.2.2.1, rfl, rfl⟩
theorem zd_L_law_692 : zz_D zy_law_L 692 (.aload_n 1) 1 693 := ⟨zg_L_law_679.2.2.2.2.2.2.2.1, rfl⟩
theorem zd_L_law_693 : zz_D zy_law_L 693 (.aload_n 0) 1 694 := ⟨zg_L_law_679.2.2.2.2.2.2.2.2.1, rfl⟩
theorem zd_L_law_694 : zz_D zy_law_L 694 (.iload 4) 2 696 := ⟨zg_L_law_679.2.2.2.2.2.2.2.2.2, rfl⟩
theorem zg_L_law_696 : (decode zy_law_L.2.1 696 = .ok ((.iconst 1), 1)) ∧ (decode zy_law_L.2.1 697 = .ok ((.iadd), 1)) ∧ (decode zy_law_L.2.1 698 = .ok ((.iaload), 1)) ∧ (decode zy_law_L.2.1 699 = .ok ((.aload_n 0), 1)) ∧ (decode zy_law_L.2.1 700 = .ok ((.iload 4), 2)) ∧ (decode zy_law_L.2.1 702 = .ok ((.iconst 2), 1)) ∧ (decode zy_law_L.2.1 703 = .ok ((.iadd), 1)) ∧ (decode zy_law_L.2.1 704 = .ok ((.iaload), 1)) ∧ (decode zy_law_L.2.1 705 = .ok ((.aload_n 3), 1)) ∧ (decode zy_law_L.2.1 706 = .ok ((.invokestatic 161), 3)) := by decide +kernel
theorem zd_L_law_696 : zz_D zy_law_L 696 (.iconst 1) 1 697 := ⟨zg_L_law_696.1, rfl⟩
theorem zd_L_law_697 : zz_D zy_law_L 697 (.iadd) 1 698 := ⟨zg_L_law_696.2.1, rfl⟩
theorem zd_L_law_698 : zz_D zy_law_L 698 (.iaload) 1 699 := ⟨zg_L_law_696.2.2.1, rfl⟩
theorem zd_L_law_699 : zz_D zy_law_L 699 (.aload_n 0) 1 700 := ⟨zg_L_law_696.2.2.2.1, rfl⟩
theorem zd_L_law_700 : zz_D zy_law_L 700 (.iload 4) 2 702 := ⟨zg_L_law_696.2.2.2.2.1, rfl⟩
theorem zd_L_law_702 : zz_D zy_law_L 702 (.iconst 2) 1 703 := ⟨zg_L_law_696.2.2.2.2.2.1, rfl⟩
theorem zd_L_law_703 : zz_D zy_law_L 703 (.iadd) 1 704 := ⟨zg_L_law_696.2.2.2.2.2.2.1, rfl⟩
theorem zd_L_law_704 : zz_D zy_law_L 704 (.iaload) 1 705 := ⟨zg_L_law_696.2.2.2.2.2.2.2.1, rfl⟩
theorem zd_L_law_705 : zz_D zy_law_L 705 (.aload_n 3) 1 706 := ⟨zg_L_law_696.2.2.2.2.2.2.2.2.1, rfl⟩
theorem zd_L_law_706 : zz_D zy_law_L 706 (.invokestatic 161) 3 709 := ⟨zg_L_law_696.2.2.2.2.2.2.2.2.2, rfl⟩
theorem zg_L_law_709 : (decode zy_law_L.2.1 709 = .ok ((.istore 5), 2)) ∧ (decode zy_law_L.2.1 711 = .ok ((.aload_n 2), 1)) ∧ (decode zy_law_L.2.1 712 = .ok ((.aload_n 0), 1)) ∧ (decode zy_law_L.2.1 713 = .ok ((.iload 4), 2)) ∧ (decode zy_law_L.2.1 715 = .ok ((.iconst 1), 1)) ∧ (decode zy_law_L.2.1 716 = .ok ((.iadd), 1)) ∧ (decode zy_law_L.2.1 717 = .ok ((.iaload), 1)) ∧ (decode zy_law_L.2.1 718 = .ok ((.aload_n 0), 1)) ∧ (decode zy_law_L.2.1 719 = .ok ((.iload 4), 2)) ∧ (decode zy_law_L.2.1 721 = .ok ((.iconst 2), 1)) := by decide +kernel
theorem zd_L_law_709 : zz_D zy_law_L 709 (.istore 5) 2 711 := ⟨zg_L_law_709.1, rfl⟩
theorem zd_L_law_711 : zz_D zy_law_L 711 (.aload_n 2) 1 712 := ⟨zg_L_law_709.2.1, rfl⟩
theorem zd_L_law_712 : zz_D zy_law_L 712 (.aload_n 0) 1 713 := ⟨zg_L_law_709.2.2.1, rfl⟩
theorem zd_L_law_713 : zz_D zy_law_L 713 (.iload 4) 2 715 := ⟨zg_L_law_709.2.2.2.1, rfl⟩
theorem zd_L_law_715 : zz_D zy_law_L 715 (.iconst 1) 1 716 := ⟨zg_L_law_709.2.2.2.2.1, rfl⟩
theorem zd_L_law_716 : zz_D zy_law_L 716 (.iadd) 1 717 := ⟨zg_L_law_709.2.2.2.2.2.1, rfl⟩
theorem zd_L_law_717 : zz_D zy_law_L 717 (.iaload) 1 718 := ⟨zg_L_law_709.2.2.2.2.2.2.1, rfl⟩
theorem zd_L_law_718 : zz_D zy_law_L 718 (.aload_n 0) 1 719 := ⟨zg_L_law_709.2.2.2.2.2.2.2.1, rfl⟩
theorem zd_L_law_719 : zz_D zy_law_L 719 (.iload 4) 2 721 := ⟨zg_L_law_709.2.2.2.2.2.2.2.2.1, rfl⟩
theorem zd_L_law_721 : zz_D zy_law_L 721 (.iconst 2) 1 722 := ⟨zg_L_law_709.2.2.2.2.2.2.2.2.2, rfl⟩
theorem zg_L_law_722 : (decode zy_law_L.2.1 722 = .ok ((.iadd), 1)) ∧ (decode zy_law_L.2.1 723 = .ok ((.iaload), 1)) ∧ (decode zy_law_L.2.1 724 = .ok ((.invokevirtual 163), 3)) ∧ (decode zy_law_L.2.1 727 = .ok ((.istore 6), 2)) ∧ (decode zy_law_L.2.1 729 = .ok (Instr.goto 462, 3)) ∧ (decode zy_law_L.2.1 732 = .ok ((.aload_n 1), 1)) ∧ (decode zy_law_L.2.1 733 = .ok ((.aload_n 0), 1)) ∧ (decode zy_law_L.2.1 734 = .ok ((.iload 4), 2)) ∧ (decode zy_law_L.2.1 736 = .ok ((.iconst 1), 1)) ∧ (decode zy_law_L.2.1 737 = .ok ((.iadd), 1)) := by decide +kernel
theorem zd_L_law_722 : zz_D zy_law_L 722 (.iadd) 1 723 := ⟨zg_L_law_722.1, rfl⟩
theorem zd_L_law_723 : zz_D zy_law_L 723 (.iaload) 1 724 := ⟨zg_L_law_722.2.1, rfl⟩
theorem zd_L_law_724 : zz_D zy_law_L 724 (.invokevirtual 163) 3 727 := ⟨zg_L_law_722.2.2.1, rfl⟩
theorem zd_L_law_727 : zz_D zy_law_L 727 (.istore 6) 2 729 := ⟨zg_L_law_722.2.2.2.1, rfl⟩
theorem zd_L_law_729 : zz_B zy_law_L 729 Instr.goto 1191 732 := ⟨462, zg_L_law_722.2.2.2.2.1, rfl, rfl⟩
theorem zd_L_law_732 : zz_D zy_law_L 732 (.aload_n 1) 1 733 := ⟨zg_L_law_722.2.2.2.2.2.1, rfl⟩
theorem zd_L_law_733 : zz_D zy_law_L 733 (.aload_n 0) 1 734 := ⟨zg_L_law_722.2.2.2.2.2.2.1, rfl⟩
theorem zd_L_law_734 : zz_D zy_law_L 734 (.iload 4) 2 736 := ⟨zg_L_law_722.2.2.2.2.2.2.2.1, rfl⟩
theorem zd_L_law_736 : zz_D zy_law_L 736 (.iconst 1) 1 737 := ⟨zg_L_law_722.2.2.2.2.2.2.2.2.1, rfl⟩
theorem zd_L_law_737 : zz_D zy_law_L 737 (.iadd) 1 738 := ⟨zg_L_law_722.2.2.2.2.2.2.2.2.2, rfl⟩
theorem zg_L_law_738 : (decode zy_law_L.2.1 738 = .ok ((.iaload), 1)) ∧ (decode zy_law_L.2.1 739 = .ok ((.aload_n 0), 1)) ∧ (decode zy_law_L.2.1 740 = .ok ((.iload 4), 2)) ∧ (decode zy_law_L.2.1 742 = .ok ((.iconst 2), 1)) ∧ (decode zy_law_L.2.1 743 = .ok ((.iadd), 1)) ∧ (decode zy_law_L.2.1 744 = .ok ((.iaload), 1)) ∧ (decode zy_law_L.2.1 745 = .ok ((.aload_n 0), 1)) ∧ (decode zy_law_L.2.1 746 = .ok ((.iload 4), 2)) ∧ (decode zy_law_L.2.1 748 = .ok ((.iconst 3), 1)) ∧ (decode zy_law_L.2.1 749 = .ok ((.iadd), 1)) := by decide +kernel
theorem zd_L_law_738 : zz_D zy_law_L 738 (.iaload) 1 739 := ⟨zg_L_law_738.1, rfl⟩
theorem zd_L_law_739 : zz_D zy_law_L 739 (.aload_n 0) 1 740 := ⟨zg_L_law_738.2.1, rfl⟩
theorem zd_L_law_740 : zz_D zy_law_L 740 (.iload 4) 2 742 := ⟨zg_L_law_738.2.2.1, rfl⟩
theorem zd_L_law_742 : zz_D zy_law_L 742 (.iconst 2) 1 743 := ⟨zg_L_law_738.2.2.2.1, rfl⟩
theorem zd_L_law_743 : zz_D zy_law_L 743 (.iadd) 1 744 := ⟨zg_L_law_738.2.2.2.2.1, rfl⟩
theorem zd_L_law_744 : zz_D zy_law_L 744 (.iaload) 1 745 := ⟨zg_L_law_738.2.2.2.2.2.1, rfl⟩
theorem zd_L_law_745 : zz_D zy_law_L 745 (.aload_n 0) 1 746 := ⟨zg_L_law_738.2.2.2.2.2.2.1, rfl⟩
theorem zd_L_law_746 : zz_D zy_law_L 746 (.iload 4) 2 748 := ⟨zg_L_law_738.2.2.2.2.2.2.2.1, rfl⟩
theorem zd_L_law_748 : zz_D zy_law_L 748 (.iconst 3) 1 749 := ⟨zg_L_law_738.2.2.2.2.2.2.2.2.1, rfl⟩
theorem zd_L_law_749 : zz_D zy_law_L 749 (.iadd) 1 750 := ⟨zg_L_law_738.2.2.2.2.2.2.2.2.2, rfl⟩
theorem zg_L_law_750 : (decode zy_law_L.2.1 750 = .ok ((.iaload), 1)) ∧ (decode zy_law_L.2.1 751 = .ok ((.invokestatic 164), 3)) ∧ (decode zy_law_L.2.1 754 = .ok ((.istore 5), 2)) ∧ (decode zy_law_L.2.1 756 = .ok ((.aload_n 2), 1)) ∧ (decode zy_law_L.2.1 757 = .ok ((.aload_n 0), 1)) ∧ (decode zy_law_L.2.1 758 = .ok ((.iload 4), 2)) ∧ (decode zy_law_L.2.1 760 = .ok ((.iconst 1), 1)) ∧ (decode zy_law_L.2.1 761 = .ok ((.iadd), 1)) ∧ (decode zy_law_L.2.1 762 = .ok ((.iaload), 1)) ∧ (decode zy_law_L.2.1 763 = .ok ((.aload_n 0), 1)) := by decide +kernel
theorem zd_L_law_750 : zz_D zy_law_L 750 (.iaload) 1 751 := ⟨zg_L_law_750.1, rfl⟩
theorem zd_L_law_751 : zz_D zy_law_L 751 (.invokestatic 164) 3 754 := ⟨zg_L_law_750.2.1, rfl⟩
theorem zd_L_law_754 : zz_D zy_law_L 754 (.istore 5) 2 756 := ⟨zg_L_law_750.2.2.1, rfl⟩
theorem zd_L_law_756 : zz_D zy_law_L 756 (.aload_n 2) 1 757 := ⟨zg_L_law_750.2.2.2.1, rfl⟩
theorem zd_L_law_757 : zz_D zy_law_L 757 (.aload_n 0) 1 758 := ⟨zg_L_law_750.2.2.2.2.1, rfl⟩
theorem zd_L_law_758 : zz_D zy_law_L 758 (.iload 4) 2 760 := ⟨zg_L_law_750.2.2.2.2.2.1, rfl⟩
theorem zd_L_law_760 : zz_D zy_law_L 760 (.iconst 1) 1 761 := ⟨zg_L_law_750.2.2.2.2.2.2.1, rfl⟩
theorem zd_L_law_761 : zz_D zy_law_L 761 (.iadd) 1 762 := ⟨zg_L_law_750.2.2.2.2.2.2.2.1, rfl⟩
theorem zd_L_law_762 : zz_D zy_law_L 762 (.iaload) 1 763 := ⟨zg_L_law_750.2.2.2.2.2.2.2.2.1, rfl⟩
theorem zd_L_law_763 : zz_D zy_law_L 763 (.aload_n 0) 1 764 := ⟨zg_L_law_750.2.2.2.2.2.2.2.2.2, rfl⟩
theorem zg_L_law_764 : (decode zy_law_L.2.1 764 = .ok ((.iload 4), 2)) ∧ (decode zy_law_L.2.1 766 = .ok ((.iconst 2), 1)) ∧ (decode zy_law_L.2.1 767 = .ok ((.iadd), 1)) ∧ (decode zy_law_L.2.1 768 = .ok ((.iaload), 1)) ∧ (decode zy_law_L.2.1 769 = .ok ((.aload_n 0), 1)) ∧ (decode zy_law_L.2.1 770 = .ok ((.iload 4), 2)) ∧ (decode zy_law_L.2.1 772 = .ok ((.iconst 3), 1)) ∧ (decode zy_law_L.2.1 773 = .ok ((.iadd), 1)) ∧ (decode zy_law_L.2.1 774 = .ok ((.iaload), 1)) ∧ (decode zy_law_L.2.1 775 = .ok ((.invokevirtual 167), 3)) := by decide +kernel
theorem zd_L_law_764 : zz_D zy_law_L 764 (.iload 4) 2 766 := ⟨zg_L_law_764.1, rfl⟩
theorem zd_L_law_766 : zz_D zy_law_L 766 (.iconst 2) 1 767 := ⟨zg_L_law_764.2.1, rfl⟩
theorem zd_L_law_767 : zz_D zy_law_L 767 (.iadd) 1 768 := ⟨zg_L_law_764.2.2.1, rfl⟩
theorem zd_L_law_768 : zz_D zy_law_L 768 (.iaload) 1 769 := ⟨zg_L_law_764.2.2.2.1, rfl⟩
theorem zd_L_law_769 : zz_D zy_law_L 769 (.aload_n 0) 1 770 := ⟨zg_L_law_764.2.2.2.2.1, rfl⟩
theorem zd_L_law_770 : zz_D zy_law_L 770 (.iload 4) 2 772 := ⟨zg_L_law_764.2.2.2.2.2.1, rfl⟩
theorem zd_L_law_772 : zz_D zy_law_L 772 (.iconst 3) 1 773 := ⟨zg_L_law_764.2.2.2.2.2.2.1, rfl⟩
theorem zd_L_law_773 : zz_D zy_law_L 773 (.iadd) 1 774 := ⟨zg_L_law_764.2.2.2.2.2.2.2.1, rfl⟩
theorem zd_L_law_774 : zz_D zy_law_L 774 (.iaload) 1 775 := ⟨zg_L_law_764.2.2.2.2.2.2.2.2.1, rfl⟩
theorem zd_L_law_775 : zz_D zy_law_L 775 (.invokevirtual 167) 3 778 := ⟨zg_L_law_764.2.2.2.2.2.2.2.2.2, rfl⟩
theorem zg_L_law_778 : (decode zy_law_L.2.1 778 = .ok (Instr.goto 413, 3)) ∧ (decode zy_law_L.2.1 781 = .ok ((.aload_n 1), 1)) ∧ (decode zy_law_L.2.1 782 = .ok ((.aload_n 0), 1)) ∧ (decode zy_law_L.2.1 783 = .ok ((.iload 4), 2)) ∧ (decode zy_law_L.2.1 785 = .ok ((.iconst 1), 1)) ∧ (decode zy_law_L.2.1 786 = .ok ((.iadd), 1)) ∧ (decode zy_law_L.2.1 787 = .ok ((.iaload), 1)) ∧ (decode zy_law_L.2.1 788 = .ok ((.aload_n 0), 1)) ∧ (decode zy_law_L.2.1 789 = .ok ((.iload 4), 2)) ∧ (decode zy_law_L.2.1 791 = .ok ((.iconst 2), 1)) := by decide +kernel
theorem zd_L_law_778 : zz_B zy_law_L 778 Instr.goto 1191 781 := ⟨413, zg_L_law_778.1, rfl, rfl⟩
theorem zd_L_law_781 : zz_D zy_law_L 781 (.aload_n 1) 1 782 := ⟨zg_L_law_778.2.1, rfl⟩
theorem zd_L_law_782 : zz_D zy_law_L 782 (.aload_n 0) 1 783 := ⟨zg_L_law_778.2.2.1, rfl⟩
theorem zd_L_law_783 : zz_D zy_law_L 783 (.iload 4) 2 785 := ⟨zg_L_law_778.2.2.2.1, rfl⟩
theorem zd_L_law_785 : zz_D zy_law_L 785 (.iconst 1) 1 786 := ⟨zg_L_law_778.2.2.2.2.1, rfl⟩
theorem zd_L_law_786 : zz_D zy_law_L 786 (.iadd) 1 787 := ⟨zg_L_law_778.2.2.2.2.2.1, rfl⟩
theorem zd_L_law_787 : zz_D zy_law_L 787 (.iaload) 1 788 := ⟨zg_L_law_778.2.2.2.2.2.2.1, rfl⟩
theorem zd_L_law_788 : zz_D zy_law_L 788 (.aload_n 0) 1 789 := ⟨zg_L_law_778.2.2.2.2.2.2.2.1, rfl⟩
theorem zd_L_law_789 : zz_D zy_law_L 789 (.iload 4) 2 791 := ⟨zg_L_law_778.2.2.2.2.2.2.2.2.1, rfl⟩
theorem zd_L_law_791 : zz_D zy_law_L 791 (.iconst 2) 1 792 := ⟨zg_L_law_778.2.2.2.2.2.2.2.2.2, rfl⟩
theorem zg_L_law_792 : (decode zy_law_L.2.1 792 = .ok ((.iadd), 1)) ∧ (decode zy_law_L.2.1 793 = .ok ((.iaload), 1)) ∧ (decode zy_law_L.2.1 794 = .ok ((.aload_n 0), 1)) ∧ (decode zy_law_L.2.1 795 = .ok ((.iload 4), 2)) ∧ (decode zy_law_L.2.1 797 = .ok ((.iconst 3), 1)) ∧ (decode zy_law_L.2.1 798 = .ok ((.iadd), 1)) ∧ (decode zy_law_L.2.1 799 = .ok ((.iaload), 1)) ∧ (decode zy_law_L.2.1 800 = .ok ((.aload_n 0), 1)) ∧ (decode zy_law_L.2.1 801 = .ok ((.iload 4), 2)) ∧ (decode zy_law_L.2.1 803 = .ok ((.iconst 4), 1)) := by decide +kernel
theorem zd_L_law_792 : zz_D zy_law_L 792 (.iadd) 1 793 := ⟨zg_L_law_792.1, rfl⟩
theorem zd_L_law_793 : zz_D zy_law_L 793 (.iaload) 1 794 := ⟨zg_L_law_792.2.1, rfl⟩
theorem zd_L_law_794 : zz_D zy_law_L 794 (.aload_n 0) 1 795 := ⟨zg_L_law_792.2.2.1, rfl⟩
theorem zd_L_law_795 : zz_D zy_law_L 795 (.iload 4) 2 797 := ⟨zg_L_law_792.2.2.2.1, rfl⟩
theorem zd_L_law_797 : zz_D zy_law_L 797 (.iconst 3) 1 798 := ⟨zg_L_law_792.2.2.2.2.1, rfl⟩
theorem zd_L_law_798 : zz_D zy_law_L 798 (.iadd) 1 799 := ⟨zg_L_law_792.2.2.2.2.2.1, rfl⟩
theorem zd_L_law_799 : zz_D zy_law_L 799 (.iaload) 1 800 := ⟨zg_L_law_792.2.2.2.2.2.2.1, rfl⟩
theorem zd_L_law_800 : zz_D zy_law_L 800 (.aload_n 0) 1 801 := ⟨zg_L_law_792.2.2.2.2.2.2.2.1, rfl⟩
theorem zd_L_law_801 : zz_D zy_law_L 801 (.iload 4) 2 803 := ⟨zg_L_law_792.2.2.2.2.2.2.2.2.1, rfl⟩
theorem zd_L_law_803 : zz_D zy_law_L 803 (.iconst 4) 1 804 := ⟨zg_L_law_792.2.2.2.2.2.2.2.2.2, rfl⟩
theorem zg_L_law_804 : (decode zy_law_L.2.1 804 = .ok ((.iadd), 1)) ∧ (decode zy_law_L.2.1 805 = .ok ((.iaload), 1)) ∧ (decode zy_law_L.2.1 806 = .ok ((.aload_n 0), 1)) ∧ (decode zy_law_L.2.1 807 = .ok ((.iload 4), 2)) ∧ (decode zy_law_L.2.1 809 = .ok ((.iconst 5), 1)) ∧ (decode zy_law_L.2.1 810 = .ok ((.iadd), 1)) ∧ (decode zy_law_L.2.1 811 = .ok ((.iaload), 1)) ∧ (decode zy_law_L.2.1 812 = .ok ((.aload_n 0), 1)) ∧ (decode zy_law_L.2.1 813 = .ok ((.iload 4), 2)) ∧ (decode zy_law_L.2.1 815 = .ok ((.bipush 6), 2)) := by decide +kernel
theorem zd_L_law_804 : zz_D zy_law_L 804 (.iadd) 1 805 := ⟨zg_L_law_804.1, rfl⟩
theorem zd_L_law_805 : zz_D zy_law_L 805 (.iaload) 1 806 := ⟨zg_L_law_804.2.1, rfl⟩
theorem zd_L_law_806 : zz_D zy_law_L 806 (.aload_n 0) 1 807 := ⟨zg_L_law_804.2.2.1, rfl⟩
theorem zd_L_law_807 : zz_D zy_law_L 807 (.iload 4) 2 809 := ⟨zg_L_law_804.2.2.2.1, rfl⟩
theorem zd_L_law_809 : zz_D zy_law_L 809 (.iconst 5) 1 810 := ⟨zg_L_law_804.2.2.2.2.1, rfl⟩
theorem zd_L_law_810 : zz_D zy_law_L 810 (.iadd) 1 811 := ⟨zg_L_law_804.2.2.2.2.2.1, rfl⟩
theorem zd_L_law_811 : zz_D zy_law_L 811 (.iaload) 1 812 := ⟨zg_L_law_804.2.2.2.2.2.2.1, rfl⟩
theorem zd_L_law_812 : zz_D zy_law_L 812 (.aload_n 0) 1 813 := ⟨zg_L_law_804.2.2.2.2.2.2.2.1, rfl⟩
theorem zd_L_law_813 : zz_D zy_law_L 813 (.iload 4) 2 815 := ⟨zg_L_law_804.2.2.2.2.2.2.2.2.1, rfl⟩
theorem zd_L_law_815 : zz_D zy_law_L 815 (.bipush 6) 2 817 := ⟨zg_L_law_804.2.2.2.2.2.2.2.2.2, rfl⟩
theorem zg_L_law_817 : (decode zy_law_L.2.1 817 = .ok ((.iadd), 1)) ∧ (decode zy_law_L.2.1 818 = .ok ((.iaload), 1)) ∧ (decode zy_law_L.2.1 819 = .ok ((.aload_n 3), 1)) ∧ (decode zy_law_L.2.1 820 = .ok ((.invokestatic 168), 3)) ∧ (decode zy_law_L.2.1 823 = .ok ((.istore 5), 2)) ∧ (decode zy_law_L.2.1 825 = .ok ((.aload_n 2), 1)) ∧ (decode zy_law_L.2.1 826 = .ok ((.aload_n 0), 1)) ∧ (decode zy_law_L.2.1 827 = .ok ((.iload 4), 2)) ∧ (decode zy_law_L.2.1 829 = .ok ((.iconst 1), 1)) ∧ (decode zy_law_L.2.1 830 = .ok ((.iadd), 1)) := by decide +kernel
theorem zd_L_law_817 : zz_D zy_law_L 817 (.iadd) 1 818 := ⟨zg_L_law_817.1, rfl⟩
theorem zd_L_law_818 : zz_D zy_law_L 818 (.iaload) 1 819 := ⟨zg_L_law_817.2.1, rfl⟩
theorem zd_L_law_819 : zz_D zy_law_L 819 (.aload_n 3) 1 820 := ⟨zg_L_law_817.2.2.1, rfl⟩
theorem zd_L_law_820 : zz_D zy_law_L 820 (.invokestatic 168) 3 823 := ⟨zg_L_law_817.2.2.2.1, rfl⟩
theorem zd_L_law_823 : zz_D zy_law_L 823 (.istore 5) 2 825 := ⟨zg_L_law_817.2.2.2.2.1, rfl⟩
theorem zd_L_law_825 : zz_D zy_law_L 825 (.aload_n 2) 1 826 := ⟨zg_L_law_817.2.2.2.2.2.1, rfl⟩
theorem zd_L_law_826 : zz_D zy_law_L 826 (.aload_n 0) 1 827 := ⟨zg_L_law_817.2.2.2.2.2.2.1, rfl⟩
theorem zd_L_law_827 : zz_D zy_law_L 827 (.iload 4) 2 829 := ⟨zg_L_law_817.2.2.2.2.2.2.2.1, rfl⟩
theorem zd_L_law_829 : zz_D zy_law_L 829 (.iconst 1) 1 830 := ⟨zg_L_law_817.2.2.2.2.2.2.2.2.1, rfl⟩
theorem zd_L_law_830 : zz_D zy_law_L 830 (.iadd) 1 831 := ⟨zg_L_law_817.2.2.2.2.2.2.2.2.2, rfl⟩
theorem zg_L_law_831 : (decode zy_law_L.2.1 831 = .ok ((.iaload), 1)) ∧ (decode zy_law_L.2.1 832 = .ok ((.aload_n 0), 1)) ∧ (decode zy_law_L.2.1 833 = .ok ((.iload 4), 2)) ∧ (decode zy_law_L.2.1 835 = .ok ((.iconst 2), 1)) ∧ (decode zy_law_L.2.1 836 = .ok ((.iadd), 1)) ∧ (decode zy_law_L.2.1 837 = .ok ((.iaload), 1)) ∧ (decode zy_law_L.2.1 838 = .ok ((.aload_n 0), 1)) ∧ (decode zy_law_L.2.1 839 = .ok ((.iload 4), 2)) ∧ (decode zy_law_L.2.1 841 = .ok ((.iconst 3), 1)) ∧ (decode zy_law_L.2.1 842 = .ok ((.iadd), 1)) := by decide +kernel
theorem zd_L_law_831 : zz_D zy_law_L 831 (.iaload) 1 832 := ⟨zg_L_law_831.1, rfl⟩
theorem zd_L_law_832 : zz_D zy_law_L 832 (.aload_n 0) 1 833 := ⟨zg_L_law_831.2.1, rfl⟩
theorem zd_L_law_833 : zz_D zy_law_L 833 (.iload 4) 2 835 := ⟨zg_L_law_831.2.2.1, rfl⟩
theorem zd_L_law_835 : zz_D zy_law_L 835 (.iconst 2) 1 836 := ⟨zg_L_law_831.2.2.2.1, rfl⟩
theorem zd_L_law_836 : zz_D zy_law_L 836 (.iadd) 1 837 := ⟨zg_L_law_831.2.2.2.2.1, rfl⟩
theorem zd_L_law_837 : zz_D zy_law_L 837 (.iaload) 1 838 := ⟨zg_L_law_831.2.2.2.2.2.1, rfl⟩
theorem zd_L_law_838 : zz_D zy_law_L 838 (.aload_n 0) 1 839 := ⟨zg_L_law_831.2.2.2.2.2.2.1, rfl⟩
theorem zd_L_law_839 : zz_D zy_law_L 839 (.iload 4) 2 841 := ⟨zg_L_law_831.2.2.2.2.2.2.2.1, rfl⟩
theorem zd_L_law_841 : zz_D zy_law_L 841 (.iconst 3) 1 842 := ⟨zg_L_law_831.2.2.2.2.2.2.2.2.1, rfl⟩
theorem zd_L_law_842 : zz_D zy_law_L 842 (.iadd) 1 843 := ⟨zg_L_law_831.2.2.2.2.2.2.2.2.2, rfl⟩
theorem zg_L_law_843 : (decode zy_law_L.2.1 843 = .ok ((.iaload), 1)) ∧ (decode zy_law_L.2.1 844 = .ok ((.aload_n 0), 1)) ∧ (decode zy_law_L.2.1 845 = .ok ((.iload 4), 2)) ∧ (decode zy_law_L.2.1 847 = .ok ((.iconst 4), 1)) ∧ (decode zy_law_L.2.1 848 = .ok ((.iadd), 1)) ∧ (decode zy_law_L.2.1 849 = .ok ((.iaload), 1)) ∧ (decode zy_law_L.2.1 850 = .ok ((.aload_n 0), 1)) ∧ (decode zy_law_L.2.1 851 = .ok ((.iload 4), 2)) ∧ (decode zy_law_L.2.1 853 = .ok ((.iconst 5), 1)) ∧ (decode zy_law_L.2.1 854 = .ok ((.iadd), 1)) := by decide +kernel
theorem zd_L_law_843 : zz_D zy_law_L 843 (.iaload) 1 844 := ⟨zg_L_law_843.1, rfl⟩
theorem zd_L_law_844 : zz_D zy_law_L 844 (.aload_n 0) 1 845 := ⟨zg_L_law_843.2.1, rfl⟩
theorem zd_L_law_845 : zz_D zy_law_L 845 (.iload 4) 2 847 := ⟨zg_L_law_843.2.2.1, rfl⟩
theorem zd_L_law_847 : zz_D zy_law_L 847 (.iconst 4) 1 848 := ⟨zg_L_law_843.2.2.2.1, rfl⟩
theorem zd_L_law_848 : zz_D zy_law_L 848 (.iadd) 1 849 := ⟨zg_L_law_843.2.2.2.2.1, rfl⟩
theorem zd_L_law_849 : zz_D zy_law_L 849 (.iaload) 1 850 := ⟨zg_L_law_843.2.2.2.2.2.1, rfl⟩
theorem zd_L_law_850 : zz_D zy_law_L 850 (.aload_n 0) 1 851 := ⟨zg_L_law_843.2.2.2.2.2.2.1, rfl⟩
theorem zd_L_law_851 : zz_D zy_law_L 851 (.iload 4) 2 853 := ⟨zg_L_law_843.2.2.2.2.2.2.2.1, rfl⟩
theorem zd_L_law_853 : zz_D zy_law_L 853 (.iconst 5) 1 854 := ⟨zg_L_law_843.2.2.2.2.2.2.2.2.1, rfl⟩
theorem zd_L_law_854 : zz_D zy_law_L 854 (.iadd) 1 855 := ⟨zg_L_law_843.2.2.2.2.2.2.2.2.2, rfl⟩
theorem zg_L_law_855 : (decode zy_law_L.2.1 855 = .ok ((.iaload), 1)) ∧ (decode zy_law_L.2.1 856 = .ok ((.aload_n 0), 1)) ∧ (decode zy_law_L.2.1 857 = .ok ((.iload 4), 2)) ∧ (decode zy_law_L.2.1 859 = .ok ((.bipush 6), 2)) ∧ (decode zy_law_L.2.1 861 = .ok ((.iadd), 1)) ∧ (decode zy_law_L.2.1 862 = .ok ((.iaload), 1)) ∧ (decode zy_law_L.2.1 863 = .ok ((.invokevirtual 171), 3)) ∧ (decode zy_law_L.2.1 866 = .ok ((.istore 6), 2)) ∧ (decode zy_law_L.2.1 868 = .ok (Instr.goto 323, 3)) ∧ (decode zy_law_L.2.1 871 = .ok ((.aload_n 1), 1)) := by decide +kernel
theorem zd_L_law_855 : zz_D zy_law_L 855 (.iaload) 1 856 := ⟨zg_L_law_855.1, rfl⟩
theorem zd_L_law_856 : zz_D zy_law_L 856 (.aload_n 0) 1 857 := ⟨zg_L_law_855.2.1, rfl⟩
theorem zd_L_law_857 : zz_D zy_law_L 857 (.iload 4) 2 859 := ⟨zg_L_law_855.2.2.1, rfl⟩
theorem zd_L_law_859 : zz_D zy_law_L 859 (.bipush 6) 2 861 := ⟨zg_L_law_855.2.2.2.1, rfl⟩
theorem zd_L_law_861 : zz_D zy_law_L 861 (.iadd) 1 862 := ⟨zg_L_law_855.2.2.2.2.1, rfl⟩
theorem zd_L_law_862 : zz_D zy_law_L 862 (.iaload) 1 863 := ⟨zg_L_law_855.2.2.2.2.2.1, rfl⟩
theorem zd_L_law_863 : zz_D zy_law_L 863 (.invokevirtual 171) 3 866 := ⟨zg_L_law_855.2.2.2.2.2.2.1, rfl⟩
theorem zd_L_law_866 : zz_D zy_law_L 866 (.istore 6) 2 868 := ⟨zg_L_law_855.2.2.2.2.2.2.2.1, rfl⟩
theorem zd_L_law_868 : zz_B zy_law_L 868 Instr.goto 1191 871 := ⟨323, zg_L_law_855.2.2.2.2.2.2.2.2.1, rfl, rfl⟩
theorem zd_L_law_871 : zz_D zy_law_L 871 (.aload_n 1) 1 872 := ⟨zg_L_law_855.2.2.2.2.2.2.2.2.2, rfl⟩
theorem zg_L_law_872 : (decode zy_law_L.2.1 872 = .ok ((.aload_n 0), 1)) ∧ (decode zy_law_L.2.1 873 = .ok ((.iload 4), 2)) ∧ (decode zy_law_L.2.1 875 = .ok ((.iconst 1), 1)) ∧ (decode zy_law_L.2.1 876 = .ok ((.iadd), 1)) ∧ (decode zy_law_L.2.1 877 = .ok ((.iaload), 1)) ∧ (decode zy_law_L.2.1 878 = .ok ((.aload_n 0), 1)) ∧ (decode zy_law_L.2.1 879 = .ok ((.iload 4), 2)) ∧ (decode zy_law_L.2.1 881 = .ok ((.iconst 2), 1)) ∧ (decode zy_law_L.2.1 882 = .ok ((.iadd), 1)) ∧ (decode zy_law_L.2.1 883 = .ok ((.iaload), 1)) := by decide +kernel
theorem zd_L_law_872 : zz_D zy_law_L 872 (.aload_n 0) 1 873 := ⟨zg_L_law_872.1, rfl⟩
theorem zd_L_law_873 : zz_D zy_law_L 873 (.iload 4) 2 875 := ⟨zg_L_law_872.2.1, rfl⟩
theorem zd_L_law_875 : zz_D zy_law_L 875 (.iconst 1) 1 876 := ⟨zg_L_law_872.2.2.1, rfl⟩
theorem zd_L_law_876 : zz_D zy_law_L 876 (.iadd) 1 877 := ⟨zg_L_law_872.2.2.2.1, rfl⟩
theorem zd_L_law_877 : zz_D zy_law_L 877 (.iaload) 1 878 := ⟨zg_L_law_872.2.2.2.2.1, rfl⟩
theorem zd_L_law_878 : zz_D zy_law_L 878 (.aload_n 0) 1 879 := ⟨zg_L_law_872.2.2.2.2.2.1, rfl⟩
theorem zd_L_law_879 : zz_D zy_law_L 879 (.iload 4) 2 881 := ⟨zg_L_law_872.2.2.2.2.2.2.1, rfl⟩
theorem zd_L_law_881 : zz_D zy_law_L 881 (.iconst 2) 1 882 := ⟨zg_L_law_872.2.2.2.2.2.2.2.1, rfl⟩
theorem zd_L_law_882 : zz_D zy_law_L 882 (.iadd) 1 883 := ⟨zg_L_law_872.2.2.2.2.2.2.2.2.1, rfl⟩
theorem zd_L_law_883 : zz_D zy_law_L 883 (.iaload) 1 884 := ⟨zg_L_law_872.2.2.2.2.2.2.2.2.2, rfl⟩
theorem zg_L_law_884 : (decode zy_law_L.2.1 884 = .ok ((.aload_n 0), 1)) ∧ (decode zy_law_L.2.1 885 = .ok ((.iload 4), 2)) ∧ (decode zy_law_L.2.1 887 = .ok ((.iconst 3), 1)) ∧ (decode zy_law_L.2.1 888 = .ok ((.iadd), 1)) ∧ (decode zy_law_L.2.1 889 = .ok ((.iaload), 1)) ∧ (decode zy_law_L.2.1 890 = .ok ((.aload_n 3), 1)) ∧ (decode zy_law_L.2.1 891 = .ok ((.invokestatic 172), 3)) ∧ (decode zy_law_L.2.1 894 = .ok ((.istore 5), 2)) ∧ (decode zy_law_L.2.1 896 = .ok ((.aload_n 2), 1)) ∧ (decode zy_law_L.2.1 897 = .ok ((.aload_n 0), 1)) := by decide +kernel
theorem zd_L_law_884 : zz_D zy_law_L 884 (.aload_n 0) 1 885 := ⟨zg_L_law_884.1, rfl⟩
theorem zd_L_law_885 : zz_D zy_law_L 885 (.iload 4) 2 887 := ⟨zg_L_law_884.2.1, rfl⟩
theorem zd_L_law_887 : zz_D zy_law_L 887 (.iconst 3) 1 888 := ⟨zg_L_law_884.2.2.1, rfl⟩
theorem zd_L_law_888 : zz_D zy_law_L 888 (.iadd) 1 889 := ⟨zg_L_law_884.2.2.2.1, rfl⟩
theorem zd_L_law_889 : zz_D zy_law_L 889 (.iaload) 1 890 := ⟨zg_L_law_884.2.2.2.2.1, rfl⟩
theorem zd_L_law_890 : zz_D zy_law_L 890 (.aload_n 3) 1 891 := ⟨zg_L_law_884.2.2.2.2.2.1, rfl⟩
theorem zd_L_law_891 : zz_D zy_law_L 891 (.invokestatic 172) 3 894 := ⟨zg_L_law_884.2.2.2.2.2.2.1, rfl⟩
theorem zd_L_law_894 : zz_D zy_law_L 894 (.istore 5) 2 896 := ⟨zg_L_law_884.2.2.2.2.2.2.2.1, rfl⟩
theorem zd_L_law_896 : zz_D zy_law_L 896 (.aload_n 2) 1 897 := ⟨zg_L_law_884.2.2.2.2.2.2.2.2.1, rfl⟩
theorem zd_L_law_897 : zz_D zy_law_L 897 (.aload_n 0) 1 898 := ⟨zg_L_law_884.2.2.2.2.2.2.2.2.2, rfl⟩
theorem zg_L_law_898 : (decode zy_law_L.2.1 898 = .ok ((.iload 4), 2)) ∧ (decode zy_law_L.2.1 900 = .ok ((.iconst 1), 1)) ∧ (decode zy_law_L.2.1 901 = .ok ((.iadd), 1)) ∧ (decode zy_law_L.2.1 902 = .ok ((.iaload), 1)) ∧ (decode zy_law_L.2.1 903 = .ok ((.aload_n 0), 1)) ∧ (decode zy_law_L.2.1 904 = .ok ((.iload 4), 2)) ∧ (decode zy_law_L.2.1 906 = .ok ((.iconst 2), 1)) ∧ (decode zy_law_L.2.1 907 = .ok ((.iadd), 1)) ∧ (decode zy_law_L.2.1 908 = .ok ((.iaload), 1)) ∧ (decode zy_law_L.2.1 909 = .ok ((.aload_n 0), 1)) := by decide +kernel
theorem zd_L_law_898 : zz_D zy_law_L 898 (.iload 4) 2 900 := ⟨zg_L_law_898.1, rfl⟩
theorem zd_L_law_900 : zz_D zy_law_L 900 (.iconst 1) 1 901 := ⟨zg_L_law_898.2.1, rfl⟩
theorem zd_L_law_901 : zz_D zy_law_L 901 (.iadd) 1 902 := ⟨zg_L_law_898.2.2.1, rfl⟩
theorem zd_L_law_902 : zz_D zy_law_L 902 (.iaload) 1 903 := ⟨zg_L_law_898.2.2.2.1, rfl⟩
theorem zd_L_law_903 : zz_D zy_law_L 903 (.aload_n 0) 1 904 := ⟨zg_L_law_898.2.2.2.2.1, rfl⟩
theorem zd_L_law_904 : zz_D zy_law_L 904 (.iload 4) 2 906 := ⟨zg_L_law_898.2.2.2.2.2.1, rfl⟩
theorem zd_L_law_906 : zz_D zy_law_L 906 (.iconst 2) 1 907 := ⟨zg_L_law_898.2.2.2.2.2.2.1, rfl⟩
theorem zd_L_law_907 : zz_D zy_law_L 907 (.iadd) 1 908 := ⟨zg_L_law_898.2.2.2.2.2.2.2.1, rfl⟩
theorem zd_L_law_908 : zz_D zy_law_L 908 (.iaload) 1 909 := ⟨zg_L_law_898.2.2.2.2.2.2.2.2.1, rfl⟩
theorem zd_L_law_909 : zz_D zy_law_L 909 (.aload_n 0) 1 910 := ⟨zg_L_law_898.2.2.2.2.2.2.2.2.2, rfl⟩
theorem zg_L_law_910 : (decode zy_law_L.2.1 910 = .ok ((.iload 4), 2)) ∧ (decode zy_law_L.2.1 912 = .ok ((.iconst 3), 1)) ∧ (decode zy_law_L.2.1 913 = .ok ((.iadd), 1)) ∧ (decode zy_law_L.2.1 914 = .ok ((.iaload), 1)) ∧ (decode zy_law_L.2.1 915 = .ok ((.invokevirtual 175), 3)) ∧ (decode zy_law_L.2.1 918 = .ok ((.istore 6), 2)) ∧ (decode zy_law_L.2.1 920 = .ok (Instr.goto 271, 3)) ∧ (decode zy_law_L.2.1 923 = .ok ((.aload_n 1), 1)) ∧ (decode zy_law_L.2.1 924 = .ok ((.aload_n 0), 1)) ∧ (decode zy_law_L.2.1 925 = .ok ((.iload 4), 2)) := by decide +kernel
theorem zd_L_law_910 : zz_D zy_law_L 910 (.iload 4) 2 912 := ⟨zg_L_law_910.1, rfl⟩
theorem zd_L_law_912 : zz_D zy_law_L 912 (.iconst 3) 1 913 := ⟨zg_L_law_910.2.1, rfl⟩
theorem zd_L_law_913 : zz_D zy_law_L 913 (.iadd) 1 914 := ⟨zg_L_law_910.2.2.1, rfl⟩
theorem zd_L_law_914 : zz_D zy_law_L 914 (.iaload) 1 915 := ⟨zg_L_law_910.2.2.2.1, rfl⟩
theorem zd_L_law_915 : zz_D zy_law_L 915 (.invokevirtual 175) 3 918 := ⟨zg_L_law_910.2.2.2.2.1, rfl⟩
theorem zd_L_law_918 : zz_D zy_law_L 918 (.istore 6) 2 920 := ⟨zg_L_law_910.2.2.2.2.2.1, rfl⟩
theorem zd_L_law_920 : zz_B zy_law_L 920 Instr.goto 1191 923 := ⟨271, zg_L_law_910.2.2.2.2.2.2.1, rfl, rfl⟩
theorem zd_L_law_923 : zz_D zy_law_L 923 (.aload_n 1) 1 924 := ⟨zg_L_law_910.2.2.2.2.2.2.2.1, rfl⟩
theorem zd_L_law_924 : zz_D zy_law_L 924 (.aload_n 0) 1 925 := ⟨zg_L_law_910.2.2.2.2.2.2.2.2.1, rfl⟩
theorem zd_L_law_925 : zz_D zy_law_L 925 (.iload 4) 2 927 := ⟨zg_L_law_910.2.2.2.2.2.2.2.2.2, rfl⟩
theorem zg_L_law_927 : (decode zy_law_L.2.1 927 = .ok ((.iconst 1), 1)) ∧ (decode zy_law_L.2.1 928 = .ok ((.iadd), 1)) ∧ (decode zy_law_L.2.1 929 = .ok ((.iaload), 1)) ∧ (decode zy_law_L.2.1 930 = .ok ((.aload_n 0), 1)) ∧ (decode zy_law_L.2.1 931 = .ok ((.iload 4), 2)) ∧ (decode zy_law_L.2.1 933 = .ok ((.iconst 2), 1)) ∧ (decode zy_law_L.2.1 934 = .ok ((.iadd), 1)) ∧ (decode zy_law_L.2.1 935 = .ok ((.iaload), 1)) ∧ (decode zy_law_L.2.1 936 = .ok ((.aload_n 0), 1)) ∧ (decode zy_law_L.2.1 937 = .ok ((.iload 4), 2)) := by decide +kernel
theorem zd_L_law_927 : zz_D zy_law_L 927 (.iconst 1) 1 928 := ⟨zg_L_law_927.1, rfl⟩
theorem zd_L_law_928 : zz_D zy_law_L 928 (.iadd) 1 929 := ⟨zg_L_law_927.2.1, rfl⟩
theorem zd_L_law_929 : zz_D zy_law_L 929 (.iaload) 1 930 := ⟨zg_L_law_927.2.2.1, rfl⟩
theorem zd_L_law_930 : zz_D zy_law_L 930 (.aload_n 0) 1 931 := ⟨zg_L_law_927.2.2.2.1, rfl⟩
theorem zd_L_law_931 : zz_D zy_law_L 931 (.iload 4) 2 933 := ⟨zg_L_law_927.2.2.2.2.1, rfl⟩
theorem zd_L_law_933 : zz_D zy_law_L 933 (.iconst 2) 1 934 := ⟨zg_L_law_927.2.2.2.2.2.1, rfl⟩
theorem zd_L_law_934 : zz_D zy_law_L 934 (.iadd) 1 935 := ⟨zg_L_law_927.2.2.2.2.2.2.1, rfl⟩
theorem zd_L_law_935 : zz_D zy_law_L 935 (.iaload) 1 936 := ⟨zg_L_law_927.2.2.2.2.2.2.2.1, rfl⟩
theorem zd_L_law_936 : zz_D zy_law_L 936 (.aload_n 0) 1 937 := ⟨zg_L_law_927.2.2.2.2.2.2.2.2.1, rfl⟩
theorem zd_L_law_937 : zz_D zy_law_L 937 (.iload 4) 2 939 := ⟨zg_L_law_927.2.2.2.2.2.2.2.2.2, rfl⟩
theorem zg_L_law_939 : (decode zy_law_L.2.1 939 = .ok ((.iconst 3), 1)) ∧ (decode zy_law_L.2.1 940 = .ok ((.iadd), 1)) ∧ (decode zy_law_L.2.1 941 = .ok ((.iaload), 1)) ∧ (decode zy_law_L.2.1 942 = .ok ((.aload_n 3), 1)) ∧ (decode zy_law_L.2.1 943 = .ok ((.invokestatic 176), 3)) ∧ (decode zy_law_L.2.1 946 = .ok ((.istore 5), 2)) ∧ (decode zy_law_L.2.1 948 = .ok ((.aload_n 2), 1)) ∧ (decode zy_law_L.2.1 949 = .ok ((.aload_n 0), 1)) ∧ (decode zy_law_L.2.1 950 = .ok ((.iload 4), 2)) ∧ (decode zy_law_L.2.1 952 = .ok ((.iconst 1), 1)) := by decide +kernel
theorem zd_L_law_939 : zz_D zy_law_L 939 (.iconst 3) 1 940 := ⟨zg_L_law_939.1, rfl⟩
theorem zd_L_law_940 : zz_D zy_law_L 940 (.iadd) 1 941 := ⟨zg_L_law_939.2.1, rfl⟩
theorem zd_L_law_941 : zz_D zy_law_L 941 (.iaload) 1 942 := ⟨zg_L_law_939.2.2.1, rfl⟩
theorem zd_L_law_942 : zz_D zy_law_L 942 (.aload_n 3) 1 943 := ⟨zg_L_law_939.2.2.2.1, rfl⟩
theorem zd_L_law_943 : zz_D zy_law_L 943 (.invokestatic 176) 3 946 := ⟨zg_L_law_939.2.2.2.2.1, rfl⟩
theorem zd_L_law_946 : zz_D zy_law_L 946 (.istore 5) 2 948 := ⟨zg_L_law_939.2.2.2.2.2.1, rfl⟩
theorem zd_L_law_948 : zz_D zy_law_L 948 (.aload_n 2) 1 949 := ⟨zg_L_law_939.2.2.2.2.2.2.1, rfl⟩
theorem zd_L_law_949 : zz_D zy_law_L 949 (.aload_n 0) 1 950 := ⟨zg_L_law_939.2.2.2.2.2.2.2.1, rfl⟩
theorem zd_L_law_950 : zz_D zy_law_L 950 (.iload 4) 2 952 := ⟨zg_L_law_939.2.2.2.2.2.2.2.2.1, rfl⟩
theorem zd_L_law_952 : zz_D zy_law_L 952 (.iconst 1) 1 953 := ⟨zg_L_law_939.2.2.2.2.2.2.2.2.2, rfl⟩
theorem zg_L_law_953 : (decode zy_law_L.2.1 953 = .ok ((.iadd), 1)) ∧ (decode zy_law_L.2.1 954 = .ok ((.iaload), 1)) ∧ (decode zy_law_L.2.1 955 = .ok ((.aload_n 0), 1)) ∧ (decode zy_law_L.2.1 956 = .ok ((.iload 4), 2)) ∧ (decode zy_law_L.2.1 958 = .ok ((.iconst 2), 1)) ∧ (decode zy_law_L.2.1 959 = .ok ((.iadd), 1)) ∧ (decode zy_law_L.2.1 960 = .ok ((.iaload), 1)) ∧ (decode zy_law_L.2.1 961 = .ok ((.aload_n 0), 1)) ∧ (decode zy_law_L.2.1 962 = .ok ((.iload 4), 2)) ∧ (decode zy_law_L.2.1 964 = .ok ((.iconst 3), 1)) := by decide +kernel
theorem zd_L_law_953 : zz_D zy_law_L 953 (.iadd) 1 954 := ⟨zg_L_law_953.1, rfl⟩
theorem zd_L_law_954 : zz_D zy_law_L 954 (.iaload) 1 955 := ⟨zg_L_law_953.2.1, rfl⟩
theorem zd_L_law_955 : zz_D zy_law_L 955 (.aload_n 0) 1 956 := ⟨zg_L_law_953.2.2.1, rfl⟩
theorem zd_L_law_956 : zz_D zy_law_L 956 (.iload 4) 2 958 := ⟨zg_L_law_953.2.2.2.1, rfl⟩
theorem zd_L_law_958 : zz_D zy_law_L 958 (.iconst 2) 1 959 := ⟨zg_L_law_953.2.2.2.2.1, rfl⟩
theorem zd_L_law_959 : zz_D zy_law_L 959 (.iadd) 1 960 := ⟨zg_L_law_953.2.2.2.2.2.1, rfl⟩
theorem zd_L_law_960 : zz_D zy_law_L 960 (.iaload) 1 961 := ⟨zg_L_law_953.2.2.2.2.2.2.1, rfl⟩
theorem zd_L_law_961 : zz_D zy_law_L 961 (.aload_n 0) 1 962 := ⟨zg_L_law_953.2.2.2.2.2.2.2.1, rfl⟩
theorem zd_L_law_962 : zz_D zy_law_L 962 (.iload 4) 2 964 := ⟨zg_L_law_953.2.2.2.2.2.2.2.2.1, rfl⟩
theorem zd_L_law_964 : zz_D zy_law_L 964 (.iconst 3) 1 965 := ⟨zg_L_law_953.2.2.2.2.2.2.2.2.2, rfl⟩
theorem zg_L_law_965 : (decode zy_law_L.2.1 965 = .ok ((.iadd), 1)) ∧ (decode zy_law_L.2.1 966 = .ok ((.iaload), 1)) ∧ (decode zy_law_L.2.1 967 = .ok ((.invokevirtual 178), 3)) ∧ (decode zy_law_L.2.1 970 = .ok ((.istore 6), 2)) ∧ (decode zy_law_L.2.1 972 = .ok (Instr.goto 219, 3)) ∧ (decode zy_law_L.2.1 975 = .ok ((.aload_n 1), 1)) ∧ (decode zy_law_L.2.1 976 = .ok ((.aload_n 0), 1)) ∧ (decode zy_law_L.2.1 977 = .ok ((.iload 4), 2)) ∧ (decode zy_law_L.2.1 979 = .ok ((.iconst 1), 1)) ∧ (decode zy_law_L.2.1 980 = .ok ((.iadd), 1)) := by decide +kernel
theorem zd_L_law_965 : zz_D zy_law_L 965 (.iadd) 1 966 := ⟨zg_L_law_965.1, rfl⟩
theorem zd_L_law_966 : zz_D zy_law_L 966 (.iaload) 1 967 := ⟨zg_L_law_965.2.1, rfl⟩
theorem zd_L_law_967 : zz_D zy_law_L 967 (.invokevirtual 178) 3 970 := ⟨zg_L_law_965.2.2.1, rfl⟩
theorem zd_L_law_970 : zz_D zy_law_L 970 (.istore 6) 2 972 := ⟨zg_L_law_965.2.2.2.1, rfl⟩
theorem zd_L_law_972 : zz_B zy_law_L 972 Instr.goto 1191 975 := ⟨219, zg_L_law_965.2.2.2.2.1, rfl, rfl⟩
theorem zd_L_law_975 : zz_D zy_law_L 975 (.aload_n 1) 1 976 := ⟨zg_L_law_965.2.2.2.2.2.1, rfl⟩
theorem zd_L_law_976 : zz_D zy_law_L 976 (.aload_n 0) 1 977 := ⟨zg_L_law_965.2.2.2.2.2.2.1, rfl⟩
theorem zd_L_law_977 : zz_D zy_law_L 977 (.iload 4) 2 979 := ⟨zg_L_law_965.2.2.2.2.2.2.2.1, rfl⟩
theorem zd_L_law_979 : zz_D zy_law_L 979 (.iconst 1) 1 980 := ⟨zg_L_law_965.2.2.2.2.2.2.2.2.1, rfl⟩
theorem zd_L_law_980 : zz_D zy_law_L 980 (.iadd) 1 981 := ⟨zg_L_law_965.2.2.2.2.2.2.2.2.2, rfl⟩
theorem zg_L_law_981 : (decode zy_law_L.2.1 981 = .ok ((.iaload), 1)) ∧ (decode zy_law_L.2.1 982 = .ok ((.aload_n 0), 1)) ∧ (decode zy_law_L.2.1 983 = .ok ((.iload 4), 2)) ∧ (decode zy_law_L.2.1 985 = .ok ((.iconst 2), 1)) ∧ (decode zy_law_L.2.1 986 = .ok ((.iadd), 1)) ∧ (decode zy_law_L.2.1 987 = .ok ((.iaload), 1)) ∧ (decode zy_law_L.2.1 988 = .ok ((.aload_n 3), 1)) ∧ (decode zy_law_L.2.1 989 = .ok ((.invokestatic 179), 3)) ∧ (decode zy_law_L.2.1 992 = .ok ((.istore 5), 2)) ∧ (decode zy_law_L.2.1 994 = .ok ((.aload_n 2), 1)) := by decide +kernel
theorem zd_L_law_981 : zz_D zy_law_L 981 (.iaload) 1 982 := ⟨zg_L_law_981.1, rfl⟩
theorem zd_L_law_982 : zz_D zy_law_L 982 (.aload_n 0) 1 983 := ⟨zg_L_law_981.2.1, rfl⟩
theorem zd_L_law_983 : zz_D zy_law_L 983 (.iload 4) 2 985 := ⟨zg_L_law_981.2.2.1, rfl⟩
theorem zd_L_law_985 : zz_D zy_law_L 985 (.iconst 2) 1 986 := ⟨zg_L_law_981.2.2.2.1, rfl⟩
theorem zd_L_law_986 : zz_D zy_law_L 986 (.iadd) 1 987 := ⟨zg_L_law_981.2.2.2.2.1, rfl⟩
theorem zd_L_law_987 : zz_D zy_law_L 987 (.iaload) 1 988 := ⟨zg_L_law_981.2.2.2.2.2.1, rfl⟩
theorem zd_L_law_988 : zz_D zy_law_L 988 (.aload_n 3) 1 989 := ⟨zg_L_law_981.2.2.2.2.2.2.1, rfl⟩
theorem zd_L_law_989 : zz_D zy_law_L 989 (.invokestatic 179) 3 992 := ⟨zg_L_law_981.2.2.2.2.2.2.2.1, rfl⟩
theorem zd_L_law_992 : zz_D zy_law_L 992 (.istore 5) 2 994 := ⟨zg_L_law_981.2.2.2.2.2.2.2.2.1, rfl⟩
theorem zd_L_law_994 : zz_D zy_law_L 994 (.aload_n 2) 1 995 := ⟨zg_L_law_981.2.2.2.2.2.2.2.2.2, rfl⟩
theorem zg_L_law_995 : (decode zy_law_L.2.1 995 = .ok ((.aload_n 0), 1)) ∧ (decode zy_law_L.2.1 996 = .ok ((.iload 4), 2)) ∧ (decode zy_law_L.2.1 998 = .ok ((.iconst 1), 1)) ∧ (decode zy_law_L.2.1 999 = .ok ((.iadd), 1)) ∧ (decode zy_law_L.2.1 1000 = .ok ((.iaload), 1)) ∧ (decode zy_law_L.2.1 1001 = .ok ((.aload_n 0), 1)) ∧ (decode zy_law_L.2.1 1002 = .ok ((.iload 4), 2)) ∧ (decode zy_law_L.2.1 1004 = .ok ((.iconst 2), 1)) ∧ (decode zy_law_L.2.1 1005 = .ok ((.iadd), 1)) ∧ (decode zy_law_L.2.1 1006 = .ok ((.iaload), 1)) := by decide +kernel
theorem zd_L_law_995 : zz_D zy_law_L 995 (.aload_n 0) 1 996 := ⟨zg_L_law_995.1, rfl⟩
theorem zd_L_law_996 : zz_D zy_law_L 996 (.iload 4) 2 998 := ⟨zg_L_law_995.2.1, rfl⟩
theorem zd_L_law_998 : zz_D zy_law_L 998 (.iconst 1) 1 999 := ⟨zg_L_law_995.2.2.1, rfl⟩
theorem zd_L_law_999 : zz_D zy_law_L 999 (.iadd) 1 1000 := ⟨zg_L_law_995.2.2.2.1, rfl⟩
theorem zd_L_law_1000 : zz_D zy_law_L 1000 (.iaload) 1 1001 := ⟨zg_L_law_995.2.2.2.2.1, rfl⟩
theorem zd_L_law_1001 : zz_D zy_law_L 1001 (.aload_n 0) 1 1002 := ⟨zg_L_law_995.2.2.2.2.2.1, rfl⟩
theorem zd_L_law_1002 : zz_D zy_law_L 1002 (.iload 4) 2 1004 := ⟨zg_L_law_995.2.2.2.2.2.2.1, rfl⟩
theorem zd_L_law_1004 : zz_D zy_law_L 1004 (.iconst 2) 1 1005 := ⟨zg_L_law_995.2.2.2.2.2.2.2.1, rfl⟩
theorem zd_L_law_1005 : zz_D zy_law_L 1005 (.iadd) 1 1006 := ⟨zg_L_law_995.2.2.2.2.2.2.2.2.1, rfl⟩
theorem zd_L_law_1006 : zz_D zy_law_L 1006 (.iaload) 1 1007 := ⟨zg_L_law_995.2.2.2.2.2.2.2.2.2, rfl⟩
theorem zg_L_law_1007 : (decode zy_law_L.2.1 1007 = .ok ((.invokevirtual 181), 3)) ∧ (decode zy_law_L.2.1 1010 = .ok ((.istore 6), 2)) ∧ (decode zy_law_L.2.1 1012 = .ok (Instr.goto 179, 3)) ∧ (decode zy_law_L.2.1 1015 = .ok ((.aload_n 1), 1)) ∧ (decode zy_law_L.2.1 1016 = .ok ((.aload_n 3), 1)) ∧ (decode zy_law_L.2.1 1017 = .ok ((.invokestatic 182), 3)) ∧ (decode zy_law_L.2.1 1020 = .ok ((.istore 5), 2)) ∧ (decode zy_law_L.2.1 1022 = .ok ((.aload_n 2), 1)) ∧ (decode zy_law_L.2.1 1023 = .ok ((.invokevirtual 185), 3)) ∧ (decode zy_law_L.2.1 1026 = .ok ((.istore 6), 2)) := by decide +kernel
theorem zd_L_law_1007 : zz_D zy_law_L 1007 (.invokevirtual 181) 3 1010 := ⟨zg_L_law_1007.1, rfl⟩
theorem zd_L_law_1010 : zz_D zy_law_L 1010 (.istore 6) 2 1012 := ⟨zg_L_law_1007.2.1, rfl⟩
theorem zd_L_law_1012 : zz_B zy_law_L 1012 Instr.goto 1191 1015 := ⟨179, zg_L_law_1007.2.2.1, rfl, rfl⟩
theorem zd_L_law_1015 : zz_D zy_law_L 1015 (.aload_n 1) 1 1016 := ⟨zg_L_law_1007.2.2.2.1, rfl⟩
theorem zd_L_law_1016 : zz_D zy_law_L 1016 (.aload_n 3) 1 1017 := ⟨zg_L_law_1007.2.2.2.2.1, rfl⟩
theorem zd_L_law_1017 : zz_D zy_law_L 1017 (.invokestatic 182) 3 1020 := ⟨zg_L_law_1007.2.2.2.2.2.1, rfl⟩
theorem zd_L_law_1020 : zz_D zy_law_L 1020 (.istore 5) 2 1022 := ⟨zg_L_law_1007.2.2.2.2.2.2.1, rfl⟩
theorem zd_L_law_1022 : zz_D zy_law_L 1022 (.aload_n 2) 1 1023 := ⟨zg_L_law_1007.2.2.2.2.2.2.2.1, rfl⟩
theorem zd_L_law_1023 : zz_D zy_law_L 1023 (.invokevirtual 185) 3 1026 := ⟨zg_L_law_1007.2.2.2.2.2.2.2.2.1, rfl⟩
theorem zd_L_law_1026 : zz_D zy_law_L 1026 (.istore 6) 2 1028 := ⟨zg_L_law_1007.2.2.2.2.2.2.2.2.2, rfl⟩
theorem zg_L_law_1028 : (decode zy_law_L.2.1 1028 = .ok (Instr.goto 163, 3)) ∧ (decode zy_law_L.2.1 1031 = .ok ((.aload_n 1), 1)) ∧ (decode zy_law_L.2.1 1032 = .ok ((.invokevirtual 186), 3)) ∧ (decode zy_law_L.2.1 1035 = .ok ((.aload_n 2), 1)) ∧ (decode zy_law_L.2.1 1036 = .ok ((.invokevirtual 189), 3)) ∧ (decode zy_law_L.2.1 1039 = .ok (Instr.goto 152, 3)) ∧ (decode zy_law_L.2.1 1042 = .ok ((.aload_n 1), 1)) ∧ (decode zy_law_L.2.1 1043 = .ok ((.invokevirtual 190), 3)) ∧ (decode zy_law_L.2.1 1046 = .ok ((.pop), 1)) ∧ (decode zy_law_L.2.1 1047 = .ok ((.aload_n 2), 1)) := by decide +kernel
theorem zd_L_law_1028 : zz_B zy_law_L 1028 Instr.goto 1191 1031 := ⟨163, zg_L_law_1028.1, rfl, rfl⟩
theorem zd_L_law_1031 : zz_D zy_law_L 1031 (.aload_n 1) 1 1032 := ⟨zg_L_law_1028.2.1, rfl⟩
theorem zd_L_law_1032 : zz_D zy_law_L 1032 (.invokevirtual 186) 3 1035 := ⟨zg_L_law_1028.2.2.1, rfl⟩
theorem zd_L_law_1035 : zz_D zy_law_L 1035 (.aload_n 2) 1 1036 := ⟨zg_L_law_1028.2.2.2.1, rfl⟩
theorem zd_L_law_1036 : zz_D zy_law_L 1036 (.invokevirtual 189) 3 1039 := ⟨zg_L_law_1028.2.2.2.2.1, rfl⟩
theorem zd_L_law_1039 : zz_B zy_law_L 1039 Instr.goto 1191 1042 := ⟨152, zg_L_law_1028.2.2.2.2.2.1, rfl, rfl⟩
theorem zd_L_law_1042 : zz_D zy_law_L 1042 (.aload_n 1) 1 1043 := ⟨zg_L_law_1028.2.2.2.2.2.2.1, rfl⟩
theorem zd_L_law_1043 : zz_D zy_law_L 1043 (.invokevirtual 190) 3 1046 := ⟨zg_L_law_1028.2.2.2.2.2.2.2.1, rfl⟩
theorem zd_L_law_1046 : zz_D zy_law_L 1046 (.pop) 1 1047 := ⟨zg_L_law_1028.2.2.2.2.2.2.2.2.1, rfl⟩
theorem zd_L_law_1047 : zz_D zy_law_L 1047 (.aload_n 2) 1 1048 := ⟨zg_L_law_1028.2.2.2.2.2.2.2.2.2, rfl⟩
theorem zg_L_law_1048 : (decode zy_law_L.2.1 1048 = .ok ((.invokevirtual 193), 3)) ∧ (decode zy_law_L.2.1 1051 = .ok ((.pop), 1)) ∧ (decode zy_law_L.2.1 1052 = .ok (Instr.goto 139, 3)) ∧ (decode zy_law_L.2.1 1055 = .ok ((.aload_n 1), 1)) ∧ (decode zy_law_L.2.1 1056 = .ok ((.aload_n 0), 1)) ∧ (decode zy_law_L.2.1 1057 = .ok ((.iload 4), 2)) ∧ (decode zy_law_L.2.1 1059 = .ok ((.iconst 1), 1)) ∧ (decode zy_law_L.2.1 1060 = .ok ((.iadd), 1)) ∧ (decode zy_law_L.2.1 1061 = .ok ((.iaload), 1)) ∧ (decode zy_law_L.2.1 1062 = .ok ((.aload_n 0), 1)) := by decide +kernel
theorem zd_L_law_1048 : zz_D zy_law_L 1048 (.invokevirtual 193) 3 1051 := ⟨zg_L_law_1048.1, rfl⟩
theorem zd_L_law_1051 : zz_D zy_law_L 1051 (.pop) 1 1052 := ⟨zg_L_law_1048.2.1, rfl⟩
theorem zd_L_law_1052 : zz_B zy_law_L 1052 Instr.goto 1191 1055 := ⟨139, zg_L_law_1048.2.2.1, rfl, rfl⟩
theorem zd_L_law_1055 : zz_D zy_law_L 1055 (.aload_n 1) 1 1056 := ⟨zg_L_law_1048.2.2.2.1, rfl⟩
theorem zd_L_law_1056 : zz_D zy_law_L 1056 (.aload_n 0) 1 1057 := ⟨zg_L_law_1048.2.2.2.2.1, rfl⟩
theorem zd_L_law_1057 : zz_D zy_law_L 1057 (.iload 4) 2 1059 := ⟨zg_L_law_1048.2.2.2.2.2.1, rfl⟩
theorem zd_L_law_1059 : zz_D zy_law_L 1059 (.iconst 1) 1 1060 := ⟨zg_L_law_1048.2.2.2.2.2.2.1, rfl⟩
theorem zd_L_law_1060 : zz_D zy_law_L 1060 (.iadd) 1 1061 := ⟨zg_L_law_1048.2.2.2.2.2.2.2.1, rfl⟩
theorem zd_L_law_1061 : zz_D zy_law_L 1061 (.iaload) 1 1062 := ⟨zg_L_law_1048.2.2.2.2.2.2.2.2.1, rfl⟩
theorem zd_L_law_1062 : zz_D zy_law_L 1062 (.aload_n 0) 1 1063 := ⟨zg_L_law_1048.2.2.2.2.2.2.2.2.2, rfl⟩
theorem zg_L_law_1063 : (decode zy_law_L.2.1 1063 = .ok ((.iload 4), 2)) ∧ (decode zy_law_L.2.1 1065 = .ok ((.iconst 2), 1)) ∧ (decode zy_law_L.2.1 1066 = .ok ((.iadd), 1)) ∧ (decode zy_law_L.2.1 1067 = .ok ((.iaload), 1)) ∧ (decode zy_law_L.2.1 1068 = .ok ((.aload_n 3), 1)) ∧ (decode zy_law_L.2.1 1069 = .ok ((.invokestatic 194), 3)) ∧ (decode zy_law_L.2.1 1072 = .ok ((.istore 5), 2)) ∧ (decode zy_law_L.2.1 1074 = .ok ((.aload_n 2), 1)) ∧ (decode zy_law_L.2.1 1075 = .ok ((.aload_n 0), 1)) ∧ (decode zy_law_L.2.1 1076 = .ok ((.iload 4), 2)) := by decide +kernel
theorem zd_L_law_1063 : zz_D zy_law_L 1063 (.iload 4) 2 1065 := ⟨zg_L_law_1063.1, rfl⟩
theorem zd_L_law_1065 : zz_D zy_law_L 1065 (.iconst 2) 1 1066 := ⟨zg_L_law_1063.2.1, rfl⟩
theorem zd_L_law_1066 : zz_D zy_law_L 1066 (.iadd) 1 1067 := ⟨zg_L_law_1063.2.2.1, rfl⟩
theorem zd_L_law_1067 : zz_D zy_law_L 1067 (.iaload) 1 1068 := ⟨zg_L_law_1063.2.2.2.1, rfl⟩
theorem zd_L_law_1068 : zz_D zy_law_L 1068 (.aload_n 3) 1 1069 := ⟨zg_L_law_1063.2.2.2.2.1, rfl⟩
theorem zd_L_law_1069 : zz_D zy_law_L 1069 (.invokestatic 194) 3 1072 := ⟨zg_L_law_1063.2.2.2.2.2.1, rfl⟩
theorem zd_L_law_1072 : zz_D zy_law_L 1072 (.istore 5) 2 1074 := ⟨zg_L_law_1063.2.2.2.2.2.2.1, rfl⟩
theorem zd_L_law_1074 : zz_D zy_law_L 1074 (.aload_n 2) 1 1075 := ⟨zg_L_law_1063.2.2.2.2.2.2.2.1, rfl⟩
theorem zd_L_law_1075 : zz_D zy_law_L 1075 (.aload_n 0) 1 1076 := ⟨zg_L_law_1063.2.2.2.2.2.2.2.2.1, rfl⟩
theorem zd_L_law_1076 : zz_D zy_law_L 1076 (.iload 4) 2 1078 := ⟨zg_L_law_1063.2.2.2.2.2.2.2.2.2, rfl⟩
theorem zg_L_law_1078 : (decode zy_law_L.2.1 1078 = .ok ((.iconst 1), 1)) ∧ (decode zy_law_L.2.1 1079 = .ok ((.iadd), 1)) ∧ (decode zy_law_L.2.1 1080 = .ok ((.iaload), 1)) ∧ (decode zy_law_L.2.1 1081 = .ok ((.aload_n 0), 1)) ∧ (decode zy_law_L.2.1 1082 = .ok ((.iload 4), 2)) ∧ (decode zy_law_L.2.1 1084 = .ok ((.iconst 2), 1)) ∧ (decode zy_law_L.2.1 1085 = .ok ((.iadd), 1)) ∧ (decode zy_law_L.2.1 1086 = .ok ((.iaload), 1)) ∧ (decode zy_law_L.2.1 1087 = .ok ((.invokevirtual 196), 3)) ∧ (decode zy_law_L.2.1 1090 = .ok ((.istore 6), 2)) := by decide +kernel
theorem zd_L_law_1078 : zz_D zy_law_L 1078 (.iconst 1) 1 1079 := ⟨zg_L_law_1078.1, rfl⟩
theorem zd_L_law_1079 : zz_D zy_law_L 1079 (.iadd) 1 1080 := ⟨zg_L_law_1078.2.1, rfl⟩
theorem zd_L_law_1080 : zz_D zy_law_L 1080 (.iaload) 1 1081 := ⟨zg_L_law_1078.2.2.1, rfl⟩
theorem zd_L_law_1081 : zz_D zy_law_L 1081 (.aload_n 0) 1 1082 := ⟨zg_L_law_1078.2.2.2.1, rfl⟩
theorem zd_L_law_1082 : zz_D zy_law_L 1082 (.iload 4) 2 1084 := ⟨zg_L_law_1078.2.2.2.2.1, rfl⟩
theorem zd_L_law_1084 : zz_D zy_law_L 1084 (.iconst 2) 1 1085 := ⟨zg_L_law_1078.2.2.2.2.2.1, rfl⟩
theorem zd_L_law_1085 : zz_D zy_law_L 1085 (.iadd) 1 1086 := ⟨zg_L_law_1078.2.2.2.2.2.2.1, rfl⟩
theorem zd_L_law_1086 : zz_D zy_law_L 1086 (.iaload) 1 1087 := ⟨zg_L_law_1078.2.2.2.2.2.2.2.1, rfl⟩
theorem zd_L_law_1087 : zz_D zy_law_L 1087 (.invokevirtual 196) 3 1090 := ⟨zg_L_law_1078.2.2.2.2.2.2.2.2.1, rfl⟩
theorem zd_L_law_1090 : zz_D zy_law_L 1090 (.istore 6) 2 1092 := ⟨zg_L_law_1078.2.2.2.2.2.2.2.2.2, rfl⟩
theorem zg_L_law_1092 : (decode zy_law_L.2.1 1092 = .ok (Instr.goto 99, 3)) ∧ (decode zy_law_L.2.1 1095 = .ok ((.aload_n 1), 1)) ∧ (decode zy_law_L.2.1 1096 = .ok ((.aload_n 3), 1)) ∧ (decode zy_law_L.2.1 1097 = .ok ((.invokestatic 197), 3)) ∧ (decode zy_law_L.2.1 1100 = .ok ((.istore 5), 2)) ∧ (decode zy_law_L.2.1 1102 = .ok ((.aload_n 2), 1)) ∧ (decode zy_law_L.2.1 1103 = .ok ((.invokevirtual 199), 3)) ∧ (decode zy_law_L.2.1 1106 = .ok ((.istore 6), 2)) ∧ (decode zy_law_L.2.1 1108 = .ok (Instr.goto 83, 3)) ∧ (decode zy_law_L.2.1 1111 = .ok ((.aload_n 1), 1)) := by decide +kernel
theorem zd_L_law_1092 : zz_B zy_law_L 1092 Instr.goto 1191 1095 := ⟨99, zg_L_law_1092.1, rfl, rfl⟩
theorem zd_L_law_1095 : zz_D zy_law_L 1095 (.aload_n 1) 1 1096 := ⟨zg_L_law_1092.2.1, rfl⟩
theorem zd_L_law_1096 : zz_D zy_law_L 1096 (.aload_n 3) 1 1097 := ⟨zg_L_law_1092.2.2.1, rfl⟩
theorem zd_L_law_1097 : zz_D zy_law_L 1097 (.invokestatic 197) 3 1100 := ⟨zg_L_law_1092.2.2.2.1, rfl⟩
theorem zd_L_law_1100 : zz_D zy_law_L 1100 (.istore 5) 2 1102 := ⟨zg_L_law_1092.2.2.2.2.1, rfl⟩
theorem zd_L_law_1102 : zz_D zy_law_L 1102 (.aload_n 2) 1 1103 := ⟨zg_L_law_1092.2.2.2.2.2.1, rfl⟩
theorem zd_L_law_1103 : zz_D zy_law_L 1103 (.invokevirtual 199) 3 1106 := ⟨zg_L_law_1092.2.2.2.2.2.2.1, rfl⟩
theorem zd_L_law_1106 : zz_D zy_law_L 1106 (.istore 6) 2 1108 := ⟨zg_L_law_1092.2.2.2.2.2.2.2.1, rfl⟩
theorem zd_L_law_1108 : zz_B zy_law_L 1108 Instr.goto 1191 1111 := ⟨83, zg_L_law_1092.2.2.2.2.2.2.2.2.1, rfl, rfl⟩
theorem zd_L_law_1111 : zz_D zy_law_L 1111 (.aload_n 1) 1 1112 := ⟨zg_L_law_1092.2.2.2.2.2.2.2.2.2, rfl⟩
theorem zg_L_law_1112 : (decode zy_law_L.2.1 1112 = .ok ((.aload_n 0), 1)) ∧ (decode zy_law_L.2.1 1113 = .ok ((.iload 4), 2)) ∧ (decode zy_law_L.2.1 1115 = .ok ((.iconst 1), 1)) ∧ (decode zy_law_L.2.1 1116 = .ok ((.iadd), 1)) ∧ (decode zy_law_L.2.1 1117 = .ok ((.iaload), 1)) ∧ (decode zy_law_L.2.1 1118 = .ok ((.aload_n 0), 1)) ∧ (decode zy_law_L.2.1 1119 = .ok ((.iload 4), 2)) ∧ (decode zy_law_L.2.1 1121 = .ok ((.iconst 2), 1)) ∧ (decode zy_law_L.2.1 1122 = .ok ((.iadd), 1)) ∧ (decode zy_law_L.2.1 1123 = .ok ((.iaload), 1)) := by decide +kernel
theorem zd_L_law_1112 : zz_D zy_law_L 1112 (.aload_n 0) 1 1113 := ⟨zg_L_law_1112.1, rfl⟩
theorem zd_L_law_1113 : zz_D zy_law_L 1113 (.iload 4) 2 1115 := ⟨zg_L_law_1112.2.1, rfl⟩
theorem zd_L_law_1115 : zz_D zy_law_L 1115 (.iconst 1) 1 1116 := ⟨zg_L_law_1112.2.2.1, rfl⟩
theorem zd_L_law_1116 : zz_D zy_law_L 1116 (.iadd) 1 1117 := ⟨zg_L_law_1112.2.2.2.1, rfl⟩
theorem zd_L_law_1117 : zz_D zy_law_L 1117 (.iaload) 1 1118 := ⟨zg_L_law_1112.2.2.2.2.1, rfl⟩
theorem zd_L_law_1118 : zz_D zy_law_L 1118 (.aload_n 0) 1 1119 := ⟨zg_L_law_1112.2.2.2.2.2.1, rfl⟩
theorem zd_L_law_1119 : zz_D zy_law_L 1119 (.iload 4) 2 1121 := ⟨zg_L_law_1112.2.2.2.2.2.2.1, rfl⟩
theorem zd_L_law_1121 : zz_D zy_law_L 1121 (.iconst 2) 1 1122 := ⟨zg_L_law_1112.2.2.2.2.2.2.2.1, rfl⟩
theorem zd_L_law_1122 : zz_D zy_law_L 1122 (.iadd) 1 1123 := ⟨zg_L_law_1112.2.2.2.2.2.2.2.2.1, rfl⟩
theorem zd_L_law_1123 : zz_D zy_law_L 1123 (.iaload) 1 1124 := ⟨zg_L_law_1112.2.2.2.2.2.2.2.2.2, rfl⟩
theorem zg_L_law_1124 : (decode zy_law_L.2.1 1124 = .ok ((.aload_n 3), 1)) ∧ (decode zy_law_L.2.1 1125 = .ok ((.invokestatic 200), 3)) ∧ (decode zy_law_L.2.1 1128 = .ok ((.istore 5), 2)) ∧ (decode zy_law_L.2.1 1130 = .ok ((.aload_n 2), 1)) ∧ (decode zy_law_L.2.1 1131 = .ok ((.aload_n 0), 1)) ∧ (decode zy_law_L.2.1 1132 = .ok ((.iload 4), 2)) ∧ (decode zy_law_L.2.1 1134 = .ok ((.iconst 1), 1)) ∧ (decode zy_law_L.2.1 1135 = .ok ((.iadd), 1)) ∧ (decode zy_law_L.2.1 1136 = .ok ((.iaload), 1)) ∧ (decode zy_law_L.2.1 1137 = .ok ((.aload_n 0), 1)) := by decide +kernel
theorem zd_L_law_1124 : zz_D zy_law_L 1124 (.aload_n 3) 1 1125 := ⟨zg_L_law_1124.1, rfl⟩
theorem zd_L_law_1125 : zz_D zy_law_L 1125 (.invokestatic 200) 3 1128 := ⟨zg_L_law_1124.2.1, rfl⟩
theorem zd_L_law_1128 : zz_D zy_law_L 1128 (.istore 5) 2 1130 := ⟨zg_L_law_1124.2.2.1, rfl⟩
theorem zd_L_law_1130 : zz_D zy_law_L 1130 (.aload_n 2) 1 1131 := ⟨zg_L_law_1124.2.2.2.1, rfl⟩
theorem zd_L_law_1131 : zz_D zy_law_L 1131 (.aload_n 0) 1 1132 := ⟨zg_L_law_1124.2.2.2.2.1, rfl⟩
theorem zd_L_law_1132 : zz_D zy_law_L 1132 (.iload 4) 2 1134 := ⟨zg_L_law_1124.2.2.2.2.2.1, rfl⟩
theorem zd_L_law_1134 : zz_D zy_law_L 1134 (.iconst 1) 1 1135 := ⟨zg_L_law_1124.2.2.2.2.2.2.1, rfl⟩
theorem zd_L_law_1135 : zz_D zy_law_L 1135 (.iadd) 1 1136 := ⟨zg_L_law_1124.2.2.2.2.2.2.2.1, rfl⟩
theorem zd_L_law_1136 : zz_D zy_law_L 1136 (.iaload) 1 1137 := ⟨zg_L_law_1124.2.2.2.2.2.2.2.2.1, rfl⟩
theorem zd_L_law_1137 : zz_D zy_law_L 1137 (.aload_n 0) 1 1138 := ⟨zg_L_law_1124.2.2.2.2.2.2.2.2.2, rfl⟩
theorem zg_L_law_1138 : (decode zy_law_L.2.1 1138 = .ok ((.iload 4), 2)) ∧ (decode zy_law_L.2.1 1140 = .ok ((.iconst 2), 1)) ∧ (decode zy_law_L.2.1 1141 = .ok ((.iadd), 1)) ∧ (decode zy_law_L.2.1 1142 = .ok ((.iaload), 1)) ∧ (decode zy_law_L.2.1 1143 = .ok ((.invokevirtual 202), 3)) ∧ (decode zy_law_L.2.1 1146 = .ok ((.istore 6), 2)) ∧ (decode zy_law_L.2.1 1148 = .ok (Instr.goto 43, 3)) ∧ (decode zy_law_L.2.1 1151 = .ok ((.aload_n 1), 1)) ∧ (decode zy_law_L.2.1 1152 = .ok ((.aload_n 0), 1)) ∧ (decode zy_law_L.2.1 1153 = .ok ((.iload 4), 2)) := by decide +kernel
theorem zd_L_law_1138 : zz_D zy_law_L 1138 (.iload 4) 2 1140 := ⟨zg_L_law_1138.1, rfl⟩
theorem zd_L_law_1140 : zz_D zy_law_L 1140 (.iconst 2) 1 1141 := ⟨zg_L_law_1138.2.1, rfl⟩
theorem zd_L_law_1141 : zz_D zy_law_L 1141 (.iadd) 1 1142 := ⟨zg_L_law_1138.2.2.1, rfl⟩
theorem zd_L_law_1142 : zz_D zy_law_L 1142 (.iaload) 1 1143 := ⟨zg_L_law_1138.2.2.2.1, rfl⟩
theorem zd_L_law_1143 : zz_D zy_law_L 1143 (.invokevirtual 202) 3 1146 := ⟨zg_L_law_1138.2.2.2.2.1, rfl⟩
theorem zd_L_law_1146 : zz_D zy_law_L 1146 (.istore 6) 2 1148 := ⟨zg_L_law_1138.2.2.2.2.2.1, rfl⟩
theorem zd_L_law_1148 : zz_B zy_law_L 1148 Instr.goto 1191 1151 := ⟨43, zg_L_law_1138.2.2.2.2.2.2.1, rfl, rfl⟩
theorem zd_L_law_1151 : zz_D zy_law_L 1151 (.aload_n 1) 1 1152 := ⟨zg_L_law_1138.2.2.2.2.2.2.2.1, rfl⟩
theorem zd_L_law_1152 : zz_D zy_law_L 1152 (.aload_n 0) 1 1153 := ⟨zg_L_law_1138.2.2.2.2.2.2.2.2.1, rfl⟩
theorem zd_L_law_1153 : zz_D zy_law_L 1153 (.iload 4) 2 1155 := ⟨zg_L_law_1138.2.2.2.2.2.2.2.2.2, rfl⟩
theorem zg_L_law_1155 : (decode zy_law_L.2.1 1155 = .ok ((.iconst 1), 1)) ∧ (decode zy_law_L.2.1 1156 = .ok ((.iadd), 1)) ∧ (decode zy_law_L.2.1 1157 = .ok ((.iaload), 1)) ∧ (decode zy_law_L.2.1 1158 = .ok ((.aload_n 0), 1)) ∧ (decode zy_law_L.2.1 1159 = .ok ((.iload 4), 2)) ∧ (decode zy_law_L.2.1 1161 = .ok ((.iconst 2), 1)) ∧ (decode zy_law_L.2.1 1162 = .ok ((.iadd), 1)) ∧ (decode zy_law_L.2.1 1163 = .ok ((.iaload), 1)) ∧ (decode zy_law_L.2.1 1164 = .ok ((.aload_n 3), 1)) ∧ (decode zy_law_L.2.1 1165 = .ok ((.invokestatic 203), 3)) := by decide +kernel
theorem zd_L_law_1155 : zz_D zy_law_L 1155 (.iconst 1) 1 1156 := ⟨zg_L_law_1155.1, rfl⟩
theorem zd_L_law_1156 : zz_D zy_law_L 1156 (.iadd) 1 1157 := ⟨zg_L_law_1155.2.1, rfl⟩
theorem zd_L_law_1157 : zz_D zy_law_L 1157 (.iaload) 1 1158 := ⟨zg_L_law_1155.2.2.1, rfl⟩
theorem zd_L_law_1158 : zz_D zy_law_L 1158 (.aload_n 0) 1 1159 := ⟨zg_L_law_1155.2.2.2.1, rfl⟩
theorem zd_L_law_1159 : zz_D zy_law_L 1159 (.iload 4) 2 1161 := ⟨zg_L_law_1155.2.2.2.2.1, rfl⟩
theorem zd_L_law_1161 : zz_D zy_law_L 1161 (.iconst 2) 1 1162 := ⟨zg_L_law_1155.2.2.2.2.2.1, rfl⟩
theorem zd_L_law_1162 : zz_D zy_law_L 1162 (.iadd) 1 1163 := ⟨zg_L_law_1155.2.2.2.2.2.2.1, rfl⟩
theorem zd_L_law_1163 : zz_D zy_law_L 1163 (.iaload) 1 1164 := ⟨zg_L_law_1155.2.2.2.2.2.2.2.1, rfl⟩
theorem zd_L_law_1164 : zz_D zy_law_L 1164 (.aload_n 3) 1 1165 := ⟨zg_L_law_1155.2.2.2.2.2.2.2.2.1, rfl⟩
theorem zd_L_law_1165 : zz_D zy_law_L 1165 (.invokestatic 203) 3 1168 := ⟨zg_L_law_1155.2.2.2.2.2.2.2.2.2, rfl⟩
theorem zg_L_law_1168 : (decode zy_law_L.2.1 1168 = .ok ((.istore 5), 2)) ∧ (decode zy_law_L.2.1 1170 = .ok ((.aload_n 2), 1)) ∧ (decode zy_law_L.2.1 1171 = .ok ((.aload_n 0), 1)) ∧ (decode zy_law_L.2.1 1172 = .ok ((.iload 4), 2)) ∧ (decode zy_law_L.2.1 1174 = .ok ((.iconst 1), 1)) ∧ (decode zy_law_L.2.1 1175 = .ok ((.iadd), 1)) ∧ (decode zy_law_L.2.1 1176 = .ok ((.iaload), 1)) ∧ (decode zy_law_L.2.1 1177 = .ok ((.aload_n 0), 1)) ∧ (decode zy_law_L.2.1 1178 = .ok ((.iload 4), 2)) ∧ (decode zy_law_L.2.1 1180 = .ok ((.iconst 2), 1)) := by decide +kernel
theorem zd_L_law_1168 : zz_D zy_law_L 1168 (.istore 5) 2 1170 := ⟨zg_L_law_1168.1, rfl⟩
theorem zd_L_law_1170 : zz_D zy_law_L 1170 (.aload_n 2) 1 1171 := ⟨zg_L_law_1168.2.1, rfl⟩
theorem zd_L_law_1171 : zz_D zy_law_L 1171 (.aload_n 0) 1 1172 := ⟨zg_L_law_1168.2.2.1, rfl⟩
theorem zd_L_law_1172 : zz_D zy_law_L 1172 (.iload 4) 2 1174 := ⟨zg_L_law_1168.2.2.2.1, rfl⟩
theorem zd_L_law_1174 : zz_D zy_law_L 1174 (.iconst 1) 1 1175 := ⟨zg_L_law_1168.2.2.2.2.1, rfl⟩
theorem zd_L_law_1175 : zz_D zy_law_L 1175 (.iadd) 1 1176 := ⟨zg_L_law_1168.2.2.2.2.2.1, rfl⟩
theorem zd_L_law_1176 : zz_D zy_law_L 1176 (.iaload) 1 1177 := ⟨zg_L_law_1168.2.2.2.2.2.2.1, rfl⟩
theorem zd_L_law_1177 : zz_D zy_law_L 1177 (.aload_n 0) 1 1178 := ⟨zg_L_law_1168.2.2.2.2.2.2.2.1, rfl⟩
theorem zd_L_law_1178 : zz_D zy_law_L 1178 (.iload 4) 2 1180 := ⟨zg_L_law_1168.2.2.2.2.2.2.2.2.1, rfl⟩
theorem zd_L_law_1180 : zz_D zy_law_L 1180 (.iconst 2) 1 1181 := ⟨zg_L_law_1168.2.2.2.2.2.2.2.2.2, rfl⟩
theorem zg_L_law_1181 : (decode zy_law_L.2.1 1181 = .ok ((.iadd), 1)) ∧ (decode zy_law_L.2.1 1182 = .ok ((.iaload), 1)) ∧ (decode zy_law_L.2.1 1183 = .ok ((.invokevirtual 205), 3)) ∧ (decode zy_law_L.2.1 1186 = .ok ((.istore 6), 2)) ∧ (decode zy_law_L.2.1 1188 = .ok (Instr.goto 3, 3)) := by decide +kernel
theorem zd_L_law_1181 : zz_D zy_law_L 1181 (.iadd) 1 1182 := ⟨zg_L_law_1181.1, rfl⟩
theorem zd_L_law_1182 : zz_D zy_law_L 1182 (.iaload) 1 1183 := ⟨zg_L_law_1181.2.1, rfl⟩
theorem zd_L_law_1183 : zz_D zy_law_L 1183 (.invokevirtual 205) 3 1186 := ⟨zg_L_law_1181.2.2.1, rfl⟩
theorem zd_L_law_1186 : zz_D zy_law_L 1186 (.istore 6) 2 1188 := ⟨zg_L_law_1181.2.2.2.1, rfl⟩
theorem zd_L_law_1188 : zz_B zy_law_L 1188 Instr.goto 1191 1191 := ⟨3, zg_L_law_1181.2.2.2.2, rfl, rfl⟩
theorem zl_0 {g : mm_G} {l : Launch} (hfl : l.flags = flags0) (hlen : g.2.2.2 997 ≤ 3584) (N : Nat) (ih : ∀ (x4 : Int) (S : zz_S) (n k j : Nat), zz_G S → zz_Hc S → zz_Hr S → 1 ≤ S 1079 36 → zz_end ≤ n → (0 ≤ x4 ∧ x4 ≤ 3590) → (k : Int) ≤ 200 + x4 → (j : Int) ≤ 30000 + 6 * x4 → (3600 - x4).toNat < N → zz_E g l zy_law_L room_1 (fun u => ∃ M1 n1, u = (.inl (some (zi 1)), M1, n1)) S n 23 [some (.ref 998), some (.ref 1000), some (.ref 1079), some (.ref 1121), some (zi x4)] [] k j) (x4 : Int) (S : zz_S) (n k j : Nat) (G_S : zz_G S) (H_S : zz_Hc S) (R_S : zz_Hr S) (O_S : 1 ≤ S 1079 36) (hn : zz_end ≤ n) (hx : 0 ≤ x4 ∧ x4 ≤ 3590) (hkk : (k : Int) ≤ 200 + x4) (hjj : (j : Int) ≤ 30000 + 6 * x4) (hR : (3600 - x4).toNat < N + 1) (hc1 : x4 ≤ zz_ln g - 7) : zz_E g l zy_law_L room_1 (fun u => ∃ M1 n1, u = (.inl (some (zi 1)), M1, n1)) S n 168 [some (.ref 998), some (.ref 1000), some (.ref 1079), some (.ref 1121), some (zi x4)] [] k j := by
  have hln : 0 ≤ zz_ln g ∧ zz_ln g ≤ 3584 := ⟨Int.natCast_nonneg _, Int.ofNat_le.mpr hlen⟩
  have hk : k ≤ 601024 := by omega
  have hj : j ≤ 7293034 := by omega
  refine zz_aload_n (x := 1000) rfl zd_L_law_168 ?_
  refine zz_aload_n (x := 998) rfl zd_L_law_169 ?_
  refine zz_iload (x := x4) rfl zd_L_law_170 ?_
  refine zz_iconst zd_L_law_172 ?_
  refine zz_iadd zd_L_law_173 ?_
  refine zz_sld (by omega) zd_L_law_174 (by omega) ?_
  have g5 := zz_sc_r g (x4 + 1).toNat
  refine zz_callHW (rz := zr_side_L) [.ref 1000, zi (zz_sc g (x4 + 1).toNat)] zd_L_law_175 zhl_side_L rfl rfl ⟨Nat.le_of_ble_eq_true rfl, Nat.le_of_ble_eq_true rfl⟩ (by show k + 1 ≤ 601024; omega) (by show j + 6 ≤ 7293034; omega) (zc_side_L (zz_sc g (x4 + 1).toNat) S (n) hn hfl G_S (by omega) H_S) (fun v7 S6 d8 hd8 hP => ?_)
  obtain ⟨G_S6, fS6, rv7, o9, o10⟩ := hP
  have g11 := zz_G.r G_S 1000 7 0 1 rfl rfl
  have hn12 : zz_end ≤ n + d8 := by omega
  have hk13 : (k + zr_side_L.cells) ≤ 601024 := by show k + 1 ≤ 601024; omega
  have hj14 : (j + zr_side_L.slots) ≤ 7293034 := by show j + 6 ≤ 7293034; omega
  have H_S6 : zz_Hc S6 := o10
  have R_S6 : zz_Hr S6 := zz_Hr.fr fS6 rfl rfl (fun b q h => by have h0_ := zz_rf3 (z := (S 1000 7)) (by omega); omega) R_S
  have O_S6 : 1 ≤ S6 1079 36 := by rw [show S6 1079 36 = S 1079 36 from zz_rc fS6 rfl rfl (by have h0_ := zz_rf3 (z := (S 1000 7)) (by omega); omega) rfl]; exact O_S
  refine zz_istore [some (.ref 998), some (.ref 1000), some (.ref 1079), some (.ref 1121), some (zi x4), some (zi v7)] zd_L_law_178 (by decide) rfl ?_
  refine zz_aload_n (x := 1079) rfl zd_L_law_180 ?_
  refine zz_aload_n (x := 998) rfl zd_L_law_181 ?_
  refine zz_iload (x := x4) rfl zd_L_law_182 ?_
  refine zz_iconst zd_L_law_184 ?_
  refine zz_iadd zd_L_law_185 ?_
  refine zz_sld (by omega) zd_L_law_186 (by omega) ?_
  have g15 := zz_G.r G_S 1079 36 0 11 rfl rfl
  have e16 : S6 1079 36 = S 1079 36 := (zz_rc fS6 rfl rfl (by omega) rfl)
  refine zz_callVV [zi (zz_sc g (x4 + 1).toNat)] zd_L_law_187 zk_TFLaw_103 zT_1079 (zz_ltn hn12 rfl) rfl rfl ⟨Nat.le_of_ble_eq_true rfl, Nat.le_of_ble_eq_true rfl⟩ ⟨rfl, rfl⟩ hk13 hj14 (zc_side_14_6 (zz_sc g (x4 + 1).toNat) S6 (n + d8) hn12 G_S6 (by omega) R_S6 (by omega)) (fun S17 hP => ?_)
  obtain ⟨G_S17, fS17, o19, o20, o21⟩ := hP
  have H_S17 : zz_Hc S17 := zz_Hc.fr (q := 0) fS17 rfl rfl G_S6 (by decide) rfl (fun b q h => h.elim) H_S6
  have R_S17 : zz_Hr S17 := o21
  have O_S17 : 1 ≤ S17 1079 36 := by omega
  refine zz_goto zd_L_law_190 ?_
  refine zz_iinc [some (.ref 998), some (.ref 1000), some (.ref 1079), some (.ref 1121), some (zi (x4 + 7)), some (zi v7)] zd_L_law_1191 rfl rfl ?_
  refine zz_goto zd_L_law_1194 ?_
  refine zz_less (ls1 := [some (.ref 998), some (.ref 1000), some (.ref 1079), some (.ref 1121), some (zi (x4 + 7))]) ⟨rfl, ⟨rfl, ⟨rfl, ⟨rfl, ⟨rfl, trivial⟩⟩⟩⟩⟩ ?_
  exact ih (x4 + 7) S17 (n + d8) (k + zr_side_L.cells) (j + zr_side_L.slots) G_S17 H_S17 R_S17 O_S17 hn12 (by omega) (by show ((k + 1 : Nat) : Int) ≤ 200 + (x4 + 7); omega) (by show ((j + 6 : Nat) : Int) ≤ 30000 + 6 * (x4 + 7); omega) (by omega)
theorem zl_1 {g : mm_G} {l : Launch} (hfl : l.flags = flags0) (hlen : g.2.2.2 997 ≤ 3584) (N : Nat) (ih : ∀ (x4 : Int) (S : zz_S) (n k j : Nat), zz_G S → zz_Hc S → zz_Hr S → 1 ≤ S 1079 36 → zz_end ≤ n → (0 ≤ x4 ∧ x4 ≤ 3590) → (k : Int) ≤ 200 + x4 → (j : Int) ≤ 30000 + 6 * x4 → (3600 - x4).toNat < N → zz_E g l zy_law_L room_1 (fun u => ∃ M1 n1, u = (.inl (some (zi 1)), M1, n1)) S n 23 [some (.ref 998), some (.ref 1000), some (.ref 1079), some (.ref 1121), some (zi x4)] [] k j) (x4 : Int) (S : zz_S) (n k j : Nat) (G_S : zz_G S) (H_S : zz_Hc S) (R_S : zz_Hr S) (O_S : 1 ≤ S 1079 36) (hn : zz_end ≤ n) (hx : 0 ≤ x4 ∧ x4 ≤ 3590) (hkk : (k : Int) ≤ 200 + x4) (hjj : (j : Int) ≤ 30000 + 6 * x4) (hR : (3600 - x4).toNat < N + 1) (hc1 : x4 ≤ zz_ln g - 7) : zz_E g l zy_law_L room_1 (fun u => ∃ M1 n1, u = (.inl (some (zi 1)), M1, n1)) S n 193 [some (.ref 998), some (.ref 1000), some (.ref 1079), some (.ref 1121), some (zi x4)] [] k j := by
  have hln : 0 ≤ zz_ln g ∧ zz_ln g ≤ 3584 := ⟨Int.natCast_nonneg _, Int.ofNat_le.mpr hlen⟩
  have hk : k ≤ 601024 := by omega
  have hj : j ≤ 7293034 := by omega
  refine zz_aload_n (x := 1000) rfl zd_L_law_193 ?_
  refine zz_aload_n (x := 998) rfl zd_L_law_194 ?_
  refine zz_iload (x := x4) rfl zd_L_law_195 ?_
  refine zz_iconst zd_L_law_197 ?_
  refine zz_iadd zd_L_law_198 ?_
  refine zz_sld (by omega) zd_L_law_199 (by omega) ?_
  have g23 := zz_sc_r g (x4 + 1).toNat
  refine zz_aload_n (x := 998) rfl zd_L_law_200 ?_
  refine zz_iload (x := x4) rfl zd_L_law_201 ?_
  refine zz_iconst zd_L_law_203 ?_
  refine zz_iadd zd_L_law_204 ?_
  refine zz_sld (by omega) zd_L_law_205 (by omega) ?_
  have g24 := zz_sc_r g (x4 + 2).toNat
  refine zz_callHW (rz := zr_memory_L) [.ref 1000, zi (zz_sc g (x4 + 1).toNat), zi (zz_sc g (x4 + 2).toNat)] zd_L_law_206 zhl_memory_L rfl rfl ⟨Nat.le_of_ble_eq_true rfl, Nat.le_of_ble_eq_true rfl⟩ (by show k + 1 ≤ 601024; omega) (by show j + 6 ≤ 7293034; omega) (zc_memory_L (zz_sc g (x4 + 1).toNat) (zz_sc g (x4 + 2).toNat) S (n) hn hfl G_S (by omega) (by omega)) (fun v26 S25 d27 hd27 hP => ?_)
  obtain ⟨G_S25, fS25, rv26, o28⟩ := hP
  have hn29 : zz_end ≤ n + d27 := by omega
  have hk30 : (k + zr_memory_L.cells) ≤ 601024 := by show k + 1 ≤ 601024; omega
  have hj31 : (j + zr_memory_L.slots) ≤ 7293034 := by show j + 6 ≤ 7293034; omega
  have H_S25 : zz_Hc S25 := zz_Hc.fr (q := 0) fS25 rfl rfl G_S (by decide) rfl (fun b q h => h.elim) H_S
  have R_S25 : zz_Hr S25 := zz_Hr.fr fS25 rfl rfl (fun b q h => h.elim) R_S
  have O_S25 : 1 ≤ S25 1079 36 := by rw [show S25 1079 36 = S 1079 36 from zz_rc fS25 rfl rfl (fun h => h) rfl]; exact O_S
  refine zz_istore [some (.ref 998), some (.ref 1000), some (.ref 1079), some (.ref 1121), some (zi x4), some (zi v26)] zd_L_law_209 (by decide) rfl ?_
  refine zz_aload_n (x := 1079) rfl zd_L_law_211 ?_
  refine zz_aload_n (x := 998) rfl zd_L_law_212 ?_
  refine zz_iload (x := x4) rfl zd_L_law_213 ?_
  refine zz_iconst zd_L_law_215 ?_
  refine zz_iadd zd_L_law_216 ?_
  refine zz_sld (by omega) zd_L_law_217 (by omega) ?_
  refine zz_aload_n (x := 998) rfl zd_L_law_218 ?_
  refine zz_iload (x := x4) rfl zd_L_law_219 ?_
  refine zz_iconst zd_L_law_221 ?_
  refine zz_iadd zd_L_law_222 ?_
  refine zz_sld (by omega) zd_L_law_223 (by omega) ?_
  refine zz_callVV [zi (zz_sc g (x4 + 1).toNat), zi (zz_sc g (x4 + 2).toNat)] zd_L_law_224 zk_TFLaw_107 zT_1079 (zz_ltn hn29 rfl) rfl rfl ⟨Nat.le_of_ble_eq_true rfl, Nat.le_of_ble_eq_true rfl⟩ ⟨rfl, rfl⟩ hk30 hj31 (zc_memory_14_8 (zz_sc g (x4 + 1).toNat) (zz_sc g (x4 + 2).toNat) S25 (n + d27) hn29 G_S25 (by omega) (by omega)) (fun S32 hP => ?_)
  obtain ⟨G_S32, fS32, o34⟩ := hP
  have H_S32 : zz_Hc S32 := zz_Hc.fr (q := 0) fS32 rfl rfl G_S25 (by decide) rfl (fun b q h => h.elim) H_S25
  have R_S32 : zz_Hr S32 := zz_Hr.fr fS32 rfl rfl (fun b q h => h.elim) R_S25
  have O_S32 : 1 ≤ S32 1079 36 := by rw [show S32 1079 36 = S25 1079 36 from zz_rc fS32 rfl rfl (fun h => h) rfl]; exact O_S25
  refine zz_aload_n (x := 1079) rfl zd_L_law_227 ?_
  have g35 := zz_G.r G_S32 1079 0 0 3 rfl rfl
  refine zz_callVI [] zd_L_law_228 zk_TFLaw_108 zT_1079 (zz_ltn hn29 rfl) rfl rfl ⟨Nat.le_of_ble_eq_true rfl, Nat.le_of_ble_eq_true rfl⟩ ⟨rfl, rfl⟩ hk30 hj31 (zc_thrown_14_2  S32 (n + d27) hn29 G_S32 ) (fun v37 S36 hP => ?_)
  obtain ⟨rfl, o38, o39⟩ := hP
  refine zz_iload (x := v26) rfl zd_L_law_231 ?_
  refine zz_icmp_eq (by omega) (by omega) zd_L_law_233 (fun c40 => ?_) (fun c40 => ?_)
  · refine zz_goto zd_L_law_238 ?_
    refine zz_iinc [some (.ref 998), some (.ref 1000), some (.ref 1079), some (.ref 1121), some (zi (x4 + 7)), some (zi v26)] zd_L_law_1191 rfl rfl ?_
    refine zz_goto zd_L_law_1194 ?_
    refine zz_less (ls1 := [some (.ref 998), some (.ref 1000), some (.ref 1079), some (.ref 1121), some (zi (x4 + 7))]) ⟨rfl, ⟨rfl, ⟨rfl, ⟨rfl, ⟨rfl, trivial⟩⟩⟩⟩⟩ ?_
    exact ih (x4 + 7) S32 (n + d27) (k + zr_memory_L.cells) (j + zr_memory_L.slots) G_S32 H_S32 R_S32 O_S32 hn29 (by omega) (by show ((k + 1 : Nat) : Int) ≤ 200 + (x4 + 7); omega) (by show ((j + 6 : Nat) : Int) ≤ 30000 + 6 * (x4 + 7); omega) (by omega)
  · exfalso; omega
theorem zl_2 {g : mm_G} {l : Launch} (hfl : l.flags = flags0) (hlen : g.2.2.2 997 ≤ 3584) (N : Nat) (ih : ∀ (x4 : Int) (S : zz_S) (n k j : Nat), zz_G S → zz_Hc S → zz_Hr S → 1 ≤ S 1079 36 → zz_end ≤ n → (0 ≤ x4 ∧ x4 ≤ 3590) → (k : Int) ≤ 200 + x4 → (j : Int) ≤ 30000 + 6 * x4 → (3600 - x4).toNat < N → zz_E g l zy_law_L room_1 (fun u => ∃ M1 n1, u = (.inl (some (zi 1)), M1, n1)) S n 23 [some (.ref 998), some (.ref 1000), some (.ref 1079), some (.ref 1121), some (zi x4)] [] k j) (x4 : Int) (S : zz_S) (n k j : Nat) (G_S : zz_G S) (H_S : zz_Hc S) (R_S : zz_Hr S) (O_S : 1 ≤ S 1079 36) (hn : zz_end ≤ n) (hx : 0 ≤ x4 ∧ x4 ≤ 3590) (hkk : (k : Int) ≤ 200 + x4) (hjj : (j : Int) ≤ 30000 + 6 * x4) (hR : (3600 - x4).toNat < N + 1) (hc1 : x4 ≤ zz_ln g - 7) : zz_E g l zy_law_L room_1 (fun u => ∃ M1 n1, u = (.inl (some (zi 1)), M1, n1)) S n 241 [some (.ref 998), some (.ref 1000), some (.ref 1079), some (.ref 1121), some (zi x4)] [] k j := by
  have hln : 0 ≤ zz_ln g ∧ zz_ln g ≤ 3584 := ⟨Int.natCast_nonneg _, Int.ofNat_le.mpr hlen⟩
  have hk : k ≤ 601024 := by omega
  have hj : j ≤ 7293034 := by omega
  refine zz_aload_n (x := 1000) rfl zd_L_law_241 ?_
  refine zz_aload_n (x := 998) rfl zd_L_law_242 ?_
  refine zz_iload (x := x4) rfl zd_L_law_243 ?_
  refine zz_iconst zd_L_law_245 ?_
  refine zz_iadd zd_L_law_246 ?_
  refine zz_sld (by omega) zd_L_law_247 (by omega) ?_
  have g42 := zz_sc_r g (x4 + 1).toNat
  refine zz_aload_n (x := 998) rfl zd_L_law_248 ?_
  refine zz_iload (x := x4) rfl zd_L_law_249 ?_
  refine zz_iconst zd_L_law_251 ?_
  refine zz_iadd zd_L_law_252 ?_
  refine zz_sld (by omega) zd_L_law_253 (by omega) ?_
  have g43 := zz_sc_r g (x4 + 2).toNat
  refine zz_aload_n (x := 1121) rfl zd_L_law_254 ?_
  refine zz_callHW (rz := zr_look_L) [.ref 1000, zi (zz_sc g (x4 + 1).toNat), zi (zz_sc g (x4 + 2).toNat), .ref 1121] zd_L_law_255 zhl_look_L rfl rfl ⟨Nat.le_of_ble_eq_true rfl, Nat.le_of_ble_eq_true rfl⟩ (by show k + 1 ≤ 601024; omega) (by show j + 6 ≤ 7293034; omega) (zc_look_L (zz_sc g (x4 + 1).toNat) (zz_sc g (x4 + 2).toNat) S (n) hn hfl G_S (by omega) (by omega)) (fun v45 S44 d46 hd46 hP => ?_)
  obtain ⟨G_S44, fS44, rv45⟩ := hP
  have hn47 : zz_end ≤ n + d46 := by omega
  have hk48 : (k + zr_look_L.cells) ≤ 601024 := by show k + 1 ≤ 601024; omega
  have hj49 : (j + zr_look_L.slots) ≤ 7293034 := by show j + 6 ≤ 7293034; omega
  have H_S44 : zz_Hc S44 := zz_Hc.fr (q := 0) fS44 rfl rfl G_S (by decide) rfl (fun b q h => h.elim) H_S
  have R_S44 : zz_Hr S44 := zz_Hr.fr fS44 rfl rfl (fun b q h => h.elim) R_S
  have O_S44 : 1 ≤ S44 1079 36 := by rw [show S44 1079 36 = S 1079 36 from zz_rc fS44 rfl rfl (fun h => h) rfl]; exact O_S
  refine zz_istore [some (.ref 998), some (.ref 1000), some (.ref 1079), some (.ref 1121), some (zi x4), some (zi v45)] zd_L_law_258 (by decide) rfl ?_
  refine zz_aload_n (x := 1079) rfl zd_L_law_260 ?_
  refine zz_aload_n (x := 998) rfl zd_L_law_261 ?_
  refine zz_iload (x := x4) rfl zd_L_law_262 ?_
  refine zz_iconst zd_L_law_264 ?_
  refine zz_iadd zd_L_law_265 ?_
  refine zz_sld (by omega) zd_L_law_266 (by omega) ?_
  refine zz_aload_n (x := 998) rfl zd_L_law_267 ?_
  refine zz_iload (x := x4) rfl zd_L_law_268 ?_
  refine zz_iconst zd_L_law_270 ?_
  refine zz_iadd zd_L_law_271 ?_
  refine zz_sld (by omega) zd_L_law_272 (by omega) ?_
  refine zz_callVI [zi (zz_sc g (x4 + 1).toNat), zi (zz_sc g (x4 + 2).toNat)] zd_L_law_273 zk_TFLaw_114 zT_1079 (zz_ltn hn47 rfl) rfl rfl ⟨Nat.le_of_ble_eq_true rfl, Nat.le_of_ble_eq_true rfl⟩ ⟨rfl, rfl⟩ hk48 hj49 (zc_look_14_10 (zz_sc g (x4 + 1).toNat) (zz_sc g (x4 + 2).toNat) S44 (n + d46) hn47 G_S44 (by omega) (by omega)) (fun v51 S50 hP => ?_)
  obtain ⟨G_S50, fS50, o52⟩ := hP
  have H_S50 : zz_Hc S50 := zz_Hc.fr (q := 0) fS50 rfl rfl G_S44 (by decide) rfl (fun b q h => h.elim) H_S44
  have R_S50 : zz_Hr S50 := zz_Hr.fr fS50 rfl rfl (fun b q h => h.elim) R_S44
  have O_S50 : 1 ≤ S50 1079 36 := by rw [show S50 1079 36 = S44 1079 36 from zz_rc fS50 rfl rfl (fun h => h) rfl]; exact O_S44
  refine zz_istore [some (.ref 998), some (.ref 1000), some (.ref 1079), some (.ref 1121), some (zi x4), some (zi v45), some (zi v51)] zd_L_law_276 (by decide) rfl ?_
  refine zz_goto zd_L_law_278 ?_
  refine zz_iinc [some (.ref 998), some (.ref 1000), some (.ref 1079), some (.ref 1121), some (zi (x4 + 7)), some (zi v45), some (zi v51)] zd_L_law_1191 rfl rfl ?_
  refine zz_goto zd_L_law_1194 ?_
  refine zz_less (ls1 := [some (.ref 998), some (.ref 1000), some (.ref 1079), some (.ref 1121), some (zi (x4 + 7))]) ⟨rfl, ⟨rfl, ⟨rfl, ⟨rfl, ⟨rfl, trivial⟩⟩⟩⟩⟩ ?_
  exact ih (x4 + 7) S50 (n + d46) (k + zr_look_L.cells) (j + zr_look_L.slots) G_S50 H_S50 R_S50 O_S50 hn47 (by omega) (by show ((k + 1 : Nat) : Int) ≤ 200 + (x4 + 7); omega) (by show ((j + 6 : Nat) : Int) ≤ 30000 + 6 * (x4 + 7); omega) (by omega)
theorem zl_3 {g : mm_G} {l : Launch} (hfl : l.flags = flags0) (hlen : g.2.2.2 997 ≤ 3584) (N : Nat) (ih : ∀ (x4 : Int) (S : zz_S) (n k j : Nat), zz_G S → zz_Hc S → zz_Hr S → 1 ≤ S 1079 36 → zz_end ≤ n → (0 ≤ x4 ∧ x4 ≤ 3590) → (k : Int) ≤ 200 + x4 → (j : Int) ≤ 30000 + 6 * x4 → (3600 - x4).toNat < N → zz_E g l zy_law_L room_1 (fun u => ∃ M1 n1, u = (.inl (some (zi 1)), M1, n1)) S n 23 [some (.ref 998), some (.ref 1000), some (.ref 1079), some (.ref 1121), some (zi x4)] [] k j) (x4 : Int) (S : zz_S) (n k j : Nat) (G_S : zz_G S) (H_S : zz_Hc S) (R_S : zz_Hr S) (O_S : 1 ≤ S 1079 36) (hn : zz_end ≤ n) (hx : 0 ≤ x4 ∧ x4 ≤ 3590) (hkk : (k : Int) ≤ 200 + x4) (hjj : (j : Int) ≤ 30000 + 6 * x4) (hR : (3600 - x4).toNat < N + 1) (hc1 : x4 ≤ zz_ln g - 7) : zz_E g l zy_law_L room_1 (fun u => ∃ M1 n1, u = (.inl (some (zi 1)), M1, n1)) S n 281 [some (.ref 998), some (.ref 1000), some (.ref 1079), some (.ref 1121), some (zi x4)] [] k j := by
  have hln : 0 ≤ zz_ln g ∧ zz_ln g ≤ 3584 := ⟨Int.natCast_nonneg _, Int.ofNat_le.mpr hlen⟩
  have hk : k ≤ 601024 := by omega
  have hj : j ≤ 7293034 := by omega
  refine zz_aload_n (x := 1000) rfl zd_L_law_281 ?_
  refine zz_aload_n (x := 998) rfl zd_L_law_282 ?_
  refine zz_iload (x := x4) rfl zd_L_law_283 ?_
  refine zz_iconst zd_L_law_285 ?_
  refine zz_iadd zd_L_law_286 ?_
  refine zz_sld (by omega) zd_L_law_287 (by omega) ?_
  have g54 := zz_sc_r g (x4 + 1).toNat
  refine zz_aload_n (x := 998) rfl zd_L_law_288 ?_
  refine zz_iload (x := x4) rfl zd_L_law_289 ?_
  refine zz_iconst zd_L_law_291 ?_
  refine zz_iadd zd_L_law_292 ?_
  refine zz_sld (by omega) zd_L_law_293 (by omega) ?_
  have g55 := zz_sc_r g (x4 + 2).toNat
  refine zz_i2l (by omega) zd_L_law_294 ?_
  refine zz_bipush (by decide) zd_L_law_295 ?_
  refine zz_lshl zd_L_law_297 (fun v56 hv56 ev56 => ?_)
  refine zz_aload_n (x := 998) rfl zd_L_law_298 ?_
  refine zz_iload (x := x4) rfl zd_L_law_299 ?_
  refine zz_iconst zd_L_law_301 ?_
  refine zz_iadd zd_L_law_302 ?_
  refine zz_sld (by omega) zd_L_law_303 (by omega) ?_
  have g57 := zz_sc_r g (x4 + 3).toNat
  refine zz_i2l (by omega) zd_L_law_304 ?_
  refine zz_ldc2 (z := 4294967295) zq_TFLaw_115 (by decide) zd_L_law_305 ?_
  refine zz_land zd_L_law_308 (fun v58 hv58 ev58 => ?_)
  have av58 := zz_band64 (by omega) (by omega) ev58
  refine zz_lor zd_L_law_309 (fun v59 hv59 ev59 => ?_)
  refine zz_callHW (rz := zr_word_L) [.ref 1000, zi (zz_sc g (x4 + 1).toNat), zl v59] zd_L_law_310 zhl_word_L rfl rfl ⟨Nat.le_of_ble_eq_true rfl, Nat.le_of_ble_eq_true rfl⟩ (by show k + 1 ≤ 601024; omega) (by show j + 6 ≤ 7293034; omega) (zc_word_L (zz_sc g (x4 + 1).toNat) v59 S (n) hn hfl G_S (by omega) (by omega)) (fun v61 S60 d62 hd62 hP => ?_)
  obtain ⟨G_S60, fS60, rv61⟩ := hP
  have g63 := zz_G.r G_S 1000 9 0 1 rfl rfl
  have hn64 : zz_end ≤ n + d62 := by omega
  have hk65 : (k + zr_word_L.cells) ≤ 601024 := by show k + 1 ≤ 601024; omega
  have hj66 : (j + zr_word_L.slots) ≤ 7293034 := by show j + 6 ≤ 7293034; omega
  have H_S60 : zz_Hc S60 := zz_Hc.fr (q := 0) fS60 rfl rfl G_S (by decide) rfl (fun b q h => by have h0_ := zz_rf4 (z := (S 1000 9)) (by omega); omega) H_S
  have R_S60 : zz_Hr S60 := zz_Hr.fr fS60 rfl rfl (fun b q h => by have h0_ := zz_rf4 (z := (S 1000 9)) (by omega); omega) R_S
  have O_S60 : 1 ≤ S60 1079 36 := by rw [show S60 1079 36 = S 1079 36 from zz_rc fS60 rfl rfl (by have h0_ := zz_rf4 (z := (S 1000 9)) (by omega); omega) rfl]; exact O_S
  refine zz_istore [some (.ref 998), some (.ref 1000), some (.ref 1079), some (.ref 1121), some (zi x4), some (zi v61)] zd_L_law_313 (by decide) rfl ?_
  refine zz_aload_n (x := 1079) rfl zd_L_law_315 ?_
  refine zz_aload_n (x := 998) rfl zd_L_law_316 ?_
  refine zz_iload (x := x4) rfl zd_L_law_317 ?_
  refine zz_iconst zd_L_law_319 ?_
  refine zz_iadd zd_L_law_320 ?_
  refine zz_sld (by omega) zd_L_law_321 (by omega) ?_
  refine zz_aload_n (x := 998) rfl zd_L_law_322 ?_
  refine zz_iload (x := x4) rfl zd_L_law_323 ?_
  refine zz_iconst zd_L_law_325 ?_
  refine zz_iadd zd_L_law_326 ?_
  refine zz_sld (by omega) zd_L_law_327 (by omega) ?_
  refine zz_i2l (by omega) zd_L_law_328 ?_
  refine zz_bipush (by decide) zd_L_law_329 ?_
  refine zz_lshl zd_L_law_331 (fun v67 hv67 ev67 => ?_)
  refine zz_aload_n (x := 998) rfl zd_L_law_332 ?_
  refine zz_iload (x := x4) rfl zd_L_law_333 ?_
  refine zz_iconst zd_L_law_335 ?_
  refine zz_iadd zd_L_law_336 ?_
  refine zz_sld (by omega) zd_L_law_337 (by omega) ?_
  refine zz_i2l (by omega) zd_L_law_338 ?_
  refine zz_ldc2 (z := 4294967295) zq_TFLaw_115 (by decide) zd_L_law_339 ?_
  refine zz_land zd_L_law_342 (fun v68 hv68 ev68 => ?_)
  have av68 := zz_band64 (by omega) (by omega) ev68
  refine zz_lor zd_L_law_343 (fun v69 hv69 ev69 => ?_)
  refine zz_callVV [zi (zz_sc g (x4 + 1).toNat), zl v69] zd_L_law_344 zk_TFLaw_120 zT_1079 (zz_ltn hn64 rfl) rfl rfl ⟨Nat.le_of_ble_eq_true rfl, Nat.le_of_ble_eq_true rfl⟩ ⟨rfl, rfl⟩ hk65 hj66 (zc_word_14_14 (zz_sc g (x4 + 1).toNat) v69 S60 (n + d62) hn64 G_S60 (by omega) (by omega)) (fun S70 hP => ?_)
  obtain ⟨G_S70, fS70⟩ := hP
  have H_S70 : zz_Hc S70 := zz_Hc.fr (q := 0) fS70 rfl rfl G_S60 (by decide) rfl (fun b q h => h.elim) H_S60
  have R_S70 : zz_Hr S70 := zz_Hr.fr fS70 rfl rfl (fun b q h => h.elim) R_S60
  have O_S70 : 1 ≤ S70 1079 36 := by rw [show S70 1079 36 = S60 1079 36 from zz_rc fS70 rfl rfl (fun h => h) rfl]; exact O_S60
  refine zz_goto zd_L_law_347 ?_
  refine zz_iinc [some (.ref 998), some (.ref 1000), some (.ref 1079), some (.ref 1121), some (zi (x4 + 7)), some (zi v61)] zd_L_law_1191 rfl rfl ?_
  refine zz_goto zd_L_law_1194 ?_
  refine zz_less (ls1 := [some (.ref 998), some (.ref 1000), some (.ref 1079), some (.ref 1121), some (zi (x4 + 7))]) ⟨rfl, ⟨rfl, ⟨rfl, ⟨rfl, ⟨rfl, trivial⟩⟩⟩⟩⟩ ?_
  exact ih (x4 + 7) S70 (n + d62) (k + zr_word_L.cells) (j + zr_word_L.slots) G_S70 H_S70 R_S70 O_S70 hn64 (by omega) (by show ((k + 1 : Nat) : Int) ≤ 200 + (x4 + 7); omega) (by show ((j + 6 : Nat) : Int) ≤ 30000 + 6 * (x4 + 7); omega) (by omega)
theorem zl_4 {g : mm_G} {l : Launch} (hfl : l.flags = flags0) (hlen : g.2.2.2 997 ≤ 3584) (N : Nat) (ih : ∀ (x4 : Int) (S : zz_S) (n k j : Nat), zz_G S → zz_Hc S → zz_Hr S → 1 ≤ S 1079 36 → zz_end ≤ n → (0 ≤ x4 ∧ x4 ≤ 3590) → (k : Int) ≤ 200 + x4 → (j : Int) ≤ 30000 + 6 * x4 → (3600 - x4).toNat < N → zz_E g l zy_law_L room_1 (fun u => ∃ M1 n1, u = (.inl (some (zi 1)), M1, n1)) S n 23 [some (.ref 998), some (.ref 1000), some (.ref 1079), some (.ref 1121), some (zi x4)] [] k j) (x4 : Int) (S : zz_S) (n k j : Nat) (G_S : zz_G S) (H_S : zz_Hc S) (R_S : zz_Hr S) (O_S : 1 ≤ S 1079 36) (hn : zz_end ≤ n) (hx : 0 ≤ x4 ∧ x4 ≤ 3590) (hkk : (k : Int) ≤ 200 + x4) (hjj : (j : Int) ≤ 30000 + 6 * x4) (hR : (3600 - x4).toNat < N + 1) (hc1 : x4 ≤ zz_ln g - 7) : zz_E g l zy_law_L room_1 (fun u => ∃ M1 n1, u = (.inl (some (zi 1)), M1, n1)) S n 350 [some (.ref 998), some (.ref 1000), some (.ref 1079), some (.ref 1121), some (zi x4)] [] k j := by
  have hln : 0 ≤ zz_ln g ∧ zz_ln g ≤ 3584 := ⟨Int.natCast_nonneg _, Int.ofNat_le.mpr hlen⟩
  have hk : k ≤ 601024 := by omega
  have hj : j ≤ 7293034 := by omega
  refine zz_aload_n (x := 1000) rfl zd_L_law_350 ?_
  refine zz_aload_n (x := 998) rfl zd_L_law_351 ?_
  refine zz_iload (x := x4) rfl zd_L_law_352 ?_
  refine zz_iconst zd_L_law_354 ?_
  refine zz_iadd zd_L_law_355 ?_
  refine zz_sld (by omega) zd_L_law_356 (by omega) ?_
  have g73 := zz_sc_r g (x4 + 1).toNat
  refine zz_callHW (rz := zr_cut_L) [.ref 1000, zi (zz_sc g (x4 + 1).toNat)] zd_L_law_357 zhl_cut_L rfl rfl ⟨Nat.le_of_ble_eq_true rfl, Nat.le_of_ble_eq_true rfl⟩ (by show k + 1 ≤ 601024; omega) (by show j + 6 ≤ 7293034; omega) (zc_cut_L (zz_sc g (x4 + 1).toNat) S (n) hn hfl G_S (by omega)) (fun v75 S74 d76 hd76 hP => ?_)
  obtain ⟨G_S74, fS74, rv75⟩ := hP
  have hn77 : zz_end ≤ n + d76 := by omega
  have hk78 : (k + zr_cut_L.cells) ≤ 601024 := by show k + 1 ≤ 601024; omega
  have hj79 : (j + zr_cut_L.slots) ≤ 7293034 := by show j + 6 ≤ 7293034; omega
  have H_S74 : zz_Hc S74 := zz_Hc.fr (q := 0) fS74 rfl rfl G_S (by decide) rfl (fun b q h => h.elim) H_S
  have R_S74 : zz_Hr S74 := zz_Hr.fr fS74 rfl rfl (fun b q h => h.elim) R_S
  have O_S74 : 1 ≤ S74 1079 36 := by rw [show S74 1079 36 = S 1079 36 from zz_rc fS74 rfl rfl (fun h => h) rfl]; exact O_S
  refine zz_istore [some (.ref 998), some (.ref 1000), some (.ref 1079), some (.ref 1121), some (zi x4), some (zi v75)] zd_L_law_360 (by decide) rfl ?_
  refine zz_aload_n (x := 1079) rfl zd_L_law_362 ?_
  refine zz_aload_n (x := 998) rfl zd_L_law_363 ?_
  refine zz_iload (x := x4) rfl zd_L_law_364 ?_
  refine zz_iconst zd_L_law_366 ?_
  refine zz_iadd zd_L_law_367 ?_
  refine zz_sld (by omega) zd_L_law_368 (by omega) ?_
  refine zz_callVV [zi (zz_sc g (x4 + 1).toNat)] zd_L_law_369 zk_TFLaw_123 zT_1079 (zz_ltn hn77 rfl) rfl rfl ⟨Nat.le_of_ble_eq_true rfl, Nat.le_of_ble_eq_true rfl⟩ ⟨rfl, rfl⟩ hk78 hj79 (zc_cut_14_15 (zz_sc g (x4 + 1).toNat) S74 (n + d76) hn77 G_S74 (by omega)) (fun S80 hP => ?_)
  obtain ⟨G_S80, fS80⟩ := hP
  have H_S80 : zz_Hc S80 := zz_Hc.fr (q := 0) fS80 rfl rfl G_S74 (by decide) rfl (fun b q h => h.elim) H_S74
  have R_S80 : zz_Hr S80 := zz_Hr.fr fS80 rfl rfl (fun b q h => h.elim) R_S74
  have O_S80 : 1 ≤ S80 1079 36 := by rw [show S80 1079 36 = S74 1079 36 from zz_rc fS80 rfl rfl (fun h => h) rfl]; exact O_S74
  refine zz_goto zd_L_law_372 ?_
  refine zz_iinc [some (.ref 998), some (.ref 1000), some (.ref 1079), some (.ref 1121), some (zi (x4 + 7)), some (zi v75)] zd_L_law_1191 rfl rfl ?_
  refine zz_goto zd_L_law_1194 ?_
  refine zz_less (ls1 := [some (.ref 998), some (.ref 1000), some (.ref 1079), some (.ref 1121), some (zi (x4 + 7))]) ⟨rfl, ⟨rfl, ⟨rfl, ⟨rfl, ⟨rfl, trivial⟩⟩⟩⟩⟩ ?_
  exact ih (x4 + 7) S80 (n + d76) (k + zr_cut_L.cells) (j + zr_cut_L.slots) G_S80 H_S80 R_S80 O_S80 hn77 (by omega) (by show ((k + 1 : Nat) : Int) ≤ 200 + (x4 + 7); omega) (by show ((j + 6 : Nat) : Int) ≤ 30000 + 6 * (x4 + 7); omega) (by omega)
theorem zl_5 {g : mm_G} {l : Launch} (hfl : l.flags = flags0) (hlen : g.2.2.2 997 ≤ 3584) (N : Nat) (ih : ∀ (x4 : Int) (S : zz_S) (n k j : Nat), zz_G S → zz_Hc S → zz_Hr S → 1 ≤ S 1079 36 → zz_end ≤ n → (0 ≤ x4 ∧ x4 ≤ 3590) → (k : Int) ≤ 200 + x4 → (j : Int) ≤ 30000 + 6 * x4 → (3600 - x4).toNat < N → zz_E g l zy_law_L room_1 (fun u => ∃ M1 n1, u = (.inl (some (zi 1)), M1, n1)) S n 23 [some (.ref 998), some (.ref 1000), some (.ref 1079), some (.ref 1121), some (zi x4)] [] k j) (x4 : Int) (S : zz_S) (n k j : Nat) (G_S : zz_G S) (H_S : zz_Hc S) (R_S : zz_Hr S) (O_S : 1 ≤ S 1079 36) (hn : zz_end ≤ n) (hx : 0 ≤ x4 ∧ x4 ≤ 3590) (hkk : (k : Int) ≤ 200 + x4) (hjj : (j : Int) ≤ 30000 + 6 * x4) (hR : (3600 - x4).toNat < N + 1) (hc1 : x4 ≤ zz_ln g - 7) : zz_E g l zy_law_L room_1 (fun u => ∃ M1 n1, u = (.inl (some (zi 1)), M1, n1)) S n 375 [some (.ref 998), some (.ref 1000), some (.ref 1079), some (.ref 1121), some (zi x4)] [] k j := by
  have hln : 0 ≤ zz_ln g ∧ zz_ln g ≤ 3584 := ⟨Int.natCast_nonneg _, Int.ofNat_le.mpr hlen⟩
  have hk : k ≤ 601024 := by omega
  have hj : j ≤ 7293034 := by omega
  refine zz_aload_n (x := 1000) rfl zd_L_law_375 ?_
  refine zz_aload_n (x := 998) rfl zd_L_law_376 ?_
  refine zz_iload (x := x4) rfl zd_L_law_377 ?_
  refine zz_iconst zd_L_law_379 ?_
  refine zz_iadd zd_L_law_380 ?_
  refine zz_sld (by omega) zd_L_law_381 (by omega) ?_
  have g83 := zz_sc_r g (x4 + 1).toNat
  refine zz_aload_n (x := 1121) rfl zd_L_law_382 ?_
  refine zz_callHW (rz := zr_wordOf_L) [.ref 1000, zi (zz_sc g (x4 + 1).toNat), .ref 1121] zd_L_law_383 zhl_wordOf_L rfl rfl ⟨Nat.le_of_ble_eq_true rfl, Nat.le_of_ble_eq_true rfl⟩ (by show k + 1 ≤ 601024; omega) (by show j + 6 ≤ 7293034; omega) (zc_wordOf_L (zz_sc g (x4 + 1).toNat) S (n) hn hfl G_S (by omega)) (fun v85 S84 d86 hd86 hP => ?_)
  obtain ⟨G_S84, fS84, rv85⟩ := hP
  have hn87 : zz_end ≤ n + d86 := by omega
  have hk88 : (k + zr_wordOf_L.cells) ≤ 601024 := by show k + 1 ≤ 601024; omega
  have hj89 : (j + zr_wordOf_L.slots) ≤ 7293034 := by show j + 6 ≤ 7293034; omega
  have H_S84 : zz_Hc S84 := zz_Hc.fr (q := 0) fS84 rfl rfl G_S (by decide) rfl (fun b q h => h.elim) H_S
  have R_S84 : zz_Hr S84 := zz_Hr.fr fS84 rfl rfl (fun b q h => h.elim) R_S
  have O_S84 : 1 ≤ S84 1079 36 := by rw [show S84 1079 36 = S 1079 36 from zz_rc fS84 rfl rfl (fun h => h) rfl]; exact O_S
  refine zz_istore [some (.ref 998), some (.ref 1000), some (.ref 1079), some (.ref 1121), some (zi x4), some (zi v85)] zd_L_law_386 (by decide) rfl ?_
  refine zz_aload_n (x := 1079) rfl zd_L_law_388 ?_
  refine zz_aload_n (x := 998) rfl zd_L_law_389 ?_
  refine zz_iload (x := x4) rfl zd_L_law_390 ?_
  refine zz_iconst zd_L_law_392 ?_
  refine zz_iadd zd_L_law_393 ?_
  refine zz_sld (by omega) zd_L_law_394 (by omega) ?_
  refine zz_callVJ [zi (zz_sc g (x4 + 1).toNat)] zd_L_law_395 zk_TFLaw_127 zT_1079 (zz_ltn hn87 rfl) rfl rfl ⟨Nat.le_of_ble_eq_true rfl, Nat.le_of_ble_eq_true rfl⟩ ⟨rfl, rfl⟩ hk88 hj89 (zc_wordOf_14_16 (zz_sc g (x4 + 1).toNat) S84 (n + d86) hn87 G_S84 (by omega)) (fun v91 S90 hP => ?_)
  obtain ⟨G_S90, fS90, o92⟩ := hP
  have H_S90 : zz_Hc S90 := zz_Hc.fr (q := 0) fS90 rfl rfl G_S84 (by decide) rfl (fun b q h => h.elim) H_S84
  have R_S90 : zz_Hr S90 := zz_Hr.fr fS90 rfl rfl (fun b q h => h.elim) R_S84
  have O_S90 : 1 ≤ S90 1079 36 := by rw [show S90 1079 36 = S84 1079 36 from zz_rc fS90 rfl rfl (fun h => h) rfl]; exact O_S84
  refine zz_lstore [some (.ref 998), some (.ref 1000), some (.ref 1079), some (.ref 1121), some (zi x4), some (zi v85), some (zl v91), none] zd_L_law_398 (by decide) rfl ?_
  refine zz_goto zd_L_law_400 ?_
  refine zz_iinc [some (.ref 998), some (.ref 1000), some (.ref 1079), some (.ref 1121), some (zi (x4 + 7)), some (zi v85), some (zl v91), none] zd_L_law_1191 rfl rfl ?_
  refine zz_goto zd_L_law_1194 ?_
  refine zz_less (ls1 := [some (.ref 998), some (.ref 1000), some (.ref 1079), some (.ref 1121), some (zi (x4 + 7))]) ⟨rfl, ⟨rfl, ⟨rfl, ⟨rfl, ⟨rfl, trivial⟩⟩⟩⟩⟩ ?_
  exact ih (x4 + 7) S90 (n + d86) (k + zr_wordOf_L.cells) (j + zr_wordOf_L.slots) G_S90 H_S90 R_S90 O_S90 hn87 (by omega) (by show ((k + 1 : Nat) : Int) ≤ 200 + (x4 + 7); omega) (by show ((j + 6 : Nat) : Int) ≤ 30000 + 6 * (x4 + 7); omega) (by omega)
theorem zl_6 {g : mm_G} {l : Launch} (hfl : l.flags = flags0) (hlen : g.2.2.2 997 ≤ 3584) (N : Nat) (ih : ∀ (x4 : Int) (S : zz_S) (n k j : Nat), zz_G S → zz_Hc S → zz_Hr S → 1 ≤ S 1079 36 → zz_end ≤ n → (0 ≤ x4 ∧ x4 ≤ 3590) → (k : Int) ≤ 200 + x4 → (j : Int) ≤ 30000 + 6 * x4 → (3600 - x4).toNat < N → zz_E g l zy_law_L room_1 (fun u => ∃ M1 n1, u = (.inl (some (zi 1)), M1, n1)) S n 23 [some (.ref 998), some (.ref 1000), some (.ref 1079), some (.ref 1121), some (zi x4)] [] k j) (x4 : Int) (S : zz_S) (n k j : Nat) (G_S : zz_G S) (H_S : zz_Hc S) (R_S : zz_Hr S) (O_S : 1 ≤ S 1079 36) (hn : zz_end ≤ n) (hx : 0 ≤ x4 ∧ x4 ≤ 3590) (hkk : (k : Int) ≤ 200 + x4) (hjj : (j : Int) ≤ 30000 + 6 * x4) (hR : (3600 - x4).toNat < N + 1) (hc1 : x4 ≤ zz_ln g - 7) : zz_E g l zy_law_L room_1 (fun u => ∃ M1 n1, u = (.inl (some (zi 1)), M1, n1)) S n 403 [some (.ref 998), some (.ref 1000), some (.ref 1079), some (.ref 1121), some (zi x4)] [] k j := by
  have hln : 0 ≤ zz_ln g ∧ zz_ln g ≤ 3584 := ⟨Int.natCast_nonneg _, Int.ofNat_le.mpr hlen⟩
  have hk : k ≤ 601024 := by omega
  have hj : j ≤ 7293034 := by omega
  refine zz_aload_n (x := 1000) rfl zd_L_law_403 ?_
  refine zz_callVI [] zd_L_law_404 zk_TFLaw_128 zT_1000 (zz_ltn hn rfl) rfl rfl ⟨Nat.le_of_ble_eq_true rfl, Nat.le_of_ble_eq_true rfl⟩ ⟨rfl, rfl⟩ hk hj (zc_length_1_8  S (n) hn G_S ) (fun v95 S94 hP => ?_)
  obtain ⟨rfl, o96⟩ := hP
  refine zz_pop rfl zd_L_law_407 ?_
  refine zz_aload_n (x := 1079) rfl zd_L_law_408 ?_
  refine zz_callVI [] zd_L_law_409 zk_TFLaw_131 zT_1079 (zz_ltn hn rfl) rfl rfl ⟨Nat.le_of_ble_eq_true rfl, Nat.le_of_ble_eq_true rfl⟩ ⟨rfl, rfl⟩ hk hj (zc_length_14_17  S (n) hn G_S ) (fun v98 S97 hP => ?_)
  obtain ⟨G_S97, fS97, o99⟩ := hP
  have H_S97 : zz_Hc S97 := zz_Hc.fr (q := 0) fS97 rfl rfl G_S (by decide) rfl (fun b q h => h.elim) H_S
  have R_S97 : zz_Hr S97 := zz_Hr.fr fS97 rfl rfl (fun b q h => h.elim) R_S
  have O_S97 : 1 ≤ S97 1079 36 := by rw [show S97 1079 36 = S 1079 36 from zz_rc fS97 rfl rfl (fun h => h) rfl]; exact O_S
  refine zz_pop rfl zd_L_law_412 ?_
  refine zz_goto zd_L_law_413 ?_
  refine zz_iinc [some (.ref 998), some (.ref 1000), some (.ref 1079), some (.ref 1121), some (zi (x4 + 7))] zd_L_law_1191 rfl rfl ?_
  refine zz_goto zd_L_law_1194 ?_
  refine zz_less (ls1 := [some (.ref 998), some (.ref 1000), some (.ref 1079), some (.ref 1121), some (zi (x4 + 7))]) ⟨rfl, ⟨rfl, ⟨rfl, ⟨rfl, ⟨rfl, trivial⟩⟩⟩⟩⟩ ?_
  exact ih (x4 + 7) S97 (n) k j G_S97 H_S97 R_S97 O_S97 hn (by omega) (by show ((k : Nat) : Int) ≤ 200 + (x4 + 7); omega) (by show ((j : Nat) : Int) ≤ 30000 + 6 * (x4 + 7); omega) (by omega)
theorem zl_7 {g : mm_G} {l : Launch} (hfl : l.flags = flags0) (hlen : g.2.2.2 997 ≤ 3584) (N : Nat) (ih : ∀ (x4 : Int) (S : zz_S) (n k j : Nat), zz_G S → zz_Hc S → zz_Hr S → 1 ≤ S 1079 36 → zz_end ≤ n → (0 ≤ x4 ∧ x4 ≤ 3590) → (k : Int) ≤ 200 + x4 → (j : Int) ≤ 30000 + 6 * x4 → (3600 - x4).toNat < N → zz_E g l zy_law_L room_1 (fun u => ∃ M1 n1, u = (.inl (some (zi 1)), M1, n1)) S n 23 [some (.ref 998), some (.ref 1000), some (.ref 1079), some (.ref 1121), some (zi x4)] [] k j) (x4 : Int) (S : zz_S) (n k j : Nat) (G_S : zz_G S) (H_S : zz_Hc S) (R_S : zz_Hr S) (O_S : 1 ≤ S 1079 36) (hn : zz_end ≤ n) (hx : 0 ≤ x4 ∧ x4 ≤ 3590) (hkk : (k : Int) ≤ 200 + x4) (hjj : (j : Int) ≤ 30000 + 6 * x4) (hR : (3600 - x4).toNat < N + 1) (hc1 : x4 ≤ zz_ln g - 7) : zz_E g l zy_law_L room_1 (fun u => ∃ M1 n1, u = (.inl (some (zi 1)), M1, n1)) S n 416 [some (.ref 998), some (.ref 1000), some (.ref 1079), some (.ref 1121), some (zi x4)] [] k j := by
  have hln : 0 ≤ zz_ln g ∧ zz_ln g ≤ 3584 := ⟨Int.natCast_nonneg _, Int.ofNat_le.mpr hlen⟩
  have hk : k ≤ 601024 := by omega
  have hj : j ≤ 7293034 := by omega
  refine zz_aload_n (x := 1000) rfl zd_L_law_416 ?_
  refine zz_aload_n (x := 998) rfl zd_L_law_417 ?_
  refine zz_iload (x := x4) rfl zd_L_law_418 ?_
  refine zz_iconst zd_L_law_420 ?_
  refine zz_iadd zd_L_law_421 ?_
  refine zz_sld (by omega) zd_L_law_422 (by omega) ?_
  have g101 := zz_sc_r g (x4 + 1).toNat
  refine zz_i2l (by omega) zd_L_law_423 ?_
  refine zz_bipush (by decide) zd_L_law_424 ?_
  refine zz_lshl zd_L_law_426 (fun v102 hv102 ev102 => ?_)
  refine zz_aload_n (x := 998) rfl zd_L_law_427 ?_
  refine zz_iload (x := x4) rfl zd_L_law_428 ?_
  refine zz_iconst zd_L_law_430 ?_
  refine zz_iadd zd_L_law_431 ?_
  refine zz_sld (by omega) zd_L_law_432 (by omega) ?_
  have g103 := zz_sc_r g (x4 + 2).toNat
  refine zz_i2l (by omega) zd_L_law_433 ?_
  refine zz_ldc2 (z := 4294967295) zq_TFLaw_115 (by decide) zd_L_law_434 ?_
  refine zz_land zd_L_law_437 (fun v104 hv104 ev104 => ?_)
  have av104 := zz_band64 (by omega) (by omega) ev104
  refine zz_lor zd_L_law_438 (fun v105 hv105 ev105 => ?_)
  refine zz_aload_n (x := 998) rfl zd_L_law_439 ?_
  refine zz_iload (x := x4) rfl zd_L_law_440 ?_
  refine zz_iconst zd_L_law_442 ?_
  refine zz_iadd zd_L_law_443 ?_
  refine zz_sld (by omega) zd_L_law_444 (by omega) ?_
  have g106 := zz_sc_r g (x4 + 3).toNat
  refine zz_aload_n (x := 1121) rfl zd_L_law_445 ?_
  refine zz_callHW (rz := zr_field_L) [.ref 1000, zl v105, zi (zz_sc g (x4 + 3).toNat), .ref 1121] zd_L_law_446 zhl_field_L rfl rfl ⟨Nat.le_of_ble_eq_true rfl, Nat.le_of_ble_eq_true rfl⟩ (by show k + 1 ≤ 601024; omega) (by show j + 6 ≤ 7293034; omega) (zc_field_L v105 (zz_sc g (x4 + 3).toNat) S (n) hn hfl G_S (by omega) (by omega)) (fun v108 S107 d109 hd109 hP => ?_)
  obtain ⟨G_S107, fS107, rv108, o110⟩ := hP
  have hn111 : zz_end ≤ n + d109 := by omega
  have hk112 : (k + zr_field_L.cells) ≤ 601024 := by show k + 1 ≤ 601024; omega
  have hj113 : (j + zr_field_L.slots) ≤ 7293034 := by show j + 6 ≤ 7293034; omega
  have H_S107 : zz_Hc S107 := zz_Hc.fr (q := 0) fS107 rfl rfl G_S (by decide) rfl (fun b q h => h.elim) H_S
  have R_S107 : zz_Hr S107 := zz_Hr.fr fS107 rfl rfl (fun b q h => h.elim) R_S
  have O_S107 : 1 ≤ S107 1079 36 := by rw [show S107 1079 36 = S 1079 36 from zz_rc fS107 rfl rfl (fun h => h) rfl]; exact O_S
  refine zz_istore [some (.ref 998), some (.ref 1000), some (.ref 1079), some (.ref 1121), some (zi x4), some (zi v108)] zd_L_law_449 (by decide) rfl ?_
  refine zz_aload_n (x := 1079) rfl zd_L_law_451 ?_
  refine zz_aload_n (x := 998) rfl zd_L_law_452 ?_
  refine zz_iload (x := x4) rfl zd_L_law_453 ?_
  refine zz_iconst zd_L_law_455 ?_
  refine zz_iadd zd_L_law_456 ?_
  refine zz_sld (by omega) zd_L_law_457 (by omega) ?_
  refine zz_i2l (by omega) zd_L_law_458 ?_
  refine zz_bipush (by decide) zd_L_law_459 ?_
  refine zz_lshl zd_L_law_461 (fun v114 hv114 ev114 => ?_)
  refine zz_aload_n (x := 998) rfl zd_L_law_462 ?_
  refine zz_iload (x := x4) rfl zd_L_law_463 ?_
  refine zz_iconst zd_L_law_465 ?_
  refine zz_iadd zd_L_law_466 ?_
  refine zz_sld (by omega) zd_L_law_467 (by omega) ?_
  refine zz_i2l (by omega) zd_L_law_468 ?_
  refine zz_ldc2 (z := 4294967295) zq_TFLaw_115 (by decide) zd_L_law_469 ?_
  refine zz_land zd_L_law_472 (fun v115 hv115 ev115 => ?_)
  have av115 := zz_band64 (by omega) (by omega) ev115
  refine zz_lor zd_L_law_473 (fun v116 hv116 ev116 => ?_)
  refine zz_aload_n (x := 998) rfl zd_L_law_474 ?_
  refine zz_iload (x := x4) rfl zd_L_law_475 ?_
  refine zz_iconst zd_L_law_477 ?_
  refine zz_iadd zd_L_law_478 ?_
  refine zz_sld (by omega) zd_L_law_479 (by omega) ?_
  refine zz_callVI [zl v116, zi (zz_sc g (x4 + 3).toNat)] zd_L_law_480 zk_TFLaw_135 zT_1079 (zz_ltn hn111 rfl) rfl rfl ⟨Nat.le_of_ble_eq_true rfl, Nat.le_of_ble_eq_true rfl⟩ ⟨rfl, rfl⟩ hk112 hj113 (zc_field_14_13 v116 (zz_sc g (x4 + 3).toNat) S107 (n + d109) hn111 G_S107 (by omega) (by omega)) (fun v118 S117 hP => ?_)
  obtain ⟨G_S117, fS117, o119, o120⟩ := hP
  have H_S117 : zz_Hc S117 := zz_Hc.fr (q := 0) fS117 rfl rfl G_S107 (by decide) rfl (fun b q h => h.elim) H_S107
  have R_S117 : zz_Hr S117 := zz_Hr.fr fS117 rfl rfl (fun b q h => h.elim) R_S107
  have O_S117 : 1 ≤ S117 1079 36 := by rw [show S117 1079 36 = S107 1079 36 from zz_rc fS117 rfl rfl (fun h => h) rfl]; exact O_S107
  refine zz_istore [some (.ref 998), some (.ref 1000), some (.ref 1079), some (.ref 1121), some (zi x4), some (zi v108), some (zi v118)] zd_L_law_483 (by decide) rfl ?_
  refine zz_goto zd_L_law_485 ?_
  refine zz_iinc [some (.ref 998), some (.ref 1000), some (.ref 1079), some (.ref 1121), some (zi (x4 + 7)), some (zi v108), some (zi v118)] zd_L_law_1191 rfl rfl ?_
  refine zz_goto zd_L_law_1194 ?_
  refine zz_less (ls1 := [some (.ref 998), some (.ref 1000), some (.ref 1079), some (.ref 1121), some (zi (x4 + 7))]) ⟨rfl, ⟨rfl, ⟨rfl, ⟨rfl, ⟨rfl, trivial⟩⟩⟩⟩⟩ ?_
  exact ih (x4 + 7) S117 (n + d109) (k + zr_field_L.cells) (j + zr_field_L.slots) G_S117 H_S117 R_S117 O_S117 hn111 (by omega) (by show ((k + 1 : Nat) : Int) ≤ 200 + (x4 + 7); omega) (by show ((j + 6 : Nat) : Int) ≤ 30000 + 6 * (x4 + 7); omega) (by omega)
theorem zl_8 {g : mm_G} {l : Launch} (hfl : l.flags = flags0) (hlen : g.2.2.2 997 ≤ 3584) (N : Nat) (ih : ∀ (x4 : Int) (S : zz_S) (n k j : Nat), zz_G S → zz_Hc S → zz_Hr S → 1 ≤ S 1079 36 → zz_end ≤ n → (0 ≤ x4 ∧ x4 ≤ 3590) → (k : Int) ≤ 200 + x4 → (j : Int) ≤ 30000 + 6 * x4 → (3600 - x4).toNat < N → zz_E g l zy_law_L room_1 (fun u => ∃ M1 n1, u = (.inl (some (zi 1)), M1, n1)) S n 23 [some (.ref 998), some (.ref 1000), some (.ref 1079), some (.ref 1121), some (zi x4)] [] k j) (x4 : Int) (S : zz_S) (n k j : Nat) (G_S : zz_G S) (H_S : zz_Hc S) (R_S : zz_Hr S) (O_S : 1 ≤ S 1079 36) (hn : zz_end ≤ n) (hx : 0 ≤ x4 ∧ x4 ≤ 3590) (hkk : (k : Int) ≤ 200 + x4) (hjj : (j : Int) ≤ 30000 + 6 * x4) (hR : (3600 - x4).toNat < N + 1) (hc1 : x4 ≤ zz_ln g - 7) : zz_E g l zy_law_L room_1 (fun u => ∃ M1 n1, u = (.inl (some (zi 1)), M1, n1)) S n 488 [some (.ref 998), some (.ref 1000), some (.ref 1079), some (.ref 1121), some (zi x4)] [] k j := by
  have hln : 0 ≤ zz_ln g ∧ zz_ln g ≤ 3584 := ⟨Int.natCast_nonneg _, Int.ofNat_le.mpr hlen⟩
  have hk : k ≤ 601024 := by omega
  have hj : j ≤ 7293034 := by omega
  refine zz_aload_n (x := 1000) rfl zd_L_law_488 ?_
  refine zz_aload_n (x := 998) rfl zd_L_law_489 ?_
  refine zz_iload (x := x4) rfl zd_L_law_490 ?_
  refine zz_iconst zd_L_law_492 ?_
  refine zz_iadd zd_L_law_493 ?_
  refine zz_sld (by omega) zd_L_law_494 (by omega) ?_
  have g122 := zz_sc_r g (x4 + 1).toNat
  refine zz_i2l (by omega) zd_L_law_495 ?_
  refine zz_bipush (by decide) zd_L_law_496 ?_
  refine zz_lshl zd_L_law_498 (fun v123 hv123 ev123 => ?_)
  refine zz_aload_n (x := 998) rfl zd_L_law_499 ?_
  refine zz_iload (x := x4) rfl zd_L_law_500 ?_
  refine zz_iconst zd_L_law_502 ?_
  refine zz_iadd zd_L_law_503 ?_
  refine zz_sld (by omega) zd_L_law_504 (by omega) ?_
  have g124 := zz_sc_r g (x4 + 2).toNat
  refine zz_i2l (by omega) zd_L_law_505 ?_
  refine zz_ldc2 (z := 4294967295) zq_TFLaw_115 (by decide) zd_L_law_506 ?_
  refine zz_land zd_L_law_509 (fun v125 hv125 ev125 => ?_)
  have av125 := zz_band64 (by omega) (by omega) ev125
  refine zz_lor zd_L_law_510 (fun v126 hv126 ev126 => ?_)
  refine zz_callVI [zl v126] zd_L_law_511 zk_TFLaw_136 zT_1000 (zz_ltn hn rfl) rfl rfl ⟨Nat.le_of_ble_eq_true rfl, Nat.le_of_ble_eq_true rfl⟩ ⟨rfl, rfl⟩ hk hj (zc_illegal_1_10 v126 S (n) hn G_S (by omega)) (fun v128 S127 hP => ?_)
  obtain ⟨G_S127, fS127, o129⟩ := hP
  have H_S127 : zz_Hc S127 := zz_Hc.fr (q := 0) fS127 rfl rfl G_S (by decide) rfl (fun b q h => h.elim) H_S
  have R_S127 : zz_Hr S127 := zz_Hr.fr fS127 rfl rfl (fun b q h => h.elim) R_S
  have O_S127 : 1 ≤ S127 1079 36 := by rw [show S127 1079 36 = S 1079 36 from zz_rc fS127 rfl rfl (fun h => h) rfl]; exact O_S
  rcases (by omega : v128 = 0 ∨ v128 = 1) with rfl | rfl
  · refine zz_pop rfl zd_L_law_514 ?_
    refine zz_aload_n (x := 1079) rfl zd_L_law_515 ?_
    refine zz_aload_n (x := 998) rfl zd_L_law_516 ?_
    refine zz_iload (x := x4) rfl zd_L_law_517 ?_
    refine zz_iconst zd_L_law_519 ?_
    refine zz_iadd zd_L_law_520 ?_
    refine zz_sld (by omega) zd_L_law_521 (by omega) ?_
    refine zz_i2l (by omega) zd_L_law_522 ?_
    refine zz_bipush (by decide) zd_L_law_523 ?_
    refine zz_lshl zd_L_law_525 (fun v130 hv130 ev130 => ?_)
    refine zz_aload_n (x := 998) rfl zd_L_law_526 ?_
    refine zz_iload (x := x4) rfl zd_L_law_527 ?_
    refine zz_iconst zd_L_law_529 ?_
    refine zz_iadd zd_L_law_530 ?_
    refine zz_sld (by omega) zd_L_law_531 (by omega) ?_
    refine zz_i2l (by omega) zd_L_law_532 ?_
    refine zz_ldc2 (z := 4294967295) zq_TFLaw_115 (by decide) zd_L_law_533 ?_
    refine zz_land zd_L_law_536 (fun v131 hv131 ev131 => ?_)
    have av131 := zz_band64 (by omega) (by omega) ev131
    refine zz_lor zd_L_law_537 (fun v132 hv132 ev132 => ?_)
    refine zz_callVI [zl v132] zd_L_law_538 zk_TFLaw_140 zT_1079 (zz_ltn hn rfl) rfl rfl ⟨Nat.le_of_ble_eq_true rfl, Nat.le_of_ble_eq_true rfl⟩ ⟨rfl, rfl⟩ hk hj (zc_illegal_14_25 v132 S127 (n) hn G_S127 (by omega)) (fun v134 S133 hP => ?_)
    obtain ⟨G_S133, fS133, o135⟩ := hP
    have H_S133 : zz_Hc S133 := zz_Hc.fr (q := 0) fS133 rfl rfl G_S127 (by decide) rfl (fun b q h => h.elim) H_S127
    have R_S133 : zz_Hr S133 := zz_Hr.fr fS133 rfl rfl (fun b q h => h.elim) R_S127
    have O_S133 : 1 ≤ S133 1079 36 := by rw [show S133 1079 36 = S127 1079 36 from zz_rc fS133 rfl rfl (fun h => h) rfl]; exact O_S127
    rcases (by omega : v134 = 0 ∨ v134 = 1) with rfl | rfl
    · refine zz_pop rfl zd_L_law_541 ?_
      refine zz_goto zd_L_law_542 ?_
      refine zz_iinc [some (.ref 998), some (.ref 1000), some (.ref 1079), some (.ref 1121), some (zi (x4 + 7))] zd_L_law_1191 rfl rfl ?_
      refine zz_goto zd_L_law_1194 ?_
      refine zz_less (ls1 := [some (.ref 998), some (.ref 1000), some (.ref 1079), some (.ref 1121), some (zi (x4 + 7))]) ⟨rfl, ⟨rfl, ⟨rfl, ⟨rfl, ⟨rfl, trivial⟩⟩⟩⟩⟩ ?_
      exact ih (x4 + 7) S133 (n) k j G_S133 H_S133 R_S133 O_S133 hn (by omega) (by show ((k : Nat) : Int) ≤ 200 + (x4 + 7); omega) (by show ((j : Nat) : Int) ≤ 30000 + 6 * (x4 + 7); omega) (by omega)
    · refine zz_pop rfl zd_L_law_541 ?_
      refine zz_goto zd_L_law_542 ?_
      refine zz_iinc [some (.ref 998), some (.ref 1000), some (.ref 1079), some (.ref 1121), some (zi (x4 + 7))] zd_L_law_1191 rfl rfl ?_
      refine zz_goto zd_L_law_1194 ?_
      refine zz_less (ls1 := [some (.ref 998), some (.ref 1000), some (.ref 1079), some (.ref 1121), some (zi (x4 + 7))]) ⟨rfl, ⟨rfl, ⟨rfl, ⟨rfl, ⟨rfl, trivial⟩⟩⟩⟩⟩ ?_
      exact ih (x4 + 7) S133 (n) k j G_S133 H_S133 R_S133 O_S133 hn (by omega) (by show ((k : Nat) : Int) ≤ 200 + (x4 + 7); omega) (by show ((j : Nat) : Int) ≤ 30000 + 6 * (x4 + 7); omega) (by omega)
  · refine zz_pop rfl zd_L_law_514 ?_
    refine zz_aload_n (x := 1079) rfl zd_L_law_515 ?_
    refine zz_aload_n (x := 998) rfl zd_L_law_516 ?_
    refine zz_iload (x := x4) rfl zd_L_law_517 ?_
    refine zz_iconst zd_L_law_519 ?_
    refine zz_iadd zd_L_law_520 ?_
    refine zz_sld (by omega) zd_L_law_521 (by omega) ?_
    refine zz_i2l (by omega) zd_L_law_522 ?_
    refine zz_bipush (by decide) zd_L_law_523 ?_
    refine zz_lshl zd_L_law_525 (fun v136 hv136 ev136 => ?_)
    refine zz_aload_n (x := 998) rfl zd_L_law_526 ?_
    refine zz_iload (x := x4) rfl zd_L_law_527 ?_
    refine zz_iconst zd_L_law_529 ?_
    refine zz_iadd zd_L_law_530 ?_
    refine zz_sld (by omega) zd_L_law_531 (by omega) ?_
    refine zz_i2l (by omega) zd_L_law_532 ?_
    refine zz_ldc2 (z := 4294967295) zq_TFLaw_115 (by decide) zd_L_law_533 ?_
    refine zz_land zd_L_law_536 (fun v137 hv137 ev137 => ?_)
    have av137 := zz_band64 (by omega) (by omega) ev137
    refine zz_lor zd_L_law_537 (fun v138 hv138 ev138 => ?_)
    refine zz_callVI [zl v138] zd_L_law_538 zk_TFLaw_140 zT_1079 (zz_ltn hn rfl) rfl rfl ⟨Nat.le_of_ble_eq_true rfl, Nat.le_of_ble_eq_true rfl⟩ ⟨rfl, rfl⟩ hk hj (zc_illegal_14_25 v138 S127 (n) hn G_S127 (by omega)) (fun v140 S139 hP => ?_)
    obtain ⟨G_S139, fS139, o141⟩ := hP
    have H_S139 : zz_Hc S139 := zz_Hc.fr (q := 0) fS139 rfl rfl G_S127 (by decide) rfl (fun b q h => h.elim) H_S127
    have R_S139 : zz_Hr S139 := zz_Hr.fr fS139 rfl rfl (fun b q h => h.elim) R_S127
    have O_S139 : 1 ≤ S139 1079 36 := by rw [show S139 1079 36 = S127 1079 36 from zz_rc fS139 rfl rfl (fun h => h) rfl]; exact O_S127
    rcases (by omega : v140 = 0 ∨ v140 = 1) with rfl | rfl
    · refine zz_pop rfl zd_L_law_541 ?_
      refine zz_goto zd_L_law_542 ?_
      refine zz_iinc [some (.ref 998), some (.ref 1000), some (.ref 1079), some (.ref 1121), some (zi (x4 + 7))] zd_L_law_1191 rfl rfl ?_
      refine zz_goto zd_L_law_1194 ?_
      refine zz_less (ls1 := [some (.ref 998), some (.ref 1000), some (.ref 1079), some (.ref 1121), some (zi (x4 + 7))]) ⟨rfl, ⟨rfl, ⟨rfl, ⟨rfl, ⟨rfl, trivial⟩⟩⟩⟩⟩ ?_
      exact ih (x4 + 7) S139 (n) k j G_S139 H_S139 R_S139 O_S139 hn (by omega) (by show ((k : Nat) : Int) ≤ 200 + (x4 + 7); omega) (by show ((j : Nat) : Int) ≤ 30000 + 6 * (x4 + 7); omega) (by omega)
    · refine zz_pop rfl zd_L_law_541 ?_
      refine zz_goto zd_L_law_542 ?_
      refine zz_iinc [some (.ref 998), some (.ref 1000), some (.ref 1079), some (.ref 1121), some (zi (x4 + 7))] zd_L_law_1191 rfl rfl ?_
      refine zz_goto zd_L_law_1194 ?_
      refine zz_less (ls1 := [some (.ref 998), some (.ref 1000), some (.ref 1079), some (.ref 1121), some (zi (x4 + 7))]) ⟨rfl, ⟨rfl, ⟨rfl, ⟨rfl, ⟨rfl, trivial⟩⟩⟩⟩⟩ ?_
      exact ih (x4 + 7) S139 (n) k j G_S139 H_S139 R_S139 O_S139 hn (by omega) (by show ((k : Nat) : Int) ≤ 200 + (x4 + 7); omega) (by show ((j : Nat) : Int) ≤ 30000 + 6 * (x4 + 7); omega) (by omega)
theorem zl_9 {g : mm_G} {l : Launch} (hfl : l.flags = flags0) (hlen : g.2.2.2 997 ≤ 3584) (N : Nat) (ih : ∀ (x4 : Int) (S : zz_S) (n k j : Nat), zz_G S → zz_Hc S → zz_Hr S → 1 ≤ S 1079 36 → zz_end ≤ n → (0 ≤ x4 ∧ x4 ≤ 3590) → (k : Int) ≤ 200 + x4 → (j : Int) ≤ 30000 + 6 * x4 → (3600 - x4).toNat < N → zz_E g l zy_law_L room_1 (fun u => ∃ M1 n1, u = (.inl (some (zi 1)), M1, n1)) S n 23 [some (.ref 998), some (.ref 1000), some (.ref 1079), some (.ref 1121), some (zi x4)] [] k j) (x4 : Int) (S : zz_S) (n k j : Nat) (G_S : zz_G S) (H_S : zz_Hc S) (R_S : zz_Hr S) (O_S : 1 ≤ S 1079 36) (hn : zz_end ≤ n) (hx : 0 ≤ x4 ∧ x4 ≤ 3590) (hkk : (k : Int) ≤ 200 + x4) (hjj : (j : Int) ≤ 30000 + 6 * x4) (hR : (3600 - x4).toNat < N + 1) (hc1 : x4 ≤ zz_ln g - 7) : zz_E g l zy_law_L room_1 (fun u => ∃ M1 n1, u = (.inl (some (zi 1)), M1, n1)) S n 545 [some (.ref 998), some (.ref 1000), some (.ref 1079), some (.ref 1121), some (zi x4)] [] k j := by
  have hln : 0 ≤ zz_ln g ∧ zz_ln g ≤ 3584 := ⟨Int.natCast_nonneg _, Int.ofNat_le.mpr hlen⟩
  have hk : k ≤ 601024 := by omega
  have hj : j ≤ 7293034 := by omega
  refine zz_aload_n (x := 1000) rfl zd_L_law_545 ?_
  refine zz_aload_n (x := 998) rfl zd_L_law_546 ?_
  refine zz_iload (x := x4) rfl zd_L_law_547 ?_
  refine zz_iconst zd_L_law_549 ?_
  refine zz_iadd zd_L_law_550 ?_
  refine zz_sld (by omega) zd_L_law_551 (by omega) ?_
  have g143 := zz_sc_r g (x4 + 1).toNat
  refine zz_aload_n (x := 1121) rfl zd_L_law_552 ?_
  refine zz_callHW (rz := zr_put_L) [.ref 1000, zi (zz_sc g (x4 + 1).toNat), .ref 1121] zd_L_law_553 zhl_put_L rfl rfl ⟨Nat.le_of_ble_eq_true rfl, Nat.le_of_ble_eq_true rfl⟩ (by show k + 1 ≤ 601024; omega) (by show j + 6 ≤ 7293034; omega) (zc_put_L (zz_sc g (x4 + 1).toNat) S (n) hn hfl G_S (by omega)) (fun v145 S144 d146 hd146 hP => ?_)
  obtain ⟨G_S144, fS144, rv145⟩ := hP
  have hn147 : zz_end ≤ n + d146 := by omega
  have hk148 : (k + zr_put_L.cells) ≤ 601024 := by show k + 1 ≤ 601024; omega
  have hj149 : (j + zr_put_L.slots) ≤ 7293034 := by show j + 6 ≤ 7293034; omega
  have H_S144 : zz_Hc S144 := zz_Hc.fr (q := 0) fS144 rfl rfl G_S (by decide) rfl (fun b q h => h.elim) H_S
  have R_S144 : zz_Hr S144 := zz_Hr.fr fS144 rfl rfl (fun b q h => h.elim) R_S
  have O_S144 : 1 ≤ S144 1079 36 := by rw [show S144 1079 36 = S 1079 36 from zz_rc fS144 rfl rfl (fun h => h) rfl]; exact O_S
  refine zz_istore [some (.ref 998), some (.ref 1000), some (.ref 1079), some (.ref 1121), some (zi x4), some (zi v145)] zd_L_law_556 (by decide) rfl ?_
  refine zz_aload_n (x := 1079) rfl zd_L_law_558 ?_
  refine zz_aload_n (x := 998) rfl zd_L_law_559 ?_
  refine zz_iload (x := x4) rfl zd_L_law_560 ?_
  refine zz_iconst zd_L_law_562 ?_
  refine zz_iadd zd_L_law_563 ?_
  refine zz_sld (by omega) zd_L_law_564 (by omega) ?_
  refine zz_callVI [zi (zz_sc g (x4 + 1).toNat)] zd_L_law_565 zk_TFLaw_143 zT_1079 (zz_ltn hn147 rfl) rfl rfl ⟨Nat.le_of_ble_eq_true rfl, Nat.le_of_ble_eq_true rfl⟩ ⟨rfl, rfl⟩ hk148 hj149 (zc_put_14_47 (zz_sc g (x4 + 1).toNat) S144 (n + d146) hn147 G_S144 (by omega)) (fun v151 S150 hP => ?_)
  obtain ⟨G_S150, fS150, o152⟩ := hP
  have H_S150 : zz_Hc S150 := zz_Hc.fr (q := 0) fS150 rfl rfl G_S144 (by decide) rfl (fun b q h => h.elim) H_S144
  have R_S150 : zz_Hr S150 := zz_Hr.fr fS150 rfl rfl (fun b q h => h.elim) R_S144
  have O_S150 : 1 ≤ S150 1079 36 := by rw [show S150 1079 36 = S144 1079 36 from zz_rc fS150 rfl rfl (fun h => h) rfl]; exact O_S144
  refine zz_istore [some (.ref 998), some (.ref 1000), some (.ref 1079), some (.ref 1121), some (zi x4), some (zi v145), some (zi v151)] zd_L_law_568 (by decide) rfl ?_
  refine zz_goto zd_L_law_570 ?_
  refine zz_iinc [some (.ref 998), some (.ref 1000), some (.ref 1079), some (.ref 1121), some (zi (x4 + 7)), some (zi v145), some (zi v151)] zd_L_law_1191 rfl rfl ?_
  refine zz_goto zd_L_law_1194 ?_
  refine zz_less (ls1 := [some (.ref 998), some (.ref 1000), some (.ref 1079), some (.ref 1121), some (zi (x4 + 7))]) ⟨rfl, ⟨rfl, ⟨rfl, ⟨rfl, ⟨rfl, trivial⟩⟩⟩⟩⟩ ?_
  exact ih (x4 + 7) S150 (n + d146) (k + zr_put_L.cells) (j + zr_put_L.slots) G_S150 H_S150 R_S150 O_S150 hn147 (by omega) (by show ((k + 1 : Nat) : Int) ≤ 200 + (x4 + 7); omega) (by show ((j + 6 : Nat) : Int) ≤ 30000 + 6 * (x4 + 7); omega) (by omega)
theorem zl_10 {g : mm_G} {l : Launch} (hfl : l.flags = flags0) (hlen : g.2.2.2 997 ≤ 3584) (N : Nat) (ih : ∀ (x4 : Int) (S : zz_S) (n k j : Nat), zz_G S → zz_Hc S → zz_Hr S → 1 ≤ S 1079 36 → zz_end ≤ n → (0 ≤ x4 ∧ x4 ≤ 3590) → (k : Int) ≤ 200 + x4 → (j : Int) ≤ 30000 + 6 * x4 → (3600 - x4).toNat < N → zz_E g l zy_law_L room_1 (fun u => ∃ M1 n1, u = (.inl (some (zi 1)), M1, n1)) S n 23 [some (.ref 998), some (.ref 1000), some (.ref 1079), some (.ref 1121), some (zi x4)] [] k j) (x4 : Int) (S : zz_S) (n k j : Nat) (G_S : zz_G S) (H_S : zz_Hc S) (R_S : zz_Hr S) (O_S : 1 ≤ S 1079 36) (hn : zz_end ≤ n) (hx : 0 ≤ x4 ∧ x4 ≤ 3590) (hkk : (k : Int) ≤ 200 + x4) (hjj : (j : Int) ≤ 30000 + 6 * x4) (hR : (3600 - x4).toNat < N + 1) (hc1 : x4 ≤ zz_ln g - 7) : zz_E g l zy_law_L room_1 (fun u => ∃ M1 n1, u = (.inl (some (zi 1)), M1, n1)) S n 573 [some (.ref 998), some (.ref 1000), some (.ref 1079), some (.ref 1121), some (zi x4)] [] k j := by
  have hln : 0 ≤ zz_ln g ∧ zz_ln g ≤ 3584 := ⟨Int.natCast_nonneg _, Int.ofNat_le.mpr hlen⟩
  have hk : k ≤ 601024 := by omega
  have hj : j ≤ 7293034 := by omega
  refine zz_aload_n (x := 1000) rfl zd_L_law_573 ?_
  refine zz_aload_n (x := 998) rfl zd_L_law_574 ?_
  refine zz_iload (x := x4) rfl zd_L_law_575 ?_
  refine zz_iconst zd_L_law_577 ?_
  refine zz_iadd zd_L_law_578 ?_
  refine zz_sld (by omega) zd_L_law_579 (by omega) ?_
  have g154 := zz_sc_r g (x4 + 1).toNat
  refine zz_callHW (rz := zr_end_L) [.ref 1000, zi (zz_sc g (x4 + 1).toNat)] zd_L_law_580 zhl_end_L rfl rfl ⟨Nat.le_of_ble_eq_true rfl, Nat.le_of_ble_eq_true rfl⟩ (by show k + 1 ≤ 601024; omega) (by show j + 6 ≤ 7293034; omega) (zc_end_L (zz_sc g (x4 + 1).toNat) S (n) hn hfl G_S (by omega)) (fun v156 S155 d157 hd157 hP => ?_)
  obtain ⟨G_S155, fS155, rv156⟩ := hP
  have hn158 : zz_end ≤ n + d157 := by omega
  have hk159 : (k + zr_end_L.cells) ≤ 601024 := by show k + 1 ≤ 601024; omega
  have hj160 : (j + zr_end_L.slots) ≤ 7293034 := by show j + 6 ≤ 7293034; omega
  have H_S155 : zz_Hc S155 := zz_Hc.fr (q := 0) fS155 rfl rfl G_S (by decide) rfl (fun b q h => h.elim) H_S
  have R_S155 : zz_Hr S155 := zz_Hr.fr fS155 rfl rfl (fun b q h => h.elim) R_S
  have O_S155 : 1 ≤ S155 1079 36 := by rw [show S155 1079 36 = S 1079 36 from zz_rc fS155 rfl rfl (fun h => h) rfl]; exact O_S
  refine zz_istore [some (.ref 998), some (.ref 1000), some (.ref 1079), some (.ref 1121), some (zi x4), some (zi v156)] zd_L_law_583 (by decide) rfl ?_
  refine zz_aload_n (x := 1079) rfl zd_L_law_585 ?_
  refine zz_aload_n (x := 998) rfl zd_L_law_586 ?_
  refine zz_iload (x := x4) rfl zd_L_law_587 ?_
  refine zz_iconst zd_L_law_589 ?_
  refine zz_iadd zd_L_law_590 ?_
  refine zz_sld (by omega) zd_L_law_591 (by omega) ?_
  refine zz_callVV [zi (zz_sc g (x4 + 1).toNat)] zd_L_law_592 zk_TFLaw_146 zT_1079 (zz_ltn hn158 rfl) rfl rfl ⟨Nat.le_of_ble_eq_true rfl, Nat.le_of_ble_eq_true rfl⟩ ⟨rfl, rfl⟩ hk159 hj160 (zc_end_14_48 (zz_sc g (x4 + 1).toNat) S155 (n + d157) hn158 G_S155 (by omega)) (fun S161 hP => ?_)
  obtain ⟨G_S161, fS161⟩ := hP
  have H_S161 : zz_Hc S161 := zz_Hc.fr (q := 0) fS161 rfl rfl G_S155 (by decide) rfl (fun b q h => h.elim) H_S155
  have R_S161 : zz_Hr S161 := zz_Hr.fr fS161 rfl rfl (fun b q h => h.elim) R_S155
  have O_S161 : 1 ≤ S161 1079 36 := by rw [show S161 1079 36 = S155 1079 36 from zz_rc fS161 rfl rfl (fun h => h) rfl]; exact O_S155
  refine zz_goto zd_L_law_595 ?_
  refine zz_iinc [some (.ref 998), some (.ref 1000), some (.ref 1079), some (.ref 1121), some (zi (x4 + 7)), some (zi v156)] zd_L_law_1191 rfl rfl ?_
  refine zz_goto zd_L_law_1194 ?_
  refine zz_less (ls1 := [some (.ref 998), some (.ref 1000), some (.ref 1079), some (.ref 1121), some (zi (x4 + 7))]) ⟨rfl, ⟨rfl, ⟨rfl, ⟨rfl, ⟨rfl, trivial⟩⟩⟩⟩⟩ ?_
  exact ih (x4 + 7) S161 (n + d157) (k + zr_end_L.cells) (j + zr_end_L.slots) G_S161 H_S161 R_S161 O_S161 hn158 (by omega) (by show ((k + 1 : Nat) : Int) ≤ 200 + (x4 + 7); omega) (by show ((j + 6 : Nat) : Int) ≤ 30000 + 6 * (x4 + 7); omega) (by omega)
theorem zl_11 {g : mm_G} {l : Launch} (hfl : l.flags = flags0) (hlen : g.2.2.2 997 ≤ 3584) (N : Nat) (ih : ∀ (x4 : Int) (S : zz_S) (n k j : Nat), zz_G S → zz_Hc S → zz_Hr S → 1 ≤ S 1079 36 → zz_end ≤ n → (0 ≤ x4 ∧ x4 ≤ 3590) → (k : Int) ≤ 200 + x4 → (j : Int) ≤ 30000 + 6 * x4 → (3600 - x4).toNat < N → zz_E g l zy_law_L room_1 (fun u => ∃ M1 n1, u = (.inl (some (zi 1)), M1, n1)) S n 23 [some (.ref 998), some (.ref 1000), some (.ref 1079), some (.ref 1121), some (zi x4)] [] k j) (x4 : Int) (S : zz_S) (n k j : Nat) (G_S : zz_G S) (H_S : zz_Hc S) (R_S : zz_Hr S) (O_S : 1 ≤ S 1079 36) (hn : zz_end ≤ n) (hx : 0 ≤ x4 ∧ x4 ≤ 3590) (hkk : (k : Int) ≤ 200 + x4) (hjj : (j : Int) ≤ 30000 + 6 * x4) (hR : (3600 - x4).toNat < N + 1) (hc1 : x4 ≤ zz_ln g - 7) : zz_E g l zy_law_L room_1 (fun u => ∃ M1 n1, u = (.inl (some (zi 1)), M1, n1)) S n 598 [some (.ref 998), some (.ref 1000), some (.ref 1079), some (.ref 1121), some (zi x4)] [] k j := by
  have hln : 0 ≤ zz_ln g ∧ zz_ln g ≤ 3584 := ⟨Int.natCast_nonneg _, Int.ofNat_le.mpr hlen⟩
  have hk : k ≤ 601024 := by omega
  have hj : j ≤ 7293034 := by omega
  refine zz_aload_n (x := 1000) rfl zd_L_law_598 ?_
  refine zz_callVI [] zd_L_law_599 zk_TFLaw_147 zT_1000 (zz_ltn hn rfl) rfl rfl ⟨Nat.le_of_ble_eq_true rfl, Nat.le_of_ble_eq_true rfl⟩ ⟨rfl, rfl⟩ hk hj (zc_assemble_1_13  S (n) hn G_S ) (fun v165 S164 hP => ?_)
  obtain ⟨G_S164, fS164, o166⟩ := hP
  have g167 := zz_G.r G_S 1000 10 0 1 rfl rfl
  have H_S164 : zz_Hc S164 := zz_Hc.fr (q := 0) fS164 rfl rfl G_S (by decide) rfl (fun b q h => by have h0_ := zz_rf4 (z := (S 1000 10)) (by omega); omega) H_S
  have R_S164 : zz_Hr S164 := zz_Hr.fr fS164 rfl rfl (fun b q h => by have h0_ := zz_rf4 (z := (S 1000 10)) (by omega); omega) R_S
  have O_S164 : 1 ≤ S164 1079 36 := by rw [show S164 1079 36 = S 1079 36 from zz_rc fS164 rfl rfl (by have h0_ := zz_rf4 (z := (S 1000 10)) (by omega); omega) rfl]; exact O_S
  refine zz_pop rfl zd_L_law_602 ?_
  refine zz_aload_n (x := 1079) rfl zd_L_law_603 ?_
  refine zz_callVI [] zd_L_law_604 zk_TFLaw_150 zT_1079 (zz_ltn hn rfl) rfl rfl ⟨Nat.le_of_ble_eq_true rfl, Nat.le_of_ble_eq_true rfl⟩ ⟨rfl, rfl⟩ hk hj (zc_assemble_14_55  S164 (n) hn G_S164 ) (fun v169 S168 hP => ?_)
  obtain ⟨G_S168, fS168, o170⟩ := hP
  have H_S168 : zz_Hc S168 := zz_Hc.fr (q := 0) fS168 rfl rfl G_S164 (by decide) rfl (fun b q h => h.elim) H_S164
  have R_S168 : zz_Hr S168 := zz_Hr.fr fS168 rfl rfl (fun b q h => h.elim) R_S164
  have O_S168 : 1 ≤ S168 1079 36 := by rw [show S168 1079 36 = S164 1079 36 from zz_rc fS168 rfl rfl (fun h => h) rfl]; exact O_S164
  refine zz_pop rfl zd_L_law_607 ?_
  refine zz_goto zd_L_law_608 ?_
  refine zz_iinc [some (.ref 998), some (.ref 1000), some (.ref 1079), some (.ref 1121), some (zi (x4 + 7))] zd_L_law_1191 rfl rfl ?_
  refine zz_goto zd_L_law_1194 ?_
  refine zz_less (ls1 := [some (.ref 998), some (.ref 1000), some (.ref 1079), some (.ref 1121), some (zi (x4 + 7))]) ⟨rfl, ⟨rfl, ⟨rfl, ⟨rfl, ⟨rfl, trivial⟩⟩⟩⟩⟩ ?_
  exact ih (x4 + 7) S168 (n) k j G_S168 H_S168 R_S168 O_S168 hn (by omega) (by show ((k : Nat) : Int) ≤ 200 + (x4 + 7); omega) (by show ((j : Nat) : Int) ≤ 30000 + 6 * (x4 + 7); omega) (by omega)
theorem zl_12 {g : mm_G} {l : Launch} (hfl : l.flags = flags0) (hlen : g.2.2.2 997 ≤ 3584) (N : Nat) (ih : ∀ (x4 : Int) (S : zz_S) (n k j : Nat), zz_G S → zz_Hc S → zz_Hr S → 1 ≤ S 1079 36 → zz_end ≤ n → (0 ≤ x4 ∧ x4 ≤ 3590) → (k : Int) ≤ 200 + x4 → (j : Int) ≤ 30000 + 6 * x4 → (3600 - x4).toNat < N → zz_E g l zy_law_L room_1 (fun u => ∃ M1 n1, u = (.inl (some (zi 1)), M1, n1)) S n 23 [some (.ref 998), some (.ref 1000), some (.ref 1079), some (.ref 1121), some (zi x4)] [] k j) (x4 : Int) (S : zz_S) (n k j : Nat) (G_S : zz_G S) (H_S : zz_Hc S) (R_S : zz_Hr S) (O_S : 1 ≤ S 1079 36) (hn : zz_end ≤ n) (hx : 0 ≤ x4 ∧ x4 ≤ 3590) (hkk : (k : Int) ≤ 200 + x4) (hjj : (j : Int) ≤ 30000 + 6 * x4) (hR : (3600 - x4).toNat < N + 1) (hc1 : x4 ≤ zz_ln g - 7) : zz_E g l zy_law_L room_1 (fun u => ∃ M1 n1, u = (.inl (some (zi 1)), M1, n1)) S n 611 [some (.ref 998), some (.ref 1000), some (.ref 1079), some (.ref 1121), some (zi x4)] [] k j := by
  have hln : 0 ≤ zz_ln g ∧ zz_ln g ≤ 3584 := ⟨Int.natCast_nonneg _, Int.ofNat_le.mpr hlen⟩
  have hk : k ≤ 601024 := by omega
  have hj : j ≤ 7293034 := by omega
  refine zz_aload_n (x := 1000) rfl zd_L_law_611 ?_
  refine zz_aload_n (x := 998) rfl zd_L_law_612 ?_
  refine zz_iload (x := x4) rfl zd_L_law_613 ?_
  refine zz_iconst zd_L_law_615 ?_
  refine zz_iadd zd_L_law_616 ?_
  refine zz_sld (by omega) zd_L_law_617 (by omega) ?_
  have g172 := zz_sc_r g (x4 + 1).toNat
  refine zz_aload_n (x := 998) rfl zd_L_law_618 ?_
  refine zz_iload (x := x4) rfl zd_L_law_619 ?_
  refine zz_iconst zd_L_law_621 ?_
  refine zz_iadd zd_L_law_622 ?_
  refine zz_sld (by omega) zd_L_law_623 (by omega) ?_
  have g173 := zz_sc_r g (x4 + 2).toNat
  refine zz_aload_n (x := 1121) rfl zd_L_law_624 ?_
  refine zz_callHW (rz := zr_listing_L) [.ref 1000, zi (zz_sc g (x4 + 1).toNat), zi (zz_sc g (x4 + 2).toNat), .ref 1121] zd_L_law_625 zhl_listing_L rfl rfl ⟨Nat.le_of_ble_eq_true rfl, Nat.le_of_ble_eq_true rfl⟩ (by show k + 1 ≤ 601024; omega) (by show j + 6 ≤ 7293034; omega) (zc_listing_L (zz_sc g (x4 + 1).toNat) (zz_sc g (x4 + 2).toNat) S (n) hn hfl G_S (by omega) (by omega)) (fun v175 S174 d176 hd176 hP => ?_)
  obtain ⟨G_S174, fS174, rv175⟩ := hP
  have hn177 : zz_end ≤ n + d176 := by omega
  have hk178 : (k + zr_listing_L.cells) ≤ 601024 := by show k + 1 ≤ 601024; omega
  have hj179 : (j + zr_listing_L.slots) ≤ 7293034 := by show j + 6 ≤ 7293034; omega
  have H_S174 : zz_Hc S174 := zz_Hc.fr (q := 0) fS174 rfl rfl G_S (by decide) rfl (fun b q h => h.elim) H_S
  have R_S174 : zz_Hr S174 := zz_Hr.fr fS174 rfl rfl (fun b q h => h.elim) R_S
  have O_S174 : 1 ≤ S174 1079 36 := by rw [show S174 1079 36 = S 1079 36 from zz_rc fS174 rfl rfl (fun h => h) rfl]; exact O_S
  refine zz_istore [some (.ref 998), some (.ref 1000), some (.ref 1079), some (.ref 1121), some (zi x4), some (zi v175)] zd_L_law_628 (by decide) rfl ?_
  refine zz_aload_n (x := 1079) rfl zd_L_law_630 ?_
  refine zz_aload_n (x := 998) rfl zd_L_law_631 ?_
  refine zz_iload (x := x4) rfl zd_L_law_632 ?_
  refine zz_iconst zd_L_law_634 ?_
  refine zz_iadd zd_L_law_635 ?_
  refine zz_sld (by omega) zd_L_law_636 (by omega) ?_
  refine zz_aload_n (x := 998) rfl zd_L_law_637 ?_
  refine zz_iload (x := x4) rfl zd_L_law_638 ?_
  refine zz_iconst zd_L_law_640 ?_
  refine zz_iadd zd_L_law_641 ?_
  refine zz_sld (by omega) zd_L_law_642 (by omega) ?_
  refine zz_callVI [zi (zz_sc g (x4 + 1).toNat), zi (zz_sc g (x4 + 2).toNat)] zd_L_law_643 zk_TFLaw_153 zT_1079 (zz_ltn hn177 rfl) rfl rfl ⟨Nat.le_of_ble_eq_true rfl, Nat.le_of_ble_eq_true rfl⟩ ⟨rfl, rfl⟩ hk178 hj179 (zc_listing_14_62 (zz_sc g (x4 + 1).toNat) (zz_sc g (x4 + 2).toNat) S174 (n + d176) hn177 G_S174 (by omega) (by omega)) (fun v181 S180 hP => ?_)
  obtain ⟨G_S180, fS180, o182⟩ := hP
  have H_S180 : zz_Hc S180 := zz_Hc.fr (q := 0) fS180 rfl rfl G_S174 (by decide) rfl (fun b q h => h.elim) H_S174
  have R_S180 : zz_Hr S180 := zz_Hr.fr fS180 rfl rfl (fun b q h => h.elim) R_S174
  have O_S180 : 1 ≤ S180 1079 36 := by rw [show S180 1079 36 = S174 1079 36 from zz_rc fS180 rfl rfl (fun h => h) rfl]; exact O_S174
  refine zz_istore [some (.ref 998), some (.ref 1000), some (.ref 1079), some (.ref 1121), some (zi x4), some (zi v175), some (zi v181)] zd_L_law_646 (by decide) rfl ?_
  refine zz_goto zd_L_law_648 ?_
  refine zz_iinc [some (.ref 998), some (.ref 1000), some (.ref 1079), some (.ref 1121), some (zi (x4 + 7)), some (zi v175), some (zi v181)] zd_L_law_1191 rfl rfl ?_
  refine zz_goto zd_L_law_1194 ?_
  refine zz_less (ls1 := [some (.ref 998), some (.ref 1000), some (.ref 1079), some (.ref 1121), some (zi (x4 + 7))]) ⟨rfl, ⟨rfl, ⟨rfl, ⟨rfl, ⟨rfl, trivial⟩⟩⟩⟩⟩ ?_
  exact ih (x4 + 7) S180 (n + d176) (k + zr_listing_L.cells) (j + zr_listing_L.slots) G_S180 H_S180 R_S180 O_S180 hn177 (by omega) (by show ((k + 1 : Nat) : Int) ≤ 200 + (x4 + 7); omega) (by show ((j + 6 : Nat) : Int) ≤ 30000 + 6 * (x4 + 7); omega) (by omega)
theorem zl_13 {g : mm_G} {l : Launch} (hfl : l.flags = flags0) (hlen : g.2.2.2 997 ≤ 3584) (N : Nat) (ih : ∀ (x4 : Int) (S : zz_S) (n k j : Nat), zz_G S → zz_Hc S → zz_Hr S → 1 ≤ S 1079 36 → zz_end ≤ n → (0 ≤ x4 ∧ x4 ≤ 3590) → (k : Int) ≤ 200 + x4 → (j : Int) ≤ 30000 + 6 * x4 → (3600 - x4).toNat < N → zz_E g l zy_law_L room_1 (fun u => ∃ M1 n1, u = (.inl (some (zi 1)), M1, n1)) S n 23 [some (.ref 998), some (.ref 1000), some (.ref 1079), some (.ref 1121), some (zi x4)] [] k j) (x4 : Int) (S : zz_S) (n k j : Nat) (G_S : zz_G S) (H_S : zz_Hc S) (R_S : zz_Hr S) (O_S : 1 ≤ S 1079 36) (hn : zz_end ≤ n) (hx : 0 ≤ x4 ∧ x4 ≤ 3590) (hkk : (k : Int) ≤ 200 + x4) (hjj : (j : Int) ≤ 30000 + 6 * x4) (hR : (3600 - x4).toNat < N + 1) (hc1 : x4 ≤ zz_ln g - 7) : zz_E g l zy_law_L room_1 (fun u => ∃ M1 n1, u = (.inl (some (zi 1)), M1, n1)) S n 651 [some (.ref 998), some (.ref 1000), some (.ref 1079), some (.ref 1121), some (zi x4)] [] k j := by
  have hln : 0 ≤ zz_ln g ∧ zz_ln g ≤ 3584 := ⟨Int.natCast_nonneg _, Int.ofNat_le.mpr hlen⟩
  have hk : k ≤ 601024 := by omega
  have hj : j ≤ 7293034 := by omega
  refine zz_aload_n (x := 1000) rfl zd_L_law_651 ?_
  refine zz_callVI [] zd_L_law_652 zk_TFLaw_154 zT_1000 (zz_ltn hn rfl) rfl rfl ⟨Nat.le_of_ble_eq_true rfl, Nat.le_of_ble_eq_true rfl⟩ ⟨rfl, rfl⟩ hk hj (zc_run_1_15  S (n) hn G_S ) (fun v185 S184 hP => ?_)
  obtain ⟨G_S184, fS184, o186⟩ := hP
  have H_S184 : zz_Hc S184 := zz_Hc.fr (q := 0) fS184 rfl rfl G_S (by decide) rfl (fun b q h => h.elim) H_S
  have R_S184 : zz_Hr S184 := zz_Hr.fr fS184 rfl rfl (fun b q h => h.elim) R_S
  have O_S184 : 1 ≤ S184 1079 36 := by rw [show S184 1079 36 = S 1079 36 from zz_rc fS184 rfl rfl (fun h => h) rfl]; exact O_S
  refine zz_pop rfl zd_L_law_655 ?_
  refine zz_aload_n (x := 1079) rfl zd_L_law_656 ?_
  refine zz_callVI [] zd_L_law_657 zk_TFLaw_157 zT_1079 (zz_ltn hn rfl) rfl rfl ⟨Nat.le_of_ble_eq_true rfl, Nat.le_of_ble_eq_true rfl⟩ ⟨rfl, rfl⟩ hk hj (zc_run_14_44  S184 (n) hn G_S184 ) (fun v188 S187 hP => ?_)
  obtain ⟨G_S187, fS187, o189⟩ := hP
  have H_S187 : zz_Hc S187 := zz_Hc.fr (q := 0) fS187 rfl rfl G_S184 (by decide) rfl (fun b q h => h.elim) H_S184
  have R_S187 : zz_Hr S187 := zz_Hr.fr fS187 rfl rfl (fun b q h => h.elim) R_S184
  have O_S187 : 1 ≤ S187 1079 36 := by rw [show S187 1079 36 = S184 1079 36 from zz_rc fS187 rfl rfl (fun h => h) rfl]; exact O_S184
  refine zz_pop rfl zd_L_law_660 ?_
  refine zz_goto zd_L_law_661 ?_
  refine zz_iinc [some (.ref 998), some (.ref 1000), some (.ref 1079), some (.ref 1121), some (zi (x4 + 7))] zd_L_law_1191 rfl rfl ?_
  refine zz_goto zd_L_law_1194 ?_
  refine zz_less (ls1 := [some (.ref 998), some (.ref 1000), some (.ref 1079), some (.ref 1121), some (zi (x4 + 7))]) ⟨rfl, ⟨rfl, ⟨rfl, ⟨rfl, ⟨rfl, trivial⟩⟩⟩⟩⟩ ?_
  exact ih (x4 + 7) S187 (n) k j G_S187 H_S187 R_S187 O_S187 hn (by omega) (by show ((k : Nat) : Int) ≤ 200 + (x4 + 7); omega) (by show ((j : Nat) : Int) ≤ 30000 + 6 * (x4 + 7); omega) (by omega)
theorem zl_14 {g : mm_G} {l : Launch} (hfl : l.flags = flags0) (hlen : g.2.2.2 997 ≤ 3584) (N : Nat) (ih : ∀ (x4 : Int) (S : zz_S) (n k j : Nat), zz_G S → zz_Hc S → zz_Hr S → 1 ≤ S 1079 36 → zz_end ≤ n → (0 ≤ x4 ∧ x4 ≤ 3590) → (k : Int) ≤ 200 + x4 → (j : Int) ≤ 30000 + 6 * x4 → (3600 - x4).toNat < N → zz_E g l zy_law_L room_1 (fun u => ∃ M1 n1, u = (.inl (some (zi 1)), M1, n1)) S n 23 [some (.ref 998), some (.ref 1000), some (.ref 1079), some (.ref 1121), some (zi x4)] [] k j) (x4 : Int) (S : zz_S) (n k j : Nat) (G_S : zz_G S) (H_S : zz_Hc S) (R_S : zz_Hr S) (O_S : 1 ≤ S 1079 36) (hn : zz_end ≤ n) (hx : 0 ≤ x4 ∧ x4 ≤ 3590) (hkk : (k : Int) ≤ 200 + x4) (hjj : (j : Int) ≤ 30000 + 6 * x4) (hR : (3600 - x4).toNat < N + 1) (hc1 : x4 ≤ zz_ln g - 7) : zz_E g l zy_law_L room_1 (fun u => ∃ M1 n1, u = (.inl (some (zi 1)), M1, n1)) S n 664 [some (.ref 998), some (.ref 1000), some (.ref 1079), some (.ref 1121), some (zi x4)] [] k j := by
  have hln : 0 ≤ zz_ln g ∧ zz_ln g ≤ 3584 := ⟨Int.natCast_nonneg _, Int.ofNat_le.mpr hlen⟩
  have hk : k ≤ 601024 := by omega
  have hj : j ≤ 7293034 := by omega
  refine zz_aload_n (x := 1000) rfl zd_L_law_664 ?_
  refine zz_aload_n (x := 998) rfl zd_L_law_665 ?_
  refine zz_iload (x := x4) rfl zd_L_law_666 ?_
  refine zz_iconst zd_L_law_668 ?_
  refine zz_iadd zd_L_law_669 ?_
  refine zz_sld (by omega) zd_L_law_670 (by omega) ?_
  have g191 := zz_sc_r g (x4 + 1).toNat
  refine zz_aload_n (x := 1121) rfl zd_L_law_671 ?_
  refine zz_callHW (rz := zr_stopped_L) [.ref 1000, zi (zz_sc g (x4 + 1).toNat), .ref 1121] zd_L_law_672 zhl_stopped_L rfl rfl ⟨Nat.le_of_ble_eq_true rfl, Nat.le_of_ble_eq_true rfl⟩ (by show k + 1 ≤ 601024; omega) (by show j + 6 ≤ 7293034; omega) (zc_stopped_L (zz_sc g (x4 + 1).toNat) S (n) hn hfl G_S (by omega)) (fun v193 S192 d194 hd194 hP => ?_)
  obtain ⟨G_S192, fS192, rv193⟩ := hP
  have hn195 : zz_end ≤ n + d194 := by omega
  have hk196 : (k + zr_stopped_L.cells) ≤ 601024 := by show k + 1 ≤ 601024; omega
  have hj197 : (j + zr_stopped_L.slots) ≤ 7293034 := by show j + 6 ≤ 7293034; omega
  have H_S192 : zz_Hc S192 := zz_Hc.fr (q := 0) fS192 rfl rfl G_S (by decide) rfl (fun b q h => h.elim) H_S
  have R_S192 : zz_Hr S192 := zz_Hr.fr fS192 rfl rfl (fun b q h => h.elim) R_S
  have O_S192 : 1 ≤ S192 1079 36 := by rw [show S192 1079 36 = S 1079 36 from zz_rc fS192 rfl rfl (fun h => h) rfl]; exact O_S
  refine zz_istore [some (.ref 998), some (.ref 1000), some (.ref 1079), some (.ref 1121), some (zi x4), some (zi v193)] zd_L_law_675 (by decide) rfl ?_
  refine zz_aload_n (x := 1079) rfl zd_L_law_677 ?_
  refine zz_aload_n (x := 998) rfl zd_L_law_678 ?_
  refine zz_iload (x := x4) rfl zd_L_law_679 ?_
  refine zz_iconst zd_L_law_681 ?_
  refine zz_iadd zd_L_law_682 ?_
  refine zz_sld (by omega) zd_L_law_683 (by omega) ?_
  refine zz_callVI [zi (zz_sc g (x4 + 1).toNat)] zd_L_law_684 zk_TFLaw_160 zT_1079 (zz_ltn hn195 rfl) rfl rfl ⟨Nat.le_of_ble_eq_true rfl, Nat.le_of_ble_eq_true rfl⟩ ⟨rfl, rfl⟩ hk196 hj197 (zc_stopped_14_45 (zz_sc g (x4 + 1).toNat) S192 (n + d194) hn195 G_S192 (by omega)) (fun v199 S198 hP => ?_)
  obtain ⟨G_S198, fS198, o200⟩ := hP
  have H_S198 : zz_Hc S198 := zz_Hc.fr (q := 0) fS198 rfl rfl G_S192 (by decide) rfl (fun b q h => h.elim) H_S192
  have R_S198 : zz_Hr S198 := zz_Hr.fr fS198 rfl rfl (fun b q h => h.elim) R_S192
  have O_S198 : 1 ≤ S198 1079 36 := by rw [show S198 1079 36 = S192 1079 36 from zz_rc fS198 rfl rfl (fun h => h) rfl]; exact O_S192
  refine zz_istore [some (.ref 998), some (.ref 1000), some (.ref 1079), some (.ref 1121), some (zi x4), some (zi v193), some (zi v199)] zd_L_law_687 (by decide) rfl ?_
  refine zz_goto zd_L_law_689 ?_
  refine zz_iinc [some (.ref 998), some (.ref 1000), some (.ref 1079), some (.ref 1121), some (zi (x4 + 7)), some (zi v193), some (zi v199)] zd_L_law_1191 rfl rfl ?_
  refine zz_goto zd_L_law_1194 ?_
  refine zz_less (ls1 := [some (.ref 998), some (.ref 1000), some (.ref 1079), some (.ref 1121), some (zi (x4 + 7))]) ⟨rfl, ⟨rfl, ⟨rfl, ⟨rfl, ⟨rfl, trivial⟩⟩⟩⟩⟩ ?_
  exact ih (x4 + 7) S198 (n + d194) (k + zr_stopped_L.cells) (j + zr_stopped_L.slots) G_S198 H_S198 R_S198 O_S198 hn195 (by omega) (by show ((k + 1 : Nat) : Int) ≤ 200 + (x4 + 7); omega) (by show ((j + 6 : Nat) : Int) ≤ 30000 + 6 * (x4 + 7); omega) (by omega)
theorem zl_15 {g : mm_G} {l : Launch} (hfl : l.flags = flags0) (hlen : g.2.2.2 997 ≤ 3584) (N : Nat) (ih : ∀ (x4 : Int) (S : zz_S) (n k j : Nat), zz_G S → zz_Hc S → zz_Hr S → 1 ≤ S 1079 36 → zz_end ≤ n → (0 ≤ x4 ∧ x4 ≤ 3590) → (k : Int) ≤ 200 + x4 → (j : Int) ≤ 30000 + 6 * x4 → (3600 - x4).toNat < N → zz_E g l zy_law_L room_1 (fun u => ∃ M1 n1, u = (.inl (some (zi 1)), M1, n1)) S n 23 [some (.ref 998), some (.ref 1000), some (.ref 1079), some (.ref 1121), some (zi x4)] [] k j) (x4 : Int) (S : zz_S) (n k j : Nat) (G_S : zz_G S) (H_S : zz_Hc S) (R_S : zz_Hr S) (O_S : 1 ≤ S 1079 36) (hn : zz_end ≤ n) (hx : 0 ≤ x4 ∧ x4 ≤ 3590) (hkk : (k : Int) ≤ 200 + x4) (hjj : (j : Int) ≤ 30000 + 6 * x4) (hR : (3600 - x4).toNat < N + 1) (hc1 : x4 ≤ zz_ln g - 7) : zz_E g l zy_law_L room_1 (fun u => ∃ M1 n1, u = (.inl (some (zi 1)), M1, n1)) S n 692 [some (.ref 998), some (.ref 1000), some (.ref 1079), some (.ref 1121), some (zi x4)] [] k j := by
  have hln : 0 ≤ zz_ln g ∧ zz_ln g ≤ 3584 := ⟨Int.natCast_nonneg _, Int.ofNat_le.mpr hlen⟩
  have hk : k ≤ 601024 := by omega
  have hj : j ≤ 7293034 := by omega
  refine zz_aload_n (x := 1000) rfl zd_L_law_692 ?_
  refine zz_aload_n (x := 998) rfl zd_L_law_693 ?_
  refine zz_iload (x := x4) rfl zd_L_law_694 ?_
  refine zz_iconst zd_L_law_696 ?_
  refine zz_iadd zd_L_law_697 ?_
  refine zz_sld (by omega) zd_L_law_698 (by omega) ?_
  have g202 := zz_sc_r g (x4 + 1).toNat
  refine zz_aload_n (x := 998) rfl zd_L_law_699 ?_
  refine zz_iload (x := x4) rfl zd_L_law_700 ?_
  refine zz_iconst zd_L_law_702 ?_
  refine zz_iadd zd_L_law_703 ?_
  refine zz_sld (by omega) zd_L_law_704 (by omega) ?_
  have g203 := zz_sc_r g (x4 + 2).toNat
  refine zz_aload_n (x := 1121) rfl zd_L_law_705 ?_
  refine zz_callHW (rz := zr_instruction_L) [.ref 1000, zi (zz_sc g (x4 + 1).toNat), zi (zz_sc g (x4 + 2).toNat), .ref 1121] zd_L_law_706 zhl_instruction_L rfl rfl ⟨Nat.le_of_ble_eq_true rfl, Nat.le_of_ble_eq_true rfl⟩ (by show k + 2 ≤ 601024; omega) (by show j + 12 ≤ 7293034; omega) (zc_instruction_L (zz_sc g (x4 + 1).toNat) (zz_sc g (x4 + 2).toNat) S (n) hn hfl G_S (by omega) (by omega)) (fun v205 S204 d206 hd206 hP => ?_)
  obtain ⟨G_S204, fS204, rv205⟩ := hP
  have hn207 : zz_end ≤ n + d206 := by omega
  have hk208 : (k + zr_instruction_L.cells) ≤ 601024 := by show k + 2 ≤ 601024; omega
  have hj209 : (j + zr_instruction_L.slots) ≤ 7293034 := by show j + 12 ≤ 7293034; omega
  have H_S204 : zz_Hc S204 := zz_Hc.fr (q := 0) fS204 rfl rfl G_S (by decide) rfl (fun b q h => h.elim) H_S
  have R_S204 : zz_Hr S204 := zz_Hr.fr fS204 rfl rfl (fun b q h => h.elim) R_S
  have O_S204 : 1 ≤ S204 1079 36 := by rw [show S204 1079 36 = S 1079 36 from zz_rc fS204 rfl rfl (fun h => h) rfl]; exact O_S
  refine zz_istore [some (.ref 998), some (.ref 1000), some (.ref 1079), some (.ref 1121), some (zi x4), some (zi v205)] zd_L_law_709 (by decide) rfl ?_
  refine zz_aload_n (x := 1079) rfl zd_L_law_711 ?_
  refine zz_aload_n (x := 998) rfl zd_L_law_712 ?_
  refine zz_iload (x := x4) rfl zd_L_law_713 ?_
  refine zz_iconst zd_L_law_715 ?_
  refine zz_iadd zd_L_law_716 ?_
  refine zz_sld (by omega) zd_L_law_717 (by omega) ?_
  refine zz_aload_n (x := 998) rfl zd_L_law_718 ?_
  refine zz_iload (x := x4) rfl zd_L_law_719 ?_
  refine zz_iconst zd_L_law_721 ?_
  refine zz_iadd zd_L_law_722 ?_
  refine zz_sld (by omega) zd_L_law_723 (by omega) ?_
  refine zz_callVI [zi (zz_sc g (x4 + 1).toNat), zi (zz_sc g (x4 + 2).toNat)] zd_L_law_724 zk_TFLaw_163 zT_1079 (zz_ltn hn207 rfl) rfl rfl ⟨Nat.le_of_ble_eq_true rfl, Nat.le_of_ble_eq_true rfl⟩ ⟨rfl, rfl⟩ hk208 hj209 (zc_instruction_14_46 (zz_sc g (x4 + 1).toNat) (zz_sc g (x4 + 2).toNat) S204 (n + d206) hn207 G_S204 (by omega) (by omega)) (fun v211 S210 hP => ?_)
  obtain ⟨G_S210, fS210, o212⟩ := hP
  have H_S210 : zz_Hc S210 := zz_Hc.fr (q := 0) fS210 rfl rfl G_S204 (by decide) rfl (fun b q h => h.elim) H_S204
  have R_S210 : zz_Hr S210 := zz_Hr.fr fS210 rfl rfl (fun b q h => h.elim) R_S204
  have O_S210 : 1 ≤ S210 1079 36 := by rw [show S210 1079 36 = S204 1079 36 from zz_rc fS210 rfl rfl (fun h => h) rfl]; exact O_S204
  refine zz_istore [some (.ref 998), some (.ref 1000), some (.ref 1079), some (.ref 1121), some (zi x4), some (zi v205), some (zi v211)] zd_L_law_727 (by decide) rfl ?_
  refine zz_goto zd_L_law_729 ?_
  refine zz_iinc [some (.ref 998), some (.ref 1000), some (.ref 1079), some (.ref 1121), some (zi (x4 + 7)), some (zi v205), some (zi v211)] zd_L_law_1191 rfl rfl ?_
  refine zz_goto zd_L_law_1194 ?_
  refine zz_less (ls1 := [some (.ref 998), some (.ref 1000), some (.ref 1079), some (.ref 1121), some (zi (x4 + 7))]) ⟨rfl, ⟨rfl, ⟨rfl, ⟨rfl, ⟨rfl, trivial⟩⟩⟩⟩⟩ ?_
  exact ih (x4 + 7) S210 (n + d206) (k + zr_instruction_L.cells) (j + zr_instruction_L.slots) G_S210 H_S210 R_S210 O_S210 hn207 (by omega) (by show ((k + 2 : Nat) : Int) ≤ 200 + (x4 + 7); omega) (by show ((j + 12 : Nat) : Int) ≤ 30000 + 6 * (x4 + 7); omega) (by omega)
theorem zl_16 {g : mm_G} {l : Launch} (hfl : l.flags = flags0) (hlen : g.2.2.2 997 ≤ 3584) (N : Nat) (ih : ∀ (x4 : Int) (S : zz_S) (n k j : Nat), zz_G S → zz_Hc S → zz_Hr S → 1 ≤ S 1079 36 → zz_end ≤ n → (0 ≤ x4 ∧ x4 ≤ 3590) → (k : Int) ≤ 200 + x4 → (j : Int) ≤ 30000 + 6 * x4 → (3600 - x4).toNat < N → zz_E g l zy_law_L room_1 (fun u => ∃ M1 n1, u = (.inl (some (zi 1)), M1, n1)) S n 23 [some (.ref 998), some (.ref 1000), some (.ref 1079), some (.ref 1121), some (zi x4)] [] k j) (x4 : Int) (S : zz_S) (n k j : Nat) (G_S : zz_G S) (H_S : zz_Hc S) (R_S : zz_Hr S) (O_S : 1 ≤ S 1079 36) (hn : zz_end ≤ n) (hx : 0 ≤ x4 ∧ x4 ≤ 3590) (hkk : (k : Int) ≤ 200 + x4) (hjj : (j : Int) ≤ 30000 + 6 * x4) (hR : (3600 - x4).toNat < N + 1) (hc1 : x4 ≤ zz_ln g - 7) : zz_E g l zy_law_L room_1 (fun u => ∃ M1 n1, u = (.inl (some (zi 1)), M1, n1)) S n 732 [some (.ref 998), some (.ref 1000), some (.ref 1079), some (.ref 1121), some (zi x4)] [] k j := by
  have hln : 0 ≤ zz_ln g ∧ zz_ln g ≤ 3584 := ⟨Int.natCast_nonneg _, Int.ofNat_le.mpr hlen⟩
  have hk : k ≤ 601024 := by omega
  have hj : j ≤ 7293034 := by omega
  refine zz_aload_n (x := 1000) rfl zd_L_law_732 ?_
  refine zz_aload_n (x := 998) rfl zd_L_law_733 ?_
  refine zz_iload (x := x4) rfl zd_L_law_734 ?_
  refine zz_iconst zd_L_law_736 ?_
  refine zz_iadd zd_L_law_737 ?_
  refine zz_sld (by omega) zd_L_law_738 (by omega) ?_
  have g214 := zz_sc_r g (x4 + 1).toNat
  refine zz_aload_n (x := 998) rfl zd_L_law_739 ?_
  refine zz_iload (x := x4) rfl zd_L_law_740 ?_
  refine zz_iconst zd_L_law_742 ?_
  refine zz_iadd zd_L_law_743 ?_
  refine zz_sld (by omega) zd_L_law_744 (by omega) ?_
  have g215 := zz_sc_r g (x4 + 2).toNat
  refine zz_aload_n (x := 998) rfl zd_L_law_745 ?_
  refine zz_iload (x := x4) rfl zd_L_law_746 ?_
  refine zz_iconst zd_L_law_748 ?_
  refine zz_iadd zd_L_law_749 ?_
  refine zz_sld (by omega) zd_L_law_750 (by omega) ?_
  have g216 := zz_sc_r g (x4 + 3).toNat
  refine zz_callHW (rz := zr_input_L) [.ref 1000, zi (zz_sc g (x4 + 1).toNat), zi (zz_sc g (x4 + 2).toNat), zi (zz_sc g (x4 + 3).toNat)] zd_L_law_751 zhl_input_L rfl rfl ⟨Nat.le_of_ble_eq_true rfl, Nat.le_of_ble_eq_true rfl⟩ (by show k + 1 ≤ 601024; omega) (by show j + 6 ≤ 7293034; omega) (zc_input_L (zz_sc g (x4 + 1).toNat) (zz_sc g (x4 + 2).toNat) (zz_sc g (x4 + 3).toNat) S (n) hn hfl G_S (by omega) (by omega) (by omega) H_S) (fun v218 S217 d219 hd219 hP => ?_)
  obtain ⟨G_S217, fS217, rv218, o220⟩ := hP
  have g221 := zz_G.r G_S 1000 7 0 1 rfl rfl
  have hn222 : zz_end ≤ n + d219 := by omega
  have hk223 : (k + zr_input_L.cells) ≤ 601024 := by show k + 1 ≤ 601024; omega
  have hj224 : (j + zr_input_L.slots) ≤ 7293034 := by show j + 6 ≤ 7293034; omega
  have H_S217 : zz_Hc S217 := o220
  have R_S217 : zz_Hr S217 := zz_Hr.fr fS217 rfl rfl (fun b q h => by have h0_ := zz_rf3 (z := (S 1000 7)) (by omega); have h10_ := zz_rf6 (z := (12 * (S 1000 7) + 0)) (by omega); have h11_ := zz_rf6 (z := (12 * (S 1000 7) + 0)) (by omega); have h12_ := zz_rf6 (z := (12 * (S 1000 7) + 0)) (by omega); have h13_ := zz_rf6 (z := (12 * (S 1000 7) + 0)) (by omega); have h14_ := zz_rf6 (z := (12 * (S 1000 7) + 0)) (by omega); have h15_ := zz_rf6 (z := (12 * (S 1000 7) + 0)) (by omega); have h1_ := zz_rf6 (z := (12 * (S 1000 7) + 0)) (by omega); have h2_ := zz_rf6 (z := (12 * (S 1000 7) + 0)) (by omega); have h3_ := zz_rf6 (z := (12 * (S 1000 7) + 0)) (by omega); have h4_ := zz_rf6 (z := (12 * (S 1000 7) + 0)) (by omega); have h5_ := zz_rf6 (z := (12 * (S 1000 7) + 0)) (by omega); have h6_ := zz_rf6 (z := (12 * (S 1000 7) + 0)) (by omega); have h7_ := zz_rf6 (z := (12 * (S 1000 7) + 0)) (by omega); have h8_ := zz_rf6 (z := (12 * (S 1000 7) + 0)) (by omega); have h9_ := zz_rf6 (z := (12 * (S 1000 7) + 0)) (by omega); omega) R_S
  have O_S217 : 1 ≤ S217 1079 36 := by rw [show S217 1079 36 = S 1079 36 from zz_rc fS217 rfl rfl (by have h0_ := zz_rf3 (z := (S 1000 7)) (by omega); have h10_ := zz_rf6 (z := (12 * (S 1000 7) + 0)) (by omega); have h11_ := zz_rf6 (z := (12 * (S 1000 7) + 0)) (by omega); have h12_ := zz_rf6 (z := (12 * (S 1000 7) + 0)) (by omega); have h13_ := zz_rf6 (z := (12 * (S 1000 7) + 0)) (by omega); have h14_ := zz_rf6 (z := (12 * (S 1000 7) + 0)) (by omega); have h15_ := zz_rf6 (z := (12 * (S 1000 7) + 0)) (by omega); have h1_ := zz_rf6 (z := (12 * (S 1000 7) + 0)) (by omega); have h2_ := zz_rf6 (z := (12 * (S 1000 7) + 0)) (by omega); have h3_ := zz_rf6 (z := (12 * (S 1000 7) + 0)) (by omega); have h4_ := zz_rf6 (z := (12 * (S 1000 7) + 0)) (by omega); have h5_ := zz_rf6 (z := (12 * (S 1000 7) + 0)) (by omega); have h6_ := zz_rf6 (z := (12 * (S 1000 7) + 0)) (by omega); have h7_ := zz_rf6 (z := (12 * (S 1000 7) + 0)) (by omega); have h8_ := zz_rf6 (z := (12 * (S 1000 7) + 0)) (by omega); have h9_ := zz_rf6 (z := (12 * (S 1000 7) + 0)) (by omega); omega) rfl]; exact O_S
  refine zz_istore [some (.ref 998), some (.ref 1000), some (.ref 1079), some (.ref 1121), some (zi x4), some (zi v218)] zd_L_law_754 (by decide) rfl ?_
  refine zz_aload_n (x := 1079) rfl zd_L_law_756 ?_
  refine zz_aload_n (x := 998) rfl zd_L_law_757 ?_
  refine zz_iload (x := x4) rfl zd_L_law_758 ?_
  refine zz_iconst zd_L_law_760 ?_
  refine zz_iadd zd_L_law_761 ?_
  refine zz_sld (by omega) zd_L_law_762 (by omega) ?_
  refine zz_aload_n (x := 998) rfl zd_L_law_763 ?_
  refine zz_iload (x := x4) rfl zd_L_law_764 ?_
  refine zz_iconst zd_L_law_766 ?_
  refine zz_iadd zd_L_law_767 ?_
  refine zz_sld (by omega) zd_L_law_768 (by omega) ?_
  refine zz_aload_n (x := 998) rfl zd_L_law_769 ?_
  refine zz_iload (x := x4) rfl zd_L_law_770 ?_
  refine zz_iconst zd_L_law_772 ?_
  refine zz_iadd zd_L_law_773 ?_
  refine zz_sld (by omega) zd_L_law_774 (by omega) ?_
  have g225 := zz_G.r G_S 1079 36 0 11 rfl rfl
  have e226 : S217 1079 36 = S 1079 36 := (zz_rc fS217 rfl rfl (by omega) rfl)
  refine zz_callVV [zi (zz_sc g (x4 + 1).toNat), zi (zz_sc g (x4 + 2).toNat), zi (zz_sc g (x4 + 3).toNat)] zd_L_law_775 zk_TFLaw_167 zT_1079 (zz_ltn hn222 rfl) rfl rfl ⟨Nat.le_of_ble_eq_true rfl, Nat.le_of_ble_eq_true rfl⟩ ⟨rfl, rfl⟩ hk223 hj224 (zc_input_14_63 (zz_sc g (x4 + 1).toNat) (zz_sc g (x4 + 2).toNat) (zz_sc g (x4 + 3).toNat) S217 (n + d219) hn222 G_S217 (by omega) (by omega) (by omega) R_S217) (fun S227 hP => ?_)
  obtain ⟨G_S227, fS227, o229, o230, o231⟩ := hP
  have H_S227 : zz_Hc S227 := zz_Hc.fr (q := 0) fS227 rfl rfl G_S217 (by decide) rfl (fun b q h => h.elim) H_S217
  have R_S227 : zz_Hr S227 := o231
  have O_S227 : 1 ≤ S227 1079 36 := by omega
  refine zz_goto zd_L_law_778 ?_
  refine zz_iinc [some (.ref 998), some (.ref 1000), some (.ref 1079), some (.ref 1121), some (zi (x4 + 7)), some (zi v218)] zd_L_law_1191 rfl rfl ?_
  refine zz_goto zd_L_law_1194 ?_
  refine zz_less (ls1 := [some (.ref 998), some (.ref 1000), some (.ref 1079), some (.ref 1121), some (zi (x4 + 7))]) ⟨rfl, ⟨rfl, ⟨rfl, ⟨rfl, ⟨rfl, trivial⟩⟩⟩⟩⟩ ?_
  exact ih (x4 + 7) S227 (n + d219) (k + zr_input_L.cells) (j + zr_input_L.slots) G_S227 H_S227 R_S227 O_S227 hn222 (by omega) (by show ((k + 1 : Nat) : Int) ≤ 200 + (x4 + 7); omega) (by show ((j + 6 : Nat) : Int) ≤ 30000 + 6 * (x4 + 7); omega) (by omega)
theorem zl_17 {g : mm_G} {l : Launch} (hfl : l.flags = flags0) (hlen : g.2.2.2 997 ≤ 3584) (N : Nat) (ih : ∀ (x4 : Int) (S : zz_S) (n k j : Nat), zz_G S → zz_Hc S → zz_Hr S → 1 ≤ S 1079 36 → zz_end ≤ n → (0 ≤ x4 ∧ x4 ≤ 3590) → (k : Int) ≤ 200 + x4 → (j : Int) ≤ 30000 + 6 * x4 → (3600 - x4).toNat < N → zz_E g l zy_law_L room_1 (fun u => ∃ M1 n1, u = (.inl (some (zi 1)), M1, n1)) S n 23 [some (.ref 998), some (.ref 1000), some (.ref 1079), some (.ref 1121), some (zi x4)] [] k j) (x4 : Int) (S : zz_S) (n k j : Nat) (G_S : zz_G S) (H_S : zz_Hc S) (R_S : zz_Hr S) (O_S : 1 ≤ S 1079 36) (hn : zz_end ≤ n) (hx : 0 ≤ x4 ∧ x4 ≤ 3590) (hkk : (k : Int) ≤ 200 + x4) (hjj : (j : Int) ≤ 30000 + 6 * x4) (hR : (3600 - x4).toNat < N + 1) (hc1 : x4 ≤ zz_ln g - 7) : zz_E g l zy_law_L room_1 (fun u => ∃ M1 n1, u = (.inl (some (zi 1)), M1, n1)) S n 781 [some (.ref 998), some (.ref 1000), some (.ref 1079), some (.ref 1121), some (zi x4)] [] k j := by
  have hln : 0 ≤ zz_ln g ∧ zz_ln g ≤ 3584 := ⟨Int.natCast_nonneg _, Int.ofNat_le.mpr hlen⟩
  have hk : k ≤ 601024 := by omega
  have hj : j ≤ 7293034 := by omega
  refine zz_aload_n (x := 1000) rfl zd_L_law_781 ?_
  refine zz_aload_n (x := 998) rfl zd_L_law_782 ?_
  refine zz_iload (x := x4) rfl zd_L_law_783 ?_
  refine zz_iconst zd_L_law_785 ?_
  refine zz_iadd zd_L_law_786 ?_
  refine zz_sld (by omega) zd_L_law_787 (by omega) ?_
  have g233 := zz_sc_r g (x4 + 1).toNat
  refine zz_aload_n (x := 998) rfl zd_L_law_788 ?_
  refine zz_iload (x := x4) rfl zd_L_law_789 ?_
  refine zz_iconst zd_L_law_791 ?_
  refine zz_iadd zd_L_law_792 ?_
  refine zz_sld (by omega) zd_L_law_793 (by omega) ?_
  have g234 := zz_sc_r g (x4 + 2).toNat
  refine zz_aload_n (x := 998) rfl zd_L_law_794 ?_
  refine zz_iload (x := x4) rfl zd_L_law_795 ?_
  refine zz_iconst zd_L_law_797 ?_
  refine zz_iadd zd_L_law_798 ?_
  refine zz_sld (by omega) zd_L_law_799 (by omega) ?_
  have g235 := zz_sc_r g (x4 + 3).toNat
  refine zz_aload_n (x := 998) rfl zd_L_law_800 ?_
  refine zz_iload (x := x4) rfl zd_L_law_801 ?_
  refine zz_iconst zd_L_law_803 ?_
  refine zz_iadd zd_L_law_804 ?_
  refine zz_sld (by omega) zd_L_law_805 (by omega) ?_
  have g236 := zz_sc_r g (x4 + 4).toNat
  refine zz_aload_n (x := 998) rfl zd_L_law_806 ?_
  refine zz_iload (x := x4) rfl zd_L_law_807 ?_
  refine zz_iconst zd_L_law_809 ?_
  refine zz_iadd zd_L_law_810 ?_
  refine zz_sld (by omega) zd_L_law_811 (by omega) ?_
  have g237 := zz_sc_r g (x4 + 5).toNat
  refine zz_aload_n (x := 998) rfl zd_L_law_812 ?_
  refine zz_iload (x := x4) rfl zd_L_law_813 ?_
  refine zz_bipush (by decide) zd_L_law_815 ?_
  refine zz_iadd zd_L_law_817 ?_
  refine zz_sld (by omega) zd_L_law_818 (by omega) ?_
  have g238 := zz_sc_r g (x4 + 6).toNat
  refine zz_aload_n (x := 1121) rfl zd_L_law_819 ?_
  refine zz_callHW (rz := zr_convolution_L) [.ref 1000, zi (zz_sc g (x4 + 1).toNat), zi (zz_sc g (x4 + 2).toNat), zi (zz_sc g (x4 + 3).toNat), zi (zz_sc g (x4 + 4).toNat), zi (zz_sc g (x4 + 5).toNat), zi (zz_sc g (x4 + 6).toNat), .ref 1121] zd_L_law_820 zhl_convolution_L rfl rfl ⟨Nat.le_of_ble_eq_true rfl, Nat.le_of_ble_eq_true rfl⟩ (by show k + 1 ≤ 601024; omega) (by show j + 6 ≤ 7293034; omega) (zc_convolution_L (zz_sc g (x4 + 1).toNat) (zz_sc g (x4 + 2).toNat) (zz_sc g (x4 + 3).toNat) (zz_sc g (x4 + 4).toNat) (zz_sc g (x4 + 5).toNat) (zz_sc g (x4 + 6).toNat) S (n) hn hfl G_S (by omega) (by omega) (by omega) (by omega) (by omega) (by omega) H_S) (fun v240 S239 d241 hd241 hP => ?_)
  obtain ⟨G_S239, fS239, rv240, o242⟩ := hP
  have hn243 : zz_end ≤ n + d241 := by omega
  have hk244 : (k + zr_convolution_L.cells) ≤ 601024 := by show k + 1 ≤ 601024; omega
  have hj245 : (j + zr_convolution_L.slots) ≤ 7293034 := by show j + 6 ≤ 7293034; omega
  have H_S239 : zz_Hc S239 := o242
  have R_S239 : zz_Hr S239 := zz_Hr.fr fS239 rfl rfl (fun b q h => h.elim) R_S
  have O_S239 : 1 ≤ S239 1079 36 := by rw [show S239 1079 36 = S 1079 36 from zz_rc fS239 rfl rfl (fun h => h) rfl]; exact O_S
  refine zz_istore [some (.ref 998), some (.ref 1000), some (.ref 1079), some (.ref 1121), some (zi x4), some (zi v240)] zd_L_law_823 (by decide) rfl ?_
  refine zz_aload_n (x := 1079) rfl zd_L_law_825 ?_
  refine zz_aload_n (x := 998) rfl zd_L_law_826 ?_
  refine zz_iload (x := x4) rfl zd_L_law_827 ?_
  refine zz_iconst zd_L_law_829 ?_
  refine zz_iadd zd_L_law_830 ?_
  refine zz_sld (by omega) zd_L_law_831 (by omega) ?_
  refine zz_aload_n (x := 998) rfl zd_L_law_832 ?_
  refine zz_iload (x := x4) rfl zd_L_law_833 ?_
  refine zz_iconst zd_L_law_835 ?_
  refine zz_iadd zd_L_law_836 ?_
  refine zz_sld (by omega) zd_L_law_837 (by omega) ?_
  refine zz_aload_n (x := 998) rfl zd_L_law_838 ?_
  refine zz_iload (x := x4) rfl zd_L_law_839 ?_
  refine zz_iconst zd_L_law_841 ?_
  refine zz_iadd zd_L_law_842 ?_
  refine zz_sld (by omega) zd_L_law_843 (by omega) ?_
  refine zz_aload_n (x := 998) rfl zd_L_law_844 ?_
  refine zz_iload (x := x4) rfl zd_L_law_845 ?_
  refine zz_iconst zd_L_law_847 ?_
  refine zz_iadd zd_L_law_848 ?_
  refine zz_sld (by omega) zd_L_law_849 (by omega) ?_
  refine zz_aload_n (x := 998) rfl zd_L_law_850 ?_
  refine zz_iload (x := x4) rfl zd_L_law_851 ?_
  refine zz_iconst zd_L_law_853 ?_
  refine zz_iadd zd_L_law_854 ?_
  refine zz_sld (by omega) zd_L_law_855 (by omega) ?_
  refine zz_aload_n (x := 998) rfl zd_L_law_856 ?_
  refine zz_iload (x := x4) rfl zd_L_law_857 ?_
  refine zz_bipush (by decide) zd_L_law_859 ?_
  refine zz_iadd zd_L_law_861 ?_
  refine zz_sld (by omega) zd_L_law_862 (by omega) ?_
  have g246 := zz_G.r G_S 1079 36 0 11 rfl rfl
  have e247 : S239 1079 36 = S 1079 36 := (zz_rc fS239 rfl rfl (fun h => h) rfl)
  refine zz_callVI [zi (zz_sc g (x4 + 1).toNat), zi (zz_sc g (x4 + 2).toNat), zi (zz_sc g (x4 + 3).toNat), zi (zz_sc g (x4 + 4).toNat), zi (zz_sc g (x4 + 5).toNat), zi (zz_sc g (x4 + 6).toNat)] zd_L_law_863 zk_TFLaw_171 zT_1079 (zz_ltn hn243 rfl) rfl rfl ⟨Nat.le_of_ble_eq_true rfl, Nat.le_of_ble_eq_true rfl⟩ ⟨rfl, rfl⟩ hk244 hj245 (zc_convolution_14_67 (zz_sc g (x4 + 1).toNat) (zz_sc g (x4 + 2).toNat) (zz_sc g (x4 + 3).toNat) (zz_sc g (x4 + 4).toNat) (zz_sc g (x4 + 5).toNat) (zz_sc g (x4 + 6).toNat) S239 (n + d241) hn243 G_S239 (by omega) (by omega) (by omega) (by omega) (by omega) (by omega) R_S239) (fun v249 S248 hP => ?_)
  obtain ⟨G_S248, fS248, o250, o251, o252⟩ := hP
  have H_S248 : zz_Hc S248 := zz_Hc.fr (q := 0) fS248 rfl rfl G_S239 (by decide) rfl (fun b q h => by omega) H_S239
  have R_S248 : zz_Hr S248 := o252
  have O_S248 : 1 ≤ S248 1079 36 := by omega
  refine zz_istore [some (.ref 998), some (.ref 1000), some (.ref 1079), some (.ref 1121), some (zi x4), some (zi v240), some (zi v249)] zd_L_law_866 (by decide) rfl ?_
  refine zz_goto zd_L_law_868 ?_
  refine zz_iinc [some (.ref 998), some (.ref 1000), some (.ref 1079), some (.ref 1121), some (zi (x4 + 7)), some (zi v240), some (zi v249)] zd_L_law_1191 rfl rfl ?_
  refine zz_goto zd_L_law_1194 ?_
  refine zz_less (ls1 := [some (.ref 998), some (.ref 1000), some (.ref 1079), some (.ref 1121), some (zi (x4 + 7))]) ⟨rfl, ⟨rfl, ⟨rfl, ⟨rfl, ⟨rfl, trivial⟩⟩⟩⟩⟩ ?_
  exact ih (x4 + 7) S248 (n + d241) (k + zr_convolution_L.cells) (j + zr_convolution_L.slots) G_S248 H_S248 R_S248 O_S248 hn243 (by omega) (by show ((k + 1 : Nat) : Int) ≤ 200 + (x4 + 7); omega) (by show ((j + 6 : Nat) : Int) ≤ 30000 + 6 * (x4 + 7); omega) (by omega)
theorem zl_18 {g : mm_G} {l : Launch} (hfl : l.flags = flags0) (hlen : g.2.2.2 997 ≤ 3584) (N : Nat) (ih : ∀ (x4 : Int) (S : zz_S) (n k j : Nat), zz_G S → zz_Hc S → zz_Hr S → 1 ≤ S 1079 36 → zz_end ≤ n → (0 ≤ x4 ∧ x4 ≤ 3590) → (k : Int) ≤ 200 + x4 → (j : Int) ≤ 30000 + 6 * x4 → (3600 - x4).toNat < N → zz_E g l zy_law_L room_1 (fun u => ∃ M1 n1, u = (.inl (some (zi 1)), M1, n1)) S n 23 [some (.ref 998), some (.ref 1000), some (.ref 1079), some (.ref 1121), some (zi x4)] [] k j) (x4 : Int) (S : zz_S) (n k j : Nat) (G_S : zz_G S) (H_S : zz_Hc S) (R_S : zz_Hr S) (O_S : 1 ≤ S 1079 36) (hn : zz_end ≤ n) (hx : 0 ≤ x4 ∧ x4 ≤ 3590) (hkk : (k : Int) ≤ 200 + x4) (hjj : (j : Int) ≤ 30000 + 6 * x4) (hR : (3600 - x4).toNat < N + 1) (hc1 : x4 ≤ zz_ln g - 7) : zz_E g l zy_law_L room_1 (fun u => ∃ M1 n1, u = (.inl (some (zi 1)), M1, n1)) S n 871 [some (.ref 998), some (.ref 1000), some (.ref 1079), some (.ref 1121), some (zi x4)] [] k j := by
  have hln : 0 ≤ zz_ln g ∧ zz_ln g ≤ 3584 := ⟨Int.natCast_nonneg _, Int.ofNat_le.mpr hlen⟩
  have hk : k ≤ 601024 := by omega
  have hj : j ≤ 7293034 := by omega
  refine zz_aload_n (x := 1000) rfl zd_L_law_871 ?_
  refine zz_aload_n (x := 998) rfl zd_L_law_872 ?_
  refine zz_iload (x := x4) rfl zd_L_law_873 ?_
  refine zz_iconst zd_L_law_875 ?_
  refine zz_iadd zd_L_law_876 ?_
  refine zz_sld (by omega) zd_L_law_877 (by omega) ?_
  have g254 := zz_sc_r g (x4 + 1).toNat
  refine zz_aload_n (x := 998) rfl zd_L_law_878 ?_
  refine zz_iload (x := x4) rfl zd_L_law_879 ?_
  refine zz_iconst zd_L_law_881 ?_
  refine zz_iadd zd_L_law_882 ?_
  refine zz_sld (by omega) zd_L_law_883 (by omega) ?_
  have g255 := zz_sc_r g (x4 + 2).toNat
  refine zz_aload_n (x := 998) rfl zd_L_law_884 ?_
  refine zz_iload (x := x4) rfl zd_L_law_885 ?_
  refine zz_iconst zd_L_law_887 ?_
  refine zz_iadd zd_L_law_888 ?_
  refine zz_sld (by omega) zd_L_law_889 (by omega) ?_
  have g256 := zz_sc_r g (x4 + 3).toNat
  refine zz_aload_n (x := 1121) rfl zd_L_law_890 ?_
  refine zz_callHW (rz := zr_pool_L) [.ref 1000, zi (zz_sc g (x4 + 1).toNat), zi (zz_sc g (x4 + 2).toNat), zi (zz_sc g (x4 + 3).toNat), .ref 1121] zd_L_law_891 zhl_pool_L rfl rfl ⟨Nat.le_of_ble_eq_true rfl, Nat.le_of_ble_eq_true rfl⟩ (by show k + 1 ≤ 601024; omega) (by show j + 6 ≤ 7293034; omega) (zc_pool_L (zz_sc g (x4 + 1).toNat) (zz_sc g (x4 + 2).toNat) (zz_sc g (x4 + 3).toNat) S (n) hn hfl G_S (by omega) (by omega) (by omega) H_S) (fun v258 S257 d259 hd259 hP => ?_)
  obtain ⟨G_S257, fS257, rv258, o260⟩ := hP
  have hn261 : zz_end ≤ n + d259 := by omega
  have hk262 : (k + zr_pool_L.cells) ≤ 601024 := by show k + 1 ≤ 601024; omega
  have hj263 : (j + zr_pool_L.slots) ≤ 7293034 := by show j + 6 ≤ 7293034; omega
  have H_S257 : zz_Hc S257 := o260
  have R_S257 : zz_Hr S257 := zz_Hr.fr fS257 rfl rfl (fun b q h => h.elim) R_S
  have O_S257 : 1 ≤ S257 1079 36 := by rw [show S257 1079 36 = S 1079 36 from zz_rc fS257 rfl rfl (fun h => h) rfl]; exact O_S
  refine zz_istore [some (.ref 998), some (.ref 1000), some (.ref 1079), some (.ref 1121), some (zi x4), some (zi v258)] zd_L_law_894 (by decide) rfl ?_
  refine zz_aload_n (x := 1079) rfl zd_L_law_896 ?_
  refine zz_aload_n (x := 998) rfl zd_L_law_897 ?_
  refine zz_iload (x := x4) rfl zd_L_law_898 ?_
  refine zz_iconst zd_L_law_900 ?_
  refine zz_iadd zd_L_law_901 ?_
  refine zz_sld (by omega) zd_L_law_902 (by omega) ?_
  refine zz_aload_n (x := 998) rfl zd_L_law_903 ?_
  refine zz_iload (x := x4) rfl zd_L_law_904 ?_
  refine zz_iconst zd_L_law_906 ?_
  refine zz_iadd zd_L_law_907 ?_
  refine zz_sld (by omega) zd_L_law_908 (by omega) ?_
  refine zz_aload_n (x := 998) rfl zd_L_law_909 ?_
  refine zz_iload (x := x4) rfl zd_L_law_910 ?_
  refine zz_iconst zd_L_law_912 ?_
  refine zz_iadd zd_L_law_913 ?_
  refine zz_sld (by omega) zd_L_law_914 (by omega) ?_
  have g264 := zz_G.r G_S 1079 36 0 11 rfl rfl
  have e265 : S257 1079 36 = S 1079 36 := (zz_rc fS257 rfl rfl (fun h => h) rfl)
  refine zz_callVI [zi (zz_sc g (x4 + 1).toNat), zi (zz_sc g (x4 + 2).toNat), zi (zz_sc g (x4 + 3).toNat)] zd_L_law_915 zk_TFLaw_175 zT_1079 (zz_ltn hn261 rfl) rfl rfl ⟨Nat.le_of_ble_eq_true rfl, Nat.le_of_ble_eq_true rfl⟩ ⟨rfl, rfl⟩ hk262 hj263 (zc_pool_14_69 (zz_sc g (x4 + 1).toNat) (zz_sc g (x4 + 2).toNat) (zz_sc g (x4 + 3).toNat) S257 (n + d259) hn261 G_S257 (by omega) (by omega) (by omega) R_S257) (fun v267 S266 hP => ?_)
  obtain ⟨G_S266, fS266, o268, o269, o270⟩ := hP
  have H_S266 : zz_Hc S266 := zz_Hc.fr (q := 0) fS266 rfl rfl G_S257 (by decide) rfl (fun b q h => by omega) H_S257
  have R_S266 : zz_Hr S266 := o270
  have O_S266 : 1 ≤ S266 1079 36 := by omega
  refine zz_istore [some (.ref 998), some (.ref 1000), some (.ref 1079), some (.ref 1121), some (zi x4), some (zi v258), some (zi v267)] zd_L_law_918 (by decide) rfl ?_
  refine zz_goto zd_L_law_920 ?_
  refine zz_iinc [some (.ref 998), some (.ref 1000), some (.ref 1079), some (.ref 1121), some (zi (x4 + 7)), some (zi v258), some (zi v267)] zd_L_law_1191 rfl rfl ?_
  refine zz_goto zd_L_law_1194 ?_
  refine zz_less (ls1 := [some (.ref 998), some (.ref 1000), some (.ref 1079), some (.ref 1121), some (zi (x4 + 7))]) ⟨rfl, ⟨rfl, ⟨rfl, ⟨rfl, ⟨rfl, trivial⟩⟩⟩⟩⟩ ?_
  exact ih (x4 + 7) S266 (n + d259) (k + zr_pool_L.cells) (j + zr_pool_L.slots) G_S266 H_S266 R_S266 O_S266 hn261 (by omega) (by show ((k + 1 : Nat) : Int) ≤ 200 + (x4 + 7); omega) (by show ((j + 6 : Nat) : Int) ≤ 30000 + 6 * (x4 + 7); omega) (by omega)
theorem zl_19 {g : mm_G} {l : Launch} (hfl : l.flags = flags0) (hlen : g.2.2.2 997 ≤ 3584) (N : Nat) (ih : ∀ (x4 : Int) (S : zz_S) (n k j : Nat), zz_G S → zz_Hc S → zz_Hr S → 1 ≤ S 1079 36 → zz_end ≤ n → (0 ≤ x4 ∧ x4 ≤ 3590) → (k : Int) ≤ 200 + x4 → (j : Int) ≤ 30000 + 6 * x4 → (3600 - x4).toNat < N → zz_E g l zy_law_L room_1 (fun u => ∃ M1 n1, u = (.inl (some (zi 1)), M1, n1)) S n 23 [some (.ref 998), some (.ref 1000), some (.ref 1079), some (.ref 1121), some (zi x4)] [] k j) (x4 : Int) (S : zz_S) (n k j : Nat) (G_S : zz_G S) (H_S : zz_Hc S) (R_S : zz_Hr S) (O_S : 1 ≤ S 1079 36) (hn : zz_end ≤ n) (hx : 0 ≤ x4 ∧ x4 ≤ 3590) (hkk : (k : Int) ≤ 200 + x4) (hjj : (j : Int) ≤ 30000 + 6 * x4) (hR : (3600 - x4).toNat < N + 1) (hc1 : x4 ≤ zz_ln g - 7) : zz_E g l zy_law_L room_1 (fun u => ∃ M1 n1, u = (.inl (some (zi 1)), M1, n1)) S n 923 [some (.ref 998), some (.ref 1000), some (.ref 1079), some (.ref 1121), some (zi x4)] [] k j := by
  have hln : 0 ≤ zz_ln g ∧ zz_ln g ≤ 3584 := ⟨Int.natCast_nonneg _, Int.ofNat_le.mpr hlen⟩
  have hk : k ≤ 601024 := by omega
  have hj : j ≤ 7293034 := by omega
  refine zz_aload_n (x := 1000) rfl zd_L_law_923 ?_
  refine zz_aload_n (x := 998) rfl zd_L_law_924 ?_
  refine zz_iload (x := x4) rfl zd_L_law_925 ?_
  refine zz_iconst zd_L_law_927 ?_
  refine zz_iadd zd_L_law_928 ?_
  refine zz_sld (by omega) zd_L_law_929 (by omega) ?_
  have g272 := zz_sc_r g (x4 + 1).toNat
  refine zz_aload_n (x := 998) rfl zd_L_law_930 ?_
  refine zz_iload (x := x4) rfl zd_L_law_931 ?_
  refine zz_iconst zd_L_law_933 ?_
  refine zz_iadd zd_L_law_934 ?_
  refine zz_sld (by omega) zd_L_law_935 (by omega) ?_
  have g273 := zz_sc_r g (x4 + 2).toNat
  refine zz_aload_n (x := 998) rfl zd_L_law_936 ?_
  refine zz_iload (x := x4) rfl zd_L_law_937 ?_
  refine zz_iconst zd_L_law_939 ?_
  refine zz_iadd zd_L_law_940 ?_
  refine zz_sld (by omega) zd_L_law_941 (by omega) ?_
  have g274 := zz_sc_r g (x4 + 3).toNat
  refine zz_aload_n (x := 1121) rfl zd_L_law_942 ?_
  refine zz_callHW (rz := zr_addition_L) [.ref 1000, zi (zz_sc g (x4 + 1).toNat), zi (zz_sc g (x4 + 2).toNat), zi (zz_sc g (x4 + 3).toNat), .ref 1121] zd_L_law_943 zhl_addition_L rfl rfl ⟨Nat.le_of_ble_eq_true rfl, Nat.le_of_ble_eq_true rfl⟩ (by show k + 1 ≤ 601024; omega) (by show j + 6 ≤ 7293034; omega) (zc_addition_L (zz_sc g (x4 + 1).toNat) (zz_sc g (x4 + 2).toNat) (zz_sc g (x4 + 3).toNat) S (n) hn hfl G_S (by omega) (by omega) (by omega) H_S) (fun v276 S275 d277 hd277 hP => ?_)
  obtain ⟨G_S275, fS275, rv276, o278⟩ := hP
  have hn279 : zz_end ≤ n + d277 := by omega
  have hk280 : (k + zr_addition_L.cells) ≤ 601024 := by show k + 1 ≤ 601024; omega
  have hj281 : (j + zr_addition_L.slots) ≤ 7293034 := by show j + 6 ≤ 7293034; omega
  have H_S275 : zz_Hc S275 := o278
  have R_S275 : zz_Hr S275 := zz_Hr.fr fS275 rfl rfl (fun b q h => h.elim) R_S
  have O_S275 : 1 ≤ S275 1079 36 := by rw [show S275 1079 36 = S 1079 36 from zz_rc fS275 rfl rfl (fun h => h) rfl]; exact O_S
  refine zz_istore [some (.ref 998), some (.ref 1000), some (.ref 1079), some (.ref 1121), some (zi x4), some (zi v276)] zd_L_law_946 (by decide) rfl ?_
  refine zz_aload_n (x := 1079) rfl zd_L_law_948 ?_
  refine zz_aload_n (x := 998) rfl zd_L_law_949 ?_
  refine zz_iload (x := x4) rfl zd_L_law_950 ?_
  refine zz_iconst zd_L_law_952 ?_
  refine zz_iadd zd_L_law_953 ?_
  refine zz_sld (by omega) zd_L_law_954 (by omega) ?_
  refine zz_aload_n (x := 998) rfl zd_L_law_955 ?_
  refine zz_iload (x := x4) rfl zd_L_law_956 ?_
  refine zz_iconst zd_L_law_958 ?_
  refine zz_iadd zd_L_law_959 ?_
  refine zz_sld (by omega) zd_L_law_960 (by omega) ?_
  refine zz_aload_n (x := 998) rfl zd_L_law_961 ?_
  refine zz_iload (x := x4) rfl zd_L_law_962 ?_
  refine zz_iconst zd_L_law_964 ?_
  refine zz_iadd zd_L_law_965 ?_
  refine zz_sld (by omega) zd_L_law_966 (by omega) ?_
  have g282 := zz_G.r G_S 1079 36 0 11 rfl rfl
  have e283 : S275 1079 36 = S 1079 36 := (zz_rc fS275 rfl rfl (fun h => h) rfl)
  refine zz_callVI [zi (zz_sc g (x4 + 1).toNat), zi (zz_sc g (x4 + 2).toNat), zi (zz_sc g (x4 + 3).toNat)] zd_L_law_967 zk_TFLaw_178 zT_1079 (zz_ltn hn279 rfl) rfl rfl ⟨Nat.le_of_ble_eq_true rfl, Nat.le_of_ble_eq_true rfl⟩ ⟨rfl, rfl⟩ hk280 hj281 (zc_addition_14_70 (zz_sc g (x4 + 1).toNat) (zz_sc g (x4 + 2).toNat) (zz_sc g (x4 + 3).toNat) S275 (n + d277) hn279 G_S275 (by omega) (by omega) (by omega) R_S275) (fun v285 S284 hP => ?_)
  obtain ⟨G_S284, fS284, o286, o287, o288⟩ := hP
  have H_S284 : zz_Hc S284 := zz_Hc.fr (q := 0) fS284 rfl rfl G_S275 (by decide) rfl (fun b q h => by omega) H_S275
  have R_S284 : zz_Hr S284 := o288
  have O_S284 : 1 ≤ S284 1079 36 := by omega
  refine zz_istore [some (.ref 998), some (.ref 1000), some (.ref 1079), some (.ref 1121), some (zi x4), some (zi v276), some (zi v285)] zd_L_law_970 (by decide) rfl ?_
  refine zz_goto zd_L_law_972 ?_
  refine zz_iinc [some (.ref 998), some (.ref 1000), some (.ref 1079), some (.ref 1121), some (zi (x4 + 7)), some (zi v276), some (zi v285)] zd_L_law_1191 rfl rfl ?_
  refine zz_goto zd_L_law_1194 ?_
  refine zz_less (ls1 := [some (.ref 998), some (.ref 1000), some (.ref 1079), some (.ref 1121), some (zi (x4 + 7))]) ⟨rfl, ⟨rfl, ⟨rfl, ⟨rfl, ⟨rfl, trivial⟩⟩⟩⟩⟩ ?_
  exact ih (x4 + 7) S284 (n + d277) (k + zr_addition_L.cells) (j + zr_addition_L.slots) G_S284 H_S284 R_S284 O_S284 hn279 (by omega) (by show ((k + 1 : Nat) : Int) ≤ 200 + (x4 + 7); omega) (by show ((j + 6 : Nat) : Int) ≤ 30000 + 6 * (x4 + 7); omega) (by omega)
theorem zl_20 {g : mm_G} {l : Launch} (hfl : l.flags = flags0) (hlen : g.2.2.2 997 ≤ 3584) (N : Nat) (ih : ∀ (x4 : Int) (S : zz_S) (n k j : Nat), zz_G S → zz_Hc S → zz_Hr S → 1 ≤ S 1079 36 → zz_end ≤ n → (0 ≤ x4 ∧ x4 ≤ 3590) → (k : Int) ≤ 200 + x4 → (j : Int) ≤ 30000 + 6 * x4 → (3600 - x4).toNat < N → zz_E g l zy_law_L room_1 (fun u => ∃ M1 n1, u = (.inl (some (zi 1)), M1, n1)) S n 23 [some (.ref 998), some (.ref 1000), some (.ref 1079), some (.ref 1121), some (zi x4)] [] k j) (x4 : Int) (S : zz_S) (n k j : Nat) (G_S : zz_G S) (H_S : zz_Hc S) (R_S : zz_Hr S) (O_S : 1 ≤ S 1079 36) (hn : zz_end ≤ n) (hx : 0 ≤ x4 ∧ x4 ≤ 3590) (hkk : (k : Int) ≤ 200 + x4) (hjj : (j : Int) ≤ 30000 + 6 * x4) (hR : (3600 - x4).toNat < N + 1) (hc1 : x4 ≤ zz_ln g - 7) : zz_E g l zy_law_L room_1 (fun u => ∃ M1 n1, u = (.inl (some (zi 1)), M1, n1)) S n 975 [some (.ref 998), some (.ref 1000), some (.ref 1079), some (.ref 1121), some (zi x4)] [] k j := by
  have hln : 0 ≤ zz_ln g ∧ zz_ln g ≤ 3584 := ⟨Int.natCast_nonneg _, Int.ofNat_le.mpr hlen⟩
  have hk : k ≤ 601024 := by omega
  have hj : j ≤ 7293034 := by omega
  refine zz_aload_n (x := 1000) rfl zd_L_law_975 ?_
  refine zz_aload_n (x := 998) rfl zd_L_law_976 ?_
  refine zz_iload (x := x4) rfl zd_L_law_977 ?_
  refine zz_iconst zd_L_law_979 ?_
  refine zz_iadd zd_L_law_980 ?_
  refine zz_sld (by omega) zd_L_law_981 (by omega) ?_
  have g290 := zz_sc_r g (x4 + 1).toNat
  refine zz_aload_n (x := 998) rfl zd_L_law_982 ?_
  refine zz_iload (x := x4) rfl zd_L_law_983 ?_
  refine zz_iconst zd_L_law_985 ?_
  refine zz_iadd zd_L_law_986 ?_
  refine zz_sld (by omega) zd_L_law_987 (by omega) ?_
  have g291 := zz_sc_r g (x4 + 2).toNat
  refine zz_aload_n (x := 1121) rfl zd_L_law_988 ?_
  refine zz_callHW (rz := zr_form_L) [.ref 1000, zi (zz_sc g (x4 + 1).toNat), zi (zz_sc g (x4 + 2).toNat), .ref 1121] zd_L_law_989 zhl_form_L rfl rfl ⟨Nat.le_of_ble_eq_true rfl, Nat.le_of_ble_eq_true rfl⟩ (by show k + 1 ≤ 601024; omega) (by show j + 6 ≤ 7293034; omega) (zc_form_L (zz_sc g (x4 + 1).toNat) (zz_sc g (x4 + 2).toNat) S (n) hn hfl G_S (by omega) (by omega)) (fun v293 S292 d294 hd294 hP => ?_)
  obtain ⟨G_S292, fS292, rv293⟩ := hP
  have hn295 : zz_end ≤ n + d294 := by omega
  have hk296 : (k + zr_form_L.cells) ≤ 601024 := by show k + 1 ≤ 601024; omega
  have hj297 : (j + zr_form_L.slots) ≤ 7293034 := by show j + 6 ≤ 7293034; omega
  have H_S292 : zz_Hc S292 := zz_Hc.fr (q := 0) fS292 rfl rfl G_S (by decide) rfl (fun b q h => h.elim) H_S
  have R_S292 : zz_Hr S292 := zz_Hr.fr fS292 rfl rfl (fun b q h => h.elim) R_S
  have O_S292 : 1 ≤ S292 1079 36 := by rw [show S292 1079 36 = S 1079 36 from zz_rc fS292 rfl rfl (fun h => h) rfl]; exact O_S
  refine zz_istore [some (.ref 998), some (.ref 1000), some (.ref 1079), some (.ref 1121), some (zi x4), some (zi v293)] zd_L_law_992 (by decide) rfl ?_
  refine zz_aload_n (x := 1079) rfl zd_L_law_994 ?_
  refine zz_aload_n (x := 998) rfl zd_L_law_995 ?_
  refine zz_iload (x := x4) rfl zd_L_law_996 ?_
  refine zz_iconst zd_L_law_998 ?_
  refine zz_iadd zd_L_law_999 ?_
  refine zz_sld (by omega) zd_L_law_1000 (by omega) ?_
  refine zz_aload_n (x := 998) rfl zd_L_law_1001 ?_
  refine zz_iload (x := x4) rfl zd_L_law_1002 ?_
  refine zz_iconst zd_L_law_1004 ?_
  refine zz_iadd zd_L_law_1005 ?_
  refine zz_sld (by omega) zd_L_law_1006 (by omega) ?_
  refine zz_callVI [zi (zz_sc g (x4 + 1).toNat), zi (zz_sc g (x4 + 2).toNat)] zd_L_law_1007 zk_TFLaw_181 zT_1079 (zz_ltn hn295 rfl) rfl rfl ⟨Nat.le_of_ble_eq_true rfl, Nat.le_of_ble_eq_true rfl⟩ ⟨rfl, rfl⟩ hk296 hj297 (zc_form_14_71 (zz_sc g (x4 + 1).toNat) (zz_sc g (x4 + 2).toNat) S292 (n + d294) hn295 G_S292 (by omega) (by omega)) (fun v299 S298 hP => ?_)
  obtain ⟨G_S298, fS298, o300⟩ := hP
  have H_S298 : zz_Hc S298 := zz_Hc.fr (q := 0) fS298 rfl rfl G_S292 (by decide) rfl (fun b q h => h.elim) H_S292
  have R_S298 : zz_Hr S298 := zz_Hr.fr fS298 rfl rfl (fun b q h => h.elim) R_S292
  have O_S298 : 1 ≤ S298 1079 36 := by rw [show S298 1079 36 = S292 1079 36 from zz_rc fS298 rfl rfl (fun h => h) rfl]; exact O_S292
  refine zz_istore [some (.ref 998), some (.ref 1000), some (.ref 1079), some (.ref 1121), some (zi x4), some (zi v293), some (zi v299)] zd_L_law_1010 (by decide) rfl ?_
  refine zz_goto zd_L_law_1012 ?_
  refine zz_iinc [some (.ref 998), some (.ref 1000), some (.ref 1079), some (.ref 1121), some (zi (x4 + 7)), some (zi v293), some (zi v299)] zd_L_law_1191 rfl rfl ?_
  refine zz_goto zd_L_law_1194 ?_
  refine zz_less (ls1 := [some (.ref 998), some (.ref 1000), some (.ref 1079), some (.ref 1121), some (zi (x4 + 7))]) ⟨rfl, ⟨rfl, ⟨rfl, ⟨rfl, ⟨rfl, trivial⟩⟩⟩⟩⟩ ?_
  exact ih (x4 + 7) S298 (n + d294) (k + zr_form_L.cells) (j + zr_form_L.slots) G_S298 H_S298 R_S298 O_S298 hn295 (by omega) (by show ((k + 1 : Nat) : Int) ≤ 200 + (x4 + 7); omega) (by show ((j + 6 : Nat) : Int) ≤ 30000 + 6 * (x4 + 7); omega) (by omega)
theorem zl_21 {g : mm_G} {l : Launch} (hfl : l.flags = flags0) (hlen : g.2.2.2 997 ≤ 3584) (N : Nat) (ih : ∀ (x4 : Int) (S : zz_S) (n k j : Nat), zz_G S → zz_Hc S → zz_Hr S → 1 ≤ S 1079 36 → zz_end ≤ n → (0 ≤ x4 ∧ x4 ≤ 3590) → (k : Int) ≤ 200 + x4 → (j : Int) ≤ 30000 + 6 * x4 → (3600 - x4).toNat < N → zz_E g l zy_law_L room_1 (fun u => ∃ M1 n1, u = (.inl (some (zi 1)), M1, n1)) S n 23 [some (.ref 998), some (.ref 1000), some (.ref 1079), some (.ref 1121), some (zi x4)] [] k j) (x4 : Int) (S : zz_S) (n k j : Nat) (G_S : zz_G S) (H_S : zz_Hc S) (R_S : zz_Hr S) (O_S : 1 ≤ S 1079 36) (hn : zz_end ≤ n) (hx : 0 ≤ x4 ∧ x4 ≤ 3590) (hkk : (k : Int) ≤ 200 + x4) (hjj : (j : Int) ≤ 30000 + 6 * x4) (hR : (3600 - x4).toNat < N + 1) (hc1 : x4 ≤ zz_ln g - 7) : zz_E g l zy_law_L room_1 (fun u => ∃ M1 n1, u = (.inl (some (zi 1)), M1, n1)) S n 1015 [some (.ref 998), some (.ref 1000), some (.ref 1079), some (.ref 1121), some (zi x4)] [] k j := by
  have hln : 0 ≤ zz_ln g ∧ zz_ln g ≤ 3584 := ⟨Int.natCast_nonneg _, Int.ofNat_le.mpr hlen⟩
  have hk : k ≤ 601024 := by omega
  have hj : j ≤ 7293034 := by omega
  refine zz_aload_n (x := 1000) rfl zd_L_law_1015 ?_
  refine zz_aload_n (x := 1121) rfl zd_L_law_1016 ?_
  refine zz_callHW (rz := zr_compile_L) [.ref 1000, .ref 1121] zd_L_law_1017 zhl_compile_L rfl rfl ⟨Nat.le_of_ble_eq_true rfl, Nat.le_of_ble_eq_true rfl⟩ (by show k + 1 ≤ 601024; omega) (by show j + 6 ≤ 7293034; omega) (zc_compile_L  S (n) hn hfl G_S H_S) (fun v303 S302 d304 hd304 hP => ?_)
  obtain ⟨G_S302, fS302, rv303, o305⟩ := hP
  have hn306 : zz_end ≤ n + d304 := by omega
  have hk307 : (k + zr_compile_L.cells) ≤ 601024 := by show k + 1 ≤ 601024; omega
  have hj308 : (j + zr_compile_L.slots) ≤ 7293034 := by show j + 6 ≤ 7293034; omega
  have H_S302 : zz_Hc S302 := o305
  have R_S302 : zz_Hr S302 := zz_Hr.fr fS302 rfl rfl (fun b q h => h.elim) R_S
  have O_S302 : 1 ≤ S302 1079 36 := by rw [show S302 1079 36 = S 1079 36 from zz_rc fS302 rfl rfl (fun h => h) rfl]; exact O_S
  refine zz_istore [some (.ref 998), some (.ref 1000), some (.ref 1079), some (.ref 1121), some (zi x4), some (zi v303)] zd_L_law_1020 (by decide) rfl ?_
  refine zz_aload_n (x := 1079) rfl zd_L_law_1022 ?_
  refine zz_callVI [] zd_L_law_1023 zk_TFLaw_185 zT_1079 (zz_ltn hn306 rfl) rfl rfl ⟨Nat.le_of_ble_eq_true rfl, Nat.le_of_ble_eq_true rfl⟩ ⟨rfl, rfl⟩ hk307 hj308 (zc_compile_14_89  S302 (n + d304) hn306 G_S302 ) (fun v310 S309 hP => ?_)
  obtain ⟨G_S309, fS309, o311⟩ := hP
  have H_S309 : zz_Hc S309 := zz_Hc.fr (q := 0) fS309 rfl rfl G_S302 (by decide) rfl (fun b q h => h.elim) H_S302
  have R_S309 : zz_Hr S309 := zz_Hr.fr fS309 rfl rfl (fun b q h => h.elim) R_S302
  have O_S309 : 1 ≤ S309 1079 36 := by rw [show S309 1079 36 = S302 1079 36 from zz_rc fS309 rfl rfl (fun h => h) rfl]; exact O_S302
  refine zz_istore [some (.ref 998), some (.ref 1000), some (.ref 1079), some (.ref 1121), some (zi x4), some (zi v303), some (zi v310)] zd_L_law_1026 (by decide) rfl ?_
  refine zz_goto zd_L_law_1028 ?_
  refine zz_iinc [some (.ref 998), some (.ref 1000), some (.ref 1079), some (.ref 1121), some (zi (x4 + 7)), some (zi v303), some (zi v310)] zd_L_law_1191 rfl rfl ?_
  refine zz_goto zd_L_law_1194 ?_
  refine zz_less (ls1 := [some (.ref 998), some (.ref 1000), some (.ref 1079), some (.ref 1121), some (zi (x4 + 7))]) ⟨rfl, ⟨rfl, ⟨rfl, ⟨rfl, ⟨rfl, trivial⟩⟩⟩⟩⟩ ?_
  exact ih (x4 + 7) S309 (n + d304) (k + zr_compile_L.cells) (j + zr_compile_L.slots) G_S309 H_S309 R_S309 O_S309 hn306 (by omega) (by show ((k + 1 : Nat) : Int) ≤ 200 + (x4 + 7); omega) (by show ((j + 6 : Nat) : Int) ≤ 30000 + 6 * (x4 + 7); omega) (by omega)
theorem zl_22 {g : mm_G} {l : Launch} (hfl : l.flags = flags0) (hlen : g.2.2.2 997 ≤ 3584) (N : Nat) (ih : ∀ (x4 : Int) (S : zz_S) (n k j : Nat), zz_G S → zz_Hc S → zz_Hr S → 1 ≤ S 1079 36 → zz_end ≤ n → (0 ≤ x4 ∧ x4 ≤ 3590) → (k : Int) ≤ 200 + x4 → (j : Int) ≤ 30000 + 6 * x4 → (3600 - x4).toNat < N → zz_E g l zy_law_L room_1 (fun u => ∃ M1 n1, u = (.inl (some (zi 1)), M1, n1)) S n 23 [some (.ref 998), some (.ref 1000), some (.ref 1079), some (.ref 1121), some (zi x4)] [] k j) (x4 : Int) (S : zz_S) (n k j : Nat) (G_S : zz_G S) (H_S : zz_Hc S) (R_S : zz_Hr S) (O_S : 1 ≤ S 1079 36) (hn : zz_end ≤ n) (hx : 0 ≤ x4 ∧ x4 ≤ 3590) (hkk : (k : Int) ≤ 200 + x4) (hjj : (j : Int) ≤ 30000 + 6 * x4) (hR : (3600 - x4).toNat < N + 1) (hc1 : x4 ≤ zz_ln g - 7) : zz_E g l zy_law_L room_1 (fun u => ∃ M1 n1, u = (.inl (some (zi 1)), M1, n1)) S n 1031 [some (.ref 998), some (.ref 1000), some (.ref 1079), some (.ref 1121), some (zi x4)] [] k j := by
  have hln : 0 ≤ zz_ln g ∧ zz_ln g ≤ 3584 := ⟨Int.natCast_nonneg _, Int.ofNat_le.mpr hlen⟩
  have hk : k ≤ 601024 := by omega
  have hj : j ≤ 7293034 := by omega
  refine zz_aload_n (x := 1000) rfl zd_L_law_1031 ?_
  refine zz_callVV [] zd_L_law_1032 zk_TFLaw_186 zT_1000 (zz_ltn hn rfl) rfl rfl ⟨Nat.le_of_ble_eq_true rfl, Nat.le_of_ble_eq_true rfl⟩ ⟨rfl, rfl⟩ hk hj (zc_reckon_1_24  S (n) hn G_S ) (fun S313 hP => ?_)
  obtain ⟨G_S313, fS313⟩ := hP
  have H_S313 : zz_Hc S313 := zz_Hc.fr (q := 0) fS313 rfl rfl G_S (by decide) rfl (fun b q h => h.elim) H_S
  have R_S313 : zz_Hr S313 := zz_Hr.fr fS313 rfl rfl (fun b q h => h.elim) R_S
  have O_S313 : 1 ≤ S313 1079 36 := by rw [show S313 1079 36 = S 1079 36 from zz_rc fS313 rfl rfl (fun h => h) rfl]; exact O_S
  refine zz_aload_n (x := 1079) rfl zd_L_law_1035 ?_
  refine zz_callVV [] zd_L_law_1036 zk_TFLaw_189 zT_1079 (zz_ltn hn rfl) rfl rfl ⟨Nat.le_of_ble_eq_true rfl, Nat.le_of_ble_eq_true rfl⟩ ⟨rfl, rfl⟩ hk hj (zc_reckon_14_76  S313 (n) hn G_S313 R_S313) (fun S315 hP => ?_)
  obtain ⟨G_S315, fS315, o317⟩ := hP
  have H_S315 : zz_Hc S315 := zz_Hc.fr (q := 0) fS315 rfl rfl G_S313 (by decide) rfl (fun b q h => h.elim) H_S313
  have R_S315 : zz_Hr S315 := o317
  have O_S315 : 1 ≤ S315 1079 36 := by rw [show S315 1079 36 = S313 1079 36 from zz_rc fS315 rfl rfl (fun h => h) rfl]; exact O_S313
  refine zz_goto zd_L_law_1039 ?_
  refine zz_iinc [some (.ref 998), some (.ref 1000), some (.ref 1079), some (.ref 1121), some (zi (x4 + 7))] zd_L_law_1191 rfl rfl ?_
  refine zz_goto zd_L_law_1194 ?_
  refine zz_less (ls1 := [some (.ref 998), some (.ref 1000), some (.ref 1079), some (.ref 1121), some (zi (x4 + 7))]) ⟨rfl, ⟨rfl, ⟨rfl, ⟨rfl, ⟨rfl, trivial⟩⟩⟩⟩⟩ ?_
  exact ih (x4 + 7) S315 (n) k j G_S315 H_S315 R_S315 O_S315 hn (by omega) (by show ((k : Nat) : Int) ≤ 200 + (x4 + 7); omega) (by show ((j : Nat) : Int) ≤ 30000 + 6 * (x4 + 7); omega) (by omega)
theorem zl_23 {g : mm_G} {l : Launch} (hfl : l.flags = flags0) (hlen : g.2.2.2 997 ≤ 3584) (N : Nat) (ih : ∀ (x4 : Int) (S : zz_S) (n k j : Nat), zz_G S → zz_Hc S → zz_Hr S → 1 ≤ S 1079 36 → zz_end ≤ n → (0 ≤ x4 ∧ x4 ≤ 3590) → (k : Int) ≤ 200 + x4 → (j : Int) ≤ 30000 + 6 * x4 → (3600 - x4).toNat < N → zz_E g l zy_law_L room_1 (fun u => ∃ M1 n1, u = (.inl (some (zi 1)), M1, n1)) S n 23 [some (.ref 998), some (.ref 1000), some (.ref 1079), some (.ref 1121), some (zi x4)] [] k j) (x4 : Int) (S : zz_S) (n k j : Nat) (G_S : zz_G S) (H_S : zz_Hc S) (R_S : zz_Hr S) (O_S : 1 ≤ S 1079 36) (hn : zz_end ≤ n) (hx : 0 ≤ x4 ∧ x4 ≤ 3590) (hkk : (k : Int) ≤ 200 + x4) (hjj : (j : Int) ≤ 30000 + 6 * x4) (hR : (3600 - x4).toNat < N + 1) (hc1 : x4 ≤ zz_ln g - 7) : zz_E g l zy_law_L room_1 (fun u => ∃ M1 n1, u = (.inl (some (zi 1)), M1, n1)) S n 1042 [some (.ref 998), some (.ref 1000), some (.ref 1079), some (.ref 1121), some (zi x4)] [] k j := by
  have hln : 0 ≤ zz_ln g ∧ zz_ln g ≤ 3584 := ⟨Int.natCast_nonneg _, Int.ofNat_le.mpr hlen⟩
  have hk : k ≤ 601024 := by omega
  have hj : j ≤ 7293034 := by omega
  refine zz_aload_n (x := 1000) rfl zd_L_law_1042 ?_
  refine zz_callVI [] zd_L_law_1043 zk_TFLaw_190 zT_1000 (zz_ltn hn rfl) rfl rfl ⟨Nat.le_of_ble_eq_true rfl, Nat.le_of_ble_eq_true rfl⟩ ⟨rfl, rfl⟩ hk hj (zc_network_1_25  S (n) hn G_S H_S) (fun v320 S319 hP => ?_)
  obtain ⟨G_S319, fS319, o321, o322⟩ := hP
  have H_S319 : zz_Hc S319 := o322
  have R_S319 : zz_Hr S319 := zz_Hr.fr fS319 rfl rfl (fun b q h => h.elim) R_S
  have O_S319 : 1 ≤ S319 1079 36 := by rw [show S319 1079 36 = S 1079 36 from zz_rc fS319 rfl rfl (fun h => h) rfl]; exact O_S
  refine zz_pop rfl zd_L_law_1046 ?_
  refine zz_aload_n (x := 1079) rfl zd_L_law_1047 ?_
  have g323 := zz_G.r G_S 1079 36 0 11 rfl rfl
  have e324 : S319 1079 36 = S 1079 36 := (zz_rc fS319 rfl rfl (fun h => h) rfl)
  refine zz_callVI [] zd_L_law_1048 zk_TFLaw_193 zT_1079 (zz_ltn hn rfl) rfl rfl ⟨Nat.le_of_ble_eq_true rfl, Nat.le_of_ble_eq_true rfl⟩ ⟨rfl, rfl⟩ hk hj (zc_network_14_105  S319 (n) hn G_S319 R_S319 (by omega)) (fun v326 S325 hP => ?_)
  obtain ⟨G_S325, fS325, o327, o328, o329⟩ := hP
  have H_S325 : zz_Hc S325 := zz_Hc.fr (q := 0) fS325 rfl rfl G_S319 (by decide) rfl (fun b q h => h.elim) H_S319
  have R_S325 : zz_Hr S325 := o329
  have O_S325 : 1 ≤ S325 1079 36 := by omega
  refine zz_pop rfl zd_L_law_1051 ?_
  refine zz_goto zd_L_law_1052 ?_
  refine zz_iinc [some (.ref 998), some (.ref 1000), some (.ref 1079), some (.ref 1121), some (zi (x4 + 7))] zd_L_law_1191 rfl rfl ?_
  refine zz_goto zd_L_law_1194 ?_
  refine zz_less (ls1 := [some (.ref 998), some (.ref 1000), some (.ref 1079), some (.ref 1121), some (zi (x4 + 7))]) ⟨rfl, ⟨rfl, ⟨rfl, ⟨rfl, ⟨rfl, trivial⟩⟩⟩⟩⟩ ?_
  exact ih (x4 + 7) S325 (n) k j G_S325 H_S325 R_S325 O_S325 hn (by omega) (by show ((k : Nat) : Int) ≤ 200 + (x4 + 7); omega) (by show ((j : Nat) : Int) ≤ 30000 + 6 * (x4 + 7); omega) (by omega)
theorem zl_24 {g : mm_G} {l : Launch} (hfl : l.flags = flags0) (hlen : g.2.2.2 997 ≤ 3584) (N : Nat) (ih : ∀ (x4 : Int) (S : zz_S) (n k j : Nat), zz_G S → zz_Hc S → zz_Hr S → 1 ≤ S 1079 36 → zz_end ≤ n → (0 ≤ x4 ∧ x4 ≤ 3590) → (k : Int) ≤ 200 + x4 → (j : Int) ≤ 30000 + 6 * x4 → (3600 - x4).toNat < N → zz_E g l zy_law_L room_1 (fun u => ∃ M1 n1, u = (.inl (some (zi 1)), M1, n1)) S n 23 [some (.ref 998), some (.ref 1000), some (.ref 1079), some (.ref 1121), some (zi x4)] [] k j) (x4 : Int) (S : zz_S) (n k j : Nat) (G_S : zz_G S) (H_S : zz_Hc S) (R_S : zz_Hr S) (O_S : 1 ≤ S 1079 36) (hn : zz_end ≤ n) (hx : 0 ≤ x4 ∧ x4 ≤ 3590) (hkk : (k : Int) ≤ 200 + x4) (hjj : (j : Int) ≤ 30000 + 6 * x4) (hR : (3600 - x4).toNat < N + 1) (hc1 : x4 ≤ zz_ln g - 7) : zz_E g l zy_law_L room_1 (fun u => ∃ M1 n1, u = (.inl (some (zi 1)), M1, n1)) S n 1055 [some (.ref 998), some (.ref 1000), some (.ref 1079), some (.ref 1121), some (zi x4)] [] k j := by
  have hln : 0 ≤ zz_ln g ∧ zz_ln g ≤ 3584 := ⟨Int.natCast_nonneg _, Int.ofNat_le.mpr hlen⟩
  have hk : k ≤ 601024 := by omega
  have hj : j ≤ 7293034 := by omega
  refine zz_aload_n (x := 1000) rfl zd_L_law_1055 ?_
  refine zz_aload_n (x := 998) rfl zd_L_law_1056 ?_
  refine zz_iload (x := x4) rfl zd_L_law_1057 ?_
  refine zz_iconst zd_L_law_1059 ?_
  refine zz_iadd zd_L_law_1060 ?_
  refine zz_sld (by omega) zd_L_law_1061 (by omega) ?_
  have g331 := zz_sc_r g (x4 + 1).toNat
  refine zz_aload_n (x := 998) rfl zd_L_law_1062 ?_
  refine zz_iload (x := x4) rfl zd_L_law_1063 ?_
  refine zz_iconst zd_L_law_1065 ?_
  refine zz_iadd zd_L_law_1066 ?_
  refine zz_sld (by omega) zd_L_law_1067 (by omega) ?_
  have g332 := zz_sc_r g (x4 + 2).toNat
  refine zz_aload_n (x := 1121) rfl zd_L_law_1068 ?_
  refine zz_callHW (rz := zr_networkSign_L) [.ref 1000, zi (zz_sc g (x4 + 1).toNat), zi (zz_sc g (x4 + 2).toNat), .ref 1121] zd_L_law_1069 zhl_networkSign_L rfl rfl ⟨Nat.le_of_ble_eq_true rfl, Nat.le_of_ble_eq_true rfl⟩ (by show k + 1 ≤ 601024; omega) (by show j + 6 ≤ 7293034; omega) (zc_networkSign_L (zz_sc g (x4 + 1).toNat) (zz_sc g (x4 + 2).toNat) S (n) hn hfl G_S (by omega) (by omega)) (fun v334 S333 d335 hd335 hP => ?_)
  obtain ⟨G_S333, fS333, rv334⟩ := hP
  have hn336 : zz_end ≤ n + d335 := by omega
  have hk337 : (k + zr_networkSign_L.cells) ≤ 601024 := by show k + 1 ≤ 601024; omega
  have hj338 : (j + zr_networkSign_L.slots) ≤ 7293034 := by show j + 6 ≤ 7293034; omega
  have H_S333 : zz_Hc S333 := zz_Hc.fr (q := 0) fS333 rfl rfl G_S (by decide) rfl (fun b q h => h.elim) H_S
  have R_S333 : zz_Hr S333 := zz_Hr.fr fS333 rfl rfl (fun b q h => h.elim) R_S
  have O_S333 : 1 ≤ S333 1079 36 := by rw [show S333 1079 36 = S 1079 36 from zz_rc fS333 rfl rfl (fun h => h) rfl]; exact O_S
  refine zz_istore [some (.ref 998), some (.ref 1000), some (.ref 1079), some (.ref 1121), some (zi x4), some (zi v334)] zd_L_law_1072 (by decide) rfl ?_
  refine zz_aload_n (x := 1079) rfl zd_L_law_1074 ?_
  refine zz_aload_n (x := 998) rfl zd_L_law_1075 ?_
  refine zz_iload (x := x4) rfl zd_L_law_1076 ?_
  refine zz_iconst zd_L_law_1078 ?_
  refine zz_iadd zd_L_law_1079 ?_
  refine zz_sld (by omega) zd_L_law_1080 (by omega) ?_
  refine zz_aload_n (x := 998) rfl zd_L_law_1081 ?_
  refine zz_iload (x := x4) rfl zd_L_law_1082 ?_
  refine zz_iconst zd_L_law_1084 ?_
  refine zz_iadd zd_L_law_1085 ?_
  refine zz_sld (by omega) zd_L_law_1086 (by omega) ?_
  refine zz_callVI [zi (zz_sc g (x4 + 1).toNat), zi (zz_sc g (x4 + 2).toNat)] zd_L_law_1087 zk_TFLaw_196 zT_1079 (zz_ltn hn336 rfl) rfl rfl ⟨Nat.le_of_ble_eq_true rfl, Nat.le_of_ble_eq_true rfl⟩ ⟨rfl, rfl⟩ hk337 hj338 (zc_networkSign_14_109 (zz_sc g (x4 + 1).toNat) (zz_sc g (x4 + 2).toNat) S333 (n + d335) hn336 G_S333 (by omega) (by omega)) (fun v340 S339 hP => ?_)
  obtain ⟨G_S339, fS339, o341⟩ := hP
  have H_S339 : zz_Hc S339 := zz_Hc.fr (q := 0) fS339 rfl rfl G_S333 (by decide) rfl (fun b q h => h.elim) H_S333
  have R_S339 : zz_Hr S339 := zz_Hr.fr fS339 rfl rfl (fun b q h => h.elim) R_S333
  have O_S339 : 1 ≤ S339 1079 36 := by rw [show S339 1079 36 = S333 1079 36 from zz_rc fS339 rfl rfl (fun h => h) rfl]; exact O_S333
  refine zz_istore [some (.ref 998), some (.ref 1000), some (.ref 1079), some (.ref 1121), some (zi x4), some (zi v334), some (zi v340)] zd_L_law_1090 (by decide) rfl ?_
  refine zz_goto zd_L_law_1092 ?_
  refine zz_iinc [some (.ref 998), some (.ref 1000), some (.ref 1079), some (.ref 1121), some (zi (x4 + 7)), some (zi v334), some (zi v340)] zd_L_law_1191 rfl rfl ?_
  refine zz_goto zd_L_law_1194 ?_
  refine zz_less (ls1 := [some (.ref 998), some (.ref 1000), some (.ref 1079), some (.ref 1121), some (zi (x4 + 7))]) ⟨rfl, ⟨rfl, ⟨rfl, ⟨rfl, ⟨rfl, trivial⟩⟩⟩⟩⟩ ?_
  exact ih (x4 + 7) S339 (n + d335) (k + zr_networkSign_L.cells) (j + zr_networkSign_L.slots) G_S339 H_S339 R_S339 O_S339 hn336 (by omega) (by show ((k + 1 : Nat) : Int) ≤ 200 + (x4 + 7); omega) (by show ((j + 6 : Nat) : Int) ≤ 30000 + 6 * (x4 + 7); omega) (by omega)
theorem zl_25 {g : mm_G} {l : Launch} (hfl : l.flags = flags0) (hlen : g.2.2.2 997 ≤ 3584) (N : Nat) (ih : ∀ (x4 : Int) (S : zz_S) (n k j : Nat), zz_G S → zz_Hc S → zz_Hr S → 1 ≤ S 1079 36 → zz_end ≤ n → (0 ≤ x4 ∧ x4 ≤ 3590) → (k : Int) ≤ 200 + x4 → (j : Int) ≤ 30000 + 6 * x4 → (3600 - x4).toNat < N → zz_E g l zy_law_L room_1 (fun u => ∃ M1 n1, u = (.inl (some (zi 1)), M1, n1)) S n 23 [some (.ref 998), some (.ref 1000), some (.ref 1079), some (.ref 1121), some (zi x4)] [] k j) (x4 : Int) (S : zz_S) (n k j : Nat) (G_S : zz_G S) (H_S : zz_Hc S) (R_S : zz_Hr S) (O_S : 1 ≤ S 1079 36) (hn : zz_end ≤ n) (hx : 0 ≤ x4 ∧ x4 ≤ 3590) (hkk : (k : Int) ≤ 200 + x4) (hjj : (j : Int) ≤ 30000 + 6 * x4) (hR : (3600 - x4).toNat < N + 1) (hc1 : x4 ≤ zz_ln g - 7) : zz_E g l zy_law_L room_1 (fun u => ∃ M1 n1, u = (.inl (some (zi 1)), M1, n1)) S n 1095 [some (.ref 998), some (.ref 1000), some (.ref 1079), some (.ref 1121), some (zi x4)] [] k j := by
  have hln : 0 ≤ zz_ln g ∧ zz_ln g ≤ 3584 := ⟨Int.natCast_nonneg _, Int.ofNat_le.mpr hlen⟩
  have hk : k ≤ 601024 := by omega
  have hj : j ≤ 7293034 := by omega
  refine zz_aload_n (x := 1000) rfl zd_L_law_1095 ?_
  refine zz_aload_n (x := 1121) rfl zd_L_law_1096 ?_
  refine zz_callHW (rz := zr_place_L) [.ref 1000, .ref 1121] zd_L_law_1097 zhl_place_L rfl rfl ⟨Nat.le_of_ble_eq_true rfl, Nat.le_of_ble_eq_true rfl⟩ (by show k + 1 ≤ 601024; omega) (by show j + 6 ≤ 7293034; omega) (zc_place_L  S (n) hn hfl G_S ) (fun v344 S343 d345 hd345 hP => ?_)
  obtain ⟨G_S343, fS343, rv344⟩ := hP
  have g346 := zz_G.r G_S 1000 7 0 1 rfl rfl
  have hn347 : zz_end ≤ n + d345 := by omega
  have hk348 : (k + zr_place_L.cells) ≤ 601024 := by show k + 1 ≤ 601024; omega
  have hj349 : (j + zr_place_L.slots) ≤ 7293034 := by show j + 6 ≤ 7293034; omega
  have H_S343 : zz_Hc S343 := zz_Hc.sp fS343 rfl rfl G_S (fun b q h => by have h0_ := zz_rf6 (z := (12 * (S 1000 7) + 0)) (by omega); omega) H_S
  have R_S343 : zz_Hr S343 := zz_Hr.fr fS343 rfl rfl (fun b q h => by have h0_ := zz_rf6 (z := (12 * (S 1000 7) + 0)) (by omega); omega) R_S
  have O_S343 : 1 ≤ S343 1079 36 := by rw [show S343 1079 36 = S 1079 36 from zz_rc fS343 rfl rfl (by have h0_ := zz_rf6 (z := (12 * (S 1000 7) + 0)) (by omega); omega) rfl]; exact O_S
  refine zz_istore [some (.ref 998), some (.ref 1000), some (.ref 1079), some (.ref 1121), some (zi x4), some (zi v344)] zd_L_law_1100 (by decide) rfl ?_
  refine zz_aload_n (x := 1079) rfl zd_L_law_1102 ?_
  have g350 := zz_G.r G_S 1079 36 0 11 rfl rfl
  have e351 : S343 1079 36 = S 1079 36 := (zz_rc fS343 rfl rfl (by omega) rfl)
  refine zz_callVI [] zd_L_law_1103 zk_TFLaw_199 zT_1079 (zz_ltn hn347 rfl) rfl rfl ⟨Nat.le_of_ble_eq_true rfl, Nat.le_of_ble_eq_true rfl⟩ ⟨rfl, rfl⟩ hk348 hj349 (zc_place_14_113  S343 (n + d345) hn347 G_S343 R_S343 (by omega)) (fun v353 S352 hP => ?_)
  obtain ⟨G_S352, fS352, o354, o355⟩ := hP
  have H_S352 : zz_Hc S352 := zz_Hc.fr (q := 0) fS352 rfl rfl G_S343 (by decide) rfl (fun b q h => h.elim) H_S343
  have R_S352 : zz_Hr S352 := o355
  have O_S352 : 1 ≤ S352 1079 36 := by rw [show S352 1079 36 = S343 1079 36 from zz_rc fS352 rfl rfl (fun h => h) rfl]; exact O_S343
  refine zz_istore [some (.ref 998), some (.ref 1000), some (.ref 1079), some (.ref 1121), some (zi x4), some (zi v344), some (zi v353)] zd_L_law_1106 (by decide) rfl ?_
  refine zz_goto zd_L_law_1108 ?_
  refine zz_iinc [some (.ref 998), some (.ref 1000), some (.ref 1079), some (.ref 1121), some (zi (x4 + 7)), some (zi v344), some (zi v353)] zd_L_law_1191 rfl rfl ?_
  refine zz_goto zd_L_law_1194 ?_
  refine zz_less (ls1 := [some (.ref 998), some (.ref 1000), some (.ref 1079), some (.ref 1121), some (zi (x4 + 7))]) ⟨rfl, ⟨rfl, ⟨rfl, ⟨rfl, ⟨rfl, trivial⟩⟩⟩⟩⟩ ?_
  exact ih (x4 + 7) S352 (n + d345) (k + zr_place_L.cells) (j + zr_place_L.slots) G_S352 H_S352 R_S352 O_S352 hn347 (by omega) (by show ((k + 1 : Nat) : Int) ≤ 200 + (x4 + 7); omega) (by show ((j + 6 : Nat) : Int) ≤ 30000 + 6 * (x4 + 7); omega) (by omega)
theorem zl_26 {g : mm_G} {l : Launch} (hfl : l.flags = flags0) (hlen : g.2.2.2 997 ≤ 3584) (N : Nat) (ih : ∀ (x4 : Int) (S : zz_S) (n k j : Nat), zz_G S → zz_Hc S → zz_Hr S → 1 ≤ S 1079 36 → zz_end ≤ n → (0 ≤ x4 ∧ x4 ≤ 3590) → (k : Int) ≤ 200 + x4 → (j : Int) ≤ 30000 + 6 * x4 → (3600 - x4).toNat < N → zz_E g l zy_law_L room_1 (fun u => ∃ M1 n1, u = (.inl (some (zi 1)), M1, n1)) S n 23 [some (.ref 998), some (.ref 1000), some (.ref 1079), some (.ref 1121), some (zi x4)] [] k j) (x4 : Int) (S : zz_S) (n k j : Nat) (G_S : zz_G S) (H_S : zz_Hc S) (R_S : zz_Hr S) (O_S : 1 ≤ S 1079 36) (hn : zz_end ≤ n) (hx : 0 ≤ x4 ∧ x4 ≤ 3590) (hkk : (k : Int) ≤ 200 + x4) (hjj : (j : Int) ≤ 30000 + 6 * x4) (hR : (3600 - x4).toNat < N + 1) (hc1 : x4 ≤ zz_ln g - 7) : zz_E g l zy_law_L room_1 (fun u => ∃ M1 n1, u = (.inl (some (zi 1)), M1, n1)) S n 1111 [some (.ref 998), some (.ref 1000), some (.ref 1079), some (.ref 1121), some (zi x4)] [] k j := by
  have hln : 0 ≤ zz_ln g ∧ zz_ln g ≤ 3584 := ⟨Int.natCast_nonneg _, Int.ofNat_le.mpr hlen⟩
  have hk : k ≤ 601024 := by omega
  have hj : j ≤ 7293034 := by omega
  refine zz_aload_n (x := 1000) rfl zd_L_law_1111 ?_
  refine zz_aload_n (x := 998) rfl zd_L_law_1112 ?_
  refine zz_iload (x := x4) rfl zd_L_law_1113 ?_
  refine zz_iconst zd_L_law_1115 ?_
  refine zz_iadd zd_L_law_1116 ?_
  refine zz_sld (by omega) zd_L_law_1117 (by omega) ?_
  have g357 := zz_sc_r g (x4 + 1).toNat
  refine zz_aload_n (x := 998) rfl zd_L_law_1118 ?_
  refine zz_iload (x := x4) rfl zd_L_law_1119 ?_
  refine zz_iconst zd_L_law_1121 ?_
  refine zz_iadd zd_L_law_1122 ?_
  refine zz_sld (by omega) zd_L_law_1123 (by omega) ?_
  have g358 := zz_sc_r g (x4 + 2).toNat
  refine zz_aload_n (x := 1121) rfl zd_L_law_1124 ?_
  refine zz_callHW (rz := zr_under_L) [.ref 1000, zi (zz_sc g (x4 + 1).toNat), zi (zz_sc g (x4 + 2).toNat), .ref 1121] zd_L_law_1125 zhl_under_L rfl rfl ⟨Nat.le_of_ble_eq_true rfl, Nat.le_of_ble_eq_true rfl⟩ (by show k + 2 ≤ 601024; omega) (by show j + 12 ≤ 7293034; omega) (zc_under_L (zz_sc g (x4 + 1).toNat) (zz_sc g (x4 + 2).toNat) S (n) hn hfl G_S (by omega) (by omega)) (fun v360 S359 d361 hd361 hP => ?_)
  obtain ⟨G_S359, fS359, rv360⟩ := hP
  have hn362 : zz_end ≤ n + d361 := by omega
  have hk363 : (k + zr_under_L.cells) ≤ 601024 := by show k + 2 ≤ 601024; omega
  have hj364 : (j + zr_under_L.slots) ≤ 7293034 := by show j + 12 ≤ 7293034; omega
  have H_S359 : zz_Hc S359 := zz_Hc.fr (q := 0) fS359 rfl rfl G_S (by decide) rfl (fun b q h => h.elim) H_S
  have R_S359 : zz_Hr S359 := zz_Hr.fr fS359 rfl rfl (fun b q h => h.elim) R_S
  have O_S359 : 1 ≤ S359 1079 36 := by rw [show S359 1079 36 = S 1079 36 from zz_rc fS359 rfl rfl (fun h => h) rfl]; exact O_S
  refine zz_istore [some (.ref 998), some (.ref 1000), some (.ref 1079), some (.ref 1121), some (zi x4), some (zi v360)] zd_L_law_1128 (by decide) rfl ?_
  refine zz_aload_n (x := 1079) rfl zd_L_law_1130 ?_
  refine zz_aload_n (x := 998) rfl zd_L_law_1131 ?_
  refine zz_iload (x := x4) rfl zd_L_law_1132 ?_
  refine zz_iconst zd_L_law_1134 ?_
  refine zz_iadd zd_L_law_1135 ?_
  refine zz_sld (by omega) zd_L_law_1136 (by omega) ?_
  refine zz_aload_n (x := 998) rfl zd_L_law_1137 ?_
  refine zz_iload (x := x4) rfl zd_L_law_1138 ?_
  refine zz_iconst zd_L_law_1140 ?_
  refine zz_iadd zd_L_law_1141 ?_
  refine zz_sld (by omega) zd_L_law_1142 (by omega) ?_
  refine zz_callVI [zi (zz_sc g (x4 + 1).toNat), zi (zz_sc g (x4 + 2).toNat)] zd_L_law_1143 zk_TFLaw_202 zT_1079 (zz_ltn hn362 rfl) rfl rfl ⟨Nat.le_of_ble_eq_true rfl, Nat.le_of_ble_eq_true rfl⟩ ⟨rfl, rfl⟩ hk363 hj364 (zc_under_14_117 (zz_sc g (x4 + 1).toNat) (zz_sc g (x4 + 2).toNat) S359 (n + d361) hn362 G_S359 (by omega) (by omega)) (fun v366 S365 hP => ?_)
  obtain ⟨G_S365, fS365, o367⟩ := hP
  have H_S365 : zz_Hc S365 := zz_Hc.fr (q := 0) fS365 rfl rfl G_S359 (by decide) rfl (fun b q h => h.elim) H_S359
  have R_S365 : zz_Hr S365 := zz_Hr.fr fS365 rfl rfl (fun b q h => h.elim) R_S359
  have O_S365 : 1 ≤ S365 1079 36 := by rw [show S365 1079 36 = S359 1079 36 from zz_rc fS365 rfl rfl (fun h => h) rfl]; exact O_S359
  refine zz_istore [some (.ref 998), some (.ref 1000), some (.ref 1079), some (.ref 1121), some (zi x4), some (zi v360), some (zi v366)] zd_L_law_1146 (by decide) rfl ?_
  refine zz_goto zd_L_law_1148 ?_
  refine zz_iinc [some (.ref 998), some (.ref 1000), some (.ref 1079), some (.ref 1121), some (zi (x4 + 7)), some (zi v360), some (zi v366)] zd_L_law_1191 rfl rfl ?_
  refine zz_goto zd_L_law_1194 ?_
  refine zz_less (ls1 := [some (.ref 998), some (.ref 1000), some (.ref 1079), some (.ref 1121), some (zi (x4 + 7))]) ⟨rfl, ⟨rfl, ⟨rfl, ⟨rfl, ⟨rfl, trivial⟩⟩⟩⟩⟩ ?_
  exact ih (x4 + 7) S365 (n + d361) (k + zr_under_L.cells) (j + zr_under_L.slots) G_S365 H_S365 R_S365 O_S365 hn362 (by omega) (by show ((k + 2 : Nat) : Int) ≤ 200 + (x4 + 7); omega) (by show ((j + 12 : Nat) : Int) ≤ 30000 + 6 * (x4 + 7); omega) (by omega)
theorem zl_27 {g : mm_G} {l : Launch} (hfl : l.flags = flags0) (hlen : g.2.2.2 997 ≤ 3584) (N : Nat) (ih : ∀ (x4 : Int) (S : zz_S) (n k j : Nat), zz_G S → zz_Hc S → zz_Hr S → 1 ≤ S 1079 36 → zz_end ≤ n → (0 ≤ x4 ∧ x4 ≤ 3590) → (k : Int) ≤ 200 + x4 → (j : Int) ≤ 30000 + 6 * x4 → (3600 - x4).toNat < N → zz_E g l zy_law_L room_1 (fun u => ∃ M1 n1, u = (.inl (some (zi 1)), M1, n1)) S n 23 [some (.ref 998), some (.ref 1000), some (.ref 1079), some (.ref 1121), some (zi x4)] [] k j) (x4 : Int) (S : zz_S) (n k j : Nat) (G_S : zz_G S) (H_S : zz_Hc S) (R_S : zz_Hr S) (O_S : 1 ≤ S 1079 36) (hn : zz_end ≤ n) (hx : 0 ≤ x4 ∧ x4 ≤ 3590) (hkk : (k : Int) ≤ 200 + x4) (hjj : (j : Int) ≤ 30000 + 6 * x4) (hR : (3600 - x4).toNat < N + 1) (hc1 : x4 ≤ zz_ln g - 7) : zz_E g l zy_law_L room_1 (fun u => ∃ M1 n1, u = (.inl (some (zi 1)), M1, n1)) S n 1151 [some (.ref 998), some (.ref 1000), some (.ref 1079), some (.ref 1121), some (zi x4)] [] k j := by
  have hln : 0 ≤ zz_ln g ∧ zz_ln g ≤ 3584 := ⟨Int.natCast_nonneg _, Int.ofNat_le.mpr hlen⟩
  have hk : k ≤ 601024 := by omega
  have hj : j ≤ 7293034 := by omega
  refine zz_aload_n (x := 1000) rfl zd_L_law_1151 ?_
  refine zz_aload_n (x := 998) rfl zd_L_law_1152 ?_
  refine zz_iload (x := x4) rfl zd_L_law_1153 ?_
  refine zz_iconst zd_L_law_1155 ?_
  refine zz_iadd zd_L_law_1156 ?_
  refine zz_sld (by omega) zd_L_law_1157 (by omega) ?_
  have g369 := zz_sc_r g (x4 + 1).toNat
  refine zz_aload_n (x := 998) rfl zd_L_law_1158 ?_
  refine zz_iload (x := x4) rfl zd_L_law_1159 ?_
  refine zz_iconst zd_L_law_1161 ?_
  refine zz_iadd zd_L_law_1162 ?_
  refine zz_sld (by omega) zd_L_law_1163 (by omega) ?_
  have g370 := zz_sc_r g (x4 + 2).toNat
  refine zz_aload_n (x := 1121) rfl zd_L_law_1164 ?_
  refine zz_callHW (rz := zr_waits_L) [.ref 1000, zi (zz_sc g (x4 + 1).toNat), zi (zz_sc g (x4 + 2).toNat), .ref 1121] zd_L_law_1165 zhl_waits_L rfl rfl ⟨Nat.le_of_ble_eq_true rfl, Nat.le_of_ble_eq_true rfl⟩ (by show k + 2 ≤ 601024; omega) (by show j + 12 ≤ 7293034; omega) (zc_waits_L (zz_sc g (x4 + 1).toNat) (zz_sc g (x4 + 2).toNat) S (n) hn hfl G_S (by omega) (by omega)) (fun v372 S371 d373 hd373 hP => ?_)
  obtain ⟨G_S371, fS371, rv372⟩ := hP
  have hn374 : zz_end ≤ n + d373 := by omega
  have hk375 : (k + zr_waits_L.cells) ≤ 601024 := by show k + 2 ≤ 601024; omega
  have hj376 : (j + zr_waits_L.slots) ≤ 7293034 := by show j + 12 ≤ 7293034; omega
  have H_S371 : zz_Hc S371 := zz_Hc.fr (q := 0) fS371 rfl rfl G_S (by decide) rfl (fun b q h => h.elim) H_S
  have R_S371 : zz_Hr S371 := zz_Hr.fr fS371 rfl rfl (fun b q h => h.elim) R_S
  have O_S371 : 1 ≤ S371 1079 36 := by rw [show S371 1079 36 = S 1079 36 from zz_rc fS371 rfl rfl (fun h => h) rfl]; exact O_S
  refine zz_istore [some (.ref 998), some (.ref 1000), some (.ref 1079), some (.ref 1121), some (zi x4), some (zi v372)] zd_L_law_1168 (by decide) rfl ?_
  refine zz_aload_n (x := 1079) rfl zd_L_law_1170 ?_
  refine zz_aload_n (x := 998) rfl zd_L_law_1171 ?_
  refine zz_iload (x := x4) rfl zd_L_law_1172 ?_
  refine zz_iconst zd_L_law_1174 ?_
  refine zz_iadd zd_L_law_1175 ?_
  refine zz_sld (by omega) zd_L_law_1176 (by omega) ?_
  refine zz_aload_n (x := 998) rfl zd_L_law_1177 ?_
  refine zz_iload (x := x4) rfl zd_L_law_1178 ?_
  refine zz_iconst zd_L_law_1180 ?_
  refine zz_iadd zd_L_law_1181 ?_
  refine zz_sld (by omega) zd_L_law_1182 (by omega) ?_
  refine zz_callVI [zi (zz_sc g (x4 + 1).toNat), zi (zz_sc g (x4 + 2).toNat)] zd_L_law_1183 zk_TFLaw_205 zT_1079 (zz_ltn hn374 rfl) rfl rfl ⟨Nat.le_of_ble_eq_true rfl, Nat.le_of_ble_eq_true rfl⟩ ⟨rfl, rfl⟩ hk375 hj376 (zc_waits_14_119 (zz_sc g (x4 + 1).toNat) (zz_sc g (x4 + 2).toNat) S371 (n + d373) hn374 G_S371 (by omega) (by omega)) (fun v378 S377 hP => ?_)
  obtain ⟨G_S377, fS377, o379⟩ := hP
  have H_S377 : zz_Hc S377 := zz_Hc.fr (q := 0) fS377 rfl rfl G_S371 (by decide) rfl (fun b q h => h.elim) H_S371
  have R_S377 : zz_Hr S377 := zz_Hr.fr fS377 rfl rfl (fun b q h => h.elim) R_S371
  have O_S377 : 1 ≤ S377 1079 36 := by rw [show S377 1079 36 = S371 1079 36 from zz_rc fS377 rfl rfl (fun h => h) rfl]; exact O_S371
  refine zz_istore [some (.ref 998), some (.ref 1000), some (.ref 1079), some (.ref 1121), some (zi x4), some (zi v372), some (zi v378)] zd_L_law_1186 (by decide) rfl ?_
  refine zz_goto zd_L_law_1188 ?_
  refine zz_iinc [some (.ref 998), some (.ref 1000), some (.ref 1079), some (.ref 1121), some (zi (x4 + 7)), some (zi v372), some (zi v378)] zd_L_law_1191 rfl rfl ?_
  refine zz_goto zd_L_law_1194 ?_
  refine zz_less (ls1 := [some (.ref 998), some (.ref 1000), some (.ref 1079), some (.ref 1121), some (zi (x4 + 7))]) ⟨rfl, ⟨rfl, ⟨rfl, ⟨rfl, ⟨rfl, trivial⟩⟩⟩⟩⟩ ?_
  exact ih (x4 + 7) S377 (n + d373) (k + zr_waits_L.cells) (j + zr_waits_L.slots) G_S377 H_S377 R_S377 O_S377 hn374 (by omega) (by show ((k + 2 : Nat) : Int) ≤ 200 + (x4 + 7); omega) (by show ((j + 12 : Nat) : Int) ≤ 30000 + 6 * (x4 + 7); omega) (by omega)
theorem zi_law_L {g : mm_G} {l : Launch} (hfl : l.flags = flags0) (hlen : g.2.2.2 997 ≤ 3584) : ∀ N : Nat, ∀ (x4 : Int) (S : zz_S) (n k j : Nat), zz_G S → zz_Hc S → zz_Hr S → 1 ≤ S 1079 36 → zz_end ≤ n → (0 ≤ x4 ∧ x4 ≤ 3590) → (k : Int) ≤ 200 + x4 → (j : Int) ≤ 30000 + 6 * x4 → (3600 - x4).toNat < N → zz_E g l zy_law_L room_1 (fun u => ∃ M1 n1, u = (.inl (some (zi 1)), M1, n1)) S n 23 [some (.ref 998), some (.ref 1000), some (.ref 1079), some (.ref 1121), some (zi x4)] [] k j := by
  intro N
  induction N with
  | zero => exact fun x4 S n k j _ _ _ _ _ _ _ _ h => absurd h (Nat.not_lt_zero _)
  | succ N ih =>
    intro x4 S n k j G_S H_S R_S O_S hn hx hkk hjj hR
    have hln : 0 ≤ zz_ln g ∧ zz_ln g ≤ 3584 := ⟨Int.natCast_nonneg _, Int.ofNat_le.mpr hlen⟩
    have hk : k ≤ 601024 := by omega
    have hj : j ≤ 7293034 := by omega
    refine zz_iload (x := x4) rfl zd_L_law_23 ?_
    refine zz_aload_n (x := 998) rfl zd_L_law_25 ?_
    refine zz_sln zd_L_law_26 ?_
    refine zz_bipush (by decide) zd_L_law_27 ?_
    refine zz_isub zd_L_law_29 ?_
    refine zz_icmp_gt (by omega) (by omega) zd_L_law_30 (fun c1 => ?_) (fun hc1 => ?_)
    · refine zz_iconst zd_L_law_1197 ?_
      exact zz_zret zd_L_law_1198 rfl (by decide) hk hj ⟨_, _, rfl⟩
    · refine zz_aload_n (x := 998) rfl zd_L_law_33 ?_
      refine zz_iload (x := x4) rfl zd_L_law_34 ?_
      refine zz_sld (by omega) zd_L_law_36 (by omega) ?_
      have g2 := zz_sc_r g x4.toNat
      refine zz_bipush (by decide) zd_L_law_37 ?_
      refine zz_iand (by omega) (by omega) zd_L_law_39 (fun v3 hv3 av3 bv3 ev3 => ?_)
      by_cases c4 : v3 = 0
      · refine zz_swIn 0 128 c4 (by decide) zd_L_law_40 rfl rfl ?_
        exact zl_0 hfl hlen N ih x4 S n k j G_S H_S R_S O_S hn hx hkk hjj hR hc1
      by_cases c22 : v3 = 1
      · refine zz_swIn 1 153 c22 (by decide) zd_L_law_40 rfl rfl ?_
        exact zl_1 hfl hlen N ih x4 S n k j G_S H_S R_S O_S hn hx hkk hjj hR hc1
      by_cases c41 : v3 = 2
      · refine zz_swIn 2 201 c41 (by decide) zd_L_law_40 rfl rfl ?_
        exact zl_2 hfl hlen N ih x4 S n k j G_S H_S R_S O_S hn hx hkk hjj hR hc1
      by_cases c53 : v3 = 3
      · refine zz_swIn 3 241 c53 (by decide) zd_L_law_40 rfl rfl ?_
        exact zl_3 hfl hlen N ih x4 S n k j G_S H_S R_S O_S hn hx hkk hjj hR hc1
      by_cases c72 : v3 = 4
      · refine zz_swIn 4 310 c72 (by decide) zd_L_law_40 rfl rfl ?_
        exact zl_4 hfl hlen N ih x4 S n k j G_S H_S R_S O_S hn hx hkk hjj hR hc1
      by_cases c82 : v3 = 5
      · refine zz_swIn 5 335 c82 (by decide) zd_L_law_40 rfl rfl ?_
        exact zl_5 hfl hlen N ih x4 S n k j G_S H_S R_S O_S hn hx hkk hjj hR hc1
      by_cases c93 : v3 = 6
      · refine zz_swIn 6 363 c93 (by decide) zd_L_law_40 rfl rfl ?_
        exact zl_6 hfl hlen N ih x4 S n k j G_S H_S R_S O_S hn hx hkk hjj hR hc1
      by_cases c100 : v3 = 7
      · refine zz_swIn 7 376 c100 (by decide) zd_L_law_40 rfl rfl ?_
        exact zl_7 hfl hlen N ih x4 S n k j G_S H_S R_S O_S hn hx hkk hjj hR hc1
      by_cases c121 : v3 = 8
      · refine zz_swIn 8 448 c121 (by decide) zd_L_law_40 rfl rfl ?_
        exact zl_8 hfl hlen N ih x4 S n k j G_S H_S R_S O_S hn hx hkk hjj hR hc1
      by_cases c142 : v3 = 9
      · refine zz_swIn 9 505 c142 (by decide) zd_L_law_40 rfl rfl ?_
        exact zl_9 hfl hlen N ih x4 S n k j G_S H_S R_S O_S hn hx hkk hjj hR hc1
      by_cases c153 : v3 = 10
      · refine zz_swIn 10 533 c153 (by decide) zd_L_law_40 rfl rfl ?_
        exact zl_10 hfl hlen N ih x4 S n k j G_S H_S R_S O_S hn hx hkk hjj hR hc1
      by_cases c163 : v3 = 11
      · refine zz_swIn 11 558 c163 (by decide) zd_L_law_40 rfl rfl ?_
        exact zl_11 hfl hlen N ih x4 S n k j G_S H_S R_S O_S hn hx hkk hjj hR hc1
      by_cases c171 : v3 = 12
      · refine zz_swIn 12 571 c171 (by decide) zd_L_law_40 rfl rfl ?_
        exact zl_12 hfl hlen N ih x4 S n k j G_S H_S R_S O_S hn hx hkk hjj hR hc1
      by_cases c183 : v3 = 13
      · refine zz_swIn 13 611 c183 (by decide) zd_L_law_40 rfl rfl ?_
        exact zl_13 hfl hlen N ih x4 S n k j G_S H_S R_S O_S hn hx hkk hjj hR hc1
      by_cases c190 : v3 = 14
      · refine zz_swIn 14 624 c190 (by decide) zd_L_law_40 rfl rfl ?_
        exact zl_14 hfl hlen N ih x4 S n k j G_S H_S R_S O_S hn hx hkk hjj hR hc1
      by_cases c201 : v3 = 15
      · refine zz_swIn 15 652 c201 (by decide) zd_L_law_40 rfl rfl ?_
        exact zl_15 hfl hlen N ih x4 S n k j G_S H_S R_S O_S hn hx hkk hjj hR hc1
      by_cases c213 : v3 = 16
      · refine zz_swIn 16 692 c213 (by decide) zd_L_law_40 rfl rfl ?_
        exact zl_16 hfl hlen N ih x4 S n k j G_S H_S R_S O_S hn hx hkk hjj hR hc1
      by_cases c232 : v3 = 17
      · refine zz_swIn 17 741 c232 (by decide) zd_L_law_40 rfl rfl ?_
        exact zl_17 hfl hlen N ih x4 S n k j G_S H_S R_S O_S hn hx hkk hjj hR hc1
      by_cases c253 : v3 = 18
      · refine zz_swIn 18 831 c253 (by decide) zd_L_law_40 rfl rfl ?_
        exact zl_18 hfl hlen N ih x4 S n k j G_S H_S R_S O_S hn hx hkk hjj hR hc1
      by_cases c271 : v3 = 19
      · refine zz_swIn 19 883 c271 (by decide) zd_L_law_40 rfl rfl ?_
        exact zl_19 hfl hlen N ih x4 S n k j G_S H_S R_S O_S hn hx hkk hjj hR hc1
      by_cases c289 : v3 = 20
      · refine zz_swIn 20 935 c289 (by decide) zd_L_law_40 rfl rfl ?_
        exact zl_20 hfl hlen N ih x4 S n k j G_S H_S R_S O_S hn hx hkk hjj hR hc1
      by_cases c301 : v3 = 21
      · refine zz_swIn 21 975 c301 (by decide) zd_L_law_40 rfl rfl ?_
        exact zl_21 hfl hlen N ih x4 S n k j G_S H_S R_S O_S hn hx hkk hjj hR hc1
      by_cases c312 : v3 = 22
      · refine zz_swIn 22 991 c312 (by decide) zd_L_law_40 rfl rfl ?_
        exact zl_22 hfl hlen N ih x4 S n k j G_S H_S R_S O_S hn hx hkk hjj hR hc1
      by_cases c318 : v3 = 23
      · refine zz_swIn 23 1002 c318 (by decide) zd_L_law_40 rfl rfl ?_
        exact zl_23 hfl hlen N ih x4 S n k j G_S H_S R_S O_S hn hx hkk hjj hR hc1
      by_cases c330 : v3 = 24
      · refine zz_swIn 24 1015 c330 (by decide) zd_L_law_40 rfl rfl ?_
        exact zl_24 hfl hlen N ih x4 S n k j G_S H_S R_S O_S hn hx hkk hjj hR hc1
      by_cases c342 : v3 = 25
      · refine zz_swIn 25 1055 c342 (by decide) zd_L_law_40 rfl rfl ?_
        exact zl_25 hfl hlen N ih x4 S n k j G_S H_S R_S O_S hn hx hkk hjj hR hc1
      by_cases c356 : v3 = 26
      · refine zz_swIn 26 1071 c356 (by decide) zd_L_law_40 rfl rfl ?_
        exact zl_26 hfl hlen N ih x4 S n k j G_S H_S R_S O_S hn hx hkk hjj hR hc1
      by_cases c368 : v3 = 27
      · refine zz_swIn 27 1111 c368 (by decide) zd_L_law_40 rfl rfl ?_
        exact zl_27 hfl hlen N ih x4 S n k j G_S H_S R_S O_S hn hx hkk hjj hR hc1
      refine zz_swOut (by omega) (by omega) zd_L_law_40 rfl ?_
      refine zz_iinc [some (.ref 998), some (.ref 1000), some (.ref 1079), some (.ref 1121), some (zi (x4 + 7))] zd_L_law_1191 rfl rfl ?_
      refine zz_goto zd_L_law_1194 ?_
      refine zz_less (ls1 := [some (.ref 998), some (.ref 1000), some (.ref 1079), some (.ref 1121), some (zi (x4 + 7))]) ⟨rfl, ⟨rfl, ⟨rfl, ⟨rfl, ⟨rfl, trivial⟩⟩⟩⟩⟩ ?_
      exact ih (x4 + 7) S (n) k j G_S H_S R_S O_S hn (by omega) (by show ((k : Nat) : Int) ≤ 200 + (x4 + 7); omega) (by show ((j : Nat) : Int) ≤ 30000 + 6 * (x4 + 7); omega) (by omega)
theorem zn_TFLaw_8 : mm_Nl "TensorForgeLaw" 8 0 12 [.null, .null, .null, .null, .null, .null, .null, .null, .null, .null, .null, .int 0] := ⟨R_TF, F_TF, t_TF, rfl, i_TF, t_TF_ok, mm_tb_1 28 (by decide +kernel) rfl, mm_tb_1 29 (by decide +kernel) rfl, mm_tb_1 1 (by decide +kernel) rfl, fun q hq => by rcases (by omega : q = 0 ∨ q = 1 ∨ q = 2 ∨ q = 3 ∨ q = 4 ∨ q = 5 ∨ q = 6 ∨ q = 7 ∨ q = 8 ∨ q = 9 ∨ q = 10 ∨ q = 11) with rfl | rfl | rfl | rfl | rfl | rfl | rfl | rfl | rfl | rfl | rfl | rfl <;> rfl, fun _ => rfl⟩
theorem zk_TFLaw_94 : mm_Il "TensorForgeLaw" 94 0 zy_init_1_1 := ⟨zyw_init_1_1, mm_tb_1 30 (by decide +kernel) rfl, mm_tb_1 31 (by decide +kernel) rfl, rfl, rfl⟩
theorem zn_TFLaw_95 : mm_Nl "TensorForgeLaw" 95 11 69 [.int 0, .int 0, .null, .null, .null, .null, .null, .int 0, .null, .null, .int 0, .null, .null, .null, .int 0, .int 0, .int 0, .null, .null, .int 0, .null, .null, .null, .null, .null, .null, .null, .null, .int 0, .null, .int 0, .int 0, .int 0, .int 0, .int 0, .null, .int 0, .null, .null, .null, .null, .null, .null, .null, .null, .null, .null, .null, .null, .null, .int 0, .int 0, .int 0, .int 0, .int 0, .int 0, .int 0, .int 0, .null, .null, .int 0, .long 0, .null, .null, .long 0, .int 0, .int 0, .null, .null] := ⟨R_Md, F_Md, t_Md, rfl, i_Md, t_Md_ok, mm_tb_1 1582 (by decide +kernel) rfl, mm_tb_1 1583 (by decide +kernel) rfl, mm_tb_1 12 (by decide +kernel) rfl, fun q hq => by rcases (by omega : q = 0 ∨ q = 1 ∨ q = 2 ∨ q = 3 ∨ q = 4 ∨ q = 5 ∨ q = 6 ∨ q = 7 ∨ q = 8 ∨ q = 9 ∨ q = 10 ∨ q = 11 ∨ q = 12 ∨ q = 13 ∨ q = 14 ∨ q = 15 ∨ q = 16 ∨ q = 17 ∨ q = 18 ∨ q = 19 ∨ q = 20 ∨ q = 21 ∨ q = 22 ∨ q = 23 ∨ q = 24 ∨ q = 25 ∨ q = 26 ∨ q = 27 ∨ q = 28 ∨ q = 29 ∨ q = 30 ∨ q = 31 ∨ q = 32 ∨ q = 33 ∨ q = 34 ∨ q = 35 ∨ q = 36 ∨ q = 37 ∨ q = 38 ∨ q = 39 ∨ q = 40 ∨ q = 41 ∨ q = 42 ∨ q = 43 ∨ q = 44 ∨ q = 45 ∨ q = 46 ∨ q = 47 ∨ q = 48 ∨ q = 49 ∨ q = 50 ∨ q = 51 ∨ q = 52 ∨ q = 53 ∨ q = 54 ∨ q = 55 ∨ q = 56 ∨ q = 57 ∨ q = 58 ∨ q = 59 ∨ q = 60 ∨ q = 61 ∨ q = 62 ∨ q = 63 ∨ q = 64 ∨ q = 65 ∨ q = 66 ∨ q = 67 ∨ q = 68) with rfl | rfl | rfl | rfl | rfl | rfl | rfl | rfl | rfl | rfl | rfl | rfl | rfl | rfl | rfl | rfl | rfl | rfl | rfl | rfl | rfl | rfl | rfl | rfl | rfl | rfl | rfl | rfl | rfl | rfl | rfl | rfl | rfl | rfl | rfl | rfl | rfl | rfl | rfl | rfl | rfl | rfl | rfl | rfl | rfl | rfl | rfl | rfl | rfl | rfl | rfl | rfl | rfl | rfl | rfl | rfl | rfl | rfl | rfl | rfl | rfl | rfl | rfl | rfl | rfl | rfl | rfl | rfl | rfl <;> rfl, fun _ => rfl⟩
theorem zk_TFLaw_97 : mm_Il "TensorForgeLaw" 97 0 zy_init_14_1 := ⟨zyw_init_14_1, mm_tb_1 1584 (by decide +kernel) rfl, mm_tb_1 1585 (by decide +kernel) rfl, rfl, rfl⟩
theorem zz_hi {cl : List Nat} {a : Nat} (h : cl.all (fun c => Nat.blt c 1122) = true) (ha : 1122 ≤ a) : cl.contains a = false := by
  cases hc : cl.contains a with
  | false => rfl
  | true =>
    have h1 := (List.all_eq_true.mp h) a (List.contains_iff_mem.mp hc)
    simp only [Nat.blt_eq] at h1
    omega
theorem zz_hi2 {sl : List (Nat × Nat)} {a i : Nat} (h : sl.all (fun c => Nat.blt c.1 1122) = true) (ha : 1122 ≤ a) : sl.contains (a, i) = false := by
  cases hc : sl.contains (a, i) with
  | false => rfl
  | true =>
    have h1 := (List.all_eq_true.mp h) (a, i) (List.contains_iff_mem.mp hc)
    simp only [Nat.blt_eq] at h1
    omega
set_option maxHeartbeats 4000000 in
theorem zg_L_law_0 : (decode zy_law_L.2.1 0 = .ok ((.new 8), 3)) ∧ (decode zy_law_L.2.1 3 = .ok ((.dup), 1)) ∧ (decode zy_law_L.2.1 4 = .ok ((.invokespecial 94), 3)) ∧ (decode zy_law_L.2.1 7 = .ok ((.astore_n 1), 1)) ∧ (decode zy_law_L.2.1 8 = .ok ((.new 95), 3)) ∧ (decode zy_law_L.2.1 11 = .ok ((.dup), 1)) ∧ (decode zy_law_L.2.1 12 = .ok ((.invokespecial 97), 3)) ∧ (decode zy_law_L.2.1 15 = .ok ((.astore_n 2), 1)) ∧ (decode zy_law_L.2.1 16 = .ok ((.iconst 1), 1)) ∧ (decode zy_law_L.2.1 17 = .ok ((.newarray .long), 2)) := by decide +kernel
theorem zd_L_law_0 : zz_D zy_law_L 0 (.new 8) 3 3 := ⟨zg_L_law_0.1, rfl⟩
theorem zd_L_law_3 : zz_D zy_law_L 3 (.dup) 1 4 := ⟨zg_L_law_0.2.1, rfl⟩
theorem zd_L_law_4 : zz_D zy_law_L 4 (.invokespecial 94) 3 7 := ⟨zg_L_law_0.2.2.1, rfl⟩
theorem zd_L_law_7 : zz_D zy_law_L 7 (.astore_n 1) 1 8 := ⟨zg_L_law_0.2.2.2.1, rfl⟩
theorem zd_L_law_8 : zz_D zy_law_L 8 (.new 95) 3 11 := ⟨zg_L_law_0.2.2.2.2.1, rfl⟩
theorem zd_L_law_11 : zz_D zy_law_L 11 (.dup) 1 12 := ⟨zg_L_law_0.2.2.2.2.2.1, rfl⟩
theorem zd_L_law_12 : zz_D zy_law_L 12 (.invokespecial 97) 3 15 := ⟨zg_L_law_0.2.2.2.2.2.2.1, rfl⟩
theorem zd_L_law_15 : zz_D zy_law_L 15 (.astore_n 2) 1 16 := ⟨zg_L_law_0.2.2.2.2.2.2.2.1, rfl⟩
theorem zd_L_law_16 : zz_D zy_law_L 16 (.iconst 1) 1 17 := ⟨zg_L_law_0.2.2.2.2.2.2.2.2.1, rfl⟩
theorem zd_L_law_17 : zz_D zy_law_L 17 (.newarray .long) 2 19 := ⟨zg_L_law_0.2.2.2.2.2.2.2.2.2, rfl⟩
theorem zg_L_law_19 : (decode zy_law_L.2.1 19 = .ok ((.astore_n 3), 1)) ∧ (decode zy_law_L.2.1 20 = .ok ((.iconst 0), 1)) ∧ (decode zy_law_L.2.1 21 = .ok ((.istore 4), 2)) := by decide +kernel
theorem zd_L_law_19 : zz_D zy_law_L 19 (.astore_n 3) 1 20 := ⟨zg_L_law_19.1, rfl⟩
theorem zd_L_law_20 : zz_D zy_law_L 20 (.iconst 0) 1 21 := ⟨zg_L_law_19.2.1, rfl⟩
theorem zd_L_law_21 : zz_D zy_law_L 21 (.istore 4) 2 23 := ⟨zg_L_law_19.2.2, rfl⟩
theorem zs_law_L {g : mm_G} {l : Launch} (hfl : l.flags = flags0) (hlen : g.2.2.2 997 ≤ 3584) (S0 : zz_S) (h0 : ∀ a i, S0 a i = 0) : zz_E g l zy_law_L room_1 (fun u => ∃ M1 n1, u = (.inl (some (zi 1)), M1, n1)) S0 1000 0 [some (.ref 998)] [] 0 0 := by
  have G_S0 : zz_Gm [] [] S0 := fun a i h => by cases h
  have F_S0 : zz_fr [] [1000, 1001, 1002, 1003, 1004, 1005, 1006, 1007, 1008, 1009, 1010, 1011, 1012, 1013, 1014, 1015, 1016, 1017, 1018, 1019, 1020, 1021, 1022, 1023, 1024, 1025, 1026, 1027, 1028, 1029, 1030, 1031, 1032, 1033, 1034, 1035, 1036, 1037, 1038, 1039, 1040, 1041, 1042, 1043, 1044, 1045, 1046, 1047, 1048, 1049, 1050, 1051, 1052, 1053, 1054, 1055, 1056, 1057, 1058, 1059, 1060, 1061, 1062, 1063, 1064, 1065, 1066, 1067, 1068, 1069, 1070, 1071, 1072, 1073, 1074, 1075, 1076, 1077, 1078, 1079, 1080, 1081, 1082, 1083, 1084, 1085, 1086, 1087, 1088, 1089, 1090, 1091, 1092, 1093, 1094, 1095, 1096, 1097, 1098, 1099, 1100, 1101, 1102, 1103, 1104, 1105, 1106, 1107, 1108, 1109, 1110, 1111, 1112, 1113, 1114, 1115, 1116, 1117, 1118, 1119, 1120, 1121] (fun _ _ => False) S0 S0 := zz_fr.refl
  refine zz_new (zz_ov [(-1), (-1), (-1), (-1), (-1), (-1), (-1), (-1), (-1), (-1), (-1), 0]) zd_L_law_0 zn_TFLaw_8 zT_1000 rfl (Nat.le_of_ble_eq_true rfl) (Nat.le_of_ble_eq_true rfl) (fun S1 qS1 => ?_)
  have G_S1 := zz_Gm.nwo G_S0 qS1 (by decide +kernel)
  have F_S1 := zz_fr.nw F_S0 qS1 (by decide +kernel)
  refine zz_setn (n1 := 1001) (k1 := 1) (j1 := 12) rfl rfl rfl ?_
  refine zz_dup rfl zd_L_law_3 ?_
  refine zz_callN (n1 := 1079) [] zd_L_law_4 zk_TFLaw_94 rfl rfl ⟨Nat.le_of_ble_eq_true rfl, Nat.le_of_ble_eq_true rfl⟩ (Nat.le_of_ble_eq_true rfl) (Nat.le_of_ble_eq_true rfl) (zc_init_1_1_c1000_1001 S1 (zz_Gm.own qS1 (zz_ovG (rs := [(1031, 1031), (1042, 1042), (1070, 1070), (1072, 1072), (1073, 1073), (1076, 1076), (1077, 1077), (0, 1), (0, 1), (0, 1), (0, 1), (0, 600)]) (fun _ => rfl) rfl (by decide +kernel)))) (fun S2 hP => ?_)
  obtain ⟨gS2, fS2, o3, o4⟩ := hP
  have F_S2 := zz_fr.trans F_S1 fS2 (by decide +kernel) zz_nv
  have G_S2 := zz_Gm.call [] G_S1 fS2 gS2 (by decide +kernel) (by decide +kernel) (by decide +kernel) (by decide +kernel)
  refine zz_setn (n1 := 1079) (k1 := 79) (j1 := 10884) rfl rfl rfl ?_
  refine zz_astore_n [some (.ref 998), some (.ref 1000)] zd_L_law_7 (by decide) rfl ?_
  refine zz_new (zz_ov [0, 0, (-1), (-1), (-1), (-1), (-1), 0, (-1), (-1), 0, (-1), (-1), (-1), 0, 0, 0, (-1), (-1), 0, (-1), (-1), (-1), (-1), (-1), (-1), (-1), (-1), 0, (-1), 0, 0, 0, 0, 0, (-1), 0, (-1), (-1), (-1), (-1), (-1), (-1), (-1), (-1), (-1), (-1), (-1), (-1), (-1), 0, 0, 0, 0, 0, 0, 0, 0, (-1), (-1), 0, 0, (-1), (-1), 0, 0, 0, (-1), (-1)]) zd_L_law_8 zn_TFLaw_95 zT_1079 (by decide +kernel) (Nat.le_of_ble_eq_true rfl) (Nat.le_of_ble_eq_true rfl) (fun S5 qS5 => ?_)
  have G_S5 := zz_Gm.nwo G_S2 qS5 (by decide +kernel)
  have F_S5 := zz_fr.nw F_S2 qS5 (by decide +kernel)
  refine zz_setn (n1 := 1080) (k1 := 80) (j1 := 10953) rfl rfl rfl ?_
  refine zz_dup rfl zd_L_law_11 ?_
  refine zz_callN (n1 := 1121) [] zd_L_law_12 zk_TFLaw_97 rfl rfl ⟨Nat.le_of_ble_eq_true rfl, Nat.le_of_ble_eq_true rfl⟩ (Nat.le_of_ble_eq_true rfl) (Nat.le_of_ble_eq_true rfl) (zc_init_14_1_c1079_1080 S5 (zz_Gm.own qS5 (zz_ovG (rs := [(0, 3), (2, 8), (1080, 1080), (1081, 1081), (1082, 1082), (1083, 1083), (1084, 1084), (0, 600), (1085, 1085), (1086, 1086), (0, 1000000), (1087, 1087), (1088, 1088), (1089, 1089), (0, 4), ((-1), 600), ((-2147483648), 2147483647), (1090, 1090), (1091, 1091), ((-1), 600), (1092, 1092), (1093, 1093), (1094, 1094), (1095, 1095), (1096, 1096), (1097, 1097), (1098, 1098), (1099, 1099), (0, 1500), (1100, 1100), (0, 102), (0, 9999), (0, 1500), (0, 1500), (0, 200), (1101, 1101), (0, 11), (1102, 1102), (1103, 1103), (1104, 1104), (1105, 1105), (1106, 1106), (1107, 1107), (1108, 1108), (1109, 1109), (1110, 1110), (1111, 1111), (1112, 1112), (1113, 1113), (1114, 1114), ((-2147483648), 2147483647), ((-2147483648), 2147483647), ((-2147483648), 2147483647), ((-2147483648), 2147483647), ((-2147483648), 2147483647), ((-2147483648), 2147483647), ((-2147483648), 2147483647), ((-2147483648), 2147483647), (1115, 1115), (1116, 1116), ((-2147483648), 2147483647), ((-9223372036854775808), 9223372036854775807), (1117, 1117), (1118, 1118), ((-9223372036854775808), 9223372036854775807), (0, 255), (0, 11), (1119, 1119), (1120, 1120)]) (fun _ => rfl) rfl (by decide +kernel)))) (fun S6 hP => ?_)
  obtain ⟨gS6, fS6, o7⟩ := hP
  have F_S6 := zz_fr.trans F_S5 fS6 (by decide +kernel) zz_nv
  have G_S6 := zz_Gm.call [] G_S5 fS6 gS6 (by decide +kernel) (by decide +kernel) (by decide +kernel) (by decide +kernel)
  refine zz_setn (n1 := 1121) (k1 := 121) (j1 := 22894) rfl rfl rfl ?_
  refine zz_astore_n [some (.ref 998), some (.ref 1000), some (.ref 1079)] zd_L_law_15 (by decide) rfl ?_
  refine zz_iconst zd_L_law_16 ?_
  refine zz_newa (z := 1) (fun _ => 0) zd_L_law_17 zT_1121 rfl (mm_tb_1 181 (by decide +kernel) rfl) rfl (by decide) (by decide) (fun _ => rfl) (fun _ => rfl) (fun _ h => by cases h) (Nat.le_of_ble_eq_true rfl) (Nat.le_of_ble_eq_true rfl) (fun S8 qS8 => ?_)
  have G_S8 := zz_Gm.nwa [] G_S6 qS8 (by decide +kernel) (fun i _ => ⟨(by decide : ((-9223372036854775808) : Int) ≤ 0), (by decide : (0 : Int) ≤ 9223372036854775807)⟩)
  have F_S8 := zz_fr.nw F_S6 qS8 (by decide +kernel)
  refine zz_setn (n1 := 1122) (k1 := 122) (j1 := 22895) rfl rfl rfl ?_
  refine zz_astore_n [some (.ref 998), some (.ref 1000), some (.ref 1079), some (.ref 1121)] zd_L_law_19 (by decide) rfl ?_
  refine zz_iconst zd_L_law_20 ?_
  refine zz_istore [some (.ref 998), some (.ref 1000), some (.ref 1079), some (.ref 1121), some (zi 0)] zd_L_law_21 (by decide) rfl ?_
  have g9 := trivial
  have e10 : S8 1001 1 = S2 1001 1 := (zz_nwo qS8 (by decide) (zz_rc fS6 (by decide +kernel) (by decide +kernel) (fun h => h) (zz_nwo qS5 (by decide) rfl)))
  have g11 := trivial
  have e12 : S8 1003 0 = S2 1003 0 := (zz_nwo qS8 (by decide) (zz_rc fS6 (by decide +kernel) (by decide +kernel) (fun h => h) (zz_nwo qS5 (by decide) rfl)))
  have g13 := trivial
  have e14 : S8 1003 12 = S2 1003 12 := (zz_nwo qS8 (by decide) (zz_rc fS6 (by decide +kernel) (by decide +kernel) (fun h => h) (zz_nwo qS5 (by decide) rfl)))
  have g15 := trivial
  have e16 : S8 1003 3 = S2 1003 3 := (zz_nwo qS8 (by decide) (zz_rc fS6 (by decide +kernel) (by decide +kernel) (fun h => h) (zz_nwo qS5 (by decide) rfl)))
  have g17 := trivial
  have e18 : S8 1003 4 = S2 1003 4 := (zz_nwo qS8 (by decide) (zz_rc fS6 (by decide +kernel) (by decide +kernel) (fun h => h) (zz_nwo qS5 (by decide) rfl)))
  have g19 := trivial
  have e20 : S8 1015 1 = S2 1015 1 := (zz_nwo qS8 (by decide) (zz_rc fS6 (by decide +kernel) (by decide +kernel) (fun h => h) (zz_nwo qS5 (by decide) rfl)))
  have g21 := trivial
  have e22 : S8 1017 0 = S2 1017 0 := (zz_nwo qS8 (by decide) (zz_rc fS6 (by decide +kernel) (by decide +kernel) (fun h => h) (zz_nwo qS5 (by decide) rfl)))
  have g23 := trivial
  have e24 : S8 1017 12 = S2 1017 12 := (zz_nwo qS8 (by decide) (zz_rc fS6 (by decide +kernel) (by decide +kernel) (fun h => h) (zz_nwo qS5 (by decide) rfl)))
  have g25 := trivial
  have e26 : S8 1017 3 = S2 1017 3 := (zz_nwo qS8 (by decide) (zz_rc fS6 (by decide +kernel) (by decide +kernel) (fun h => h) (zz_nwo qS5 (by decide) rfl)))
  have g27 := trivial
  have e28 : S8 1017 4 = S2 1017 4 := (zz_nwo qS8 (by decide) (zz_rc fS6 (by decide +kernel) (by decide +kernel) (fun h => h) (zz_nwo qS5 (by decide) rfl)))
  have g29 := trivial
  have e30 : S8 1079 36 = S6 1079 36 := (zz_nwo qS8 (by decide) rfl)
  have g31 := trivial
  have e32 : S8 1102 0 = S6 1102 0 := (zz_nwo qS8 (by decide) rfl)
  have g33 := trivial
  have e34 : S8 1103 0 = S6 1103 0 := (zz_nwo qS8 (by decide) rfl)
  have g35 := trivial
  have e36 : S8 1104 0 = S6 1104 0 := (zz_nwo qS8 (by decide) rfl)
  have g37 := trivial
  have e38 : S8 1105 0 = S6 1105 0 := (zz_nwo qS8 (by decide) rfl)
  have GG : zz_G S8 := zz_Gm.full G_S8 (by decide +kernel) (fun a i ha => (F_S8 a i (zz_hi2 (by decide +kernel) ha) (zz_hi (by decide +kernel) ha) (fun h => h)).trans (h0 a i))
  have HH : zz_Hc S8 := by
    intro q hq k hk hkt
    rcases (by omega : q = 0 ∨ q = 1) with rfl | rfl
    · have hkt : k < S8 1001 1 := hkt
      have hk0 : k = 0 := by omega
      subst hk0
      show (S8 1003 0 = 3 ∨ (S8 1003 3 ≤ 3 ∧ S8 1003 4 ≤ 3)) ∧ S8 1003 12 ≤ 63
      omega
    · have hkt : k < S8 1015 1 := hkt
      have hk0 : k = 0 := by omega
      subst hk0
      show (S8 1017 0 = 3 ∨ (S8 1017 3 ≤ 3 ∧ S8 1017 4 ≤ 3)) ∧ S8 1017 12 ≤ 63
      omega
  have RR : zz_Hr S8 := zz_Hr.one (by omega) (by unfold zz_tn zz_sz; rw [show S8 1102 0 = 1 by omega, show S8 1103 0 = 1 by omega, show S8 1104 0 = 1 by omega, show S8 1105 0 = 0 by omega]; decide)
  refine zz_less (ls1 := [some (.ref 998), some (.ref 1000), some (.ref 1079), some (.ref 1121), some (zi 0)]) ⟨rfl, ⟨rfl, ⟨rfl, ⟨rfl, ⟨rfl, trivial⟩⟩⟩⟩⟩ ?_
  exact zi_law_L hfl hlen _ 0 S8 1122 122 22895 GG HH RR (by omega) (Nat.le_refl _) (by decide) (by show ((122 : Nat) : Int) ≤ 200 + 0; decide) (by show ((22895 : Nat) : Int) ≤ 30000 + 6 * 0; decide) (Nat.lt_succ_self _)

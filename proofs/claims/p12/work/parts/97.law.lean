abbrev zy_law_L : mm_Y := (x, code, maxLocals, ret)
theorem zd_L_law_40 : zz_W zy_law_L 40 1151 0 27 #[128, 153, 190, 230, 299, 324, 352, 365, 437, 494, 522, 558, 571, 611, 624, 652, 692, 741, 831, 883, 935, 975, 991, 1002, 1015, 1055, 1071, 1111] := ⟨128, by decide +kernel⟩
theorem zhl_side_L : mm_Hl "TensorForgeLaw" 98 2 [(0, 5, 8, 13)] zy_side_L := ⟨zxY_side_L, mm_tb_1 0 (by decide +kernel) rfl, ⟨by decide, by decide⟩, by decide +kernel, mm_tb_1 1040 (by decide +kernel) rfl, mm_tb_1 1041 (by decide +kernel) rfl⟩
theorem zk_TFLaw_103 : mm_Vl "TensorForgeLaw" 103 11 1 zy_side_14_6 := ⟨zyw_side_14_6, (R_Md, F_Md, 69), rfl, mm_tb_1 1824 (by decide +kernel) rfl, mm_tb_1 1825 (by decide +kernel) rfl, mm_tb_1 1826 (by decide +kernel) rfl⟩
theorem zhl_memory_L : mm_Hl "TensorForgeLaw" 104 3 [(0, 6, 9, 19)] zy_memory_L := ⟨zxY_memory_L, mm_tb_1 0 (by decide +kernel) rfl, ⟨by decide, by decide⟩, by decide +kernel, mm_tb_1 1125 (by decide +kernel) rfl, mm_tb_1 1126 (by decide +kernel) rfl⟩
theorem zk_TFLaw_107 : mm_Vl "TensorForgeLaw" 107 11 2 zy_memory_14_8 := ⟨zyw_memory_14_8, (R_Md, F_Md, 69), rfl, mm_tb_1 1840 (by decide +kernel) rfl, mm_tb_1 1841 (by decide +kernel) rfl, mm_tb_1 1842 (by decide +kernel) rfl⟩
theorem zhl_look_L : mm_Hl "TensorForgeLaw" 108 4 [(0, 10, 13, 13), (0, 10, 17, 19)] zy_look_L := ⟨zxY_look_L, mm_tb_1 0 (by decide +kernel) rfl, ⟨by decide, by decide⟩, by decide +kernel, mm_tb_1 1153 (by decide +kernel) rfl, mm_tb_1 1154 (by decide +kernel) rfl⟩
theorem zk_TFLaw_111 : mm_Vl "TensorForgeLaw" 111 11 2 zy_look_14_10 := ⟨zyw_look_14_10, (R_Md, F_Md, 69), rfl, mm_tb_1 1848 (by decide +kernel) rfl, mm_tb_1 1849 (by decide +kernel) rfl, mm_tb_1 1850 (by decide +kernel) rfl⟩
theorem zq_TFLaw_112 : Cond.constantLong "TensorForgeLaw" 112 (4294967295 : Int64) ∈ mm_tb := mm_tb_1 2313 (by decide +kernel) rfl
theorem zhl_word_L : mm_Hl "TensorForgeLaw" 114 3 [(0, 6, 9, 19), (0, 6, 13, 29)] zy_word_L := ⟨zxY_word_L, mm_tb_1 0 (by decide +kernel) rfl, ⟨by decide, by decide⟩, by decide +kernel, mm_tb_1 1167 (by decide +kernel) rfl, mm_tb_1 1168 (by decide +kernel) rfl⟩
theorem zk_TFLaw_117 : mm_Vl "TensorForgeLaw" 117 11 2 zy_word_14_14 := ⟨zyw_word_14_14, (R_Md, F_Md, 69), rfl, mm_tb_1 1867 (by decide +kernel) rfl, mm_tb_1 1868 (by decide +kernel) rfl, mm_tb_1 1869 (by decide +kernel) rfl⟩
theorem zhl_cut_L : mm_Hl "TensorForgeLaw" 118 2 [(0, 5, 8, 13)] zy_cut_L := ⟨zxY_cut_L, mm_tb_1 0 (by decide +kernel) rfl, ⟨by decide, by decide⟩, by decide +kernel, mm_tb_1 1192 (by decide +kernel) rfl, mm_tb_1 1193 (by decide +kernel) rfl⟩
theorem zk_TFLaw_120 : mm_Vl "TensorForgeLaw" 120 11 1 zy_cut_14_15 := ⟨zyw_cut_14_15, (R_Md, F_Md, 69), rfl, mm_tb_1 1871 (by decide +kernel) rfl, mm_tb_1 1872 (by decide +kernel) rfl, mm_tb_1 1873 (by decide +kernel) rfl⟩
theorem zhl_wordOf_L : mm_Hl "TensorForgeLaw" 121 3 [(0, 8, 11, 19)] zy_wordOf_L := ⟨zxY_wordOf_L, mm_tb_1 0 (by decide +kernel) rfl, ⟨by decide, by decide⟩, by decide +kernel, mm_tb_1 1200 (by decide +kernel) rfl, mm_tb_1 1201 (by decide +kernel) rfl⟩
theorem zk_TFLaw_124 : mm_Vl "TensorForgeLaw" 124 11 1 zy_wordOf_14_16 := ⟨zyw_wordOf_14_16, (R_Md, F_Md, 69), rfl, mm_tb_1 1875 (by decide +kernel) rfl, mm_tb_1 1876 (by decide +kernel) rfl, mm_tb_1 1877 (by decide +kernel) rfl⟩
theorem zk_TFLaw_125 : mm_Vl "TensorForgeLaw" 125 0 0 zy_length_1_8 := ⟨zyw_length_1_8, (R_TF, F_TF, 12), rfl, mm_tb_1 477 (by decide +kernel) rfl, mm_tb_1 478 (by decide +kernel) rfl, mm_tb_1 479 (by decide +kernel) rfl⟩
theorem zk_TFLaw_128 : mm_Vl "TensorForgeLaw" 128 11 0 zy_length_14_17 := ⟨zyw_length_14_17, (R_Md, F_Md, 69), rfl, mm_tb_1 1879 (by decide +kernel) rfl, mm_tb_1 1880 (by decide +kernel) rfl, mm_tb_1 1881 (by decide +kernel) rfl⟩
theorem zhl_field_L : mm_Hl "TensorForgeLaw" 129 4 [(0, 11, 14, 13)] zy_field_L := ⟨zxY_field_L, mm_tb_1 0 (by decide +kernel) rfl, ⟨by decide, by decide⟩, by decide +kernel, mm_tb_1 1207 (by decide +kernel) rfl, mm_tb_1 1208 (by decide +kernel) rfl⟩
theorem zk_TFLaw_132 : mm_Vl "TensorForgeLaw" 132 11 2 zy_field_14_13 := ⟨zyw_field_14_13, (R_Md, F_Md, 69), rfl, mm_tb_1 1856 (by decide +kernel) rfl, mm_tb_1 1857 (by decide +kernel) rfl, mm_tb_1 1858 (by decide +kernel) rfl⟩
theorem zk_TFLaw_133 : mm_Vl "TensorForgeLaw" 133 0 1 zy_illegal_1_10 := ⟨zyw_illegal_1_10, (R_TF, F_TF, 12), rfl, mm_tb_1 481 (by decide +kernel) rfl, mm_tb_1 482 (by decide +kernel) rfl, mm_tb_1 483 (by decide +kernel) rfl⟩
theorem zk_TFLaw_137 : mm_Vl "TensorForgeLaw" 137 11 1 zy_illegal_14_25 := ⟨zyw_illegal_14_25, (R_Md, F_Md, 69), rfl, mm_tb_1 1883 (by decide +kernel) rfl, mm_tb_1 1884 (by decide +kernel) rfl, mm_tb_1 1885 (by decide +kernel) rfl⟩
theorem zhl_put_L : mm_Hl "TensorForgeLaw" 138 3 [(0, 9, 12, 13), (0, 9, 15, 29)] zy_put_L := ⟨zxY_put_L, mm_tb_1 0 (by decide +kernel) rfl, ⟨by decide, by decide⟩, by decide +kernel, mm_tb_1 1216 (by decide +kernel) rfl, mm_tb_1 1217 (by decide +kernel) rfl⟩
theorem zk_TFLaw_140 : mm_Vl "TensorForgeLaw" 140 11 1 zy_put_14_47 := ⟨zyw_put_14_47, (R_Md, F_Md, 69), rfl, mm_tb_1 1997 (by decide +kernel) rfl, mm_tb_1 1998 (by decide +kernel) rfl, mm_tb_1 1999 (by decide +kernel) rfl⟩
theorem zhl_end_L : mm_Hl "TensorForgeLaw" 141 2 [(0, 5, 8, 13)] zy_end_L := ⟨zxY_end_L, mm_tb_1 0 (by decide +kernel) rfl, ⟨by decide, by decide⟩, by decide +kernel, mm_tb_1 1236 (by decide +kernel) rfl, mm_tb_1 1237 (by decide +kernel) rfl⟩
theorem zk_TFLaw_143 : mm_Vl "TensorForgeLaw" 143 11 1 zy_end_14_48 := ⟨zyw_end_14_48, (R_Md, F_Md, 69), rfl, mm_tb_1 2003 (by decide +kernel) rfl, mm_tb_1 2004 (by decide +kernel) rfl, mm_tb_1 2005 (by decide +kernel) rfl⟩
theorem zk_TFLaw_144 : mm_Vl "TensorForgeLaw" 144 11 0 zy_thrown_14_2 := ⟨zyw_thrown_14_2, (R_Md, F_Md, 69), rfl, mm_tb_1 1820 (by decide +kernel) rfl, mm_tb_1 1821 (by decide +kernel) rfl, mm_tb_1 1822 (by decide +kernel) rfl⟩
theorem zk_TFLaw_147 : mm_Vl "TensorForgeLaw" 147 0 0 zy_assemble_1_13 := ⟨zyw_assemble_1_13, (R_TF, F_TF, 12), rfl, mm_tb_1 556 (by decide +kernel) rfl, mm_tb_1 557 (by decide +kernel) rfl, mm_tb_1 558 (by decide +kernel) rfl⟩
theorem zk_TFLaw_150 : mm_Vl "TensorForgeLaw" 150 11 0 zy_assemble_14_55 := ⟨zyw_assemble_14_55, (R_Md, F_Md, 69), rfl, mm_tb_1 2007 (by decide +kernel) rfl, mm_tb_1 2008 (by decide +kernel) rfl, mm_tb_1 2009 (by decide +kernel) rfl⟩
theorem zhl_listing_L : mm_Hl "TensorForgeLaw" 151 4 [(0, 10, 13, 19)] zy_listing_L := ⟨zxY_listing_L, mm_tb_1 0 (by decide +kernel) rfl, ⟨by decide, by decide⟩, by decide +kernel, mm_tb_1 1244 (by decide +kernel) rfl, mm_tb_1 1245 (by decide +kernel) rfl⟩
theorem zk_TFLaw_153 : mm_Vl "TensorForgeLaw" 153 11 2 zy_listing_14_62 := ⟨zyw_listing_14_62, (R_Md, F_Md, 69), rfl, mm_tb_1 2046 (by decide +kernel) rfl, mm_tb_1 2047 (by decide +kernel) rfl, mm_tb_1 2048 (by decide +kernel) rfl⟩
theorem zk_TFLaw_154 : mm_Vl "TensorForgeLaw" 154 0 0 zy_run_1_15 := ⟨zyw_run_1_15, (R_TF, F_TF, 12), rfl, mm_tb_1 693 (by decide +kernel) rfl, mm_tb_1 694 (by decide +kernel) rfl, mm_tb_1 695 (by decide +kernel) rfl⟩
theorem zk_TFLaw_157 : mm_Vl "TensorForgeLaw" 157 11 0 zy_run_14_44 := ⟨zyw_run_14_44, (R_Md, F_Md, 69), rfl, mm_tb_1 1915 (by decide +kernel) rfl, mm_tb_1 1916 (by decide +kernel) rfl, mm_tb_1 1917 (by decide +kernel) rfl⟩
theorem zhl_stopped_L : mm_Hl "TensorForgeLaw" 158 3 [(0, 9, 12, 13)] zy_stopped_L := ⟨zxY_stopped_L, mm_tb_1 0 (by decide +kernel) rfl, ⟨by decide, by decide⟩, by decide +kernel, mm_tb_1 1304 (by decide +kernel) rfl, mm_tb_1 1305 (by decide +kernel) rfl⟩
theorem zk_TFLaw_160 : mm_Vl "TensorForgeLaw" 160 11 1 zy_stopped_14_45 := ⟨zyw_stopped_14_45, (R_Md, F_Md, 69), rfl, mm_tb_1 1989 (by decide +kernel) rfl, mm_tb_1 1990 (by decide +kernel) rfl, mm_tb_1 1991 (by decide +kernel) rfl⟩
theorem zhl_instruction_L : mm_Hl "TensorForgeLaw" 161 4 [(0, 10, 13, 58), (0, 10, 17, 19), (0, 10, 21, 13)] zy_instruction_L := ⟨zxY_instruction_L, mm_tb_1 0 (by decide +kernel) rfl, ⟨by decide, by decide⟩, by decide +kernel, mm_tb_1 1312 (by decide +kernel) rfl, mm_tb_1 1313 (by decide +kernel) rfl⟩
theorem zk_TFLaw_163 : mm_Vl "TensorForgeLaw" 163 11 2 zy_instruction_14_46 := ⟨zyw_instruction_14_46, (R_Md, F_Md, 69), rfl, mm_tb_1 1993 (by decide +kernel) rfl, mm_tb_1 1994 (by decide +kernel) rfl, mm_tb_1 1995 (by decide +kernel) rfl⟩
theorem zhl_input_L : mm_Hl "TensorForgeLaw" 164 4 [(0, 7, 10, 13)] zy_input_L := ⟨zxY_input_L, mm_tb_1 0 (by decide +kernel) rfl, ⟨by decide, by decide⟩, by decide +kernel, mm_tb_1 1343 (by decide +kernel) rfl, mm_tb_1 1344 (by decide +kernel) rfl⟩
theorem zk_TFLaw_167 : mm_Vl "TensorForgeLaw" 167 11 3 zy_input_14_63 := ⟨zyw_input_14_63, (R_Md, F_Md, 69), rfl, mm_tb_1 2073 (by decide +kernel) rfl, mm_tb_1 2074 (by decide +kernel) rfl, mm_tb_1 2075 (by decide +kernel) rfl⟩
theorem zhl_convolution_L : mm_Hl "TensorForgeLaw" 168 8 [(0, 18, 21, 19), (0, 18, 25, 13), (0, 18, 29, 29)] zy_convolution_L := ⟨zxY_convolution_L, mm_tb_1 0 (by decide +kernel) rfl, ⟨by decide, by decide⟩, by decide +kernel, mm_tb_1 1353 (by decide +kernel) rfl, mm_tb_1 1354 (by decide +kernel) rfl⟩
theorem zk_TFLaw_171 : mm_Vl "TensorForgeLaw" 171 11 6 zy_convolution_14_67 := ⟨zyw_convolution_14_67, (R_Md, F_Md, 69), rfl, mm_tb_1 2078 (by decide +kernel) rfl, mm_tb_1 2079 (by decide +kernel) rfl, mm_tb_1 2080 (by decide +kernel) rfl⟩
theorem zhl_pool_L : mm_Hl "TensorForgeLaw" 172 5 [(0, 12, 15, 19), (0, 12, 19, 13), (0, 12, 23, 29)] zy_pool_L := ⟨zxY_pool_L, mm_tb_1 0 (by decide +kernel) rfl, ⟨by decide, by decide⟩, by decide +kernel, mm_tb_1 1375 (by decide +kernel) rfl, mm_tb_1 1376 (by decide +kernel) rfl⟩
theorem zk_TFLaw_175 : mm_Vl "TensorForgeLaw" 175 11 3 zy_pool_14_69 := ⟨zyw_pool_14_69, (R_Md, F_Md, 69), rfl, mm_tb_1 2101 (by decide +kernel) rfl, mm_tb_1 2102 (by decide +kernel) rfl, mm_tb_1 2103 (by decide +kernel) rfl⟩
theorem zhl_addition_L : mm_Hl "TensorForgeLaw" 176 5 [(0, 12, 15, 19), (0, 12, 19, 13), (0, 12, 23, 29)] zy_addition_L := ⟨zxY_addition_L, mm_tb_1 0 (by decide +kernel) rfl, ⟨by decide, by decide⟩, by decide +kernel, mm_tb_1 1382 (by decide +kernel) rfl, mm_tb_1 1383 (by decide +kernel) rfl⟩
theorem zk_TFLaw_178 : mm_Vl "TensorForgeLaw" 178 11 3 zy_addition_14_70 := ⟨zyw_addition_14_70, (R_Md, F_Md, 69), rfl, mm_tb_1 2105 (by decide +kernel) rfl, mm_tb_1 2106 (by decide +kernel) rfl, mm_tb_1 2107 (by decide +kernel) rfl⟩
theorem zhl_form_L : mm_Hl "TensorForgeLaw" 179 4 [(0, 10, 13, 19), (0, 10, 17, 13)] zy_form_L := ⟨zxY_form_L, mm_tb_1 0 (by decide +kernel) rfl, ⟨by decide, by decide⟩, by decide +kernel, mm_tb_1 1389 (by decide +kernel) rfl, mm_tb_1 1390 (by decide +kernel) rfl⟩
theorem zk_TFLaw_181 : mm_Vl "TensorForgeLaw" 181 11 2 zy_form_14_71 := ⟨zyw_form_14_71, (R_Md, F_Md, 69), rfl, mm_tb_1 2109 (by decide +kernel) rfl, mm_tb_1 2110 (by decide +kernel) rfl, mm_tb_1 2111 (by decide +kernel) rfl⟩
theorem zhl_compile_L : mm_Hl "TensorForgeLaw" 182 2 [(0, 8, 11, 29)] zy_compile_L := ⟨zxY_compile_L, mm_tb_1 0 (by decide +kernel) rfl, ⟨by decide, by decide⟩, by decide +kernel, mm_tb_1 1398 (by decide +kernel) rfl, mm_tb_1 1399 (by decide +kernel) rfl⟩
theorem zk_TFLaw_185 : mm_Vl "TensorForgeLaw" 185 11 0 zy_compile_14_89 := ⟨zyw_compile_14_89, (R_Md, F_Md, 69), rfl, mm_tb_1 2133 (by decide +kernel) rfl, mm_tb_1 2134 (by decide +kernel) rfl, mm_tb_1 2135 (by decide +kernel) rfl⟩
theorem zk_TFLaw_186 : mm_Vl "TensorForgeLaw" 186 0 0 zy_reckon_1_24 := ⟨zyw_reckon_1_24, (R_TF, F_TF, 12), rfl, mm_tb_1 850 (by decide +kernel) rfl, mm_tb_1 851 (by decide +kernel) rfl, mm_tb_1 852 (by decide +kernel) rfl⟩
theorem zk_TFLaw_189 : mm_Vl "TensorForgeLaw" 189 11 0 zy_reckon_14_76 := ⟨zyw_reckon_14_76, (R_Md, F_Md, 69), rfl, mm_tb_1 2113 (by decide +kernel) rfl, mm_tb_1 2114 (by decide +kernel) rfl, mm_tb_1 2115 (by decide +kernel) rfl⟩
theorem zk_TFLaw_190 : mm_Vl "TensorForgeLaw" 190 0 0 zy_network_1_25 := ⟨zyw_network_1_25, (R_TF, F_TF, 12), rfl, mm_tb_1 908 (by decide +kernel) rfl, mm_tb_1 909 (by decide +kernel) rfl, mm_tb_1 910 (by decide +kernel) rfl⟩
theorem zk_TFLaw_193 : mm_Vl "TensorForgeLaw" 193 11 0 zy_network_14_105 := ⟨zyw_network_14_105, (R_Md, F_Md, 69), rfl, mm_tb_1 2184 (by decide +kernel) rfl, mm_tb_1 2185 (by decide +kernel) rfl, mm_tb_1 2186 (by decide +kernel) rfl⟩
theorem zhl_networkSign_L : mm_Hl "TensorForgeLaw" 194 4 [(0, 10, 13, 19)] zy_networkSign_L := ⟨zxY_networkSign_L, mm_tb_1 0 (by decide +kernel) rfl, ⟨by decide, by decide⟩, by decide +kernel, mm_tb_1 1481 (by decide +kernel) rfl, mm_tb_1 1482 (by decide +kernel) rfl⟩
theorem zk_TFLaw_196 : mm_Vl "TensorForgeLaw" 196 11 2 zy_networkSign_14_109 := ⟨zyw_networkSign_14_109, (R_Md, F_Md, 69), rfl, mm_tb_1 2257 (by decide +kernel) rfl, mm_tb_1 2258 (by decide +kernel) rfl, mm_tb_1 2259 (by decide +kernel) rfl⟩
theorem zhl_place_L : mm_Hl "TensorForgeLaw" 197 2 [(0, 8, 11, 29)] zy_place_L := ⟨zxY_place_L, mm_tb_1 0 (by decide +kernel) rfl, ⟨by decide, by decide⟩, by decide +kernel, mm_tb_1 1505 (by decide +kernel) rfl, mm_tb_1 1506 (by decide +kernel) rfl⟩
theorem zk_TFLaw_199 : mm_Vl "TensorForgeLaw" 199 11 0 zy_place_14_113 := ⟨zyw_place_14_113, (R_Md, F_Md, 69), rfl, mm_tb_1 2273 (by decide +kernel) rfl, mm_tb_1 2274 (by decide +kernel) rfl, mm_tb_1 2275 (by decide +kernel) rfl⟩
theorem zhl_under_L : mm_Hl "TensorForgeLaw" 200 4 [(0, 10, 13, 58), (0, 10, 17, 13)] zy_under_L := ⟨zxY_under_L, mm_tb_1 0 (by decide +kernel) rfl, ⟨by decide, by decide⟩, by decide +kernel, mm_tb_1 1534 (by decide +kernel) rfl, mm_tb_1 1535 (by decide +kernel) rfl⟩
theorem zk_TFLaw_202 : mm_Vl "TensorForgeLaw" 202 11 2 zy_under_14_117 := ⟨zyw_under_14_117, (R_Md, F_Md, 69), rfl, mm_tb_1 2293 (by decide +kernel) rfl, mm_tb_1 2294 (by decide +kernel) rfl, mm_tb_1 2295 (by decide +kernel) rfl⟩
theorem zhl_waits_L : mm_Hl "TensorForgeLaw" 203 4 [(0, 10, 13, 58), (0, 10, 17, 13)] zy_waits_L := ⟨zxY_waits_L, mm_tb_1 0 (by decide +kernel) rfl, ⟨by decide, by decide⟩, by decide +kernel, mm_tb_1 1558 (by decide +kernel) rfl, mm_tb_1 1559 (by decide +kernel) rfl⟩
theorem zk_TFLaw_205 : mm_Vl "TensorForgeLaw" 205 11 2 zy_waits_14_119 := ⟨zyw_waits_14_119, (R_Md, F_Md, 69), rfl, mm_tb_1 2305 (by decide +kernel) rfl, mm_tb_1 2306 (by decide +kernel) rfl, mm_tb_1 2307 (by decide +kernel) rfl⟩
theorem zg_L_law_23 : (decode zy_law_L.2.1 23 = .ok ((.iload 4), 2)) ∧ (decode zy_law_L.2.1 25 = .ok ((.aload_n 0), 1)) ∧ (decode zy_law_L.2.1 26 = .ok ((.arraylength), 1)) ∧ (decode zy_law_L.2.1 27 = .ok ((.bipush 7), 2)) ∧ (decode zy_law_L.2.1 29 = .ok ((.isub), 1)) ∧ (decode zy_law_L.2.1 30 = .ok ((Instr.if_icmp .gt) 1167, 3)) ∧ (decode zy_law_L.2.1 1197 = .ok ((.iconst 1), 1)) ∧ (decode zy_law_L.2.1 1198 = .ok ((.ireturn), 1)) ∧ (decode zy_law_L.2.1 33 = .ok ((.aload_n 0), 1)) ∧ (decode zy_law_L.2.1 34 = .ok ((.iload 4), 2)) := by decide +kernel
theorem zd_L_law_23 : zz_D zy_law_L 23 (.iload 4) 2 25 := ⟨zg_L_law_23.1, rfl⟩
theorem zd_L_law_25 : zz_D zy_law_L 25 (.aload_n 0) 1 26 := ⟨zg_L_law_23.2.1, rfl⟩
theorem zd_L_law_26 : zz_D zy_law_L 26 (.arraylength) 1 27 := ⟨zg_L_law_23.2.2.1, rfl⟩
theorem zd_L_law_27 : zz_D zy_law_L 27 (.bipush 7) 2 29 := ⟨zg_L_law_23.2.2.2.1, rfl⟩
theorem zd_L_law_29 : zz_D zy_law_L 29 (.isub) 1 30 := ⟨zg_L_law_23.2.2.2.2.1, rfl⟩
theorem zd_L_law_30 : zz_B zy_law_L 30 (Instr.if_icmp .gt) 1197 33 := ⟨1167, zg_L_law_23.2.2.2.2.2.1, rfl, rfl⟩
theorem zd_L_law_1197 : zz_D zy_law_L 1197 (.iconst 1) 1 1198 := ⟨zg_L_law_23.2.2.2.2.2.2.1, rfl⟩
theorem zd_L_law_1198 : zz_D zy_law_L 1198 (.ireturn) 1 1199 := ⟨zg_L_law_23.2.2.2.2.2.2.2.1, rfl⟩
theorem zd_L_law_33 : zz_D zy_law_L 33 (.aload_n 0) 1 34 := ⟨zg_L_law_23.2.2.2.2.2.2.2.2.1, rfl⟩
theorem zd_L_law_34 : zz_D zy_law_L 34 (.iload 4) 2 36 := ⟨zg_L_law_23.2.2.2.2.2.2.2.2.2, rfl⟩
theorem zg_L_law_36 : (decode zy_law_L.2.1 36 = .ok ((.iaload), 1)) ∧ (decode zy_law_L.2.1 37 = .ok ((.bipush 31), 2)) ∧ (decode zy_law_L.2.1 39 = .ok ((.iand), 1)) ∧ (decode zy_law_L.2.1 168 = .ok ((.aload_n 1), 1)) ∧ (decode zy_law_L.2.1 169 = .ok ((.aload_n 0), 1)) ∧ (decode zy_law_L.2.1 170 = .ok ((.iload 4), 2)) ∧ (decode zy_law_L.2.1 172 = .ok ((.iconst 1), 1)) ∧ (decode zy_law_L.2.1 173 = .ok ((.iadd), 1)) ∧ (decode zy_law_L.2.1 174 = .ok ((.iaload), 1)) ∧ (decode zy_law_L.2.1 175 = .ok ((.invokestatic 98), 3)) := by decide +kernel
theorem zd_L_law_36 : zz_D zy_law_L 36 (.iaload) 1 37 := ⟨zg_L_law_36.1, rfl⟩
theorem zd_L_law_37 : zz_D zy_law_L 37 (.bipush 31) 2 39 := ⟨zg_L_law_36.2.1, rfl⟩
theorem zd_L_law_39 : zz_D zy_law_L 39 (.iand) 1 40 := ⟨zg_L_law_36.2.2.1, rfl⟩
theorem zd_L_law_168 : zz_D zy_law_L 168 (.aload_n 1) 1 169 := ⟨zg_L_law_36.2.2.2.1, rfl⟩
theorem zd_L_law_169 : zz_D zy_law_L 169 (.aload_n 0) 1 170 := ⟨zg_L_law_36.2.2.2.2.1, rfl⟩
theorem zd_L_law_170 : zz_D zy_law_L 170 (.iload 4) 2 172 := ⟨zg_L_law_36.2.2.2.2.2.1, rfl⟩
theorem zd_L_law_172 : zz_D zy_law_L 172 (.iconst 1) 1 173 := ⟨zg_L_law_36.2.2.2.2.2.2.1, rfl⟩
theorem zd_L_law_173 : zz_D zy_law_L 173 (.iadd) 1 174 := ⟨zg_L_law_36.2.2.2.2.2.2.2.1, rfl⟩
theorem zd_L_law_174 : zz_D zy_law_L 174 (.iaload) 1 175 := ⟨zg_L_law_36.2.2.2.2.2.2.2.2.1, rfl⟩
theorem zd_L_law_175 : zz_D zy_law_L 175 (.invokestatic 98) 3 178 := ⟨zg_L_law_36.2.2.2.2.2.2.2.2.2, rfl⟩
theorem zg_L_law_178 : (decode zy_law_L.2.1 178 = .ok ((.istore 5), 2)) ∧ (decode zy_law_L.2.1 180 = .ok ((.aload_n 2), 1)) ∧ (decode zy_law_L.2.1 181 = .ok ((.aload_n 0), 1)) ∧ (decode zy_law_L.2.1 182 = .ok ((.iload 4), 2)) ∧ (decode zy_law_L.2.1 184 = .ok ((.iconst 1), 1)) ∧ (decode zy_law_L.2.1 185 = .ok ((.iadd), 1)) ∧ (decode zy_law_L.2.1 186 = .ok ((.iaload), 1)) ∧ (decode zy_law_L.2.1 187 = .ok ((.invokevirtual 103), 3)) ∧ (decode zy_law_L.2.1 190 = .ok (Instr.goto 1001, 3)) ∧ (decode zy_law_L.2.1 1191 = .ok ((.iinc 4 7), 3)) := by decide +kernel
theorem zd_L_law_178 : zz_D zy_law_L 178 (.istore 5) 2 180 := ⟨zg_L_law_178.1, rfl⟩
theorem zd_L_law_180 : zz_D zy_law_L 180 (.aload_n 2) 1 181 := ⟨zg_L_law_178.2.1, rfl⟩
theorem zd_L_law_181 : zz_D zy_law_L 181 (.aload_n 0) 1 182 := ⟨zg_L_law_178.2.2.1, rfl⟩
theorem zd_L_law_182 : zz_D zy_law_L 182 (.iload 4) 2 184 := ⟨zg_L_law_178.2.2.2.1, rfl⟩
theorem zd_L_law_184 : zz_D zy_law_L 184 (.iconst 1) 1 185 := ⟨zg_L_law_178.2.2.2.2.1, rfl⟩
theorem zd_L_law_185 : zz_D zy_law_L 185 (.iadd) 1 186 := ⟨zg_L_law_178.2.2.2.2.2.1, rfl⟩
theorem zd_L_law_186 : zz_D zy_law_L 186 (.iaload) 1 187 := ⟨zg_L_law_178.2.2.2.2.2.2.1, rfl⟩
theorem zd_L_law_187 : zz_D zy_law_L 187 (.invokevirtual 103) 3 190 := ⟨zg_L_law_178.2.2.2.2.2.2.2.1, rfl⟩
theorem zd_L_law_190 : zz_B zy_law_L 190 Instr.goto 1191 193 := ⟨1001, zg_L_law_178.2.2.2.2.2.2.2.2.1, rfl, rfl⟩
theorem zd_L_law_1191 : zz_D zy_law_L 1191 (.iinc 4 7) 3 1194 := ⟨zg_L_law_178.2.2.2.2.2.2.2.2.2, rfl⟩
theorem zg_L_law_1194 : (decode zy_law_L.2.1 1194 = .ok (Instr.goto (-1171), 3)) ∧ (decode zy_law_L.2.1 193 = .ok ((.aload_n 1), 1)) ∧ (decode zy_law_L.2.1 194 = .ok ((.aload_n 0), 1)) ∧ (decode zy_law_L.2.1 195 = .ok ((.iload 4), 2)) ∧ (decode zy_law_L.2.1 197 = .ok ((.iconst 1), 1)) ∧ (decode zy_law_L.2.1 198 = .ok ((.iadd), 1)) ∧ (decode zy_law_L.2.1 199 = .ok ((.iaload), 1)) ∧ (decode zy_law_L.2.1 200 = .ok ((.aload_n 0), 1)) ∧ (decode zy_law_L.2.1 201 = .ok ((.iload 4), 2)) ∧ (decode zy_law_L.2.1 203 = .ok ((.iconst 2), 1)) := by decide +kernel
theorem zd_L_law_1194 : zz_B zy_law_L 1194 Instr.goto 23 1197 := ⟨(-1171), zg_L_law_1194.1, rfl, rfl⟩
theorem zd_L_law_193 : zz_D zy_law_L 193 (.aload_n 1) 1 194 := ⟨zg_L_law_1194.2.1, rfl⟩
theorem zd_L_law_194 : zz_D zy_law_L 194 (.aload_n 0) 1 195 := ⟨zg_L_law_1194.2.2.1, rfl⟩
theorem zd_L_law_195 : zz_D zy_law_L 195 (.iload 4) 2 197 := ⟨zg_L_law_1194.2.2.2.1, rfl⟩
theorem zd_L_law_197 : zz_D zy_law_L 197 (.iconst 1) 1 198 := ⟨zg_L_law_1194.2.2.2.2.1, rfl⟩
theorem zd_L_law_198 : zz_D zy_law_L 198 (.iadd) 1 199 := ⟨zg_L_law_1194.2.2.2.2.2.1, rfl⟩
theorem zd_L_law_199 : zz_D zy_law_L 199 (.iaload) 1 200 := ⟨zg_L_law_1194.2.2.2.2.2.2.1, rfl⟩
theorem zd_L_law_200 : zz_D zy_law_L 200 (.aload_n 0) 1 201 := ⟨zg_L_law_1194.2.2.2.2.2.2.2.1, rfl⟩
theorem zd_L_law_201 : zz_D zy_law_L 201 (.iload 4) 2 203 := ⟨zg_L_law_1194.2.2.2.2.2.2.2.2.1, rfl⟩
theorem zd_L_law_203 : zz_D zy_law_L 203 (.iconst 2) 1 204 := ⟨zg_L_law_1194.2.2.2.2.2.2.2.2.2, rfl⟩
theorem zg_L_law_204 : (decode zy_law_L.2.1 204 = .ok ((.iadd), 1)) ∧ (decode zy_law_L.2.1 205 = .ok ((.iaload), 1)) ∧ (decode zy_law_L.2.1 206 = .ok ((.invokestatic 104), 3)) ∧ (decode zy_law_L.2.1 209 = .ok ((.istore 5), 2)) ∧ (decode zy_law_L.2.1 211 = .ok ((.aload_n 2), 1)) ∧ (decode zy_law_L.2.1 212 = .ok ((.aload_n 0), 1)) ∧ (decode zy_law_L.2.1 213 = .ok ((.iload 4), 2)) ∧ (decode zy_law_L.2.1 215 = .ok ((.iconst 1), 1)) ∧ (decode zy_law_L.2.1 216 = .ok ((.iadd), 1)) ∧ (decode zy_law_L.2.1 217 = .ok ((.iaload), 1)) := by decide +kernel
theorem zd_L_law_204 : zz_D zy_law_L 204 (.iadd) 1 205 := ⟨zg_L_law_204.1, rfl⟩
theorem zd_L_law_205 : zz_D zy_law_L 205 (.iaload) 1 206 := ⟨zg_L_law_204.2.1, rfl⟩
theorem zd_L_law_206 : zz_D zy_law_L 206 (.invokestatic 104) 3 209 := ⟨zg_L_law_204.2.2.1, rfl⟩
theorem zd_L_law_209 : zz_D zy_law_L 209 (.istore 5) 2 211 := ⟨zg_L_law_204.2.2.2.1, rfl⟩
theorem zd_L_law_211 : zz_D zy_law_L 211 (.aload_n 2) 1 212 := ⟨zg_L_law_204.2.2.2.2.1, rfl⟩
theorem zd_L_law_212 : zz_D zy_law_L 212 (.aload_n 0) 1 213 := ⟨zg_L_law_204.2.2.2.2.2.1, rfl⟩
theorem zd_L_law_213 : zz_D zy_law_L 213 (.iload 4) 2 215 := ⟨zg_L_law_204.2.2.2.2.2.2.1, rfl⟩
theorem zd_L_law_215 : zz_D zy_law_L 215 (.iconst 1) 1 216 := ⟨zg_L_law_204.2.2.2.2.2.2.2.1, rfl⟩
theorem zd_L_law_216 : zz_D zy_law_L 216 (.iadd) 1 217 := ⟨zg_L_law_204.2.2.2.2.2.2.2.2.1, rfl⟩
theorem zd_L_law_217 : zz_D zy_law_L 217 (.iaload) 1 218 := ⟨zg_L_law_204.2.2.2.2.2.2.2.2.2, rfl⟩
theorem zg_L_law_218 : (decode zy_law_L.2.1 218 = .ok ((.aload_n 0), 1)) ∧ (decode zy_law_L.2.1 219 = .ok ((.iload 4), 2)) ∧ (decode zy_law_L.2.1 221 = .ok ((.iconst 2), 1)) ∧ (decode zy_law_L.2.1 222 = .ok ((.iadd), 1)) ∧ (decode zy_law_L.2.1 223 = .ok ((.iaload), 1)) ∧ (decode zy_law_L.2.1 224 = .ok ((.invokevirtual 107), 3)) ∧ (decode zy_law_L.2.1 227 = .ok (Instr.goto 964, 3)) ∧ (decode zy_law_L.2.1 230 = .ok ((.aload_n 1), 1)) ∧ (decode zy_law_L.2.1 231 = .ok ((.aload_n 0), 1)) ∧ (decode zy_law_L.2.1 232 = .ok ((.iload 4), 2)) := by decide +kernel
theorem zd_L_law_218 : zz_D zy_law_L 218 (.aload_n 0) 1 219 := ⟨zg_L_law_218.1, rfl⟩
theorem zd_L_law_219 : zz_D zy_law_L 219 (.iload 4) 2 221 := ⟨zg_L_law_218.2.1, rfl⟩
theorem zd_L_law_221 : zz_D zy_law_L 221 (.iconst 2) 1 222 := ⟨zg_L_law_218.2.2.1, rfl⟩
theorem zd_L_law_222 : zz_D zy_law_L 222 (.iadd) 1 223 := ⟨zg_L_law_218.2.2.2.1, rfl⟩
theorem zd_L_law_223 : zz_D zy_law_L 223 (.iaload) 1 224 := ⟨zg_L_law_218.2.2.2.2.1, rfl⟩
theorem zd_L_law_224 : zz_D zy_law_L 224 (.invokevirtual 107) 3 227 := ⟨zg_L_law_218.2.2.2.2.2.1, rfl⟩
theorem zd_L_law_227 : zz_B zy_law_L 227 Instr.goto 1191 230 := ⟨964, zg_L_law_218.2.2.2.2.2.2.1, rfl, rfl⟩
theorem zd_L_law_230 : zz_D zy_law_L 230 (.aload_n 1) 1 231 := ⟨zg_L_law_218.2.2.2.2.2.2.2.1, rfl⟩
theorem zd_L_law_231 : zz_D zy_law_L 231 (.aload_n 0) 1 232 := ⟨zg_L_law_218.2.2.2.2.2.2.2.2.1, rfl⟩
theorem zd_L_law_232 : zz_D zy_law_L 232 (.iload 4) 2 234 := ⟨zg_L_law_218.2.2.2.2.2.2.2.2.2, rfl⟩
theorem zg_L_law_234 : (decode zy_law_L.2.1 234 = .ok ((.iconst 1), 1)) ∧ (decode zy_law_L.2.1 235 = .ok ((.iadd), 1)) ∧ (decode zy_law_L.2.1 236 = .ok ((.iaload), 1)) ∧ (decode zy_law_L.2.1 237 = .ok ((.aload_n 0), 1)) ∧ (decode zy_law_L.2.1 238 = .ok ((.iload 4), 2)) ∧ (decode zy_law_L.2.1 240 = .ok ((.iconst 2), 1)) ∧ (decode zy_law_L.2.1 241 = .ok ((.iadd), 1)) ∧ (decode zy_law_L.2.1 242 = .ok ((.iaload), 1)) ∧ (decode zy_law_L.2.1 243 = .ok ((.aload_n 3), 1)) ∧ (decode zy_law_L.2.1 244 = .ok ((.invokestatic 108), 3)) := by decide +kernel
theorem zd_L_law_234 : zz_D zy_law_L 234 (.iconst 1) 1 235 := ⟨zg_L_law_234.1, rfl⟩
theorem zd_L_law_235 : zz_D zy_law_L 235 (.iadd) 1 236 := ⟨zg_L_law_234.2.1, rfl⟩
theorem zd_L_law_236 : zz_D zy_law_L 236 (.iaload) 1 237 := ⟨zg_L_law_234.2.2.1, rfl⟩
theorem zd_L_law_237 : zz_D zy_law_L 237 (.aload_n 0) 1 238 := ⟨zg_L_law_234.2.2.2.1, rfl⟩
theorem zd_L_law_238 : zz_D zy_law_L 238 (.iload 4) 2 240 := ⟨zg_L_law_234.2.2.2.2.1, rfl⟩
theorem zd_L_law_240 : zz_D zy_law_L 240 (.iconst 2) 1 241 := ⟨zg_L_law_234.2.2.2.2.2.1, rfl⟩
theorem zd_L_law_241 : zz_D zy_law_L 241 (.iadd) 1 242 := ⟨zg_L_law_234.2.2.2.2.2.2.1, rfl⟩
theorem zd_L_law_242 : zz_D zy_law_L 242 (.iaload) 1 243 := ⟨zg_L_law_234.2.2.2.2.2.2.2.1, rfl⟩
theorem zd_L_law_243 : zz_D zy_law_L 243 (.aload_n 3) 1 244 := ⟨zg_L_law_234.2.2.2.2.2.2.2.2.1, rfl⟩
theorem zd_L_law_244 : zz_D zy_law_L 244 (.invokestatic 108) 3 247 := ⟨zg_L_law_234.2.2.2.2.2.2.2.2.2, rfl⟩
theorem zg_L_law_247 : (decode zy_law_L.2.1 247 = .ok ((.istore 5), 2)) ∧ (decode zy_law_L.2.1 249 = .ok ((.aload_n 2), 1)) ∧ (decode zy_law_L.2.1 250 = .ok ((.aload_n 0), 1)) ∧ (decode zy_law_L.2.1 251 = .ok ((.iload 4), 2)) ∧ (decode zy_law_L.2.1 253 = .ok ((.iconst 1), 1)) ∧ (decode zy_law_L.2.1 254 = .ok ((.iadd), 1)) ∧ (decode zy_law_L.2.1 255 = .ok ((.iaload), 1)) ∧ (decode zy_law_L.2.1 256 = .ok ((.aload_n 0), 1)) ∧ (decode zy_law_L.2.1 257 = .ok ((.iload 4), 2)) ∧ (decode zy_law_L.2.1 259 = .ok ((.iconst 2), 1)) := by decide +kernel
theorem zd_L_law_247 : zz_D zy_law_L 247 (.istore 5) 2 249 := ⟨zg_L_law_247.1, rfl⟩
theorem zd_L_law_249 : zz_D zy_law_L 249 (.aload_n 2) 1 250 := ⟨zg_L_law_247.2.1, rfl⟩
theorem zd_L_law_250 : zz_D zy_law_L 250 (.aload_n 0) 1 251 := ⟨zg_L_law_247.2.2.1, rfl⟩
theorem zd_L_law_251 : zz_D zy_law_L 251 (.iload 4) 2 253 := ⟨zg_L_law_247.2.2.2.1, rfl⟩
theorem zd_L_law_253 : zz_D zy_law_L 253 (.iconst 1) 1 254 := ⟨zg_L_law_247.2.2.2.2.1, rfl⟩
theorem zd_L_law_254 : zz_D zy_law_L 254 (.iadd) 1 255 := ⟨zg_L_law_247.2.2.2.2.2.1, rfl⟩
theorem zd_L_law_255 : zz_D zy_law_L 255 (.iaload) 1 256 := ⟨zg_L_law_247.2.2.2.2.2.2.1, rfl⟩
theorem zd_L_law_256 : zz_D zy_law_L 256 (.aload_n 0) 1 257 := ⟨zg_L_law_247.2.2.2.2.2.2.2.1, rfl⟩
theorem zd_L_law_257 : zz_D zy_law_L 257 (.iload 4) 2 259 := ⟨zg_L_law_247.2.2.2.2.2.2.2.2.1, rfl⟩
theorem zd_L_law_259 : zz_D zy_law_L 259 (.iconst 2) 1 260 := ⟨zg_L_law_247.2.2.2.2.2.2.2.2.2, rfl⟩
theorem zg_L_law_260 : (decode zy_law_L.2.1 260 = .ok ((.iadd), 1)) ∧ (decode zy_law_L.2.1 261 = .ok ((.iaload), 1)) ∧ (decode zy_law_L.2.1 262 = .ok ((.invokevirtual 111), 3)) ∧ (decode zy_law_L.2.1 265 = .ok ((.istore 6), 2)) ∧ (decode zy_law_L.2.1 267 = .ok (Instr.goto 924, 3)) ∧ (decode zy_law_L.2.1 270 = .ok ((.aload_n 1), 1)) ∧ (decode zy_law_L.2.1 271 = .ok ((.aload_n 0), 1)) ∧ (decode zy_law_L.2.1 272 = .ok ((.iload 4), 2)) ∧ (decode zy_law_L.2.1 274 = .ok ((.iconst 1), 1)) ∧ (decode zy_law_L.2.1 275 = .ok ((.iadd), 1)) := by decide +kernel
theorem zd_L_law_260 : zz_D zy_law_L 260 (.iadd) 1 261 := ⟨zg_L_law_260.1, rfl⟩
theorem zd_L_law_261 : zz_D zy_law_L 261 (.iaload) 1 262 := ⟨zg_L_law_260.2.1, rfl⟩
theorem zd_L_law_262 : zz_D zy_law_L 262 (.invokevirtual 111) 3 265 := ⟨zg_L_law_260.2.2.1, rfl⟩
theorem zd_L_law_265 : zz_D zy_law_L 265 (.istore 6) 2 267 := ⟨zg_L_law_260.2.2.2.1, rfl⟩
theorem zd_L_law_267 : zz_B zy_law_L 267 Instr.goto 1191 270 := ⟨924, zg_L_law_260.2.2.2.2.1, rfl, rfl⟩
theorem zd_L_law_270 : zz_D zy_law_L 270 (.aload_n 1) 1 271 := ⟨zg_L_law_260.2.2.2.2.2.1, rfl⟩
theorem zd_L_law_271 : zz_D zy_law_L 271 (.aload_n 0) 1 272 := ⟨zg_L_law_260.2.2.2.2.2.2.1, rfl⟩
theorem zd_L_law_272 : zz_D zy_law_L 272 (.iload 4) 2 274 := ⟨zg_L_law_260.2.2.2.2.2.2.2.1, rfl⟩
theorem zd_L_law_274 : zz_D zy_law_L 274 (.iconst 1) 1 275 := ⟨zg_L_law_260.2.2.2.2.2.2.2.2.1, rfl⟩
theorem zd_L_law_275 : zz_D zy_law_L 275 (.iadd) 1 276 := ⟨zg_L_law_260.2.2.2.2.2.2.2.2.2, rfl⟩
theorem zg_L_law_276 : (decode zy_law_L.2.1 276 = .ok ((.iaload), 1)) ∧ (decode zy_law_L.2.1 277 = .ok ((.aload_n 0), 1)) ∧ (decode zy_law_L.2.1 278 = .ok ((.iload 4), 2)) ∧ (decode zy_law_L.2.1 280 = .ok ((.iconst 2), 1)) ∧ (decode zy_law_L.2.1 281 = .ok ((.iadd), 1)) ∧ (decode zy_law_L.2.1 282 = .ok ((.iaload), 1)) ∧ (decode zy_law_L.2.1 283 = .ok ((.i2l), 1)) ∧ (decode zy_law_L.2.1 284 = .ok ((.bipush 32), 2)) ∧ (decode zy_law_L.2.1 286 = .ok ((.lshl), 1)) ∧ (decode zy_law_L.2.1 287 = .ok ((.aload_n 0), 1)) := by decide +kernel
theorem zd_L_law_276 : zz_D zy_law_L 276 (.iaload) 1 277 := ⟨zg_L_law_276.1, rfl⟩
theorem zd_L_law_277 : zz_D zy_law_L 277 (.aload_n 0) 1 278 := ⟨zg_L_law_276.2.1, rfl⟩
theorem zd_L_law_278 : zz_D zy_law_L 278 (.iload 4) 2 280 := ⟨zg_L_law_276.2.2.1, rfl⟩
theorem zd_L_law_280 : zz_D zy_law_L 280 (.iconst 2) 1 281 := ⟨zg_L_law_276.2.2.2.1, rfl⟩
theorem zd_L_law_281 : zz_D zy_law_L 281 (.iadd) 1 282 := ⟨zg_L_law_276.2.2.2.2.1, rfl⟩
theorem zd_L_law_282 : zz_D zy_law_L 282 (.iaload) 1 283 := ⟨zg_L_law_276.2.2.2.2.2.1, rfl⟩
theorem zd_L_law_283 : zz_D zy_law_L 283 (.i2l) 1 284 := ⟨zg_L_law_276.2.2.2.2.2.2.1, rfl⟩
theorem zd_L_law_284 : zz_D zy_law_L 284 (.bipush 32) 2 286 := ⟨zg_L_law_276.2.2.2.2.2.2.2.1, rfl⟩
theorem zd_L_law_286 : zz_D zy_law_L 286 (.lshl) 1 287 := ⟨zg_L_law_276.2.2.2.2.2.2.2.2.1, rfl⟩
theorem zd_L_law_287 : zz_D zy_law_L 287 (.aload_n 0) 1 288 := ⟨zg_L_law_276.2.2.2.2.2.2.2.2.2, rfl⟩
theorem zg_L_law_288 : (decode zy_law_L.2.1 288 = .ok ((.iload 4), 2)) ∧ (decode zy_law_L.2.1 290 = .ok ((.iconst 3), 1)) ∧ (decode zy_law_L.2.1 291 = .ok ((.iadd), 1)) ∧ (decode zy_law_L.2.1 292 = .ok ((.iaload), 1)) ∧ (decode zy_law_L.2.1 293 = .ok ((.i2l), 1)) ∧ (decode zy_law_L.2.1 294 = .ok ((.ldc2_w 112), 3)) ∧ (decode zy_law_L.2.1 297 = .ok ((.land), 1)) ∧ (decode zy_law_L.2.1 298 = .ok ((.lor), 1)) ∧ (decode zy_law_L.2.1 299 = .ok ((.invokestatic 114), 3)) ∧ (decode zy_law_L.2.1 302 = .ok ((.istore 5), 2)) := by decide +kernel
theorem zd_L_law_288 : zz_D zy_law_L 288 (.iload 4) 2 290 := ⟨zg_L_law_288.1, rfl⟩
theorem zd_L_law_290 : zz_D zy_law_L 290 (.iconst 3) 1 291 := ⟨zg_L_law_288.2.1, rfl⟩
theorem zd_L_law_291 : zz_D zy_law_L 291 (.iadd) 1 292 := ⟨zg_L_law_288.2.2.1, rfl⟩
theorem zd_L_law_292 : zz_D zy_law_L 292 (.iaload) 1 293 := ⟨zg_L_law_288.2.2.2.1, rfl⟩
theorem zd_L_law_293 : zz_D zy_law_L 293 (.i2l) 1 294 := ⟨zg_L_law_288.2.2.2.2.1, rfl⟩
theorem zd_L_law_294 : zz_D zy_law_L 294 (.ldc2_w 112) 3 297 := ⟨zg_L_law_288.2.2.2.2.2.1, rfl⟩
theorem zd_L_law_297 : zz_D zy_law_L 297 (.land) 1 298 := ⟨zg_L_law_288.2.2.2.2.2.2.1, rfl⟩
theorem zd_L_law_298 : zz_D zy_law_L 298 (.lor) 1 299 := ⟨zg_L_law_288.2.2.2.2.2.2.2.1, rfl⟩
theorem zd_L_law_299 : zz_D zy_law_L 299 (.invokestatic 114) 3 302 := ⟨zg_L_law_288.2.2.2.2.2.2.2.2.1, rfl⟩
theorem zd_L_law_302 : zz_D zy_law_L 302 (.istore 5) 2 304 := ⟨zg_L_law_288.2.2.2.2.2.2.2.2.2, rfl⟩
theorem zg_L_law_304 : (decode zy_law_L.2.1 304 = .ok ((.aload_n 2), 1)) ∧ (decode zy_law_L.2.1 305 = .ok ((.aload_n 0), 1)) ∧ (decode zy_law_L.2.1 306 = .ok ((.iload 4), 2)) ∧ (decode zy_law_L.2.1 308 = .ok ((.iconst 1), 1)) ∧ (decode zy_law_L.2.1 309 = .ok ((.iadd), 1)) ∧ (decode zy_law_L.2.1 310 = .ok ((.iaload), 1)) ∧ (decode zy_law_L.2.1 311 = .ok ((.aload_n 0), 1)) ∧ (decode zy_law_L.2.1 312 = .ok ((.iload 4), 2)) ∧ (decode zy_law_L.2.1 314 = .ok ((.iconst 2), 1)) ∧ (decode zy_law_L.2.1 315 = .ok ((.iadd), 1)) := by decide +kernel
theorem zd_L_law_304 : zz_D zy_law_L 304 (.aload_n 2) 1 305 := ⟨zg_L_law_304.1, rfl⟩
theorem zd_L_law_305 : zz_D zy_law_L 305 (.aload_n 0) 1 306 := ⟨zg_L_law_304.2.1, rfl⟩
theorem zd_L_law_306 : zz_D zy_law_L 306 (.iload 4) 2 308 := ⟨zg_L_law_304.2.2.1, rfl⟩
theorem zd_L_law_308 : zz_D zy_law_L 308 (.iconst 1) 1 309 := ⟨zg_L_law_304.2.2.2.1, rfl⟩
theorem zd_L_law_309 : zz_D zy_law_L 309 (.iadd) 1 310 := ⟨zg_L_law_304.2.2.2.2.1, rfl⟩
theorem zd_L_law_310 : zz_D zy_law_L 310 (.iaload) 1 311 := ⟨zg_L_law_304.2.2.2.2.2.1, rfl⟩
theorem zd_L_law_311 : zz_D zy_law_L 311 (.aload_n 0) 1 312 := ⟨zg_L_law_304.2.2.2.2.2.2.1, rfl⟩
theorem zd_L_law_312 : zz_D zy_law_L 312 (.iload 4) 2 314 := ⟨zg_L_law_304.2.2.2.2.2.2.2.1, rfl⟩
theorem zd_L_law_314 : zz_D zy_law_L 314 (.iconst 2) 1 315 := ⟨zg_L_law_304.2.2.2.2.2.2.2.2.1, rfl⟩
theorem zd_L_law_315 : zz_D zy_law_L 315 (.iadd) 1 316 := ⟨zg_L_law_304.2.2.2.2.2.2.2.2.2, rfl⟩
theorem zg_L_law_316 : (decode zy_law_L.2.1 316 = .ok ((.iaload), 1)) ∧ (decode zy_law_L.2.1 317 = .ok ((.i2l), 1)) ∧ (decode zy_law_L.2.1 318 = .ok ((.bipush 32), 2)) ∧ (decode zy_law_L.2.1 320 = .ok ((.lshl), 1)) ∧ (decode zy_law_L.2.1 321 = .ok ((.aload_n 0), 1)) ∧ (decode zy_law_L.2.1 322 = .ok ((.iload 4), 2)) ∧ (decode zy_law_L.2.1 324 = .ok ((.iconst 3), 1)) ∧ (decode zy_law_L.2.1 325 = .ok ((.iadd), 1)) ∧ (decode zy_law_L.2.1 326 = .ok ((.iaload), 1)) ∧ (decode zy_law_L.2.1 327 = .ok ((.i2l), 1)) := by decide +kernel
theorem zd_L_law_316 : zz_D zy_law_L 316 (.iaload) 1 317 := ⟨zg_L_law_316.1, rfl⟩
theorem zd_L_law_317 : zz_D zy_law_L 317 (.i2l) 1 318 := ⟨zg_L_law_316.2.1, rfl⟩
theorem zd_L_law_318 : zz_D zy_law_L 318 (.bipush 32) 2 320 := ⟨zg_L_law_316.2.2.1, rfl⟩
theorem zd_L_law_320 : zz_D zy_law_L 320 (.lshl) 1 321 := ⟨zg_L_law_316.2.2.2.1, rfl⟩
theorem zd_L_law_321 : zz_D zy_law_L 321 (.aload_n 0) 1 322 := ⟨zg_L_law_316.2.2.2.2.1, rfl⟩
theorem zd_L_law_322 : zz_D zy_law_L 322 (.iload 4) 2 324 := ⟨zg_L_law_316.2.2.2.2.2.1, rfl⟩
theorem zd_L_law_324 : zz_D zy_law_L 324 (.iconst 3) 1 325 := ⟨zg_L_law_316.2.2.2.2.2.2.1, rfl⟩
theorem zd_L_law_325 : zz_D zy_law_L 325 (.iadd) 1 326 := ⟨zg_L_law_316.2.2.2.2.2.2.2.1, rfl⟩
theorem zd_L_law_326 : zz_D zy_law_L 326 (.iaload) 1 327 := ⟨zg_L_law_316.2.2.2.2.2.2.2.2.1, rfl⟩
theorem zd_L_law_327 : zz_D zy_law_L 327 (.i2l) 1 328 := ⟨zg_L_law_316.2.2.2.2.2.2.2.2.2, rfl⟩
theorem zg_L_law_328 : (decode zy_law_L.2.1 328 = .ok ((.ldc2_w 112), 3)) ∧ (decode zy_law_L.2.1 331 = .ok ((.land), 1)) ∧ (decode zy_law_L.2.1 332 = .ok ((.lor), 1)) ∧ (decode zy_law_L.2.1 333 = .ok ((.invokevirtual 117), 3)) ∧ (decode zy_law_L.2.1 336 = .ok (Instr.goto 855, 3)) ∧ (decode zy_law_L.2.1 339 = .ok ((.aload_n 1), 1)) ∧ (decode zy_law_L.2.1 340 = .ok ((.aload_n 0), 1)) ∧ (decode zy_law_L.2.1 341 = .ok ((.iload 4), 2)) ∧ (decode zy_law_L.2.1 343 = .ok ((.iconst 1), 1)) ∧ (decode zy_law_L.2.1 344 = .ok ((.iadd), 1)) := by decide +kernel
theorem zd_L_law_328 : zz_D zy_law_L 328 (.ldc2_w 112) 3 331 := ⟨zg_L_law_328.1, rfl⟩
theorem zd_L_law_331 : zz_D zy_law_L 331 (.land) 1 332 := ⟨zg_L_law_328.2.1, rfl⟩
theorem zd_L_law_332 : zz_D zy_law_L 332 (.lor) 1 333 := ⟨zg_L_law_328.2.2.1, rfl⟩
theorem zd_L_law_333 : zz_D zy_law_L 333 (.invokevirtual 117) 3 336 := ⟨zg_L_law_328.2.2.2.1, rfl⟩
theorem zd_L_law_336 : zz_B zy_law_L 336 Instr.goto 1191 339 := ⟨855, zg_L_law_328.2.2.2.2.1, rfl, rfl⟩
theorem zd_L_law_339 : zz_D zy_law_L 339 (.aload_n 1) 1 340 := ⟨zg_L_law_328.2.2.2.2.2.1, rfl⟩
theorem zd_L_law_340 : zz_D zy_law_L 340 (.aload_n 0) 1 341 := ⟨zg_L_law_328.2.2.2.2.2.2.1, rfl⟩
theorem zd_L_law_341 : zz_D zy_law_L 341 (.iload 4) 2 343 := ⟨zg_L_law_328.2.2.2.2.2.2.2.1, rfl⟩
theorem zd_L_law_343 : zz_D zy_law_L 343 (.iconst 1) 1 344 := ⟨zg_L_law_328.2.2.2.2.2.2.2.2.1, rfl⟩
theorem zd_L_law_344 : zz_D zy_law_L 344 (.iadd) 1 345 := ⟨zg_L_law_328.2.2.2.2.2.2.2.2.2, rfl⟩
theorem zg_L_law_345 : (decode zy_law_L.2.1 345 = .ok ((.iaload), 1)) ∧ (decode zy_law_L.2.1 346 = .ok ((.invokestatic 118), 3)) ∧ (decode zy_law_L.2.1 349 = .ok ((.istore 5), 2)) ∧ (decode zy_law_L.2.1 351 = .ok ((.aload_n 2), 1)) ∧ (decode zy_law_L.2.1 352 = .ok ((.aload_n 0), 1)) ∧ (decode zy_law_L.2.1 353 = .ok ((.iload 4), 2)) ∧ (decode zy_law_L.2.1 355 = .ok ((.iconst 1), 1)) ∧ (decode zy_law_L.2.1 356 = .ok ((.iadd), 1)) ∧ (decode zy_law_L.2.1 357 = .ok ((.iaload), 1)) ∧ (decode zy_law_L.2.1 358 = .ok ((.invokevirtual 120), 3)) := by decide +kernel
theorem zd_L_law_345 : zz_D zy_law_L 345 (.iaload) 1 346 := ⟨zg_L_law_345.1, rfl⟩
theorem zd_L_law_346 : zz_D zy_law_L 346 (.invokestatic 118) 3 349 := ⟨zg_L_law_345.2.1, rfl⟩
theorem zd_L_law_349 : zz_D zy_law_L 349 (.istore 5) 2 351 := ⟨zg_L_law_345.2.2.1, rfl⟩
theorem zd_L_law_351 : zz_D zy_law_L 351 (.aload_n 2) 1 352 := ⟨zg_L_law_345.2.2.2.1, rfl⟩
theorem zd_L_law_352 : zz_D zy_law_L 352 (.aload_n 0) 1 353 := ⟨zg_L_law_345.2.2.2.2.1, rfl⟩
theorem zd_L_law_353 : zz_D zy_law_L 353 (.iload 4) 2 355 := ⟨zg_L_law_345.2.2.2.2.2.1, rfl⟩
theorem zd_L_law_355 : zz_D zy_law_L 355 (.iconst 1) 1 356 := ⟨zg_L_law_345.2.2.2.2.2.2.1, rfl⟩
theorem zd_L_law_356 : zz_D zy_law_L 356 (.iadd) 1 357 := ⟨zg_L_law_345.2.2.2.2.2.2.2.1, rfl⟩
theorem zd_L_law_357 : zz_D zy_law_L 357 (.iaload) 1 358 := ⟨zg_L_law_345.2.2.2.2.2.2.2.2.1, rfl⟩
theorem zd_L_law_358 : zz_D zy_law_L 358 (.invokevirtual 120) 3 361 := ⟨zg_L_law_345.2.2.2.2.2.2.2.2.2, rfl⟩
theorem zg_L_law_361 : (decode zy_law_L.2.1 361 = .ok (Instr.goto 830, 3)) ∧ (decode zy_law_L.2.1 364 = .ok ((.aload_n 1), 1)) ∧ (decode zy_law_L.2.1 365 = .ok ((.aload_n 0), 1)) ∧ (decode zy_law_L.2.1 366 = .ok ((.iload 4), 2)) ∧ (decode zy_law_L.2.1 368 = .ok ((.iconst 1), 1)) ∧ (decode zy_law_L.2.1 369 = .ok ((.iadd), 1)) ∧ (decode zy_law_L.2.1 370 = .ok ((.iaload), 1)) ∧ (decode zy_law_L.2.1 371 = .ok ((.aload_n 3), 1)) ∧ (decode zy_law_L.2.1 372 = .ok ((.invokestatic 121), 3)) ∧ (decode zy_law_L.2.1 375 = .ok ((.istore 5), 2)) := by decide +kernel
theorem zd_L_law_361 : zz_B zy_law_L 361 Instr.goto 1191 364 := ⟨830, zg_L_law_361.1, rfl, rfl⟩
theorem zd_L_law_364 : zz_D zy_law_L 364 (.aload_n 1) 1 365 := ⟨zg_L_law_361.2.1, rfl⟩
theorem zd_L_law_365 : zz_D zy_law_L 365 (.aload_n 0) 1 366 := ⟨zg_L_law_361.2.2.1, rfl⟩
theorem zd_L_law_366 : zz_D zy_law_L 366 (.iload 4) 2 368 := ⟨zg_L_law_361.2.2.2.1, rfl⟩
theorem zd_L_law_368 : zz_D zy_law_L 368 (.iconst 1) 1 369 := ⟨zg_L_law_361.2.2.2.2.1, rfl⟩
theorem zd_L_law_369 : zz_D zy_law_L 369 (.iadd) 1 370 := ⟨zg_L_law_361.2.2.2.2.2.1, rfl⟩
theorem zd_L_law_370 : zz_D zy_law_L 370 (.iaload) 1 371 := ⟨zg_L_law_361.2.2.2.2.2.2.1, rfl⟩
theorem zd_L_law_371 : zz_D zy_law_L 371 (.aload_n 3) 1 372 := ⟨zg_L_law_361.2.2.2.2.2.2.2.1, rfl⟩
theorem zd_L_law_372 : zz_D zy_law_L 372 (.invokestatic 121) 3 375 := ⟨zg_L_law_361.2.2.2.2.2.2.2.2.1, rfl⟩
theorem zd_L_law_375 : zz_D zy_law_L 375 (.istore 5) 2 377 := ⟨zg_L_law_361.2.2.2.2.2.2.2.2.2, rfl⟩
theorem zg_L_law_377 : (decode zy_law_L.2.1 377 = .ok ((.aload_n 2), 1)) ∧ (decode zy_law_L.2.1 378 = .ok ((.aload_n 0), 1)) ∧ (decode zy_law_L.2.1 379 = .ok ((.iload 4), 2)) ∧ (decode zy_law_L.2.1 381 = .ok ((.iconst 1), 1)) ∧ (decode zy_law_L.2.1 382 = .ok ((.iadd), 1)) ∧ (decode zy_law_L.2.1 383 = .ok ((.iaload), 1)) ∧ (decode zy_law_L.2.1 384 = .ok ((.invokevirtual 124), 3)) ∧ (decode zy_law_L.2.1 387 = .ok ((.lstore 6), 2)) ∧ (decode zy_law_L.2.1 389 = .ok (Instr.goto 802, 3)) ∧ (decode zy_law_L.2.1 392 = .ok ((.aload_n 1), 1)) := by decide +kernel
theorem zd_L_law_377 : zz_D zy_law_L 377 (.aload_n 2) 1 378 := ⟨zg_L_law_377.1, rfl⟩
theorem zd_L_law_378 : zz_D zy_law_L 378 (.aload_n 0) 1 379 := ⟨zg_L_law_377.2.1, rfl⟩
theorem zd_L_law_379 : zz_D zy_law_L 379 (.iload 4) 2 381 := ⟨zg_L_law_377.2.2.1, rfl⟩
theorem zd_L_law_381 : zz_D zy_law_L 381 (.iconst 1) 1 382 := ⟨zg_L_law_377.2.2.2.1, rfl⟩
theorem zd_L_law_382 : zz_D zy_law_L 382 (.iadd) 1 383 := ⟨zg_L_law_377.2.2.2.2.1, rfl⟩
theorem zd_L_law_383 : zz_D zy_law_L 383 (.iaload) 1 384 := ⟨zg_L_law_377.2.2.2.2.2.1, rfl⟩
theorem zd_L_law_384 : zz_D zy_law_L 384 (.invokevirtual 124) 3 387 := ⟨zg_L_law_377.2.2.2.2.2.2.1, rfl⟩
theorem zd_L_law_387 : zz_D zy_law_L 387 (.lstore 6) 2 389 := ⟨zg_L_law_377.2.2.2.2.2.2.2.1, rfl⟩
theorem zd_L_law_389 : zz_B zy_law_L 389 Instr.goto 1191 392 := ⟨802, zg_L_law_377.2.2.2.2.2.2.2.2.1, rfl, rfl⟩
theorem zd_L_law_392 : zz_D zy_law_L 392 (.aload_n 1) 1 393 := ⟨zg_L_law_377.2.2.2.2.2.2.2.2.2, rfl⟩
theorem zg_L_law_393 : (decode zy_law_L.2.1 393 = .ok ((.invokevirtual 125), 3)) ∧ (decode zy_law_L.2.1 396 = .ok ((.pop), 1)) ∧ (decode zy_law_L.2.1 397 = .ok ((.aload_n 2), 1)) ∧ (decode zy_law_L.2.1 398 = .ok ((.invokevirtual 128), 3)) ∧ (decode zy_law_L.2.1 401 = .ok ((.pop), 1)) ∧ (decode zy_law_L.2.1 402 = .ok (Instr.goto 789, 3)) ∧ (decode zy_law_L.2.1 405 = .ok ((.aload_n 1), 1)) ∧ (decode zy_law_L.2.1 406 = .ok ((.aload_n 0), 1)) ∧ (decode zy_law_L.2.1 407 = .ok ((.iload 4), 2)) ∧ (decode zy_law_L.2.1 409 = .ok ((.iconst 1), 1)) := by decide +kernel
theorem zd_L_law_393 : zz_D zy_law_L 393 (.invokevirtual 125) 3 396 := ⟨zg_L_law_393.1, rfl⟩
theorem zd_L_law_396 : zz_D zy_law_L 396 (.pop) 1 397 := ⟨zg_L_law_393.2.1, rfl⟩
theorem zd_L_law_397 : zz_D zy_law_L 397 (.aload_n 2) 1 398 := ⟨zg_L_law_393.2.2.1, rfl⟩
theorem zd_L_law_398 : zz_D zy_law_L 398 (.invokevirtual 128) 3 401 := ⟨zg_L_law_393.2.2.2.1, rfl⟩
theorem zd_L_law_401 : zz_D zy_law_L 401 (.pop) 1 402 := ⟨zg_L_law_393.2.2.2.2.1, rfl⟩
theorem zd_L_law_402 : zz_B zy_law_L 402 Instr.goto 1191 405 := ⟨789, zg_L_law_393.2.2.2.2.2.1, rfl, rfl⟩
theorem zd_L_law_405 : zz_D zy_law_L 405 (.aload_n 1) 1 406 := ⟨zg_L_law_393.2.2.2.2.2.2.1, rfl⟩
theorem zd_L_law_406 : zz_D zy_law_L 406 (.aload_n 0) 1 407 := ⟨zg_L_law_393.2.2.2.2.2.2.2.1, rfl⟩
theorem zd_L_law_407 : zz_D zy_law_L 407 (.iload 4) 2 409 := ⟨zg_L_law_393.2.2.2.2.2.2.2.2.1, rfl⟩
theorem zd_L_law_409 : zz_D zy_law_L 409 (.iconst 1) 1 410 := ⟨zg_L_law_393.2.2.2.2.2.2.2.2.2, rfl⟩
theorem zg_L_law_410 : (decode zy_law_L.2.1 410 = .ok ((.iadd), 1)) ∧ (decode zy_law_L.2.1 411 = .ok ((.iaload), 1)) ∧ (decode zy_law_L.2.1 412 = .ok ((.i2l), 1)) ∧ (decode zy_law_L.2.1 413 = .ok ((.bipush 32), 2)) ∧ (decode zy_law_L.2.1 415 = .ok ((.lshl), 1)) ∧ (decode zy_law_L.2.1 416 = .ok ((.aload_n 0), 1)) ∧ (decode zy_law_L.2.1 417 = .ok ((.iload 4), 2)) ∧ (decode zy_law_L.2.1 419 = .ok ((.iconst 2), 1)) ∧ (decode zy_law_L.2.1 420 = .ok ((.iadd), 1)) ∧ (decode zy_law_L.2.1 421 = .ok ((.iaload), 1)) := by decide +kernel
theorem zd_L_law_410 : zz_D zy_law_L 410 (.iadd) 1 411 := ⟨zg_L_law_410.1, rfl⟩
theorem zd_L_law_411 : zz_D zy_law_L 411 (.iaload) 1 412 := ⟨zg_L_law_410.2.1, rfl⟩
theorem zd_L_law_412 : zz_D zy_law_L 412 (.i2l) 1 413 := ⟨zg_L_law_410.2.2.1, rfl⟩
theorem zd_L_law_413 : zz_D zy_law_L 413 (.bipush 32) 2 415 := ⟨zg_L_law_410.2.2.2.1, rfl⟩
theorem zd_L_law_415 : zz_D zy_law_L 415 (.lshl) 1 416 := ⟨zg_L_law_410.2.2.2.2.1, rfl⟩
theorem zd_L_law_416 : zz_D zy_law_L 416 (.aload_n 0) 1 417 := ⟨zg_L_law_410.2.2.2.2.2.1, rfl⟩
theorem zd_L_law_417 : zz_D zy_law_L 417 (.iload 4) 2 419 := ⟨zg_L_law_410.2.2.2.2.2.2.1, rfl⟩
theorem zd_L_law_419 : zz_D zy_law_L 419 (.iconst 2) 1 420 := ⟨zg_L_law_410.2.2.2.2.2.2.2.1, rfl⟩
theorem zd_L_law_420 : zz_D zy_law_L 420 (.iadd) 1 421 := ⟨zg_L_law_410.2.2.2.2.2.2.2.2.1, rfl⟩
theorem zd_L_law_421 : zz_D zy_law_L 421 (.iaload) 1 422 := ⟨zg_L_law_410.2.2.2.2.2.2.2.2.2, rfl⟩
theorem zg_L_law_422 : (decode zy_law_L.2.1 422 = .ok ((.i2l), 1)) ∧ (decode zy_law_L.2.1 423 = .ok ((.ldc2_w 112), 3)) ∧ (decode zy_law_L.2.1 426 = .ok ((.land), 1)) ∧ (decode zy_law_L.2.1 427 = .ok ((.lor), 1)) ∧ (decode zy_law_L.2.1 428 = .ok ((.aload_n 0), 1)) ∧ (decode zy_law_L.2.1 429 = .ok ((.iload 4), 2)) ∧ (decode zy_law_L.2.1 431 = .ok ((.iconst 3), 1)) ∧ (decode zy_law_L.2.1 432 = .ok ((.iadd), 1)) ∧ (decode zy_law_L.2.1 433 = .ok ((.iaload), 1)) ∧ (decode zy_law_L.2.1 434 = .ok ((.aload_n 3), 1)) := by decide +kernel
theorem zd_L_law_422 : zz_D zy_law_L 422 (.i2l) 1 423 := ⟨zg_L_law_422.1, rfl⟩
theorem zd_L_law_423 : zz_D zy_law_L 423 (.ldc2_w 112) 3 426 := ⟨zg_L_law_422.2.1, rfl⟩
theorem zd_L_law_426 : zz_D zy_law_L 426 (.land) 1 427 := ⟨zg_L_law_422.2.2.1, rfl⟩
theorem zd_L_law_427 : zz_D zy_law_L 427 (.lor) 1 428 := ⟨zg_L_law_422.2.2.2.1, rfl⟩
theorem zd_L_law_428 : zz_D zy_law_L 428 (.aload_n 0) 1 429 := ⟨zg_L_law_422.2.2.2.2.1, rfl⟩
theorem zd_L_law_429 : zz_D zy_law_L 429 (.iload 4) 2 431 := ⟨zg_L_law_422.2.2.2.2.2.1, rfl⟩
theorem zd_L_law_431 : zz_D zy_law_L 431 (.iconst 3) 1 432 := ⟨zg_L_law_422.2.2.2.2.2.2.1, rfl⟩
theorem zd_L_law_432 : zz_D zy_law_L 432 (.iadd) 1 433 := ⟨zg_L_law_422.2.2.2.2.2.2.2.1, rfl⟩
theorem zd_L_law_433 : zz_D zy_law_L 433 (.iaload) 1 434 := ⟨zg_L_law_422.2.2.2.2.2.2.2.2.1, rfl⟩
theorem zd_L_law_434 : zz_D zy_law_L 434 (.aload_n 3) 1 435 := ⟨zg_L_law_422.2.2.2.2.2.2.2.2.2, rfl⟩
theorem zg_L_law_435 : (decode zy_law_L.2.1 435 = .ok ((.invokestatic 129), 3)) ∧ (decode zy_law_L.2.1 438 = .ok ((.istore 5), 2)) ∧ (decode zy_law_L.2.1 440 = .ok ((.aload_n 2), 1)) ∧ (decode zy_law_L.2.1 441 = .ok ((.aload_n 0), 1)) ∧ (decode zy_law_L.2.1 442 = .ok ((.iload 4), 2)) ∧ (decode zy_law_L.2.1 444 = .ok ((.iconst 1), 1)) ∧ (decode zy_law_L.2.1 445 = .ok ((.iadd), 1)) ∧ (decode zy_law_L.2.1 446 = .ok ((.iaload), 1)) ∧ (decode zy_law_L.2.1 447 = .ok ((.i2l), 1)) ∧ (decode zy_law_L.2.1 448 = .ok ((.bipush 32), 2)) := by decide +kernel
theorem zd_L_law_435 : zz_D zy_law_L 435 (.invokestatic 129) 3 438 := ⟨zg_L_law_435.1, rfl⟩
theorem zd_L_law_438 : zz_D zy_law_L 438 (.istore 5) 2 440 := ⟨zg_L_law_435.2.1, rfl⟩
theorem zd_L_law_440 : zz_D zy_law_L 440 (.aload_n 2) 1 441 := ⟨zg_L_law_435.2.2.1, rfl⟩
theorem zd_L_law_441 : zz_D zy_law_L 441 (.aload_n 0) 1 442 := ⟨zg_L_law_435.2.2.2.1, rfl⟩
theorem zd_L_law_442 : zz_D zy_law_L 442 (.iload 4) 2 444 := ⟨zg_L_law_435.2.2.2.2.1, rfl⟩
theorem zd_L_law_444 : zz_D zy_law_L 444 (.iconst 1) 1 445 := ⟨zg_L_law_435.2.2.2.2.2.1, rfl⟩
theorem zd_L_law_445 : zz_D zy_law_L 445 (.iadd) 1 446 := ⟨zg_L_law_435.2.2.2.2.2.2.1, rfl⟩
theorem zd_L_law_446 : zz_D zy_law_L 446 (.iaload) 1 447 := ⟨zg_L_law_435.2.2.2.2.2.2.2.1, rfl⟩
theorem zd_L_law_447 : zz_D zy_law_L 447 (.i2l) 1 448 := ⟨zg_L_law_435.2.2.2.2.2.2.2.2.1, rfl⟩
theorem zd_L_law_448 : zz_D zy_law_L 448 (.bipush 32) 2 450 := ⟨zg_L_law_435.2.2.2.2.2.2.2.2.2, rfl⟩
theorem zg_L_law_450 : (decode zy_law_L.2.1 450 = .ok ((.lshl), 1)) ∧ (decode zy_law_L.2.1 451 = .ok ((.aload_n 0), 1)) ∧ (decode zy_law_L.2.1 452 = .ok ((.iload 4), 2)) ∧ (decode zy_law_L.2.1 454 = .ok ((.iconst 2), 1)) ∧ (decode zy_law_L.2.1 455 = .ok ((.iadd), 1)) ∧ (decode zy_law_L.2.1 456 = .ok ((.iaload), 1)) ∧ (decode zy_law_L.2.1 457 = .ok ((.i2l), 1)) ∧ (decode zy_law_L.2.1 458 = .ok ((.ldc2_w 112), 3)) ∧ (decode zy_law_L.2.1 461 = .ok ((.land), 1)) ∧ (decode zy_law_L.2.1 462 = .ok ((.lor), 1)) := by decide +kernel
theorem zd_L_law_450 : zz_D zy_law_L 450 (.lshl) 1 451 := ⟨zg_L_law_450.1, rfl⟩
theorem zd_L_law_451 : zz_D zy_law_L 451 (.aload_n 0) 1 452 := ⟨zg_L_law_450.2.1, rfl⟩
theorem zd_L_law_452 : zz_D zy_law_L 452 (.iload 4) 2 454 := ⟨zg_L_law_450.2.2.1, rfl⟩
theorem zd_L_law_454 : zz_D zy_law_L 454 (.iconst 2) 1 455 := ⟨zg_L_law_450.2.2.2.1, rfl⟩
theorem zd_L_law_455 : zz_D zy_law_L 455 (.iadd) 1 456 := ⟨zg_L_law_450.2.2.2.2.1, rfl⟩
theorem zd_L_law_456 : zz_D zy_law_L 456 (.iaload) 1 457 := ⟨zg_L_law_450.2.2.2.2.2.1, rfl⟩
theorem zd_L_law_457 : zz_D zy_law_L 457 (.i2l) 1 458 := ⟨zg_L_law_450.2.2.2.2.2.2.1, rfl⟩
theorem zd_L_law_458 : zz_D zy_law_L 458 (.ldc2_w 112) 3 461 := ⟨zg_L_law_450.2.2.2.2.2.2.2.1, rfl⟩
theorem zd_L_law_461 : zz_D zy_law_L 461 (.land) 1 462 := ⟨zg_L_law_450.2.2.2.2.2.2.2.2.1, rfl⟩
theorem zd_L_law_462 : zz_D zy_law_L 462 (.lor) 1 463 := ⟨zg_L_law_450.2.2.2.2.2.2.2.2.2, rfl⟩
theorem zg_L_law_463 : (decode zy_law_L.2.1 463 = .ok ((.aload_n 0), 1)) ∧ (decode zy_law_L.2.1 464 = .ok ((.iload 4), 2)) ∧ (decode zy_law_L.2.1 466 = .ok ((.iconst 3), 1)) ∧ (decode zy_law_L.2.1 467 = .ok ((.iadd), 1)) ∧ (decode zy_law_L.2.1 468 = .ok ((.iaload), 1)) ∧ (decode zy_law_L.2.1 469 = .ok ((.invokevirtual 132), 3)) ∧ (decode zy_law_L.2.1 472 = .ok ((.istore 6), 2)) ∧ (decode zy_law_L.2.1 474 = .ok (Instr.goto 717, 3)) ∧ (decode zy_law_L.2.1 477 = .ok ((.aload_n 1), 1)) ∧ (decode zy_law_L.2.1 478 = .ok ((.aload_n 0), 1)) := by decide +kernel
theorem zd_L_law_463 : zz_D zy_law_L 463 (.aload_n 0) 1 464 := ⟨zg_L_law_463.1, rfl⟩
theorem zd_L_law_464 : zz_D zy_law_L 464 (.iload 4) 2 466 := ⟨zg_L_law_463.2.1, rfl⟩
theorem zd_L_law_466 : zz_D zy_law_L 466 (.iconst 3) 1 467 := ⟨zg_L_law_463.2.2.1, rfl⟩
theorem zd_L_law_467 : zz_D zy_law_L 467 (.iadd) 1 468 := ⟨zg_L_law_463.2.2.2.1, rfl⟩
theorem zd_L_law_468 : zz_D zy_law_L 468 (.iaload) 1 469 := ⟨zg_L_law_463.2.2.2.2.1, rfl⟩
theorem zd_L_law_469 : zz_D zy_law_L 469 (.invokevirtual 132) 3 472 := ⟨zg_L_law_463.2.2.2.2.2.1, rfl⟩
theorem zd_L_law_472 : zz_D zy_law_L 472 (.istore 6) 2 474 := ⟨zg_L_law_463.2.2.2.2.2.2.1, rfl⟩
theorem zd_L_law_474 : zz_B zy_law_L 474 Instr.goto 1191 477 := ⟨717, zg_L_law_463.2.2.2.2.2.2.2.1, rfl, rfl⟩
theorem zd_L_law_477 : zz_D zy_law_L 477 (.aload_n 1) 1 478 := ⟨zg_L_law_463.2.2.2.2.2.2.2.2.1, rfl⟩
theorem zd_L_law_478 : zz_D zy_law_L 478 (.aload_n 0) 1 479 := ⟨zg_L_law_463.2.2.2.2.2.2.2.2.2, rfl⟩
theorem zg_L_law_479 : (decode zy_law_L.2.1 479 = .ok ((.iload 4), 2)) ∧ (decode zy_law_L.2.1 481 = .ok ((.iconst 1), 1)) ∧ (decode zy_law_L.2.1 482 = .ok ((.iadd), 1)) ∧ (decode zy_law_L.2.1 483 = .ok ((.iaload), 1)) ∧ (decode zy_law_L.2.1 484 = .ok ((.i2l), 1)) ∧ (decode zy_law_L.2.1 485 = .ok ((.bipush 32), 2)) ∧ (decode zy_law_L.2.1 487 = .ok ((.lshl), 1)) ∧ (decode zy_law_L.2.1 488 = .ok ((.aload_n 0), 1)) ∧ (decode zy_law_L.2.1 489 = .ok ((.iload 4), 2)) ∧ (decode zy_law_L.2.1 491 = .ok ((.iconst 2), 1)) := by decide +kernel
theorem zd_L_law_479 : zz_D zy_law_L 479 (.iload 4) 2 481 := ⟨zg_L_law_479.1, rfl⟩
theorem zd_L_law_481 : zz_D zy_law_L 481 (.iconst 1) 1 482 := ⟨zg_L_law_479.2.1, rfl⟩
theorem zd_L_law_482 : zz_D zy_law_L 482 (.iadd) 1 483 := ⟨zg_L_law_479.2.2.1, rfl⟩
theorem zd_L_law_483 : zz_D zy_law_L 483 (.iaload) 1 484 := ⟨zg_L_law_479.2.2.2.1, rfl⟩
theorem zd_L_law_484 : zz_D zy_law_L 484 (.i2l) 1 485 := ⟨zg_L_law_479.2.2.2.2.1, rfl⟩
theorem zd_L_law_485 : zz_D zy_law_L 485 (.bipush 32) 2 487 := ⟨zg_L_law_479.2.2.2.2.2.1, rfl⟩
theorem zd_L_law_487 : zz_D zy_law_L 487 (.lshl) 1 488 := ⟨zg_L_law_479.2.2.2.2.2.2.1, rfl⟩
theorem zd_L_law_488 : zz_D zy_law_L 488 (.aload_n 0) 1 489 := ⟨zg_L_law_479.2.2.2.2.2.2.2.1, rfl⟩
theorem zd_L_law_489 : zz_D zy_law_L 489 (.iload 4) 2 491 := ⟨zg_L_law_479.2.2.2.2.2.2.2.2.1, rfl⟩
theorem zd_L_law_491 : zz_D zy_law_L 491 (.iconst 2) 1 492 := ⟨zg_L_law_479.2.2.2.2.2.2.2.2.2, rfl⟩
theorem zg_L_law_492 : (decode zy_law_L.2.1 492 = .ok ((.iadd), 1)) ∧ (decode zy_law_L.2.1 493 = .ok ((.iaload), 1)) ∧ (decode zy_law_L.2.1 494 = .ok ((.i2l), 1)) ∧ (decode zy_law_L.2.1 495 = .ok ((.ldc2_w 112), 3)) ∧ (decode zy_law_L.2.1 498 = .ok ((.land), 1)) ∧ (decode zy_law_L.2.1 499 = .ok ((.lor), 1)) ∧ (decode zy_law_L.2.1 500 = .ok ((.invokevirtual 133), 3)) ∧ (decode zy_law_L.2.1 503 = .ok ((.pop), 1)) ∧ (decode zy_law_L.2.1 504 = .ok ((.aload_n 2), 1)) ∧ (decode zy_law_L.2.1 505 = .ok ((.aload_n 0), 1)) := by decide +kernel
theorem zd_L_law_492 : zz_D zy_law_L 492 (.iadd) 1 493 := ⟨zg_L_law_492.1, rfl⟩
theorem zd_L_law_493 : zz_D zy_law_L 493 (.iaload) 1 494 := ⟨zg_L_law_492.2.1, rfl⟩
theorem zd_L_law_494 : zz_D zy_law_L 494 (.i2l) 1 495 := ⟨zg_L_law_492.2.2.1, rfl⟩
theorem zd_L_law_495 : zz_D zy_law_L 495 (.ldc2_w 112) 3 498 := ⟨zg_L_law_492.2.2.2.1, rfl⟩
theorem zd_L_law_498 : zz_D zy_law_L 498 (.land) 1 499 := ⟨zg_L_law_492.2.2.2.2.1, rfl⟩
theorem zd_L_law_499 : zz_D zy_law_L 499 (.lor) 1 500 := ⟨zg_L_law_492.2.2.2.2.2.1, rfl⟩
theorem zd_L_law_500 : zz_D zy_law_L 500 (.invokevirtual 133) 3 503 := ⟨zg_L_law_492.2.2.2.2.2.2.1, rfl⟩
theorem zd_L_law_503 : zz_D zy_law_L 503 (.pop) 1 504 := ⟨zg_L_law_492.2.2.2.2.2.2.2.1, rfl⟩
theorem zd_L_law_504 : zz_D zy_law_L 504 (.aload_n 2) 1 505 := ⟨zg_L_law_492.2.2.2.2.2.2.2.2.1, rfl⟩
theorem zd_L_law_505 : zz_D zy_law_L 505 (.aload_n 0) 1 506 := ⟨zg_L_law_492.2.2.2.2.2.2.2.2.2, rfl⟩
theorem zg_L_law_506 : (decode zy_law_L.2.1 506 = .ok ((.iload 4), 2)) ∧ (decode zy_law_L.2.1 508 = .ok ((.iconst 1), 1)) ∧ (decode zy_law_L.2.1 509 = .ok ((.iadd), 1)) ∧ (decode zy_law_L.2.1 510 = .ok ((.iaload), 1)) ∧ (decode zy_law_L.2.1 511 = .ok ((.i2l), 1)) ∧ (decode zy_law_L.2.1 512 = .ok ((.bipush 32), 2)) ∧ (decode zy_law_L.2.1 514 = .ok ((.lshl), 1)) ∧ (decode zy_law_L.2.1 515 = .ok ((.aload_n 0), 1)) ∧ (decode zy_law_L.2.1 516 = .ok ((.iload 4), 2)) ∧ (decode zy_law_L.2.1 518 = .ok ((.iconst 2), 1)) := by decide +kernel
theorem zd_L_law_506 : zz_D zy_law_L 506 (.iload 4) 2 508 := ⟨zg_L_law_506.1, rfl⟩
theorem zd_L_law_508 : zz_D zy_law_L 508 (.iconst 1) 1 509 := ⟨zg_L_law_506.2.1, rfl⟩
theorem zd_L_law_509 : zz_D zy_law_L 509 (.iadd) 1 510 := ⟨zg_L_law_506.2.2.1, rfl⟩
theorem zd_L_law_510 : zz_D zy_law_L 510 (.iaload) 1 511 := ⟨zg_L_law_506.2.2.2.1, rfl⟩
theorem zd_L_law_511 : zz_D zy_law_L 511 (.i2l) 1 512 := ⟨zg_L_law_506.2.2.2.2.1, rfl⟩
theorem zd_L_law_512 : zz_D zy_law_L 512 (.bipush 32) 2 514 := ⟨zg_L_law_506.2.2.2.2.2.1, rfl⟩
theorem zd_L_law_514 : zz_D zy_law_L 514 (.lshl) 1 515 := ⟨zg_L_law_506.2.2.2.2.2.2.1, rfl⟩
theorem zd_L_law_515 : zz_D zy_law_L 515 (.aload_n 0) 1 516 := ⟨zg_L_law_506.2.2.2.2.2.2.2.1, rfl⟩
theorem zd_L_law_516 : zz_D zy_law_L 516 (.iload 4) 2 518 := ⟨zg_L_law_506.2.2.2.2.2.2.2.2.1, rfl⟩
theorem zd_L_law_518 : zz_D zy_law_L 518 (.iconst 2) 1 519 := ⟨zg_L_law_506.2.2.2.2.2.2.2.2.2, rfl⟩
theorem zg_L_law_519 : (decode zy_law_L.2.1 519 = .ok ((.iadd), 1)) ∧ (decode zy_law_L.2.1 520 = .ok ((.iaload), 1)) ∧ (decode zy_law_L.2.1 521 = .ok ((.i2l), 1)) ∧ (decode zy_law_L.2.1 522 = .ok ((.ldc2_w 112), 3)) ∧ (decode zy_law_L.2.1 525 = .ok ((.land), 1)) ∧ (decode zy_law_L.2.1 526 = .ok ((.lor), 1)) ∧ (decode zy_law_L.2.1 527 = .ok ((.invokevirtual 137), 3)) ∧ (decode zy_law_L.2.1 530 = .ok ((.pop), 1)) ∧ (decode zy_law_L.2.1 531 = .ok (Instr.goto 660, 3)) ∧ (decode zy_law_L.2.1 534 = .ok ((.aload_n 1), 1)) := by decide +kernel
theorem zd_L_law_519 : zz_D zy_law_L 519 (.iadd) 1 520 := ⟨zg_L_law_519.1, rfl⟩
theorem zd_L_law_520 : zz_D zy_law_L 520 (.iaload) 1 521 := ⟨zg_L_law_519.2.1, rfl⟩
theorem zd_L_law_521 : zz_D zy_law_L 521 (.i2l) 1 522 := ⟨zg_L_law_519.2.2.1, rfl⟩
theorem zd_L_law_522 : zz_D zy_law_L 522 (.ldc2_w 112) 3 525 := ⟨zg_L_law_519.2.2.2.1, rfl⟩
theorem zd_L_law_525 : zz_D zy_law_L 525 (.land) 1 526 := ⟨zg_L_law_519.2.2.2.2.1, rfl⟩
theorem zd_L_law_526 : zz_D zy_law_L 526 (.lor) 1 527 := ⟨zg_L_law_519.2.2.2.2.2.1, rfl⟩
theorem zd_L_law_527 : zz_D zy_law_L 527 (.invokevirtual 137) 3 530 := ⟨zg_L_law_519.2.2.2.2.2.2.1, rfl⟩
theorem zd_L_law_530 : zz_D zy_law_L 530 (.pop) 1 531 := ⟨zg_L_law_519.2.2.2.2.2.2.2.1, rfl⟩
theorem zd_L_law_531 : zz_B zy_law_L 531 Instr.goto 1191 534 := ⟨660, zg_L_law_519.2.2.2.2.2.2.2.2.1, rfl, rfl⟩
theorem zd_L_law_534 : zz_D zy_law_L 534 (.aload_n 1) 1 535 := ⟨zg_L_law_519.2.2.2.2.2.2.2.2.2, rfl⟩
theorem zg_L_law_535 : (decode zy_law_L.2.1 535 = .ok ((.aload_n 0), 1)) ∧ (decode zy_law_L.2.1 536 = .ok ((.iload 4), 2)) ∧ (decode zy_law_L.2.1 538 = .ok ((.iconst 1), 1)) ∧ (decode zy_law_L.2.1 539 = .ok ((.iadd), 1)) ∧ (decode zy_law_L.2.1 540 = .ok ((.iaload), 1)) ∧ (decode zy_law_L.2.1 541 = .ok ((.aload_n 3), 1)) ∧ (decode zy_law_L.2.1 542 = .ok ((.invokestatic 138), 3)) ∧ (decode zy_law_L.2.1 545 = .ok ((.istore 5), 2)) ∧ (decode zy_law_L.2.1 547 = .ok ((.aload_n 2), 1)) ∧ (decode zy_law_L.2.1 548 = .ok ((.aload_n 0), 1)) := by decide +kernel
theorem zd_L_law_535 : zz_D zy_law_L 535 (.aload_n 0) 1 536 := ⟨zg_L_law_535.1, rfl⟩
theorem zd_L_law_536 : zz_D zy_law_L 536 (.iload 4) 2 538 := ⟨zg_L_law_535.2.1, rfl⟩
theorem zd_L_law_538 : zz_D zy_law_L 538 (.iconst 1) 1 539 := ⟨zg_L_law_535.2.2.1, rfl⟩
theorem zd_L_law_539 : zz_D zy_law_L 539 (.iadd) 1 540 := ⟨zg_L_law_535.2.2.2.1, rfl⟩
theorem zd_L_law_540 : zz_D zy_law_L 540 (.iaload) 1 541 := ⟨zg_L_law_535.2.2.2.2.1, rfl⟩
theorem zd_L_law_541 : zz_D zy_law_L 541 (.aload_n 3) 1 542 := ⟨zg_L_law_535.2.2.2.2.2.1, rfl⟩
theorem zd_L_law_542 : zz_D zy_law_L 542 (.invokestatic 138) 3 545 := ⟨zg_L_law_535.2.2.2.2.2.2.1, rfl⟩
theorem zd_L_law_545 : zz_D zy_law_L 545 (.istore 5) 2 547 := ⟨zg_L_law_535.2.2.2.2.2.2.2.1, rfl⟩
theorem zd_L_law_547 : zz_D zy_law_L 547 (.aload_n 2) 1 548 := ⟨zg_L_law_535.2.2.2.2.2.2.2.2.1, rfl⟩
theorem zd_L_law_548 : zz_D zy_law_L 548 (.aload_n 0) 1 549 := ⟨zg_L_law_535.2.2.2.2.2.2.2.2.2, rfl⟩
theorem zg_L_law_549 : (decode zy_law_L.2.1 549 = .ok ((.iload 4), 2)) ∧ (decode zy_law_L.2.1 551 = .ok ((.iconst 1), 1)) ∧ (decode zy_law_L.2.1 552 = .ok ((.iadd), 1)) ∧ (decode zy_law_L.2.1 553 = .ok ((.iaload), 1)) ∧ (decode zy_law_L.2.1 554 = .ok ((.invokevirtual 140), 3)) ∧ (decode zy_law_L.2.1 557 = .ok ((.istore 6), 2)) ∧ (decode zy_law_L.2.1 559 = .ok (Instr.goto 632, 3)) ∧ (decode zy_law_L.2.1 562 = .ok ((.aload_n 1), 1)) ∧ (decode zy_law_L.2.1 563 = .ok ((.aload_n 0), 1)) ∧ (decode zy_law_L.2.1 564 = .ok ((.iload 4), 2)) := by decide +kernel
theorem zd_L_law_549 : zz_D zy_law_L 549 (.iload 4) 2 551 := ⟨zg_L_law_549.1, rfl⟩
theorem zd_L_law_551 : zz_D zy_law_L 551 (.iconst 1) 1 552 := ⟨zg_L_law_549.2.1, rfl⟩
theorem zd_L_law_552 : zz_D zy_law_L 552 (.iadd) 1 553 := ⟨zg_L_law_549.2.2.1, rfl⟩
theorem zd_L_law_553 : zz_D zy_law_L 553 (.iaload) 1 554 := ⟨zg_L_law_549.2.2.2.1, rfl⟩
theorem zd_L_law_554 : zz_D zy_law_L 554 (.invokevirtual 140) 3 557 := ⟨zg_L_law_549.2.2.2.2.1, rfl⟩
theorem zd_L_law_557 : zz_D zy_law_L 557 (.istore 6) 2 559 := ⟨zg_L_law_549.2.2.2.2.2.1, rfl⟩
theorem zd_L_law_559 : zz_B zy_law_L 559 Instr.goto 1191 562 := ⟨632, zg_L_law_549.2.2.2.2.2.2.1, rfl, rfl⟩
theorem zd_L_law_562 : zz_D zy_law_L 562 (.aload_n 1) 1 563 := ⟨zg_L_law_549.2.2.2.2.2.2.2.1, rfl⟩
theorem zd_L_law_563 : zz_D zy_law_L 563 (.aload_n 0) 1 564 := ⟨zg_L_law_549.2.2.2.2.2.2.2.2.1, rfl⟩
theorem zd_L_law_564 : zz_D zy_law_L 564 (.iload 4) 2 566 := ⟨zg_L_law_549.2.2.2.2.2.2.2.2.2, rfl⟩
theorem zg_L_law_566 : (decode zy_law_L.2.1 566 = .ok ((.iconst 1), 1)) ∧ (decode zy_law_L.2.1 567 = .ok ((.iadd), 1)) ∧ (decode zy_law_L.2.1 568 = .ok ((.iaload), 1)) ∧ (decode zy_law_L.2.1 569 = .ok ((.invokestatic 141), 3)) ∧ (decode zy_law_L.2.1 572 = .ok ((.istore 5), 2)) ∧ (decode zy_law_L.2.1 574 = .ok ((.aload_n 2), 1)) ∧ (decode zy_law_L.2.1 575 = .ok ((.aload_n 0), 1)) ∧ (decode zy_law_L.2.1 576 = .ok ((.iload 4), 2)) ∧ (decode zy_law_L.2.1 578 = .ok ((.iconst 1), 1)) ∧ (decode zy_law_L.2.1 579 = .ok ((.iadd), 1)) := by decide +kernel
theorem zd_L_law_566 : zz_D zy_law_L 566 (.iconst 1) 1 567 := ⟨zg_L_law_566.1, rfl⟩
theorem zd_L_law_567 : zz_D zy_law_L 567 (.iadd) 1 568 := ⟨zg_L_law_566.2.1, rfl⟩
theorem zd_L_law_568 : zz_D zy_law_L 568 (.iaload) 1 569 := ⟨zg_L_law_566.2.2.1, rfl⟩
theorem zd_L_law_569 : zz_D zy_law_L 569 (.invokestatic 141) 3 572 := ⟨zg_L_law_566.2.2.2.1, rfl⟩
theorem zd_L_law_572 : zz_D zy_law_L 572 (.istore 5) 2 574 := ⟨zg_L_law_566.2.2.2.2.1, rfl⟩
theorem zd_L_law_574 : zz_D zy_law_L 574 (.aload_n 2) 1 575 := ⟨zg_L_law_566.2.2.2.2.2.1, rfl⟩
theorem zd_L_law_575 : zz_D zy_law_L 575 (.aload_n 0) 1 576 := ⟨zg_L_law_566.2.2.2.2.2.2.1, rfl⟩
theorem zd_L_law_576 : zz_D zy_law_L 576 (.iload 4) 2 578 := ⟨zg_L_law_566.2.2.2.2.2.2.2.1, rfl⟩
theorem zd_L_law_578 : zz_D zy_law_L 578 (.iconst 1) 1 579 := ⟨zg_L_law_566.2.2.2.2.2.2.2.2.1, rfl⟩
theorem zd_L_law_579 : zz_D zy_law_L 579 (.iadd) 1 580 := ⟨zg_L_law_566.2.2.2.2.2.2.2.2.2, rfl⟩
theorem zg_L_law_580 : (decode zy_law_L.2.1 580 = .ok ((.iaload), 1)) ∧ (decode zy_law_L.2.1 581 = .ok ((.invokevirtual 143), 3)) ∧ (decode zy_law_L.2.1 584 = .ok ((.aload_n 2), 1)) ∧ (decode zy_law_L.2.1 585 = .ok ((.invokevirtual 144), 3)) ∧ (decode zy_law_L.2.1 588 = .ok ((.iload 5), 2)) ∧ (decode zy_law_L.2.1 590 = .ok ((Instr.if_icmp .eq) 5, 3)) ∧ (decode zy_law_L.2.1 595 = .ok (Instr.goto 596, 3)) ∧ (decode zy_law_L.2.1 598 = .ok ((.aload_n 1), 1)) ∧ (decode zy_law_L.2.1 599 = .ok ((.invokevirtual 147), 3)) ∧ (decode zy_law_L.2.1 602 = .ok ((.pop), 1)) := by decide +kernel
theorem zd_L_law_580 : zz_D zy_law_L 580 (.iaload) 1 581 := ⟨zg_L_law_580.1, rfl⟩
theorem zd_L_law_581 : zz_D zy_law_L 581 (.invokevirtual 143) 3 584 := ⟨zg_L_law_580.2.1, rfl⟩
theorem zd_L_law_584 : zz_D zy_law_L 584 (.aload_n 2) 1 585 := ⟨zg_L_law_580.2.2.1, rfl⟩
theorem zd_L_law_585 : zz_D zy_law_L 585 (.invokevirtual 144) 3 588 := ⟨zg_L_law_580.2.2.2.1, rfl⟩
theorem zd_L_law_588 : zz_D zy_law_L 588 (.iload 5) 2 590 := ⟨zg_L_law_580.2.2.2.2.1, rfl⟩
theorem zd_L_law_590 : zz_B zy_law_L 590 (Instr.if_icmp .eq) 595 593 := ⟨5, zg_L_law_580.2.2.2.2.2.1, rfl, rfl⟩
theorem zd_L_law_595 : zz_B zy_law_L 595 Instr.goto 1191 598 := ⟨596, zg_L_law_580.2.2.2.2.2.2.1, rfl, rfl⟩
theorem zd_L_law_598 : zz_D zy_law_L 598 (.aload_n 1) 1 599 := ⟨zg_L_law_580.2.2.2.2.2.2.2.1, rfl⟩
theorem zd_L_law_599 : zz_D zy_law_L 599 (.invokevirtual 147) 3 602 := ⟨zg_L_law_580.2.2.2.2.2.2.2.2.1, rfl⟩
theorem zd_L_law_602 : zz_D zy_law_L 602 (.pop) 1 603 := ⟨zg_L_law_580.2.2.2.2.2.2.2.2.2, rfl⟩
theorem zg_L_law_603 : (decode zy_law_L.2.1 603 = .ok ((.aload_n 2), 1)) ∧ (decode zy_law_L.2.1 604 = .ok ((.invokevirtual 150), 3)) ∧ (decode zy_law_L.2.1 607 = .ok ((.pop), 1)) ∧ (decode zy_law_L.2.1 608 = .ok (Instr.goto 583, 3)) ∧ (decode zy_law_L.2.1 611 = .ok ((.aload_n 1), 1)) ∧ (decode zy_law_L.2.1 612 = .ok ((.aload_n 0), 1)) ∧ (decode zy_law_L.2.1 613 = .ok ((.iload 4), 2)) ∧ (decode zy_law_L.2.1 615 = .ok ((.iconst 1), 1)) ∧ (decode zy_law_L.2.1 616 = .ok ((.iadd), 1)) ∧ (decode zy_law_L.2.1 617 = .ok ((.iaload), 1)) := by decide +kernel
theorem zd_L_law_603 : zz_D zy_law_L 603 (.aload_n 2) 1 604 := ⟨zg_L_law_603.1, rfl⟩
theorem zd_L_law_604 : zz_D zy_law_L 604 (.invokevirtual 150) 3 607 := ⟨zg_L_law_603.2.1, rfl⟩
theorem zd_L_law_607 : zz_D zy_law_L 607 (.pop) 1 608 := ⟨zg_L_law_603.2.2.1, rfl⟩
theorem zd_L_law_608 : zz_B zy_law_L 608 Instr.goto 1191 611 := ⟨583, zg_L_law_603.2.2.2.1, rfl, rfl⟩
theorem zd_L_law_611 : zz_D zy_law_L 611 (.aload_n 1) 1 612 := ⟨zg_L_law_603.2.2.2.2.1, rfl⟩
theorem zd_L_law_612 : zz_D zy_law_L 612 (.aload_n 0) 1 613 := ⟨zg_L_law_603.2.2.2.2.2.1, rfl⟩
theorem zd_L_law_613 : zz_D zy_law_L 613 (.iload 4) 2 615 := ⟨zg_L_law_603.2.2.2.2.2.2.1, rfl⟩
theorem zd_L_law_615 : zz_D zy_law_L 615 (.iconst 1) 1 616 := ⟨zg_L_law_603.2.2.2.2.2.2.2.1, rfl⟩
theorem zd_L_law_616 : zz_D zy_law_L 616 (.iadd) 1 617 := ⟨zg_L_law_603.2.2.2.2.2.2.2.2.1, rfl⟩
theorem zd_L_law_617 : zz_D zy_law_L 617 (.iaload) 1 618 := ⟨zg_L_law_603.2.2.2.2.2.2.2.2.2, rfl⟩
theorem zg_L_law_618 : (decode zy_law_L.2.1 618 = .ok ((.aload_n 0), 1)) ∧ (decode zy_law_L.2.1 619 = .ok ((.iload 4), 2)) ∧ (decode zy_law_L.2.1 621 = .ok ((.iconst 2), 1)) ∧ (decode zy_law_L.2.1 622 = .ok ((.iadd), 1)) ∧ (decode zy_law_L.2.1 623 = .ok ((.iaload), 1)) ∧ (decode zy_law_L.2.1 624 = .ok ((.aload_n 3), 1)) ∧ (decode zy_law_L.2.1 625 = .ok ((.invokestatic 151), 3)) ∧ (decode zy_law_L.2.1 628 = .ok ((.istore 5), 2)) ∧ (decode zy_law_L.2.1 630 = .ok ((.aload_n 2), 1)) ∧ (decode zy_law_L.2.1 631 = .ok ((.aload_n 0), 1)) := by decide +kernel
theorem zd_L_law_618 : zz_D zy_law_L 618 (.aload_n 0) 1 619 := ⟨zg_L_law_618.1, rfl⟩
theorem zd_L_law_619 : zz_D zy_law_L 619 (.iload 4) 2 621 := ⟨zg_L_law_618.2.1, rfl⟩
theorem zd_L_law_621 : zz_D zy_law_L 621 (.iconst 2) 1 622 := ⟨zg_L_law_618.2.2.1, rfl⟩
theorem zd_L_law_622 : zz_D zy_law_L 622 (.iadd) 1 623 := ⟨zg_L_law_618.2.2.2.1, rfl⟩
theorem zd_L_law_623 : zz_D zy_law_L 623 (.iaload) 1 624 := ⟨zg_L_law_618.2.2.2.2.1, rfl⟩
theorem zd_L_law_624 : zz_D zy_law_L 624 (.aload_n 3) 1 625 := ⟨zg_L_law_618.2.2.2.2.2.1, rfl⟩
theorem zd_L_law_625 : zz_D zy_law_L 625 (.invokestatic 151) 3 628 := ⟨zg_L_law_618.2.2.2.2.2.2.1, rfl⟩
theorem zd_L_law_628 : zz_D zy_law_L 628 (.istore 5) 2 630 := ⟨zg_L_law_618.2.2.2.2.2.2.2.1, rfl⟩
theorem zd_L_law_630 : zz_D zy_law_L 630 (.aload_n 2) 1 631 := ⟨zg_L_law_618.2.2.2.2.2.2.2.2.1, rfl⟩
theorem zd_L_law_631 : zz_D zy_law_L 631 (.aload_n 0) 1 632 := ⟨zg_L_law_618.2.2.2.2.2.2.2.2.2, rfl⟩
theorem zg_L_law_632 : (decode zy_law_L.2.1 632 = .ok ((.iload 4), 2)) ∧ (decode zy_law_L.2.1 634 = .ok ((.iconst 1), 1)) ∧ (decode zy_law_L.2.1 635 = .ok ((.iadd), 1)) ∧ (decode zy_law_L.2.1 636 = .ok ((.iaload), 1)) ∧ (decode zy_law_L.2.1 637 = .ok ((.aload_n 0), 1)) ∧ (decode zy_law_L.2.1 638 = .ok ((.iload 4), 2)) ∧ (decode zy_law_L.2.1 640 = .ok ((.iconst 2), 1)) ∧ (decode zy_law_L.2.1 641 = .ok ((.iadd), 1)) ∧ (decode zy_law_L.2.1 642 = .ok ((.iaload), 1)) ∧ (decode zy_law_L.2.1 643 = .ok ((.invokevirtual 153), 3)) := by decide +kernel
theorem zd_L_law_632 : zz_D zy_law_L 632 (.iload 4) 2 634 := ⟨zg_L_law_632.1, rfl⟩
theorem zd_L_law_634 : zz_D zy_law_L 634 (.iconst 1) 1 635 := ⟨zg_L_law_632.2.1, rfl⟩
theorem zd_L_law_635 : zz_D zy_law_L 635 (.iadd) 1 636 := ⟨zg_L_law_632.2.2.1, rfl⟩
theorem zd_L_law_636 : zz_D zy_law_L 636 (.iaload) 1 637 := ⟨zg_L_law_632.2.2.2.1, rfl⟩
theorem zd_L_law_637 : zz_D zy_law_L 637 (.aload_n 0) 1 638 := ⟨zg_L_law_632.2.2.2.2.1, rfl⟩
theorem zd_L_law_638 : zz_D zy_law_L 638 (.iload 4) 2 640 := ⟨zg_L_law_632.2.2.2.2.2.1, rfl⟩
theorem zd_L_law_640 : zz_D zy_law_L 640 (.iconst 2) 1 641 := ⟨zg_L_law_632.2.2.2.2.2.2.1, rfl⟩
theorem zd_L_law_641 : zz_D zy_law_L 641 (.iadd) 1 642 := ⟨zg_L_law_632.2.2.2.2.2.2.2.1, rfl⟩
theorem zd_L_law_642 : zz_D zy_law_L 642 (.iaload) 1 643 := ⟨zg_L_law_632.2.2.2.2.2.2.2.2.1, rfl⟩
theorem zd_L_law_643 : zz_D zy_law_L 643 (.invokevirtual 153) 3 646 := ⟨zg_L_law_632.2.2.2.2.2.2.2.2.2, rfl⟩
theorem zg_L_law_646 : (decode zy_law_L.2.1 646 = .ok ((.istore 6), 2)) ∧ (decode zy_law_L.2.1 648 = .ok (Instr.goto 543, 3)) ∧ (decode zy_law_L.2.1 651 = .ok ((.aload_n 1), 1)) ∧ (decode zy_law_L.2.1 652 = .ok ((.invokevirtual 154), 3)) ∧ (decode zy_law_L.2.1 655 = .ok ((.pop), 1)) ∧ (decode zy_law_L.2.1 656 = .ok ((.aload_n 2), 1)) ∧ (decode zy_law_L.2.1 657 = .ok ((.invokevirtual 157), 3)) ∧ (decode zy_law_L.2.1 660 = .ok ((.pop), 1)) ∧ (decode zy_law_L.2.1 661 = .ok (Instr.goto 530, 3)) ∧ (decode zy_law_L.2.1 664 = .ok ((.aload_n 1), 1)) := by decide +kernel
theorem zd_L_law_646 : zz_D zy_law_L 646 (.istore 6) 2 648 := ⟨zg_L_law_646.1, rfl⟩
theorem zd_L_law_648 : zz_B zy_law_L 648 Instr.goto 1191 651 := ⟨543, zg_L_law_646.2.1, rfl, rfl⟩
theorem zd_L_law_651 : zz_D zy_law_L 651 (.aload_n 1) 1 652 := ⟨zg_L_law_646.2.2.1, rfl⟩
theorem zd_L_law_652 : zz_D zy_law_L 652 (.invokevirtual 154) 3 655 := ⟨zg_L_law_646.2.2.2.1, rfl⟩
theorem zd_L_law_655 : zz_D zy_law_L 655 (.pop) 1 656 := ⟨zg_L_law_646.2.2.2.2.1, rfl⟩
theorem zd_L_law_656 : zz_D zy_law_L 656 (.aload_n 2) 1 657 := ⟨zg_L_law_646.2.2.2.2.2.1, rfl⟩
theorem zd_L_law_657 : zz_D zy_law_L 657 (.invokevirtual 157) 3 660 := ⟨zg_L_law_646.2.2.2.2.2.2.1, rfl⟩
theorem zd_L_law_660 : zz_D zy_law_L 660 (.pop) 1 661 := ⟨zg_L_law_646.2.2.2.2.2.2.2.1, rfl⟩
theorem zd_L_law_661 : zz_B zy_law_L 661 Instr.goto 1191 664 := ⟨530, zg_L_law_646.2.2.2.2.2.2.2.2.1, rfl, rfl⟩
theorem zd_L_law_664 : zz_D zy_law_L 664 (.aload_n 1) 1 665 := ⟨zg_L_law_646.2.2.2.2.2.2.2.2.2, rfl⟩
theorem zg_L_law_665 : (decode zy_law_L.2.1 665 = .ok ((.aload_n 0), 1)) ∧ (decode zy_law_L.2.1 666 = .ok ((.iload 4), 2)) ∧ (decode zy_law_L.2.1 668 = .ok ((.iconst 1), 1)) ∧ (decode zy_law_L.2.1 669 = .ok ((.iadd), 1)) ∧ (decode zy_law_L.2.1 670 = .ok ((.iaload), 1)) ∧ (decode zy_law_L.2.1 671 = .ok ((.aload_n 3), 1)) ∧ (decode zy_law_L.2.1 672 = .ok ((.invokestatic 158), 3)) ∧ (decode zy_law_L.2.1 675 = .ok ((.istore 5), 2)) ∧ (decode zy_law_L.2.1 677 = .ok ((.aload_n 2), 1)) ∧ (decode zy_law_L.2.1 678 = .ok ((.aload_n 0), 1)) := by decide +kernel
theorem zd_L_law_665 : zz_D zy_law_L 665 (.aload_n 0) 1 666 := ⟨zg_L_law_665.1, rfl⟩
theorem zd_L_law_666 : zz_D zy_law_L 666 (.iload 4) 2 668 := ⟨zg_L_law_665.2.1, rfl⟩
theorem zd_L_law_668 : zz_D zy_law_L 668 (.iconst 1) 1 669 := ⟨zg_L_law_665.2.2.1, rfl⟩
theorem zd_L_law_669 : zz_D zy_law_L 669 (.iadd) 1 670 := ⟨zg_L_law_665.2.2.2.1, rfl⟩
theorem zd_L_law_670 : zz_D zy_law_L 670 (.iaload) 1 671 := ⟨zg_L_law_665.2.2.2.2.1, rfl⟩
theorem zd_L_law_671 : zz_D zy_law_L 671 (.aload_n 3) 1 672 := ⟨zg_L_law_665.2.2.2.2.2.1, rfl⟩
theorem zd_L_law_672 : zz_D zy_law_L 672 (.invokestatic 158) 3 675 := ⟨zg_L_law_665.2.2.2.2.2.2.1, rfl⟩
theorem zd_L_law_675 : zz_D zy_law_L 675 (.istore 5) 2 677 := ⟨zg_L_law_665.2.2.2.2.2.2.2.1, rfl⟩
theorem zd_L_law_677 : zz_D zy_law_L 677 (.aload_n 2) 1 678 := ⟨zg_L_law_665.2.2.2.2.2.2.2.2.1, rfl⟩
theorem zd_L_law_678 : zz_D zy_law_L 678 (.aload_n 0) 1 679 := ⟨zg_L_law_665.2.2.2.2.2.2.2.2.2, rfl⟩
theorem zg_L_law_679 : (decode zy_law_L.2.1 679 = .ok ((.iload 4), 2)) ∧ (decode zy_law_L.2.1 681 = .ok ((.iconst 1), 1)) ∧ (decode zy_law_L.2.1 682 = .ok ((.iadd), 1)) ∧ (decode zy_law_L.2.1 683 = .ok ((.iaload), 1)) ∧ (decode zy_law_L.2.1 684 = .ok ((.invokevirtual 160), 3)) ∧ (decode zy_law_L.2.1 687 = .ok ((.istore 6), 2)) ∧ (decode zy_law_L.2.1 689 = .ok (Instr.goto 502, 3)) ∧ (decode zy_law_L.2.1 692 = .ok ((.aload_n 1), 1)) ∧ (decode zy_law_L.2.1 693 = .ok ((.aload_n 0), 1)) ∧ (decode zy_law_L.2.1 694 = .ok ((.iload 4), 2)) := by decide +kernel
theorem zd_L_law_679 : zz_D zy_law_L 679 (.iload 4) 2 681 := ⟨zg_L_law_679.1, rfl⟩
theorem zd_L_law_681 : zz_D zy_law_L 681 (.iconst 1) 1 682 := ⟨zg_L_law_679.2.1, rfl⟩
theorem zd_L_law_682 : zz_D zy_law_L 682 (.iadd) 1 683 := ⟨zg_L_law_679.2.2.1, rfl⟩
theorem zd_L_law_683 : zz_D zy_law_L 683 (.iaload) 1 684 := ⟨zg_L_law_679.2.2.2.1, rfl⟩
theorem zd_L_law_684 : zz_D zy_law_L 684 (.invokevirtual 160) 3 687 := ⟨zg_L_law_679.2.2.2.2.1, rfl⟩
theorem zd_L_law_687 : zz_D zy_law_L 687 (.istore 6) 2 689 := ⟨zg_L_law_679.2.2.2.2.2.1, rfl⟩
theorem zd_L_law_689 : zz_B zy_law_L 689 Instr.goto 1191 692 := ⟨502, zg_L_law_679.2.2.2.2.2.2.1, rfl, rfl⟩
theorem zd_L_law_692 : zz_D zy_law_L 692 (.aload_n 1) 1 693 := ⟨zg_L_law_679.2.2.2.2.2.2.2.1, rfl⟩
theorem zd_L_law_693 : zz_D zy_law_L 693 (.aload_n 0) 1 694 := ⟨zg_L_law_679.2.2.2.2.2.2.2.2.1, rfl⟩
theorem zd_L_law_694 : zz_D zy_law_L 694 (.iload 4) 2 696 := ⟨zg_L_law_679.2.2.2.2.2.2.2.2.2, rfl⟩
theorem zg_L_law_696 : (decode zy_law_L.2.1 696 = .ok ((.iconst 1), 1)) ∧ (decode zy_law_L.2.1 697 = .ok ((.iadd), 1)) ∧ (decode zy_law_L.2.1 698 = .ok ((.iaload), 1)) ∧ (decode zy_law_L.2.1 699 = .ok ((.aload_n 0), 1)) ∧ (decode zy_law_L.2.1 700 = .ok ((.iload 4), 2)) ∧ (decode zy_law_L.2.1 702 = .ok ((.iconst 2), 1)) ∧ (decode zy_law_L.2.1 703 = .ok ((.iadd), 1)) ∧ (decode zy_law_L.2.1 704 = .ok ((.iaload), 1)) ∧ (decode zy_law_L.2.1 705 = .ok ((.aload_n 3), 1)) ∧ (decode zy_law_L.2.1 706 = .ok ((.invokestatic 161), 3)) := by decide +kernel
theorem zd_L_law_696 : zz_D zy_law_L 696 (.iconst 1) 1 697 := ⟨zg_L_law_696.1, rfl⟩
theorem zd_L_law_697 : zz_D zy_law_L 697 (.iadd) 1 698 := ⟨zg_L_law_696.2.1, rfl⟩
theorem zd_L_law_698 : zz_D zy_law_L 698 (.iaload) 1 699 := ⟨zg_L_law_696.2.2.1, rfl⟩
theorem zd_L_law_699 : zz_D zy_law_L 699 (.aload_n 0) 1 700 := ⟨zg_L_law_696.2.2.2.1, rfl⟩
theorem zd_L_law_700 : zz_D zy_law_L 700 (.iload 4) 2 702 := ⟨zg_L_law_696.2.2.2.2.1, rfl⟩
theorem zd_L_law_702 : zz_D zy_law_L 702 (.iconst 2) 1 703 := ⟨zg_L_law_696.2.2.2.2.2.1, rfl⟩
theorem zd_L_law_703 : zz_D zy_law_L 703 (.iadd) 1 704 := ⟨zg_L_law_696.2.2.2.2.2.2.1, rfl⟩
theorem zd_L_law_704 : zz_D zy_law_L 704 (.iaload) 1 705 := ⟨zg_L_law_696.2.2.2.2.2.2.2.1, rfl⟩
theorem zd_L_law_705 : zz_D zy_law_L 705 (.aload_n 3) 1 706 := ⟨zg_L_law_696.2.2.2.2.2.2.2.2.1, rfl⟩
theorem zd_L_law_706 : zz_D zy_law_L 706 (.invokestatic 161) 3 709 := ⟨zg_L_law_696.2.2.2.2.2.2.2.2.2, rfl⟩
theorem zg_L_law_709 : (decode zy_law_L.2.1 709 = .ok ((.istore 5), 2)) ∧ (decode zy_law_L.2.1 711 = .ok ((.aload_n 2), 1)) ∧ (decode zy_law_L.2.1 712 = .ok ((.aload_n 0), 1)) ∧ (decode zy_law_L.2.1 713 = .ok ((.iload 4), 2)) ∧ (decode zy_law_L.2.1 715 = .ok ((.iconst 1), 1)) ∧ (decode zy_law_L.2.1 716 = .ok ((.iadd), 1)) ∧ (decode zy_law_L.2.1 717 = .ok ((.iaload), 1)) ∧ (decode zy_law_L.2.1 718 = .ok ((.aload_n 0), 1)) ∧ (decode zy_law_L.2.1 719 = .ok ((.iload 4), 2)) ∧ (decode zy_law_L.2.1 721 = .ok ((.iconst 2), 1)) := by decide +kernel
theorem zd_L_law_709 : zz_D zy_law_L 709 (.istore 5) 2 711 := ⟨zg_L_law_709.1, rfl⟩
theorem zd_L_law_711 : zz_D zy_law_L 711 (.aload_n 2) 1 712 := ⟨zg_L_law_709.2.1, rfl⟩
theorem zd_L_law_712 : zz_D zy_law_L 712 (.aload_n 0) 1 713 := ⟨zg_L_law_709.2.2.1, rfl⟩
theorem zd_L_law_713 : zz_D zy_law_L 713 (.iload 4) 2 715 := ⟨zg_L_law_709.2.2.2.1, rfl⟩
theorem zd_L_law_715 : zz_D zy_law_L 715 (.iconst 1) 1 716 := ⟨zg_L_law_709.2.2.2.2.1, rfl⟩
theorem zd_L_law_716 : zz_D zy_law_L 716 (.iadd) 1 717 := ⟨zg_L_law_709.2.2.2.2.2.1, rfl⟩
theorem zd_L_law_717 : zz_D zy_law_L 717 (.iaload) 1 718 := ⟨zg_L_law_709.2.2.2.2.2.2.1, rfl⟩
theorem zd_L_law_718 : zz_D zy_law_L 718 (.aload_n 0) 1 719 := ⟨zg_L_law_709.2.2.2.2.2.2.2.1, rfl⟩
theorem zd_L_law_719 : zz_D zy_law_L 719 (.iload 4) 2 721 := ⟨zg_L_law_709.2.2.2.2.2.2.2.2.1, rfl⟩
theorem zd_L_law_721 : zz_D zy_law_L 721 (.iconst 2) 1 722 := ⟨zg_L_law_709.2.2.2.2.2.2.2.2.2, rfl⟩
theorem zg_L_law_722 : (decode zy_law_L.2.1 722 = .ok ((.iadd), 1)) ∧ (decode zy_law_L.2.1 723 = .ok ((.iaload), 1)) ∧ (decode zy_law_L.2.1 724 = .ok ((.invokevirtual 163), 3)) ∧ (decode zy_law_L.2.1 727 = .ok ((.istore 6), 2)) ∧ (decode zy_law_L.2.1 729 = .ok (Instr.goto 462, 3)) ∧ (decode zy_law_L.2.1 732 = .ok ((.aload_n 1), 1)) ∧ (decode zy_law_L.2.1 733 = .ok ((.aload_n 0), 1)) ∧ (decode zy_law_L.2.1 734 = .ok ((.iload 4), 2)) ∧ (decode zy_law_L.2.1 736 = .ok ((.iconst 1), 1)) ∧ (decode zy_law_L.2.1 737 = .ok ((.iadd), 1)) := by decide +kernel
theorem zd_L_law_722 : zz_D zy_law_L 722 (.iadd) 1 723 := ⟨zg_L_law_722.1, rfl⟩
theorem zd_L_law_723 : zz_D zy_law_L 723 (.iaload) 1 724 := ⟨zg_L_law_722.2.1, rfl⟩
theorem zd_L_law_724 : zz_D zy_law_L 724 (.invokevirtual 163) 3 727 := ⟨zg_L_law_722.2.2.1, rfl⟩
theorem zd_L_law_727 : zz_D zy_law_L 727 (.istore 6) 2 729 := ⟨zg_L_law_722.2.2.2.1, rfl⟩
theorem zd_L_law_729 : zz_B zy_law_L 729 Instr.goto 1191 732 := ⟨462, zg_L_law_722.2.2.2.2.1, rfl, rfl⟩
theorem zd_L_law_732 : zz_D zy_law_L 732 (.aload_n 1) 1 733 := ⟨zg_L_law_722.2.2.2.2.2.1, rfl⟩
theorem zd_L_law_733 : zz_D zy_law_L 733 (.aload_n 0) 1 734 := ⟨zg_L_law_722.2.2.2.2.2.2.1, rfl⟩
theorem zd_L_law_734 : zz_D zy_law_L 734 (.iload 4) 2 736 := ⟨zg_L_law_722.2.2.2.2.2.2.2.1, rfl⟩
theorem zd_L_law_736 : zz_D zy_law_L 736 (.iconst 1) 1 737 := ⟨zg_L_law_722.2.2.2.2.2.2.2.2.1, rfl⟩
theorem zd_L_law_737 : zz_D zy_law_L 737 (.iadd) 1 738 := ⟨zg_L_law_722.2.2.2.2.2.2.2.2.2, rfl⟩
theorem zg_L_law_738 : (decode zy_law_L.2.1 738 = .ok ((.iaload), 1)) ∧ (decode zy_law_L.2.1 739 = .ok ((.aload_n 0), 1)) ∧ (decode zy_law_L.2.1 740 = .ok ((.iload 4), 2)) ∧ (decode zy_law_L.2.1 742 = .ok ((.iconst 2), 1)) ∧ (decode zy_law_L.2.1 743 = .ok ((.iadd), 1)) ∧ (decode zy_law_L.2.1 744 = .ok ((.iaload), 1)) ∧ (decode zy_law_L.2.1 745 = .ok ((.aload_n 0), 1)) ∧ (decode zy_law_L.2.1 746 = .ok ((.iload 4), 2)) ∧ (decode zy_law_L.2.1 748 = .ok ((.iconst 3), 1)) ∧ (decode zy_law_L.2.1 749 = .ok ((.iadd), 1)) := by decide +kernel
theorem zd_L_law_738 : zz_D zy_law_L 738 (.iaload) 1 739 := ⟨zg_L_law_738.1, rfl⟩
theorem zd_L_law_739 : zz_D zy_law_L 739 (.aload_n 0) 1 740 := ⟨zg_L_law_738.2.1, rfl⟩
theorem zd_L_law_740 : zz_D zy_law_L 740 (.iload 4) 2 742 := ⟨zg_L_law_738.2.2.1, rfl⟩
theorem zd_L_law_742 : zz_D zy_law_L 742 (.iconst 2) 1 743 := ⟨zg_L_law_738.2.2.2.1, rfl⟩
theorem zd_L_law_743 : zz_D zy_law_L 743 (.iadd) 1 744 := ⟨zg_L_law_738.2.2.2.2.1, rfl⟩
theorem zd_L_law_744 : zz_D zy_law_L 744 (.iaload) 1 745 := ⟨zg_L_law_738.2.2.2.2.2.1, rfl⟩
theorem zd_L_law_745 : zz_D zy_law_L 745 (.aload_n 0) 1 746 := ⟨zg_L_law_738.2.2.2.2.2.2.1, rfl⟩
theorem zd_L_law_746 : zz_D zy_law_L 746 (.iload 4) 2 748 := ⟨zg_L_law_738.2.2.2.2.2.2.2.1, rfl⟩
theorem zd_L_law_748 : zz_D zy_law_L 748 (.iconst 3) 1 749 := ⟨zg_L_law_738.2.2.2.2.2.2.2.2.1, rfl⟩
theorem zd_L_law_749 : zz_D zy_law_L 749 (.iadd) 1 750 := ⟨zg_L_law_738.2.2.2.2.2.2.2.2.2, rfl⟩
theorem zg_L_law_750 : (decode zy_law_L.2.1 750 = .ok ((.iaload), 1)) ∧ (decode zy_law_L.2.1 751 = .ok ((.invokestatic 164), 3)) ∧ (decode zy_law_L.2.1 754 = .ok ((.istore 5), 2)) ∧ (decode zy_law_L.2.1 756 = .ok ((.aload_n 2), 1)) ∧ (decode zy_law_L.2.1 757 = .ok ((.aload_n 0), 1)) ∧ (decode zy_law_L.2.1 758 = .ok ((.iload 4), 2)) ∧ (decode zy_law_L.2.1 760 = .ok ((.iconst 1), 1)) ∧ (decode zy_law_L.2.1 761 = .ok ((.iadd), 1)) ∧ (decode zy_law_L.2.1 762 = .ok ((.iaload), 1)) ∧ (decode zy_law_L.2.1 763 = .ok ((.aload_n 0), 1)) := by decide +kernel
theorem zd_L_law_750 : zz_D zy_law_L 750 (.iaload) 1 751 := ⟨zg_L_law_750.1, rfl⟩
theorem zd_L_law_751 : zz_D zy_law_L 751 (.invokestatic 164) 3 754 := ⟨zg_L_law_750.2.1, rfl⟩
theorem zd_L_law_754 : zz_D zy_law_L 754 (.istore 5) 2 756 := ⟨zg_L_law_750.2.2.1, rfl⟩
theorem zd_L_law_756 : zz_D zy_law_L 756 (.aload_n 2) 1 757 := ⟨zg_L_law_750.2.2.2.1, rfl⟩
theorem zd_L_law_757 : zz_D zy_law_L 757 (.aload_n 0) 1 758 := ⟨zg_L_law_750.2.2.2.2.1, rfl⟩
theorem zd_L_law_758 : zz_D zy_law_L 758 (.iload 4) 2 760 := ⟨zg_L_law_750.2.2.2.2.2.1, rfl⟩
theorem zd_L_law_760 : zz_D zy_law_L 760 (.iconst 1) 1 761 := ⟨zg_L_law_750.2.2.2.2.2.2.1, rfl⟩
theorem zd_L_law_761 : zz_D zy_law_L 761 (.iadd) 1 762 := ⟨zg_L_law_750.2.2.2.2.2.2.2.1, rfl⟩
theorem zd_L_law_762 : zz_D zy_law_L 762 (.iaload) 1 763 := ⟨zg_L_law_750.2.2.2.2.2.2.2.2.1, rfl⟩
theorem zd_L_law_763 : zz_D zy_law_L 763 (.aload_n 0) 1 764 := ⟨zg_L_law_750.2.2.2.2.2.2.2.2.2, rfl⟩
theorem zg_L_law_764 : (decode zy_law_L.2.1 764 = .ok ((.iload 4), 2)) ∧ (decode zy_law_L.2.1 766 = .ok ((.iconst 2), 1)) ∧ (decode zy_law_L.2.1 767 = .ok ((.iadd), 1)) ∧ (decode zy_law_L.2.1 768 = .ok ((.iaload), 1)) ∧ (decode zy_law_L.2.1 769 = .ok ((.aload_n 0), 1)) ∧ (decode zy_law_L.2.1 770 = .ok ((.iload 4), 2)) ∧ (decode zy_law_L.2.1 772 = .ok ((.iconst 3), 1)) ∧ (decode zy_law_L.2.1 773 = .ok ((.iadd), 1)) ∧ (decode zy_law_L.2.1 774 = .ok ((.iaload), 1)) ∧ (decode zy_law_L.2.1 775 = .ok ((.invokevirtual 167), 3)) := by decide +kernel
theorem zd_L_law_764 : zz_D zy_law_L 764 (.iload 4) 2 766 := ⟨zg_L_law_764.1, rfl⟩
theorem zd_L_law_766 : zz_D zy_law_L 766 (.iconst 2) 1 767 := ⟨zg_L_law_764.2.1, rfl⟩
theorem zd_L_law_767 : zz_D zy_law_L 767 (.iadd) 1 768 := ⟨zg_L_law_764.2.2.1, rfl⟩
theorem zd_L_law_768 : zz_D zy_law_L 768 (.iaload) 1 769 := ⟨zg_L_law_764.2.2.2.1, rfl⟩
theorem zd_L_law_769 : zz_D zy_law_L 769 (.aload_n 0) 1 770 := ⟨zg_L_law_764.2.2.2.2.1, rfl⟩
theorem zd_L_law_770 : zz_D zy_law_L 770 (.iload 4) 2 772 := ⟨zg_L_law_764.2.2.2.2.2.1, rfl⟩
theorem zd_L_law_772 : zz_D zy_law_L 772 (.iconst 3) 1 773 := ⟨zg_L_law_764.2.2.2.2.2.2.1, rfl⟩
theorem zd_L_law_773 : zz_D zy_law_L 773 (.iadd) 1 774 := ⟨zg_L_law_764.2.2.2.2.2.2.2.1, rfl⟩
theorem zd_L_law_774 : zz_D zy_law_L 774 (.iaload) 1 775 := ⟨zg_L_law_764.2.2.2.2.2.2.2.2.1, rfl⟩
theorem zd_L_law_775 : zz_D zy_law_L 775 (.invokevirtual 167) 3 778 := ⟨zg_L_law_764.2.2.2.2.2.2.2.2.2, rfl⟩
theorem zg_L_law_778 : (decode zy_law_L.2.1 778 = .ok (Instr.goto 413, 3)) ∧ (decode zy_law_L.2.1 781 = .ok ((.aload_n 1), 1)) ∧ (decode zy_law_L.2.1 782 = .ok ((.aload_n 0), 1)) ∧ (decode zy_law_L.2.1 783 = .ok ((.iload 4), 2)) ∧ (decode zy_law_L.2.1 785 = .ok ((.iconst 1), 1)) ∧ (decode zy_law_L.2.1 786 = .ok ((.iadd), 1)) ∧ (decode zy_law_L.2.1 787 = .ok ((.iaload), 1)) ∧ (decode zy_law_L.2.1 788 = .ok ((.aload_n 0), 1)) ∧ (decode zy_law_L.2.1 789 = .ok ((.iload 4), 2)) ∧ (decode zy_law_L.2.1 791 = .ok ((.iconst 2), 1)) := by decide +kernel
theorem zd_L_law_778 : zz_B zy_law_L 778 Instr.goto 1191 781 := ⟨413, zg_L_law_778.1, rfl, rfl⟩
theorem zd_L_law_781 : zz_D zy_law_L 781 (.aload_n 1) 1 782 := ⟨zg_L_law_778.2.1, rfl⟩
theorem zd_L_law_782 : zz_D zy_law_L 782 (.aload_n 0) 1 783 := ⟨zg_L_law_778.2.2.1, rfl⟩
theorem zd_L_law_783 : zz_D zy_law_L 783 (.iload 4) 2 785 := ⟨zg_L_law_778.2.2.2.1, rfl⟩
theorem zd_L_law_785 : zz_D zy_law_L 785 (.iconst 1) 1 786 := ⟨zg_L_law_778.2.2.2.2.1, rfl⟩
theorem zd_L_law_786 : zz_D zy_law_L 786 (.iadd) 1 787 := ⟨zg_L_law_778.2.2.2.2.2.1, rfl⟩
theorem zd_L_law_787 : zz_D zy_law_L 787 (.iaload) 1 788 := ⟨zg_L_law_778.2.2.2.2.2.2.1, rfl⟩
theorem zd_L_law_788 : zz_D zy_law_L 788 (.aload_n 0) 1 789 := ⟨zg_L_law_778.2.2.2.2.2.2.2.1, rfl⟩
theorem zd_L_law_789 : zz_D zy_law_L 789 (.iload 4) 2 791 := ⟨zg_L_law_778.2.2.2.2.2.2.2.2.1, rfl⟩
theorem zd_L_law_791 : zz_D zy_law_L 791 (.iconst 2) 1 792 := ⟨zg_L_law_778.2.2.2.2.2.2.2.2.2, rfl⟩
theorem zg_L_law_792 : (decode zy_law_L.2.1 792 = .ok ((.iadd), 1)) ∧ (decode zy_law_L.2.1 793 = .ok ((.iaload), 1)) ∧ (decode zy_law_L.2.1 794 = .ok ((.aload_n 0), 1)) ∧ (decode zy_law_L.2.1 795 = .ok ((.iload 4), 2)) ∧ (decode zy_law_L.2.1 797 = .ok ((.iconst 3), 1)) ∧ (decode zy_law_L.2.1 798 = .ok ((.iadd), 1)) ∧ (decode zy_law_L.2.1 799 = .ok ((.iaload), 1)) ∧ (decode zy_law_L.2.1 800 = .ok ((.aload_n 0), 1)) ∧ (decode zy_law_L.2.1 801 = .ok ((.iload 4), 2)) ∧ (decode zy_law_L.2.1 803 = .ok ((.iconst 4), 1)) := by decide +kernel
theorem zd_L_law_792 : zz_D zy_law_L 792 (.iadd) 1 793 := ⟨zg_L_law_792.1, rfl⟩
theorem zd_L_law_793 : zz_D zy_law_L 793 (.iaload) 1 794 := ⟨zg_L_law_792.2.1, rfl⟩
theorem zd_L_law_794 : zz_D zy_law_L 794 (.aload_n 0) 1 795 := ⟨zg_L_law_792.2.2.1, rfl⟩
theorem zd_L_law_795 : zz_D zy_law_L 795 (.iload 4) 2 797 := ⟨zg_L_law_792.2.2.2.1, rfl⟩
theorem zd_L_law_797 : zz_D zy_law_L 797 (.iconst 3) 1 798 := ⟨zg_L_law_792.2.2.2.2.1, rfl⟩
theorem zd_L_law_798 : zz_D zy_law_L 798 (.iadd) 1 799 := ⟨zg_L_law_792.2.2.2.2.2.1, rfl⟩
theorem zd_L_law_799 : zz_D zy_law_L 799 (.iaload) 1 800 := ⟨zg_L_law_792.2.2.2.2.2.2.1, rfl⟩
theorem zd_L_law_800 : zz_D zy_law_L 800 (.aload_n 0) 1 801 := ⟨zg_L_law_792.2.2.2.2.2.2.2.1, rfl⟩
theorem zd_L_law_801 : zz_D zy_law_L 801 (.iload 4) 2 803 := ⟨zg_L_law_792.2.2.2.2.2.2.2.2.1, rfl⟩
theorem zd_L_law_803 : zz_D zy_law_L 803 (.iconst 4) 1 804 := ⟨zg_L_law_792.2.2.2.2.2.2.2.2.2, rfl⟩
theorem zg_L_law_804 : (decode zy_law_L.2.1 804 = .ok ((.iadd), 1)) ∧ (decode zy_law_L.2.1 805 = .ok ((.iaload), 1)) ∧ (decode zy_law_L.2.1 806 = .ok ((.aload_n 0), 1)) ∧ (decode zy_law_L.2.1 807 = .ok ((.iload 4), 2)) ∧ (decode zy_law_L.2.1 809 = .ok ((.iconst 5), 1)) ∧ (decode zy_law_L.2.1 810 = .ok ((.iadd), 1)) ∧ (decode zy_law_L.2.1 811 = .ok ((.iaload), 1)) ∧ (decode zy_law_L.2.1 812 = .ok ((.aload_n 0), 1)) ∧ (decode zy_law_L.2.1 813 = .ok ((.iload 4), 2)) ∧ (decode zy_law_L.2.1 815 = .ok ((.bipush 6), 2)) := by decide +kernel
theorem zd_L_law_804 : zz_D zy_law_L 804 (.iadd) 1 805 := ⟨zg_L_law_804.1, rfl⟩
theorem zd_L_law_805 : zz_D zy_law_L 805 (.iaload) 1 806 := ⟨zg_L_law_804.2.1, rfl⟩
theorem zd_L_law_806 : zz_D zy_law_L 806 (.aload_n 0) 1 807 := ⟨zg_L_law_804.2.2.1, rfl⟩
theorem zd_L_law_807 : zz_D zy_law_L 807 (.iload 4) 2 809 := ⟨zg_L_law_804.2.2.2.1, rfl⟩
theorem zd_L_law_809 : zz_D zy_law_L 809 (.iconst 5) 1 810 := ⟨zg_L_law_804.2.2.2.2.1, rfl⟩
theorem zd_L_law_810 : zz_D zy_law_L 810 (.iadd) 1 811 := ⟨zg_L_law_804.2.2.2.2.2.1, rfl⟩
theorem zd_L_law_811 : zz_D zy_law_L 811 (.iaload) 1 812 := ⟨zg_L_law_804.2.2.2.2.2.2.1, rfl⟩
theorem zd_L_law_812 : zz_D zy_law_L 812 (.aload_n 0) 1 813 := ⟨zg_L_law_804.2.2.2.2.2.2.2.1, rfl⟩
theorem zd_L_law_813 : zz_D zy_law_L 813 (.iload 4) 2 815 := ⟨zg_L_law_804.2.2.2.2.2.2.2.2.1, rfl⟩
theorem zd_L_law_815 : zz_D zy_law_L 815 (.bipush 6) 2 817 := ⟨zg_L_law_804.2.2.2.2.2.2.2.2.2, rfl⟩
theorem zg_L_law_817 : (decode zy_law_L.2.1 817 = .ok ((.iadd), 1)) ∧ (decode zy_law_L.2.1 818 = .ok ((.iaload), 1)) ∧ (decode zy_law_L.2.1 819 = .ok ((.aload_n 3), 1)) ∧ (decode zy_law_L.2.1 820 = .ok ((.invokestatic 168), 3)) ∧ (decode zy_law_L.2.1 823 = .ok ((.istore 5), 2)) ∧ (decode zy_law_L.2.1 825 = .ok ((.aload_n 2), 1)) ∧ (decode zy_law_L.2.1 826 = .ok ((.aload_n 0), 1)) ∧ (decode zy_law_L.2.1 827 = .ok ((.iload 4), 2)) ∧ (decode zy_law_L.2.1 829 = .ok ((.iconst 1), 1)) ∧ (decode zy_law_L.2.1 830 = .ok ((.iadd), 1)) := by decide +kernel
theorem zd_L_law_817 : zz_D zy_law_L 817 (.iadd) 1 818 := ⟨zg_L_law_817.1, rfl⟩
theorem zd_L_law_818 : zz_D zy_law_L 818 (.iaload) 1 819 := ⟨zg_L_law_817.2.1, rfl⟩
theorem zd_L_law_819 : zz_D zy_law_L 819 (.aload_n 3) 1 820 := ⟨zg_L_law_817.2.2.1, rfl⟩
theorem zd_L_law_820 : zz_D zy_law_L 820 (.invokestatic 168) 3 823 := ⟨zg_L_law_817.2.2.2.1, rfl⟩
theorem zd_L_law_823 : zz_D zy_law_L 823 (.istore 5) 2 825 := ⟨zg_L_law_817.2.2.2.2.1, rfl⟩
theorem zd_L_law_825 : zz_D zy_law_L 825 (.aload_n 2) 1 826 := ⟨zg_L_law_817.2.2.2.2.2.1, rfl⟩
theorem zd_L_law_826 : zz_D zy_law_L 826 (.aload_n 0) 1 827 := ⟨zg_L_law_817.2.2.2.2.2.2.1, rfl⟩
theorem zd_L_law_827 : zz_D zy_law_L 827 (.iload 4) 2 829 := ⟨zg_L_law_817.2.2.2.2.2.2.2.1, rfl⟩
theorem zd_L_law_829 : zz_D zy_law_L 829 (.iconst 1) 1 830 := ⟨zg_L_law_817.2.2.2.2.2.2.2.2.1, rfl⟩
theorem zd_L_law_830 : zz_D zy_law_L 830 (.iadd) 1 831 := ⟨zg_L_law_817.2.2.2.2.2.2.2.2.2, rfl⟩
theorem zg_L_law_831 : (decode zy_law_L.2.1 831 = .ok ((.iaload), 1)) ∧ (decode zy_law_L.2.1 832 = .ok ((.aload_n 0), 1)) ∧ (decode zy_law_L.2.1 833 = .ok ((.iload 4), 2)) ∧ (decode zy_law_L.2.1 835 = .ok ((.iconst 2), 1)) ∧ (decode zy_law_L.2.1 836 = .ok ((.iadd), 1)) ∧ (decode zy_law_L.2.1 837 = .ok ((.iaload), 1)) ∧ (decode zy_law_L.2.1 838 = .ok ((.aload_n 0), 1)) ∧ (decode zy_law_L.2.1 839 = .ok ((.iload 4), 2)) ∧ (decode zy_law_L.2.1 841 = .ok ((.iconst 3), 1)) ∧ (decode zy_law_L.2.1 842 = .ok ((.iadd), 1)) := by decide +kernel
theorem zd_L_law_831 : zz_D zy_law_L 831 (.iaload) 1 832 := ⟨zg_L_law_831.1, rfl⟩
theorem zd_L_law_832 : zz_D zy_law_L 832 (.aload_n 0) 1 833 := ⟨zg_L_law_831.2.1, rfl⟩
theorem zd_L_law_833 : zz_D zy_law_L 833 (.iload 4) 2 835 := ⟨zg_L_law_831.2.2.1, rfl⟩
theorem zd_L_law_835 : zz_D zy_law_L 835 (.iconst 2) 1 836 := ⟨zg_L_law_831.2.2.2.1, rfl⟩
theorem zd_L_law_836 : zz_D zy_law_L 836 (.iadd) 1 837 := ⟨zg_L_law_831.2.2.2.2.1, rfl⟩
theorem zd_L_law_837 : zz_D zy_law_L 837 (.iaload) 1 838 := ⟨zg_L_law_831.2.2.2.2.2.1, rfl⟩
theorem zd_L_law_838 : zz_D zy_law_L 838 (.aload_n 0) 1 839 := ⟨zg_L_law_831.2.2.2.2.2.2.1, rfl⟩
theorem zd_L_law_839 : zz_D zy_law_L 839 (.iload 4) 2 841 := ⟨zg_L_law_831.2.2.2.2.2.2.2.1, rfl⟩
theorem zd_L_law_841 : zz_D zy_law_L 841 (.iconst 3) 1 842 := ⟨zg_L_law_831.2.2.2.2.2.2.2.2.1, rfl⟩
theorem zd_L_law_842 : zz_D zy_law_L 842 (.iadd) 1 843 := ⟨zg_L_law_831.2.2.2.2.2.2.2.2.2, rfl⟩
theorem zg_L_law_843 : (decode zy_law_L.2.1 843 = .ok ((.iaload), 1)) ∧ (decode zy_law_L.2.1 844 = .ok ((.aload_n 0), 1)) ∧ (decode zy_law_L.2.1 845 = .ok ((.iload 4), 2)) ∧ (decode zy_law_L.2.1 847 = .ok ((.iconst 4), 1)) ∧ (decode zy_law_L.2.1 848 = .ok ((.iadd), 1)) ∧ (decode zy_law_L.2.1 849 = .ok ((.iaload), 1)) ∧ (decode zy_law_L.2.1 850 = .ok ((.aload_n 0), 1)) ∧ (decode zy_law_L.2.1 851 = .ok ((.iload 4), 2)) ∧ (decode zy_law_L.2.1 853 = .ok ((.iconst 5), 1)) ∧ (decode zy_law_L.2.1 854 = .ok ((.iadd), 1)) := by decide +kernel
theorem zd_L_law_843 : zz_D zy_law_L 843 (.iaload) 1 844 := ⟨zg_L_law_843.1, rfl⟩
theorem zd_L_law_844 : zz_D zy_law_L 844 (.aload_n 0) 1 845 := ⟨zg_L_law_843.2.1, rfl⟩
theorem zd_L_law_845 : zz_D zy_law_L 845 (.iload 4) 2 847 := ⟨zg_L_law_843.2.2.1, rfl⟩
theorem zd_L_law_847 : zz_D zy_law_L 847 (.iconst 4) 1 848 := ⟨zg_L_law_843.2.2.2.1, rfl⟩
theorem zd_L_law_848 : zz_D zy_law_L 848 (.iadd) 1 849 := ⟨zg_L_law_843.2.2.2.2.1, rfl⟩
theorem zd_L_law_849 : zz_D zy_law_L 849 (.iaload) 1 850 := ⟨zg_L_law_843.2.2.2.2.2.1, rfl⟩
theorem zd_L_law_850 : zz_D zy_law_L 850 (.aload_n 0) 1 851 := ⟨zg_L_law_843.2.2.2.2.2.2.1, rfl⟩
theorem zd_L_law_851 : zz_D zy_law_L 851 (.iload 4) 2 853 := ⟨zg_L_law_843.2.2.2.2.2.2.2.1, rfl⟩
theorem zd_L_law_853 : zz_D zy_law_L 853 (.iconst 5) 1 854 := ⟨zg_L_law_843.2.2.2.2.2.2.2.2.1, rfl⟩
theorem zd_L_law_854 : zz_D zy_law_L 854 (.iadd) 1 855 := ⟨zg_L_law_843.2.2.2.2.2.2.2.2.2, rfl⟩
theorem zg_L_law_855 : (decode zy_law_L.2.1 855 = .ok ((.iaload), 1)) ∧ (decode zy_law_L.2.1 856 = .ok ((.aload_n 0), 1)) ∧ (decode zy_law_L.2.1 857 = .ok ((.iload 4), 2)) ∧ (decode zy_law_L.2.1 859 = .ok ((.bipush 6), 2)) ∧ (decode zy_law_L.2.1 861 = .ok ((.iadd), 1)) ∧ (decode zy_law_L.2.1 862 = .ok ((.iaload), 1)) ∧ (decode zy_law_L.2.1 863 = .ok ((.invokevirtual 171), 3)) ∧ (decode zy_law_L.2.1 866 = .ok ((.istore 6), 2)) ∧ (decode zy_law_L.2.1 868 = .ok (Instr.goto 323, 3)) ∧ (decode zy_law_L.2.1 871 = .ok ((.aload_n 1), 1)) := by decide +kernel
theorem zd_L_law_855 : zz_D zy_law_L 855 (.iaload) 1 856 := ⟨zg_L_law_855.1, rfl⟩
theorem zd_L_law_856 : zz_D zy_law_L 856 (.aload_n 0) 1 857 := ⟨zg_L_law_855.2.1, rfl⟩
theorem zd_L_law_857 : zz_D zy_law_L 857 (.iload 4) 2 859 := ⟨zg_L_law_855.2.2.1, rfl⟩
theorem zd_L_law_859 : zz_D zy_law_L 859 (.bipush 6) 2 861 := ⟨zg_L_law_855.2.2.2.1, rfl⟩
theorem zd_L_law_861 : zz_D zy_law_L 861 (.iadd) 1 862 := ⟨zg_L_law_855.2.2.2.2.1, rfl⟩
theorem zd_L_law_862 : zz_D zy_law_L 862 (.iaload) 1 863 := ⟨zg_L_law_855.2.2.2.2.2.1, rfl⟩
theorem zd_L_law_863 : zz_D zy_law_L 863 (.invokevirtual 171) 3 866 := ⟨zg_L_law_855.2.2.2.2.2.2.1, rfl⟩
theorem zd_L_law_866 : zz_D zy_law_L 866 (.istore 6) 2 868 := ⟨zg_L_law_855.2.2.2.2.2.2.2.1, rfl⟩
theorem zd_L_law_868 : zz_B zy_law_L 868 Instr.goto 1191 871 := ⟨323, zg_L_law_855.2.2.2.2.2.2.2.2.1, rfl, rfl⟩
theorem zd_L_law_871 : zz_D zy_law_L 871 (.aload_n 1) 1 872 := ⟨zg_L_law_855.2.2.2.2.2.2.2.2.2, rfl⟩
theorem zg_L_law_872 : (decode zy_law_L.2.1 872 = .ok ((.aload_n 0), 1)) ∧ (decode zy_law_L.2.1 873 = .ok ((.iload 4), 2)) ∧ (decode zy_law_L.2.1 875 = .ok ((.iconst 1), 1)) ∧ (decode zy_law_L.2.1 876 = .ok ((.iadd), 1)) ∧ (decode zy_law_L.2.1 877 = .ok ((.iaload), 1)) ∧ (decode zy_law_L.2.1 878 = .ok ((.aload_n 0), 1)) ∧ (decode zy_law_L.2.1 879 = .ok ((.iload 4), 2)) ∧ (decode zy_law_L.2.1 881 = .ok ((.iconst 2), 1)) ∧ (decode zy_law_L.2.1 882 = .ok ((.iadd), 1)) ∧ (decode zy_law_L.2.1 883 = .ok ((.iaload), 1)) := by decide +kernel
theorem zd_L_law_872 : zz_D zy_law_L 872 (.aload_n 0) 1 873 := ⟨zg_L_law_872.1, rfl⟩
theorem zd_L_law_873 : zz_D zy_law_L 873 (.iload 4) 2 875 := ⟨zg_L_law_872.2.1, rfl⟩
theorem zd_L_law_875 : zz_D zy_law_L 875 (.iconst 1) 1 876 := ⟨zg_L_law_872.2.2.1, rfl⟩
theorem zd_L_law_876 : zz_D zy_law_L 876 (.iadd) 1 877 := ⟨zg_L_law_872.2.2.2.1, rfl⟩
theorem zd_L_law_877 : zz_D zy_law_L 877 (.iaload) 1 878 := ⟨zg_L_law_872.2.2.2.2.1, rfl⟩
theorem zd_L_law_878 : zz_D zy_law_L 878 (.aload_n 0) 1 879 := ⟨zg_L_law_872.2.2.2.2.2.1, rfl⟩
theorem zd_L_law_879 : zz_D zy_law_L 879 (.iload 4) 2 881 := ⟨zg_L_law_872.2.2.2.2.2.2.1, rfl⟩
theorem zd_L_law_881 : zz_D zy_law_L 881 (.iconst 2) 1 882 := ⟨zg_L_law_872.2.2.2.2.2.2.2.1, rfl⟩
theorem zd_L_law_882 : zz_D zy_law_L 882 (.iadd) 1 883 := ⟨zg_L_law_872.2.2.2.2.2.2.2.2.1, rfl⟩
theorem zd_L_law_883 : zz_D zy_law_L 883 (.iaload) 1 884 := ⟨zg_L_law_872.2.2.2.2.2.2.2.2.2, rfl⟩
theorem zg_L_law_884 : (decode zy_law_L.2.1 884 = .ok ((.aload_n 0), 1)) ∧ (decode zy_law_L.2.1 885 = .ok ((.iload 4), 2)) ∧ (decode zy_law_L.2.1 887 = .ok ((.iconst 3), 1)) ∧ (decode zy_law_L.2.1 888 = .ok ((.iadd), 1)) ∧ (decode zy_law_L.2.1 889 = .ok ((.iaload), 1)) ∧ (decode zy_law_L.2.1 890 = .ok ((.aload_n 3), 1)) ∧ (decode zy_law_L.2.1 891 = .ok ((.invokestatic 172), 3)) ∧ (decode zy_law_L.2.1 894 = .ok ((.istore 5), 2)) ∧ (decode zy_law_L.2.1 896 = .ok ((.aload_n 2), 1)) ∧ (decode zy_law_L.2.1 897 = .ok ((.aload_n 0), 1)) := by decide +kernel
theorem zd_L_law_884 : zz_D zy_law_L 884 (.aload_n 0) 1 885 := ⟨zg_L_law_884.1, rfl⟩
theorem zd_L_law_885 : zz_D zy_law_L 885 (.iload 4) 2 887 := ⟨zg_L_law_884.2.1, rfl⟩
theorem zd_L_law_887 : zz_D zy_law_L 887 (.iconst 3) 1 888 := ⟨zg_L_law_884.2.2.1, rfl⟩
theorem zd_L_law_888 : zz_D zy_law_L 888 (.iadd) 1 889 := ⟨zg_L_law_884.2.2.2.1, rfl⟩
theorem zd_L_law_889 : zz_D zy_law_L 889 (.iaload) 1 890 := ⟨zg_L_law_884.2.2.2.2.1, rfl⟩
theorem zd_L_law_890 : zz_D zy_law_L 890 (.aload_n 3) 1 891 := ⟨zg_L_law_884.2.2.2.2.2.1, rfl⟩
theorem zd_L_law_891 : zz_D zy_law_L 891 (.invokestatic 172) 3 894 := ⟨zg_L_law_884.2.2.2.2.2.2.1, rfl⟩
theorem zd_L_law_894 : zz_D zy_law_L 894 (.istore 5) 2 896 := ⟨zg_L_law_884.2.2.2.2.2.2.2.1, rfl⟩
theorem zd_L_law_896 : zz_D zy_law_L 896 (.aload_n 2) 1 897 := ⟨zg_L_law_884.2.2.2.2.2.2.2.2.1, rfl⟩
theorem zd_L_law_897 : zz_D zy_law_L 897 (.aload_n 0) 1 898 := ⟨zg_L_law_884.2.2.2.2.2.2.2.2.2, rfl⟩
theorem zg_L_law_898 : (decode zy_law_L.2.1 898 = .ok ((.iload 4), 2)) ∧ (decode zy_law_L.2.1 900 = .ok ((.iconst 1), 1)) ∧ (decode zy_law_L.2.1 901 = .ok ((.iadd), 1)) ∧ (decode zy_law_L.2.1 902 = .ok ((.iaload), 1)) ∧ (decode zy_law_L.2.1 903 = .ok ((.aload_n 0), 1)) ∧ (decode zy_law_L.2.1 904 = .ok ((.iload 4), 2)) ∧ (decode zy_law_L.2.1 906 = .ok ((.iconst 2), 1)) ∧ (decode zy_law_L.2.1 907 = .ok ((.iadd), 1)) ∧ (decode zy_law_L.2.1 908 = .ok ((.iaload), 1)) ∧ (decode zy_law_L.2.1 909 = .ok ((.aload_n 0), 1)) := by decide +kernel
theorem zd_L_law_898 : zz_D zy_law_L 898 (.iload 4) 2 900 := ⟨zg_L_law_898.1, rfl⟩
theorem zd_L_law_900 : zz_D zy_law_L 900 (.iconst 1) 1 901 := ⟨zg_L_law_898.2.1, rfl⟩
theorem zd_L_law_901 : zz_D zy_law_L 901 (.iadd) 1 902 := ⟨zg_L_law_898.2.2.1, rfl⟩
theorem zd_L_law_902 : zz_D zy_law_L 902 (.iaload) 1 903 := ⟨zg_L_law_898.2.2.2.1, rfl⟩
theorem zd_L_law_903 : zz_D zy_law_L 903 (.aload_n 0) 1 904 := ⟨zg_L_law_898.2.2.2.2.1, rfl⟩
theorem zd_L_law_904 : zz_D zy_law_L 904 (.iload 4) 2 906 := ⟨zg_L_law_898.2.2.2.2.2.1, rfl⟩
theorem zd_L_law_906 : zz_D zy_law_L 906 (.iconst 2) 1 907 := ⟨zg_L_law_898.2.2.2.2.2.2.1, rfl⟩
theorem zd_L_law_907 : zz_D zy_law_L 907 (.iadd) 1 908 := ⟨zg_L_law_898.2.2.2.2.2.2.2.1, rfl⟩
theorem zd_L_law_908 : zz_D zy_law_L 908 (.iaload) 1 909 := ⟨zg_L_law_898.2.2.2.2.2.2.2.2.1, rfl⟩
theorem zd_L_law_909 : zz_D zy_law_L 909 (.aload_n 0) 1 910 := ⟨zg_L_law_898.2.2.2.2.2.2.2.2.2, rfl⟩
theorem zg_L_law_910 : (decode zy_law_L.2.1 910 = .ok ((.iload 4), 2)) ∧ (decode zy_law_L.2.1 912 = .ok ((.iconst 3), 1)) ∧ (decode zy_law_L.2.1 913 = .ok ((.iadd), 1)) ∧ (decode zy_law_L.2.1 914 = .ok ((.iaload), 1)) ∧ (decode zy_law_L.2.1 915 = .ok ((.invokevirtual 175), 3)) ∧ (decode zy_law_L.2.1 918 = .ok ((.istore 6), 2)) ∧ (decode zy_law_L.2.1 920 = .ok (Instr.goto 271, 3)) ∧ (decode zy_law_L.2.1 923 = .ok ((.aload_n 1), 1)) ∧ (decode zy_law_L.2.1 924 = .ok ((.aload_n 0), 1)) ∧ (decode zy_law_L.2.1 925 = .ok ((.iload 4), 2)) := by decide +kernel
theorem zd_L_law_910 : zz_D zy_law_L 910 (.iload 4) 2 912 := ⟨zg_L_law_910.1, rfl⟩
theorem zd_L_law_912 : zz_D zy_law_L 912 (.iconst 3) 1 913 := ⟨zg_L_law_910.2.1, rfl⟩
theorem zd_L_law_913 : zz_D zy_law_L 913 (.iadd) 1 914 := ⟨zg_L_law_910.2.2.1, rfl⟩
theorem zd_L_law_914 : zz_D zy_law_L 914 (.iaload) 1 915 := ⟨zg_L_law_910.2.2.2.1, rfl⟩
theorem zd_L_law_915 : zz_D zy_law_L 915 (.invokevirtual 175) 3 918 := ⟨zg_L_law_910.2.2.2.2.1, rfl⟩
theorem zd_L_law_918 : zz_D zy_law_L 918 (.istore 6) 2 920 := ⟨zg_L_law_910.2.2.2.2.2.1, rfl⟩
theorem zd_L_law_920 : zz_B zy_law_L 920 Instr.goto 1191 923 := ⟨271, zg_L_law_910.2.2.2.2.2.2.1, rfl, rfl⟩
theorem zd_L_law_923 : zz_D zy_law_L 923 (.aload_n 1) 1 924 := ⟨zg_L_law_910.2.2.2.2.2.2.2.1, rfl⟩
theorem zd_L_law_924 : zz_D zy_law_L 924 (.aload_n 0) 1 925 := ⟨zg_L_law_910.2.2.2.2.2.2.2.2.1, rfl⟩
theorem zd_L_law_925 : zz_D zy_law_L 925 (.iload 4) 2 927 := ⟨zg_L_law_910.2.2.2.2.2.2.2.2.2, rfl⟩
theorem zg_L_law_927 : (decode zy_law_L.2.1 927 = .ok ((.iconst 1), 1)) ∧ (decode zy_law_L.2.1 928 = .ok ((.iadd), 1)) ∧ (decode zy_law_L.2.1 929 = .ok ((.iaload), 1)) ∧ (decode zy_law_L.2.1 930 = .ok ((.aload_n 0), 1)) ∧ (decode zy_law_L.2.1 931 = .ok ((.iload 4), 2)) ∧ (decode zy_law_L.2.1 933 = .ok ((.iconst 2), 1)) ∧ (decode zy_law_L.2.1 934 = .ok ((.iadd), 1)) ∧ (decode zy_law_L.2.1 935 = .ok ((.iaload), 1)) ∧ (decode zy_law_L.2.1 936 = .ok ((.aload_n 0), 1)) ∧ (decode zy_law_L.2.1 937 = .ok ((.iload 4), 2)) := by decide +kernel
theorem zd_L_law_927 : zz_D zy_law_L 927 (.iconst 1) 1 928 := ⟨zg_L_law_927.1, rfl⟩
theorem zd_L_law_928 : zz_D zy_law_L 928 (.iadd) 1 929 := ⟨zg_L_law_927.2.1, rfl⟩
theorem zd_L_law_929 : zz_D zy_law_L 929 (.iaload) 1 930 := ⟨zg_L_law_927.2.2.1, rfl⟩
theorem zd_L_law_930 : zz_D zy_law_L 930 (.aload_n 0) 1 931 := ⟨zg_L_law_927.2.2.2.1, rfl⟩
theorem zd_L_law_931 : zz_D zy_law_L 931 (.iload 4) 2 933 := ⟨zg_L_law_927.2.2.2.2.1, rfl⟩
theorem zd_L_law_933 : zz_D zy_law_L 933 (.iconst 2) 1 934 := ⟨zg_L_law_927.2.2.2.2.2.1, rfl⟩
theorem zd_L_law_934 : zz_D zy_law_L 934 (.iadd) 1 935 := ⟨zg_L_law_927.2.2.2.2.2.2.1, rfl⟩
theorem zd_L_law_935 : zz_D zy_law_L 935 (.iaload) 1 936 := ⟨zg_L_law_927.2.2.2.2.2.2.2.1, rfl⟩
theorem zd_L_law_936 : zz_D zy_law_L 936 (.aload_n 0) 1 937 := ⟨zg_L_law_927.2.2.2.2.2.2.2.2.1, rfl⟩
theorem zd_L_law_937 : zz_D zy_law_L 937 (.iload 4) 2 939 := ⟨zg_L_law_927.2.2.2.2.2.2.2.2.2, rfl⟩
theorem zg_L_law_939 : (decode zy_law_L.2.1 939 = .ok ((.iconst 3), 1)) ∧ (decode zy_law_L.2.1 940 = .ok ((.iadd), 1)) ∧ (decode zy_law_L.2.1 941 = .ok ((.iaload), 1)) ∧ (decode zy_law_L.2.1 942 = .ok ((.aload_n 3), 1)) ∧ (decode zy_law_L.2.1 943 = .ok ((.invokestatic 176), 3)) ∧ (decode zy_law_L.2.1 946 = .ok ((.istore 5), 2)) ∧ (decode zy_law_L.2.1 948 = .ok ((.aload_n 2), 1)) ∧ (decode zy_law_L.2.1 949 = .ok ((.aload_n 0), 1)) ∧ (decode zy_law_L.2.1 950 = .ok ((.iload 4), 2)) ∧ (decode zy_law_L.2.1 952 = .ok ((.iconst 1), 1)) := by decide +kernel
theorem zd_L_law_939 : zz_D zy_law_L 939 (.iconst 3) 1 940 := ⟨zg_L_law_939.1, rfl⟩
theorem zd_L_law_940 : zz_D zy_law_L 940 (.iadd) 1 941 := ⟨zg_L_law_939.2.1, rfl⟩
theorem zd_L_law_941 : zz_D zy_law_L 941 (.iaload) 1 942 := ⟨zg_L_law_939.2.2.1, rfl⟩
theorem zd_L_law_942 : zz_D zy_law_L 942 (.aload_n 3) 1 943 := ⟨zg_L_law_939.2.2.2.1, rfl⟩
theorem zd_L_law_943 : zz_D zy_law_L 943 (.invokestatic 176) 3 946 := ⟨zg_L_law_939.2.2.2.2.1, rfl⟩
theorem zd_L_law_946 : zz_D zy_law_L 946 (.istore 5) 2 948 := ⟨zg_L_law_939.2.2.2.2.2.1, rfl⟩
theorem zd_L_law_948 : zz_D zy_law_L 948 (.aload_n 2) 1 949 := ⟨zg_L_law_939.2.2.2.2.2.2.1, rfl⟩
theorem zd_L_law_949 : zz_D zy_law_L 949 (.aload_n 0) 1 950 := ⟨zg_L_law_939.2.2.2.2.2.2.2.1, rfl⟩
theorem zd_L_law_950 : zz_D zy_law_L 950 (.iload 4) 2 952 := ⟨zg_L_law_939.2.2.2.2.2.2.2.2.1, rfl⟩
theorem zd_L_law_952 : zz_D zy_law_L 952 (.iconst 1) 1 953 := ⟨zg_L_law_939.2.2.2.2.2.2.2.2.2, rfl⟩
theorem zg_L_law_953 : (decode zy_law_L.2.1 953 = .ok ((.iadd), 1)) ∧ (decode zy_law_L.2.1 954 = .ok ((.iaload), 1)) ∧ (decode zy_law_L.2.1 955 = .ok ((.aload_n 0), 1)) ∧ (decode zy_law_L.2.1 956 = .ok ((.iload 4), 2)) ∧ (decode zy_law_L.2.1 958 = .ok ((.iconst 2), 1)) ∧ (decode zy_law_L.2.1 959 = .ok ((.iadd), 1)) ∧ (decode zy_law_L.2.1 960 = .ok ((.iaload), 1)) ∧ (decode zy_law_L.2.1 961 = .ok ((.aload_n 0), 1)) ∧ (decode zy_law_L.2.1 962 = .ok ((.iload 4), 2)) ∧ (decode zy_law_L.2.1 964 = .ok ((.iconst 3), 1)) := by decide +kernel
theorem zd_L_law_953 : zz_D zy_law_L 953 (.iadd) 1 954 := ⟨zg_L_law_953.1, rfl⟩
theorem zd_L_law_954 : zz_D zy_law_L 954 (.iaload) 1 955 := ⟨zg_L_law_953.2.1, rfl⟩
theorem zd_L_law_955 : zz_D zy_law_L 955 (.aload_n 0) 1 956 := ⟨zg_L_law_953.2.2.1, rfl⟩
theorem zd_L_law_956 : zz_D zy_law_L 956 (.iload 4) 2 958 := ⟨zg_L_law_953.2.2.2.1, rfl⟩
theorem zd_L_law_958 : zz_D zy_law_L 958 (.iconst 2) 1 959 := ⟨zg_L_law_953.2.2.2.2.1, rfl⟩
theorem zd_L_law_959 : zz_D zy_law_L 959 (.iadd) 1 960 := ⟨zg_L_law_953.2.2.2.2.2.1, rfl⟩
theorem zd_L_law_960 : zz_D zy_law_L 960 (.iaload) 1 961 := ⟨zg_L_law_953.2.2.2.2.2.2.1, rfl⟩
theorem zd_L_law_961 : zz_D zy_law_L 961 (.aload_n 0) 1 962 := ⟨zg_L_law_953.2.2.2.2.2.2.2.1, rfl⟩
theorem zd_L_law_962 : zz_D zy_law_L 962 (.iload 4) 2 964 := ⟨zg_L_law_953.2.2.2.2.2.2.2.2.1, rfl⟩
theorem zd_L_law_964 : zz_D zy_law_L 964 (.iconst 3) 1 965 := ⟨zg_L_law_953.2.2.2.2.2.2.2.2.2, rfl⟩
theorem zg_L_law_965 : (decode zy_law_L.2.1 965 = .ok ((.iadd), 1)) ∧ (decode zy_law_L.2.1 966 = .ok ((.iaload), 1)) ∧ (decode zy_law_L.2.1 967 = .ok ((.invokevirtual 178), 3)) ∧ (decode zy_law_L.2.1 970 = .ok ((.istore 6), 2)) ∧ (decode zy_law_L.2.1 972 = .ok (Instr.goto 219, 3)) ∧ (decode zy_law_L.2.1 975 = .ok ((.aload_n 1), 1)) ∧ (decode zy_law_L.2.1 976 = .ok ((.aload_n 0), 1)) ∧ (decode zy_law_L.2.1 977 = .ok ((.iload 4), 2)) ∧ (decode zy_law_L.2.1 979 = .ok ((.iconst 1), 1)) ∧ (decode zy_law_L.2.1 980 = .ok ((.iadd), 1)) := by decide +kernel
theorem zd_L_law_965 : zz_D zy_law_L 965 (.iadd) 1 966 := ⟨zg_L_law_965.1, rfl⟩
theorem zd_L_law_966 : zz_D zy_law_L 966 (.iaload) 1 967 := ⟨zg_L_law_965.2.1, rfl⟩
theorem zd_L_law_967 : zz_D zy_law_L 967 (.invokevirtual 178) 3 970 := ⟨zg_L_law_965.2.2.1, rfl⟩
theorem zd_L_law_970 : zz_D zy_law_L 970 (.istore 6) 2 972 := ⟨zg_L_law_965.2.2.2.1, rfl⟩
theorem zd_L_law_972 : zz_B zy_law_L 972 Instr.goto 1191 975 := ⟨219, zg_L_law_965.2.2.2.2.1, rfl, rfl⟩
theorem zd_L_law_975 : zz_D zy_law_L 975 (.aload_n 1) 1 976 := ⟨zg_L_law_965.2.2.2.2.2.1, rfl⟩
theorem zd_L_law_976 : zz_D zy_law_L 976 (.aload_n 0) 1 977 := ⟨zg_L_law_965.2.2.2.2.2.2.1, rfl⟩
theorem zd_L_law_977 : zz_D zy_law_L 977 (.iload 4) 2 979 := ⟨zg_L_law_965.2.2.2.2.2.2.2.1, rfl⟩
theorem zd_L_law_979 : zz_D zy_law_L 979 (.iconst 1) 1 980 := ⟨zg_L_law_965.2.2.2.2.2.2.2.2.1, rfl⟩
theorem zd_L_law_980 : zz_D zy_law_L 980 (.iadd) 1 981 := ⟨zg_L_law_965.2.2.2.2.2.2.2.2.2, rfl⟩
theorem zg_L_law_981 : (decode zy_law_L.2.1 981 = .ok ((.iaload), 1)) ∧ (decode zy_law_L.2.1 982 = .ok ((.aload_n 0), 1)) ∧ (decode zy_law_L.2.1 983 = .ok ((.iload 4), 2)) ∧ (decode zy_law_L.2.1 985 = .ok ((.iconst 2), 1)) ∧ (decode zy_law_L.2.1 986 = .ok ((.iadd), 1)) ∧ (decode zy_law_L.2.1 987 = .ok ((.iaload), 1)) ∧ (decode zy_law_L.2.1 988 = .ok ((.aload_n 3), 1)) ∧ (decode zy_law_L.2.1 989 = .ok ((.invokestatic 179), 3)) ∧ (decode zy_law_L.2.1 992 = .ok ((.istore 5), 2)) ∧ (decode zy_law_L.2.1 994 = .ok ((.aload_n 2), 1)) := by decide +kernel
theorem zd_L_law_981 : zz_D zy_law_L 981 (.iaload) 1 982 := ⟨zg_L_law_981.1, rfl⟩
theorem zd_L_law_982 : zz_D zy_law_L 982 (.aload_n 0) 1 983 := ⟨zg_L_law_981.2.1, rfl⟩
theorem zd_L_law_983 : zz_D zy_law_L 983 (.iload 4) 2 985 := ⟨zg_L_law_981.2.2.1, rfl⟩
theorem zd_L_law_985 : zz_D zy_law_L 985 (.iconst 2) 1 986 := ⟨zg_L_law_981.2.2.2.1, rfl⟩
theorem zd_L_law_986 : zz_D zy_law_L 986 (.iadd) 1 987 := ⟨zg_L_law_981.2.2.2.2.1, rfl⟩
theorem zd_L_law_987 : zz_D zy_law_L 987 (.iaload) 1 988 := ⟨zg_L_law_981.2.2.2.2.2.1, rfl⟩
theorem zd_L_law_988 : zz_D zy_law_L 988 (.aload_n 3) 1 989 := ⟨zg_L_law_981.2.2.2.2.2.2.1, rfl⟩
theorem zd_L_law_989 : zz_D zy_law_L 989 (.invokestatic 179) 3 992 := ⟨zg_L_law_981.2.2.2.2.2.2.2.1, rfl⟩
theorem zd_L_law_992 : zz_D zy_law_L 992 (.istore 5) 2 994 := ⟨zg_L_law_981.2.2.2.2.2.2.2.2.1, rfl⟩
theorem zd_L_law_994 : zz_D zy_law_L 994 (.aload_n 2) 1 995 := ⟨zg_L_law_981.2.2.2.2.2.2.2.2.2, rfl⟩
theorem zg_L_law_995 : (decode zy_law_L.2.1 995 = .ok ((.aload_n 0), 1)) ∧ (decode zy_law_L.2.1 996 = .ok ((.iload 4), 2)) ∧ (decode zy_law_L.2.1 998 = .ok ((.iconst 1), 1)) ∧ (decode zy_law_L.2.1 999 = .ok ((.iadd), 1)) ∧ (decode zy_law_L.2.1 1000 = .ok ((.iaload), 1)) ∧ (decode zy_law_L.2.1 1001 = .ok ((.aload_n 0), 1)) ∧ (decode zy_law_L.2.1 1002 = .ok ((.iload 4), 2)) ∧ (decode zy_law_L.2.1 1004 = .ok ((.iconst 2), 1)) ∧ (decode zy_law_L.2.1 1005 = .ok ((.iadd), 1)) ∧ (decode zy_law_L.2.1 1006 = .ok ((.iaload), 1)) := by decide +kernel
theorem zd_L_law_995 : zz_D zy_law_L 995 (.aload_n 0) 1 996 := ⟨zg_L_law_995.1, rfl⟩
theorem zd_L_law_996 : zz_D zy_law_L 996 (.iload 4) 2 998 := ⟨zg_L_law_995.2.1, rfl⟩
theorem zd_L_law_998 : zz_D zy_law_L 998 (.iconst 1) 1 999 := ⟨zg_L_law_995.2.2.1, rfl⟩
theorem zd_L_law_999 : zz_D zy_law_L 999 (.iadd) 1 1000 := ⟨zg_L_law_995.2.2.2.1, rfl⟩
theorem zd_L_law_1000 : zz_D zy_law_L 1000 (.iaload) 1 1001 := ⟨zg_L_law_995.2.2.2.2.1, rfl⟩
theorem zd_L_law_1001 : zz_D zy_law_L 1001 (.aload_n 0) 1 1002 := ⟨zg_L_law_995.2.2.2.2.2.1, rfl⟩
theorem zd_L_law_1002 : zz_D zy_law_L 1002 (.iload 4) 2 1004 := ⟨zg_L_law_995.2.2.2.2.2.2.1, rfl⟩
theorem zd_L_law_1004 : zz_D zy_law_L 1004 (.iconst 2) 1 1005 := ⟨zg_L_law_995.2.2.2.2.2.2.2.1, rfl⟩
theorem zd_L_law_1005 : zz_D zy_law_L 1005 (.iadd) 1 1006 := ⟨zg_L_law_995.2.2.2.2.2.2.2.2.1, rfl⟩
theorem zd_L_law_1006 : zz_D zy_law_L 1006 (.iaload) 1 1007 := ⟨zg_L_law_995.2.2.2.2.2.2.2.2.2, rfl⟩
theorem zg_L_law_1007 : (decode zy_law_L.2.1 1007 = .ok ((.invokevirtual 181), 3)) ∧ (decode zy_law_L.2.1 1010 = .ok ((.istore 6), 2)) ∧ (decode zy_law_L.2.1 1012 = .ok (Instr.goto 179, 3)) ∧ (decode zy_law_L.2.1 1015 = .ok ((.aload_n 1), 1)) ∧ (decode zy_law_L.2.1 1016 = .ok ((.aload_n 3), 1)) ∧ (decode zy_law_L.2.1 1017 = .ok ((.invokestatic 182), 3)) ∧ (decode zy_law_L.2.1 1020 = .ok ((.istore 5), 2)) ∧ (decode zy_law_L.2.1 1022 = .ok ((.aload_n 2), 1)) ∧ (decode zy_law_L.2.1 1023 = .ok ((.invokevirtual 185), 3)) ∧ (decode zy_law_L.2.1 1026 = .ok ((.istore 6), 2)) := by decide +kernel
theorem zd_L_law_1007 : zz_D zy_law_L 1007 (.invokevirtual 181) 3 1010 := ⟨zg_L_law_1007.1, rfl⟩
theorem zd_L_law_1010 : zz_D zy_law_L 1010 (.istore 6) 2 1012 := ⟨zg_L_law_1007.2.1, rfl⟩
theorem zd_L_law_1012 : zz_B zy_law_L 1012 Instr.goto 1191 1015 := ⟨179, zg_L_law_1007.2.2.1, rfl, rfl⟩
theorem zd_L_law_1015 : zz_D zy_law_L 1015 (.aload_n 1) 1 1016 := ⟨zg_L_law_1007.2.2.2.1, rfl⟩
theorem zd_L_law_1016 : zz_D zy_law_L 1016 (.aload_n 3) 1 1017 := ⟨zg_L_law_1007.2.2.2.2.1, rfl⟩
theorem zd_L_law_1017 : zz_D zy_law_L 1017 (.invokestatic 182) 3 1020 := ⟨zg_L_law_1007.2.2.2.2.2.1, rfl⟩
theorem zd_L_law_1020 : zz_D zy_law_L 1020 (.istore 5) 2 1022 := ⟨zg_L_law_1007.2.2.2.2.2.2.1, rfl⟩
theorem zd_L_law_1022 : zz_D zy_law_L 1022 (.aload_n 2) 1 1023 := ⟨zg_L_law_1007.2.2.2.2.2.2.2.1, rfl⟩
theorem zd_L_law_1023 : zz_D zy_law_L 1023 (.invokevirtual 185) 3 1026 := ⟨zg_L_law_1007.2.2.2.2.2.2.2.2.1, rfl⟩
theorem zd_L_law_1026 : zz_D zy_law_L 1026 (.istore 6) 2 1028 := ⟨zg_L_law_1007.2.2.2.2.2.2.2.2.2, rfl⟩
theorem zg_L_law_1028 : (decode zy_law_L.2.1 1028 = .ok (Instr.goto 163, 3)) ∧ (decode zy_law_L.2.1 1031 = .ok ((.aload_n 1), 1)) ∧ (decode zy_law_L.2.1 1032 = .ok ((.invokevirtual 186), 3)) ∧ (decode zy_law_L.2.1 1035 = .ok ((.aload_n 2), 1)) ∧ (decode zy_law_L.2.1 1036 = .ok ((.invokevirtual 189), 3)) ∧ (decode zy_law_L.2.1 1039 = .ok (Instr.goto 152, 3)) ∧ (decode zy_law_L.2.1 1042 = .ok ((.aload_n 1), 1)) ∧ (decode zy_law_L.2.1 1043 = .ok ((.invokevirtual 190), 3)) ∧ (decode zy_law_L.2.1 1046 = .ok ((.pop), 1)) ∧ (decode zy_law_L.2.1 1047 = .ok ((.aload_n 2), 1)) := by decide +kernel
theorem zd_L_law_1028 : zz_B zy_law_L 1028 Instr.goto 1191 1031 := ⟨163, zg_L_law_1028.1, rfl, rfl⟩
theorem zd_L_law_1031 : zz_D zy_law_L 1031 (.aload_n 1) 1 1032 := ⟨zg_L_law_1028.2.1, rfl⟩
theorem zd_L_law_1032 : zz_D zy_law_L 1032 (.invokevirtual 186) 3 1035 := ⟨zg_L_law_1028.2.2.1, rfl⟩
theorem zd_L_law_1035 : zz_D zy_law_L 1035 (.aload_n 2) 1 1036 := ⟨zg_L_law_1028.2.2.2.1, rfl⟩
theorem zd_L_law_1036 : zz_D zy_law_L 1036 (.invokevirtual 189) 3 1039 := ⟨zg_L_law_1028.2.2.2.2.1, rfl⟩
theorem zd_L_law_1039 : zz_B zy_law_L 1039 Instr.goto 1191 1042 := ⟨152, zg_L_law_1028.2.2.2.2.2.1, rfl, rfl⟩
theorem zd_L_law_1042 : zz_D zy_law_L 1042 (.aload_n 1) 1 1043 := ⟨zg_L_law_1028.2.2.2.2.2.2.1, rfl⟩
theorem zd_L_law_1043 : zz_D zy_law_L 1043 (.invokevirtual 190) 3 1046 := ⟨zg_L_law_1028.2.2.2.2.2.2.2.1, rfl⟩
theorem zd_L_law_1046 : zz_D zy_law_L 1046 (.pop) 1 1047 := ⟨zg_L_law_1028.2.2.2.2.2.2.2.2.1, rfl⟩
theorem zd_L_law_1047 : zz_D zy_law_L 1047 (.aload_n 2) 1 1048 := ⟨zg_L_law_1028.2.2.2.2.2.2.2.2.2, rfl⟩
theorem zg_L_law_1048 : (decode zy_law_L.2.1 1048 = .ok ((.invokevirtual 193), 3)) ∧ (decode zy_law_L.2.1 1051 = .ok ((.pop), 1)) ∧ (decode zy_law_L.2.1 1052 = .ok (Instr.goto 139, 3)) ∧ (decode zy_law_L.2.1 1055 = .ok ((.aload_n 1), 1)) ∧ (decode zy_law_L.2.1 1056 = .ok ((.aload_n 0), 1)) ∧ (decode zy_law_L.2.1 1057 = .ok ((.iload 4), 2)) ∧ (decode zy_law_L.2.1 1059 = .ok ((.iconst 1), 1)) ∧ (decode zy_law_L.2.1 1060 = .ok ((.iadd), 1)) ∧ (decode zy_law_L.2.1 1061 = .ok ((.iaload), 1)) ∧ (decode zy_law_L.2.1 1062 = .ok ((.aload_n 0), 1)) := by decide +kernel
theorem zd_L_law_1048 : zz_D zy_law_L 1048 (.invokevirtual 193) 3 1051 := ⟨zg_L_law_1048.1, rfl⟩
theorem zd_L_law_1051 : zz_D zy_law_L 1051 (.pop) 1 1052 := ⟨zg_L_law_1048.2.1, rfl⟩
theorem zd_L_law_1052 : zz_B zy_law_L 1052 Instr.goto 1191 1055 := ⟨139, zg_L_law_1048.2.2.1, rfl, rfl⟩
theorem zd_L_law_1055 : zz_D zy_law_L 1055 (.aload_n 1) 1 1056 := ⟨zg_L_law_1048.2.2.2.1, rfl⟩
theorem zd_L_law_1056 : zz_D zy_law_L 1056 (.aload_n 0) 1 1057 := ⟨zg_L_law_1048.2.2.2.2.1, rfl⟩
theorem zd_L_law_1057 : zz_D zy_law_L 1057 (.iload 4) 2 1059 := ⟨zg_L_law_1048.2.2.2.2.2.1, rfl⟩
theorem zd_L_law_1059 : zz_D zy_law_L 1059 (.iconst 1) 1 1060 := ⟨zg_L_law_1048.2.2.2.2.2.2.1, rfl⟩
theorem zd_L_law_1060 : zz_D zy_law_L 1060 (.iadd) 1 1061 := ⟨zg_L_law_1048.2.2.2.2.2.2.2.1, rfl⟩
theorem zd_L_law_1061 : zz_D zy_law_L 1061 (.iaload) 1 1062 := ⟨zg_L_law_1048.2.2.2.2.2.2.2.2.1, rfl⟩
theorem zd_L_law_1062 : zz_D zy_law_L 1062 (.aload_n 0) 1 1063 := ⟨zg_L_law_1048.2.2.2.2.2.2.2.2.2, rfl⟩
theorem zg_L_law_1063 : (decode zy_law_L.2.1 1063 = .ok ((.iload 4), 2)) ∧ (decode zy_law_L.2.1 1065 = .ok ((.iconst 2), 1)) ∧ (decode zy_law_L.2.1 1066 = .ok ((.iadd), 1)) ∧ (decode zy_law_L.2.1 1067 = .ok ((.iaload), 1)) ∧ (decode zy_law_L.2.1 1068 = .ok ((.aload_n 3), 1)) ∧ (decode zy_law_L.2.1 1069 = .ok ((.invokestatic 194), 3)) ∧ (decode zy_law_L.2.1 1072 = .ok ((.istore 5), 2)) ∧ (decode zy_law_L.2.1 1074 = .ok ((.aload_n 2), 1)) ∧ (decode zy_law_L.2.1 1075 = .ok ((.aload_n 0), 1)) ∧ (decode zy_law_L.2.1 1076 = .ok ((.iload 4), 2)) := by decide +kernel
theorem zd_L_law_1063 : zz_D zy_law_L 1063 (.iload 4) 2 1065 := ⟨zg_L_law_1063.1, rfl⟩
theorem zd_L_law_1065 : zz_D zy_law_L 1065 (.iconst 2) 1 1066 := ⟨zg_L_law_1063.2.1, rfl⟩
theorem zd_L_law_1066 : zz_D zy_law_L 1066 (.iadd) 1 1067 := ⟨zg_L_law_1063.2.2.1, rfl⟩
theorem zd_L_law_1067 : zz_D zy_law_L 1067 (.iaload) 1 1068 := ⟨zg_L_law_1063.2.2.2.1, rfl⟩
theorem zd_L_law_1068 : zz_D zy_law_L 1068 (.aload_n 3) 1 1069 := ⟨zg_L_law_1063.2.2.2.2.1, rfl⟩
theorem zd_L_law_1069 : zz_D zy_law_L 1069 (.invokestatic 194) 3 1072 := ⟨zg_L_law_1063.2.2.2.2.2.1, rfl⟩
theorem zd_L_law_1072 : zz_D zy_law_L 1072 (.istore 5) 2 1074 := ⟨zg_L_law_1063.2.2.2.2.2.2.1, rfl⟩
theorem zd_L_law_1074 : zz_D zy_law_L 1074 (.aload_n 2) 1 1075 := ⟨zg_L_law_1063.2.2.2.2.2.2.2.1, rfl⟩
theorem zd_L_law_1075 : zz_D zy_law_L 1075 (.aload_n 0) 1 1076 := ⟨zg_L_law_1063.2.2.2.2.2.2.2.2.1, rfl⟩
theorem zd_L_law_1076 : zz_D zy_law_L 1076 (.iload 4) 2 1078 := ⟨zg_L_law_1063.2.2.2.2.2.2.2.2.2, rfl⟩
theorem zg_L_law_1078 : (decode zy_law_L.2.1 1078 = .ok ((.iconst 1), 1)) ∧ (decode zy_law_L.2.1 1079 = .ok ((.iadd), 1)) ∧ (decode zy_law_L.2.1 1080 = .ok ((.iaload), 1)) ∧ (decode zy_law_L.2.1 1081 = .ok ((.aload_n 0), 1)) ∧ (decode zy_law_L.2.1 1082 = .ok ((.iload 4), 2)) ∧ (decode zy_law_L.2.1 1084 = .ok ((.iconst 2), 1)) ∧ (decode zy_law_L.2.1 1085 = .ok ((.iadd), 1)) ∧ (decode zy_law_L.2.1 1086 = .ok ((.iaload), 1)) ∧ (decode zy_law_L.2.1 1087 = .ok ((.invokevirtual 196), 3)) ∧ (decode zy_law_L.2.1 1090 = .ok ((.istore 6), 2)) := by decide +kernel
theorem zd_L_law_1078 : zz_D zy_law_L 1078 (.iconst 1) 1 1079 := ⟨zg_L_law_1078.1, rfl⟩
theorem zd_L_law_1079 : zz_D zy_law_L 1079 (.iadd) 1 1080 := ⟨zg_L_law_1078.2.1, rfl⟩
theorem zd_L_law_1080 : zz_D zy_law_L 1080 (.iaload) 1 1081 := ⟨zg_L_law_1078.2.2.1, rfl⟩
theorem zd_L_law_1081 : zz_D zy_law_L 1081 (.aload_n 0) 1 1082 := ⟨zg_L_law_1078.2.2.2.1, rfl⟩
theorem zd_L_law_1082 : zz_D zy_law_L 1082 (.iload 4) 2 1084 := ⟨zg_L_law_1078.2.2.2.2.1, rfl⟩
theorem zd_L_law_1084 : zz_D zy_law_L 1084 (.iconst 2) 1 1085 := ⟨zg_L_law_1078.2.2.2.2.2.1, rfl⟩
theorem zd_L_law_1085 : zz_D zy_law_L 1085 (.iadd) 1 1086 := ⟨zg_L_law_1078.2.2.2.2.2.2.1, rfl⟩
theorem zd_L_law_1086 : zz_D zy_law_L 1086 (.iaload) 1 1087 := ⟨zg_L_law_1078.2.2.2.2.2.2.2.1, rfl⟩
theorem zd_L_law_1087 : zz_D zy_law_L 1087 (.invokevirtual 196) 3 1090 := ⟨zg_L_law_1078.2.2.2.2.2.2.2.2.1, rfl⟩
theorem zd_L_law_1090 : zz_D zy_law_L 1090 (.istore 6) 2 1092 := ⟨zg_L_law_1078.2.2.2.2.2.2.2.2.2, rfl⟩
theorem zg_L_law_1092 : (decode zy_law_L.2.1 1092 = .ok (Instr.goto 99, 3)) ∧ (decode zy_law_L.2.1 1095 = .ok ((.aload_n 1), 1)) ∧ (decode zy_law_L.2.1 1096 = .ok ((.aload_n 3), 1)) ∧ (decode zy_law_L.2.1 1097 = .ok ((.invokestatic 197), 3)) ∧ (decode zy_law_L.2.1 1100 = .ok ((.istore 5), 2)) ∧ (decode zy_law_L.2.1 1102 = .ok ((.aload_n 2), 1)) ∧ (decode zy_law_L.2.1 1103 = .ok ((.invokevirtual 199), 3)) ∧ (decode zy_law_L.2.1 1106 = .ok ((.istore 6), 2)) ∧ (decode zy_law_L.2.1 1108 = .ok (Instr.goto 83, 3)) ∧ (decode zy_law_L.2.1 1111 = .ok ((.aload_n 1), 1)) := by decide +kernel
theorem zd_L_law_1092 : zz_B zy_law_L 1092 Instr.goto 1191 1095 := ⟨99, zg_L_law_1092.1, rfl, rfl⟩
theorem zd_L_law_1095 : zz_D zy_law_L 1095 (.aload_n 1) 1 1096 := ⟨zg_L_law_1092.2.1, rfl⟩
theorem zd_L_law_1096 : zz_D zy_law_L 1096 (.aload_n 3) 1 1097 := ⟨zg_L_law_1092.2.2.1, rfl⟩
theorem zd_L_law_1097 : zz_D zy_law_L 1097 (.invokestatic 197) 3 1100 := ⟨zg_L_law_1092.2.2.2.1, rfl⟩
theorem zd_L_law_1100 : zz_D zy_law_L 1100 (.istore 5) 2 1102 := ⟨zg_L_law_1092.2.2.2.2.1, rfl⟩
theorem zd_L_law_1102 : zz_D zy_law_L 1102 (.aload_n 2) 1 1103 := ⟨zg_L_law_1092.2.2.2.2.2.1, rfl⟩
theorem zd_L_law_1103 : zz_D zy_law_L 1103 (.invokevirtual 199) 3 1106 := ⟨zg_L_law_1092.2.2.2.2.2.2.1, rfl⟩
theorem zd_L_law_1106 : zz_D zy_law_L 1106 (.istore 6) 2 1108 := ⟨zg_L_law_1092.2.2.2.2.2.2.2.1, rfl⟩
theorem zd_L_law_1108 : zz_B zy_law_L 1108 Instr.goto 1191 1111 := ⟨83, zg_L_law_1092.2.2.2.2.2.2.2.2.1, rfl, rfl⟩
theorem zd_L_law_1111 : zz_D zy_law_L 1111 (.aload_n 1) 1 1112 := ⟨zg_L_law_1092.2.2.2.2.2.2.2.2.2, rfl⟩
theorem zg_L_law_1112 : (decode zy_law_L.2.1 1112 = .ok ((.aload_n 0), 1)) ∧ (decode zy_law_L.2.1 1113 = .ok ((.iload 4), 2)) ∧ (decode zy_law_L.2.1 1115 = .ok ((.iconst 1), 1)) ∧ (decode zy_law_L.2.1 1116 = .ok ((.iadd), 1)) ∧ (decode zy_law_L.2.1 1117 = .ok ((.iaload), 1)) ∧ (decode zy_law_L.2.1 1118 = .ok ((.aload_n 0), 1)) ∧ (decode zy_law_L.2.1 1119 = .ok ((.iload 4), 2)) ∧ (decode zy_law_L.2.1 1121 = .ok ((.iconst 2), 1)) ∧ (decode zy_law_L.2.1 1122 = .ok ((.iadd), 1)) ∧ (decode zy_law_L.2.1 1123 = .ok ((.iaload), 1)) := by decide +kernel
theorem zd_L_law_1112 : zz_D zy_law_L 1112 (.aload_n 0) 1 1113 := ⟨zg_L_law_1112.1, rfl⟩
theorem zd_L_law_1113 : zz_D zy_law_L 1113 (.iload 4) 2 1115 := ⟨zg_L_law_1112.2.1, rfl⟩
theorem zd_L_law_1115 : zz_D zy_law_L 1115 (.iconst 1) 1 1116 := ⟨zg_L_law_1112.2.2.1, rfl⟩
theorem zd_L_law_1116 : zz_D zy_law_L 1116 (.iadd) 1 1117 := ⟨zg_L_law_1112.2.2.2.1, rfl⟩
theorem zd_L_law_1117 : zz_D zy_law_L 1117 (.iaload) 1 1118 := ⟨zg_L_law_1112.2.2.2.2.1, rfl⟩
theorem zd_L_law_1118 : zz_D zy_law_L 1118 (.aload_n 0) 1 1119 := ⟨zg_L_law_1112.2.2.2.2.2.1, rfl⟩
theorem zd_L_law_1119 : zz_D zy_law_L 1119 (.iload 4) 2 1121 := ⟨zg_L_law_1112.2.2.2.2.2.2.1, rfl⟩
theorem zd_L_law_1121 : zz_D zy_law_L 1121 (.iconst 2) 1 1122 := ⟨zg_L_law_1112.2.2.2.2.2.2.2.1, rfl⟩
theorem zd_L_law_1122 : zz_D zy_law_L 1122 (.iadd) 1 1123 := ⟨zg_L_law_1112.2.2.2.2.2.2.2.2.1, rfl⟩
theorem zd_L_law_1123 : zz_D zy_law_L 1123 (.iaload) 1 1124 := ⟨zg_L_law_1112.2.2.2.2.2.2.2.2.2, rfl⟩
theorem zg_L_law_1124 : (decode zy_law_L.2.1 1124 = .ok ((.aload_n 3), 1)) ∧ (decode zy_law_L.2.1 1125 = .ok ((.invokestatic 200), 3)) ∧ (decode zy_law_L.2.1 1128 = .ok ((.istore 5), 2)) ∧ (decode zy_law_L.2.1 1130 = .ok ((.aload_n 2), 1)) ∧ (decode zy_law_L.2.1 1131 = .ok ((.aload_n 0), 1)) ∧ (decode zy_law_L.2.1 1132 = .ok ((.iload 4), 2)) ∧ (decode zy_law_L.2.1 1134 = .ok ((.iconst 1), 1)) ∧ (decode zy_law_L.2.1 1135 = .ok ((.iadd), 1)) ∧ (decode zy_law_L.2.1 1136 = .ok ((.iaload), 1)) ∧ (decode zy_law_L.2.1 1137 = .ok ((.aload_n 0), 1)) := by decide +kernel
theorem zd_L_law_1124 : zz_D zy_law_L 1124 (.aload_n 3) 1 1125 := ⟨zg_L_law_1124.1, rfl⟩
theorem zd_L_law_1125 : zz_D zy_law_L 1125 (.invokestatic 200) 3 1128 := ⟨zg_L_law_1124.2.1, rfl⟩
theorem zd_L_law_1128 : zz_D zy_law_L 1128 (.istore 5) 2 1130 := ⟨zg_L_law_1124.2.2.1, rfl⟩
theorem zd_L_law_1130 : zz_D zy_law_L 1130 (.aload_n 2) 1 1131 := ⟨zg_L_law_1124.2.2.2.1, rfl⟩
theorem zd_L_law_1131 : zz_D zy_law_L 1131 (.aload_n 0) 1 1132 := ⟨zg_L_law_1124.2.2.2.2.1, rfl⟩
theorem zd_L_law_1132 : zz_D zy_law_L 1132 (.iload 4) 2 1134 := ⟨zg_L_law_1124.2.2.2.2.2.1, rfl⟩
theorem zd_L_law_1134 : zz_D zy_law_L 1134 (.iconst 1) 1 1135 := ⟨zg_L_law_1124.2.2.2.2.2.2.1, rfl⟩
theorem zd_L_law_1135 : zz_D zy_law_L 1135 (.iadd) 1 1136 := ⟨zg_L_law_1124.2.2.2.2.2.2.2.1, rfl⟩
theorem zd_L_law_1136 : zz_D zy_law_L 1136 (.iaload) 1 1137 := ⟨zg_L_law_1124.2.2.2.2.2.2.2.2.1, rfl⟩
theorem zd_L_law_1137 : zz_D zy_law_L 1137 (.aload_n 0) 1 1138 := ⟨zg_L_law_1124.2.2.2.2.2.2.2.2.2, rfl⟩
theorem zg_L_law_1138 : (decode zy_law_L.2.1 1138 = .ok ((.iload 4), 2)) ∧ (decode zy_law_L.2.1 1140 = .ok ((.iconst 2), 1)) ∧ (decode zy_law_L.2.1 1141 = .ok ((.iadd), 1)) ∧ (decode zy_law_L.2.1 1142 = .ok ((.iaload), 1)) ∧ (decode zy_law_L.2.1 1143 = .ok ((.invokevirtual 202), 3)) ∧ (decode zy_law_L.2.1 1146 = .ok ((.istore 6), 2)) ∧ (decode zy_law_L.2.1 1148 = .ok (Instr.goto 43, 3)) ∧ (decode zy_law_L.2.1 1151 = .ok ((.aload_n 1), 1)) ∧ (decode zy_law_L.2.1 1152 = .ok ((.aload_n 0), 1)) ∧ (decode zy_law_L.2.1 1153 = .ok ((.iload 4), 2)) := by decide +kernel
theorem zd_L_law_1138 : zz_D zy_law_L 1138 (.iload 4) 2 1140 := ⟨zg_L_law_1138.1, rfl⟩
theorem zd_L_law_1140 : zz_D zy_law_L 1140 (.iconst 2) 1 1141 := ⟨zg_L_law_1138.2.1, rfl⟩
theorem zd_L_law_1141 : zz_D zy_law_L 1141 (.iadd) 1 1142 := ⟨zg_L_law_1138.2.2.1, rfl⟩
theorem zd_L_law_1142 : zz_D zy_law_L 1142 (.iaload) 1 1143 := ⟨zg_L_law_1138.2.2.2.1, rfl⟩
theorem zd_L_law_1143 : zz_D zy_law_L 1143 (.invokevirtual 202) 3 1146 := ⟨zg_L_law_1138.2.2.2.2.1, rfl⟩
theorem zd_L_law_1146 : zz_D zy_law_L 1146 (.istore 6) 2 1148 := ⟨zg_L_law_1138.2.2.2.2.2.1, rfl⟩
theorem zd_L_law_1148 : zz_B zy_law_L 1148 Instr.goto 1191 1151 := ⟨43, zg_L_law_1138.2.2.2.2.2.2.1, rfl, rfl⟩
theorem zd_L_law_1151 : zz_D zy_law_L 1151 (.aload_n 1) 1 1152 := ⟨zg_L_law_1138.2.2.2.2.2.2.2.1, rfl⟩
theorem zd_L_law_1152 : zz_D zy_law_L 1152 (.aload_n 0) 1 1153 := ⟨zg_L_law_1138.2.2.2.2.2.2.2.2.1, rfl⟩
theorem zd_L_law_1153 : zz_D zy_law_L 1153 (.iload 4) 2 1155 := ⟨zg_L_law_1138.2.2.2.2.2.2.2.2.2, rfl⟩
theorem zg_L_law_1155 : (decode zy_law_L.2.1 1155 = .ok ((.iconst 1), 1)) ∧ (decode zy_law_L.2.1 1156 = .ok ((.iadd), 1)) ∧ (decode zy_law_L.2.1 1157 = .ok ((.iaload), 1)) ∧ (decode zy_law_L.2.1 1158 = .ok ((.aload_n 0), 1)) ∧ (decode zy_law_L.2.1 1159 = .ok ((.iload 4), 2)) ∧ (decode zy_law_L.2.1 1161 = .ok ((.iconst 2), 1)) ∧ (decode zy_law_L.2.1 1162 = .ok ((.iadd), 1)) ∧ (decode zy_law_L.2.1 1163 = .ok ((.iaload), 1)) ∧ (decode zy_law_L.2.1 1164 = .ok ((.aload_n 3), 1)) ∧ (decode zy_law_L.2.1 1165 = .ok ((.invokestatic 203), 3)) := by decide +kernel
theorem zd_L_law_1155 : zz_D zy_law_L 1155 (.iconst 1) 1 1156 := ⟨zg_L_law_1155.1, rfl⟩
theorem zd_L_law_1156 : zz_D zy_law_L 1156 (.iadd) 1 1157 := ⟨zg_L_law_1155.2.1, rfl⟩
theorem zd_L_law_1157 : zz_D zy_law_L 1157 (.iaload) 1 1158 := ⟨zg_L_law_1155.2.2.1, rfl⟩
theorem zd_L_law_1158 : zz_D zy_law_L 1158 (.aload_n 0) 1 1159 := ⟨zg_L_law_1155.2.2.2.1, rfl⟩
theorem zd_L_law_1159 : zz_D zy_law_L 1159 (.iload 4) 2 1161 := ⟨zg_L_law_1155.2.2.2.2.1, rfl⟩
theorem zd_L_law_1161 : zz_D zy_law_L 1161 (.iconst 2) 1 1162 := ⟨zg_L_law_1155.2.2.2.2.2.1, rfl⟩
theorem zd_L_law_1162 : zz_D zy_law_L 1162 (.iadd) 1 1163 := ⟨zg_L_law_1155.2.2.2.2.2.2.1, rfl⟩
theorem zd_L_law_1163 : zz_D zy_law_L 1163 (.iaload) 1 1164 := ⟨zg_L_law_1155.2.2.2.2.2.2.2.1, rfl⟩
theorem zd_L_law_1164 : zz_D zy_law_L 1164 (.aload_n 3) 1 1165 := ⟨zg_L_law_1155.2.2.2.2.2.2.2.2.1, rfl⟩
theorem zd_L_law_1165 : zz_D zy_law_L 1165 (.invokestatic 203) 3 1168 := ⟨zg_L_law_1155.2.2.2.2.2.2.2.2.2, rfl⟩
theorem zg_L_law_1168 : (decode zy_law_L.2.1 1168 = .ok ((.istore 5), 2)) ∧ (decode zy_law_L.2.1 1170 = .ok ((.aload_n 2), 1)) ∧ (decode zy_law_L.2.1 1171 = .ok ((.aload_n 0), 1)) ∧ (decode zy_law_L.2.1 1172 = .ok ((.iload 4), 2)) ∧ (decode zy_law_L.2.1 1174 = .ok ((.iconst 1), 1)) ∧ (decode zy_law_L.2.1 1175 = .ok ((.iadd), 1)) ∧ (decode zy_law_L.2.1 1176 = .ok ((.iaload), 1)) ∧ (decode zy_law_L.2.1 1177 = .ok ((.aload_n 0), 1)) ∧ (decode zy_law_L.2.1 1178 = .ok ((.iload 4), 2)) ∧ (decode zy_law_L.2.1 1180 = .ok ((.iconst 2), 1)) := by decide +kernel
theorem zd_L_law_1168 : zz_D zy_law_L 1168 (.istore 5) 2 1170 := ⟨zg_L_law_1168.1, rfl⟩
theorem zd_L_law_1170 : zz_D zy_law_L 1170 (.aload_n 2) 1 1171 := ⟨zg_L_law_1168.2.1, rfl⟩
theorem zd_L_law_1171 : zz_D zy_law_L 1171 (.aload_n 0) 1 1172 := ⟨zg_L_law_1168.2.2.1, rfl⟩
theorem zd_L_law_1172 : zz_D zy_law_L 1172 (.iload 4) 2 1174 := ⟨zg_L_law_1168.2.2.2.1, rfl⟩
theorem zd_L_law_1174 : zz_D zy_law_L 1174 (.iconst 1) 1 1175 := ⟨zg_L_law_1168.2.2.2.2.1, rfl⟩
theorem zd_L_law_1175 : zz_D zy_law_L 1175 (.iadd) 1 1176 := ⟨zg_L_law_1168.2.2.2.2.2.1, rfl⟩
theorem zd_L_law_1176 : zz_D zy_law_L 1176 (.iaload) 1 1177 := ⟨zg_L_law_1168.2.2.2.2.2.2.1, rfl⟩
theorem zd_L_law_1177 : zz_D zy_law_L 1177 (.aload_n 0) 1 1178 := ⟨zg_L_law_1168.2.2.2.2.2.2.2.1, rfl⟩
theorem zd_L_law_1178 : zz_D zy_law_L 1178 (.iload 4) 2 1180 := ⟨zg_L_law_1168.2.2.2.2.2.2.2.2.1, rfl⟩
theorem zd_L_law_1180 : zz_D zy_law_L 1180 (.iconst 2) 1 1181 := ⟨zg_L_law_1168.2.2.2.2.2.2.2.2.2, rfl⟩
theorem zg_L_law_1181 : (decode zy_law_L.2.1 1181 = .ok ((.iadd), 1)) ∧ (decode zy_law_L.2.1 1182 = .ok ((.iaload), 1)) ∧ (decode zy_law_L.2.1 1183 = .ok ((.invokevirtual 205), 3)) ∧ (decode zy_law_L.2.1 1186 = .ok ((.istore 6), 2)) ∧ (decode zy_law_L.2.1 1188 = .ok (Instr.goto 3, 3)) := by decide +kernel
theorem zd_L_law_1181 : zz_D zy_law_L 1181 (.iadd) 1 1182 := ⟨zg_L_law_1181.1, rfl⟩
theorem zd_L_law_1182 : zz_D zy_law_L 1182 (.iaload) 1 1183 := ⟨zg_L_law_1181.2.1, rfl⟩
theorem zd_L_law_1183 : zz_D zy_law_L 1183 (.invokevirtual 205) 3 1186 := ⟨zg_L_law_1181.2.2.1, rfl⟩
theorem zd_L_law_1186 : zz_D zy_law_L 1186 (.istore 6) 2 1188 := ⟨zg_L_law_1181.2.2.2.1, rfl⟩
theorem zd_L_law_1188 : zz_B zy_law_L 1188 Instr.goto 1191 1191 := ⟨3, zg_L_law_1181.2.2.2.2, rfl, rfl⟩
theorem zl_0 {g : mm_G} {l : Launch} (hfl : l.flags = flags0) (hlen : g.2.2.2 997 ≤ 3584) (N : Nat) (ih : ∀ (x4 : Int) (S : zz_S) (n k j : Nat), zz_G S → zz_Hc S → zz_Hr S → 1 ≤ S 1079 36 → S 1070 1 = S 1079 28 → S 1031 6 = S 1079 1 → zz_end ≤ n → (0 ≤ x4 ∧ x4 ≤ 3590) → (k : Int) ≤ 200 + x4 → (j : Int) ≤ 30000 + 6 * x4 → (3600 - x4).toNat < N → zz_E g l zy_law_L room_1 (fun u => ∃ M1 n1, u = (.inl (some (zi 1)), M1, n1)) S n 23 [some (.ref 998), some (.ref 1000), some (.ref 1079), some (.ref 1121), some (zi x4)] [] k j) (x4 : Int) (S : zz_S) (n k j : Nat) (G_S : zz_G S) (H_S : zz_Hc S) (R_S : zz_Hr S) (O_S : 1 ≤ S 1079 36) (T0_S : S 1070 1 = S 1079 28) (T1_S : S 1031 6 = S 1079 1) (hn : zz_end ≤ n) (hx : 0 ≤ x4 ∧ x4 ≤ 3590) (hkk : (k : Int) ≤ 200 + x4) (hjj : (j : Int) ≤ 30000 + 6 * x4) (hR : (3600 - x4).toNat < N + 1) (hc1 : x4 ≤ zz_ln g - 7) : zz_E g l zy_law_L room_1 (fun u => ∃ M1 n1, u = (.inl (some (zi 1)), M1, n1)) S n 168 [some (.ref 998), some (.ref 1000), some (.ref 1079), some (.ref 1121), some (zi x4)] [] k j := by
  have hln : 0 ≤ zz_ln g ∧ zz_ln g ≤ 3584 := ⟨Int.natCast_nonneg _, Int.ofNat_le.mpr hlen⟩
  have hk : k ≤ 601024 := by omega
  have hj : j ≤ 7293034 := by omega
  refine zz_aload_n (x := 1000) rfl zd_L_law_168 ?_
  refine zz_aload_n (x := 998) rfl zd_L_law_169 ?_
  refine zz_iload (x := x4) rfl zd_L_law_170 ?_
  refine zz_iconst zd_L_law_172 ?_
  refine zz_iadd zd_L_law_173 ?_
  refine zz_sld (by omega) zd_L_law_174 (by omega) ?_
  have g5 := zz_sc_r g (x4 + 1).toNat
  refine zz_callHW (rz := zr_side_L) [.ref 1000, zi (zz_sc g (x4 + 1).toNat)] zd_L_law_175 zhl_side_L rfl rfl ⟨Nat.le_of_ble_eq_true rfl, Nat.le_of_ble_eq_true rfl⟩ (by show k + 1 ≤ 601024; omega) (by show j + 6 ≤ 7293034; omega) (zc_side_L (zz_sc g (x4 + 1).toNat) S (n) hn hfl G_S (by omega) H_S) (fun v7 S6 d8 hd8 hP => ?_)
  obtain ⟨G_S6, fS6, rv7, o9, o10⟩ := hP
  have g11 := zz_G.r G_S 1000 7 0 1 rfl rfl
  have hn12 : zz_end ≤ n + d8 := by omega
  have hk13 : (k + zr_side_L.cells) ≤ 601024 := by show k + 1 ≤ 601024; omega
  have hj14 : (j + zr_side_L.slots) ≤ 7293034 := by show j + 6 ≤ 7293034; omega
  have b15 := zz_rf3 (z := (S 1000 7)) (by omega)
  have H_S6 : zz_Hc S6 := o10
  have R_S6 : zz_Hr S6 := zz_Hr.fr fS6 rfl rfl (fun b q h => by have h0_ := zz_rf3 (z := (S 1000 7)) (by omega); omega) R_S
  have O_S6 : 1 ≤ S6 1079 36 := by rw [show S6 1079 36 = S 1079 36 from zz_rc fS6 rfl rfl (by have h0_ := zz_rf3 (z := (S 1000 7)) (by omega); omega) rfl]; exact O_S
  refine zz_istore [some (.ref 998), some (.ref 1000), some (.ref 1079), some (.ref 1121), some (zi x4), some (zi v7)] zd_L_law_178 (by decide) rfl ?_
  refine zz_aload_n (x := 1079) rfl zd_L_law_180 ?_
  refine zz_aload_n (x := 998) rfl zd_L_law_181 ?_
  refine zz_iload (x := x4) rfl zd_L_law_182 ?_
  refine zz_iconst zd_L_law_184 ?_
  refine zz_iadd zd_L_law_185 ?_
  refine zz_sld (by omega) zd_L_law_186 (by omega) ?_
  have g16 := zz_G.r G_S 1079 36 0 11 rfl rfl
  have e17 : S6 1079 36 = S 1079 36 := (zz_rc fS6 rfl rfl (by omega) rfl)
  have g18 := zz_G.r G_S 1079 1 2 8 rfl rfl
  have e19 : S6 1079 1 = S 1079 1 := (zz_rc fS6 rfl rfl (by omega) rfl)
  refine zz_callVV [zi (zz_sc g (x4 + 1).toNat)] zd_L_law_187 zk_TFLaw_103 zT_1079 (zz_ltn hn12 rfl) rfl rfl ⟨Nat.le_of_ble_eq_true rfl, Nat.le_of_ble_eq_true rfl⟩ ⟨rfl, rfl⟩ hk13 hj14 (zc_side_14_6 (zz_sc g (x4 + 1).toNat) S6 (n + d8) hn12 G_S6 (by omega) R_S6 (by omega)) (fun S20 hP => ?_)
  obtain ⟨G_S20, fS20, o22, o23, o24⟩ := hP
  have H_S20 : zz_Hc S20 := zz_Hc.fr (q := 0) fS20 rfl rfl G_S6 (by decide) rfl (fun b q h => h.elim) H_S6
  have R_S20 : zz_Hr S20 := o24
  have O_S20 : 1 ≤ S20 1079 36 := by omega
  refine zz_goto zd_L_law_190 ?_
  refine zz_iinc [some (.ref 998), some (.ref 1000), some (.ref 1079), some (.ref 1121), some (zi (x4 + 7)), some (zi v7)] zd_L_law_1191 rfl rfl ?_
  refine zz_goto zd_L_law_1194 ?_
  refine zz_less (ls1 := [some (.ref 998), some (.ref 1000), some (.ref 1079), some (.ref 1121), some (zi (x4 + 7))]) ⟨rfl, ⟨rfl, ⟨rfl, ⟨rfl, ⟨rfl, trivial⟩⟩⟩⟩⟩ ?_
  have g25 := zz_G.r G_S 1070 1 0 1500 rfl rfl
  have e26 : S20 1070 1 = S 1070 1 := (zz_rc fS20 rfl rfl (fun h => h) (zz_rc fS6 rfl rfl (by omega) rfl))
  have g27 := zz_G.r G_S 1079 28 0 1500 rfl rfl
  have e28 : S20 1079 28 = S 1079 28 := (zz_rc fS20 rfl rfl (fun h => h) (zz_rc fS6 rfl rfl (by omega) rfl))
  have g29 := zz_G.r G_S6 1031 6 2 8 rfl rfl
  have e30 : S20 1031 6 = S6 1031 6 := (zz_rc fS20 rfl rfl (fun h => h) rfl)
  have g31 := zz_G.r G_S20 1079 1 2 8 rfl rfl
  exact ih (x4 + 7) S20 (n + d8) (k + zr_side_L.cells) (j + zr_side_L.slots) G_S20 H_S20 R_S20 O_S20 (by omega) (by omega) hn12 (by omega) (by show ((k + 1 : Nat) : Int) ≤ 200 + (x4 + 7); omega) (by show ((j + 6 : Nat) : Int) ≤ 30000 + 6 * (x4 + 7); omega) (by omega)
theorem zl_1 {g : mm_G} {l : Launch} (hfl : l.flags = flags0) (hlen : g.2.2.2 997 ≤ 3584) (N : Nat) (ih : ∀ (x4 : Int) (S : zz_S) (n k j : Nat), zz_G S → zz_Hc S → zz_Hr S → 1 ≤ S 1079 36 → S 1070 1 = S 1079 28 → S 1031 6 = S 1079 1 → zz_end ≤ n → (0 ≤ x4 ∧ x4 ≤ 3590) → (k : Int) ≤ 200 + x4 → (j : Int) ≤ 30000 + 6 * x4 → (3600 - x4).toNat < N → zz_E g l zy_law_L room_1 (fun u => ∃ M1 n1, u = (.inl (some (zi 1)), M1, n1)) S n 23 [some (.ref 998), some (.ref 1000), some (.ref 1079), some (.ref 1121), some (zi x4)] [] k j) (x4 : Int) (S : zz_S) (n k j : Nat) (G_S : zz_G S) (H_S : zz_Hc S) (R_S : zz_Hr S) (O_S : 1 ≤ S 1079 36) (T0_S : S 1070 1 = S 1079 28) (T1_S : S 1031 6 = S 1079 1) (hn : zz_end ≤ n) (hx : 0 ≤ x4 ∧ x4 ≤ 3590) (hkk : (k : Int) ≤ 200 + x4) (hjj : (j : Int) ≤ 30000 + 6 * x4) (hR : (3600 - x4).toNat < N + 1) (hc1 : x4 ≤ zz_ln g - 7) : zz_E g l zy_law_L room_1 (fun u => ∃ M1 n1, u = (.inl (some (zi 1)), M1, n1)) S n 193 [some (.ref 998), some (.ref 1000), some (.ref 1079), some (.ref 1121), some (zi x4)] [] k j := by
  have hln : 0 ≤ zz_ln g ∧ zz_ln g ≤ 3584 := ⟨Int.natCast_nonneg _, Int.ofNat_le.mpr hlen⟩
  have hk : k ≤ 601024 := by omega
  have hj : j ≤ 7293034 := by omega
  refine zz_aload_n (x := 1000) rfl zd_L_law_193 ?_
  refine zz_aload_n (x := 998) rfl zd_L_law_194 ?_
  refine zz_iload (x := x4) rfl zd_L_law_195 ?_
  refine zz_iconst zd_L_law_197 ?_
  refine zz_iadd zd_L_law_198 ?_
  refine zz_sld (by omega) zd_L_law_199 (by omega) ?_
  have g33 := zz_sc_r g (x4 + 1).toNat
  refine zz_aload_n (x := 998) rfl zd_L_law_200 ?_
  refine zz_iload (x := x4) rfl zd_L_law_201 ?_
  refine zz_iconst zd_L_law_203 ?_
  refine zz_iadd zd_L_law_204 ?_
  refine zz_sld (by omega) zd_L_law_205 (by omega) ?_
  have g34 := zz_sc_r g (x4 + 2).toNat
  refine zz_callHW (rz := zr_memory_L) [.ref 1000, zi (zz_sc g (x4 + 1).toNat), zi (zz_sc g (x4 + 2).toNat)] zd_L_law_206 zhl_memory_L rfl rfl ⟨Nat.le_of_ble_eq_true rfl, Nat.le_of_ble_eq_true rfl⟩ (by show k + 1 ≤ 601024; omega) (by show j + 6 ≤ 7293034; omega) (zc_memory_L (zz_sc g (x4 + 1).toNat) (zz_sc g (x4 + 2).toNat) S (n) hn hfl G_S (by omega) (by omega)) (fun v36 S35 d37 hd37 hP => ?_)
  obtain ⟨G_S35, fS35, rv36, o38⟩ := hP
  have hn39 : zz_end ≤ n + d37 := by omega
  have hk40 : (k + zr_memory_L.cells) ≤ 601024 := by show k + 1 ≤ 601024; omega
  have hj41 : (j + zr_memory_L.slots) ≤ 7293034 := by show j + 6 ≤ 7293034; omega
  have H_S35 : zz_Hc S35 := zz_Hc.fr (q := 0) fS35 rfl rfl G_S (by decide) rfl (fun b q h => h.elim) H_S
  have R_S35 : zz_Hr S35 := zz_Hr.fr fS35 rfl rfl (fun b q h => h.elim) R_S
  have O_S35 : 1 ≤ S35 1079 36 := by rw [show S35 1079 36 = S 1079 36 from zz_rc fS35 rfl rfl (fun h => h) rfl]; exact O_S
  refine zz_istore [some (.ref 998), some (.ref 1000), some (.ref 1079), some (.ref 1121), some (zi x4), some (zi v36)] zd_L_law_209 (by decide) rfl ?_
  refine zz_aload_n (x := 1079) rfl zd_L_law_211 ?_
  refine zz_aload_n (x := 998) rfl zd_L_law_212 ?_
  refine zz_iload (x := x4) rfl zd_L_law_213 ?_
  refine zz_iconst zd_L_law_215 ?_
  refine zz_iadd zd_L_law_216 ?_
  refine zz_sld (by omega) zd_L_law_217 (by omega) ?_
  refine zz_aload_n (x := 998) rfl zd_L_law_218 ?_
  refine zz_iload (x := x4) rfl zd_L_law_219 ?_
  refine zz_iconst zd_L_law_221 ?_
  refine zz_iadd zd_L_law_222 ?_
  refine zz_sld (by omega) zd_L_law_223 (by omega) ?_
  refine zz_callVV [zi (zz_sc g (x4 + 1).toNat), zi (zz_sc g (x4 + 2).toNat)] zd_L_law_224 zk_TFLaw_107 zT_1079 (zz_ltn hn39 rfl) rfl rfl ⟨Nat.le_of_ble_eq_true rfl, Nat.le_of_ble_eq_true rfl⟩ ⟨rfl, rfl⟩ hk40 hj41 (zc_memory_14_8 (zz_sc g (x4 + 1).toNat) (zz_sc g (x4 + 2).toNat) S35 (n + d37) hn39 G_S35 (by omega) (by omega)) (fun S42 hP => ?_)
  obtain ⟨G_S42, fS42, o44⟩ := hP
  have H_S42 : zz_Hc S42 := zz_Hc.fr (q := 0) fS42 rfl rfl G_S35 (by decide) rfl (fun b q h => h.elim) H_S35
  have R_S42 : zz_Hr S42 := zz_Hr.fr fS42 rfl rfl (fun b q h => h.elim) R_S35
  have O_S42 : 1 ≤ S42 1079 36 := by rw [show S42 1079 36 = S35 1079 36 from zz_rc fS42 rfl rfl (fun h => h) rfl]; exact O_S35
  refine zz_goto zd_L_law_227 ?_
  refine zz_iinc [some (.ref 998), some (.ref 1000), some (.ref 1079), some (.ref 1121), some (zi (x4 + 7)), some (zi v36)] zd_L_law_1191 rfl rfl ?_
  refine zz_goto zd_L_law_1194 ?_
  refine zz_less (ls1 := [some (.ref 998), some (.ref 1000), some (.ref 1079), some (.ref 1121), some (zi (x4 + 7))]) ⟨rfl, ⟨rfl, ⟨rfl, ⟨rfl, ⟨rfl, trivial⟩⟩⟩⟩⟩ ?_
  have g45 := zz_G.r G_S 1070 1 0 1500 rfl rfl
  have e46 : S42 1070 1 = S 1070 1 := (zz_rc fS42 rfl rfl (fun h => h) (zz_rc fS35 rfl rfl (fun h => h) rfl))
  have g47 := zz_G.r G_S 1079 28 0 1500 rfl rfl
  have e48 : S42 1079 28 = S 1079 28 := (zz_rc fS42 rfl rfl (fun h => h) (zz_rc fS35 rfl rfl (fun h => h) rfl))
  have g49 := zz_G.r G_S 1031 6 2 8 rfl rfl
  have e50 : S42 1031 6 = S 1031 6 := (zz_rc fS42 rfl rfl (fun h => h) (zz_rc fS35 rfl rfl (fun h => h) rfl))
  have g51 := zz_G.r G_S 1079 1 2 8 rfl rfl
  have e52 : S42 1079 1 = S 1079 1 := (zz_rc fS42 rfl rfl (fun h => h) (zz_rc fS35 rfl rfl (fun h => h) rfl))
  exact ih (x4 + 7) S42 (n + d37) (k + zr_memory_L.cells) (j + zr_memory_L.slots) G_S42 H_S42 R_S42 O_S42 (by omega) (by omega) hn39 (by omega) (by show ((k + 1 : Nat) : Int) ≤ 200 + (x4 + 7); omega) (by show ((j + 6 : Nat) : Int) ≤ 30000 + 6 * (x4 + 7); omega) (by omega)
theorem zl_2 {g : mm_G} {l : Launch} (hfl : l.flags = flags0) (hlen : g.2.2.2 997 ≤ 3584) (N : Nat) (ih : ∀ (x4 : Int) (S : zz_S) (n k j : Nat), zz_G S → zz_Hc S → zz_Hr S → 1 ≤ S 1079 36 → S 1070 1 = S 1079 28 → S 1031 6 = S 1079 1 → zz_end ≤ n → (0 ≤ x4 ∧ x4 ≤ 3590) → (k : Int) ≤ 200 + x4 → (j : Int) ≤ 30000 + 6 * x4 → (3600 - x4).toNat < N → zz_E g l zy_law_L room_1 (fun u => ∃ M1 n1, u = (.inl (some (zi 1)), M1, n1)) S n 23 [some (.ref 998), some (.ref 1000), some (.ref 1079), some (.ref 1121), some (zi x4)] [] k j) (x4 : Int) (S : zz_S) (n k j : Nat) (G_S : zz_G S) (H_S : zz_Hc S) (R_S : zz_Hr S) (O_S : 1 ≤ S 1079 36) (T0_S : S 1070 1 = S 1079 28) (T1_S : S 1031 6 = S 1079 1) (hn : zz_end ≤ n) (hx : 0 ≤ x4 ∧ x4 ≤ 3590) (hkk : (k : Int) ≤ 200 + x4) (hjj : (j : Int) ≤ 30000 + 6 * x4) (hR : (3600 - x4).toNat < N + 1) (hc1 : x4 ≤ zz_ln g - 7) : zz_E g l zy_law_L room_1 (fun u => ∃ M1 n1, u = (.inl (some (zi 1)), M1, n1)) S n 230 [some (.ref 998), some (.ref 1000), some (.ref 1079), some (.ref 1121), some (zi x4)] [] k j := by
  have hln : 0 ≤ zz_ln g ∧ zz_ln g ≤ 3584 := ⟨Int.natCast_nonneg _, Int.ofNat_le.mpr hlen⟩
  have hk : k ≤ 601024 := by omega
  have hj : j ≤ 7293034 := by omega
  refine zz_aload_n (x := 1000) rfl zd_L_law_230 ?_
  refine zz_aload_n (x := 998) rfl zd_L_law_231 ?_
  refine zz_iload (x := x4) rfl zd_L_law_232 ?_
  refine zz_iconst zd_L_law_234 ?_
  refine zz_iadd zd_L_law_235 ?_
  refine zz_sld (by omega) zd_L_law_236 (by omega) ?_
  have g54 := zz_sc_r g (x4 + 1).toNat
  refine zz_aload_n (x := 998) rfl zd_L_law_237 ?_
  refine zz_iload (x := x4) rfl zd_L_law_238 ?_
  refine zz_iconst zd_L_law_240 ?_
  refine zz_iadd zd_L_law_241 ?_
  refine zz_sld (by omega) zd_L_law_242 (by omega) ?_
  have g55 := zz_sc_r g (x4 + 2).toNat
  refine zz_aload_n (x := 1121) rfl zd_L_law_243 ?_
  refine zz_callHW (rz := zr_look_L) [.ref 1000, zi (zz_sc g (x4 + 1).toNat), zi (zz_sc g (x4 + 2).toNat), .ref 1121] zd_L_law_244 zhl_look_L rfl rfl ⟨Nat.le_of_ble_eq_true rfl, Nat.le_of_ble_eq_true rfl⟩ (by show k + 1 ≤ 601024; omega) (by show j + 6 ≤ 7293034; omega) (zc_look_L (zz_sc g (x4 + 1).toNat) (zz_sc g (x4 + 2).toNat) S (n) hn hfl G_S (by omega) (by omega)) (fun v57 S56 d58 hd58 hP => ?_)
  obtain ⟨G_S56, fS56, rv57⟩ := hP
  have hn59 : zz_end ≤ n + d58 := by omega
  have hk60 : (k + zr_look_L.cells) ≤ 601024 := by show k + 1 ≤ 601024; omega
  have hj61 : (j + zr_look_L.slots) ≤ 7293034 := by show j + 6 ≤ 7293034; omega
  have H_S56 : zz_Hc S56 := zz_Hc.fr (q := 0) fS56 rfl rfl G_S (by decide) rfl (fun b q h => h.elim) H_S
  have R_S56 : zz_Hr S56 := zz_Hr.fr fS56 rfl rfl (fun b q h => h.elim) R_S
  have O_S56 : 1 ≤ S56 1079 36 := by rw [show S56 1079 36 = S 1079 36 from zz_rc fS56 rfl rfl (fun h => h) rfl]; exact O_S
  refine zz_istore [some (.ref 998), some (.ref 1000), some (.ref 1079), some (.ref 1121), some (zi x4), some (zi v57)] zd_L_law_247 (by decide) rfl ?_
  refine zz_aload_n (x := 1079) rfl zd_L_law_249 ?_
  refine zz_aload_n (x := 998) rfl zd_L_law_250 ?_
  refine zz_iload (x := x4) rfl zd_L_law_251 ?_
  refine zz_iconst zd_L_law_253 ?_
  refine zz_iadd zd_L_law_254 ?_
  refine zz_sld (by omega) zd_L_law_255 (by omega) ?_
  refine zz_aload_n (x := 998) rfl zd_L_law_256 ?_
  refine zz_iload (x := x4) rfl zd_L_law_257 ?_
  refine zz_iconst zd_L_law_259 ?_
  refine zz_iadd zd_L_law_260 ?_
  refine zz_sld (by omega) zd_L_law_261 (by omega) ?_
  refine zz_callVI [zi (zz_sc g (x4 + 1).toNat), zi (zz_sc g (x4 + 2).toNat)] zd_L_law_262 zk_TFLaw_111 zT_1079 (zz_ltn hn59 rfl) rfl rfl ⟨Nat.le_of_ble_eq_true rfl, Nat.le_of_ble_eq_true rfl⟩ ⟨rfl, rfl⟩ hk60 hj61 (zc_look_14_10 (zz_sc g (x4 + 1).toNat) (zz_sc g (x4 + 2).toNat) S56 (n + d58) hn59 G_S56 (by omega) (by omega)) (fun v63 S62 hP => ?_)
  obtain ⟨G_S62, fS62, o64⟩ := hP
  have H_S62 : zz_Hc S62 := zz_Hc.fr (q := 0) fS62 rfl rfl G_S56 (by decide) rfl (fun b q h => h.elim) H_S56
  have R_S62 : zz_Hr S62 := zz_Hr.fr fS62 rfl rfl (fun b q h => h.elim) R_S56
  have O_S62 : 1 ≤ S62 1079 36 := by rw [show S62 1079 36 = S56 1079 36 from zz_rc fS62 rfl rfl (fun h => h) rfl]; exact O_S56
  refine zz_istore [some (.ref 998), some (.ref 1000), some (.ref 1079), some (.ref 1121), some (zi x4), some (zi v57), some (zi v63)] zd_L_law_265 (by decide) rfl ?_
  refine zz_goto zd_L_law_267 ?_
  refine zz_iinc [some (.ref 998), some (.ref 1000), some (.ref 1079), some (.ref 1121), some (zi (x4 + 7)), some (zi v57), some (zi v63)] zd_L_law_1191 rfl rfl ?_
  refine zz_goto zd_L_law_1194 ?_
  refine zz_less (ls1 := [some (.ref 998), some (.ref 1000), some (.ref 1079), some (.ref 1121), some (zi (x4 + 7))]) ⟨rfl, ⟨rfl, ⟨rfl, ⟨rfl, ⟨rfl, trivial⟩⟩⟩⟩⟩ ?_
  have g65 := zz_G.r G_S 1070 1 0 1500 rfl rfl
  have e66 : S62 1070 1 = S 1070 1 := (zz_rc fS62 rfl rfl (fun h => h) (zz_rc fS56 rfl rfl (fun h => h) rfl))
  have g67 := zz_G.r G_S 1079 28 0 1500 rfl rfl
  have e68 : S62 1079 28 = S 1079 28 := (zz_rc fS62 rfl rfl (fun h => h) (zz_rc fS56 rfl rfl (fun h => h) rfl))
  have g69 := zz_G.r G_S 1031 6 2 8 rfl rfl
  have e70 : S62 1031 6 = S 1031 6 := (zz_rc fS62 rfl rfl (fun h => h) (zz_rc fS56 rfl rfl (fun h => h) rfl))
  have g71 := zz_G.r G_S 1079 1 2 8 rfl rfl
  have e72 : S62 1079 1 = S 1079 1 := (zz_rc fS62 rfl rfl (fun h => h) (zz_rc fS56 rfl rfl (fun h => h) rfl))
  exact ih (x4 + 7) S62 (n + d58) (k + zr_look_L.cells) (j + zr_look_L.slots) G_S62 H_S62 R_S62 O_S62 (by omega) (by omega) hn59 (by omega) (by show ((k + 1 : Nat) : Int) ≤ 200 + (x4 + 7); omega) (by show ((j + 6 : Nat) : Int) ≤ 30000 + 6 * (x4 + 7); omega) (by omega)
theorem zl_3 {g : mm_G} {l : Launch} (hfl : l.flags = flags0) (hlen : g.2.2.2 997 ≤ 3584) (N : Nat) (ih : ∀ (x4 : Int) (S : zz_S) (n k j : Nat), zz_G S → zz_Hc S → zz_Hr S → 1 ≤ S 1079 36 → S 1070 1 = S 1079 28 → S 1031 6 = S 1079 1 → zz_end ≤ n → (0 ≤ x4 ∧ x4 ≤ 3590) → (k : Int) ≤ 200 + x4 → (j : Int) ≤ 30000 + 6 * x4 → (3600 - x4).toNat < N → zz_E g l zy_law_L room_1 (fun u => ∃ M1 n1, u = (.inl (some (zi 1)), M1, n1)) S n 23 [some (.ref 998), some (.ref 1000), some (.ref 1079), some (.ref 1121), some (zi x4)] [] k j) (x4 : Int) (S : zz_S) (n k j : Nat) (G_S : zz_G S) (H_S : zz_Hc S) (R_S : zz_Hr S) (O_S : 1 ≤ S 1079 36) (T0_S : S 1070 1 = S 1079 28) (T1_S : S 1031 6 = S 1079 1) (hn : zz_end ≤ n) (hx : 0 ≤ x4 ∧ x4 ≤ 3590) (hkk : (k : Int) ≤ 200 + x4) (hjj : (j : Int) ≤ 30000 + 6 * x4) (hR : (3600 - x4).toNat < N + 1) (hc1 : x4 ≤ zz_ln g - 7) : zz_E g l zy_law_L room_1 (fun u => ∃ M1 n1, u = (.inl (some (zi 1)), M1, n1)) S n 270 [some (.ref 998), some (.ref 1000), some (.ref 1079), some (.ref 1121), some (zi x4)] [] k j := by
  have hln : 0 ≤ zz_ln g ∧ zz_ln g ≤ 3584 := ⟨Int.natCast_nonneg _, Int.ofNat_le.mpr hlen⟩
  have hk : k ≤ 601024 := by omega
  have hj : j ≤ 7293034 := by omega
  refine zz_aload_n (x := 1000) rfl zd_L_law_270 ?_
  refine zz_aload_n (x := 998) rfl zd_L_law_271 ?_
  refine zz_iload (x := x4) rfl zd_L_law_272 ?_
  refine zz_iconst zd_L_law_274 ?_
  refine zz_iadd zd_L_law_275 ?_
  refine zz_sld (by omega) zd_L_law_276 (by omega) ?_
  have g74 := zz_sc_r g (x4 + 1).toNat
  refine zz_aload_n (x := 998) rfl zd_L_law_277 ?_
  refine zz_iload (x := x4) rfl zd_L_law_278 ?_
  refine zz_iconst zd_L_law_280 ?_
  refine zz_iadd zd_L_law_281 ?_
  refine zz_sld (by omega) zd_L_law_282 (by omega) ?_
  have g75 := zz_sc_r g (x4 + 2).toNat
  refine zz_i2l (by omega) zd_L_law_283 ?_
  refine zz_bipush (by decide) zd_L_law_284 ?_
  refine zz_lshl zd_L_law_286 (fun v76 hv76 ev76 => ?_)
  refine zz_aload_n (x := 998) rfl zd_L_law_287 ?_
  refine zz_iload (x := x4) rfl zd_L_law_288 ?_
  refine zz_iconst zd_L_law_290 ?_
  refine zz_iadd zd_L_law_291 ?_
  refine zz_sld (by omega) zd_L_law_292 (by omega) ?_
  have g77 := zz_sc_r g (x4 + 3).toNat
  refine zz_i2l (by omega) zd_L_law_293 ?_
  refine zz_ldc2 (z := 4294967295) zq_TFLaw_112 (by decide) zd_L_law_294 ?_
  refine zz_land zd_L_law_297 (fun v78 hv78 ev78 => ?_)
  have av78 := zz_band64 (by omega) (by omega) ev78
  refine zz_lor zd_L_law_298 (fun v79 hv79 ev79 => ?_)
  refine zz_callHW (rz := zr_word_L) [.ref 1000, zi (zz_sc g (x4 + 1).toNat), zl v79] zd_L_law_299 zhl_word_L rfl rfl ⟨Nat.le_of_ble_eq_true rfl, Nat.le_of_ble_eq_true rfl⟩ (by show k + 1 ≤ 601024; omega) (by show j + 6 ≤ 7293034; omega) (zc_word_L (zz_sc g (x4 + 1).toNat) v79 S (n) hn hfl G_S (by omega) (by omega)) (fun v81 S80 d82 hd82 hP => ?_)
  obtain ⟨G_S80, fS80, rv81⟩ := hP
  have g83 := zz_G.r G_S 1000 9 0 1 rfl rfl
  have hn84 : zz_end ≤ n + d82 := by omega
  have hk85 : (k + zr_word_L.cells) ≤ 601024 := by show k + 1 ≤ 601024; omega
  have hj86 : (j + zr_word_L.slots) ≤ 7293034 := by show j + 6 ≤ 7293034; omega
  have b87 := zz_rf4 (z := (S 1000 9)) (by omega)
  have H_S80 : zz_Hc S80 := zz_Hc.fr (q := 0) fS80 rfl rfl G_S (by decide) rfl (fun b q h => by have h0_ := zz_rf4 (z := (S 1000 9)) (by omega); omega) H_S
  have R_S80 : zz_Hr S80 := zz_Hr.fr fS80 rfl rfl (fun b q h => by have h0_ := zz_rf4 (z := (S 1000 9)) (by omega); omega) R_S
  have O_S80 : 1 ≤ S80 1079 36 := by rw [show S80 1079 36 = S 1079 36 from zz_rc fS80 rfl rfl (by have h0_ := zz_rf4 (z := (S 1000 9)) (by omega); omega) rfl]; exact O_S
  refine zz_istore [some (.ref 998), some (.ref 1000), some (.ref 1079), some (.ref 1121), some (zi x4), some (zi v81)] zd_L_law_302 (by decide) rfl ?_
  refine zz_aload_n (x := 1079) rfl zd_L_law_304 ?_
  refine zz_aload_n (x := 998) rfl zd_L_law_305 ?_
  refine zz_iload (x := x4) rfl zd_L_law_306 ?_
  refine zz_iconst zd_L_law_308 ?_
  refine zz_iadd zd_L_law_309 ?_
  refine zz_sld (by omega) zd_L_law_310 (by omega) ?_
  refine zz_aload_n (x := 998) rfl zd_L_law_311 ?_
  refine zz_iload (x := x4) rfl zd_L_law_312 ?_
  refine zz_iconst zd_L_law_314 ?_
  refine zz_iadd zd_L_law_315 ?_
  refine zz_sld (by omega) zd_L_law_316 (by omega) ?_
  refine zz_i2l (by omega) zd_L_law_317 ?_
  refine zz_bipush (by decide) zd_L_law_318 ?_
  refine zz_lshl zd_L_law_320 (fun v88 hv88 ev88 => ?_)
  refine zz_aload_n (x := 998) rfl zd_L_law_321 ?_
  refine zz_iload (x := x4) rfl zd_L_law_322 ?_
  refine zz_iconst zd_L_law_324 ?_
  refine zz_iadd zd_L_law_325 ?_
  refine zz_sld (by omega) zd_L_law_326 (by omega) ?_
  refine zz_i2l (by omega) zd_L_law_327 ?_
  refine zz_ldc2 (z := 4294967295) zq_TFLaw_112 (by decide) zd_L_law_328 ?_
  refine zz_land zd_L_law_331 (fun v89 hv89 ev89 => ?_)
  have av89 := zz_band64 (by omega) (by omega) ev89
  refine zz_lor zd_L_law_332 (fun v90 hv90 ev90 => ?_)
  refine zz_callVV [zi (zz_sc g (x4 + 1).toNat), zl v90] zd_L_law_333 zk_TFLaw_117 zT_1079 (zz_ltn hn84 rfl) rfl rfl ⟨Nat.le_of_ble_eq_true rfl, Nat.le_of_ble_eq_true rfl⟩ ⟨rfl, rfl⟩ hk85 hj86 (zc_word_14_14 (zz_sc g (x4 + 1).toNat) v90 S80 (n + d82) hn84 G_S80 (by omega) (by omega)) (fun S91 hP => ?_)
  obtain ⟨G_S91, fS91⟩ := hP
  have H_S91 : zz_Hc S91 := zz_Hc.fr (q := 0) fS91 rfl rfl G_S80 (by decide) rfl (fun b q h => h.elim) H_S80
  have R_S91 : zz_Hr S91 := zz_Hr.fr fS91 rfl rfl (fun b q h => h.elim) R_S80
  have O_S91 : 1 ≤ S91 1079 36 := by rw [show S91 1079 36 = S80 1079 36 from zz_rc fS91 rfl rfl (fun h => h) rfl]; exact O_S80
  refine zz_goto zd_L_law_336 ?_
  refine zz_iinc [some (.ref 998), some (.ref 1000), some (.ref 1079), some (.ref 1121), some (zi (x4 + 7)), some (zi v81)] zd_L_law_1191 rfl rfl ?_
  refine zz_goto zd_L_law_1194 ?_
  refine zz_less (ls1 := [some (.ref 998), some (.ref 1000), some (.ref 1079), some (.ref 1121), some (zi (x4 + 7))]) ⟨rfl, ⟨rfl, ⟨rfl, ⟨rfl, ⟨rfl, trivial⟩⟩⟩⟩⟩ ?_
  have g93 := zz_G.r G_S 1070 1 0 1500 rfl rfl
  have e94 : S91 1070 1 = S 1070 1 := (zz_rc fS91 rfl rfl (fun h => h) (zz_rc fS80 rfl rfl (by omega) rfl))
  have g95 := zz_G.r G_S 1079 28 0 1500 rfl rfl
  have e96 : S91 1079 28 = S 1079 28 := (zz_rc fS91 rfl rfl (fun h => h) (zz_rc fS80 rfl rfl (by omega) rfl))
  have g97 := zz_G.r G_S 1031 6 2 8 rfl rfl
  have e98 : S91 1031 6 = S 1031 6 := (zz_rc fS91 rfl rfl (fun h => h) (zz_rc fS80 rfl rfl (by omega) rfl))
  have g99 := zz_G.r G_S 1079 1 2 8 rfl rfl
  have e100 : S91 1079 1 = S 1079 1 := (zz_rc fS91 rfl rfl (fun h => h) (zz_rc fS80 rfl rfl (by omega) rfl))
  exact ih (x4 + 7) S91 (n + d82) (k + zr_word_L.cells) (j + zr_word_L.slots) G_S91 H_S91 R_S91 O_S91 (by omega) (by omega) hn84 (by omega) (by show ((k + 1 : Nat) : Int) ≤ 200 + (x4 + 7); omega) (by show ((j + 6 : Nat) : Int) ≤ 30000 + 6 * (x4 + 7); omega) (by omega)
theorem zl_4 {g : mm_G} {l : Launch} (hfl : l.flags = flags0) (hlen : g.2.2.2 997 ≤ 3584) (N : Nat) (ih : ∀ (x4 : Int) (S : zz_S) (n k j : Nat), zz_G S → zz_Hc S → zz_Hr S → 1 ≤ S 1079 36 → S 1070 1 = S 1079 28 → S 1031 6 = S 1079 1 → zz_end ≤ n → (0 ≤ x4 ∧ x4 ≤ 3590) → (k : Int) ≤ 200 + x4 → (j : Int) ≤ 30000 + 6 * x4 → (3600 - x4).toNat < N → zz_E g l zy_law_L room_1 (fun u => ∃ M1 n1, u = (.inl (some (zi 1)), M1, n1)) S n 23 [some (.ref 998), some (.ref 1000), some (.ref 1079), some (.ref 1121), some (zi x4)] [] k j) (x4 : Int) (S : zz_S) (n k j : Nat) (G_S : zz_G S) (H_S : zz_Hc S) (R_S : zz_Hr S) (O_S : 1 ≤ S 1079 36) (T0_S : S 1070 1 = S 1079 28) (T1_S : S 1031 6 = S 1079 1) (hn : zz_end ≤ n) (hx : 0 ≤ x4 ∧ x4 ≤ 3590) (hkk : (k : Int) ≤ 200 + x4) (hjj : (j : Int) ≤ 30000 + 6 * x4) (hR : (3600 - x4).toNat < N + 1) (hc1 : x4 ≤ zz_ln g - 7) : zz_E g l zy_law_L room_1 (fun u => ∃ M1 n1, u = (.inl (some (zi 1)), M1, n1)) S n 339 [some (.ref 998), some (.ref 1000), some (.ref 1079), some (.ref 1121), some (zi x4)] [] k j := by
  have hln : 0 ≤ zz_ln g ∧ zz_ln g ≤ 3584 := ⟨Int.natCast_nonneg _, Int.ofNat_le.mpr hlen⟩
  have hk : k ≤ 601024 := by omega
  have hj : j ≤ 7293034 := by omega
  refine zz_aload_n (x := 1000) rfl zd_L_law_339 ?_
  refine zz_aload_n (x := 998) rfl zd_L_law_340 ?_
  refine zz_iload (x := x4) rfl zd_L_law_341 ?_
  refine zz_iconst zd_L_law_343 ?_
  refine zz_iadd zd_L_law_344 ?_
  refine zz_sld (by omega) zd_L_law_345 (by omega) ?_
  have g102 := zz_sc_r g (x4 + 1).toNat
  refine zz_callHW (rz := zr_cut_L) [.ref 1000, zi (zz_sc g (x4 + 1).toNat)] zd_L_law_346 zhl_cut_L rfl rfl ⟨Nat.le_of_ble_eq_true rfl, Nat.le_of_ble_eq_true rfl⟩ (by show k + 1 ≤ 601024; omega) (by show j + 6 ≤ 7293034; omega) (zc_cut_L (zz_sc g (x4 + 1).toNat) S (n) hn hfl G_S (by omega)) (fun v104 S103 d105 hd105 hP => ?_)
  obtain ⟨G_S103, fS103, rv104⟩ := hP
  have hn106 : zz_end ≤ n + d105 := by omega
  have hk107 : (k + zr_cut_L.cells) ≤ 601024 := by show k + 1 ≤ 601024; omega
  have hj108 : (j + zr_cut_L.slots) ≤ 7293034 := by show j + 6 ≤ 7293034; omega
  have H_S103 : zz_Hc S103 := zz_Hc.fr (q := 0) fS103 rfl rfl G_S (by decide) rfl (fun b q h => h.elim) H_S
  have R_S103 : zz_Hr S103 := zz_Hr.fr fS103 rfl rfl (fun b q h => h.elim) R_S
  have O_S103 : 1 ≤ S103 1079 36 := by rw [show S103 1079 36 = S 1079 36 from zz_rc fS103 rfl rfl (fun h => h) rfl]; exact O_S
  refine zz_istore [some (.ref 998), some (.ref 1000), some (.ref 1079), some (.ref 1121), some (zi x4), some (zi v104)] zd_L_law_349 (by decide) rfl ?_
  refine zz_aload_n (x := 1079) rfl zd_L_law_351 ?_
  refine zz_aload_n (x := 998) rfl zd_L_law_352 ?_
  refine zz_iload (x := x4) rfl zd_L_law_353 ?_
  refine zz_iconst zd_L_law_355 ?_
  refine zz_iadd zd_L_law_356 ?_
  refine zz_sld (by omega) zd_L_law_357 (by omega) ?_
  refine zz_callVV [zi (zz_sc g (x4 + 1).toNat)] zd_L_law_358 zk_TFLaw_120 zT_1079 (zz_ltn hn106 rfl) rfl rfl ⟨Nat.le_of_ble_eq_true rfl, Nat.le_of_ble_eq_true rfl⟩ ⟨rfl, rfl⟩ hk107 hj108 (zc_cut_14_15 (zz_sc g (x4 + 1).toNat) S103 (n + d105) hn106 G_S103 (by omega)) (fun S109 hP => ?_)
  obtain ⟨G_S109, fS109⟩ := hP
  have H_S109 : zz_Hc S109 := zz_Hc.fr (q := 0) fS109 rfl rfl G_S103 (by decide) rfl (fun b q h => h.elim) H_S103
  have R_S109 : zz_Hr S109 := zz_Hr.fr fS109 rfl rfl (fun b q h => h.elim) R_S103
  have O_S109 : 1 ≤ S109 1079 36 := by rw [show S109 1079 36 = S103 1079 36 from zz_rc fS109 rfl rfl (fun h => h) rfl]; exact O_S103
  refine zz_goto zd_L_law_361 ?_
  refine zz_iinc [some (.ref 998), some (.ref 1000), some (.ref 1079), some (.ref 1121), some (zi (x4 + 7)), some (zi v104)] zd_L_law_1191 rfl rfl ?_
  refine zz_goto zd_L_law_1194 ?_
  refine zz_less (ls1 := [some (.ref 998), some (.ref 1000), some (.ref 1079), some (.ref 1121), some (zi (x4 + 7))]) ⟨rfl, ⟨rfl, ⟨rfl, ⟨rfl, ⟨rfl, trivial⟩⟩⟩⟩⟩ ?_
  have g111 := zz_G.r G_S 1070 1 0 1500 rfl rfl
  have e112 : S109 1070 1 = S 1070 1 := (zz_rc fS109 rfl rfl (fun h => h) (zz_rc fS103 rfl rfl (fun h => h) rfl))
  have g113 := zz_G.r G_S 1079 28 0 1500 rfl rfl
  have e114 : S109 1079 28 = S 1079 28 := (zz_rc fS109 rfl rfl (fun h => h) (zz_rc fS103 rfl rfl (fun h => h) rfl))
  have g115 := zz_G.r G_S 1031 6 2 8 rfl rfl
  have e116 : S109 1031 6 = S 1031 6 := (zz_rc fS109 rfl rfl (fun h => h) (zz_rc fS103 rfl rfl (fun h => h) rfl))
  have g117 := zz_G.r G_S 1079 1 2 8 rfl rfl
  have e118 : S109 1079 1 = S 1079 1 := (zz_rc fS109 rfl rfl (fun h => h) (zz_rc fS103 rfl rfl (fun h => h) rfl))
  exact ih (x4 + 7) S109 (n + d105) (k + zr_cut_L.cells) (j + zr_cut_L.slots) G_S109 H_S109 R_S109 O_S109 (by omega) (by omega) hn106 (by omega) (by show ((k + 1 : Nat) : Int) ≤ 200 + (x4 + 7); omega) (by show ((j + 6 : Nat) : Int) ≤ 30000 + 6 * (x4 + 7); omega) (by omega)
theorem zl_5 {g : mm_G} {l : Launch} (hfl : l.flags = flags0) (hlen : g.2.2.2 997 ≤ 3584) (N : Nat) (ih : ∀ (x4 : Int) (S : zz_S) (n k j : Nat), zz_G S → zz_Hc S → zz_Hr S → 1 ≤ S 1079 36 → S 1070 1 = S 1079 28 → S 1031 6 = S 1079 1 → zz_end ≤ n → (0 ≤ x4 ∧ x4 ≤ 3590) → (k : Int) ≤ 200 + x4 → (j : Int) ≤ 30000 + 6 * x4 → (3600 - x4).toNat < N → zz_E g l zy_law_L room_1 (fun u => ∃ M1 n1, u = (.inl (some (zi 1)), M1, n1)) S n 23 [some (.ref 998), some (.ref 1000), some (.ref 1079), some (.ref 1121), some (zi x4)] [] k j) (x4 : Int) (S : zz_S) (n k j : Nat) (G_S : zz_G S) (H_S : zz_Hc S) (R_S : zz_Hr S) (O_S : 1 ≤ S 1079 36) (T0_S : S 1070 1 = S 1079 28) (T1_S : S 1031 6 = S 1079 1) (hn : zz_end ≤ n) (hx : 0 ≤ x4 ∧ x4 ≤ 3590) (hkk : (k : Int) ≤ 200 + x4) (hjj : (j : Int) ≤ 30000 + 6 * x4) (hR : (3600 - x4).toNat < N + 1) (hc1 : x4 ≤ zz_ln g - 7) : zz_E g l zy_law_L room_1 (fun u => ∃ M1 n1, u = (.inl (some (zi 1)), M1, n1)) S n 364 [some (.ref 998), some (.ref 1000), some (.ref 1079), some (.ref 1121), some (zi x4)] [] k j := by
  have hln : 0 ≤ zz_ln g ∧ zz_ln g ≤ 3584 := ⟨Int.natCast_nonneg _, Int.ofNat_le.mpr hlen⟩
  have hk : k ≤ 601024 := by omega
  have hj : j ≤ 7293034 := by omega
  refine zz_aload_n (x := 1000) rfl zd_L_law_364 ?_
  refine zz_aload_n (x := 998) rfl zd_L_law_365 ?_
  refine zz_iload (x := x4) rfl zd_L_law_366 ?_
  refine zz_iconst zd_L_law_368 ?_
  refine zz_iadd zd_L_law_369 ?_
  refine zz_sld (by omega) zd_L_law_370 (by omega) ?_
  have g120 := zz_sc_r g (x4 + 1).toNat
  refine zz_aload_n (x := 1121) rfl zd_L_law_371 ?_
  refine zz_callHW (rz := zr_wordOf_L) [.ref 1000, zi (zz_sc g (x4 + 1).toNat), .ref 1121] zd_L_law_372 zhl_wordOf_L rfl rfl ⟨Nat.le_of_ble_eq_true rfl, Nat.le_of_ble_eq_true rfl⟩ (by show k + 1 ≤ 601024; omega) (by show j + 6 ≤ 7293034; omega) (zc_wordOf_L (zz_sc g (x4 + 1).toNat) S (n) hn hfl G_S (by omega)) (fun v122 S121 d123 hd123 hP => ?_)
  obtain ⟨G_S121, fS121, rv122⟩ := hP
  have hn124 : zz_end ≤ n + d123 := by omega
  have hk125 : (k + zr_wordOf_L.cells) ≤ 601024 := by show k + 1 ≤ 601024; omega
  have hj126 : (j + zr_wordOf_L.slots) ≤ 7293034 := by show j + 6 ≤ 7293034; omega
  have H_S121 : zz_Hc S121 := zz_Hc.fr (q := 0) fS121 rfl rfl G_S (by decide) rfl (fun b q h => h.elim) H_S
  have R_S121 : zz_Hr S121 := zz_Hr.fr fS121 rfl rfl (fun b q h => h.elim) R_S
  have O_S121 : 1 ≤ S121 1079 36 := by rw [show S121 1079 36 = S 1079 36 from zz_rc fS121 rfl rfl (fun h => h) rfl]; exact O_S
  refine zz_istore [some (.ref 998), some (.ref 1000), some (.ref 1079), some (.ref 1121), some (zi x4), some (zi v122)] zd_L_law_375 (by decide) rfl ?_
  refine zz_aload_n (x := 1079) rfl zd_L_law_377 ?_
  refine zz_aload_n (x := 998) rfl zd_L_law_378 ?_
  refine zz_iload (x := x4) rfl zd_L_law_379 ?_
  refine zz_iconst zd_L_law_381 ?_
  refine zz_iadd zd_L_law_382 ?_
  refine zz_sld (by omega) zd_L_law_383 (by omega) ?_
  refine zz_callVJ [zi (zz_sc g (x4 + 1).toNat)] zd_L_law_384 zk_TFLaw_124 zT_1079 (zz_ltn hn124 rfl) rfl rfl ⟨Nat.le_of_ble_eq_true rfl, Nat.le_of_ble_eq_true rfl⟩ ⟨rfl, rfl⟩ hk125 hj126 (zc_wordOf_14_16 (zz_sc g (x4 + 1).toNat) S121 (n + d123) hn124 G_S121 (by omega)) (fun v128 S127 hP => ?_)
  obtain ⟨G_S127, fS127, o129⟩ := hP
  have H_S127 : zz_Hc S127 := zz_Hc.fr (q := 0) fS127 rfl rfl G_S121 (by decide) rfl (fun b q h => h.elim) H_S121
  have R_S127 : zz_Hr S127 := zz_Hr.fr fS127 rfl rfl (fun b q h => h.elim) R_S121
  have O_S127 : 1 ≤ S127 1079 36 := by rw [show S127 1079 36 = S121 1079 36 from zz_rc fS127 rfl rfl (fun h => h) rfl]; exact O_S121
  refine zz_lstore [some (.ref 998), some (.ref 1000), some (.ref 1079), some (.ref 1121), some (zi x4), some (zi v122), some (zl v128), none] zd_L_law_387 (by decide) rfl ?_
  refine zz_goto zd_L_law_389 ?_
  refine zz_iinc [some (.ref 998), some (.ref 1000), some (.ref 1079), some (.ref 1121), some (zi (x4 + 7)), some (zi v122), some (zl v128), none] zd_L_law_1191 rfl rfl ?_
  refine zz_goto zd_L_law_1194 ?_
  refine zz_less (ls1 := [some (.ref 998), some (.ref 1000), some (.ref 1079), some (.ref 1121), some (zi (x4 + 7))]) ⟨rfl, ⟨rfl, ⟨rfl, ⟨rfl, ⟨rfl, trivial⟩⟩⟩⟩⟩ ?_
  have g130 := zz_G.r G_S 1070 1 0 1500 rfl rfl
  have e131 : S127 1070 1 = S 1070 1 := (zz_rc fS127 rfl rfl (fun h => h) (zz_rc fS121 rfl rfl (fun h => h) rfl))
  have g132 := zz_G.r G_S 1079 28 0 1500 rfl rfl
  have e133 : S127 1079 28 = S 1079 28 := (zz_rc fS127 rfl rfl (fun h => h) (zz_rc fS121 rfl rfl (fun h => h) rfl))
  have g134 := zz_G.r G_S 1031 6 2 8 rfl rfl
  have e135 : S127 1031 6 = S 1031 6 := (zz_rc fS127 rfl rfl (fun h => h) (zz_rc fS121 rfl rfl (fun h => h) rfl))
  have g136 := zz_G.r G_S 1079 1 2 8 rfl rfl
  have e137 : S127 1079 1 = S 1079 1 := (zz_rc fS127 rfl rfl (fun h => h) (zz_rc fS121 rfl rfl (fun h => h) rfl))
  exact ih (x4 + 7) S127 (n + d123) (k + zr_wordOf_L.cells) (j + zr_wordOf_L.slots) G_S127 H_S127 R_S127 O_S127 (by omega) (by omega) hn124 (by omega) (by show ((k + 1 : Nat) : Int) ≤ 200 + (x4 + 7); omega) (by show ((j + 6 : Nat) : Int) ≤ 30000 + 6 * (x4 + 7); omega) (by omega)
theorem zl_6 {g : mm_G} {l : Launch} (hfl : l.flags = flags0) (hlen : g.2.2.2 997 ≤ 3584) (N : Nat) (ih : ∀ (x4 : Int) (S : zz_S) (n k j : Nat), zz_G S → zz_Hc S → zz_Hr S → 1 ≤ S 1079 36 → S 1070 1 = S 1079 28 → S 1031 6 = S 1079 1 → zz_end ≤ n → (0 ≤ x4 ∧ x4 ≤ 3590) → (k : Int) ≤ 200 + x4 → (j : Int) ≤ 30000 + 6 * x4 → (3600 - x4).toNat < N → zz_E g l zy_law_L room_1 (fun u => ∃ M1 n1, u = (.inl (some (zi 1)), M1, n1)) S n 23 [some (.ref 998), some (.ref 1000), some (.ref 1079), some (.ref 1121), some (zi x4)] [] k j) (x4 : Int) (S : zz_S) (n k j : Nat) (G_S : zz_G S) (H_S : zz_Hc S) (R_S : zz_Hr S) (O_S : 1 ≤ S 1079 36) (T0_S : S 1070 1 = S 1079 28) (T1_S : S 1031 6 = S 1079 1) (hn : zz_end ≤ n) (hx : 0 ≤ x4 ∧ x4 ≤ 3590) (hkk : (k : Int) ≤ 200 + x4) (hjj : (j : Int) ≤ 30000 + 6 * x4) (hR : (3600 - x4).toNat < N + 1) (hc1 : x4 ≤ zz_ln g - 7) : zz_E g l zy_law_L room_1 (fun u => ∃ M1 n1, u = (.inl (some (zi 1)), M1, n1)) S n 392 [some (.ref 998), some (.ref 1000), some (.ref 1079), some (.ref 1121), some (zi x4)] [] k j := by
  have hln : 0 ≤ zz_ln g ∧ zz_ln g ≤ 3584 := ⟨Int.natCast_nonneg _, Int.ofNat_le.mpr hlen⟩
  have hk : k ≤ 601024 := by omega
  have hj : j ≤ 7293034 := by omega
  refine zz_aload_n (x := 1000) rfl zd_L_law_392 ?_
  refine zz_callVI [] zd_L_law_393 zk_TFLaw_125 zT_1000 (zz_ltn hn rfl) rfl rfl ⟨Nat.le_of_ble_eq_true rfl, Nat.le_of_ble_eq_true rfl⟩ ⟨rfl, rfl⟩ hk hj (zc_length_1_8  S (n) hn G_S ) (fun v140 S139 hP => ?_)
  obtain ⟨rfl, o141⟩ := hP
  refine zz_pop rfl zd_L_law_396 ?_
  refine zz_aload_n (x := 1079) rfl zd_L_law_397 ?_
  refine zz_callVI [] zd_L_law_398 zk_TFLaw_128 zT_1079 (zz_ltn hn rfl) rfl rfl ⟨Nat.le_of_ble_eq_true rfl, Nat.le_of_ble_eq_true rfl⟩ ⟨rfl, rfl⟩ hk hj (zc_length_14_17  S (n) hn G_S ) (fun v143 S142 hP => ?_)
  obtain ⟨G_S142, fS142, o144⟩ := hP
  have H_S142 : zz_Hc S142 := zz_Hc.fr (q := 0) fS142 rfl rfl G_S (by decide) rfl (fun b q h => h.elim) H_S
  have R_S142 : zz_Hr S142 := zz_Hr.fr fS142 rfl rfl (fun b q h => h.elim) R_S
  have O_S142 : 1 ≤ S142 1079 36 := by rw [show S142 1079 36 = S 1079 36 from zz_rc fS142 rfl rfl (fun h => h) rfl]; exact O_S
  refine zz_pop rfl zd_L_law_401 ?_
  refine zz_goto zd_L_law_402 ?_
  refine zz_iinc [some (.ref 998), some (.ref 1000), some (.ref 1079), some (.ref 1121), some (zi (x4 + 7))] zd_L_law_1191 rfl rfl ?_
  refine zz_goto zd_L_law_1194 ?_
  refine zz_less (ls1 := [some (.ref 998), some (.ref 1000), some (.ref 1079), some (.ref 1121), some (zi (x4 + 7))]) ⟨rfl, ⟨rfl, ⟨rfl, ⟨rfl, ⟨rfl, trivial⟩⟩⟩⟩⟩ ?_
  have g145 := zz_G.r G_S 1070 1 0 1500 rfl rfl
  have e146 : S142 1070 1 = S 1070 1 := (zz_rc fS142 rfl rfl (fun h => h) rfl)
  have g147 := zz_G.r G_S 1079 28 0 1500 rfl rfl
  have e148 : S142 1079 28 = S 1079 28 := (zz_rc fS142 rfl rfl (fun h => h) rfl)
  have g149 := zz_G.r G_S 1031 6 2 8 rfl rfl
  have e150 : S142 1031 6 = S 1031 6 := (zz_rc fS142 rfl rfl (fun h => h) rfl)
  have g151 := zz_G.r G_S 1079 1 2 8 rfl rfl
  have e152 : S142 1079 1 = S 1079 1 := (zz_rc fS142 rfl rfl (fun h => h) rfl)
  exact ih (x4 + 7) S142 (n) k j G_S142 H_S142 R_S142 O_S142 (by omega) (by omega) hn (by omega) (by show ((k : Nat) : Int) ≤ 200 + (x4 + 7); omega) (by show ((j : Nat) : Int) ≤ 30000 + 6 * (x4 + 7); omega) (by omega)
theorem zl_7 {g : mm_G} {l : Launch} (hfl : l.flags = flags0) (hlen : g.2.2.2 997 ≤ 3584) (N : Nat) (ih : ∀ (x4 : Int) (S : zz_S) (n k j : Nat), zz_G S → zz_Hc S → zz_Hr S → 1 ≤ S 1079 36 → S 1070 1 = S 1079 28 → S 1031 6 = S 1079 1 → zz_end ≤ n → (0 ≤ x4 ∧ x4 ≤ 3590) → (k : Int) ≤ 200 + x4 → (j : Int) ≤ 30000 + 6 * x4 → (3600 - x4).toNat < N → zz_E g l zy_law_L room_1 (fun u => ∃ M1 n1, u = (.inl (some (zi 1)), M1, n1)) S n 23 [some (.ref 998), some (.ref 1000), some (.ref 1079), some (.ref 1121), some (zi x4)] [] k j) (x4 : Int) (S : zz_S) (n k j : Nat) (G_S : zz_G S) (H_S : zz_Hc S) (R_S : zz_Hr S) (O_S : 1 ≤ S 1079 36) (T0_S : S 1070 1 = S 1079 28) (T1_S : S 1031 6 = S 1079 1) (hn : zz_end ≤ n) (hx : 0 ≤ x4 ∧ x4 ≤ 3590) (hkk : (k : Int) ≤ 200 + x4) (hjj : (j : Int) ≤ 30000 + 6 * x4) (hR : (3600 - x4).toNat < N + 1) (hc1 : x4 ≤ zz_ln g - 7) : zz_E g l zy_law_L room_1 (fun u => ∃ M1 n1, u = (.inl (some (zi 1)), M1, n1)) S n 405 [some (.ref 998), some (.ref 1000), some (.ref 1079), some (.ref 1121), some (zi x4)] [] k j := by
  have hln : 0 ≤ zz_ln g ∧ zz_ln g ≤ 3584 := ⟨Int.natCast_nonneg _, Int.ofNat_le.mpr hlen⟩
  have hk : k ≤ 601024 := by omega
  have hj : j ≤ 7293034 := by omega
  refine zz_aload_n (x := 1000) rfl zd_L_law_405 ?_
  refine zz_aload_n (x := 998) rfl zd_L_law_406 ?_
  refine zz_iload (x := x4) rfl zd_L_law_407 ?_
  refine zz_iconst zd_L_law_409 ?_
  refine zz_iadd zd_L_law_410 ?_
  refine zz_sld (by omega) zd_L_law_411 (by omega) ?_
  have g154 := zz_sc_r g (x4 + 1).toNat
  refine zz_i2l (by omega) zd_L_law_412 ?_
  refine zz_bipush (by decide) zd_L_law_413 ?_
  refine zz_lshl zd_L_law_415 (fun v155 hv155 ev155 => ?_)
  refine zz_aload_n (x := 998) rfl zd_L_law_416 ?_
  refine zz_iload (x := x4) rfl zd_L_law_417 ?_
  refine zz_iconst zd_L_law_419 ?_
  refine zz_iadd zd_L_law_420 ?_
  refine zz_sld (by omega) zd_L_law_421 (by omega) ?_
  have g156 := zz_sc_r g (x4 + 2).toNat
  refine zz_i2l (by omega) zd_L_law_422 ?_
  refine zz_ldc2 (z := 4294967295) zq_TFLaw_112 (by decide) zd_L_law_423 ?_
  refine zz_land zd_L_law_426 (fun v157 hv157 ev157 => ?_)
  have av157 := zz_band64 (by omega) (by omega) ev157
  refine zz_lor zd_L_law_427 (fun v158 hv158 ev158 => ?_)
  refine zz_aload_n (x := 998) rfl zd_L_law_428 ?_
  refine zz_iload (x := x4) rfl zd_L_law_429 ?_
  refine zz_iconst zd_L_law_431 ?_
  refine zz_iadd zd_L_law_432 ?_
  refine zz_sld (by omega) zd_L_law_433 (by omega) ?_
  have g159 := zz_sc_r g (x4 + 3).toNat
  refine zz_aload_n (x := 1121) rfl zd_L_law_434 ?_
  refine zz_callHW (rz := zr_field_L) [.ref 1000, zl v158, zi (zz_sc g (x4 + 3).toNat), .ref 1121] zd_L_law_435 zhl_field_L rfl rfl ⟨Nat.le_of_ble_eq_true rfl, Nat.le_of_ble_eq_true rfl⟩ (by show k + 1 ≤ 601024; omega) (by show j + 6 ≤ 7293034; omega) (zc_field_L v158 (zz_sc g (x4 + 3).toNat) S (n) hn hfl G_S (by omega) (by omega)) (fun v161 S160 d162 hd162 hP => ?_)
  obtain ⟨G_S160, fS160, rv161, o163, o164⟩ := hP
  have hn165 : zz_end ≤ n + d162 := by omega
  have hk166 : (k + zr_field_L.cells) ≤ 601024 := by show k + 1 ≤ 601024; omega
  have hj167 : (j + zr_field_L.slots) ≤ 7293034 := by show j + 6 ≤ 7293034; omega
  have H_S160 : zz_Hc S160 := zz_Hc.fr (q := 0) fS160 rfl rfl G_S (by decide) rfl (fun b q h => h.elim) H_S
  have R_S160 : zz_Hr S160 := zz_Hr.fr fS160 rfl rfl (fun b q h => h.elim) R_S
  have O_S160 : 1 ≤ S160 1079 36 := by rw [show S160 1079 36 = S 1079 36 from zz_rc fS160 rfl rfl (fun h => h) rfl]; exact O_S
  refine zz_istore [some (.ref 998), some (.ref 1000), some (.ref 1079), some (.ref 1121), some (zi x4), some (zi v161)] zd_L_law_438 (by decide) rfl ?_
  refine zz_aload_n (x := 1079) rfl zd_L_law_440 ?_
  refine zz_aload_n (x := 998) rfl zd_L_law_441 ?_
  refine zz_iload (x := x4) rfl zd_L_law_442 ?_
  refine zz_iconst zd_L_law_444 ?_
  refine zz_iadd zd_L_law_445 ?_
  refine zz_sld (by omega) zd_L_law_446 (by omega) ?_
  refine zz_i2l (by omega) zd_L_law_447 ?_
  refine zz_bipush (by decide) zd_L_law_448 ?_
  refine zz_lshl zd_L_law_450 (fun v168 hv168 ev168 => ?_)
  refine zz_aload_n (x := 998) rfl zd_L_law_451 ?_
  refine zz_iload (x := x4) rfl zd_L_law_452 ?_
  refine zz_iconst zd_L_law_454 ?_
  refine zz_iadd zd_L_law_455 ?_
  refine zz_sld (by omega) zd_L_law_456 (by omega) ?_
  refine zz_i2l (by omega) zd_L_law_457 ?_
  refine zz_ldc2 (z := 4294967295) zq_TFLaw_112 (by decide) zd_L_law_458 ?_
  refine zz_land zd_L_law_461 (fun v169 hv169 ev169 => ?_)
  have av169 := zz_band64 (by omega) (by omega) ev169
  refine zz_lor zd_L_law_462 (fun v170 hv170 ev170 => ?_)
  refine zz_aload_n (x := 998) rfl zd_L_law_463 ?_
  refine zz_iload (x := x4) rfl zd_L_law_464 ?_
  refine zz_iconst zd_L_law_466 ?_
  refine zz_iadd zd_L_law_467 ?_
  refine zz_sld (by omega) zd_L_law_468 (by omega) ?_
  refine zz_callVI [zl v170, zi (zz_sc g (x4 + 3).toNat)] zd_L_law_469 zk_TFLaw_132 zT_1079 (zz_ltn hn165 rfl) rfl rfl ⟨Nat.le_of_ble_eq_true rfl, Nat.le_of_ble_eq_true rfl⟩ ⟨rfl, rfl⟩ hk166 hj167 (zc_field_14_13 v170 (zz_sc g (x4 + 3).toNat) S160 (n + d162) hn165 G_S160 (by omega) (by omega)) (fun v172 S171 hP => ?_)
  obtain ⟨G_S171, fS171, o173, o174, o175⟩ := hP
  have H_S171 : zz_Hc S171 := zz_Hc.fr (q := 0) fS171 rfl rfl G_S160 (by decide) rfl (fun b q h => h.elim) H_S160
  have R_S171 : zz_Hr S171 := zz_Hr.fr fS171 rfl rfl (fun b q h => h.elim) R_S160
  have O_S171 : 1 ≤ S171 1079 36 := by rw [show S171 1079 36 = S160 1079 36 from zz_rc fS171 rfl rfl (fun h => h) rfl]; exact O_S160
  refine zz_istore [some (.ref 998), some (.ref 1000), some (.ref 1079), some (.ref 1121), some (zi x4), some (zi v161), some (zi v172)] zd_L_law_472 (by decide) rfl ?_
  refine zz_goto zd_L_law_474 ?_
  refine zz_iinc [some (.ref 998), some (.ref 1000), some (.ref 1079), some (.ref 1121), some (zi (x4 + 7)), some (zi v161), some (zi v172)] zd_L_law_1191 rfl rfl ?_
  refine zz_goto zd_L_law_1194 ?_
  refine zz_less (ls1 := [some (.ref 998), some (.ref 1000), some (.ref 1079), some (.ref 1121), some (zi (x4 + 7))]) ⟨rfl, ⟨rfl, ⟨rfl, ⟨rfl, ⟨rfl, trivial⟩⟩⟩⟩⟩ ?_
  have g176 := zz_G.r G_S 1070 1 0 1500 rfl rfl
  have e177 : S171 1070 1 = S 1070 1 := (zz_rc fS171 rfl rfl (fun h => h) (zz_rc fS160 rfl rfl (fun h => h) rfl))
  have g178 := zz_G.r G_S 1079 28 0 1500 rfl rfl
  have e179 : S171 1079 28 = S 1079 28 := (zz_rc fS171 rfl rfl (fun h => h) (zz_rc fS160 rfl rfl (fun h => h) rfl))
  have g180 := zz_G.r G_S 1031 6 2 8 rfl rfl
  have e181 : S171 1031 6 = S 1031 6 := (zz_rc fS171 rfl rfl (fun h => h) (zz_rc fS160 rfl rfl (fun h => h) rfl))
  have g182 := zz_G.r G_S 1079 1 2 8 rfl rfl
  have e183 : S171 1079 1 = S 1079 1 := (zz_rc fS171 rfl rfl (fun h => h) (zz_rc fS160 rfl rfl (fun h => h) rfl))
  exact ih (x4 + 7) S171 (n + d162) (k + zr_field_L.cells) (j + zr_field_L.slots) G_S171 H_S171 R_S171 O_S171 (by omega) (by omega) hn165 (by omega) (by show ((k + 1 : Nat) : Int) ≤ 200 + (x4 + 7); omega) (by show ((j + 6 : Nat) : Int) ≤ 30000 + 6 * (x4 + 7); omega) (by omega)
theorem zl_8 {g : mm_G} {l : Launch} (hfl : l.flags = flags0) (hlen : g.2.2.2 997 ≤ 3584) (N : Nat) (ih : ∀ (x4 : Int) (S : zz_S) (n k j : Nat), zz_G S → zz_Hc S → zz_Hr S → 1 ≤ S 1079 36 → S 1070 1 = S 1079 28 → S 1031 6 = S 1079 1 → zz_end ≤ n → (0 ≤ x4 ∧ x4 ≤ 3590) → (k : Int) ≤ 200 + x4 → (j : Int) ≤ 30000 + 6 * x4 → (3600 - x4).toNat < N → zz_E g l zy_law_L room_1 (fun u => ∃ M1 n1, u = (.inl (some (zi 1)), M1, n1)) S n 23 [some (.ref 998), some (.ref 1000), some (.ref 1079), some (.ref 1121), some (zi x4)] [] k j) (x4 : Int) (S : zz_S) (n k j : Nat) (G_S : zz_G S) (H_S : zz_Hc S) (R_S : zz_Hr S) (O_S : 1 ≤ S 1079 36) (T0_S : S 1070 1 = S 1079 28) (T1_S : S 1031 6 = S 1079 1) (hn : zz_end ≤ n) (hx : 0 ≤ x4 ∧ x4 ≤ 3590) (hkk : (k : Int) ≤ 200 + x4) (hjj : (j : Int) ≤ 30000 + 6 * x4) (hR : (3600 - x4).toNat < N + 1) (hc1 : x4 ≤ zz_ln g - 7) : zz_E g l zy_law_L room_1 (fun u => ∃ M1 n1, u = (.inl (some (zi 1)), M1, n1)) S n 477 [some (.ref 998), some (.ref 1000), some (.ref 1079), some (.ref 1121), some (zi x4)] [] k j := by
  have hln : 0 ≤ zz_ln g ∧ zz_ln g ≤ 3584 := ⟨Int.natCast_nonneg _, Int.ofNat_le.mpr hlen⟩
  have hk : k ≤ 601024 := by omega
  have hj : j ≤ 7293034 := by omega
  refine zz_aload_n (x := 1000) rfl zd_L_law_477 ?_
  refine zz_aload_n (x := 998) rfl zd_L_law_478 ?_
  refine zz_iload (x := x4) rfl zd_L_law_479 ?_
  refine zz_iconst zd_L_law_481 ?_
  refine zz_iadd zd_L_law_482 ?_
  refine zz_sld (by omega) zd_L_law_483 (by omega) ?_
  have g185 := zz_sc_r g (x4 + 1).toNat
  refine zz_i2l (by omega) zd_L_law_484 ?_
  refine zz_bipush (by decide) zd_L_law_485 ?_
  refine zz_lshl zd_L_law_487 (fun v186 hv186 ev186 => ?_)
  refine zz_aload_n (x := 998) rfl zd_L_law_488 ?_
  refine zz_iload (x := x4) rfl zd_L_law_489 ?_
  refine zz_iconst zd_L_law_491 ?_
  refine zz_iadd zd_L_law_492 ?_
  refine zz_sld (by omega) zd_L_law_493 (by omega) ?_
  have g187 := zz_sc_r g (x4 + 2).toNat
  refine zz_i2l (by omega) zd_L_law_494 ?_
  refine zz_ldc2 (z := 4294967295) zq_TFLaw_112 (by decide) zd_L_law_495 ?_
  refine zz_land zd_L_law_498 (fun v188 hv188 ev188 => ?_)
  have av188 := zz_band64 (by omega) (by omega) ev188
  refine zz_lor zd_L_law_499 (fun v189 hv189 ev189 => ?_)
  refine zz_callVI [zl v189] zd_L_law_500 zk_TFLaw_133 zT_1000 (zz_ltn hn rfl) rfl rfl ⟨Nat.le_of_ble_eq_true rfl, Nat.le_of_ble_eq_true rfl⟩ ⟨rfl, rfl⟩ hk hj (zc_illegal_1_10 v189 S (n) hn G_S (by omega)) (fun v191 S190 hP => ?_)
  obtain ⟨G_S190, fS190, o192⟩ := hP
  have H_S190 : zz_Hc S190 := zz_Hc.fr (q := 0) fS190 rfl rfl G_S (by decide) rfl (fun b q h => h.elim) H_S
  have R_S190 : zz_Hr S190 := zz_Hr.fr fS190 rfl rfl (fun b q h => h.elim) R_S
  have O_S190 : 1 ≤ S190 1079 36 := by rw [show S190 1079 36 = S 1079 36 from zz_rc fS190 rfl rfl (fun h => h) rfl]; exact O_S
  rcases (by omega : v191 = 0 ∨ v191 = 1) with rfl | rfl
  · refine zz_pop rfl zd_L_law_503 ?_
    refine zz_aload_n (x := 1079) rfl zd_L_law_504 ?_
    refine zz_aload_n (x := 998) rfl zd_L_law_505 ?_
    refine zz_iload (x := x4) rfl zd_L_law_506 ?_
    refine zz_iconst zd_L_law_508 ?_
    refine zz_iadd zd_L_law_509 ?_
    refine zz_sld (by omega) zd_L_law_510 (by omega) ?_
    refine zz_i2l (by omega) zd_L_law_511 ?_
    refine zz_bipush (by decide) zd_L_law_512 ?_
    refine zz_lshl zd_L_law_514 (fun v193 hv193 ev193 => ?_)
    refine zz_aload_n (x := 998) rfl zd_L_law_515 ?_
    refine zz_iload (x := x4) rfl zd_L_law_516 ?_
    refine zz_iconst zd_L_law_518 ?_
    refine zz_iadd zd_L_law_519 ?_
    refine zz_sld (by omega) zd_L_law_520 (by omega) ?_
    refine zz_i2l (by omega) zd_L_law_521 ?_
    refine zz_ldc2 (z := 4294967295) zq_TFLaw_112 (by decide) zd_L_law_522 ?_
    refine zz_land zd_L_law_525 (fun v194 hv194 ev194 => ?_)
    have av194 := zz_band64 (by omega) (by omega) ev194
    refine zz_lor zd_L_law_526 (fun v195 hv195 ev195 => ?_)
    refine zz_callVI [zl v195] zd_L_law_527 zk_TFLaw_137 zT_1079 (zz_ltn hn rfl) rfl rfl ⟨Nat.le_of_ble_eq_true rfl, Nat.le_of_ble_eq_true rfl⟩ ⟨rfl, rfl⟩ hk hj (zc_illegal_14_25 v195 S190 (n) hn G_S190 (by omega)) (fun v197 S196 hP => ?_)
    obtain ⟨G_S196, fS196, o198⟩ := hP
    have H_S196 : zz_Hc S196 := zz_Hc.fr (q := 0) fS196 rfl rfl G_S190 (by decide) rfl (fun b q h => h.elim) H_S190
    have R_S196 : zz_Hr S196 := zz_Hr.fr fS196 rfl rfl (fun b q h => h.elim) R_S190
    have O_S196 : 1 ≤ S196 1079 36 := by rw [show S196 1079 36 = S190 1079 36 from zz_rc fS196 rfl rfl (fun h => h) rfl]; exact O_S190
    rcases (by omega : v197 = 0 ∨ v197 = 1) with rfl | rfl
    · refine zz_pop rfl zd_L_law_530 ?_
      refine zz_goto zd_L_law_531 ?_
      refine zz_iinc [some (.ref 998), some (.ref 1000), some (.ref 1079), some (.ref 1121), some (zi (x4 + 7))] zd_L_law_1191 rfl rfl ?_
      refine zz_goto zd_L_law_1194 ?_
      refine zz_less (ls1 := [some (.ref 998), some (.ref 1000), some (.ref 1079), some (.ref 1121), some (zi (x4 + 7))]) ⟨rfl, ⟨rfl, ⟨rfl, ⟨rfl, ⟨rfl, trivial⟩⟩⟩⟩⟩ ?_
      have g199 := zz_G.r G_S 1070 1 0 1500 rfl rfl
      have e200 : S196 1070 1 = S 1070 1 := (zz_rc fS196 rfl rfl (fun h => h) (zz_rc fS190 rfl rfl (fun h => h) rfl))
      have g201 := zz_G.r G_S 1079 28 0 1500 rfl rfl
      have e202 : S196 1079 28 = S 1079 28 := (zz_rc fS196 rfl rfl (fun h => h) (zz_rc fS190 rfl rfl (fun h => h) rfl))
      have g203 := zz_G.r G_S 1031 6 2 8 rfl rfl
      have e204 : S196 1031 6 = S 1031 6 := (zz_rc fS196 rfl rfl (fun h => h) (zz_rc fS190 rfl rfl (fun h => h) rfl))
      have g205 := zz_G.r G_S 1079 1 2 8 rfl rfl
      have e206 : S196 1079 1 = S 1079 1 := (zz_rc fS196 rfl rfl (fun h => h) (zz_rc fS190 rfl rfl (fun h => h) rfl))
      exact ih (x4 + 7) S196 (n) k j G_S196 H_S196 R_S196 O_S196 (by omega) (by omega) hn (by omega) (by show ((k : Nat) : Int) ≤ 200 + (x4 + 7); omega) (by show ((j : Nat) : Int) ≤ 30000 + 6 * (x4 + 7); omega) (by omega)
    · refine zz_pop rfl zd_L_law_530 ?_
      refine zz_goto zd_L_law_531 ?_
      refine zz_iinc [some (.ref 998), some (.ref 1000), some (.ref 1079), some (.ref 1121), some (zi (x4 + 7))] zd_L_law_1191 rfl rfl ?_
      refine zz_goto zd_L_law_1194 ?_
      refine zz_less (ls1 := [some (.ref 998), some (.ref 1000), some (.ref 1079), some (.ref 1121), some (zi (x4 + 7))]) ⟨rfl, ⟨rfl, ⟨rfl, ⟨rfl, ⟨rfl, trivial⟩⟩⟩⟩⟩ ?_
      have g207 := zz_G.r G_S 1070 1 0 1500 rfl rfl
      have e208 : S196 1070 1 = S 1070 1 := (zz_rc fS196 rfl rfl (fun h => h) (zz_rc fS190 rfl rfl (fun h => h) rfl))
      have g209 := zz_G.r G_S 1079 28 0 1500 rfl rfl
      have e210 : S196 1079 28 = S 1079 28 := (zz_rc fS196 rfl rfl (fun h => h) (zz_rc fS190 rfl rfl (fun h => h) rfl))
      have g211 := zz_G.r G_S 1031 6 2 8 rfl rfl
      have e212 : S196 1031 6 = S 1031 6 := (zz_rc fS196 rfl rfl (fun h => h) (zz_rc fS190 rfl rfl (fun h => h) rfl))
      have g213 := zz_G.r G_S 1079 1 2 8 rfl rfl
      have e214 : S196 1079 1 = S 1079 1 := (zz_rc fS196 rfl rfl (fun h => h) (zz_rc fS190 rfl rfl (fun h => h) rfl))
      exact ih (x4 + 7) S196 (n) k j G_S196 H_S196 R_S196 O_S196 (by omega) (by omega) hn (by omega) (by show ((k : Nat) : Int) ≤ 200 + (x4 + 7); omega) (by show ((j : Nat) : Int) ≤ 30000 + 6 * (x4 + 7); omega) (by omega)
  · refine zz_pop rfl zd_L_law_503 ?_
    refine zz_aload_n (x := 1079) rfl zd_L_law_504 ?_
    refine zz_aload_n (x := 998) rfl zd_L_law_505 ?_
    refine zz_iload (x := x4) rfl zd_L_law_506 ?_
    refine zz_iconst zd_L_law_508 ?_
    refine zz_iadd zd_L_law_509 ?_
    refine zz_sld (by omega) zd_L_law_510 (by omega) ?_
    refine zz_i2l (by omega) zd_L_law_511 ?_
    refine zz_bipush (by decide) zd_L_law_512 ?_
    refine zz_lshl zd_L_law_514 (fun v215 hv215 ev215 => ?_)
    refine zz_aload_n (x := 998) rfl zd_L_law_515 ?_
    refine zz_iload (x := x4) rfl zd_L_law_516 ?_
    refine zz_iconst zd_L_law_518 ?_
    refine zz_iadd zd_L_law_519 ?_
    refine zz_sld (by omega) zd_L_law_520 (by omega) ?_
    refine zz_i2l (by omega) zd_L_law_521 ?_
    refine zz_ldc2 (z := 4294967295) zq_TFLaw_112 (by decide) zd_L_law_522 ?_
    refine zz_land zd_L_law_525 (fun v216 hv216 ev216 => ?_)
    have av216 := zz_band64 (by omega) (by omega) ev216
    refine zz_lor zd_L_law_526 (fun v217 hv217 ev217 => ?_)
    refine zz_callVI [zl v217] zd_L_law_527 zk_TFLaw_137 zT_1079 (zz_ltn hn rfl) rfl rfl ⟨Nat.le_of_ble_eq_true rfl, Nat.le_of_ble_eq_true rfl⟩ ⟨rfl, rfl⟩ hk hj (zc_illegal_14_25 v217 S190 (n) hn G_S190 (by omega)) (fun v219 S218 hP => ?_)
    obtain ⟨G_S218, fS218, o220⟩ := hP
    have H_S218 : zz_Hc S218 := zz_Hc.fr (q := 0) fS218 rfl rfl G_S190 (by decide) rfl (fun b q h => h.elim) H_S190
    have R_S218 : zz_Hr S218 := zz_Hr.fr fS218 rfl rfl (fun b q h => h.elim) R_S190
    have O_S218 : 1 ≤ S218 1079 36 := by rw [show S218 1079 36 = S190 1079 36 from zz_rc fS218 rfl rfl (fun h => h) rfl]; exact O_S190
    rcases (by omega : v219 = 0 ∨ v219 = 1) with rfl | rfl
    · refine zz_pop rfl zd_L_law_530 ?_
      refine zz_goto zd_L_law_531 ?_
      refine zz_iinc [some (.ref 998), some (.ref 1000), some (.ref 1079), some (.ref 1121), some (zi (x4 + 7))] zd_L_law_1191 rfl rfl ?_
      refine zz_goto zd_L_law_1194 ?_
      refine zz_less (ls1 := [some (.ref 998), some (.ref 1000), some (.ref 1079), some (.ref 1121), some (zi (x4 + 7))]) ⟨rfl, ⟨rfl, ⟨rfl, ⟨rfl, ⟨rfl, trivial⟩⟩⟩⟩⟩ ?_
      have g221 := zz_G.r G_S 1070 1 0 1500 rfl rfl
      have e222 : S218 1070 1 = S 1070 1 := (zz_rc fS218 rfl rfl (fun h => h) (zz_rc fS190 rfl rfl (fun h => h) rfl))
      have g223 := zz_G.r G_S 1079 28 0 1500 rfl rfl
      have e224 : S218 1079 28 = S 1079 28 := (zz_rc fS218 rfl rfl (fun h => h) (zz_rc fS190 rfl rfl (fun h => h) rfl))
      have g225 := zz_G.r G_S 1031 6 2 8 rfl rfl
      have e226 : S218 1031 6 = S 1031 6 := (zz_rc fS218 rfl rfl (fun h => h) (zz_rc fS190 rfl rfl (fun h => h) rfl))
      have g227 := zz_G.r G_S 1079 1 2 8 rfl rfl
      have e228 : S218 1079 1 = S 1079 1 := (zz_rc fS218 rfl rfl (fun h => h) (zz_rc fS190 rfl rfl (fun h => h) rfl))
      exact ih (x4 + 7) S218 (n) k j G_S218 H_S218 R_S218 O_S218 (by omega) (by omega) hn (by omega) (by show ((k : Nat) : Int) ≤ 200 + (x4 + 7); omega) (by show ((j : Nat) : Int) ≤ 30000 + 6 * (x4 + 7); omega) (by omega)
    · refine zz_pop rfl zd_L_law_530 ?_
      refine zz_goto zd_L_law_531 ?_
      refine zz_iinc [some (.ref 998), some (.ref 1000), some (.ref 1079), some (.ref 1121), some (zi (x4 + 7))] zd_L_law_1191 rfl rfl ?_
      refine zz_goto zd_L_law_1194 ?_
      refine zz_less (ls1 := [some (.ref 998), some (.ref 1000), some (.ref 1079), some (.ref 1121), some (zi (x4 + 7))]) ⟨rfl, ⟨rfl, ⟨rfl, ⟨rfl, ⟨rfl, trivial⟩⟩⟩⟩⟩ ?_
      have g229 := zz_G.r G_S 1070 1 0 1500 rfl rfl
      have e230 : S218 1070 1 = S 1070 1 := (zz_rc fS218 rfl rfl (fun h => h) (zz_rc fS190 rfl rfl (fun h => h) rfl))
      have g231 := zz_G.r G_S 1079 28 0 1500 rfl rfl
      have e232 : S218 1079 28 = S 1079 28 := (zz_rc fS218 rfl rfl (fun h => h) (zz_rc fS190 rfl rfl (fun h => h) rfl))
      have g233 := zz_G.r G_S 1031 6 2 8 rfl rfl
      have e234 : S218 1031 6 = S 1031 6 := (zz_rc fS218 rfl rfl (fun h => h) (zz_rc fS190 rfl rfl (fun h => h) rfl))
      have g235 := zz_G.r G_S 1079 1 2 8 rfl rfl
      have e236 : S218 1079 1 = S 1079 1 := (zz_rc fS218 rfl rfl (fun h => h) (zz_rc fS190 rfl rfl (fun h => h) rfl))
      exact ih (x4 + 7) S218 (n) k j G_S218 H_S218 R_S218 O_S218 (by omega) (by omega) hn (by omega) (by show ((k : Nat) : Int) ≤ 200 + (x4 + 7); omega) (by show ((j : Nat) : Int) ≤ 30000 + 6 * (x4 + 7); omega) (by omega)
theorem zl_9 {g : mm_G} {l : Launch} (hfl : l.flags = flags0) (hlen : g.2.2.2 997 ≤ 3584) (N : Nat) (ih : ∀ (x4 : Int) (S : zz_S) (n k j : Nat), zz_G S → zz_Hc S → zz_Hr S → 1 ≤ S 1079 36 → S 1070 1 = S 1079 28 → S 1031 6 = S 1079 1 → zz_end ≤ n → (0 ≤ x4 ∧ x4 ≤ 3590) → (k : Int) ≤ 200 + x4 → (j : Int) ≤ 30000 + 6 * x4 → (3600 - x4).toNat < N → zz_E g l zy_law_L room_1 (fun u => ∃ M1 n1, u = (.inl (some (zi 1)), M1, n1)) S n 23 [some (.ref 998), some (.ref 1000), some (.ref 1079), some (.ref 1121), some (zi x4)] [] k j) (x4 : Int) (S : zz_S) (n k j : Nat) (G_S : zz_G S) (H_S : zz_Hc S) (R_S : zz_Hr S) (O_S : 1 ≤ S 1079 36) (T0_S : S 1070 1 = S 1079 28) (T1_S : S 1031 6 = S 1079 1) (hn : zz_end ≤ n) (hx : 0 ≤ x4 ∧ x4 ≤ 3590) (hkk : (k : Int) ≤ 200 + x4) (hjj : (j : Int) ≤ 30000 + 6 * x4) (hR : (3600 - x4).toNat < N + 1) (hc1 : x4 ≤ zz_ln g - 7) : zz_E g l zy_law_L room_1 (fun u => ∃ M1 n1, u = (.inl (some (zi 1)), M1, n1)) S n 534 [some (.ref 998), some (.ref 1000), some (.ref 1079), some (.ref 1121), some (zi x4)] [] k j := by
  have hln : 0 ≤ zz_ln g ∧ zz_ln g ≤ 3584 := ⟨Int.natCast_nonneg _, Int.ofNat_le.mpr hlen⟩
  have hk : k ≤ 601024 := by omega
  have hj : j ≤ 7293034 := by omega
  refine zz_aload_n (x := 1000) rfl zd_L_law_534 ?_
  refine zz_aload_n (x := 998) rfl zd_L_law_535 ?_
  refine zz_iload (x := x4) rfl zd_L_law_536 ?_
  refine zz_iconst zd_L_law_538 ?_
  refine zz_iadd zd_L_law_539 ?_
  refine zz_sld (by omega) zd_L_law_540 (by omega) ?_
  have g238 := zz_sc_r g (x4 + 1).toNat
  refine zz_aload_n (x := 1121) rfl zd_L_law_541 ?_
  refine zz_callHW (rz := zr_put_L) [.ref 1000, zi (zz_sc g (x4 + 1).toNat), .ref 1121] zd_L_law_542 zhl_put_L rfl rfl ⟨Nat.le_of_ble_eq_true rfl, Nat.le_of_ble_eq_true rfl⟩ (by show k + 1 ≤ 601024; omega) (by show j + 6 ≤ 7293034; omega) (zc_put_L (zz_sc g (x4 + 1).toNat) S (n) hn hfl G_S (by omega)) (fun v240 S239 d241 hd241 hP => ?_)
  obtain ⟨G_S239, fS239, rv240, o242⟩ := hP
  have hn243 : zz_end ≤ n + d241 := by omega
  have hk244 : (k + zr_put_L.cells) ≤ 601024 := by show k + 1 ≤ 601024; omega
  have hj245 : (j + zr_put_L.slots) ≤ 7293034 := by show j + 6 ≤ 7293034; omega
  have H_S239 : zz_Hc S239 := zz_Hc.fr (q := 0) fS239 rfl rfl G_S (by decide) rfl (fun b q h => h.elim) H_S
  have R_S239 : zz_Hr S239 := zz_Hr.fr fS239 rfl rfl (fun b q h => h.elim) R_S
  have O_S239 : 1 ≤ S239 1079 36 := by rw [show S239 1079 36 = S 1079 36 from zz_rc fS239 rfl rfl (fun h => h) rfl]; exact O_S
  refine zz_istore [some (.ref 998), some (.ref 1000), some (.ref 1079), some (.ref 1121), some (zi x4), some (zi v240)] zd_L_law_545 (by decide) rfl ?_
  refine zz_aload_n (x := 1079) rfl zd_L_law_547 ?_
  refine zz_aload_n (x := 998) rfl zd_L_law_548 ?_
  refine zz_iload (x := x4) rfl zd_L_law_549 ?_
  refine zz_iconst zd_L_law_551 ?_
  refine zz_iadd zd_L_law_552 ?_
  refine zz_sld (by omega) zd_L_law_553 (by omega) ?_
  have g246 := zz_G.r G_S 1079 28 0 1500 rfl rfl
  have e247 : S239 1079 28 = S 1079 28 := (zz_rc fS239 rfl rfl (fun h => h) rfl)
  refine zz_callVI [zi (zz_sc g (x4 + 1).toNat)] zd_L_law_554 zk_TFLaw_140 zT_1079 (zz_ltn hn243 rfl) rfl rfl ⟨Nat.le_of_ble_eq_true rfl, Nat.le_of_ble_eq_true rfl⟩ ⟨rfl, rfl⟩ hk244 hj245 (zc_put_14_47 (zz_sc g (x4 + 1).toNat) S239 (n + d241) hn243 G_S239 (by omega)) (fun v249 S248 hP => ?_)
  obtain ⟨G_S248, fS248, o250, o251⟩ := hP
  have H_S248 : zz_Hc S248 := zz_Hc.fr (q := 0) fS248 rfl rfl G_S239 (by decide) rfl (fun b q h => h.elim) H_S239
  have R_S248 : zz_Hr S248 := zz_Hr.fr fS248 rfl rfl (fun b q h => h.elim) R_S239
  have O_S248 : 1 ≤ S248 1079 36 := by rw [show S248 1079 36 = S239 1079 36 from zz_rc fS248 rfl rfl (fun h => h) rfl]; exact O_S239
  refine zz_istore [some (.ref 998), some (.ref 1000), some (.ref 1079), some (.ref 1121), some (zi x4), some (zi v240), some (zi v249)] zd_L_law_557 (by decide) rfl ?_
  refine zz_goto zd_L_law_559 ?_
  refine zz_iinc [some (.ref 998), some (.ref 1000), some (.ref 1079), some (.ref 1121), some (zi (x4 + 7)), some (zi v240), some (zi v249)] zd_L_law_1191 rfl rfl ?_
  refine zz_goto zd_L_law_1194 ?_
  refine zz_less (ls1 := [some (.ref 998), some (.ref 1000), some (.ref 1079), some (.ref 1121), some (zi (x4 + 7))]) ⟨rfl, ⟨rfl, ⟨rfl, ⟨rfl, ⟨rfl, trivial⟩⟩⟩⟩⟩ ?_
  have g252 := zz_G.r G_S239 1070 1 0 1500 rfl rfl
  have e253 : S248 1070 1 = S239 1070 1 := (zz_rc fS248 rfl rfl (fun h => h) rfl)
  have g254 := zz_G.r G_S248 1079 28 0 1500 rfl rfl
  have g255 := zz_G.r G_S 1031 6 2 8 rfl rfl
  have e256 : S248 1031 6 = S 1031 6 := (zz_rc fS248 rfl rfl (fun h => h) (zz_rc fS239 rfl rfl (fun h => h) rfl))
  have g257 := zz_G.r G_S 1079 1 2 8 rfl rfl
  have e258 : S248 1079 1 = S 1079 1 := (zz_rc fS248 rfl rfl (fun h => h) (zz_rc fS239 rfl rfl (fun h => h) rfl))
  exact ih (x4 + 7) S248 (n + d241) (k + zr_put_L.cells) (j + zr_put_L.slots) G_S248 H_S248 R_S248 O_S248 (by omega) (by omega) hn243 (by omega) (by show ((k + 1 : Nat) : Int) ≤ 200 + (x4 + 7); omega) (by show ((j + 6 : Nat) : Int) ≤ 30000 + 6 * (x4 + 7); omega) (by omega)
theorem zl_10 {g : mm_G} {l : Launch} (hfl : l.flags = flags0) (hlen : g.2.2.2 997 ≤ 3584) (N : Nat) (ih : ∀ (x4 : Int) (S : zz_S) (n k j : Nat), zz_G S → zz_Hc S → zz_Hr S → 1 ≤ S 1079 36 → S 1070 1 = S 1079 28 → S 1031 6 = S 1079 1 → zz_end ≤ n → (0 ≤ x4 ∧ x4 ≤ 3590) → (k : Int) ≤ 200 + x4 → (j : Int) ≤ 30000 + 6 * x4 → (3600 - x4).toNat < N → zz_E g l zy_law_L room_1 (fun u => ∃ M1 n1, u = (.inl (some (zi 1)), M1, n1)) S n 23 [some (.ref 998), some (.ref 1000), some (.ref 1079), some (.ref 1121), some (zi x4)] [] k j) (x4 : Int) (S : zz_S) (n k j : Nat) (G_S : zz_G S) (H_S : zz_Hc S) (R_S : zz_Hr S) (O_S : 1 ≤ S 1079 36) (T0_S : S 1070 1 = S 1079 28) (T1_S : S 1031 6 = S 1079 1) (hn : zz_end ≤ n) (hx : 0 ≤ x4 ∧ x4 ≤ 3590) (hkk : (k : Int) ≤ 200 + x4) (hjj : (j : Int) ≤ 30000 + 6 * x4) (hR : (3600 - x4).toNat < N + 1) (hc1 : x4 ≤ zz_ln g - 7) : zz_E g l zy_law_L room_1 (fun u => ∃ M1 n1, u = (.inl (some (zi 1)), M1, n1)) S n 562 [some (.ref 998), some (.ref 1000), some (.ref 1079), some (.ref 1121), some (zi x4)] [] k j := by
  have hln : 0 ≤ zz_ln g ∧ zz_ln g ≤ 3584 := ⟨Int.natCast_nonneg _, Int.ofNat_le.mpr hlen⟩
  have hk : k ≤ 601024 := by omega
  have hj : j ≤ 7293034 := by omega
  refine zz_aload_n (x := 1000) rfl zd_L_law_562 ?_
  refine zz_aload_n (x := 998) rfl zd_L_law_563 ?_
  refine zz_iload (x := x4) rfl zd_L_law_564 ?_
  refine zz_iconst zd_L_law_566 ?_
  refine zz_iadd zd_L_law_567 ?_
  refine zz_sld (by omega) zd_L_law_568 (by omega) ?_
  have g260 := zz_sc_r g (x4 + 1).toNat
  refine zz_callHW (rz := zr_end_L) [.ref 1000, zi (zz_sc g (x4 + 1).toNat)] zd_L_law_569 zhl_end_L rfl rfl ⟨Nat.le_of_ble_eq_true rfl, Nat.le_of_ble_eq_true rfl⟩ (by show k + 1 ≤ 601024; omega) (by show j + 6 ≤ 7293034; omega) (zc_end_L (zz_sc g (x4 + 1).toNat) S (n) hn hfl G_S (by omega)) (fun v262 S261 d263 hd263 hP => ?_)
  obtain ⟨G_S261, fS261, rv262, o264⟩ := hP
  have hn265 : zz_end ≤ n + d263 := by omega
  have hk266 : (k + zr_end_L.cells) ≤ 601024 := by show k + 1 ≤ 601024; omega
  have hj267 : (j + zr_end_L.slots) ≤ 7293034 := by show j + 6 ≤ 7293034; omega
  have H_S261 : zz_Hc S261 := zz_Hc.fr (q := 0) fS261 rfl rfl G_S (by decide) rfl (fun b q h => h.elim) H_S
  have R_S261 : zz_Hr S261 := zz_Hr.fr fS261 rfl rfl (fun b q h => h.elim) R_S
  have O_S261 : 1 ≤ S261 1079 36 := by rw [show S261 1079 36 = S 1079 36 from zz_rc fS261 rfl rfl (fun h => h) rfl]; exact O_S
  refine zz_istore [some (.ref 998), some (.ref 1000), some (.ref 1079), some (.ref 1121), some (zi x4), some (zi v262)] zd_L_law_572 (by decide) rfl ?_
  refine zz_aload_n (x := 1079) rfl zd_L_law_574 ?_
  refine zz_aload_n (x := 998) rfl zd_L_law_575 ?_
  refine zz_iload (x := x4) rfl zd_L_law_576 ?_
  refine zz_iconst zd_L_law_578 ?_
  refine zz_iadd zd_L_law_579 ?_
  refine zz_sld (by omega) zd_L_law_580 (by omega) ?_
  have g268 := zz_G.r G_S 1079 28 0 1500 rfl rfl
  have e269 : S261 1079 28 = S 1079 28 := (zz_rc fS261 rfl rfl (fun h => h) rfl)
  refine zz_callVV [zi (zz_sc g (x4 + 1).toNat)] zd_L_law_581 zk_TFLaw_143 zT_1079 (zz_ltn hn265 rfl) rfl rfl ⟨Nat.le_of_ble_eq_true rfl, Nat.le_of_ble_eq_true rfl⟩ ⟨rfl, rfl⟩ hk266 hj267 (zc_end_14_48 (zz_sc g (x4 + 1).toNat) S261 (n + d263) hn265 G_S261 (by omega)) (fun S270 hP => ?_)
  obtain ⟨G_S270, fS270, o272⟩ := hP
  have H_S270 : zz_Hc S270 := zz_Hc.fr (q := 0) fS270 rfl rfl G_S261 (by decide) rfl (fun b q h => h.elim) H_S261
  have R_S270 : zz_Hr S270 := zz_Hr.fr fS270 rfl rfl (fun b q h => h.elim) R_S261
  have O_S270 : 1 ≤ S270 1079 36 := by rw [show S270 1079 36 = S261 1079 36 from zz_rc fS270 rfl rfl (fun h => h) rfl]; exact O_S261
  refine zz_aload_n (x := 1079) rfl zd_L_law_584 ?_
  have g273 := zz_G.r G_S270 1079 0 0 3 rfl rfl
  refine zz_callVI [] zd_L_law_585 zk_TFLaw_144 zT_1079 (zz_ltn hn265 rfl) rfl rfl ⟨Nat.le_of_ble_eq_true rfl, Nat.le_of_ble_eq_true rfl⟩ ⟨rfl, rfl⟩ hk266 hj267 (zc_thrown_14_2  S270 (n + d263) hn265 G_S270 ) (fun v275 S274 hP => ?_)
  obtain ⟨rfl, o276, o277⟩ := hP
  refine zz_iload (x := v262) rfl zd_L_law_588 ?_
  refine zz_icmp_eq (by omega) (by omega) zd_L_law_590 (fun c278 => ?_) (fun c278 => ?_)
  · refine zz_goto zd_L_law_595 ?_
    refine zz_iinc [some (.ref 998), some (.ref 1000), some (.ref 1079), some (.ref 1121), some (zi (x4 + 7)), some (zi v262)] zd_L_law_1191 rfl rfl ?_
    refine zz_goto zd_L_law_1194 ?_
    refine zz_less (ls1 := [some (.ref 998), some (.ref 1000), some (.ref 1079), some (.ref 1121), some (zi (x4 + 7))]) ⟨rfl, ⟨rfl, ⟨rfl, ⟨rfl, ⟨rfl, trivial⟩⟩⟩⟩⟩ ?_
    have g279 := zz_G.r G_S261 1070 1 0 1500 rfl rfl
    have e280 : S270 1070 1 = S261 1070 1 := (zz_rc fS270 rfl rfl (fun h => h) rfl)
    have g281 := zz_G.r G_S270 1079 28 0 1500 rfl rfl
    have g282 := zz_G.r G_S 1031 6 2 8 rfl rfl
    have e283 : S270 1031 6 = S 1031 6 := (zz_rc fS270 rfl rfl (fun h => h) (zz_rc fS261 rfl rfl (fun h => h) rfl))
    have g284 := zz_G.r G_S 1079 1 2 8 rfl rfl
    have e285 : S270 1079 1 = S 1079 1 := (zz_rc fS270 rfl rfl (fun h => h) (zz_rc fS261 rfl rfl (fun h => h) rfl))
    exact ih (x4 + 7) S270 (n + d263) (k + zr_end_L.cells) (j + zr_end_L.slots) G_S270 H_S270 R_S270 O_S270 (by omega) (by omega) hn265 (by omega) (by show ((k + 1 : Nat) : Int) ≤ 200 + (x4 + 7); omega) (by show ((j + 6 : Nat) : Int) ≤ 30000 + 6 * (x4 + 7); omega) (by omega)
  · exfalso; omega
theorem zl_11 {g : mm_G} {l : Launch} (hfl : l.flags = flags0) (hlen : g.2.2.2 997 ≤ 3584) (N : Nat) (ih : ∀ (x4 : Int) (S : zz_S) (n k j : Nat), zz_G S → zz_Hc S → zz_Hr S → 1 ≤ S 1079 36 → S 1070 1 = S 1079 28 → S 1031 6 = S 1079 1 → zz_end ≤ n → (0 ≤ x4 ∧ x4 ≤ 3590) → (k : Int) ≤ 200 + x4 → (j : Int) ≤ 30000 + 6 * x4 → (3600 - x4).toNat < N → zz_E g l zy_law_L room_1 (fun u => ∃ M1 n1, u = (.inl (some (zi 1)), M1, n1)) S n 23 [some (.ref 998), some (.ref 1000), some (.ref 1079), some (.ref 1121), some (zi x4)] [] k j) (x4 : Int) (S : zz_S) (n k j : Nat) (G_S : zz_G S) (H_S : zz_Hc S) (R_S : zz_Hr S) (O_S : 1 ≤ S 1079 36) (T0_S : S 1070 1 = S 1079 28) (T1_S : S 1031 6 = S 1079 1) (hn : zz_end ≤ n) (hx : 0 ≤ x4 ∧ x4 ≤ 3590) (hkk : (k : Int) ≤ 200 + x4) (hjj : (j : Int) ≤ 30000 + 6 * x4) (hR : (3600 - x4).toNat < N + 1) (hc1 : x4 ≤ zz_ln g - 7) : zz_E g l zy_law_L room_1 (fun u => ∃ M1 n1, u = (.inl (some (zi 1)), M1, n1)) S n 598 [some (.ref 998), some (.ref 1000), some (.ref 1079), some (.ref 1121), some (zi x4)] [] k j := by
  have hln : 0 ≤ zz_ln g ∧ zz_ln g ≤ 3584 := ⟨Int.natCast_nonneg _, Int.ofNat_le.mpr hlen⟩
  have hk : k ≤ 601024 := by omega
  have hj : j ≤ 7293034 := by omega
  refine zz_aload_n (x := 1000) rfl zd_L_law_598 ?_
  refine zz_callVI [] zd_L_law_599 zk_TFLaw_147 zT_1000 (zz_ltn hn rfl) rfl rfl ⟨Nat.le_of_ble_eq_true rfl, Nat.le_of_ble_eq_true rfl⟩ ⟨rfl, rfl⟩ hk hj (zc_assemble_1_13  S (n) hn G_S ) (fun v288 S287 hP => ?_)
  obtain ⟨G_S287, fS287, o289⟩ := hP
  have g290 := zz_G.r G_S 1000 10 0 1 rfl rfl
  have b291 := zz_rf4 (z := (S 1000 10)) (by omega)
  have H_S287 : zz_Hc S287 := zz_Hc.fr (q := 0) fS287 rfl rfl G_S (by decide) rfl (fun b q h => by have h0_ := zz_rf4 (z := (S 1000 10)) (by omega); omega) H_S
  have R_S287 : zz_Hr S287 := zz_Hr.fr fS287 rfl rfl (fun b q h => by have h0_ := zz_rf4 (z := (S 1000 10)) (by omega); omega) R_S
  have O_S287 : 1 ≤ S287 1079 36 := by rw [show S287 1079 36 = S 1079 36 from zz_rc fS287 rfl rfl (by have h0_ := zz_rf4 (z := (S 1000 10)) (by omega); omega) rfl]; exact O_S
  refine zz_pop rfl zd_L_law_602 ?_
  refine zz_aload_n (x := 1079) rfl zd_L_law_603 ?_
  refine zz_callVI [] zd_L_law_604 zk_TFLaw_150 zT_1079 (zz_ltn hn rfl) rfl rfl ⟨Nat.le_of_ble_eq_true rfl, Nat.le_of_ble_eq_true rfl⟩ ⟨rfl, rfl⟩ hk hj (zc_assemble_14_55  S287 (n) hn G_S287 ) (fun v293 S292 hP => ?_)
  obtain ⟨G_S292, fS292, o294⟩ := hP
  have H_S292 : zz_Hc S292 := zz_Hc.fr (q := 0) fS292 rfl rfl G_S287 (by decide) rfl (fun b q h => h.elim) H_S287
  have R_S292 : zz_Hr S292 := zz_Hr.fr fS292 rfl rfl (fun b q h => h.elim) R_S287
  have O_S292 : 1 ≤ S292 1079 36 := by rw [show S292 1079 36 = S287 1079 36 from zz_rc fS292 rfl rfl (fun h => h) rfl]; exact O_S287
  refine zz_pop rfl zd_L_law_607 ?_
  refine zz_goto zd_L_law_608 ?_
  refine zz_iinc [some (.ref 998), some (.ref 1000), some (.ref 1079), some (.ref 1121), some (zi (x4 + 7))] zd_L_law_1191 rfl rfl ?_
  refine zz_goto zd_L_law_1194 ?_
  refine zz_less (ls1 := [some (.ref 998), some (.ref 1000), some (.ref 1079), some (.ref 1121), some (zi (x4 + 7))]) ⟨rfl, ⟨rfl, ⟨rfl, ⟨rfl, ⟨rfl, trivial⟩⟩⟩⟩⟩ ?_
  have g295 := zz_G.r G_S 1070 1 0 1500 rfl rfl
  have e296 : S292 1070 1 = S 1070 1 := (zz_rc fS292 rfl rfl (fun h => h) (zz_rc fS287 rfl rfl (by omega) rfl))
  have g297 := zz_G.r G_S 1079 28 0 1500 rfl rfl
  have e298 : S292 1079 28 = S 1079 28 := (zz_rc fS292 rfl rfl (fun h => h) (zz_rc fS287 rfl rfl (by omega) rfl))
  have g299 := zz_G.r G_S 1031 6 2 8 rfl rfl
  have e300 : S292 1031 6 = S 1031 6 := (zz_rc fS292 rfl rfl (fun h => h) (zz_rc fS287 rfl rfl (by omega) rfl))
  have g301 := zz_G.r G_S 1079 1 2 8 rfl rfl
  have e302 : S292 1079 1 = S 1079 1 := (zz_rc fS292 rfl rfl (fun h => h) (zz_rc fS287 rfl rfl (by omega) rfl))
  exact ih (x4 + 7) S292 (n) k j G_S292 H_S292 R_S292 O_S292 (by omega) (by omega) hn (by omega) (by show ((k : Nat) : Int) ≤ 200 + (x4 + 7); omega) (by show ((j : Nat) : Int) ≤ 30000 + 6 * (x4 + 7); omega) (by omega)
theorem zl_12 {g : mm_G} {l : Launch} (hfl : l.flags = flags0) (hlen : g.2.2.2 997 ≤ 3584) (N : Nat) (ih : ∀ (x4 : Int) (S : zz_S) (n k j : Nat), zz_G S → zz_Hc S → zz_Hr S → 1 ≤ S 1079 36 → S 1070 1 = S 1079 28 → S 1031 6 = S 1079 1 → zz_end ≤ n → (0 ≤ x4 ∧ x4 ≤ 3590) → (k : Int) ≤ 200 + x4 → (j : Int) ≤ 30000 + 6 * x4 → (3600 - x4).toNat < N → zz_E g l zy_law_L room_1 (fun u => ∃ M1 n1, u = (.inl (some (zi 1)), M1, n1)) S n 23 [some (.ref 998), some (.ref 1000), some (.ref 1079), some (.ref 1121), some (zi x4)] [] k j) (x4 : Int) (S : zz_S) (n k j : Nat) (G_S : zz_G S) (H_S : zz_Hc S) (R_S : zz_Hr S) (O_S : 1 ≤ S 1079 36) (T0_S : S 1070 1 = S 1079 28) (T1_S : S 1031 6 = S 1079 1) (hn : zz_end ≤ n) (hx : 0 ≤ x4 ∧ x4 ≤ 3590) (hkk : (k : Int) ≤ 200 + x4) (hjj : (j : Int) ≤ 30000 + 6 * x4) (hR : (3600 - x4).toNat < N + 1) (hc1 : x4 ≤ zz_ln g - 7) : zz_E g l zy_law_L room_1 (fun u => ∃ M1 n1, u = (.inl (some (zi 1)), M1, n1)) S n 611 [some (.ref 998), some (.ref 1000), some (.ref 1079), some (.ref 1121), some (zi x4)] [] k j := by
  have hln : 0 ≤ zz_ln g ∧ zz_ln g ≤ 3584 := ⟨Int.natCast_nonneg _, Int.ofNat_le.mpr hlen⟩
  have hk : k ≤ 601024 := by omega
  have hj : j ≤ 7293034 := by omega
  refine zz_aload_n (x := 1000) rfl zd_L_law_611 ?_
  refine zz_aload_n (x := 998) rfl zd_L_law_612 ?_
  refine zz_iload (x := x4) rfl zd_L_law_613 ?_
  refine zz_iconst zd_L_law_615 ?_
  refine zz_iadd zd_L_law_616 ?_
  refine zz_sld (by omega) zd_L_law_617 (by omega) ?_
  have g304 := zz_sc_r g (x4 + 1).toNat
  refine zz_aload_n (x := 998) rfl zd_L_law_618 ?_
  refine zz_iload (x := x4) rfl zd_L_law_619 ?_
  refine zz_iconst zd_L_law_621 ?_
  refine zz_iadd zd_L_law_622 ?_
  refine zz_sld (by omega) zd_L_law_623 (by omega) ?_
  have g305 := zz_sc_r g (x4 + 2).toNat
  refine zz_aload_n (x := 1121) rfl zd_L_law_624 ?_
  refine zz_callHW (rz := zr_listing_L) [.ref 1000, zi (zz_sc g (x4 + 1).toNat), zi (zz_sc g (x4 + 2).toNat), .ref 1121] zd_L_law_625 zhl_listing_L rfl rfl ⟨Nat.le_of_ble_eq_true rfl, Nat.le_of_ble_eq_true rfl⟩ (by show k + 1 ≤ 601024; omega) (by show j + 6 ≤ 7293034; omega) (zc_listing_L (zz_sc g (x4 + 1).toNat) (zz_sc g (x4 + 2).toNat) S (n) hn hfl G_S (by omega) (by omega)) (fun v307 S306 d308 hd308 hP => ?_)
  obtain ⟨G_S306, fS306, rv307⟩ := hP
  have hn309 : zz_end ≤ n + d308 := by omega
  have hk310 : (k + zr_listing_L.cells) ≤ 601024 := by show k + 1 ≤ 601024; omega
  have hj311 : (j + zr_listing_L.slots) ≤ 7293034 := by show j + 6 ≤ 7293034; omega
  have H_S306 : zz_Hc S306 := zz_Hc.fr (q := 0) fS306 rfl rfl G_S (by decide) rfl (fun b q h => h.elim) H_S
  have R_S306 : zz_Hr S306 := zz_Hr.fr fS306 rfl rfl (fun b q h => h.elim) R_S
  have O_S306 : 1 ≤ S306 1079 36 := by rw [show S306 1079 36 = S 1079 36 from zz_rc fS306 rfl rfl (fun h => h) rfl]; exact O_S
  refine zz_istore [some (.ref 998), some (.ref 1000), some (.ref 1079), some (.ref 1121), some (zi x4), some (zi v307)] zd_L_law_628 (by decide) rfl ?_
  refine zz_aload_n (x := 1079) rfl zd_L_law_630 ?_
  refine zz_aload_n (x := 998) rfl zd_L_law_631 ?_
  refine zz_iload (x := x4) rfl zd_L_law_632 ?_
  refine zz_iconst zd_L_law_634 ?_
  refine zz_iadd zd_L_law_635 ?_
  refine zz_sld (by omega) zd_L_law_636 (by omega) ?_
  refine zz_aload_n (x := 998) rfl zd_L_law_637 ?_
  refine zz_iload (x := x4) rfl zd_L_law_638 ?_
  refine zz_iconst zd_L_law_640 ?_
  refine zz_iadd zd_L_law_641 ?_
  refine zz_sld (by omega) zd_L_law_642 (by omega) ?_
  refine zz_callVI [zi (zz_sc g (x4 + 1).toNat), zi (zz_sc g (x4 + 2).toNat)] zd_L_law_643 zk_TFLaw_153 zT_1079 (zz_ltn hn309 rfl) rfl rfl ⟨Nat.le_of_ble_eq_true rfl, Nat.le_of_ble_eq_true rfl⟩ ⟨rfl, rfl⟩ hk310 hj311 (zc_listing_14_62 (zz_sc g (x4 + 1).toNat) (zz_sc g (x4 + 2).toNat) S306 (n + d308) hn309 G_S306 (by omega) (by omega)) (fun v313 S312 hP => ?_)
  obtain ⟨G_S312, fS312, o314⟩ := hP
  have H_S312 : zz_Hc S312 := zz_Hc.fr (q := 0) fS312 rfl rfl G_S306 (by decide) rfl (fun b q h => h.elim) H_S306
  have R_S312 : zz_Hr S312 := zz_Hr.fr fS312 rfl rfl (fun b q h => h.elim) R_S306
  have O_S312 : 1 ≤ S312 1079 36 := by rw [show S312 1079 36 = S306 1079 36 from zz_rc fS312 rfl rfl (fun h => h) rfl]; exact O_S306
  refine zz_istore [some (.ref 998), some (.ref 1000), some (.ref 1079), some (.ref 1121), some (zi x4), some (zi v307), some (zi v313)] zd_L_law_646 (by decide) rfl ?_
  refine zz_goto zd_L_law_648 ?_
  refine zz_iinc [some (.ref 998), some (.ref 1000), some (.ref 1079), some (.ref 1121), some (zi (x4 + 7)), some (zi v307), some (zi v313)] zd_L_law_1191 rfl rfl ?_
  refine zz_goto zd_L_law_1194 ?_
  refine zz_less (ls1 := [some (.ref 998), some (.ref 1000), some (.ref 1079), some (.ref 1121), some (zi (x4 + 7))]) ⟨rfl, ⟨rfl, ⟨rfl, ⟨rfl, ⟨rfl, trivial⟩⟩⟩⟩⟩ ?_
  have g315 := zz_G.r G_S 1070 1 0 1500 rfl rfl
  have e316 : S312 1070 1 = S 1070 1 := (zz_rc fS312 rfl rfl (fun h => h) (zz_rc fS306 rfl rfl (fun h => h) rfl))
  have g317 := zz_G.r G_S 1079 28 0 1500 rfl rfl
  have e318 : S312 1079 28 = S 1079 28 := (zz_rc fS312 rfl rfl (fun h => h) (zz_rc fS306 rfl rfl (fun h => h) rfl))
  have g319 := zz_G.r G_S 1031 6 2 8 rfl rfl
  have e320 : S312 1031 6 = S 1031 6 := (zz_rc fS312 rfl rfl (fun h => h) (zz_rc fS306 rfl rfl (fun h => h) rfl))
  have g321 := zz_G.r G_S 1079 1 2 8 rfl rfl
  have e322 : S312 1079 1 = S 1079 1 := (zz_rc fS312 rfl rfl (fun h => h) (zz_rc fS306 rfl rfl (fun h => h) rfl))
  exact ih (x4 + 7) S312 (n + d308) (k + zr_listing_L.cells) (j + zr_listing_L.slots) G_S312 H_S312 R_S312 O_S312 (by omega) (by omega) hn309 (by omega) (by show ((k + 1 : Nat) : Int) ≤ 200 + (x4 + 7); omega) (by show ((j + 6 : Nat) : Int) ≤ 30000 + 6 * (x4 + 7); omega) (by omega)
theorem zl_13 {g : mm_G} {l : Launch} (hfl : l.flags = flags0) (hlen : g.2.2.2 997 ≤ 3584) (N : Nat) (ih : ∀ (x4 : Int) (S : zz_S) (n k j : Nat), zz_G S → zz_Hc S → zz_Hr S → 1 ≤ S 1079 36 → S 1070 1 = S 1079 28 → S 1031 6 = S 1079 1 → zz_end ≤ n → (0 ≤ x4 ∧ x4 ≤ 3590) → (k : Int) ≤ 200 + x4 → (j : Int) ≤ 30000 + 6 * x4 → (3600 - x4).toNat < N → zz_E g l zy_law_L room_1 (fun u => ∃ M1 n1, u = (.inl (some (zi 1)), M1, n1)) S n 23 [some (.ref 998), some (.ref 1000), some (.ref 1079), some (.ref 1121), some (zi x4)] [] k j) (x4 : Int) (S : zz_S) (n k j : Nat) (G_S : zz_G S) (H_S : zz_Hc S) (R_S : zz_Hr S) (O_S : 1 ≤ S 1079 36) (T0_S : S 1070 1 = S 1079 28) (T1_S : S 1031 6 = S 1079 1) (hn : zz_end ≤ n) (hx : 0 ≤ x4 ∧ x4 ≤ 3590) (hkk : (k : Int) ≤ 200 + x4) (hjj : (j : Int) ≤ 30000 + 6 * x4) (hR : (3600 - x4).toNat < N + 1) (hc1 : x4 ≤ zz_ln g - 7) : zz_E g l zy_law_L room_1 (fun u => ∃ M1 n1, u = (.inl (some (zi 1)), M1, n1)) S n 651 [some (.ref 998), some (.ref 1000), some (.ref 1079), some (.ref 1121), some (zi x4)] [] k j := by
  have hln : 0 ≤ zz_ln g ∧ zz_ln g ≤ 3584 := ⟨Int.natCast_nonneg _, Int.ofNat_le.mpr hlen⟩
  have hk : k ≤ 601024 := by omega
  have hj : j ≤ 7293034 := by omega
  refine zz_aload_n (x := 1000) rfl zd_L_law_651 ?_
  refine zz_callVI [] zd_L_law_652 zk_TFLaw_154 zT_1000 (zz_ltn hn rfl) rfl rfl ⟨Nat.le_of_ble_eq_true rfl, Nat.le_of_ble_eq_true rfl⟩ ⟨rfl, rfl⟩ hk hj (zc_run_1_15  S (n) hn G_S ) (fun v325 S324 hP => ?_)
  obtain ⟨G_S324, fS324, o326⟩ := hP
  have H_S324 : zz_Hc S324 := zz_Hc.fr (q := 0) fS324 rfl rfl G_S (by decide) rfl (fun b q h => h.elim) H_S
  have R_S324 : zz_Hr S324 := zz_Hr.fr fS324 rfl rfl (fun b q h => h.elim) R_S
  have O_S324 : 1 ≤ S324 1079 36 := by rw [show S324 1079 36 = S 1079 36 from zz_rc fS324 rfl rfl (fun h => h) rfl]; exact O_S
  refine zz_pop rfl zd_L_law_655 ?_
  refine zz_aload_n (x := 1079) rfl zd_L_law_656 ?_
  refine zz_callVI [] zd_L_law_657 zk_TFLaw_157 zT_1079 (zz_ltn hn rfl) rfl rfl ⟨Nat.le_of_ble_eq_true rfl, Nat.le_of_ble_eq_true rfl⟩ ⟨rfl, rfl⟩ hk hj (zc_run_14_44  S324 (n) hn G_S324 ) (fun v328 S327 hP => ?_)
  obtain ⟨G_S327, fS327, o329⟩ := hP
  have H_S327 : zz_Hc S327 := zz_Hc.fr (q := 0) fS327 rfl rfl G_S324 (by decide) rfl (fun b q h => h.elim) H_S324
  have R_S327 : zz_Hr S327 := zz_Hr.fr fS327 rfl rfl (fun b q h => h.elim) R_S324
  have O_S327 : 1 ≤ S327 1079 36 := by rw [show S327 1079 36 = S324 1079 36 from zz_rc fS327 rfl rfl (fun h => h) rfl]; exact O_S324
  refine zz_pop rfl zd_L_law_660 ?_
  refine zz_goto zd_L_law_661 ?_
  refine zz_iinc [some (.ref 998), some (.ref 1000), some (.ref 1079), some (.ref 1121), some (zi (x4 + 7))] zd_L_law_1191 rfl rfl ?_
  refine zz_goto zd_L_law_1194 ?_
  refine zz_less (ls1 := [some (.ref 998), some (.ref 1000), some (.ref 1079), some (.ref 1121), some (zi (x4 + 7))]) ⟨rfl, ⟨rfl, ⟨rfl, ⟨rfl, ⟨rfl, trivial⟩⟩⟩⟩⟩ ?_
  have g330 := zz_G.r G_S 1070 1 0 1500 rfl rfl
  have e331 : S327 1070 1 = S 1070 1 := (zz_rc fS327 rfl rfl (fun h => h) (zz_rc fS324 rfl rfl (fun h => h) rfl))
  have g332 := zz_G.r G_S 1079 28 0 1500 rfl rfl
  have e333 : S327 1079 28 = S 1079 28 := (zz_rc fS327 rfl rfl (fun h => h) (zz_rc fS324 rfl rfl (fun h => h) rfl))
  have g334 := zz_G.r G_S 1031 6 2 8 rfl rfl
  have e335 : S327 1031 6 = S 1031 6 := (zz_rc fS327 rfl rfl (fun h => h) (zz_rc fS324 rfl rfl (fun h => h) rfl))
  have g336 := zz_G.r G_S 1079 1 2 8 rfl rfl
  have e337 : S327 1079 1 = S 1079 1 := (zz_rc fS327 rfl rfl (fun h => h) (zz_rc fS324 rfl rfl (fun h => h) rfl))
  exact ih (x4 + 7) S327 (n) k j G_S327 H_S327 R_S327 O_S327 (by omega) (by omega) hn (by omega) (by show ((k : Nat) : Int) ≤ 200 + (x4 + 7); omega) (by show ((j : Nat) : Int) ≤ 30000 + 6 * (x4 + 7); omega) (by omega)
theorem zl_14 {g : mm_G} {l : Launch} (hfl : l.flags = flags0) (hlen : g.2.2.2 997 ≤ 3584) (N : Nat) (ih : ∀ (x4 : Int) (S : zz_S) (n k j : Nat), zz_G S → zz_Hc S → zz_Hr S → 1 ≤ S 1079 36 → S 1070 1 = S 1079 28 → S 1031 6 = S 1079 1 → zz_end ≤ n → (0 ≤ x4 ∧ x4 ≤ 3590) → (k : Int) ≤ 200 + x4 → (j : Int) ≤ 30000 + 6 * x4 → (3600 - x4).toNat < N → zz_E g l zy_law_L room_1 (fun u => ∃ M1 n1, u = (.inl (some (zi 1)), M1, n1)) S n 23 [some (.ref 998), some (.ref 1000), some (.ref 1079), some (.ref 1121), some (zi x4)] [] k j) (x4 : Int) (S : zz_S) (n k j : Nat) (G_S : zz_G S) (H_S : zz_Hc S) (R_S : zz_Hr S) (O_S : 1 ≤ S 1079 36) (T0_S : S 1070 1 = S 1079 28) (T1_S : S 1031 6 = S 1079 1) (hn : zz_end ≤ n) (hx : 0 ≤ x4 ∧ x4 ≤ 3590) (hkk : (k : Int) ≤ 200 + x4) (hjj : (j : Int) ≤ 30000 + 6 * x4) (hR : (3600 - x4).toNat < N + 1) (hc1 : x4 ≤ zz_ln g - 7) : zz_E g l zy_law_L room_1 (fun u => ∃ M1 n1, u = (.inl (some (zi 1)), M1, n1)) S n 664 [some (.ref 998), some (.ref 1000), some (.ref 1079), some (.ref 1121), some (zi x4)] [] k j := by
  have hln : 0 ≤ zz_ln g ∧ zz_ln g ≤ 3584 := ⟨Int.natCast_nonneg _, Int.ofNat_le.mpr hlen⟩
  have hk : k ≤ 601024 := by omega
  have hj : j ≤ 7293034 := by omega
  refine zz_aload_n (x := 1000) rfl zd_L_law_664 ?_
  refine zz_aload_n (x := 998) rfl zd_L_law_665 ?_
  refine zz_iload (x := x4) rfl zd_L_law_666 ?_
  refine zz_iconst zd_L_law_668 ?_
  refine zz_iadd zd_L_law_669 ?_
  refine zz_sld (by omega) zd_L_law_670 (by omega) ?_
  have g339 := zz_sc_r g (x4 + 1).toNat
  refine zz_aload_n (x := 1121) rfl zd_L_law_671 ?_
  refine zz_callHW (rz := zr_stopped_L) [.ref 1000, zi (zz_sc g (x4 + 1).toNat), .ref 1121] zd_L_law_672 zhl_stopped_L rfl rfl ⟨Nat.le_of_ble_eq_true rfl, Nat.le_of_ble_eq_true rfl⟩ (by show k + 1 ≤ 601024; omega) (by show j + 6 ≤ 7293034; omega) (zc_stopped_L (zz_sc g (x4 + 1).toNat) S (n) hn hfl G_S (by omega)) (fun v341 S340 d342 hd342 hP => ?_)
  obtain ⟨G_S340, fS340, rv341⟩ := hP
  have hn343 : zz_end ≤ n + d342 := by omega
  have hk344 : (k + zr_stopped_L.cells) ≤ 601024 := by show k + 1 ≤ 601024; omega
  have hj345 : (j + zr_stopped_L.slots) ≤ 7293034 := by show j + 6 ≤ 7293034; omega
  have H_S340 : zz_Hc S340 := zz_Hc.fr (q := 0) fS340 rfl rfl G_S (by decide) rfl (fun b q h => h.elim) H_S
  have R_S340 : zz_Hr S340 := zz_Hr.fr fS340 rfl rfl (fun b q h => h.elim) R_S
  have O_S340 : 1 ≤ S340 1079 36 := by rw [show S340 1079 36 = S 1079 36 from zz_rc fS340 rfl rfl (fun h => h) rfl]; exact O_S
  refine zz_istore [some (.ref 998), some (.ref 1000), some (.ref 1079), some (.ref 1121), some (zi x4), some (zi v341)] zd_L_law_675 (by decide) rfl ?_
  refine zz_aload_n (x := 1079) rfl zd_L_law_677 ?_
  refine zz_aload_n (x := 998) rfl zd_L_law_678 ?_
  refine zz_iload (x := x4) rfl zd_L_law_679 ?_
  refine zz_iconst zd_L_law_681 ?_
  refine zz_iadd zd_L_law_682 ?_
  refine zz_sld (by omega) zd_L_law_683 (by omega) ?_
  refine zz_callVI [zi (zz_sc g (x4 + 1).toNat)] zd_L_law_684 zk_TFLaw_160 zT_1079 (zz_ltn hn343 rfl) rfl rfl ⟨Nat.le_of_ble_eq_true rfl, Nat.le_of_ble_eq_true rfl⟩ ⟨rfl, rfl⟩ hk344 hj345 (zc_stopped_14_45 (zz_sc g (x4 + 1).toNat) S340 (n + d342) hn343 G_S340 (by omega)) (fun v347 S346 hP => ?_)
  obtain ⟨G_S346, fS346, o348⟩ := hP
  have H_S346 : zz_Hc S346 := zz_Hc.fr (q := 0) fS346 rfl rfl G_S340 (by decide) rfl (fun b q h => h.elim) H_S340
  have R_S346 : zz_Hr S346 := zz_Hr.fr fS346 rfl rfl (fun b q h => h.elim) R_S340
  have O_S346 : 1 ≤ S346 1079 36 := by rw [show S346 1079 36 = S340 1079 36 from zz_rc fS346 rfl rfl (fun h => h) rfl]; exact O_S340
  refine zz_istore [some (.ref 998), some (.ref 1000), some (.ref 1079), some (.ref 1121), some (zi x4), some (zi v341), some (zi v347)] zd_L_law_687 (by decide) rfl ?_
  refine zz_goto zd_L_law_689 ?_
  refine zz_iinc [some (.ref 998), some (.ref 1000), some (.ref 1079), some (.ref 1121), some (zi (x4 + 7)), some (zi v341), some (zi v347)] zd_L_law_1191 rfl rfl ?_
  refine zz_goto zd_L_law_1194 ?_
  refine zz_less (ls1 := [some (.ref 998), some (.ref 1000), some (.ref 1079), some (.ref 1121), some (zi (x4 + 7))]) ⟨rfl, ⟨rfl, ⟨rfl, ⟨rfl, ⟨rfl, trivial⟩⟩⟩⟩⟩ ?_
  have g349 := zz_G.r G_S 1070 1 0 1500 rfl rfl
  have e350 : S346 1070 1 = S 1070 1 := (zz_rc fS346 rfl rfl (fun h => h) (zz_rc fS340 rfl rfl (fun h => h) rfl))
  have g351 := zz_G.r G_S 1079 28 0 1500 rfl rfl
  have e352 : S346 1079 28 = S 1079 28 := (zz_rc fS346 rfl rfl (fun h => h) (zz_rc fS340 rfl rfl (fun h => h) rfl))
  have g353 := zz_G.r G_S 1031 6 2 8 rfl rfl
  have e354 : S346 1031 6 = S 1031 6 := (zz_rc fS346 rfl rfl (fun h => h) (zz_rc fS340 rfl rfl (fun h => h) rfl))
  have g355 := zz_G.r G_S 1079 1 2 8 rfl rfl
  have e356 : S346 1079 1 = S 1079 1 := (zz_rc fS346 rfl rfl (fun h => h) (zz_rc fS340 rfl rfl (fun h => h) rfl))
  exact ih (x4 + 7) S346 (n + d342) (k + zr_stopped_L.cells) (j + zr_stopped_L.slots) G_S346 H_S346 R_S346 O_S346 (by omega) (by omega) hn343 (by omega) (by show ((k + 1 : Nat) : Int) ≤ 200 + (x4 + 7); omega) (by show ((j + 6 : Nat) : Int) ≤ 30000 + 6 * (x4 + 7); omega) (by omega)
theorem zl_15 {g : mm_G} {l : Launch} (hfl : l.flags = flags0) (hlen : g.2.2.2 997 ≤ 3584) (N : Nat) (ih : ∀ (x4 : Int) (S : zz_S) (n k j : Nat), zz_G S → zz_Hc S → zz_Hr S → 1 ≤ S 1079 36 → S 1070 1 = S 1079 28 → S 1031 6 = S 1079 1 → zz_end ≤ n → (0 ≤ x4 ∧ x4 ≤ 3590) → (k : Int) ≤ 200 + x4 → (j : Int) ≤ 30000 + 6 * x4 → (3600 - x4).toNat < N → zz_E g l zy_law_L room_1 (fun u => ∃ M1 n1, u = (.inl (some (zi 1)), M1, n1)) S n 23 [some (.ref 998), some (.ref 1000), some (.ref 1079), some (.ref 1121), some (zi x4)] [] k j) (x4 : Int) (S : zz_S) (n k j : Nat) (G_S : zz_G S) (H_S : zz_Hc S) (R_S : zz_Hr S) (O_S : 1 ≤ S 1079 36) (T0_S : S 1070 1 = S 1079 28) (T1_S : S 1031 6 = S 1079 1) (hn : zz_end ≤ n) (hx : 0 ≤ x4 ∧ x4 ≤ 3590) (hkk : (k : Int) ≤ 200 + x4) (hjj : (j : Int) ≤ 30000 + 6 * x4) (hR : (3600 - x4).toNat < N + 1) (hc1 : x4 ≤ zz_ln g - 7) : zz_E g l zy_law_L room_1 (fun u => ∃ M1 n1, u = (.inl (some (zi 1)), M1, n1)) S n 692 [some (.ref 998), some (.ref 1000), some (.ref 1079), some (.ref 1121), some (zi x4)] [] k j := by
  have hln : 0 ≤ zz_ln g ∧ zz_ln g ≤ 3584 := ⟨Int.natCast_nonneg _, Int.ofNat_le.mpr hlen⟩
  have hk : k ≤ 601024 := by omega
  have hj : j ≤ 7293034 := by omega
  refine zz_aload_n (x := 1000) rfl zd_L_law_692 ?_
  refine zz_aload_n (x := 998) rfl zd_L_law_693 ?_
  refine zz_iload (x := x4) rfl zd_L_law_694 ?_
  refine zz_iconst zd_L_law_696 ?_
  refine zz_iadd zd_L_law_697 ?_
  refine zz_sld (by omega) zd_L_law_698 (by omega) ?_
  have g358 := zz_sc_r g (x4 + 1).toNat
  refine zz_aload_n (x := 998) rfl zd_L_law_699 ?_
  refine zz_iload (x := x4) rfl zd_L_law_700 ?_
  refine zz_iconst zd_L_law_702 ?_
  refine zz_iadd zd_L_law_703 ?_
  refine zz_sld (by omega) zd_L_law_704 (by omega) ?_
  have g359 := zz_sc_r g (x4 + 2).toNat
  refine zz_aload_n (x := 1121) rfl zd_L_law_705 ?_
  refine zz_callHW (rz := zr_instruction_L) [.ref 1000, zi (zz_sc g (x4 + 1).toNat), zi (zz_sc g (x4 + 2).toNat), .ref 1121] zd_L_law_706 zhl_instruction_L rfl rfl ⟨Nat.le_of_ble_eq_true rfl, Nat.le_of_ble_eq_true rfl⟩ (by show k + 2 ≤ 601024; omega) (by show j + 12 ≤ 7293034; omega) (zc_instruction_L (zz_sc g (x4 + 1).toNat) (zz_sc g (x4 + 2).toNat) S (n) hn hfl G_S (by omega) (by omega)) (fun v361 S360 d362 hd362 hP => ?_)
  obtain ⟨G_S360, fS360, rv361⟩ := hP
  have hn363 : zz_end ≤ n + d362 := by omega
  have hk364 : (k + zr_instruction_L.cells) ≤ 601024 := by show k + 2 ≤ 601024; omega
  have hj365 : (j + zr_instruction_L.slots) ≤ 7293034 := by show j + 12 ≤ 7293034; omega
  have H_S360 : zz_Hc S360 := zz_Hc.fr (q := 0) fS360 rfl rfl G_S (by decide) rfl (fun b q h => h.elim) H_S
  have R_S360 : zz_Hr S360 := zz_Hr.fr fS360 rfl rfl (fun b q h => h.elim) R_S
  have O_S360 : 1 ≤ S360 1079 36 := by rw [show S360 1079 36 = S 1079 36 from zz_rc fS360 rfl rfl (fun h => h) rfl]; exact O_S
  refine zz_istore [some (.ref 998), some (.ref 1000), some (.ref 1079), some (.ref 1121), some (zi x4), some (zi v361)] zd_L_law_709 (by decide) rfl ?_
  refine zz_aload_n (x := 1079) rfl zd_L_law_711 ?_
  refine zz_aload_n (x := 998) rfl zd_L_law_712 ?_
  refine zz_iload (x := x4) rfl zd_L_law_713 ?_
  refine zz_iconst zd_L_law_715 ?_
  refine zz_iadd zd_L_law_716 ?_
  refine zz_sld (by omega) zd_L_law_717 (by omega) ?_
  refine zz_aload_n (x := 998) rfl zd_L_law_718 ?_
  refine zz_iload (x := x4) rfl zd_L_law_719 ?_
  refine zz_iconst zd_L_law_721 ?_
  refine zz_iadd zd_L_law_722 ?_
  refine zz_sld (by omega) zd_L_law_723 (by omega) ?_
  refine zz_callVI [zi (zz_sc g (x4 + 1).toNat), zi (zz_sc g (x4 + 2).toNat)] zd_L_law_724 zk_TFLaw_163 zT_1079 (zz_ltn hn363 rfl) rfl rfl ⟨Nat.le_of_ble_eq_true rfl, Nat.le_of_ble_eq_true rfl⟩ ⟨rfl, rfl⟩ hk364 hj365 (zc_instruction_14_46 (zz_sc g (x4 + 1).toNat) (zz_sc g (x4 + 2).toNat) S360 (n + d362) hn363 G_S360 (by omega) (by omega)) (fun v367 S366 hP => ?_)
  obtain ⟨G_S366, fS366, o368⟩ := hP
  have H_S366 : zz_Hc S366 := zz_Hc.fr (q := 0) fS366 rfl rfl G_S360 (by decide) rfl (fun b q h => h.elim) H_S360
  have R_S366 : zz_Hr S366 := zz_Hr.fr fS366 rfl rfl (fun b q h => h.elim) R_S360
  have O_S366 : 1 ≤ S366 1079 36 := by rw [show S366 1079 36 = S360 1079 36 from zz_rc fS366 rfl rfl (fun h => h) rfl]; exact O_S360
  refine zz_istore [some (.ref 998), some (.ref 1000), some (.ref 1079), some (.ref 1121), some (zi x4), some (zi v361), some (zi v367)] zd_L_law_727 (by decide) rfl ?_
  refine zz_goto zd_L_law_729 ?_
  refine zz_iinc [some (.ref 998), some (.ref 1000), some (.ref 1079), some (.ref 1121), some (zi (x4 + 7)), some (zi v361), some (zi v367)] zd_L_law_1191 rfl rfl ?_
  refine zz_goto zd_L_law_1194 ?_
  refine zz_less (ls1 := [some (.ref 998), some (.ref 1000), some (.ref 1079), some (.ref 1121), some (zi (x4 + 7))]) ⟨rfl, ⟨rfl, ⟨rfl, ⟨rfl, ⟨rfl, trivial⟩⟩⟩⟩⟩ ?_
  have g369 := zz_G.r G_S 1070 1 0 1500 rfl rfl
  have e370 : S366 1070 1 = S 1070 1 := (zz_rc fS366 rfl rfl (fun h => h) (zz_rc fS360 rfl rfl (fun h => h) rfl))
  have g371 := zz_G.r G_S 1079 28 0 1500 rfl rfl
  have e372 : S366 1079 28 = S 1079 28 := (zz_rc fS366 rfl rfl (fun h => h) (zz_rc fS360 rfl rfl (fun h => h) rfl))
  have g373 := zz_G.r G_S 1031 6 2 8 rfl rfl
  have e374 : S366 1031 6 = S 1031 6 := (zz_rc fS366 rfl rfl (fun h => h) (zz_rc fS360 rfl rfl (fun h => h) rfl))
  have g375 := zz_G.r G_S 1079 1 2 8 rfl rfl
  have e376 : S366 1079 1 = S 1079 1 := (zz_rc fS366 rfl rfl (fun h => h) (zz_rc fS360 rfl rfl (fun h => h) rfl))
  exact ih (x4 + 7) S366 (n + d362) (k + zr_instruction_L.cells) (j + zr_instruction_L.slots) G_S366 H_S366 R_S366 O_S366 (by omega) (by omega) hn363 (by omega) (by show ((k + 2 : Nat) : Int) ≤ 200 + (x4 + 7); omega) (by show ((j + 12 : Nat) : Int) ≤ 30000 + 6 * (x4 + 7); omega) (by omega)
theorem zl_16 {g : mm_G} {l : Launch} (hfl : l.flags = flags0) (hlen : g.2.2.2 997 ≤ 3584) (N : Nat) (ih : ∀ (x4 : Int) (S : zz_S) (n k j : Nat), zz_G S → zz_Hc S → zz_Hr S → 1 ≤ S 1079 36 → S 1070 1 = S 1079 28 → S 1031 6 = S 1079 1 → zz_end ≤ n → (0 ≤ x4 ∧ x4 ≤ 3590) → (k : Int) ≤ 200 + x4 → (j : Int) ≤ 30000 + 6 * x4 → (3600 - x4).toNat < N → zz_E g l zy_law_L room_1 (fun u => ∃ M1 n1, u = (.inl (some (zi 1)), M1, n1)) S n 23 [some (.ref 998), some (.ref 1000), some (.ref 1079), some (.ref 1121), some (zi x4)] [] k j) (x4 : Int) (S : zz_S) (n k j : Nat) (G_S : zz_G S) (H_S : zz_Hc S) (R_S : zz_Hr S) (O_S : 1 ≤ S 1079 36) (T0_S : S 1070 1 = S 1079 28) (T1_S : S 1031 6 = S 1079 1) (hn : zz_end ≤ n) (hx : 0 ≤ x4 ∧ x4 ≤ 3590) (hkk : (k : Int) ≤ 200 + x4) (hjj : (j : Int) ≤ 30000 + 6 * x4) (hR : (3600 - x4).toNat < N + 1) (hc1 : x4 ≤ zz_ln g - 7) : zz_E g l zy_law_L room_1 (fun u => ∃ M1 n1, u = (.inl (some (zi 1)), M1, n1)) S n 732 [some (.ref 998), some (.ref 1000), some (.ref 1079), some (.ref 1121), some (zi x4)] [] k j := by
  have hln : 0 ≤ zz_ln g ∧ zz_ln g ≤ 3584 := ⟨Int.natCast_nonneg _, Int.ofNat_le.mpr hlen⟩
  have hk : k ≤ 601024 := by omega
  have hj : j ≤ 7293034 := by omega
  refine zz_aload_n (x := 1000) rfl zd_L_law_732 ?_
  refine zz_aload_n (x := 998) rfl zd_L_law_733 ?_
  refine zz_iload (x := x4) rfl zd_L_law_734 ?_
  refine zz_iconst zd_L_law_736 ?_
  refine zz_iadd zd_L_law_737 ?_
  refine zz_sld (by omega) zd_L_law_738 (by omega) ?_
  have g378 := zz_sc_r g (x4 + 1).toNat
  refine zz_aload_n (x := 998) rfl zd_L_law_739 ?_
  refine zz_iload (x := x4) rfl zd_L_law_740 ?_
  refine zz_iconst zd_L_law_742 ?_
  refine zz_iadd zd_L_law_743 ?_
  refine zz_sld (by omega) zd_L_law_744 (by omega) ?_
  have g379 := zz_sc_r g (x4 + 2).toNat
  refine zz_aload_n (x := 998) rfl zd_L_law_745 ?_
  refine zz_iload (x := x4) rfl zd_L_law_746 ?_
  refine zz_iconst zd_L_law_748 ?_
  refine zz_iadd zd_L_law_749 ?_
  refine zz_sld (by omega) zd_L_law_750 (by omega) ?_
  have g380 := zz_sc_r g (x4 + 3).toNat
  refine zz_callHW (rz := zr_input_L) [.ref 1000, zi (zz_sc g (x4 + 1).toNat), zi (zz_sc g (x4 + 2).toNat), zi (zz_sc g (x4 + 3).toNat)] zd_L_law_751 zhl_input_L rfl rfl ⟨Nat.le_of_ble_eq_true rfl, Nat.le_of_ble_eq_true rfl⟩ (by show k + 1 ≤ 601024; omega) (by show j + 6 ≤ 7293034; omega) (zc_input_L (zz_sc g (x4 + 1).toNat) (zz_sc g (x4 + 2).toNat) (zz_sc g (x4 + 3).toNat) S (n) hn hfl G_S (by omega) (by omega) (by omega) H_S) (fun v382 S381 d383 hd383 hP => ?_)
  obtain ⟨G_S381, fS381, rv382, o384, o385⟩ := hP
  have g386 := zz_G.r G_S 1000 7 0 1 rfl rfl
  have hn387 : zz_end ≤ n + d383 := by omega
  have hk388 : (k + zr_input_L.cells) ≤ 601024 := by show k + 1 ≤ 601024; omega
  have hj389 : (j + zr_input_L.slots) ≤ 7293034 := by show j + 6 ≤ 7293034; omega
  have b390 := zz_rf3 (z := (S 1000 7)) (by omega)
  have b391 := zz_rf6 (z := (12 * (S 1000 7) + 0)) (by omega)
  have H_S381 : zz_Hc S381 := o385
  have R_S381 : zz_Hr S381 := zz_Hr.fr fS381 rfl rfl (fun b q h => by have h0_ := zz_rf3 (z := (S 1000 7)) (by omega); have h10_ := zz_rf6 (z := (12 * (S 1000 7) + 0)) (by omega); have h11_ := zz_rf6 (z := (12 * (S 1000 7) + 0)) (by omega); have h12_ := zz_rf6 (z := (12 * (S 1000 7) + 0)) (by omega); have h13_ := zz_rf6 (z := (12 * (S 1000 7) + 0)) (by omega); have h14_ := zz_rf6 (z := (12 * (S 1000 7) + 0)) (by omega); have h15_ := zz_rf6 (z := (12 * (S 1000 7) + 0)) (by omega); have h1_ := zz_rf6 (z := (12 * (S 1000 7) + 0)) (by omega); have h2_ := zz_rf6 (z := (12 * (S 1000 7) + 0)) (by omega); have h3_ := zz_rf6 (z := (12 * (S 1000 7) + 0)) (by omega); have h4_ := zz_rf6 (z := (12 * (S 1000 7) + 0)) (by omega); have h5_ := zz_rf6 (z := (12 * (S 1000 7) + 0)) (by omega); have h6_ := zz_rf6 (z := (12 * (S 1000 7) + 0)) (by omega); have h7_ := zz_rf6 (z := (12 * (S 1000 7) + 0)) (by omega); have h8_ := zz_rf6 (z := (12 * (S 1000 7) + 0)) (by omega); have h9_ := zz_rf6 (z := (12 * (S 1000 7) + 0)) (by omega); omega) R_S
  have O_S381 : 1 ≤ S381 1079 36 := by rw [show S381 1079 36 = S 1079 36 from zz_rc fS381 rfl rfl (by have h0_ := zz_rf3 (z := (S 1000 7)) (by omega); have h10_ := zz_rf6 (z := (12 * (S 1000 7) + 0)) (by omega); have h11_ := zz_rf6 (z := (12 * (S 1000 7) + 0)) (by omega); have h12_ := zz_rf6 (z := (12 * (S 1000 7) + 0)) (by omega); have h13_ := zz_rf6 (z := (12 * (S 1000 7) + 0)) (by omega); have h14_ := zz_rf6 (z := (12 * (S 1000 7) + 0)) (by omega); have h15_ := zz_rf6 (z := (12 * (S 1000 7) + 0)) (by omega); have h1_ := zz_rf6 (z := (12 * (S 1000 7) + 0)) (by omega); have h2_ := zz_rf6 (z := (12 * (S 1000 7) + 0)) (by omega); have h3_ := zz_rf6 (z := (12 * (S 1000 7) + 0)) (by omega); have h4_ := zz_rf6 (z := (12 * (S 1000 7) + 0)) (by omega); have h5_ := zz_rf6 (z := (12 * (S 1000 7) + 0)) (by omega); have h6_ := zz_rf6 (z := (12 * (S 1000 7) + 0)) (by omega); have h7_ := zz_rf6 (z := (12 * (S 1000 7) + 0)) (by omega); have h8_ := zz_rf6 (z := (12 * (S 1000 7) + 0)) (by omega); have h9_ := zz_rf6 (z := (12 * (S 1000 7) + 0)) (by omega); omega) rfl]; exact O_S
  refine zz_istore [some (.ref 998), some (.ref 1000), some (.ref 1079), some (.ref 1121), some (zi x4), some (zi v382)] zd_L_law_754 (by decide) rfl ?_
  refine zz_aload_n (x := 1079) rfl zd_L_law_756 ?_
  refine zz_aload_n (x := 998) rfl zd_L_law_757 ?_
  refine zz_iload (x := x4) rfl zd_L_law_758 ?_
  refine zz_iconst zd_L_law_760 ?_
  refine zz_iadd zd_L_law_761 ?_
  refine zz_sld (by omega) zd_L_law_762 (by omega) ?_
  refine zz_aload_n (x := 998) rfl zd_L_law_763 ?_
  refine zz_iload (x := x4) rfl zd_L_law_764 ?_
  refine zz_iconst zd_L_law_766 ?_
  refine zz_iadd zd_L_law_767 ?_
  refine zz_sld (by omega) zd_L_law_768 (by omega) ?_
  refine zz_aload_n (x := 998) rfl zd_L_law_769 ?_
  refine zz_iload (x := x4) rfl zd_L_law_770 ?_
  refine zz_iconst zd_L_law_772 ?_
  refine zz_iadd zd_L_law_773 ?_
  refine zz_sld (by omega) zd_L_law_774 (by omega) ?_
  have g392 := zz_G.r G_S 1079 36 0 11 rfl rfl
  have e393 : S381 1079 36 = S 1079 36 := (zz_rc fS381 rfl rfl (by omega) rfl)
  refine zz_callVV [zi (zz_sc g (x4 + 1).toNat), zi (zz_sc g (x4 + 2).toNat), zi (zz_sc g (x4 + 3).toNat)] zd_L_law_775 zk_TFLaw_167 zT_1079 (zz_ltn hn387 rfl) rfl rfl ⟨Nat.le_of_ble_eq_true rfl, Nat.le_of_ble_eq_true rfl⟩ ⟨rfl, rfl⟩ hk388 hj389 (zc_input_14_63 (zz_sc g (x4 + 1).toNat) (zz_sc g (x4 + 2).toNat) (zz_sc g (x4 + 3).toNat) S381 (n + d383) hn387 G_S381 (by omega) (by omega) (by omega) R_S381) (fun S394 hP => ?_)
  obtain ⟨G_S394, fS394, o396, o397, o398, o399⟩ := hP
  have H_S394 : zz_Hc S394 := zz_Hc.fr (q := 0) fS394 rfl rfl G_S381 (by decide) rfl (fun b q h => h.elim) H_S381
  have R_S394 : zz_Hr S394 := o399
  have O_S394 : 1 ≤ S394 1079 36 := by omega
  refine zz_goto zd_L_law_778 ?_
  refine zz_iinc [some (.ref 998), some (.ref 1000), some (.ref 1079), some (.ref 1121), some (zi (x4 + 7)), some (zi v382)] zd_L_law_1191 rfl rfl ?_
  refine zz_goto zd_L_law_1194 ?_
  refine zz_less (ls1 := [some (.ref 998), some (.ref 1000), some (.ref 1079), some (.ref 1121), some (zi (x4 + 7))]) ⟨rfl, ⟨rfl, ⟨rfl, ⟨rfl, ⟨rfl, trivial⟩⟩⟩⟩⟩ ?_
  have g400 := zz_G.r G_S 1070 1 0 1500 rfl rfl
  have e401 : S394 1070 1 = S 1070 1 := (zz_rc fS394 rfl rfl (fun h => h) (zz_rc fS381 rfl rfl (by omega) rfl))
  have g402 := zz_G.r G_S 1079 28 0 1500 rfl rfl
  have e403 : S394 1079 28 = S 1079 28 := (zz_rc fS394 rfl rfl (fun h => h) (zz_rc fS381 rfl rfl (by omega) rfl))
  have g404 := zz_G.r G_S 1031 6 2 8 rfl rfl
  have e405 : S394 1031 6 = S 1031 6 := (zz_rc fS394 rfl rfl (fun h => h) (zz_rc fS381 rfl rfl (by omega) rfl))
  have g406 := zz_G.r G_S 1079 1 2 8 rfl rfl
  have e407 : S394 1079 1 = S 1079 1 := (zz_rc fS394 rfl rfl (fun h => h) (zz_rc fS381 rfl rfl (by omega) rfl))
  exact ih (x4 + 7) S394 (n + d383) (k + zr_input_L.cells) (j + zr_input_L.slots) G_S394 H_S394 R_S394 O_S394 (by omega) (by omega) hn387 (by omega) (by show ((k + 1 : Nat) : Int) ≤ 200 + (x4 + 7); omega) (by show ((j + 6 : Nat) : Int) ≤ 30000 + 6 * (x4 + 7); omega) (by omega)
theorem zl_17 {g : mm_G} {l : Launch} (hfl : l.flags = flags0) (hlen : g.2.2.2 997 ≤ 3584) (N : Nat) (ih : ∀ (x4 : Int) (S : zz_S) (n k j : Nat), zz_G S → zz_Hc S → zz_Hr S → 1 ≤ S 1079 36 → S 1070 1 = S 1079 28 → S 1031 6 = S 1079 1 → zz_end ≤ n → (0 ≤ x4 ∧ x4 ≤ 3590) → (k : Int) ≤ 200 + x4 → (j : Int) ≤ 30000 + 6 * x4 → (3600 - x4).toNat < N → zz_E g l zy_law_L room_1 (fun u => ∃ M1 n1, u = (.inl (some (zi 1)), M1, n1)) S n 23 [some (.ref 998), some (.ref 1000), some (.ref 1079), some (.ref 1121), some (zi x4)] [] k j) (x4 : Int) (S : zz_S) (n k j : Nat) (G_S : zz_G S) (H_S : zz_Hc S) (R_S : zz_Hr S) (O_S : 1 ≤ S 1079 36) (T0_S : S 1070 1 = S 1079 28) (T1_S : S 1031 6 = S 1079 1) (hn : zz_end ≤ n) (hx : 0 ≤ x4 ∧ x4 ≤ 3590) (hkk : (k : Int) ≤ 200 + x4) (hjj : (j : Int) ≤ 30000 + 6 * x4) (hR : (3600 - x4).toNat < N + 1) (hc1 : x4 ≤ zz_ln g - 7) : zz_E g l zy_law_L room_1 (fun u => ∃ M1 n1, u = (.inl (some (zi 1)), M1, n1)) S n 781 [some (.ref 998), some (.ref 1000), some (.ref 1079), some (.ref 1121), some (zi x4)] [] k j := by
  have hln : 0 ≤ zz_ln g ∧ zz_ln g ≤ 3584 := ⟨Int.natCast_nonneg _, Int.ofNat_le.mpr hlen⟩
  have hk : k ≤ 601024 := by omega
  have hj : j ≤ 7293034 := by omega
  refine zz_aload_n (x := 1000) rfl zd_L_law_781 ?_
  refine zz_aload_n (x := 998) rfl zd_L_law_782 ?_
  refine zz_iload (x := x4) rfl zd_L_law_783 ?_
  refine zz_iconst zd_L_law_785 ?_
  refine zz_iadd zd_L_law_786 ?_
  refine zz_sld (by omega) zd_L_law_787 (by omega) ?_
  have g409 := zz_sc_r g (x4 + 1).toNat
  refine zz_aload_n (x := 998) rfl zd_L_law_788 ?_
  refine zz_iload (x := x4) rfl zd_L_law_789 ?_
  refine zz_iconst zd_L_law_791 ?_
  refine zz_iadd zd_L_law_792 ?_
  refine zz_sld (by omega) zd_L_law_793 (by omega) ?_
  have g410 := zz_sc_r g (x4 + 2).toNat
  refine zz_aload_n (x := 998) rfl zd_L_law_794 ?_
  refine zz_iload (x := x4) rfl zd_L_law_795 ?_
  refine zz_iconst zd_L_law_797 ?_
  refine zz_iadd zd_L_law_798 ?_
  refine zz_sld (by omega) zd_L_law_799 (by omega) ?_
  have g411 := zz_sc_r g (x4 + 3).toNat
  refine zz_aload_n (x := 998) rfl zd_L_law_800 ?_
  refine zz_iload (x := x4) rfl zd_L_law_801 ?_
  refine zz_iconst zd_L_law_803 ?_
  refine zz_iadd zd_L_law_804 ?_
  refine zz_sld (by omega) zd_L_law_805 (by omega) ?_
  have g412 := zz_sc_r g (x4 + 4).toNat
  refine zz_aload_n (x := 998) rfl zd_L_law_806 ?_
  refine zz_iload (x := x4) rfl zd_L_law_807 ?_
  refine zz_iconst zd_L_law_809 ?_
  refine zz_iadd zd_L_law_810 ?_
  refine zz_sld (by omega) zd_L_law_811 (by omega) ?_
  have g413 := zz_sc_r g (x4 + 5).toNat
  refine zz_aload_n (x := 998) rfl zd_L_law_812 ?_
  refine zz_iload (x := x4) rfl zd_L_law_813 ?_
  refine zz_bipush (by decide) zd_L_law_815 ?_
  refine zz_iadd zd_L_law_817 ?_
  refine zz_sld (by omega) zd_L_law_818 (by omega) ?_
  have g414 := zz_sc_r g (x4 + 6).toNat
  refine zz_aload_n (x := 1121) rfl zd_L_law_819 ?_
  refine zz_callHW (rz := zr_convolution_L) [.ref 1000, zi (zz_sc g (x4 + 1).toNat), zi (zz_sc g (x4 + 2).toNat), zi (zz_sc g (x4 + 3).toNat), zi (zz_sc g (x4 + 4).toNat), zi (zz_sc g (x4 + 5).toNat), zi (zz_sc g (x4 + 6).toNat), .ref 1121] zd_L_law_820 zhl_convolution_L rfl rfl ⟨Nat.le_of_ble_eq_true rfl, Nat.le_of_ble_eq_true rfl⟩ (by show k + 1 ≤ 601024; omega) (by show j + 6 ≤ 7293034; omega) (zc_convolution_L (zz_sc g (x4 + 1).toNat) (zz_sc g (x4 + 2).toNat) (zz_sc g (x4 + 3).toNat) (zz_sc g (x4 + 4).toNat) (zz_sc g (x4 + 5).toNat) (zz_sc g (x4 + 6).toNat) S (n) hn hfl G_S (by omega) (by omega) (by omega) (by omega) (by omega) (by omega) H_S) (fun v416 S415 d417 hd417 hP => ?_)
  obtain ⟨G_S415, fS415, rv416, o418⟩ := hP
  have hn419 : zz_end ≤ n + d417 := by omega
  have hk420 : (k + zr_convolution_L.cells) ≤ 601024 := by show k + 1 ≤ 601024; omega
  have hj421 : (j + zr_convolution_L.slots) ≤ 7293034 := by show j + 6 ≤ 7293034; omega
  have H_S415 : zz_Hc S415 := o418
  have R_S415 : zz_Hr S415 := zz_Hr.fr fS415 rfl rfl (fun b q h => h.elim) R_S
  have O_S415 : 1 ≤ S415 1079 36 := by rw [show S415 1079 36 = S 1079 36 from zz_rc fS415 rfl rfl (fun h => h) rfl]; exact O_S
  refine zz_istore [some (.ref 998), some (.ref 1000), some (.ref 1079), some (.ref 1121), some (zi x4), some (zi v416)] zd_L_law_823 (by decide) rfl ?_
  refine zz_aload_n (x := 1079) rfl zd_L_law_825 ?_
  refine zz_aload_n (x := 998) rfl zd_L_law_826 ?_
  refine zz_iload (x := x4) rfl zd_L_law_827 ?_
  refine zz_iconst zd_L_law_829 ?_
  refine zz_iadd zd_L_law_830 ?_
  refine zz_sld (by omega) zd_L_law_831 (by omega) ?_
  refine zz_aload_n (x := 998) rfl zd_L_law_832 ?_
  refine zz_iload (x := x4) rfl zd_L_law_833 ?_
  refine zz_iconst zd_L_law_835 ?_
  refine zz_iadd zd_L_law_836 ?_
  refine zz_sld (by omega) zd_L_law_837 (by omega) ?_
  refine zz_aload_n (x := 998) rfl zd_L_law_838 ?_
  refine zz_iload (x := x4) rfl zd_L_law_839 ?_
  refine zz_iconst zd_L_law_841 ?_
  refine zz_iadd zd_L_law_842 ?_
  refine zz_sld (by omega) zd_L_law_843 (by omega) ?_
  refine zz_aload_n (x := 998) rfl zd_L_law_844 ?_
  refine zz_iload (x := x4) rfl zd_L_law_845 ?_
  refine zz_iconst zd_L_law_847 ?_
  refine zz_iadd zd_L_law_848 ?_
  refine zz_sld (by omega) zd_L_law_849 (by omega) ?_
  refine zz_aload_n (x := 998) rfl zd_L_law_850 ?_
  refine zz_iload (x := x4) rfl zd_L_law_851 ?_
  refine zz_iconst zd_L_law_853 ?_
  refine zz_iadd zd_L_law_854 ?_
  refine zz_sld (by omega) zd_L_law_855 (by omega) ?_
  refine zz_aload_n (x := 998) rfl zd_L_law_856 ?_
  refine zz_iload (x := x4) rfl zd_L_law_857 ?_
  refine zz_bipush (by decide) zd_L_law_859 ?_
  refine zz_iadd zd_L_law_861 ?_
  refine zz_sld (by omega) zd_L_law_862 (by omega) ?_
  have g422 := zz_G.r G_S 1079 36 0 11 rfl rfl
  have e423 : S415 1079 36 = S 1079 36 := (zz_rc fS415 rfl rfl (fun h => h) rfl)
  refine zz_callVI [zi (zz_sc g (x4 + 1).toNat), zi (zz_sc g (x4 + 2).toNat), zi (zz_sc g (x4 + 3).toNat), zi (zz_sc g (x4 + 4).toNat), zi (zz_sc g (x4 + 5).toNat), zi (zz_sc g (x4 + 6).toNat)] zd_L_law_863 zk_TFLaw_171 zT_1079 (zz_ltn hn419 rfl) rfl rfl ⟨Nat.le_of_ble_eq_true rfl, Nat.le_of_ble_eq_true rfl⟩ ⟨rfl, rfl⟩ hk420 hj421 (zc_convolution_14_67 (zz_sc g (x4 + 1).toNat) (zz_sc g (x4 + 2).toNat) (zz_sc g (x4 + 3).toNat) (zz_sc g (x4 + 4).toNat) (zz_sc g (x4 + 5).toNat) (zz_sc g (x4 + 6).toNat) S415 (n + d417) hn419 G_S415 (by omega) (by omega) (by omega) (by omega) (by omega) (by omega) R_S415) (fun v425 S424 hP => ?_)
  obtain ⟨G_S424, fS424, o426, o427, o428⟩ := hP
  have H_S424 : zz_Hc S424 := zz_Hc.fr (q := 0) fS424 rfl rfl G_S415 (by decide) rfl (fun b q h => by omega) H_S415
  have R_S424 : zz_Hr S424 := o428
  have O_S424 : 1 ≤ S424 1079 36 := by omega
  refine zz_istore [some (.ref 998), some (.ref 1000), some (.ref 1079), some (.ref 1121), some (zi x4), some (zi v416), some (zi v425)] zd_L_law_866 (by decide) rfl ?_
  refine zz_goto zd_L_law_868 ?_
  refine zz_iinc [some (.ref 998), some (.ref 1000), some (.ref 1079), some (.ref 1121), some (zi (x4 + 7)), some (zi v416), some (zi v425)] zd_L_law_1191 rfl rfl ?_
  refine zz_goto zd_L_law_1194 ?_
  refine zz_less (ls1 := [some (.ref 998), some (.ref 1000), some (.ref 1079), some (.ref 1121), some (zi (x4 + 7))]) ⟨rfl, ⟨rfl, ⟨rfl, ⟨rfl, ⟨rfl, trivial⟩⟩⟩⟩⟩ ?_
  have g429 := zz_G.r G_S 1070 1 0 1500 rfl rfl
  have e430 : S424 1070 1 = S 1070 1 := (zz_rc fS424 rfl rfl (by omega) (zz_rc fS415 rfl rfl (fun h => h) rfl))
  have g431 := zz_G.r G_S 1079 28 0 1500 rfl rfl
  have e432 : S424 1079 28 = S 1079 28 := (zz_rc fS424 rfl rfl (by omega) (zz_rc fS415 rfl rfl (fun h => h) rfl))
  have g433 := zz_G.r G_S 1031 6 2 8 rfl rfl
  have e434 : S424 1031 6 = S 1031 6 := (zz_rc fS424 rfl rfl (by omega) (zz_rc fS415 rfl rfl (fun h => h) rfl))
  have g435 := zz_G.r G_S 1079 1 2 8 rfl rfl
  have e436 : S424 1079 1 = S 1079 1 := (zz_rc fS424 rfl rfl (by omega) (zz_rc fS415 rfl rfl (fun h => h) rfl))
  exact ih (x4 + 7) S424 (n + d417) (k + zr_convolution_L.cells) (j + zr_convolution_L.slots) G_S424 H_S424 R_S424 O_S424 (by omega) (by omega) hn419 (by omega) (by show ((k + 1 : Nat) : Int) ≤ 200 + (x4 + 7); omega) (by show ((j + 6 : Nat) : Int) ≤ 30000 + 6 * (x4 + 7); omega) (by omega)
theorem zl_18 {g : mm_G} {l : Launch} (hfl : l.flags = flags0) (hlen : g.2.2.2 997 ≤ 3584) (N : Nat) (ih : ∀ (x4 : Int) (S : zz_S) (n k j : Nat), zz_G S → zz_Hc S → zz_Hr S → 1 ≤ S 1079 36 → S 1070 1 = S 1079 28 → S 1031 6 = S 1079 1 → zz_end ≤ n → (0 ≤ x4 ∧ x4 ≤ 3590) → (k : Int) ≤ 200 + x4 → (j : Int) ≤ 30000 + 6 * x4 → (3600 - x4).toNat < N → zz_E g l zy_law_L room_1 (fun u => ∃ M1 n1, u = (.inl (some (zi 1)), M1, n1)) S n 23 [some (.ref 998), some (.ref 1000), some (.ref 1079), some (.ref 1121), some (zi x4)] [] k j) (x4 : Int) (S : zz_S) (n k j : Nat) (G_S : zz_G S) (H_S : zz_Hc S) (R_S : zz_Hr S) (O_S : 1 ≤ S 1079 36) (T0_S : S 1070 1 = S 1079 28) (T1_S : S 1031 6 = S 1079 1) (hn : zz_end ≤ n) (hx : 0 ≤ x4 ∧ x4 ≤ 3590) (hkk : (k : Int) ≤ 200 + x4) (hjj : (j : Int) ≤ 30000 + 6 * x4) (hR : (3600 - x4).toNat < N + 1) (hc1 : x4 ≤ zz_ln g - 7) : zz_E g l zy_law_L room_1 (fun u => ∃ M1 n1, u = (.inl (some (zi 1)), M1, n1)) S n 871 [some (.ref 998), some (.ref 1000), some (.ref 1079), some (.ref 1121), some (zi x4)] [] k j := by
  have hln : 0 ≤ zz_ln g ∧ zz_ln g ≤ 3584 := ⟨Int.natCast_nonneg _, Int.ofNat_le.mpr hlen⟩
  have hk : k ≤ 601024 := by omega
  have hj : j ≤ 7293034 := by omega
  refine zz_aload_n (x := 1000) rfl zd_L_law_871 ?_
  refine zz_aload_n (x := 998) rfl zd_L_law_872 ?_
  refine zz_iload (x := x4) rfl zd_L_law_873 ?_
  refine zz_iconst zd_L_law_875 ?_
  refine zz_iadd zd_L_law_876 ?_
  refine zz_sld (by omega) zd_L_law_877 (by omega) ?_
  have g438 := zz_sc_r g (x4 + 1).toNat
  refine zz_aload_n (x := 998) rfl zd_L_law_878 ?_
  refine zz_iload (x := x4) rfl zd_L_law_879 ?_
  refine zz_iconst zd_L_law_881 ?_
  refine zz_iadd zd_L_law_882 ?_
  refine zz_sld (by omega) zd_L_law_883 (by omega) ?_
  have g439 := zz_sc_r g (x4 + 2).toNat
  refine zz_aload_n (x := 998) rfl zd_L_law_884 ?_
  refine zz_iload (x := x4) rfl zd_L_law_885 ?_
  refine zz_iconst zd_L_law_887 ?_
  refine zz_iadd zd_L_law_888 ?_
  refine zz_sld (by omega) zd_L_law_889 (by omega) ?_
  have g440 := zz_sc_r g (x4 + 3).toNat
  refine zz_aload_n (x := 1121) rfl zd_L_law_890 ?_
  refine zz_callHW (rz := zr_pool_L) [.ref 1000, zi (zz_sc g (x4 + 1).toNat), zi (zz_sc g (x4 + 2).toNat), zi (zz_sc g (x4 + 3).toNat), .ref 1121] zd_L_law_891 zhl_pool_L rfl rfl ⟨Nat.le_of_ble_eq_true rfl, Nat.le_of_ble_eq_true rfl⟩ (by show k + 1 ≤ 601024; omega) (by show j + 6 ≤ 7293034; omega) (zc_pool_L (zz_sc g (x4 + 1).toNat) (zz_sc g (x4 + 2).toNat) (zz_sc g (x4 + 3).toNat) S (n) hn hfl G_S (by omega) (by omega) (by omega) H_S) (fun v442 S441 d443 hd443 hP => ?_)
  obtain ⟨G_S441, fS441, rv442, o444⟩ := hP
  have hn445 : zz_end ≤ n + d443 := by omega
  have hk446 : (k + zr_pool_L.cells) ≤ 601024 := by show k + 1 ≤ 601024; omega
  have hj447 : (j + zr_pool_L.slots) ≤ 7293034 := by show j + 6 ≤ 7293034; omega
  have H_S441 : zz_Hc S441 := o444
  have R_S441 : zz_Hr S441 := zz_Hr.fr fS441 rfl rfl (fun b q h => h.elim) R_S
  have O_S441 : 1 ≤ S441 1079 36 := by rw [show S441 1079 36 = S 1079 36 from zz_rc fS441 rfl rfl (fun h => h) rfl]; exact O_S
  refine zz_istore [some (.ref 998), some (.ref 1000), some (.ref 1079), some (.ref 1121), some (zi x4), some (zi v442)] zd_L_law_894 (by decide) rfl ?_
  refine zz_aload_n (x := 1079) rfl zd_L_law_896 ?_
  refine zz_aload_n (x := 998) rfl zd_L_law_897 ?_
  refine zz_iload (x := x4) rfl zd_L_law_898 ?_
  refine zz_iconst zd_L_law_900 ?_
  refine zz_iadd zd_L_law_901 ?_
  refine zz_sld (by omega) zd_L_law_902 (by omega) ?_
  refine zz_aload_n (x := 998) rfl zd_L_law_903 ?_
  refine zz_iload (x := x4) rfl zd_L_law_904 ?_
  refine zz_iconst zd_L_law_906 ?_
  refine zz_iadd zd_L_law_907 ?_
  refine zz_sld (by omega) zd_L_law_908 (by omega) ?_
  refine zz_aload_n (x := 998) rfl zd_L_law_909 ?_
  refine zz_iload (x := x4) rfl zd_L_law_910 ?_
  refine zz_iconst zd_L_law_912 ?_
  refine zz_iadd zd_L_law_913 ?_
  refine zz_sld (by omega) zd_L_law_914 (by omega) ?_
  have g448 := zz_G.r G_S 1079 36 0 11 rfl rfl
  have e449 : S441 1079 36 = S 1079 36 := (zz_rc fS441 rfl rfl (fun h => h) rfl)
  refine zz_callVI [zi (zz_sc g (x4 + 1).toNat), zi (zz_sc g (x4 + 2).toNat), zi (zz_sc g (x4 + 3).toNat)] zd_L_law_915 zk_TFLaw_175 zT_1079 (zz_ltn hn445 rfl) rfl rfl ⟨Nat.le_of_ble_eq_true rfl, Nat.le_of_ble_eq_true rfl⟩ ⟨rfl, rfl⟩ hk446 hj447 (zc_pool_14_69 (zz_sc g (x4 + 1).toNat) (zz_sc g (x4 + 2).toNat) (zz_sc g (x4 + 3).toNat) S441 (n + d443) hn445 G_S441 (by omega) (by omega) (by omega) R_S441) (fun v451 S450 hP => ?_)
  obtain ⟨G_S450, fS450, o452, o453, o454⟩ := hP
  have H_S450 : zz_Hc S450 := zz_Hc.fr (q := 0) fS450 rfl rfl G_S441 (by decide) rfl (fun b q h => by omega) H_S441
  have R_S450 : zz_Hr S450 := o454
  have O_S450 : 1 ≤ S450 1079 36 := by omega
  refine zz_istore [some (.ref 998), some (.ref 1000), some (.ref 1079), some (.ref 1121), some (zi x4), some (zi v442), some (zi v451)] zd_L_law_918 (by decide) rfl ?_
  refine zz_goto zd_L_law_920 ?_
  refine zz_iinc [some (.ref 998), some (.ref 1000), some (.ref 1079), some (.ref 1121), some (zi (x4 + 7)), some (zi v442), some (zi v451)] zd_L_law_1191 rfl rfl ?_
  refine zz_goto zd_L_law_1194 ?_
  refine zz_less (ls1 := [some (.ref 998), some (.ref 1000), some (.ref 1079), some (.ref 1121), some (zi (x4 + 7))]) ⟨rfl, ⟨rfl, ⟨rfl, ⟨rfl, ⟨rfl, trivial⟩⟩⟩⟩⟩ ?_
  have g455 := zz_G.r G_S 1070 1 0 1500 rfl rfl
  have e456 : S450 1070 1 = S 1070 1 := (zz_rc fS450 rfl rfl (by omega) (zz_rc fS441 rfl rfl (fun h => h) rfl))
  have g457 := zz_G.r G_S 1079 28 0 1500 rfl rfl
  have e458 : S450 1079 28 = S 1079 28 := (zz_rc fS450 rfl rfl (by omega) (zz_rc fS441 rfl rfl (fun h => h) rfl))
  have g459 := zz_G.r G_S 1031 6 2 8 rfl rfl
  have e460 : S450 1031 6 = S 1031 6 := (zz_rc fS450 rfl rfl (by omega) (zz_rc fS441 rfl rfl (fun h => h) rfl))
  have g461 := zz_G.r G_S 1079 1 2 8 rfl rfl
  have e462 : S450 1079 1 = S 1079 1 := (zz_rc fS450 rfl rfl (by omega) (zz_rc fS441 rfl rfl (fun h => h) rfl))
  exact ih (x4 + 7) S450 (n + d443) (k + zr_pool_L.cells) (j + zr_pool_L.slots) G_S450 H_S450 R_S450 O_S450 (by omega) (by omega) hn445 (by omega) (by show ((k + 1 : Nat) : Int) ≤ 200 + (x4 + 7); omega) (by show ((j + 6 : Nat) : Int) ≤ 30000 + 6 * (x4 + 7); omega) (by omega)
theorem zl_19 {g : mm_G} {l : Launch} (hfl : l.flags = flags0) (hlen : g.2.2.2 997 ≤ 3584) (N : Nat) (ih : ∀ (x4 : Int) (S : zz_S) (n k j : Nat), zz_G S → zz_Hc S → zz_Hr S → 1 ≤ S 1079 36 → S 1070 1 = S 1079 28 → S 1031 6 = S 1079 1 → zz_end ≤ n → (0 ≤ x4 ∧ x4 ≤ 3590) → (k : Int) ≤ 200 + x4 → (j : Int) ≤ 30000 + 6 * x4 → (3600 - x4).toNat < N → zz_E g l zy_law_L room_1 (fun u => ∃ M1 n1, u = (.inl (some (zi 1)), M1, n1)) S n 23 [some (.ref 998), some (.ref 1000), some (.ref 1079), some (.ref 1121), some (zi x4)] [] k j) (x4 : Int) (S : zz_S) (n k j : Nat) (G_S : zz_G S) (H_S : zz_Hc S) (R_S : zz_Hr S) (O_S : 1 ≤ S 1079 36) (T0_S : S 1070 1 = S 1079 28) (T1_S : S 1031 6 = S 1079 1) (hn : zz_end ≤ n) (hx : 0 ≤ x4 ∧ x4 ≤ 3590) (hkk : (k : Int) ≤ 200 + x4) (hjj : (j : Int) ≤ 30000 + 6 * x4) (hR : (3600 - x4).toNat < N + 1) (hc1 : x4 ≤ zz_ln g - 7) : zz_E g l zy_law_L room_1 (fun u => ∃ M1 n1, u = (.inl (some (zi 1)), M1, n1)) S n 923 [some (.ref 998), some (.ref 1000), some (.ref 1079), some (.ref 1121), some (zi x4)] [] k j := by
  have hln : 0 ≤ zz_ln g ∧ zz_ln g ≤ 3584 := ⟨Int.natCast_nonneg _, Int.ofNat_le.mpr hlen⟩
  have hk : k ≤ 601024 := by omega
  have hj : j ≤ 7293034 := by omega
  refine zz_aload_n (x := 1000) rfl zd_L_law_923 ?_
  refine zz_aload_n (x := 998) rfl zd_L_law_924 ?_
  refine zz_iload (x := x4) rfl zd_L_law_925 ?_
  refine zz_iconst zd_L_law_927 ?_
  refine zz_iadd zd_L_law_928 ?_
  refine zz_sld (by omega) zd_L_law_929 (by omega) ?_
  have g464 := zz_sc_r g (x4 + 1).toNat
  refine zz_aload_n (x := 998) rfl zd_L_law_930 ?_
  refine zz_iload (x := x4) rfl zd_L_law_931 ?_
  refine zz_iconst zd_L_law_933 ?_
  refine zz_iadd zd_L_law_934 ?_
  refine zz_sld (by omega) zd_L_law_935 (by omega) ?_
  have g465 := zz_sc_r g (x4 + 2).toNat
  refine zz_aload_n (x := 998) rfl zd_L_law_936 ?_
  refine zz_iload (x := x4) rfl zd_L_law_937 ?_
  refine zz_iconst zd_L_law_939 ?_
  refine zz_iadd zd_L_law_940 ?_
  refine zz_sld (by omega) zd_L_law_941 (by omega) ?_
  have g466 := zz_sc_r g (x4 + 3).toNat
  refine zz_aload_n (x := 1121) rfl zd_L_law_942 ?_
  refine zz_callHW (rz := zr_addition_L) [.ref 1000, zi (zz_sc g (x4 + 1).toNat), zi (zz_sc g (x4 + 2).toNat), zi (zz_sc g (x4 + 3).toNat), .ref 1121] zd_L_law_943 zhl_addition_L rfl rfl ⟨Nat.le_of_ble_eq_true rfl, Nat.le_of_ble_eq_true rfl⟩ (by show k + 1 ≤ 601024; omega) (by show j + 6 ≤ 7293034; omega) (zc_addition_L (zz_sc g (x4 + 1).toNat) (zz_sc g (x4 + 2).toNat) (zz_sc g (x4 + 3).toNat) S (n) hn hfl G_S (by omega) (by omega) (by omega) H_S) (fun v468 S467 d469 hd469 hP => ?_)
  obtain ⟨G_S467, fS467, rv468, o470⟩ := hP
  have hn471 : zz_end ≤ n + d469 := by omega
  have hk472 : (k + zr_addition_L.cells) ≤ 601024 := by show k + 1 ≤ 601024; omega
  have hj473 : (j + zr_addition_L.slots) ≤ 7293034 := by show j + 6 ≤ 7293034; omega
  have H_S467 : zz_Hc S467 := o470
  have R_S467 : zz_Hr S467 := zz_Hr.fr fS467 rfl rfl (fun b q h => h.elim) R_S
  have O_S467 : 1 ≤ S467 1079 36 := by rw [show S467 1079 36 = S 1079 36 from zz_rc fS467 rfl rfl (fun h => h) rfl]; exact O_S
  refine zz_istore [some (.ref 998), some (.ref 1000), some (.ref 1079), some (.ref 1121), some (zi x4), some (zi v468)] zd_L_law_946 (by decide) rfl ?_
  refine zz_aload_n (x := 1079) rfl zd_L_law_948 ?_
  refine zz_aload_n (x := 998) rfl zd_L_law_949 ?_
  refine zz_iload (x := x4) rfl zd_L_law_950 ?_
  refine zz_iconst zd_L_law_952 ?_
  refine zz_iadd zd_L_law_953 ?_
  refine zz_sld (by omega) zd_L_law_954 (by omega) ?_
  refine zz_aload_n (x := 998) rfl zd_L_law_955 ?_
  refine zz_iload (x := x4) rfl zd_L_law_956 ?_
  refine zz_iconst zd_L_law_958 ?_
  refine zz_iadd zd_L_law_959 ?_
  refine zz_sld (by omega) zd_L_law_960 (by omega) ?_
  refine zz_aload_n (x := 998) rfl zd_L_law_961 ?_
  refine zz_iload (x := x4) rfl zd_L_law_962 ?_
  refine zz_iconst zd_L_law_964 ?_
  refine zz_iadd zd_L_law_965 ?_
  refine zz_sld (by omega) zd_L_law_966 (by omega) ?_
  have g474 := zz_G.r G_S 1079 36 0 11 rfl rfl
  have e475 : S467 1079 36 = S 1079 36 := (zz_rc fS467 rfl rfl (fun h => h) rfl)
  refine zz_callVI [zi (zz_sc g (x4 + 1).toNat), zi (zz_sc g (x4 + 2).toNat), zi (zz_sc g (x4 + 3).toNat)] zd_L_law_967 zk_TFLaw_178 zT_1079 (zz_ltn hn471 rfl) rfl rfl ⟨Nat.le_of_ble_eq_true rfl, Nat.le_of_ble_eq_true rfl⟩ ⟨rfl, rfl⟩ hk472 hj473 (zc_addition_14_70 (zz_sc g (x4 + 1).toNat) (zz_sc g (x4 + 2).toNat) (zz_sc g (x4 + 3).toNat) S467 (n + d469) hn471 G_S467 (by omega) (by omega) (by omega) R_S467) (fun v477 S476 hP => ?_)
  obtain ⟨G_S476, fS476, o478, o479, o480⟩ := hP
  have H_S476 : zz_Hc S476 := zz_Hc.fr (q := 0) fS476 rfl rfl G_S467 (by decide) rfl (fun b q h => by omega) H_S467
  have R_S476 : zz_Hr S476 := o480
  have O_S476 : 1 ≤ S476 1079 36 := by omega
  refine zz_istore [some (.ref 998), some (.ref 1000), some (.ref 1079), some (.ref 1121), some (zi x4), some (zi v468), some (zi v477)] zd_L_law_970 (by decide) rfl ?_
  refine zz_goto zd_L_law_972 ?_
  refine zz_iinc [some (.ref 998), some (.ref 1000), some (.ref 1079), some (.ref 1121), some (zi (x4 + 7)), some (zi v468), some (zi v477)] zd_L_law_1191 rfl rfl ?_
  refine zz_goto zd_L_law_1194 ?_
  refine zz_less (ls1 := [some (.ref 998), some (.ref 1000), some (.ref 1079), some (.ref 1121), some (zi (x4 + 7))]) ⟨rfl, ⟨rfl, ⟨rfl, ⟨rfl, ⟨rfl, trivial⟩⟩⟩⟩⟩ ?_
  have g481 := zz_G.r G_S 1070 1 0 1500 rfl rfl
  have e482 : S476 1070 1 = S 1070 1 := (zz_rc fS476 rfl rfl (by omega) (zz_rc fS467 rfl rfl (fun h => h) rfl))
  have g483 := zz_G.r G_S 1079 28 0 1500 rfl rfl
  have e484 : S476 1079 28 = S 1079 28 := (zz_rc fS476 rfl rfl (by omega) (zz_rc fS467 rfl rfl (fun h => h) rfl))
  have g485 := zz_G.r G_S 1031 6 2 8 rfl rfl
  have e486 : S476 1031 6 = S 1031 6 := (zz_rc fS476 rfl rfl (by omega) (zz_rc fS467 rfl rfl (fun h => h) rfl))
  have g487 := zz_G.r G_S 1079 1 2 8 rfl rfl
  have e488 : S476 1079 1 = S 1079 1 := (zz_rc fS476 rfl rfl (by omega) (zz_rc fS467 rfl rfl (fun h => h) rfl))
  exact ih (x4 + 7) S476 (n + d469) (k + zr_addition_L.cells) (j + zr_addition_L.slots) G_S476 H_S476 R_S476 O_S476 (by omega) (by omega) hn471 (by omega) (by show ((k + 1 : Nat) : Int) ≤ 200 + (x4 + 7); omega) (by show ((j + 6 : Nat) : Int) ≤ 30000 + 6 * (x4 + 7); omega) (by omega)
theorem zl_20 {g : mm_G} {l : Launch} (hfl : l.flags = flags0) (hlen : g.2.2.2 997 ≤ 3584) (N : Nat) (ih : ∀ (x4 : Int) (S : zz_S) (n k j : Nat), zz_G S → zz_Hc S → zz_Hr S → 1 ≤ S 1079 36 → S 1070 1 = S 1079 28 → S 1031 6 = S 1079 1 → zz_end ≤ n → (0 ≤ x4 ∧ x4 ≤ 3590) → (k : Int) ≤ 200 + x4 → (j : Int) ≤ 30000 + 6 * x4 → (3600 - x4).toNat < N → zz_E g l zy_law_L room_1 (fun u => ∃ M1 n1, u = (.inl (some (zi 1)), M1, n1)) S n 23 [some (.ref 998), some (.ref 1000), some (.ref 1079), some (.ref 1121), some (zi x4)] [] k j) (x4 : Int) (S : zz_S) (n k j : Nat) (G_S : zz_G S) (H_S : zz_Hc S) (R_S : zz_Hr S) (O_S : 1 ≤ S 1079 36) (T0_S : S 1070 1 = S 1079 28) (T1_S : S 1031 6 = S 1079 1) (hn : zz_end ≤ n) (hx : 0 ≤ x4 ∧ x4 ≤ 3590) (hkk : (k : Int) ≤ 200 + x4) (hjj : (j : Int) ≤ 30000 + 6 * x4) (hR : (3600 - x4).toNat < N + 1) (hc1 : x4 ≤ zz_ln g - 7) : zz_E g l zy_law_L room_1 (fun u => ∃ M1 n1, u = (.inl (some (zi 1)), M1, n1)) S n 975 [some (.ref 998), some (.ref 1000), some (.ref 1079), some (.ref 1121), some (zi x4)] [] k j := by
  have hln : 0 ≤ zz_ln g ∧ zz_ln g ≤ 3584 := ⟨Int.natCast_nonneg _, Int.ofNat_le.mpr hlen⟩
  have hk : k ≤ 601024 := by omega
  have hj : j ≤ 7293034 := by omega
  refine zz_aload_n (x := 1000) rfl zd_L_law_975 ?_
  refine zz_aload_n (x := 998) rfl zd_L_law_976 ?_
  refine zz_iload (x := x4) rfl zd_L_law_977 ?_
  refine zz_iconst zd_L_law_979 ?_
  refine zz_iadd zd_L_law_980 ?_
  refine zz_sld (by omega) zd_L_law_981 (by omega) ?_
  have g490 := zz_sc_r g (x4 + 1).toNat
  refine zz_aload_n (x := 998) rfl zd_L_law_982 ?_
  refine zz_iload (x := x4) rfl zd_L_law_983 ?_
  refine zz_iconst zd_L_law_985 ?_
  refine zz_iadd zd_L_law_986 ?_
  refine zz_sld (by omega) zd_L_law_987 (by omega) ?_
  have g491 := zz_sc_r g (x4 + 2).toNat
  refine zz_aload_n (x := 1121) rfl zd_L_law_988 ?_
  refine zz_callHW (rz := zr_form_L) [.ref 1000, zi (zz_sc g (x4 + 1).toNat), zi (zz_sc g (x4 + 2).toNat), .ref 1121] zd_L_law_989 zhl_form_L rfl rfl ⟨Nat.le_of_ble_eq_true rfl, Nat.le_of_ble_eq_true rfl⟩ (by show k + 1 ≤ 601024; omega) (by show j + 6 ≤ 7293034; omega) (zc_form_L (zz_sc g (x4 + 1).toNat) (zz_sc g (x4 + 2).toNat) S (n) hn hfl G_S (by omega) (by omega)) (fun v493 S492 d494 hd494 hP => ?_)
  obtain ⟨G_S492, fS492, rv493⟩ := hP
  have hn495 : zz_end ≤ n + d494 := by omega
  have hk496 : (k + zr_form_L.cells) ≤ 601024 := by show k + 1 ≤ 601024; omega
  have hj497 : (j + zr_form_L.slots) ≤ 7293034 := by show j + 6 ≤ 7293034; omega
  have H_S492 : zz_Hc S492 := zz_Hc.fr (q := 0) fS492 rfl rfl G_S (by decide) rfl (fun b q h => h.elim) H_S
  have R_S492 : zz_Hr S492 := zz_Hr.fr fS492 rfl rfl (fun b q h => h.elim) R_S
  have O_S492 : 1 ≤ S492 1079 36 := by rw [show S492 1079 36 = S 1079 36 from zz_rc fS492 rfl rfl (fun h => h) rfl]; exact O_S
  refine zz_istore [some (.ref 998), some (.ref 1000), some (.ref 1079), some (.ref 1121), some (zi x4), some (zi v493)] zd_L_law_992 (by decide) rfl ?_
  refine zz_aload_n (x := 1079) rfl zd_L_law_994 ?_
  refine zz_aload_n (x := 998) rfl zd_L_law_995 ?_
  refine zz_iload (x := x4) rfl zd_L_law_996 ?_
  refine zz_iconst zd_L_law_998 ?_
  refine zz_iadd zd_L_law_999 ?_
  refine zz_sld (by omega) zd_L_law_1000 (by omega) ?_
  refine zz_aload_n (x := 998) rfl zd_L_law_1001 ?_
  refine zz_iload (x := x4) rfl zd_L_law_1002 ?_
  refine zz_iconst zd_L_law_1004 ?_
  refine zz_iadd zd_L_law_1005 ?_
  refine zz_sld (by omega) zd_L_law_1006 (by omega) ?_
  refine zz_callVI [zi (zz_sc g (x4 + 1).toNat), zi (zz_sc g (x4 + 2).toNat)] zd_L_law_1007 zk_TFLaw_181 zT_1079 (zz_ltn hn495 rfl) rfl rfl ⟨Nat.le_of_ble_eq_true rfl, Nat.le_of_ble_eq_true rfl⟩ ⟨rfl, rfl⟩ hk496 hj497 (zc_form_14_71 (zz_sc g (x4 + 1).toNat) (zz_sc g (x4 + 2).toNat) S492 (n + d494) hn495 G_S492 (by omega) (by omega)) (fun v499 S498 hP => ?_)
  obtain ⟨G_S498, fS498, o500⟩ := hP
  have H_S498 : zz_Hc S498 := zz_Hc.fr (q := 0) fS498 rfl rfl G_S492 (by decide) rfl (fun b q h => h.elim) H_S492
  have R_S498 : zz_Hr S498 := zz_Hr.fr fS498 rfl rfl (fun b q h => h.elim) R_S492
  have O_S498 : 1 ≤ S498 1079 36 := by rw [show S498 1079 36 = S492 1079 36 from zz_rc fS498 rfl rfl (fun h => h) rfl]; exact O_S492
  refine zz_istore [some (.ref 998), some (.ref 1000), some (.ref 1079), some (.ref 1121), some (zi x4), some (zi v493), some (zi v499)] zd_L_law_1010 (by decide) rfl ?_
  refine zz_goto zd_L_law_1012 ?_
  refine zz_iinc [some (.ref 998), some (.ref 1000), some (.ref 1079), some (.ref 1121), some (zi (x4 + 7)), some (zi v493), some (zi v499)] zd_L_law_1191 rfl rfl ?_
  refine zz_goto zd_L_law_1194 ?_
  refine zz_less (ls1 := [some (.ref 998), some (.ref 1000), some (.ref 1079), some (.ref 1121), some (zi (x4 + 7))]) ⟨rfl, ⟨rfl, ⟨rfl, ⟨rfl, ⟨rfl, trivial⟩⟩⟩⟩⟩ ?_
  have g501 := zz_G.r G_S 1070 1 0 1500 rfl rfl
  have e502 : S498 1070 1 = S 1070 1 := (zz_rc fS498 rfl rfl (fun h => h) (zz_rc fS492 rfl rfl (fun h => h) rfl))
  have g503 := zz_G.r G_S 1079 28 0 1500 rfl rfl
  have e504 : S498 1079 28 = S 1079 28 := (zz_rc fS498 rfl rfl (fun h => h) (zz_rc fS492 rfl rfl (fun h => h) rfl))
  have g505 := zz_G.r G_S 1031 6 2 8 rfl rfl
  have e506 : S498 1031 6 = S 1031 6 := (zz_rc fS498 rfl rfl (fun h => h) (zz_rc fS492 rfl rfl (fun h => h) rfl))
  have g507 := zz_G.r G_S 1079 1 2 8 rfl rfl
  have e508 : S498 1079 1 = S 1079 1 := (zz_rc fS498 rfl rfl (fun h => h) (zz_rc fS492 rfl rfl (fun h => h) rfl))
  exact ih (x4 + 7) S498 (n + d494) (k + zr_form_L.cells) (j + zr_form_L.slots) G_S498 H_S498 R_S498 O_S498 (by omega) (by omega) hn495 (by omega) (by show ((k + 1 : Nat) : Int) ≤ 200 + (x4 + 7); omega) (by show ((j + 6 : Nat) : Int) ≤ 30000 + 6 * (x4 + 7); omega) (by omega)
theorem zl_21 {g : mm_G} {l : Launch} (hfl : l.flags = flags0) (hlen : g.2.2.2 997 ≤ 3584) (N : Nat) (ih : ∀ (x4 : Int) (S : zz_S) (n k j : Nat), zz_G S → zz_Hc S → zz_Hr S → 1 ≤ S 1079 36 → S 1070 1 = S 1079 28 → S 1031 6 = S 1079 1 → zz_end ≤ n → (0 ≤ x4 ∧ x4 ≤ 3590) → (k : Int) ≤ 200 + x4 → (j : Int) ≤ 30000 + 6 * x4 → (3600 - x4).toNat < N → zz_E g l zy_law_L room_1 (fun u => ∃ M1 n1, u = (.inl (some (zi 1)), M1, n1)) S n 23 [some (.ref 998), some (.ref 1000), some (.ref 1079), some (.ref 1121), some (zi x4)] [] k j) (x4 : Int) (S : zz_S) (n k j : Nat) (G_S : zz_G S) (H_S : zz_Hc S) (R_S : zz_Hr S) (O_S : 1 ≤ S 1079 36) (T0_S : S 1070 1 = S 1079 28) (T1_S : S 1031 6 = S 1079 1) (hn : zz_end ≤ n) (hx : 0 ≤ x4 ∧ x4 ≤ 3590) (hkk : (k : Int) ≤ 200 + x4) (hjj : (j : Int) ≤ 30000 + 6 * x4) (hR : (3600 - x4).toNat < N + 1) (hc1 : x4 ≤ zz_ln g - 7) : zz_E g l zy_law_L room_1 (fun u => ∃ M1 n1, u = (.inl (some (zi 1)), M1, n1)) S n 1015 [some (.ref 998), some (.ref 1000), some (.ref 1079), some (.ref 1121), some (zi x4)] [] k j := by
  have hln : 0 ≤ zz_ln g ∧ zz_ln g ≤ 3584 := ⟨Int.natCast_nonneg _, Int.ofNat_le.mpr hlen⟩
  have hk : k ≤ 601024 := by omega
  have hj : j ≤ 7293034 := by omega
  refine zz_aload_n (x := 1000) rfl zd_L_law_1015 ?_
  refine zz_aload_n (x := 1121) rfl zd_L_law_1016 ?_
  refine zz_callHW (rz := zr_compile_L) [.ref 1000, .ref 1121] zd_L_law_1017 zhl_compile_L rfl rfl ⟨Nat.le_of_ble_eq_true rfl, Nat.le_of_ble_eq_true rfl⟩ (by show k + 1 ≤ 601024; omega) (by show j + 6 ≤ 7293034; omega) (zc_compile_L  S (n) hn hfl G_S H_S) (fun v511 S510 d512 hd512 hP => ?_)
  obtain ⟨G_S510, fS510, rv511, o513⟩ := hP
  have hn514 : zz_end ≤ n + d512 := by omega
  have hk515 : (k + zr_compile_L.cells) ≤ 601024 := by show k + 1 ≤ 601024; omega
  have hj516 : (j + zr_compile_L.slots) ≤ 7293034 := by show j + 6 ≤ 7293034; omega
  have H_S510 : zz_Hc S510 := o513
  have R_S510 : zz_Hr S510 := zz_Hr.fr fS510 rfl rfl (fun b q h => h.elim) R_S
  have O_S510 : 1 ≤ S510 1079 36 := by rw [show S510 1079 36 = S 1079 36 from zz_rc fS510 rfl rfl (fun h => h) rfl]; exact O_S
  refine zz_istore [some (.ref 998), some (.ref 1000), some (.ref 1079), some (.ref 1121), some (zi x4), some (zi v511)] zd_L_law_1020 (by decide) rfl ?_
  refine zz_aload_n (x := 1079) rfl zd_L_law_1022 ?_
  refine zz_callVI [] zd_L_law_1023 zk_TFLaw_185 zT_1079 (zz_ltn hn514 rfl) rfl rfl ⟨Nat.le_of_ble_eq_true rfl, Nat.le_of_ble_eq_true rfl⟩ ⟨rfl, rfl⟩ hk515 hj516 (zc_compile_14_89  S510 (n + d512) hn514 G_S510 ) (fun v518 S517 hP => ?_)
  obtain ⟨G_S517, fS517, o519⟩ := hP
  have H_S517 : zz_Hc S517 := zz_Hc.fr (q := 0) fS517 rfl rfl G_S510 (by decide) rfl (fun b q h => h.elim) H_S510
  have R_S517 : zz_Hr S517 := zz_Hr.fr fS517 rfl rfl (fun b q h => h.elim) R_S510
  have O_S517 : 1 ≤ S517 1079 36 := by rw [show S517 1079 36 = S510 1079 36 from zz_rc fS517 rfl rfl (fun h => h) rfl]; exact O_S510
  refine zz_istore [some (.ref 998), some (.ref 1000), some (.ref 1079), some (.ref 1121), some (zi x4), some (zi v511), some (zi v518)] zd_L_law_1026 (by decide) rfl ?_
  refine zz_goto zd_L_law_1028 ?_
  refine zz_iinc [some (.ref 998), some (.ref 1000), some (.ref 1079), some (.ref 1121), some (zi (x4 + 7)), some (zi v511), some (zi v518)] zd_L_law_1191 rfl rfl ?_
  refine zz_goto zd_L_law_1194 ?_
  refine zz_less (ls1 := [some (.ref 998), some (.ref 1000), some (.ref 1079), some (.ref 1121), some (zi (x4 + 7))]) ⟨rfl, ⟨rfl, ⟨rfl, ⟨rfl, ⟨rfl, trivial⟩⟩⟩⟩⟩ ?_
  have g520 := zz_G.r G_S 1070 1 0 1500 rfl rfl
  have e521 : S517 1070 1 = S 1070 1 := (zz_rc fS517 rfl rfl (fun h => h) (zz_rc fS510 rfl rfl (fun h => h) rfl))
  have g522 := zz_G.r G_S 1079 28 0 1500 rfl rfl
  have e523 : S517 1079 28 = S 1079 28 := (zz_rc fS517 rfl rfl (fun h => h) (zz_rc fS510 rfl rfl (fun h => h) rfl))
  have g524 := zz_G.r G_S 1031 6 2 8 rfl rfl
  have e525 : S517 1031 6 = S 1031 6 := (zz_rc fS517 rfl rfl (fun h => h) (zz_rc fS510 rfl rfl (fun h => h) rfl))
  have g526 := zz_G.r G_S 1079 1 2 8 rfl rfl
  have e527 : S517 1079 1 = S 1079 1 := (zz_rc fS517 rfl rfl (fun h => h) (zz_rc fS510 rfl rfl (fun h => h) rfl))
  exact ih (x4 + 7) S517 (n + d512) (k + zr_compile_L.cells) (j + zr_compile_L.slots) G_S517 H_S517 R_S517 O_S517 (by omega) (by omega) hn514 (by omega) (by show ((k + 1 : Nat) : Int) ≤ 200 + (x4 + 7); omega) (by show ((j + 6 : Nat) : Int) ≤ 30000 + 6 * (x4 + 7); omega) (by omega)
theorem zl_22 {g : mm_G} {l : Launch} (hfl : l.flags = flags0) (hlen : g.2.2.2 997 ≤ 3584) (N : Nat) (ih : ∀ (x4 : Int) (S : zz_S) (n k j : Nat), zz_G S → zz_Hc S → zz_Hr S → 1 ≤ S 1079 36 → S 1070 1 = S 1079 28 → S 1031 6 = S 1079 1 → zz_end ≤ n → (0 ≤ x4 ∧ x4 ≤ 3590) → (k : Int) ≤ 200 + x4 → (j : Int) ≤ 30000 + 6 * x4 → (3600 - x4).toNat < N → zz_E g l zy_law_L room_1 (fun u => ∃ M1 n1, u = (.inl (some (zi 1)), M1, n1)) S n 23 [some (.ref 998), some (.ref 1000), some (.ref 1079), some (.ref 1121), some (zi x4)] [] k j) (x4 : Int) (S : zz_S) (n k j : Nat) (G_S : zz_G S) (H_S : zz_Hc S) (R_S : zz_Hr S) (O_S : 1 ≤ S 1079 36) (T0_S : S 1070 1 = S 1079 28) (T1_S : S 1031 6 = S 1079 1) (hn : zz_end ≤ n) (hx : 0 ≤ x4 ∧ x4 ≤ 3590) (hkk : (k : Int) ≤ 200 + x4) (hjj : (j : Int) ≤ 30000 + 6 * x4) (hR : (3600 - x4).toNat < N + 1) (hc1 : x4 ≤ zz_ln g - 7) : zz_E g l zy_law_L room_1 (fun u => ∃ M1 n1, u = (.inl (some (zi 1)), M1, n1)) S n 1031 [some (.ref 998), some (.ref 1000), some (.ref 1079), some (.ref 1121), some (zi x4)] [] k j := by
  have hln : 0 ≤ zz_ln g ∧ zz_ln g ≤ 3584 := ⟨Int.natCast_nonneg _, Int.ofNat_le.mpr hlen⟩
  have hk : k ≤ 601024 := by omega
  have hj : j ≤ 7293034 := by omega
  refine zz_aload_n (x := 1000) rfl zd_L_law_1031 ?_
  refine zz_callVV [] zd_L_law_1032 zk_TFLaw_186 zT_1000 (zz_ltn hn rfl) rfl rfl ⟨Nat.le_of_ble_eq_true rfl, Nat.le_of_ble_eq_true rfl⟩ ⟨rfl, rfl⟩ hk hj (zc_reckon_1_24  S (n) hn G_S ) (fun S529 hP => ?_)
  obtain ⟨G_S529, fS529⟩ := hP
  have H_S529 : zz_Hc S529 := zz_Hc.fr (q := 0) fS529 rfl rfl G_S (by decide) rfl (fun b q h => h.elim) H_S
  have R_S529 : zz_Hr S529 := zz_Hr.fr fS529 rfl rfl (fun b q h => h.elim) R_S
  have O_S529 : 1 ≤ S529 1079 36 := by rw [show S529 1079 36 = S 1079 36 from zz_rc fS529 rfl rfl (fun h => h) rfl]; exact O_S
  refine zz_aload_n (x := 1079) rfl zd_L_law_1035 ?_
  refine zz_callVV [] zd_L_law_1036 zk_TFLaw_189 zT_1079 (zz_ltn hn rfl) rfl rfl ⟨Nat.le_of_ble_eq_true rfl, Nat.le_of_ble_eq_true rfl⟩ ⟨rfl, rfl⟩ hk hj (zc_reckon_14_76  S529 (n) hn G_S529 R_S529) (fun S531 hP => ?_)
  obtain ⟨G_S531, fS531, o533⟩ := hP
  have H_S531 : zz_Hc S531 := zz_Hc.fr (q := 0) fS531 rfl rfl G_S529 (by decide) rfl (fun b q h => h.elim) H_S529
  have R_S531 : zz_Hr S531 := o533
  have O_S531 : 1 ≤ S531 1079 36 := by rw [show S531 1079 36 = S529 1079 36 from zz_rc fS531 rfl rfl (fun h => h) rfl]; exact O_S529
  refine zz_goto zd_L_law_1039 ?_
  refine zz_iinc [some (.ref 998), some (.ref 1000), some (.ref 1079), some (.ref 1121), some (zi (x4 + 7))] zd_L_law_1191 rfl rfl ?_
  refine zz_goto zd_L_law_1194 ?_
  refine zz_less (ls1 := [some (.ref 998), some (.ref 1000), some (.ref 1079), some (.ref 1121), some (zi (x4 + 7))]) ⟨rfl, ⟨rfl, ⟨rfl, ⟨rfl, ⟨rfl, trivial⟩⟩⟩⟩⟩ ?_
  have g534 := zz_G.r G_S 1070 1 0 1500 rfl rfl
  have e535 : S531 1070 1 = S 1070 1 := (zz_rc fS531 rfl rfl (fun h => h) (zz_rc fS529 rfl rfl (fun h => h) rfl))
  have g536 := zz_G.r G_S 1079 28 0 1500 rfl rfl
  have e537 : S531 1079 28 = S 1079 28 := (zz_rc fS531 rfl rfl (fun h => h) (zz_rc fS529 rfl rfl (fun h => h) rfl))
  have g538 := zz_G.r G_S 1031 6 2 8 rfl rfl
  have e539 : S531 1031 6 = S 1031 6 := (zz_rc fS531 rfl rfl (fun h => h) (zz_rc fS529 rfl rfl (fun h => h) rfl))
  have g540 := zz_G.r G_S 1079 1 2 8 rfl rfl
  have e541 : S531 1079 1 = S 1079 1 := (zz_rc fS531 rfl rfl (fun h => h) (zz_rc fS529 rfl rfl (fun h => h) rfl))
  exact ih (x4 + 7) S531 (n) k j G_S531 H_S531 R_S531 O_S531 (by omega) (by omega) hn (by omega) (by show ((k : Nat) : Int) ≤ 200 + (x4 + 7); omega) (by show ((j : Nat) : Int) ≤ 30000 + 6 * (x4 + 7); omega) (by omega)
theorem zl_23 {g : mm_G} {l : Launch} (hfl : l.flags = flags0) (hlen : g.2.2.2 997 ≤ 3584) (N : Nat) (ih : ∀ (x4 : Int) (S : zz_S) (n k j : Nat), zz_G S → zz_Hc S → zz_Hr S → 1 ≤ S 1079 36 → S 1070 1 = S 1079 28 → S 1031 6 = S 1079 1 → zz_end ≤ n → (0 ≤ x4 ∧ x4 ≤ 3590) → (k : Int) ≤ 200 + x4 → (j : Int) ≤ 30000 + 6 * x4 → (3600 - x4).toNat < N → zz_E g l zy_law_L room_1 (fun u => ∃ M1 n1, u = (.inl (some (zi 1)), M1, n1)) S n 23 [some (.ref 998), some (.ref 1000), some (.ref 1079), some (.ref 1121), some (zi x4)] [] k j) (x4 : Int) (S : zz_S) (n k j : Nat) (G_S : zz_G S) (H_S : zz_Hc S) (R_S : zz_Hr S) (O_S : 1 ≤ S 1079 36) (T0_S : S 1070 1 = S 1079 28) (T1_S : S 1031 6 = S 1079 1) (hn : zz_end ≤ n) (hx : 0 ≤ x4 ∧ x4 ≤ 3590) (hkk : (k : Int) ≤ 200 + x4) (hjj : (j : Int) ≤ 30000 + 6 * x4) (hR : (3600 - x4).toNat < N + 1) (hc1 : x4 ≤ zz_ln g - 7) : zz_E g l zy_law_L room_1 (fun u => ∃ M1 n1, u = (.inl (some (zi 1)), M1, n1)) S n 1042 [some (.ref 998), some (.ref 1000), some (.ref 1079), some (.ref 1121), some (zi x4)] [] k j := by
  have hln : 0 ≤ zz_ln g ∧ zz_ln g ≤ 3584 := ⟨Int.natCast_nonneg _, Int.ofNat_le.mpr hlen⟩
  have hk : k ≤ 601024 := by omega
  have hj : j ≤ 7293034 := by omega
  refine zz_aload_n (x := 1000) rfl zd_L_law_1042 ?_
  refine zz_callVI [] zd_L_law_1043 zk_TFLaw_190 zT_1000 (zz_ltn hn rfl) rfl rfl ⟨Nat.le_of_ble_eq_true rfl, Nat.le_of_ble_eq_true rfl⟩ ⟨rfl, rfl⟩ hk hj (zc_network_1_25  S (n) hn G_S H_S) (fun v544 S543 hP => ?_)
  obtain ⟨G_S543, fS543, o545, o546⟩ := hP
  have H_S543 : zz_Hc S543 := o546
  have R_S543 : zz_Hr S543 := zz_Hr.fr fS543 rfl rfl (fun b q h => h.elim) R_S
  have O_S543 : 1 ≤ S543 1079 36 := by rw [show S543 1079 36 = S 1079 36 from zz_rc fS543 rfl rfl (fun h => h) rfl]; exact O_S
  refine zz_pop rfl zd_L_law_1046 ?_
  refine zz_aload_n (x := 1079) rfl zd_L_law_1047 ?_
  have g547 := zz_G.r G_S 1079 36 0 11 rfl rfl
  have e548 : S543 1079 36 = S 1079 36 := (zz_rc fS543 rfl rfl (fun h => h) rfl)
  refine zz_callVI [] zd_L_law_1048 zk_TFLaw_193 zT_1079 (zz_ltn hn rfl) rfl rfl ⟨Nat.le_of_ble_eq_true rfl, Nat.le_of_ble_eq_true rfl⟩ ⟨rfl, rfl⟩ hk hj (zc_network_14_105  S543 (n) hn G_S543 R_S543 (by omega)) (fun v550 S549 hP => ?_)
  obtain ⟨G_S549, fS549, o551, o552, o553⟩ := hP
  have H_S549 : zz_Hc S549 := zz_Hc.fr (q := 0) fS549 rfl rfl G_S543 (by decide) rfl (fun b q h => h.elim) H_S543
  have R_S549 : zz_Hr S549 := o553
  have O_S549 : 1 ≤ S549 1079 36 := by omega
  refine zz_pop rfl zd_L_law_1051 ?_
  refine zz_goto zd_L_law_1052 ?_
  refine zz_iinc [some (.ref 998), some (.ref 1000), some (.ref 1079), some (.ref 1121), some (zi (x4 + 7))] zd_L_law_1191 rfl rfl ?_
  refine zz_goto zd_L_law_1194 ?_
  refine zz_less (ls1 := [some (.ref 998), some (.ref 1000), some (.ref 1079), some (.ref 1121), some (zi (x4 + 7))]) ⟨rfl, ⟨rfl, ⟨rfl, ⟨rfl, ⟨rfl, trivial⟩⟩⟩⟩⟩ ?_
  have g554 := zz_G.r G_S 1070 1 0 1500 rfl rfl
  have e555 : S549 1070 1 = S 1070 1 := (zz_rc fS549 rfl rfl (fun h => h) (zz_rc fS543 rfl rfl (fun h => h) rfl))
  have g556 := zz_G.r G_S 1079 28 0 1500 rfl rfl
  have e557 : S549 1079 28 = S 1079 28 := (zz_rc fS549 rfl rfl (fun h => h) (zz_rc fS543 rfl rfl (fun h => h) rfl))
  have g558 := zz_G.r G_S 1031 6 2 8 rfl rfl
  have e559 : S549 1031 6 = S 1031 6 := (zz_rc fS549 rfl rfl (fun h => h) (zz_rc fS543 rfl rfl (fun h => h) rfl))
  have g560 := zz_G.r G_S 1079 1 2 8 rfl rfl
  have e561 : S549 1079 1 = S 1079 1 := (zz_rc fS549 rfl rfl (fun h => h) (zz_rc fS543 rfl rfl (fun h => h) rfl))
  exact ih (x4 + 7) S549 (n) k j G_S549 H_S549 R_S549 O_S549 (by omega) (by omega) hn (by omega) (by show ((k : Nat) : Int) ≤ 200 + (x4 + 7); omega) (by show ((j : Nat) : Int) ≤ 30000 + 6 * (x4 + 7); omega) (by omega)
theorem zl_24 {g : mm_G} {l : Launch} (hfl : l.flags = flags0) (hlen : g.2.2.2 997 ≤ 3584) (N : Nat) (ih : ∀ (x4 : Int) (S : zz_S) (n k j : Nat), zz_G S → zz_Hc S → zz_Hr S → 1 ≤ S 1079 36 → S 1070 1 = S 1079 28 → S 1031 6 = S 1079 1 → zz_end ≤ n → (0 ≤ x4 ∧ x4 ≤ 3590) → (k : Int) ≤ 200 + x4 → (j : Int) ≤ 30000 + 6 * x4 → (3600 - x4).toNat < N → zz_E g l zy_law_L room_1 (fun u => ∃ M1 n1, u = (.inl (some (zi 1)), M1, n1)) S n 23 [some (.ref 998), some (.ref 1000), some (.ref 1079), some (.ref 1121), some (zi x4)] [] k j) (x4 : Int) (S : zz_S) (n k j : Nat) (G_S : zz_G S) (H_S : zz_Hc S) (R_S : zz_Hr S) (O_S : 1 ≤ S 1079 36) (T0_S : S 1070 1 = S 1079 28) (T1_S : S 1031 6 = S 1079 1) (hn : zz_end ≤ n) (hx : 0 ≤ x4 ∧ x4 ≤ 3590) (hkk : (k : Int) ≤ 200 + x4) (hjj : (j : Int) ≤ 30000 + 6 * x4) (hR : (3600 - x4).toNat < N + 1) (hc1 : x4 ≤ zz_ln g - 7) : zz_E g l zy_law_L room_1 (fun u => ∃ M1 n1, u = (.inl (some (zi 1)), M1, n1)) S n 1055 [some (.ref 998), some (.ref 1000), some (.ref 1079), some (.ref 1121), some (zi x4)] [] k j := by
  have hln : 0 ≤ zz_ln g ∧ zz_ln g ≤ 3584 := ⟨Int.natCast_nonneg _, Int.ofNat_le.mpr hlen⟩
  have hk : k ≤ 601024 := by omega
  have hj : j ≤ 7293034 := by omega
  refine zz_aload_n (x := 1000) rfl zd_L_law_1055 ?_
  refine zz_aload_n (x := 998) rfl zd_L_law_1056 ?_
  refine zz_iload (x := x4) rfl zd_L_law_1057 ?_
  refine zz_iconst zd_L_law_1059 ?_
  refine zz_iadd zd_L_law_1060 ?_
  refine zz_sld (by omega) zd_L_law_1061 (by omega) ?_
  have g563 := zz_sc_r g (x4 + 1).toNat
  refine zz_aload_n (x := 998) rfl zd_L_law_1062 ?_
  refine zz_iload (x := x4) rfl zd_L_law_1063 ?_
  refine zz_iconst zd_L_law_1065 ?_
  refine zz_iadd zd_L_law_1066 ?_
  refine zz_sld (by omega) zd_L_law_1067 (by omega) ?_
  have g564 := zz_sc_r g (x4 + 2).toNat
  refine zz_aload_n (x := 1121) rfl zd_L_law_1068 ?_
  refine zz_callHW (rz := zr_networkSign_L) [.ref 1000, zi (zz_sc g (x4 + 1).toNat), zi (zz_sc g (x4 + 2).toNat), .ref 1121] zd_L_law_1069 zhl_networkSign_L rfl rfl ⟨Nat.le_of_ble_eq_true rfl, Nat.le_of_ble_eq_true rfl⟩ (by show k + 1 ≤ 601024; omega) (by show j + 6 ≤ 7293034; omega) (zc_networkSign_L (zz_sc g (x4 + 1).toNat) (zz_sc g (x4 + 2).toNat) S (n) hn hfl G_S (by omega) (by omega)) (fun v566 S565 d567 hd567 hP => ?_)
  obtain ⟨G_S565, fS565, rv566⟩ := hP
  have hn568 : zz_end ≤ n + d567 := by omega
  have hk569 : (k + zr_networkSign_L.cells) ≤ 601024 := by show k + 1 ≤ 601024; omega
  have hj570 : (j + zr_networkSign_L.slots) ≤ 7293034 := by show j + 6 ≤ 7293034; omega
  have H_S565 : zz_Hc S565 := zz_Hc.fr (q := 0) fS565 rfl rfl G_S (by decide) rfl (fun b q h => h.elim) H_S
  have R_S565 : zz_Hr S565 := zz_Hr.fr fS565 rfl rfl (fun b q h => h.elim) R_S
  have O_S565 : 1 ≤ S565 1079 36 := by rw [show S565 1079 36 = S 1079 36 from zz_rc fS565 rfl rfl (fun h => h) rfl]; exact O_S
  refine zz_istore [some (.ref 998), some (.ref 1000), some (.ref 1079), some (.ref 1121), some (zi x4), some (zi v566)] zd_L_law_1072 (by decide) rfl ?_
  refine zz_aload_n (x := 1079) rfl zd_L_law_1074 ?_
  refine zz_aload_n (x := 998) rfl zd_L_law_1075 ?_
  refine zz_iload (x := x4) rfl zd_L_law_1076 ?_
  refine zz_iconst zd_L_law_1078 ?_
  refine zz_iadd zd_L_law_1079 ?_
  refine zz_sld (by omega) zd_L_law_1080 (by omega) ?_
  refine zz_aload_n (x := 998) rfl zd_L_law_1081 ?_
  refine zz_iload (x := x4) rfl zd_L_law_1082 ?_
  refine zz_iconst zd_L_law_1084 ?_
  refine zz_iadd zd_L_law_1085 ?_
  refine zz_sld (by omega) zd_L_law_1086 (by omega) ?_
  refine zz_callVI [zi (zz_sc g (x4 + 1).toNat), zi (zz_sc g (x4 + 2).toNat)] zd_L_law_1087 zk_TFLaw_196 zT_1079 (zz_ltn hn568 rfl) rfl rfl ⟨Nat.le_of_ble_eq_true rfl, Nat.le_of_ble_eq_true rfl⟩ ⟨rfl, rfl⟩ hk569 hj570 (zc_networkSign_14_109 (zz_sc g (x4 + 1).toNat) (zz_sc g (x4 + 2).toNat) S565 (n + d567) hn568 G_S565 (by omega) (by omega)) (fun v572 S571 hP => ?_)
  obtain ⟨G_S571, fS571, o573⟩ := hP
  have H_S571 : zz_Hc S571 := zz_Hc.fr (q := 0) fS571 rfl rfl G_S565 (by decide) rfl (fun b q h => h.elim) H_S565
  have R_S571 : zz_Hr S571 := zz_Hr.fr fS571 rfl rfl (fun b q h => h.elim) R_S565
  have O_S571 : 1 ≤ S571 1079 36 := by rw [show S571 1079 36 = S565 1079 36 from zz_rc fS571 rfl rfl (fun h => h) rfl]; exact O_S565
  refine zz_istore [some (.ref 998), some (.ref 1000), some (.ref 1079), some (.ref 1121), some (zi x4), some (zi v566), some (zi v572)] zd_L_law_1090 (by decide) rfl ?_
  refine zz_goto zd_L_law_1092 ?_
  refine zz_iinc [some (.ref 998), some (.ref 1000), some (.ref 1079), some (.ref 1121), some (zi (x4 + 7)), some (zi v566), some (zi v572)] zd_L_law_1191 rfl rfl ?_
  refine zz_goto zd_L_law_1194 ?_
  refine zz_less (ls1 := [some (.ref 998), some (.ref 1000), some (.ref 1079), some (.ref 1121), some (zi (x4 + 7))]) ⟨rfl, ⟨rfl, ⟨rfl, ⟨rfl, ⟨rfl, trivial⟩⟩⟩⟩⟩ ?_
  have g574 := zz_G.r G_S 1070 1 0 1500 rfl rfl
  have e575 : S571 1070 1 = S 1070 1 := (zz_rc fS571 rfl rfl (fun h => h) (zz_rc fS565 rfl rfl (fun h => h) rfl))
  have g576 := zz_G.r G_S 1079 28 0 1500 rfl rfl
  have e577 : S571 1079 28 = S 1079 28 := (zz_rc fS571 rfl rfl (fun h => h) (zz_rc fS565 rfl rfl (fun h => h) rfl))
  have g578 := zz_G.r G_S 1031 6 2 8 rfl rfl
  have e579 : S571 1031 6 = S 1031 6 := (zz_rc fS571 rfl rfl (fun h => h) (zz_rc fS565 rfl rfl (fun h => h) rfl))
  have g580 := zz_G.r G_S 1079 1 2 8 rfl rfl
  have e581 : S571 1079 1 = S 1079 1 := (zz_rc fS571 rfl rfl (fun h => h) (zz_rc fS565 rfl rfl (fun h => h) rfl))
  exact ih (x4 + 7) S571 (n + d567) (k + zr_networkSign_L.cells) (j + zr_networkSign_L.slots) G_S571 H_S571 R_S571 O_S571 (by omega) (by omega) hn568 (by omega) (by show ((k + 1 : Nat) : Int) ≤ 200 + (x4 + 7); omega) (by show ((j + 6 : Nat) : Int) ≤ 30000 + 6 * (x4 + 7); omega) (by omega)
theorem zl_25 {g : mm_G} {l : Launch} (hfl : l.flags = flags0) (hlen : g.2.2.2 997 ≤ 3584) (N : Nat) (ih : ∀ (x4 : Int) (S : zz_S) (n k j : Nat), zz_G S → zz_Hc S → zz_Hr S → 1 ≤ S 1079 36 → S 1070 1 = S 1079 28 → S 1031 6 = S 1079 1 → zz_end ≤ n → (0 ≤ x4 ∧ x4 ≤ 3590) → (k : Int) ≤ 200 + x4 → (j : Int) ≤ 30000 + 6 * x4 → (3600 - x4).toNat < N → zz_E g l zy_law_L room_1 (fun u => ∃ M1 n1, u = (.inl (some (zi 1)), M1, n1)) S n 23 [some (.ref 998), some (.ref 1000), some (.ref 1079), some (.ref 1121), some (zi x4)] [] k j) (x4 : Int) (S : zz_S) (n k j : Nat) (G_S : zz_G S) (H_S : zz_Hc S) (R_S : zz_Hr S) (O_S : 1 ≤ S 1079 36) (T0_S : S 1070 1 = S 1079 28) (T1_S : S 1031 6 = S 1079 1) (hn : zz_end ≤ n) (hx : 0 ≤ x4 ∧ x4 ≤ 3590) (hkk : (k : Int) ≤ 200 + x4) (hjj : (j : Int) ≤ 30000 + 6 * x4) (hR : (3600 - x4).toNat < N + 1) (hc1 : x4 ≤ zz_ln g - 7) : zz_E g l zy_law_L room_1 (fun u => ∃ M1 n1, u = (.inl (some (zi 1)), M1, n1)) S n 1095 [some (.ref 998), some (.ref 1000), some (.ref 1079), some (.ref 1121), some (zi x4)] [] k j := by
  have hln : 0 ≤ zz_ln g ∧ zz_ln g ≤ 3584 := ⟨Int.natCast_nonneg _, Int.ofNat_le.mpr hlen⟩
  have hk : k ≤ 601024 := by omega
  have hj : j ≤ 7293034 := by omega
  refine zz_aload_n (x := 1000) rfl zd_L_law_1095 ?_
  refine zz_aload_n (x := 1121) rfl zd_L_law_1096 ?_
  refine zz_callHW (rz := zr_place_L) [.ref 1000, .ref 1121] zd_L_law_1097 zhl_place_L rfl rfl ⟨Nat.le_of_ble_eq_true rfl, Nat.le_of_ble_eq_true rfl⟩ (by show k + 1 ≤ 601024; omega) (by show j + 6 ≤ 7293034; omega) (zc_place_L  S (n) hn hfl G_S ) (fun v584 S583 d585 hd585 hP => ?_)
  obtain ⟨G_S583, fS583, rv584⟩ := hP
  have g586 := zz_G.r G_S 1000 7 0 1 rfl rfl
  have hn587 : zz_end ≤ n + d585 := by omega
  have hk588 : (k + zr_place_L.cells) ≤ 601024 := by show k + 1 ≤ 601024; omega
  have hj589 : (j + zr_place_L.slots) ≤ 7293034 := by show j + 6 ≤ 7293034; omega
  have b590 := zz_rf6 (z := (12 * (S 1000 7) + 0)) (by omega)
  have H_S583 : zz_Hc S583 := zz_Hc.sp fS583 rfl rfl G_S (fun b q h => by have h0_ := zz_rf6 (z := (12 * (S 1000 7) + 0)) (by omega); omega) H_S
  have R_S583 : zz_Hr S583 := zz_Hr.fr fS583 rfl rfl (fun b q h => by have h0_ := zz_rf6 (z := (12 * (S 1000 7) + 0)) (by omega); omega) R_S
  have O_S583 : 1 ≤ S583 1079 36 := by rw [show S583 1079 36 = S 1079 36 from zz_rc fS583 rfl rfl (by have h0_ := zz_rf6 (z := (12 * (S 1000 7) + 0)) (by omega); omega) rfl]; exact O_S
  refine zz_istore [some (.ref 998), some (.ref 1000), some (.ref 1079), some (.ref 1121), some (zi x4), some (zi v584)] zd_L_law_1100 (by decide) rfl ?_
  refine zz_aload_n (x := 1079) rfl zd_L_law_1102 ?_
  have g591 := zz_G.r G_S 1079 36 0 11 rfl rfl
  have e592 : S583 1079 36 = S 1079 36 := (zz_rc fS583 rfl rfl (by omega) rfl)
  refine zz_callVI [] zd_L_law_1103 zk_TFLaw_199 zT_1079 (zz_ltn hn587 rfl) rfl rfl ⟨Nat.le_of_ble_eq_true rfl, Nat.le_of_ble_eq_true rfl⟩ ⟨rfl, rfl⟩ hk588 hj589 (zc_place_14_113  S583 (n + d585) hn587 G_S583 R_S583 (by omega)) (fun v594 S593 hP => ?_)
  obtain ⟨G_S593, fS593, o595, o596⟩ := hP
  have H_S593 : zz_Hc S593 := zz_Hc.fr (q := 0) fS593 rfl rfl G_S583 (by decide) rfl (fun b q h => h.elim) H_S583
  have R_S593 : zz_Hr S593 := o596
  have O_S593 : 1 ≤ S593 1079 36 := by rw [show S593 1079 36 = S583 1079 36 from zz_rc fS593 rfl rfl (fun h => h) rfl]; exact O_S583
  refine zz_istore [some (.ref 998), some (.ref 1000), some (.ref 1079), some (.ref 1121), some (zi x4), some (zi v584), some (zi v594)] zd_L_law_1106 (by decide) rfl ?_
  refine zz_goto zd_L_law_1108 ?_
  refine zz_iinc [some (.ref 998), some (.ref 1000), some (.ref 1079), some (.ref 1121), some (zi (x4 + 7)), some (zi v584), some (zi v594)] zd_L_law_1191 rfl rfl ?_
  refine zz_goto zd_L_law_1194 ?_
  refine zz_less (ls1 := [some (.ref 998), some (.ref 1000), some (.ref 1079), some (.ref 1121), some (zi (x4 + 7))]) ⟨rfl, ⟨rfl, ⟨rfl, ⟨rfl, ⟨rfl, trivial⟩⟩⟩⟩⟩ ?_
  have g597 := zz_G.r G_S 1070 1 0 1500 rfl rfl
  have e598 : S593 1070 1 = S 1070 1 := (zz_rc fS593 rfl rfl (fun h => h) (zz_rc fS583 rfl rfl (by omega) rfl))
  have g599 := zz_G.r G_S 1079 28 0 1500 rfl rfl
  have e600 : S593 1079 28 = S 1079 28 := (zz_rc fS593 rfl rfl (fun h => h) (zz_rc fS583 rfl rfl (by omega) rfl))
  have g601 := zz_G.r G_S 1031 6 2 8 rfl rfl
  have e602 : S593 1031 6 = S 1031 6 := (zz_rc fS593 rfl rfl (fun h => h) (zz_rc fS583 rfl rfl (by omega) rfl))
  have g603 := zz_G.r G_S 1079 1 2 8 rfl rfl
  have e604 : S593 1079 1 = S 1079 1 := (zz_rc fS593 rfl rfl (fun h => h) (zz_rc fS583 rfl rfl (by omega) rfl))
  exact ih (x4 + 7) S593 (n + d585) (k + zr_place_L.cells) (j + zr_place_L.slots) G_S593 H_S593 R_S593 O_S593 (by omega) (by omega) hn587 (by omega) (by show ((k + 1 : Nat) : Int) ≤ 200 + (x4 + 7); omega) (by show ((j + 6 : Nat) : Int) ≤ 30000 + 6 * (x4 + 7); omega) (by omega)
theorem zl_26 {g : mm_G} {l : Launch} (hfl : l.flags = flags0) (hlen : g.2.2.2 997 ≤ 3584) (N : Nat) (ih : ∀ (x4 : Int) (S : zz_S) (n k j : Nat), zz_G S → zz_Hc S → zz_Hr S → 1 ≤ S 1079 36 → S 1070 1 = S 1079 28 → S 1031 6 = S 1079 1 → zz_end ≤ n → (0 ≤ x4 ∧ x4 ≤ 3590) → (k : Int) ≤ 200 + x4 → (j : Int) ≤ 30000 + 6 * x4 → (3600 - x4).toNat < N → zz_E g l zy_law_L room_1 (fun u => ∃ M1 n1, u = (.inl (some (zi 1)), M1, n1)) S n 23 [some (.ref 998), some (.ref 1000), some (.ref 1079), some (.ref 1121), some (zi x4)] [] k j) (x4 : Int) (S : zz_S) (n k j : Nat) (G_S : zz_G S) (H_S : zz_Hc S) (R_S : zz_Hr S) (O_S : 1 ≤ S 1079 36) (T0_S : S 1070 1 = S 1079 28) (T1_S : S 1031 6 = S 1079 1) (hn : zz_end ≤ n) (hx : 0 ≤ x4 ∧ x4 ≤ 3590) (hkk : (k : Int) ≤ 200 + x4) (hjj : (j : Int) ≤ 30000 + 6 * x4) (hR : (3600 - x4).toNat < N + 1) (hc1 : x4 ≤ zz_ln g - 7) : zz_E g l zy_law_L room_1 (fun u => ∃ M1 n1, u = (.inl (some (zi 1)), M1, n1)) S n 1111 [some (.ref 998), some (.ref 1000), some (.ref 1079), some (.ref 1121), some (zi x4)] [] k j := by
  have hln : 0 ≤ zz_ln g ∧ zz_ln g ≤ 3584 := ⟨Int.natCast_nonneg _, Int.ofNat_le.mpr hlen⟩
  have hk : k ≤ 601024 := by omega
  have hj : j ≤ 7293034 := by omega
  refine zz_aload_n (x := 1000) rfl zd_L_law_1111 ?_
  refine zz_aload_n (x := 998) rfl zd_L_law_1112 ?_
  refine zz_iload (x := x4) rfl zd_L_law_1113 ?_
  refine zz_iconst zd_L_law_1115 ?_
  refine zz_iadd zd_L_law_1116 ?_
  refine zz_sld (by omega) zd_L_law_1117 (by omega) ?_
  have g606 := zz_sc_r g (x4 + 1).toNat
  refine zz_aload_n (x := 998) rfl zd_L_law_1118 ?_
  refine zz_iload (x := x4) rfl zd_L_law_1119 ?_
  refine zz_iconst zd_L_law_1121 ?_
  refine zz_iadd zd_L_law_1122 ?_
  refine zz_sld (by omega) zd_L_law_1123 (by omega) ?_
  have g607 := zz_sc_r g (x4 + 2).toNat
  refine zz_aload_n (x := 1121) rfl zd_L_law_1124 ?_
  refine zz_callHW (rz := zr_under_L) [.ref 1000, zi (zz_sc g (x4 + 1).toNat), zi (zz_sc g (x4 + 2).toNat), .ref 1121] zd_L_law_1125 zhl_under_L rfl rfl ⟨Nat.le_of_ble_eq_true rfl, Nat.le_of_ble_eq_true rfl⟩ (by show k + 2 ≤ 601024; omega) (by show j + 12 ≤ 7293034; omega) (zc_under_L (zz_sc g (x4 + 1).toNat) (zz_sc g (x4 + 2).toNat) S (n) hn hfl G_S (by omega) (by omega)) (fun v609 S608 d610 hd610 hP => ?_)
  obtain ⟨G_S608, fS608, rv609⟩ := hP
  have hn611 : zz_end ≤ n + d610 := by omega
  have hk612 : (k + zr_under_L.cells) ≤ 601024 := by show k + 2 ≤ 601024; omega
  have hj613 : (j + zr_under_L.slots) ≤ 7293034 := by show j + 12 ≤ 7293034; omega
  have H_S608 : zz_Hc S608 := zz_Hc.fr (q := 0) fS608 rfl rfl G_S (by decide) rfl (fun b q h => h.elim) H_S
  have R_S608 : zz_Hr S608 := zz_Hr.fr fS608 rfl rfl (fun b q h => h.elim) R_S
  have O_S608 : 1 ≤ S608 1079 36 := by rw [show S608 1079 36 = S 1079 36 from zz_rc fS608 rfl rfl (fun h => h) rfl]; exact O_S
  refine zz_istore [some (.ref 998), some (.ref 1000), some (.ref 1079), some (.ref 1121), some (zi x4), some (zi v609)] zd_L_law_1128 (by decide) rfl ?_
  refine zz_aload_n (x := 1079) rfl zd_L_law_1130 ?_
  refine zz_aload_n (x := 998) rfl zd_L_law_1131 ?_
  refine zz_iload (x := x4) rfl zd_L_law_1132 ?_
  refine zz_iconst zd_L_law_1134 ?_
  refine zz_iadd zd_L_law_1135 ?_
  refine zz_sld (by omega) zd_L_law_1136 (by omega) ?_
  refine zz_aload_n (x := 998) rfl zd_L_law_1137 ?_
  refine zz_iload (x := x4) rfl zd_L_law_1138 ?_
  refine zz_iconst zd_L_law_1140 ?_
  refine zz_iadd zd_L_law_1141 ?_
  refine zz_sld (by omega) zd_L_law_1142 (by omega) ?_
  refine zz_callVI [zi (zz_sc g (x4 + 1).toNat), zi (zz_sc g (x4 + 2).toNat)] zd_L_law_1143 zk_TFLaw_202 zT_1079 (zz_ltn hn611 rfl) rfl rfl ⟨Nat.le_of_ble_eq_true rfl, Nat.le_of_ble_eq_true rfl⟩ ⟨rfl, rfl⟩ hk612 hj613 (zc_under_14_117 (zz_sc g (x4 + 1).toNat) (zz_sc g (x4 + 2).toNat) S608 (n + d610) hn611 G_S608 (by omega) (by omega)) (fun v615 S614 hP => ?_)
  obtain ⟨G_S614, fS614, o616⟩ := hP
  have H_S614 : zz_Hc S614 := zz_Hc.fr (q := 0) fS614 rfl rfl G_S608 (by decide) rfl (fun b q h => h.elim) H_S608
  have R_S614 : zz_Hr S614 := zz_Hr.fr fS614 rfl rfl (fun b q h => h.elim) R_S608
  have O_S614 : 1 ≤ S614 1079 36 := by rw [show S614 1079 36 = S608 1079 36 from zz_rc fS614 rfl rfl (fun h => h) rfl]; exact O_S608
  refine zz_istore [some (.ref 998), some (.ref 1000), some (.ref 1079), some (.ref 1121), some (zi x4), some (zi v609), some (zi v615)] zd_L_law_1146 (by decide) rfl ?_
  refine zz_goto zd_L_law_1148 ?_
  refine zz_iinc [some (.ref 998), some (.ref 1000), some (.ref 1079), some (.ref 1121), some (zi (x4 + 7)), some (zi v609), some (zi v615)] zd_L_law_1191 rfl rfl ?_
  refine zz_goto zd_L_law_1194 ?_
  refine zz_less (ls1 := [some (.ref 998), some (.ref 1000), some (.ref 1079), some (.ref 1121), some (zi (x4 + 7))]) ⟨rfl, ⟨rfl, ⟨rfl, ⟨rfl, ⟨rfl, trivial⟩⟩⟩⟩⟩ ?_
  have g617 := zz_G.r G_S 1070 1 0 1500 rfl rfl
  have e618 : S614 1070 1 = S 1070 1 := (zz_rc fS614 rfl rfl (fun h => h) (zz_rc fS608 rfl rfl (fun h => h) rfl))
  have g619 := zz_G.r G_S 1079 28 0 1500 rfl rfl
  have e620 : S614 1079 28 = S 1079 28 := (zz_rc fS614 rfl rfl (fun h => h) (zz_rc fS608 rfl rfl (fun h => h) rfl))
  have g621 := zz_G.r G_S 1031 6 2 8 rfl rfl
  have e622 : S614 1031 6 = S 1031 6 := (zz_rc fS614 rfl rfl (fun h => h) (zz_rc fS608 rfl rfl (fun h => h) rfl))
  have g623 := zz_G.r G_S 1079 1 2 8 rfl rfl
  have e624 : S614 1079 1 = S 1079 1 := (zz_rc fS614 rfl rfl (fun h => h) (zz_rc fS608 rfl rfl (fun h => h) rfl))
  exact ih (x4 + 7) S614 (n + d610) (k + zr_under_L.cells) (j + zr_under_L.slots) G_S614 H_S614 R_S614 O_S614 (by omega) (by omega) hn611 (by omega) (by show ((k + 2 : Nat) : Int) ≤ 200 + (x4 + 7); omega) (by show ((j + 12 : Nat) : Int) ≤ 30000 + 6 * (x4 + 7); omega) (by omega)
theorem zl_27 {g : mm_G} {l : Launch} (hfl : l.flags = flags0) (hlen : g.2.2.2 997 ≤ 3584) (N : Nat) (ih : ∀ (x4 : Int) (S : zz_S) (n k j : Nat), zz_G S → zz_Hc S → zz_Hr S → 1 ≤ S 1079 36 → S 1070 1 = S 1079 28 → S 1031 6 = S 1079 1 → zz_end ≤ n → (0 ≤ x4 ∧ x4 ≤ 3590) → (k : Int) ≤ 200 + x4 → (j : Int) ≤ 30000 + 6 * x4 → (3600 - x4).toNat < N → zz_E g l zy_law_L room_1 (fun u => ∃ M1 n1, u = (.inl (some (zi 1)), M1, n1)) S n 23 [some (.ref 998), some (.ref 1000), some (.ref 1079), some (.ref 1121), some (zi x4)] [] k j) (x4 : Int) (S : zz_S) (n k j : Nat) (G_S : zz_G S) (H_S : zz_Hc S) (R_S : zz_Hr S) (O_S : 1 ≤ S 1079 36) (T0_S : S 1070 1 = S 1079 28) (T1_S : S 1031 6 = S 1079 1) (hn : zz_end ≤ n) (hx : 0 ≤ x4 ∧ x4 ≤ 3590) (hkk : (k : Int) ≤ 200 + x4) (hjj : (j : Int) ≤ 30000 + 6 * x4) (hR : (3600 - x4).toNat < N + 1) (hc1 : x4 ≤ zz_ln g - 7) : zz_E g l zy_law_L room_1 (fun u => ∃ M1 n1, u = (.inl (some (zi 1)), M1, n1)) S n 1151 [some (.ref 998), some (.ref 1000), some (.ref 1079), some (.ref 1121), some (zi x4)] [] k j := by
  have hln : 0 ≤ zz_ln g ∧ zz_ln g ≤ 3584 := ⟨Int.natCast_nonneg _, Int.ofNat_le.mpr hlen⟩
  have hk : k ≤ 601024 := by omega
  have hj : j ≤ 7293034 := by omega
  refine zz_aload_n (x := 1000) rfl zd_L_law_1151 ?_
  refine zz_aload_n (x := 998) rfl zd_L_law_1152 ?_
  refine zz_iload (x := x4) rfl zd_L_law_1153 ?_
  refine zz_iconst zd_L_law_1155 ?_
  refine zz_iadd zd_L_law_1156 ?_
  refine zz_sld (by omega) zd_L_law_1157 (by omega) ?_
  have g626 := zz_sc_r g (x4 + 1).toNat
  refine zz_aload_n (x := 998) rfl zd_L_law_1158 ?_
  refine zz_iload (x := x4) rfl zd_L_law_1159 ?_
  refine zz_iconst zd_L_law_1161 ?_
  refine zz_iadd zd_L_law_1162 ?_
  refine zz_sld (by omega) zd_L_law_1163 (by omega) ?_
  have g627 := zz_sc_r g (x4 + 2).toNat
  refine zz_aload_n (x := 1121) rfl zd_L_law_1164 ?_
  refine zz_callHW (rz := zr_waits_L) [.ref 1000, zi (zz_sc g (x4 + 1).toNat), zi (zz_sc g (x4 + 2).toNat), .ref 1121] zd_L_law_1165 zhl_waits_L rfl rfl ⟨Nat.le_of_ble_eq_true rfl, Nat.le_of_ble_eq_true rfl⟩ (by show k + 2 ≤ 601024; omega) (by show j + 12 ≤ 7293034; omega) (zc_waits_L (zz_sc g (x4 + 1).toNat) (zz_sc g (x4 + 2).toNat) S (n) hn hfl G_S (by omega) (by omega)) (fun v629 S628 d630 hd630 hP => ?_)
  obtain ⟨G_S628, fS628, rv629⟩ := hP
  have hn631 : zz_end ≤ n + d630 := by omega
  have hk632 : (k + zr_waits_L.cells) ≤ 601024 := by show k + 2 ≤ 601024; omega
  have hj633 : (j + zr_waits_L.slots) ≤ 7293034 := by show j + 12 ≤ 7293034; omega
  have H_S628 : zz_Hc S628 := zz_Hc.fr (q := 0) fS628 rfl rfl G_S (by decide) rfl (fun b q h => h.elim) H_S
  have R_S628 : zz_Hr S628 := zz_Hr.fr fS628 rfl rfl (fun b q h => h.elim) R_S
  have O_S628 : 1 ≤ S628 1079 36 := by rw [show S628 1079 36 = S 1079 36 from zz_rc fS628 rfl rfl (fun h => h) rfl]; exact O_S
  refine zz_istore [some (.ref 998), some (.ref 1000), some (.ref 1079), some (.ref 1121), some (zi x4), some (zi v629)] zd_L_law_1168 (by decide) rfl ?_
  refine zz_aload_n (x := 1079) rfl zd_L_law_1170 ?_
  refine zz_aload_n (x := 998) rfl zd_L_law_1171 ?_
  refine zz_iload (x := x4) rfl zd_L_law_1172 ?_
  refine zz_iconst zd_L_law_1174 ?_
  refine zz_iadd zd_L_law_1175 ?_
  refine zz_sld (by omega) zd_L_law_1176 (by omega) ?_
  refine zz_aload_n (x := 998) rfl zd_L_law_1177 ?_
  refine zz_iload (x := x4) rfl zd_L_law_1178 ?_
  refine zz_iconst zd_L_law_1180 ?_
  refine zz_iadd zd_L_law_1181 ?_
  refine zz_sld (by omega) zd_L_law_1182 (by omega) ?_
  refine zz_callVI [zi (zz_sc g (x4 + 1).toNat), zi (zz_sc g (x4 + 2).toNat)] zd_L_law_1183 zk_TFLaw_205 zT_1079 (zz_ltn hn631 rfl) rfl rfl ⟨Nat.le_of_ble_eq_true rfl, Nat.le_of_ble_eq_true rfl⟩ ⟨rfl, rfl⟩ hk632 hj633 (zc_waits_14_119 (zz_sc g (x4 + 1).toNat) (zz_sc g (x4 + 2).toNat) S628 (n + d630) hn631 G_S628 (by omega) (by omega)) (fun v635 S634 hP => ?_)
  obtain ⟨G_S634, fS634, o636⟩ := hP
  have H_S634 : zz_Hc S634 := zz_Hc.fr (q := 0) fS634 rfl rfl G_S628 (by decide) rfl (fun b q h => h.elim) H_S628
  have R_S634 : zz_Hr S634 := zz_Hr.fr fS634 rfl rfl (fun b q h => h.elim) R_S628
  have O_S634 : 1 ≤ S634 1079 36 := by rw [show S634 1079 36 = S628 1079 36 from zz_rc fS634 rfl rfl (fun h => h) rfl]; exact O_S628
  refine zz_istore [some (.ref 998), some (.ref 1000), some (.ref 1079), some (.ref 1121), some (zi x4), some (zi v629), some (zi v635)] zd_L_law_1186 (by decide) rfl ?_
  refine zz_goto zd_L_law_1188 ?_
  refine zz_iinc [some (.ref 998), some (.ref 1000), some (.ref 1079), some (.ref 1121), some (zi (x4 + 7)), some (zi v629), some (zi v635)] zd_L_law_1191 rfl rfl ?_
  refine zz_goto zd_L_law_1194 ?_
  refine zz_less (ls1 := [some (.ref 998), some (.ref 1000), some (.ref 1079), some (.ref 1121), some (zi (x4 + 7))]) ⟨rfl, ⟨rfl, ⟨rfl, ⟨rfl, ⟨rfl, trivial⟩⟩⟩⟩⟩ ?_
  have g637 := zz_G.r G_S 1070 1 0 1500 rfl rfl
  have e638 : S634 1070 1 = S 1070 1 := (zz_rc fS634 rfl rfl (fun h => h) (zz_rc fS628 rfl rfl (fun h => h) rfl))
  have g639 := zz_G.r G_S 1079 28 0 1500 rfl rfl
  have e640 : S634 1079 28 = S 1079 28 := (zz_rc fS634 rfl rfl (fun h => h) (zz_rc fS628 rfl rfl (fun h => h) rfl))
  have g641 := zz_G.r G_S 1031 6 2 8 rfl rfl
  have e642 : S634 1031 6 = S 1031 6 := (zz_rc fS634 rfl rfl (fun h => h) (zz_rc fS628 rfl rfl (fun h => h) rfl))
  have g643 := zz_G.r G_S 1079 1 2 8 rfl rfl
  have e644 : S634 1079 1 = S 1079 1 := (zz_rc fS634 rfl rfl (fun h => h) (zz_rc fS628 rfl rfl (fun h => h) rfl))
  exact ih (x4 + 7) S634 (n + d630) (k + zr_waits_L.cells) (j + zr_waits_L.slots) G_S634 H_S634 R_S634 O_S634 (by omega) (by omega) hn631 (by omega) (by show ((k + 2 : Nat) : Int) ≤ 200 + (x4 + 7); omega) (by show ((j + 12 : Nat) : Int) ≤ 30000 + 6 * (x4 + 7); omega) (by omega)
theorem zi_law_L {g : mm_G} {l : Launch} (hfl : l.flags = flags0) (hlen : g.2.2.2 997 ≤ 3584) : ∀ N : Nat, ∀ (x4 : Int) (S : zz_S) (n k j : Nat), zz_G S → zz_Hc S → zz_Hr S → 1 ≤ S 1079 36 → S 1070 1 = S 1079 28 → S 1031 6 = S 1079 1 → zz_end ≤ n → (0 ≤ x4 ∧ x4 ≤ 3590) → (k : Int) ≤ 200 + x4 → (j : Int) ≤ 30000 + 6 * x4 → (3600 - x4).toNat < N → zz_E g l zy_law_L room_1 (fun u => ∃ M1 n1, u = (.inl (some (zi 1)), M1, n1)) S n 23 [some (.ref 998), some (.ref 1000), some (.ref 1079), some (.ref 1121), some (zi x4)] [] k j := by
  intro N
  induction N with
  | zero => exact fun x4 S n k j _ _ _ _ _ _ _ _ _ _ h => absurd h (Nat.not_lt_zero _)
  | succ N ih =>
    intro x4 S n k j G_S H_S R_S O_S T0_S T1_S hn hx hkk hjj hR
    have hln : 0 ≤ zz_ln g ∧ zz_ln g ≤ 3584 := ⟨Int.natCast_nonneg _, Int.ofNat_le.mpr hlen⟩
    have hk : k ≤ 601024 := by omega
    have hj : j ≤ 7293034 := by omega
    refine zz_iload (x := x4) rfl zd_L_law_23 ?_
    refine zz_aload_n (x := 998) rfl zd_L_law_25 ?_
    refine zz_sln zd_L_law_26 ?_
    refine zz_bipush (by decide) zd_L_law_27 ?_
    refine zz_isub zd_L_law_29 ?_
    refine zz_icmp_gt (by omega) (by omega) zd_L_law_30 (fun c1 => ?_) (fun hc1 => ?_)
    · refine zz_iconst zd_L_law_1197 ?_
      exact zz_zret zd_L_law_1198 rfl (by decide) hk hj ⟨_, _, rfl⟩
    · refine zz_aload_n (x := 998) rfl zd_L_law_33 ?_
      refine zz_iload (x := x4) rfl zd_L_law_34 ?_
      refine zz_sld (by omega) zd_L_law_36 (by omega) ?_
      have g2 := zz_sc_r g x4.toNat
      refine zz_bipush (by decide) zd_L_law_37 ?_
      refine zz_iand (by omega) (by omega) zd_L_law_39 (fun v3 hv3 av3 bv3 ev3 => ?_)
      by_cases c4 : v3 = 0
      · refine zz_swIn 0 128 c4 (by decide) zd_L_law_40 rfl rfl ?_
        exact zl_0 hfl hlen N ih x4 S n k j G_S H_S R_S O_S T0_S T1_S hn hx hkk hjj hR hc1
      by_cases c32 : v3 = 1
      · refine zz_swIn 1 153 c32 (by decide) zd_L_law_40 rfl rfl ?_
        exact zl_1 hfl hlen N ih x4 S n k j G_S H_S R_S O_S T0_S T1_S hn hx hkk hjj hR hc1
      by_cases c53 : v3 = 2
      · refine zz_swIn 2 190 c53 (by decide) zd_L_law_40 rfl rfl ?_
        exact zl_2 hfl hlen N ih x4 S n k j G_S H_S R_S O_S T0_S T1_S hn hx hkk hjj hR hc1
      by_cases c73 : v3 = 3
      · refine zz_swIn 3 230 c73 (by decide) zd_L_law_40 rfl rfl ?_
        exact zl_3 hfl hlen N ih x4 S n k j G_S H_S R_S O_S T0_S T1_S hn hx hkk hjj hR hc1
      by_cases c101 : v3 = 4
      · refine zz_swIn 4 299 c101 (by decide) zd_L_law_40 rfl rfl ?_
        exact zl_4 hfl hlen N ih x4 S n k j G_S H_S R_S O_S T0_S T1_S hn hx hkk hjj hR hc1
      by_cases c119 : v3 = 5
      · refine zz_swIn 5 324 c119 (by decide) zd_L_law_40 rfl rfl ?_
        exact zl_5 hfl hlen N ih x4 S n k j G_S H_S R_S O_S T0_S T1_S hn hx hkk hjj hR hc1
      by_cases c138 : v3 = 6
      · refine zz_swIn 6 352 c138 (by decide) zd_L_law_40 rfl rfl ?_
        exact zl_6 hfl hlen N ih x4 S n k j G_S H_S R_S O_S T0_S T1_S hn hx hkk hjj hR hc1
      by_cases c153 : v3 = 7
      · refine zz_swIn 7 365 c153 (by decide) zd_L_law_40 rfl rfl ?_
        exact zl_7 hfl hlen N ih x4 S n k j G_S H_S R_S O_S T0_S T1_S hn hx hkk hjj hR hc1
      by_cases c184 : v3 = 8
      · refine zz_swIn 8 437 c184 (by decide) zd_L_law_40 rfl rfl ?_
        exact zl_8 hfl hlen N ih x4 S n k j G_S H_S R_S O_S T0_S T1_S hn hx hkk hjj hR hc1
      by_cases c237 : v3 = 9
      · refine zz_swIn 9 494 c237 (by decide) zd_L_law_40 rfl rfl ?_
        exact zl_9 hfl hlen N ih x4 S n k j G_S H_S R_S O_S T0_S T1_S hn hx hkk hjj hR hc1
      by_cases c259 : v3 = 10
      · refine zz_swIn 10 522 c259 (by decide) zd_L_law_40 rfl rfl ?_
        exact zl_10 hfl hlen N ih x4 S n k j G_S H_S R_S O_S T0_S T1_S hn hx hkk hjj hR hc1
      by_cases c286 : v3 = 11
      · refine zz_swIn 11 558 c286 (by decide) zd_L_law_40 rfl rfl ?_
        exact zl_11 hfl hlen N ih x4 S n k j G_S H_S R_S O_S T0_S T1_S hn hx hkk hjj hR hc1
      by_cases c303 : v3 = 12
      · refine zz_swIn 12 571 c303 (by decide) zd_L_law_40 rfl rfl ?_
        exact zl_12 hfl hlen N ih x4 S n k j G_S H_S R_S O_S T0_S T1_S hn hx hkk hjj hR hc1
      by_cases c323 : v3 = 13
      · refine zz_swIn 13 611 c323 (by decide) zd_L_law_40 rfl rfl ?_
        exact zl_13 hfl hlen N ih x4 S n k j G_S H_S R_S O_S T0_S T1_S hn hx hkk hjj hR hc1
      by_cases c338 : v3 = 14
      · refine zz_swIn 14 624 c338 (by decide) zd_L_law_40 rfl rfl ?_
        exact zl_14 hfl hlen N ih x4 S n k j G_S H_S R_S O_S T0_S T1_S hn hx hkk hjj hR hc1
      by_cases c357 : v3 = 15
      · refine zz_swIn 15 652 c357 (by decide) zd_L_law_40 rfl rfl ?_
        exact zl_15 hfl hlen N ih x4 S n k j G_S H_S R_S O_S T0_S T1_S hn hx hkk hjj hR hc1
      by_cases c377 : v3 = 16
      · refine zz_swIn 16 692 c377 (by decide) zd_L_law_40 rfl rfl ?_
        exact zl_16 hfl hlen N ih x4 S n k j G_S H_S R_S O_S T0_S T1_S hn hx hkk hjj hR hc1
      by_cases c408 : v3 = 17
      · refine zz_swIn 17 741 c408 (by decide) zd_L_law_40 rfl rfl ?_
        exact zl_17 hfl hlen N ih x4 S n k j G_S H_S R_S O_S T0_S T1_S hn hx hkk hjj hR hc1
      by_cases c437 : v3 = 18
      · refine zz_swIn 18 831 c437 (by decide) zd_L_law_40 rfl rfl ?_
        exact zl_18 hfl hlen N ih x4 S n k j G_S H_S R_S O_S T0_S T1_S hn hx hkk hjj hR hc1
      by_cases c463 : v3 = 19
      · refine zz_swIn 19 883 c463 (by decide) zd_L_law_40 rfl rfl ?_
        exact zl_19 hfl hlen N ih x4 S n k j G_S H_S R_S O_S T0_S T1_S hn hx hkk hjj hR hc1
      by_cases c489 : v3 = 20
      · refine zz_swIn 20 935 c489 (by decide) zd_L_law_40 rfl rfl ?_
        exact zl_20 hfl hlen N ih x4 S n k j G_S H_S R_S O_S T0_S T1_S hn hx hkk hjj hR hc1
      by_cases c509 : v3 = 21
      · refine zz_swIn 21 975 c509 (by decide) zd_L_law_40 rfl rfl ?_
        exact zl_21 hfl hlen N ih x4 S n k j G_S H_S R_S O_S T0_S T1_S hn hx hkk hjj hR hc1
      by_cases c528 : v3 = 22
      · refine zz_swIn 22 991 c528 (by decide) zd_L_law_40 rfl rfl ?_
        exact zl_22 hfl hlen N ih x4 S n k j G_S H_S R_S O_S T0_S T1_S hn hx hkk hjj hR hc1
      by_cases c542 : v3 = 23
      · refine zz_swIn 23 1002 c542 (by decide) zd_L_law_40 rfl rfl ?_
        exact zl_23 hfl hlen N ih x4 S n k j G_S H_S R_S O_S T0_S T1_S hn hx hkk hjj hR hc1
      by_cases c562 : v3 = 24
      · refine zz_swIn 24 1015 c562 (by decide) zd_L_law_40 rfl rfl ?_
        exact zl_24 hfl hlen N ih x4 S n k j G_S H_S R_S O_S T0_S T1_S hn hx hkk hjj hR hc1
      by_cases c582 : v3 = 25
      · refine zz_swIn 25 1055 c582 (by decide) zd_L_law_40 rfl rfl ?_
        exact zl_25 hfl hlen N ih x4 S n k j G_S H_S R_S O_S T0_S T1_S hn hx hkk hjj hR hc1
      by_cases c605 : v3 = 26
      · refine zz_swIn 26 1071 c605 (by decide) zd_L_law_40 rfl rfl ?_
        exact zl_26 hfl hlen N ih x4 S n k j G_S H_S R_S O_S T0_S T1_S hn hx hkk hjj hR hc1
      by_cases c625 : v3 = 27
      · refine zz_swIn 27 1111 c625 (by decide) zd_L_law_40 rfl rfl ?_
        exact zl_27 hfl hlen N ih x4 S n k j G_S H_S R_S O_S T0_S T1_S hn hx hkk hjj hR hc1
      refine zz_swOut (by omega) (by omega) zd_L_law_40 rfl ?_
      refine zz_iinc [some (.ref 998), some (.ref 1000), some (.ref 1079), some (.ref 1121), some (zi (x4 + 7))] zd_L_law_1191 rfl rfl ?_
      refine zz_goto zd_L_law_1194 ?_
      refine zz_less (ls1 := [some (.ref 998), some (.ref 1000), some (.ref 1079), some (.ref 1121), some (zi (x4 + 7))]) ⟨rfl, ⟨rfl, ⟨rfl, ⟨rfl, ⟨rfl, trivial⟩⟩⟩⟩⟩ ?_
      have g645 := zz_G.r G_S 1070 1 0 1500 rfl rfl
      have g646 := zz_G.r G_S 1079 28 0 1500 rfl rfl
      have g647 := zz_G.r G_S 1031 6 2 8 rfl rfl
      have g648 := zz_G.r G_S 1079 1 2 8 rfl rfl
      exact ih (x4 + 7) S (n) k j G_S H_S R_S O_S (by omega) (by omega) hn (by omega) (by show ((k : Nat) : Int) ≤ 200 + (x4 + 7); omega) (by show ((j : Nat) : Int) ≤ 30000 + 6 * (x4 + 7); omega) (by omega)
theorem zn_TFLaw_8 : mm_Nl "TensorForgeLaw" 8 0 12 [.null, .null, .null, .null, .null, .null, .null, .null, .null, .null, .null, .int 0] := ⟨R_TF, F_TF, t_TF, rfl, i_TF, t_TF_ok, mm_tb_1 28 (by decide +kernel) rfl, mm_tb_1 29 (by decide +kernel) rfl, mm_tb_1 1 (by decide +kernel) rfl, fun q hq => by rcases (by omega : q = 0 ∨ q = 1 ∨ q = 2 ∨ q = 3 ∨ q = 4 ∨ q = 5 ∨ q = 6 ∨ q = 7 ∨ q = 8 ∨ q = 9 ∨ q = 10 ∨ q = 11) with rfl | rfl | rfl | rfl | rfl | rfl | rfl | rfl | rfl | rfl | rfl | rfl <;> rfl, fun _ => rfl⟩
theorem zk_TFLaw_94 : mm_Il "TensorForgeLaw" 94 0 zy_init_1_1 := ⟨zyw_init_1_1, mm_tb_1 30 (by decide +kernel) rfl, mm_tb_1 31 (by decide +kernel) rfl, rfl, rfl⟩
theorem zn_TFLaw_95 : mm_Nl "TensorForgeLaw" 95 11 69 [.int 0, .int 0, .null, .null, .null, .null, .null, .int 0, .null, .null, .int 0, .null, .null, .null, .int 0, .int 0, .int 0, .null, .null, .int 0, .null, .null, .null, .null, .null, .null, .null, .null, .int 0, .null, .int 0, .int 0, .int 0, .int 0, .int 0, .null, .int 0, .null, .null, .null, .null, .null, .null, .null, .null, .null, .null, .null, .null, .null, .int 0, .int 0, .int 0, .int 0, .int 0, .int 0, .int 0, .int 0, .null, .null, .int 0, .long 0, .null, .null, .long 0, .int 0, .int 0, .null, .null] := ⟨R_Md, F_Md, t_Md, rfl, i_Md, t_Md_ok, mm_tb_1 1582 (by decide +kernel) rfl, mm_tb_1 1583 (by decide +kernel) rfl, mm_tb_1 12 (by decide +kernel) rfl, fun q hq => by rcases (by omega : q = 0 ∨ q = 1 ∨ q = 2 ∨ q = 3 ∨ q = 4 ∨ q = 5 ∨ q = 6 ∨ q = 7 ∨ q = 8 ∨ q = 9 ∨ q = 10 ∨ q = 11 ∨ q = 12 ∨ q = 13 ∨ q = 14 ∨ q = 15 ∨ q = 16 ∨ q = 17 ∨ q = 18 ∨ q = 19 ∨ q = 20 ∨ q = 21 ∨ q = 22 ∨ q = 23 ∨ q = 24 ∨ q = 25 ∨ q = 26 ∨ q = 27 ∨ q = 28 ∨ q = 29 ∨ q = 30 ∨ q = 31 ∨ q = 32 ∨ q = 33 ∨ q = 34 ∨ q = 35 ∨ q = 36 ∨ q = 37 ∨ q = 38 ∨ q = 39 ∨ q = 40 ∨ q = 41 ∨ q = 42 ∨ q = 43 ∨ q = 44 ∨ q = 45 ∨ q = 46 ∨ q = 47 ∨ q = 48 ∨ q = 49 ∨ q = 50 ∨ q = 51 ∨ q = 52 ∨ q = 53 ∨ q = 54 ∨ q = 55 ∨ q = 56 ∨ q = 57 ∨ q = 58 ∨ q = 59 ∨ q = 60 ∨ q = 61 ∨ q = 62 ∨ q = 63 ∨ q = 64 ∨ q = 65 ∨ q = 66 ∨ q = 67 ∨ q = 68) with rfl | rfl | rfl | rfl | rfl | rfl | rfl | rfl | rfl | rfl | rfl | rfl | rfl | rfl | rfl | rfl | rfl | rfl | rfl | rfl | rfl | rfl | rfl | rfl | rfl | rfl | rfl | rfl | rfl | rfl | rfl | rfl | rfl | rfl | rfl | rfl | rfl | rfl | rfl | rfl | rfl | rfl | rfl | rfl | rfl | rfl | rfl | rfl | rfl | rfl | rfl | rfl | rfl | rfl | rfl | rfl | rfl | rfl | rfl | rfl | rfl | rfl | rfl | rfl | rfl | rfl | rfl | rfl | rfl <;> rfl, fun _ => rfl⟩
theorem zk_TFLaw_97 : mm_Il "TensorForgeLaw" 97 0 zy_init_14_1 := ⟨zyw_init_14_1, mm_tb_1 1584 (by decide +kernel) rfl, mm_tb_1 1585 (by decide +kernel) rfl, rfl, rfl⟩
theorem zz_hi {cl : List Nat} {a : Nat} (h : cl.all (fun c => Nat.blt c 1122) = true) (ha : 1122 ≤ a) : cl.contains a = false := by
  cases hc : cl.contains a with
  | false => rfl
  | true =>
    have h1 := (List.all_eq_true.mp h) a (List.contains_iff_mem.mp hc)
    simp only [Nat.blt_eq] at h1
    omega
theorem zz_hi2 {sl : List (Nat × Nat)} {a i : Nat} (h : sl.all (fun c => Nat.blt c.1 1122) = true) (ha : 1122 ≤ a) : sl.contains (a, i) = false := by
  cases hc : sl.contains (a, i) with
  | false => rfl
  | true =>
    have h1 := (List.all_eq_true.mp h) (a, i) (List.contains_iff_mem.mp hc)
    simp only [Nat.blt_eq] at h1
    omega
set_option maxHeartbeats 4000000 in
theorem zg_L_law_0 : (decode zy_law_L.2.1 0 = .ok ((.new 8), 3)) ∧ (decode zy_law_L.2.1 3 = .ok ((.dup), 1)) ∧ (decode zy_law_L.2.1 4 = .ok ((.invokespecial 94), 3)) ∧ (decode zy_law_L.2.1 7 = .ok ((.astore_n 1), 1)) ∧ (decode zy_law_L.2.1 8 = .ok ((.new 95), 3)) ∧ (decode zy_law_L.2.1 11 = .ok ((.dup), 1)) ∧ (decode zy_law_L.2.1 12 = .ok ((.invokespecial 97), 3)) ∧ (decode zy_law_L.2.1 15 = .ok ((.astore_n 2), 1)) ∧ (decode zy_law_L.2.1 16 = .ok ((.iconst 1), 1)) ∧ (decode zy_law_L.2.1 17 = .ok ((.newarray .long), 2)) := by decide +kernel
theorem zd_L_law_0 : zz_D zy_law_L 0 (.new 8) 3 3 := ⟨zg_L_law_0.1, rfl⟩
theorem zd_L_law_3 : zz_D zy_law_L 3 (.dup) 1 4 := ⟨zg_L_law_0.2.1, rfl⟩
theorem zd_L_law_4 : zz_D zy_law_L 4 (.invokespecial 94) 3 7 := ⟨zg_L_law_0.2.2.1, rfl⟩
theorem zd_L_law_7 : zz_D zy_law_L 7 (.astore_n 1) 1 8 := ⟨zg_L_law_0.2.2.2.1, rfl⟩
theorem zd_L_law_8 : zz_D zy_law_L 8 (.new 95) 3 11 := ⟨zg_L_law_0.2.2.2.2.1, rfl⟩
theorem zd_L_law_11 : zz_D zy_law_L 11 (.dup) 1 12 := ⟨zg_L_law_0.2.2.2.2.2.1, rfl⟩
theorem zd_L_law_12 : zz_D zy_law_L 12 (.invokespecial 97) 3 15 := ⟨zg_L_law_0.2.2.2.2.2.2.1, rfl⟩
theorem zd_L_law_15 : zz_D zy_law_L 15 (.astore_n 2) 1 16 := ⟨zg_L_law_0.2.2.2.2.2.2.2.1, rfl⟩
theorem zd_L_law_16 : zz_D zy_law_L 16 (.iconst 1) 1 17 := ⟨zg_L_law_0.2.2.2.2.2.2.2.2.1, rfl⟩
theorem zd_L_law_17 : zz_D zy_law_L 17 (.newarray .long) 2 19 := ⟨zg_L_law_0.2.2.2.2.2.2.2.2.2, rfl⟩
theorem zg_L_law_19 : (decode zy_law_L.2.1 19 = .ok ((.astore_n 3), 1)) ∧ (decode zy_law_L.2.1 20 = .ok ((.iconst 0), 1)) ∧ (decode zy_law_L.2.1 21 = .ok ((.istore 4), 2)) := by decide +kernel
theorem zd_L_law_19 : zz_D zy_law_L 19 (.astore_n 3) 1 20 := ⟨zg_L_law_19.1, rfl⟩
theorem zd_L_law_20 : zz_D zy_law_L 20 (.iconst 0) 1 21 := ⟨zg_L_law_19.2.1, rfl⟩
theorem zd_L_law_21 : zz_D zy_law_L 21 (.istore 4) 2 23 := ⟨zg_L_law_19.2.2, rfl⟩
theorem zs_law_L {g : mm_G} {l : Launch} (hfl : l.flags = flags0) (hlen : g.2.2.2 997 ≤ 3584) (S0 : zz_S) (h0 : ∀ a i, S0 a i = 0) : zz_E g l zy_law_L room_1 (fun u => ∃ M1 n1, u = (.inl (some (zi 1)), M1, n1)) S0 1000 0 [some (.ref 998)] [] 0 0 := by
  have G_S0 : zz_Gm [] [] S0 := fun a i h => by cases h
  have F_S0 : zz_fr [] [1000, 1001, 1002, 1003, 1004, 1005, 1006, 1007, 1008, 1009, 1010, 1011, 1012, 1013, 1014, 1015, 1016, 1017, 1018, 1019, 1020, 1021, 1022, 1023, 1024, 1025, 1026, 1027, 1028, 1029, 1030, 1031, 1032, 1033, 1034, 1035, 1036, 1037, 1038, 1039, 1040, 1041, 1042, 1043, 1044, 1045, 1046, 1047, 1048, 1049, 1050, 1051, 1052, 1053, 1054, 1055, 1056, 1057, 1058, 1059, 1060, 1061, 1062, 1063, 1064, 1065, 1066, 1067, 1068, 1069, 1070, 1071, 1072, 1073, 1074, 1075, 1076, 1077, 1078, 1079, 1080, 1081, 1082, 1083, 1084, 1085, 1086, 1087, 1088, 1089, 1090, 1091, 1092, 1093, 1094, 1095, 1096, 1097, 1098, 1099, 1100, 1101, 1102, 1103, 1104, 1105, 1106, 1107, 1108, 1109, 1110, 1111, 1112, 1113, 1114, 1115, 1116, 1117, 1118, 1119, 1120, 1121] (fun _ _ => False) S0 S0 := zz_fr.refl
  refine zz_new (zz_ov [(-1), (-1), (-1), (-1), (-1), (-1), (-1), (-1), (-1), (-1), (-1), 0]) zd_L_law_0 zn_TFLaw_8 zT_1000 rfl (Nat.le_of_ble_eq_true rfl) (Nat.le_of_ble_eq_true rfl) (fun S1 qS1 => ?_)
  have G_S1 := zz_Gm.nwo G_S0 qS1 (by decide +kernel)
  have F_S1 := zz_fr.nw F_S0 qS1 (by decide +kernel)
  refine zz_setn (n1 := 1001) (k1 := 1) (j1 := 12) rfl rfl rfl ?_
  refine zz_dup rfl zd_L_law_3 ?_
  refine zz_callN (n1 := 1079) [] zd_L_law_4 zk_TFLaw_94 rfl rfl ⟨Nat.le_of_ble_eq_true rfl, Nat.le_of_ble_eq_true rfl⟩ (Nat.le_of_ble_eq_true rfl) (Nat.le_of_ble_eq_true rfl) (zc_init_1_1_c1000_1001 S1 (zz_Gm.own qS1 (zz_ovG (rs := [(1031, 1031), (1042, 1042), (1070, 1070), (1072, 1072), (1073, 1073), (1076, 1076), (1077, 1077), (0, 1), (0, 1), (0, 1), (0, 1), (0, 600)]) (fun _ => rfl) rfl (by decide +kernel)))) (fun S2 hP => ?_)
  obtain ⟨gS2, fS2, o3, o4, o5, o6⟩ := hP
  have F_S2 := zz_fr.trans F_S1 fS2 (by decide +kernel) zz_nv
  have G_S2 := zz_Gm.call [] G_S1 fS2 gS2 (by decide +kernel) (by decide +kernel) (by decide +kernel) (by decide +kernel)
  refine zz_setn (n1 := 1079) (k1 := 79) (j1 := 10884) rfl rfl rfl ?_
  refine zz_astore_n [some (.ref 998), some (.ref 1000)] zd_L_law_7 (by decide) rfl ?_
  refine zz_new (zz_ov [0, 0, (-1), (-1), (-1), (-1), (-1), 0, (-1), (-1), 0, (-1), (-1), (-1), 0, 0, 0, (-1), (-1), 0, (-1), (-1), (-1), (-1), (-1), (-1), (-1), (-1), 0, (-1), 0, 0, 0, 0, 0, (-1), 0, (-1), (-1), (-1), (-1), (-1), (-1), (-1), (-1), (-1), (-1), (-1), (-1), (-1), 0, 0, 0, 0, 0, 0, 0, 0, (-1), (-1), 0, 0, (-1), (-1), 0, 0, 0, (-1), (-1)]) zd_L_law_8 zn_TFLaw_95 zT_1079 (by decide +kernel) (Nat.le_of_ble_eq_true rfl) (Nat.le_of_ble_eq_true rfl) (fun S7 qS7 => ?_)
  have G_S7 := zz_Gm.nwo G_S2 qS7 (by decide +kernel)
  have F_S7 := zz_fr.nw F_S2 qS7 (by decide +kernel)
  refine zz_setn (n1 := 1080) (k1 := 80) (j1 := 10953) rfl rfl rfl ?_
  refine zz_dup rfl zd_L_law_11 ?_
  refine zz_callN (n1 := 1121) [] zd_L_law_12 zk_TFLaw_97 rfl rfl ⟨Nat.le_of_ble_eq_true rfl, Nat.le_of_ble_eq_true rfl⟩ (Nat.le_of_ble_eq_true rfl) (Nat.le_of_ble_eq_true rfl) (zc_init_14_1_c1079_1080 S7 (zz_Gm.own qS7 (zz_ovG (rs := [(0, 3), (2, 8), (1080, 1080), (1081, 1081), (1082, 1082), (1083, 1083), (1084, 1084), (0, 600), (1085, 1085), (1086, 1086), (0, 1000000), (1087, 1087), (1088, 1088), (1089, 1089), (0, 4), ((-1), 600), ((-2147483648), 2147483647), (1090, 1090), (1091, 1091), ((-1), 600), (1092, 1092), (1093, 1093), (1094, 1094), (1095, 1095), (1096, 1096), (1097, 1097), (1098, 1098), (1099, 1099), (0, 1500), (1100, 1100), (0, 102), (0, 9999), (0, 1500), (0, 1500), (0, 200), (1101, 1101), (0, 11), (1102, 1102), (1103, 1103), (1104, 1104), (1105, 1105), (1106, 1106), (1107, 1107), (1108, 1108), (1109, 1109), (1110, 1110), (1111, 1111), (1112, 1112), (1113, 1113), (1114, 1114), ((-2147483648), 2147483647), ((-2147483648), 2147483647), ((-2147483648), 2147483647), ((-2147483648), 2147483647), ((-2147483648), 2147483647), ((-2147483648), 2147483647), ((-2147483648), 2147483647), ((-2147483648), 2147483647), (1115, 1115), (1116, 1116), ((-2147483648), 2147483647), ((-9223372036854775808), 9223372036854775807), (1117, 1117), (1118, 1118), ((-9223372036854775808), 9223372036854775807), (0, 255), (0, 11), (1119, 1119), (1120, 1120)]) (fun _ => rfl) rfl (by decide +kernel)))) (fun S8 hP => ?_)
  obtain ⟨gS8, fS8, o9, o10, o11⟩ := hP
  have F_S8 := zz_fr.trans F_S7 fS8 (by decide +kernel) zz_nv
  have G_S8 := zz_Gm.call [] G_S7 fS8 gS8 (by decide +kernel) (by decide +kernel) (by decide +kernel) (by decide +kernel)
  refine zz_setn (n1 := 1121) (k1 := 121) (j1 := 22894) rfl rfl rfl ?_
  have z12 : S8 1079 28 = 0 := o11.trans ((zz_nws qS7 28).trans (by decide +kernel))
  refine zz_astore_n [some (.ref 998), some (.ref 1000), some (.ref 1079)] zd_L_law_15 (by decide) rfl ?_
  refine zz_iconst zd_L_law_16 ?_
  refine zz_newa (z := 1) (fun _ => 0) zd_L_law_17 zT_1121 rfl (mm_tb_1 181 (by decide +kernel) rfl) rfl (by decide) (by decide) (fun _ => rfl) (fun _ => rfl) (fun _ h => by cases h) (Nat.le_of_ble_eq_true rfl) (Nat.le_of_ble_eq_true rfl) (fun S13 qS13 => ?_)
  have G_S13 := zz_Gm.nwa [] G_S8 qS13 (by decide +kernel) (fun i _ => ⟨(by decide : ((-9223372036854775808) : Int) ≤ 0), (by decide : (0 : Int) ≤ 9223372036854775807)⟩)
  have F_S13 := zz_fr.nw F_S8 qS13 (by decide +kernel)
  refine zz_setn (n1 := 1122) (k1 := 122) (j1 := 22895) rfl rfl rfl ?_
  refine zz_astore_n [some (.ref 998), some (.ref 1000), some (.ref 1079), some (.ref 1121)] zd_L_law_19 (by decide) rfl ?_
  refine zz_iconst zd_L_law_20 ?_
  refine zz_istore [some (.ref 998), some (.ref 1000), some (.ref 1079), some (.ref 1121), some (zi 0)] zd_L_law_21 (by decide) rfl ?_
  have g14 := trivial
  have e15 : S13 1001 1 = S2 1001 1 := (zz_nwo qS13 (by decide) (zz_rc fS8 (by decide +kernel) (by decide +kernel) (fun h => h) (zz_nwo qS7 (by decide) rfl)))
  have g16 := trivial
  have e17 : S13 1003 0 = S2 1003 0 := (zz_nwo qS13 (by decide) (zz_rc fS8 (by decide +kernel) (by decide +kernel) (fun h => h) (zz_nwo qS7 (by decide) rfl)))
  have g18 := trivial
  have e19 : S13 1003 12 = S2 1003 12 := (zz_nwo qS13 (by decide) (zz_rc fS8 (by decide +kernel) (by decide +kernel) (fun h => h) (zz_nwo qS7 (by decide) rfl)))
  have g20 := trivial
  have e21 : S13 1003 3 = S2 1003 3 := (zz_nwo qS13 (by decide) (zz_rc fS8 (by decide +kernel) (by decide +kernel) (fun h => h) (zz_nwo qS7 (by decide) rfl)))
  have g22 := trivial
  have e23 : S13 1003 4 = S2 1003 4 := (zz_nwo qS13 (by decide) (zz_rc fS8 (by decide +kernel) (by decide +kernel) (fun h => h) (zz_nwo qS7 (by decide) rfl)))
  have g24 := trivial
  have e25 : S13 1015 1 = S2 1015 1 := (zz_nwo qS13 (by decide) (zz_rc fS8 (by decide +kernel) (by decide +kernel) (fun h => h) (zz_nwo qS7 (by decide) rfl)))
  have g26 := trivial
  have e27 : S13 1017 0 = S2 1017 0 := (zz_nwo qS13 (by decide) (zz_rc fS8 (by decide +kernel) (by decide +kernel) (fun h => h) (zz_nwo qS7 (by decide) rfl)))
  have g28 := trivial
  have e29 : S13 1017 12 = S2 1017 12 := (zz_nwo qS13 (by decide) (zz_rc fS8 (by decide +kernel) (by decide +kernel) (fun h => h) (zz_nwo qS7 (by decide) rfl)))
  have g30 := trivial
  have e31 : S13 1017 3 = S2 1017 3 := (zz_nwo qS13 (by decide) (zz_rc fS8 (by decide +kernel) (by decide +kernel) (fun h => h) (zz_nwo qS7 (by decide) rfl)))
  have g32 := trivial
  have e33 : S13 1017 4 = S2 1017 4 := (zz_nwo qS13 (by decide) (zz_rc fS8 (by decide +kernel) (by decide +kernel) (fun h => h) (zz_nwo qS7 (by decide) rfl)))
  have g34 := trivial
  have e35 : S13 1079 36 = S8 1079 36 := (zz_nwo qS13 (by decide) rfl)
  have g36 := trivial
  have e37 : S13 1102 0 = S8 1102 0 := (zz_nwo qS13 (by decide) rfl)
  have g38 := trivial
  have e39 : S13 1103 0 = S8 1103 0 := (zz_nwo qS13 (by decide) rfl)
  have g40 := trivial
  have e41 : S13 1104 0 = S8 1104 0 := (zz_nwo qS13 (by decide) rfl)
  have g42 := trivial
  have e43 : S13 1105 0 = S8 1105 0 := (zz_nwo qS13 (by decide) rfl)
  have GG : zz_G S13 := zz_Gm.full G_S13 (by decide +kernel) (fun a i ha => (F_S13 a i (zz_hi2 (by decide +kernel) ha) (zz_hi (by decide +kernel) ha) (fun h => h)).trans (h0 a i))
  have HH : zz_Hc S13 := by
    intro q hq k hk hkt
    rcases (by omega : q = 0 ∨ q = 1) with rfl | rfl
    · have hkt : k < S13 1001 1 := hkt
      have hk0 : k = 0 := by omega
      subst hk0
      show (S13 1003 0 = 3 ∨ (S13 1003 3 ≤ 3 ∧ S13 1003 4 ≤ 3)) ∧ S13 1003 12 ≤ 63
      omega
    · have hkt : k < S13 1015 1 := hkt
      have hk0 : k = 0 := by omega
      subst hk0
      show (S13 1017 0 = 3 ∨ (S13 1017 3 ≤ 3 ∧ S13 1017 4 ≤ 3)) ∧ S13 1017 12 ≤ 63
      omega
  have RR : zz_Hr S13 := zz_Hr.one (by omega) (by unfold zz_tn zz_sz; rw [show S13 1102 0 = 1 by omega, show S13 1103 0 = 1 by omega, show S13 1104 0 = 1 by omega, show S13 1105 0 = 0 by omega]; decide)
  refine zz_less (ls1 := [some (.ref 998), some (.ref 1000), some (.ref 1079), some (.ref 1121), some (zi 0)]) ⟨rfl, ⟨rfl, ⟨rfl, ⟨rfl, ⟨rfl, trivial⟩⟩⟩⟩⟩ ?_
  have e44 : S13 1070 1 = 0 := (zz_nwo qS13 (by decide) (zz_rc fS8 (by decide +kernel) (by decide +kernel) (fun h => h) (zz_nwo qS7 (by decide) o6)))
  have e45 : S13 1079 28 = 0 := (zz_nwo qS13 (by decide) z12)
  have e46 : S13 1031 6 = 2 := (zz_nwo qS13 (by decide) (zz_rc fS8 (by decide +kernel) (by decide +kernel) (fun h => h) (zz_nwo qS7 (by decide) o5)))
  have e47 : S13 1079 1 = 2 := (zz_nwo qS13 (by decide) o10)
  exact zi_law_L hfl hlen _ 0 S13 1122 122 22895 GG HH RR (by omega) (by omega) (by omega) (Nat.le_refl _) (by decide) (by show ((122 : Nat) : Int) ≤ 200 + 0; decide) (by show ((22895 : Nat) : Int) ≤ 30000 + 6 * 0; decide) (Nat.lt_succ_self _)

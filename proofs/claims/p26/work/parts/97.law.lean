abbrev zy_law_L : mm_Y := (x, code, maxLocals, ret)
theorem zd_L_law_40 : zz_W zy_law_L 40 1168 0 27 #[128, 153, 190, 230, 299, 324, 352, 365, 437, 494, 522, 547, 560, 600, 613, 641, 681, 730, 820, 872, 924, 964, 980, 991, 1004, 1072, 1088, 1128] := ⟨128, by decide +kernel⟩
theorem zhl_side_L : mm_Hl "TensorForgeLaw" 98 2 [(0, 5, 8, 13)] zy_side_L := ⟨zxY_side_L, mm_tb_1 0 (by decide +kernel) rfl, ⟨by decide, by decide⟩, by decide +kernel, mm_tb_1 1040 (by decide +kernel) rfl, mm_tb_1 1041 (by decide +kernel) rfl⟩
theorem zk_TFLaw_103 : mm_Vl "TensorForgeLaw" 103 11 1 zy_side_14_6 := ⟨zyw_side_14_6, (R_Md, F_Md, 69), rfl, mm_tb_1 1824 (by decide +kernel) rfl, mm_tb_1 1825 (by decide +kernel) rfl, mm_tb_1 1826 (by decide +kernel) rfl⟩
theorem zhl_memory_L : mm_Hl "TensorForgeLaw" 104 3 [(0, 6, 9, 19)] zy_memory_L := ⟨zxY_memory_L, mm_tb_1 0 (by decide +kernel) rfl, ⟨by decide, by decide⟩, by decide +kernel, mm_tb_1 1125 (by decide +kernel) rfl, mm_tb_1 1126 (by decide +kernel) rfl⟩
theorem zk_TFLaw_107 : mm_Vl "TensorForgeLaw" 107 11 2 zy_memory_14_8 := ⟨zyw_memory_14_8, (R_Md, F_Md, 69), rfl, mm_tb_1 1840 (by decide +kernel) rfl, mm_tb_1 1841 (by decide +kernel) rfl, mm_tb_1 1842 (by decide +kernel) rfl⟩
theorem zhl_look_L : mm_Hl "TensorForgeLaw" 108 4 [(0, 10, 13, 13), (0, 10, 17, 19)] zy_look_L := ⟨zxY_look_L, mm_tb_1 0 (by decide +kernel) rfl, ⟨by decide, by decide⟩, by decide +kernel, mm_tb_1 1153 (by decide +kernel) rfl, mm_tb_1 1154 (by decide +kernel) rfl⟩
theorem zk_TFLaw_111 : mm_Vl "TensorForgeLaw" 111 11 2 zy_look_14_10 := ⟨zyw_look_14_10, (R_Md, F_Md, 69), rfl, mm_tb_1 1848 (by decide +kernel) rfl, mm_tb_1 1849 (by decide +kernel) rfl, mm_tb_1 1850 (by decide +kernel) rfl⟩
theorem zq_TFLaw_112 : Cond.constantLong "TensorForgeLaw" 112 (4294967295 : Int64) ∈ mm_tb := mm_tb_1 2313 (by decide +kernel) rfl
theorem zhl_word_L : mm_Hl "TensorForgeLaw" 114 3 [(0, 6, 9, 19), (0, 6, 13, 29)] zy_word_L := ⟨zxY_word_L, mm_tb_1 0 (by decide +kernel) rfl, ⟨by decide, by decide⟩, by decide +kernel, mm_tb_1 1167 (by decide +kernel) rfl, mm_tb_1 1168 (by decide +kernel) rfl⟩
theorem zk_TFLaw_117 : mm_Vl "TensorForgeLaw" 117 11 2 zy_word_14_14 := ⟨zyw_word_14_14, (R_Md, F_Md, 69), rfl, mm_tb_1 1867 (by decide +kernel) rfl, mm_tb_1 1868 (by decide +kernel) rfl, mm_tb_1 1869 (by decide +kernel) rfl⟩
theorem zhl_cut_L : mm_Hl "TensorForgeLaw" 118 2 [(0, 5, 8, 13)] zy_cut_L := ⟨zxY_cut_L, mm_tb_1 0 (by decide +kernel) rfl, ⟨by decide, by decide⟩, by decide +kernel, mm_tb_1 1192 (by decide +kernel) rfl, mm_tb_1 1193 (by decide +kernel) rfl⟩
theorem zk_TFLaw_120 : mm_Vl "TensorForgeLaw" 120 11 1 zy_cut_14_15 := ⟨zyw_cut_14_15, (R_Md, F_Md, 69), rfl, mm_tb_1 1871 (by decide +kernel) rfl, mm_tb_1 1872 (by decide +kernel) rfl, mm_tb_1 1873 (by decide +kernel) rfl⟩
theorem zhl_wordOf_L : mm_Hl "TensorForgeLaw" 121 3 [(0, 8, 11, 19)] zy_wordOf_L := ⟨zxY_wordOf_L, mm_tb_1 0 (by decide +kernel) rfl, ⟨by decide, by decide⟩, by decide +kernel, mm_tb_1 1200 (by decide +kernel) rfl, mm_tb_1 1201 (by decide +kernel) rfl⟩
theorem zk_TFLaw_124 : mm_Vl "TensorForgeLaw" 124 11 1 zy_wordOf_14_16 := ⟨zyw_wordOf_14_16, (R_Md, F_Md, 69), rfl, mm_tb_1 1875 (by decide +kernel) rfl, mm_tb_1 1876 (by decide +kernel) rfl, mm_tb_1 1877 (by decide +kernel) rfl⟩
theorem zk_TFLaw_125 : mm_Vl "TensorForgeLaw" 125 0 0 zy_length_1_8 := ⟨zyw_length_1_8, (R_TF, F_TF, 12), rfl, mm_tb_1 477 (by decide +kernel) rfl, mm_tb_1 478 (by decide +kernel) rfl, mm_tb_1 479 (by decide +kernel) rfl⟩
theorem zk_TFLaw_128 : mm_Vl "TensorForgeLaw" 128 11 0 zy_length_14_17 := ⟨zyw_length_14_17, (R_Md, F_Md, 69), rfl, mm_tb_1 1879 (by decide +kernel) rfl, mm_tb_1 1880 (by decide +kernel) rfl, mm_tb_1 1881 (by decide +kernel) rfl⟩
theorem zhl_field_L : mm_Hl "TensorForgeLaw" 129 4 [(0, 11, 14, 13)] zy_field_L := ⟨zxY_field_L, mm_tb_1 0 (by decide +kernel) rfl, ⟨by decide, by decide⟩, by decide +kernel, mm_tb_1 1207 (by decide +kernel) rfl, mm_tb_1 1208 (by decide +kernel) rfl⟩
theorem zk_TFLaw_132 : mm_Vl "TensorForgeLaw" 132 11 2 zy_field_14_13 := ⟨zyw_field_14_13, (R_Md, F_Md, 69), rfl, mm_tb_1 1856 (by decide +kernel) rfl, mm_tb_1 1857 (by decide +kernel) rfl, mm_tb_1 1858 (by decide +kernel) rfl⟩
theorem zk_TFLaw_133 : mm_Vl "TensorForgeLaw" 133 0 1 zy_illegal_1_10 := ⟨zyw_illegal_1_10, (R_TF, F_TF, 12), rfl, mm_tb_1 481 (by decide +kernel) rfl, mm_tb_1 482 (by decide +kernel) rfl, mm_tb_1 483 (by decide +kernel) rfl⟩
theorem zk_TFLaw_137 : mm_Vl "TensorForgeLaw" 137 11 1 zy_illegal_14_25 := ⟨zyw_illegal_14_25, (R_Md, F_Md, 69), rfl, mm_tb_1 1883 (by decide +kernel) rfl, mm_tb_1 1884 (by decide +kernel) rfl, mm_tb_1 1885 (by decide +kernel) rfl⟩
theorem zhl_put_L : mm_Hl "TensorForgeLaw" 138 3 [(0, 9, 12, 13), (0, 9, 15, 29)] zy_put_L := ⟨zxY_put_L, mm_tb_1 0 (by decide +kernel) rfl, ⟨by decide, by decide⟩, by decide +kernel, mm_tb_1 1216 (by decide +kernel) rfl, mm_tb_1 1217 (by decide +kernel) rfl⟩
theorem zk_TFLaw_140 : mm_Vl "TensorForgeLaw" 140 11 1 zy_put_14_47 := ⟨zyw_put_14_47, (R_Md, F_Md, 69), rfl, mm_tb_1 1997 (by decide +kernel) rfl, mm_tb_1 1998 (by decide +kernel) rfl, mm_tb_1 1999 (by decide +kernel) rfl⟩
theorem zhl_end_L : mm_Hl "TensorForgeLaw" 141 2 [(0, 5, 8, 13)] zy_end_L := ⟨zxY_end_L, mm_tb_1 0 (by decide +kernel) rfl, ⟨by decide, by decide⟩, by decide +kernel, mm_tb_1 1236 (by decide +kernel) rfl, mm_tb_1 1237 (by decide +kernel) rfl⟩
theorem zk_TFLaw_143 : mm_Vl "TensorForgeLaw" 143 11 1 zy_end_14_48 := ⟨zyw_end_14_48, (R_Md, F_Md, 69), rfl, mm_tb_1 2003 (by decide +kernel) rfl, mm_tb_1 2004 (by decide +kernel) rfl, mm_tb_1 2005 (by decide +kernel) rfl⟩
theorem zk_TFLaw_144 : mm_Vl "TensorForgeLaw" 144 0 0 zy_assemble_1_13 := ⟨zyw_assemble_1_13, (R_TF, F_TF, 12), rfl, mm_tb_1 556 (by decide +kernel) rfl, mm_tb_1 557 (by decide +kernel) rfl, mm_tb_1 558 (by decide +kernel) rfl⟩
theorem zk_TFLaw_147 : mm_Vl "TensorForgeLaw" 147 11 0 zy_assemble_14_55 := ⟨zyw_assemble_14_55, (R_Md, F_Md, 69), rfl, mm_tb_1 2007 (by decide +kernel) rfl, mm_tb_1 2008 (by decide +kernel) rfl, mm_tb_1 2009 (by decide +kernel) rfl⟩
theorem zhl_listing_L : mm_Hl "TensorForgeLaw" 148 4 [(0, 10, 13, 19)] zy_listing_L := ⟨zxY_listing_L, mm_tb_1 0 (by decide +kernel) rfl, ⟨by decide, by decide⟩, by decide +kernel, mm_tb_1 1244 (by decide +kernel) rfl, mm_tb_1 1245 (by decide +kernel) rfl⟩
theorem zk_TFLaw_150 : mm_Vl "TensorForgeLaw" 150 11 2 zy_listing_14_62 := ⟨zyw_listing_14_62, (R_Md, F_Md, 69), rfl, mm_tb_1 2046 (by decide +kernel) rfl, mm_tb_1 2047 (by decide +kernel) rfl, mm_tb_1 2048 (by decide +kernel) rfl⟩
theorem zk_TFLaw_151 : mm_Vl "TensorForgeLaw" 151 0 0 zy_run_1_15 := ⟨zyw_run_1_15, (R_TF, F_TF, 12), rfl, mm_tb_1 693 (by decide +kernel) rfl, mm_tb_1 694 (by decide +kernel) rfl, mm_tb_1 695 (by decide +kernel) rfl⟩
theorem zk_TFLaw_154 : mm_Vl "TensorForgeLaw" 154 11 0 zy_run_14_44 := ⟨zyw_run_14_44, (R_Md, F_Md, 69), rfl, mm_tb_1 1915 (by decide +kernel) rfl, mm_tb_1 1916 (by decide +kernel) rfl, mm_tb_1 1917 (by decide +kernel) rfl⟩
theorem zhl_stopped_L : mm_Hl "TensorForgeLaw" 155 3 [(0, 9, 12, 13)] zy_stopped_L := ⟨zxY_stopped_L, mm_tb_1 0 (by decide +kernel) rfl, ⟨by decide, by decide⟩, by decide +kernel, mm_tb_1 1304 (by decide +kernel) rfl, mm_tb_1 1305 (by decide +kernel) rfl⟩
theorem zk_TFLaw_157 : mm_Vl "TensorForgeLaw" 157 11 1 zy_stopped_14_45 := ⟨zyw_stopped_14_45, (R_Md, F_Md, 69), rfl, mm_tb_1 1989 (by decide +kernel) rfl, mm_tb_1 1990 (by decide +kernel) rfl, mm_tb_1 1991 (by decide +kernel) rfl⟩
theorem zhl_instruction_L : mm_Hl "TensorForgeLaw" 158 4 [(0, 10, 13, 58), (0, 10, 17, 19), (0, 10, 21, 13)] zy_instruction_L := ⟨zxY_instruction_L, mm_tb_1 0 (by decide +kernel) rfl, ⟨by decide, by decide⟩, by decide +kernel, mm_tb_1 1312 (by decide +kernel) rfl, mm_tb_1 1313 (by decide +kernel) rfl⟩
theorem zk_TFLaw_160 : mm_Vl "TensorForgeLaw" 160 11 2 zy_instruction_14_46 := ⟨zyw_instruction_14_46, (R_Md, F_Md, 69), rfl, mm_tb_1 1993 (by decide +kernel) rfl, mm_tb_1 1994 (by decide +kernel) rfl, mm_tb_1 1995 (by decide +kernel) rfl⟩
theorem zhl_input_L : mm_Hl "TensorForgeLaw" 161 4 [(0, 7, 10, 13)] zy_input_L := ⟨zxY_input_L, mm_tb_1 0 (by decide +kernel) rfl, ⟨by decide, by decide⟩, by decide +kernel, mm_tb_1 1343 (by decide +kernel) rfl, mm_tb_1 1344 (by decide +kernel) rfl⟩
theorem zk_TFLaw_164 : mm_Vl "TensorForgeLaw" 164 11 3 zy_input_14_63 := ⟨zyw_input_14_63, (R_Md, F_Md, 69), rfl, mm_tb_1 2073 (by decide +kernel) rfl, mm_tb_1 2074 (by decide +kernel) rfl, mm_tb_1 2075 (by decide +kernel) rfl⟩
theorem zhl_convolution_L : mm_Hl "TensorForgeLaw" 165 8 [(0, 18, 21, 19), (0, 18, 25, 13), (0, 18, 29, 29)] zy_convolution_L := ⟨zxY_convolution_L, mm_tb_1 0 (by decide +kernel) rfl, ⟨by decide, by decide⟩, by decide +kernel, mm_tb_1 1353 (by decide +kernel) rfl, mm_tb_1 1354 (by decide +kernel) rfl⟩
theorem zk_TFLaw_168 : mm_Vl "TensorForgeLaw" 168 11 6 zy_convolution_14_67 := ⟨zyw_convolution_14_67, (R_Md, F_Md, 69), rfl, mm_tb_1 2078 (by decide +kernel) rfl, mm_tb_1 2079 (by decide +kernel) rfl, mm_tb_1 2080 (by decide +kernel) rfl⟩
theorem zhl_pool_L : mm_Hl "TensorForgeLaw" 169 5 [(0, 12, 15, 19), (0, 12, 19, 13), (0, 12, 23, 29)] zy_pool_L := ⟨zxY_pool_L, mm_tb_1 0 (by decide +kernel) rfl, ⟨by decide, by decide⟩, by decide +kernel, mm_tb_1 1375 (by decide +kernel) rfl, mm_tb_1 1376 (by decide +kernel) rfl⟩
theorem zk_TFLaw_172 : mm_Vl "TensorForgeLaw" 172 11 3 zy_pool_14_69 := ⟨zyw_pool_14_69, (R_Md, F_Md, 69), rfl, mm_tb_1 2101 (by decide +kernel) rfl, mm_tb_1 2102 (by decide +kernel) rfl, mm_tb_1 2103 (by decide +kernel) rfl⟩
theorem zhl_addition_L : mm_Hl "TensorForgeLaw" 173 5 [(0, 12, 15, 19), (0, 12, 19, 13), (0, 12, 23, 29)] zy_addition_L := ⟨zxY_addition_L, mm_tb_1 0 (by decide +kernel) rfl, ⟨by decide, by decide⟩, by decide +kernel, mm_tb_1 1382 (by decide +kernel) rfl, mm_tb_1 1383 (by decide +kernel) rfl⟩
theorem zk_TFLaw_175 : mm_Vl "TensorForgeLaw" 175 11 3 zy_addition_14_70 := ⟨zyw_addition_14_70, (R_Md, F_Md, 69), rfl, mm_tb_1 2105 (by decide +kernel) rfl, mm_tb_1 2106 (by decide +kernel) rfl, mm_tb_1 2107 (by decide +kernel) rfl⟩
theorem zhl_form_L : mm_Hl "TensorForgeLaw" 176 4 [(0, 10, 13, 19), (0, 10, 17, 13)] zy_form_L := ⟨zxY_form_L, mm_tb_1 0 (by decide +kernel) rfl, ⟨by decide, by decide⟩, by decide +kernel, mm_tb_1 1389 (by decide +kernel) rfl, mm_tb_1 1390 (by decide +kernel) rfl⟩
theorem zk_TFLaw_178 : mm_Vl "TensorForgeLaw" 178 11 2 zy_form_14_71 := ⟨zyw_form_14_71, (R_Md, F_Md, 69), rfl, mm_tb_1 2109 (by decide +kernel) rfl, mm_tb_1 2110 (by decide +kernel) rfl, mm_tb_1 2111 (by decide +kernel) rfl⟩
theorem zhl_compile_L : mm_Hl "TensorForgeLaw" 179 2 [(0, 8, 11, 29)] zy_compile_L := ⟨zxY_compile_L, mm_tb_1 0 (by decide +kernel) rfl, ⟨by decide, by decide⟩, by decide +kernel, mm_tb_1 1398 (by decide +kernel) rfl, mm_tb_1 1399 (by decide +kernel) rfl⟩
theorem zk_TFLaw_182 : mm_Vl "TensorForgeLaw" 182 11 0 zy_compile_14_89 := ⟨zyw_compile_14_89, (R_Md, F_Md, 69), rfl, mm_tb_1 2133 (by decide +kernel) rfl, mm_tb_1 2134 (by decide +kernel) rfl, mm_tb_1 2135 (by decide +kernel) rfl⟩
theorem zk_TFLaw_183 : mm_Vl "TensorForgeLaw" 183 0 0 zy_reckon_1_24 := ⟨zyw_reckon_1_24, (R_TF, F_TF, 12), rfl, mm_tb_1 850 (by decide +kernel) rfl, mm_tb_1 851 (by decide +kernel) rfl, mm_tb_1 852 (by decide +kernel) rfl⟩
theorem zk_TFLaw_186 : mm_Vl "TensorForgeLaw" 186 11 0 zy_reckon_14_76 := ⟨zyw_reckon_14_76, (R_Md, F_Md, 69), rfl, mm_tb_1 2113 (by decide +kernel) rfl, mm_tb_1 2114 (by decide +kernel) rfl, mm_tb_1 2115 (by decide +kernel) rfl⟩
theorem zk_TFLaw_187 : mm_Vl "TensorForgeLaw" 187 0 0 zy_network_1_25 := ⟨zyw_network_1_25, (R_TF, F_TF, 12), rfl, mm_tb_1 908 (by decide +kernel) rfl, mm_tb_1 909 (by decide +kernel) rfl, mm_tb_1 910 (by decide +kernel) rfl⟩
theorem zk_TFLaw_190 : mm_Vl "TensorForgeLaw" 190 11 0 zy_network_14_105 := ⟨zyw_network_14_105, (R_Md, F_Md, 69), rfl, mm_tb_1 2184 (by decide +kernel) rfl, mm_tb_1 2185 (by decide +kernel) rfl, mm_tb_1 2186 (by decide +kernel) rfl⟩
theorem zhl_networkSign_L : mm_Hl "TensorForgeLaw" 191 4 [(0, 10, 13, 19)] zy_networkSign_L := ⟨zxY_networkSign_L, mm_tb_1 0 (by decide +kernel) rfl, ⟨by decide, by decide⟩, by decide +kernel, mm_tb_1 1481 (by decide +kernel) rfl, mm_tb_1 1482 (by decide +kernel) rfl⟩
theorem zk_TFLaw_193 : mm_Vl "TensorForgeLaw" 193 11 2 zy_networkSign_14_109 := ⟨zyw_networkSign_14_109, (R_Md, F_Md, 69), rfl, mm_tb_1 2257 (by decide +kernel) rfl, mm_tb_1 2258 (by decide +kernel) rfl, mm_tb_1 2259 (by decide +kernel) rfl⟩
theorem zk_TFLaw_194 : mm_Vl "TensorForgeLaw" 194 11 0 zy_thrown_14_2 := ⟨zyw_thrown_14_2, (R_Md, F_Md, 69), rfl, mm_tb_1 1820 (by decide +kernel) rfl, mm_tb_1 1821 (by decide +kernel) rfl, mm_tb_1 1822 (by decide +kernel) rfl⟩
theorem zhl_place_L : mm_Hl "TensorForgeLaw" 197 2 [(0, 8, 11, 29)] zy_place_L := ⟨zxY_place_L, mm_tb_1 0 (by decide +kernel) rfl, ⟨by decide, by decide⟩, by decide +kernel, mm_tb_1 1505 (by decide +kernel) rfl, mm_tb_1 1506 (by decide +kernel) rfl⟩
theorem zk_TFLaw_199 : mm_Vl "TensorForgeLaw" 199 11 0 zy_place_14_113 := ⟨zyw_place_14_113, (R_Md, F_Md, 69), rfl, mm_tb_1 2273 (by decide +kernel) rfl, mm_tb_1 2274 (by decide +kernel) rfl, mm_tb_1 2275 (by decide +kernel) rfl⟩
theorem zhl_under_L : mm_Hl "TensorForgeLaw" 200 4 [(0, 10, 13, 58), (0, 10, 17, 13)] zy_under_L := ⟨zxY_under_L, mm_tb_1 0 (by decide +kernel) rfl, ⟨by decide, by decide⟩, by decide +kernel, mm_tb_1 1534 (by decide +kernel) rfl, mm_tb_1 1535 (by decide +kernel) rfl⟩
theorem zk_TFLaw_202 : mm_Vl "TensorForgeLaw" 202 11 2 zy_under_14_117 := ⟨zyw_under_14_117, (R_Md, F_Md, 69), rfl, mm_tb_1 2293 (by decide +kernel) rfl, mm_tb_1 2294 (by decide +kernel) rfl, mm_tb_1 2295 (by decide +kernel) rfl⟩
theorem zhl_waits_L : mm_Hl "TensorForgeLaw" 203 4 [(0, 10, 13, 58), (0, 10, 17, 13)] zy_waits_L := ⟨zxY_waits_L, mm_tb_1 0 (by decide +kernel) rfl, ⟨by decide, by decide⟩, by decide +kernel, mm_tb_1 1558 (by decide +kernel) rfl, mm_tb_1 1559 (by decide +kernel) rfl⟩
theorem zk_TFLaw_205 : mm_Vl "TensorForgeLaw" 205 11 2 zy_waits_14_119 := ⟨zyw_waits_14_119, (R_Md, F_Md, 69), rfl, mm_tb_1 2305 (by decide +kernel) rfl, mm_tb_1 2306 (by decide +kernel) rfl, mm_tb_1 2307 (by decide +kernel) rfl⟩
theorem zd_L_law_23 : zz_D zy_law_L 23 (.iload 4) 2 25 := ⟨by decide +kernel, rfl⟩
theorem zd_L_law_25 : zz_D zy_law_L 25 (.aload_n 0) 1 26 := ⟨by decide +kernel, rfl⟩
theorem zd_L_law_26 : zz_D zy_law_L 26 (.arraylength) 1 27 := ⟨by decide +kernel, rfl⟩
theorem zd_L_law_27 : zz_D zy_law_L 27 (.bipush 7) 2 29 := ⟨by decide +kernel, rfl⟩
theorem zd_L_law_29 : zz_D zy_law_L 29 (.isub) 1 30 := ⟨by decide +kernel, rfl⟩
theorem zd_L_law_30 : zz_B zy_law_L 30 (Instr.if_icmp .gt) 1214 33 := ⟨1184, by decide +kernel, rfl, rfl⟩
theorem zd_L_law_1214 : zz_D zy_law_L 1214 (.iconst 1) 1 1215 := ⟨by decide +kernel, rfl⟩
theorem zd_L_law_1215 : zz_D zy_law_L 1215 (.ireturn) 1 1216 := ⟨by decide +kernel, rfl⟩
theorem zd_L_law_33 : zz_D zy_law_L 33 (.aload_n 0) 1 34 := ⟨by decide +kernel, rfl⟩
theorem zd_L_law_34 : zz_D zy_law_L 34 (.iload 4) 2 36 := ⟨by decide +kernel, rfl⟩
theorem zd_L_law_36 : zz_D zy_law_L 36 (.iaload) 1 37 := ⟨by decide +kernel, rfl⟩
theorem zd_L_law_37 : zz_D zy_law_L 37 (.bipush 31) 2 39 := ⟨by decide +kernel, rfl⟩
theorem zd_L_law_39 : zz_D zy_law_L 39 (.iand) 1 40 := ⟨by decide +kernel, rfl⟩
theorem zd_L_law_168 : zz_D zy_law_L 168 (.aload_n 1) 1 169 := ⟨by decide +kernel, rfl⟩
theorem zd_L_law_169 : zz_D zy_law_L 169 (.aload_n 0) 1 170 := ⟨by decide +kernel, rfl⟩
theorem zd_L_law_170 : zz_D zy_law_L 170 (.iload 4) 2 172 := ⟨by decide +kernel, rfl⟩
theorem zd_L_law_172 : zz_D zy_law_L 172 (.iconst 1) 1 173 := ⟨by decide +kernel, rfl⟩
theorem zd_L_law_173 : zz_D zy_law_L 173 (.iadd) 1 174 := ⟨by decide +kernel, rfl⟩
theorem zd_L_law_174 : zz_D zy_law_L 174 (.iaload) 1 175 := ⟨by decide +kernel, rfl⟩
theorem zd_L_law_175 : zz_D zy_law_L 175 (.invokestatic 98) 3 178 := ⟨by decide +kernel, rfl⟩
theorem zd_L_law_178 : zz_D zy_law_L 178 (.istore 5) 2 180 := ⟨by decide +kernel, rfl⟩
theorem zd_L_law_180 : zz_D zy_law_L 180 (.aload_n 2) 1 181 := ⟨by decide +kernel, rfl⟩
theorem zd_L_law_181 : zz_D zy_law_L 181 (.aload_n 0) 1 182 := ⟨by decide +kernel, rfl⟩
theorem zd_L_law_182 : zz_D zy_law_L 182 (.iload 4) 2 184 := ⟨by decide +kernel, rfl⟩
theorem zd_L_law_184 : zz_D zy_law_L 184 (.iconst 1) 1 185 := ⟨by decide +kernel, rfl⟩
theorem zd_L_law_185 : zz_D zy_law_L 185 (.iadd) 1 186 := ⟨by decide +kernel, rfl⟩
theorem zd_L_law_186 : zz_D zy_law_L 186 (.iaload) 1 187 := ⟨by decide +kernel, rfl⟩
theorem zd_L_law_187 : zz_D zy_law_L 187 (.invokevirtual 103) 3 190 := ⟨by decide +kernel, rfl⟩
theorem zd_L_law_190 : zz_B zy_law_L 190 Instr.goto 1208 193 := ⟨1018, by decide +kernel, rfl, rfl⟩
theorem zd_L_law_1208 : zz_D zy_law_L 1208 (.iinc 4 7) 3 1211 := ⟨by decide +kernel, rfl⟩
theorem zd_L_law_1211 : zz_B zy_law_L 1211 Instr.goto 23 1214 := ⟨(-1188), by decide +kernel, rfl, rfl⟩
theorem zd_L_law_193 : zz_D zy_law_L 193 (.aload_n 1) 1 194 := ⟨by decide +kernel, rfl⟩
theorem zd_L_law_194 : zz_D zy_law_L 194 (.aload_n 0) 1 195 := ⟨by decide +kernel, rfl⟩
theorem zd_L_law_195 : zz_D zy_law_L 195 (.iload 4) 2 197 := ⟨by decide +kernel, rfl⟩
theorem zd_L_law_197 : zz_D zy_law_L 197 (.iconst 1) 1 198 := ⟨by decide +kernel, rfl⟩
theorem zd_L_law_198 : zz_D zy_law_L 198 (.iadd) 1 199 := ⟨by decide +kernel, rfl⟩
theorem zd_L_law_199 : zz_D zy_law_L 199 (.iaload) 1 200 := ⟨by decide +kernel, rfl⟩
theorem zd_L_law_200 : zz_D zy_law_L 200 (.aload_n 0) 1 201 := ⟨by decide +kernel, rfl⟩
theorem zd_L_law_201 : zz_D zy_law_L 201 (.iload 4) 2 203 := ⟨by decide +kernel, rfl⟩
theorem zd_L_law_203 : zz_D zy_law_L 203 (.iconst 2) 1 204 := ⟨by decide +kernel, rfl⟩
theorem zd_L_law_204 : zz_D zy_law_L 204 (.iadd) 1 205 := ⟨by decide +kernel, rfl⟩
theorem zd_L_law_205 : zz_D zy_law_L 205 (.iaload) 1 206 := ⟨by decide +kernel, rfl⟩
theorem zd_L_law_206 : zz_D zy_law_L 206 (.invokestatic 104) 3 209 := ⟨by decide +kernel, rfl⟩
theorem zd_L_law_209 : zz_D zy_law_L 209 (.istore 5) 2 211 := ⟨by decide +kernel, rfl⟩
theorem zd_L_law_211 : zz_D zy_law_L 211 (.aload_n 2) 1 212 := ⟨by decide +kernel, rfl⟩
theorem zd_L_law_212 : zz_D zy_law_L 212 (.aload_n 0) 1 213 := ⟨by decide +kernel, rfl⟩
theorem zd_L_law_213 : zz_D zy_law_L 213 (.iload 4) 2 215 := ⟨by decide +kernel, rfl⟩
theorem zd_L_law_215 : zz_D zy_law_L 215 (.iconst 1) 1 216 := ⟨by decide +kernel, rfl⟩
theorem zd_L_law_216 : zz_D zy_law_L 216 (.iadd) 1 217 := ⟨by decide +kernel, rfl⟩
theorem zd_L_law_217 : zz_D zy_law_L 217 (.iaload) 1 218 := ⟨by decide +kernel, rfl⟩
theorem zd_L_law_218 : zz_D zy_law_L 218 (.aload_n 0) 1 219 := ⟨by decide +kernel, rfl⟩
theorem zd_L_law_219 : zz_D zy_law_L 219 (.iload 4) 2 221 := ⟨by decide +kernel, rfl⟩
theorem zd_L_law_221 : zz_D zy_law_L 221 (.iconst 2) 1 222 := ⟨by decide +kernel, rfl⟩
theorem zd_L_law_222 : zz_D zy_law_L 222 (.iadd) 1 223 := ⟨by decide +kernel, rfl⟩
theorem zd_L_law_223 : zz_D zy_law_L 223 (.iaload) 1 224 := ⟨by decide +kernel, rfl⟩
theorem zd_L_law_224 : zz_D zy_law_L 224 (.invokevirtual 107) 3 227 := ⟨by decide +kernel, rfl⟩
theorem zd_L_law_227 : zz_B zy_law_L 227 Instr.goto 1208 230 := ⟨981, by decide +kernel, rfl, rfl⟩
theorem zd_L_law_230 : zz_D zy_law_L 230 (.aload_n 1) 1 231 := ⟨by decide +kernel, rfl⟩
theorem zd_L_law_231 : zz_D zy_law_L 231 (.aload_n 0) 1 232 := ⟨by decide +kernel, rfl⟩
theorem zd_L_law_232 : zz_D zy_law_L 232 (.iload 4) 2 234 := ⟨by decide +kernel, rfl⟩
theorem zd_L_law_234 : zz_D zy_law_L 234 (.iconst 1) 1 235 := ⟨by decide +kernel, rfl⟩
theorem zd_L_law_235 : zz_D zy_law_L 235 (.iadd) 1 236 := ⟨by decide +kernel, rfl⟩
theorem zd_L_law_236 : zz_D zy_law_L 236 (.iaload) 1 237 := ⟨by decide +kernel, rfl⟩
theorem zd_L_law_237 : zz_D zy_law_L 237 (.aload_n 0) 1 238 := ⟨by decide +kernel, rfl⟩
theorem zd_L_law_238 : zz_D zy_law_L 238 (.iload 4) 2 240 := ⟨by decide +kernel, rfl⟩
theorem zd_L_law_240 : zz_D zy_law_L 240 (.iconst 2) 1 241 := ⟨by decide +kernel, rfl⟩
theorem zd_L_law_241 : zz_D zy_law_L 241 (.iadd) 1 242 := ⟨by decide +kernel, rfl⟩
theorem zd_L_law_242 : zz_D zy_law_L 242 (.iaload) 1 243 := ⟨by decide +kernel, rfl⟩
theorem zd_L_law_243 : zz_D zy_law_L 243 (.aload_n 3) 1 244 := ⟨by decide +kernel, rfl⟩
theorem zd_L_law_244 : zz_D zy_law_L 244 (.invokestatic 108) 3 247 := ⟨by decide +kernel, rfl⟩
theorem zd_L_law_247 : zz_D zy_law_L 247 (.istore 5) 2 249 := ⟨by decide +kernel, rfl⟩
theorem zd_L_law_249 : zz_D zy_law_L 249 (.aload_n 2) 1 250 := ⟨by decide +kernel, rfl⟩
theorem zd_L_law_250 : zz_D zy_law_L 250 (.aload_n 0) 1 251 := ⟨by decide +kernel, rfl⟩
theorem zd_L_law_251 : zz_D zy_law_L 251 (.iload 4) 2 253 := ⟨by decide +kernel, rfl⟩
theorem zd_L_law_253 : zz_D zy_law_L 253 (.iconst 1) 1 254 := ⟨by decide +kernel, rfl⟩
theorem zd_L_law_254 : zz_D zy_law_L 254 (.iadd) 1 255 := ⟨by decide +kernel, rfl⟩
theorem zd_L_law_255 : zz_D zy_law_L 255 (.iaload) 1 256 := ⟨by decide +kernel, rfl⟩
theorem zd_L_law_256 : zz_D zy_law_L 256 (.aload_n 0) 1 257 := ⟨by decide +kernel, rfl⟩
theorem zd_L_law_257 : zz_D zy_law_L 257 (.iload 4) 2 259 := ⟨by decide +kernel, rfl⟩
theorem zd_L_law_259 : zz_D zy_law_L 259 (.iconst 2) 1 260 := ⟨by decide +kernel, rfl⟩
theorem zd_L_law_260 : zz_D zy_law_L 260 (.iadd) 1 261 := ⟨by decide +kernel, rfl⟩
theorem zd_L_law_261 : zz_D zy_law_L 261 (.iaload) 1 262 := ⟨by decide +kernel, rfl⟩
theorem zd_L_law_262 : zz_D zy_law_L 262 (.invokevirtual 111) 3 265 := ⟨by decide +kernel, rfl⟩
theorem zd_L_law_265 : zz_D zy_law_L 265 (.istore 6) 2 267 := ⟨by decide +kernel, rfl⟩
theorem zd_L_law_267 : zz_B zy_law_L 267 Instr.goto 1208 270 := ⟨941, by decide +kernel, rfl, rfl⟩
theorem zd_L_law_270 : zz_D zy_law_L 270 (.aload_n 1) 1 271 := ⟨by decide +kernel, rfl⟩
theorem zd_L_law_271 : zz_D zy_law_L 271 (.aload_n 0) 1 272 := ⟨by decide +kernel, rfl⟩
theorem zd_L_law_272 : zz_D zy_law_L 272 (.iload 4) 2 274 := ⟨by decide +kernel, rfl⟩
theorem zd_L_law_274 : zz_D zy_law_L 274 (.iconst 1) 1 275 := ⟨by decide +kernel, rfl⟩
theorem zd_L_law_275 : zz_D zy_law_L 275 (.iadd) 1 276 := ⟨by decide +kernel, rfl⟩
theorem zd_L_law_276 : zz_D zy_law_L 276 (.iaload) 1 277 := ⟨by decide +kernel, rfl⟩
theorem zd_L_law_277 : zz_D zy_law_L 277 (.aload_n 0) 1 278 := ⟨by decide +kernel, rfl⟩
theorem zd_L_law_278 : zz_D zy_law_L 278 (.iload 4) 2 280 := ⟨by decide +kernel, rfl⟩
theorem zd_L_law_280 : zz_D zy_law_L 280 (.iconst 2) 1 281 := ⟨by decide +kernel, rfl⟩
theorem zd_L_law_281 : zz_D zy_law_L 281 (.iadd) 1 282 := ⟨by decide +kernel, rfl⟩
theorem zd_L_law_282 : zz_D zy_law_L 282 (.iaload) 1 283 := ⟨by decide +kernel, rfl⟩
theorem zd_L_law_283 : zz_D zy_law_L 283 (.i2l) 1 284 := ⟨by decide +kernel, rfl⟩
theorem zd_L_law_284 : zz_D zy_law_L 284 (.bipush 32) 2 286 := ⟨by decide +kernel, rfl⟩
theorem zd_L_law_286 : zz_D zy_law_L 286 (.lshl) 1 287 := ⟨by decide +kernel, rfl⟩
theorem zd_L_law_287 : zz_D zy_law_L 287 (.aload_n 0) 1 288 := ⟨by decide +kernel, rfl⟩
theorem zd_L_law_288 : zz_D zy_law_L 288 (.iload 4) 2 290 := ⟨by decide +kernel, rfl⟩
theorem zd_L_law_290 : zz_D zy_law_L 290 (.iconst 3) 1 291 := ⟨by decide +kernel, rfl⟩
theorem zd_L_law_291 : zz_D zy_law_L 291 (.iadd) 1 292 := ⟨by decide +kernel, rfl⟩
theorem zd_L_law_292 : zz_D zy_law_L 292 (.iaload) 1 293 := ⟨by decide +kernel, rfl⟩
theorem zd_L_law_293 : zz_D zy_law_L 293 (.i2l) 1 294 := ⟨by decide +kernel, rfl⟩
theorem zd_L_law_294 : zz_D zy_law_L 294 (.ldc2_w 112) 3 297 := ⟨by decide +kernel, rfl⟩
theorem zd_L_law_297 : zz_D zy_law_L 297 (.land) 1 298 := ⟨by decide +kernel, rfl⟩
theorem zd_L_law_298 : zz_D zy_law_L 298 (.lor) 1 299 := ⟨by decide +kernel, rfl⟩
theorem zd_L_law_299 : zz_D zy_law_L 299 (.invokestatic 114) 3 302 := ⟨by decide +kernel, rfl⟩
theorem zd_L_law_302 : zz_D zy_law_L 302 (.istore 5) 2 304 := ⟨by decide +kernel, rfl⟩
theorem zd_L_law_304 : zz_D zy_law_L 304 (.aload_n 2) 1 305 := ⟨by decide +kernel, rfl⟩
theorem zd_L_law_305 : zz_D zy_law_L 305 (.aload_n 0) 1 306 := ⟨by decide +kernel, rfl⟩
theorem zd_L_law_306 : zz_D zy_law_L 306 (.iload 4) 2 308 := ⟨by decide +kernel, rfl⟩
theorem zd_L_law_308 : zz_D zy_law_L 308 (.iconst 1) 1 309 := ⟨by decide +kernel, rfl⟩
theorem zd_L_law_309 : zz_D zy_law_L 309 (.iadd) 1 310 := ⟨by decide +kernel, rfl⟩
theorem zd_L_law_310 : zz_D zy_law_L 310 (.iaload) 1 311 := ⟨by decide +kernel, rfl⟩
theorem zd_L_law_311 : zz_D zy_law_L 311 (.aload_n 0) 1 312 := ⟨by decide +kernel, rfl⟩
theorem zd_L_law_312 : zz_D zy_law_L 312 (.iload 4) 2 314 := ⟨by decide +kernel, rfl⟩
theorem zd_L_law_314 : zz_D zy_law_L 314 (.iconst 2) 1 315 := ⟨by decide +kernel, rfl⟩
theorem zd_L_law_315 : zz_D zy_law_L 315 (.iadd) 1 316 := ⟨by decide +kernel, rfl⟩
theorem zd_L_law_316 : zz_D zy_law_L 316 (.iaload) 1 317 := ⟨by decide +kernel, rfl⟩
theorem zd_L_law_317 : zz_D zy_law_L 317 (.i2l) 1 318 := ⟨by decide +kernel, rfl⟩
theorem zd_L_law_318 : zz_D zy_law_L 318 (.bipush 32) 2 320 := ⟨by decide +kernel, rfl⟩
theorem zd_L_law_320 : zz_D zy_law_L 320 (.lshl) 1 321 := ⟨by decide +kernel, rfl⟩
theorem zd_L_law_321 : zz_D zy_law_L 321 (.aload_n 0) 1 322 := ⟨by decide +kernel, rfl⟩
theorem zd_L_law_322 : zz_D zy_law_L 322 (.iload 4) 2 324 := ⟨by decide +kernel, rfl⟩
theorem zd_L_law_324 : zz_D zy_law_L 324 (.iconst 3) 1 325 := ⟨by decide +kernel, rfl⟩
theorem zd_L_law_325 : zz_D zy_law_L 325 (.iadd) 1 326 := ⟨by decide +kernel, rfl⟩
theorem zd_L_law_326 : zz_D zy_law_L 326 (.iaload) 1 327 := ⟨by decide +kernel, rfl⟩
theorem zd_L_law_327 : zz_D zy_law_L 327 (.i2l) 1 328 := ⟨by decide +kernel, rfl⟩
theorem zd_L_law_328 : zz_D zy_law_L 328 (.ldc2_w 112) 3 331 := ⟨by decide +kernel, rfl⟩
theorem zd_L_law_331 : zz_D zy_law_L 331 (.land) 1 332 := ⟨by decide +kernel, rfl⟩
theorem zd_L_law_332 : zz_D zy_law_L 332 (.lor) 1 333 := ⟨by decide +kernel, rfl⟩
theorem zd_L_law_333 : zz_D zy_law_L 333 (.invokevirtual 117) 3 336 := ⟨by decide +kernel, rfl⟩
theorem zd_L_law_336 : zz_B zy_law_L 336 Instr.goto 1208 339 := ⟨872, by decide +kernel, rfl, rfl⟩
theorem zd_L_law_339 : zz_D zy_law_L 339 (.aload_n 1) 1 340 := ⟨by decide +kernel, rfl⟩
theorem zd_L_law_340 : zz_D zy_law_L 340 (.aload_n 0) 1 341 := ⟨by decide +kernel, rfl⟩
theorem zd_L_law_341 : zz_D zy_law_L 341 (.iload 4) 2 343 := ⟨by decide +kernel, rfl⟩
theorem zd_L_law_343 : zz_D zy_law_L 343 (.iconst 1) 1 344 := ⟨by decide +kernel, rfl⟩
theorem zd_L_law_344 : zz_D zy_law_L 344 (.iadd) 1 345 := ⟨by decide +kernel, rfl⟩
theorem zd_L_law_345 : zz_D zy_law_L 345 (.iaload) 1 346 := ⟨by decide +kernel, rfl⟩
theorem zd_L_law_346 : zz_D zy_law_L 346 (.invokestatic 118) 3 349 := ⟨by decide +kernel, rfl⟩
theorem zd_L_law_349 : zz_D zy_law_L 349 (.istore 5) 2 351 := ⟨by decide +kernel, rfl⟩
theorem zd_L_law_351 : zz_D zy_law_L 351 (.aload_n 2) 1 352 := ⟨by decide +kernel, rfl⟩
theorem zd_L_law_352 : zz_D zy_law_L 352 (.aload_n 0) 1 353 := ⟨by decide +kernel, rfl⟩
theorem zd_L_law_353 : zz_D zy_law_L 353 (.iload 4) 2 355 := ⟨by decide +kernel, rfl⟩
theorem zd_L_law_355 : zz_D zy_law_L 355 (.iconst 1) 1 356 := ⟨by decide +kernel, rfl⟩
theorem zd_L_law_356 : zz_D zy_law_L 356 (.iadd) 1 357 := ⟨by decide +kernel, rfl⟩
theorem zd_L_law_357 : zz_D zy_law_L 357 (.iaload) 1 358 := ⟨by decide +kernel, rfl⟩
theorem zd_L_law_358 : zz_D zy_law_L 358 (.invokevirtual 120) 3 361 := ⟨by decide +kernel, rfl⟩
theorem zd_L_law_361 : zz_B zy_law_L 361 Instr.goto 1208 364 := ⟨847, by decide +kernel, rfl, rfl⟩
theorem zd_L_law_364 : zz_D zy_law_L 364 (.aload_n 1) 1 365 := ⟨by decide +kernel, rfl⟩
theorem zd_L_law_365 : zz_D zy_law_L 365 (.aload_n 0) 1 366 := ⟨by decide +kernel, rfl⟩
theorem zd_L_law_366 : zz_D zy_law_L 366 (.iload 4) 2 368 := ⟨by decide +kernel, rfl⟩
theorem zd_L_law_368 : zz_D zy_law_L 368 (.iconst 1) 1 369 := ⟨by decide +kernel, rfl⟩
theorem zd_L_law_369 : zz_D zy_law_L 369 (.iadd) 1 370 := ⟨by decide +kernel, rfl⟩
theorem zd_L_law_370 : zz_D zy_law_L 370 (.iaload) 1 371 := ⟨by decide +kernel, rfl⟩
theorem zd_L_law_371 : zz_D zy_law_L 371 (.aload_n 3) 1 372 := ⟨by decide +kernel, rfl⟩
theorem zd_L_law_372 : zz_D zy_law_L 372 (.invokestatic 121) 3 375 := ⟨by decide +kernel, rfl⟩
theorem zd_L_law_375 : zz_D zy_law_L 375 (.istore 5) 2 377 := ⟨by decide +kernel, rfl⟩
theorem zd_L_law_377 : zz_D zy_law_L 377 (.aload_n 2) 1 378 := ⟨by decide +kernel, rfl⟩
theorem zd_L_law_378 : zz_D zy_law_L 378 (.aload_n 0) 1 379 := ⟨by decide +kernel, rfl⟩
theorem zd_L_law_379 : zz_D zy_law_L 379 (.iload 4) 2 381 := ⟨by decide +kernel, rfl⟩
theorem zd_L_law_381 : zz_D zy_law_L 381 (.iconst 1) 1 382 := ⟨by decide +kernel, rfl⟩
theorem zd_L_law_382 : zz_D zy_law_L 382 (.iadd) 1 383 := ⟨by decide +kernel, rfl⟩
theorem zd_L_law_383 : zz_D zy_law_L 383 (.iaload) 1 384 := ⟨by decide +kernel, rfl⟩
theorem zd_L_law_384 : zz_D zy_law_L 384 (.invokevirtual 124) 3 387 := ⟨by decide +kernel, rfl⟩
theorem zd_L_law_387 : zz_D zy_law_L 387 (.lstore 6) 2 389 := ⟨by decide +kernel, rfl⟩
theorem zd_L_law_389 : zz_B zy_law_L 389 Instr.goto 1208 392 := ⟨819, by decide +kernel, rfl, rfl⟩
theorem zd_L_law_392 : zz_D zy_law_L 392 (.aload_n 1) 1 393 := ⟨by decide +kernel, rfl⟩
theorem zd_L_law_393 : zz_D zy_law_L 393 (.invokevirtual 125) 3 396 := ⟨by decide +kernel, rfl⟩
theorem zd_L_law_396 : zz_D zy_law_L 396 (.pop) 1 397 := ⟨by decide +kernel, rfl⟩
theorem zd_L_law_397 : zz_D zy_law_L 397 (.aload_n 2) 1 398 := ⟨by decide +kernel, rfl⟩
theorem zd_L_law_398 : zz_D zy_law_L 398 (.invokevirtual 128) 3 401 := ⟨by decide +kernel, rfl⟩
theorem zd_L_law_401 : zz_D zy_law_L 401 (.pop) 1 402 := ⟨by decide +kernel, rfl⟩
theorem zd_L_law_402 : zz_B zy_law_L 402 Instr.goto 1208 405 := ⟨806, by decide +kernel, rfl, rfl⟩
theorem zd_L_law_405 : zz_D zy_law_L 405 (.aload_n 1) 1 406 := ⟨by decide +kernel, rfl⟩
theorem zd_L_law_406 : zz_D zy_law_L 406 (.aload_n 0) 1 407 := ⟨by decide +kernel, rfl⟩
theorem zd_L_law_407 : zz_D zy_law_L 407 (.iload 4) 2 409 := ⟨by decide +kernel, rfl⟩
theorem zd_L_law_409 : zz_D zy_law_L 409 (.iconst 1) 1 410 := ⟨by decide +kernel, rfl⟩
theorem zd_L_law_410 : zz_D zy_law_L 410 (.iadd) 1 411 := ⟨by decide +kernel, rfl⟩
theorem zd_L_law_411 : zz_D zy_law_L 411 (.iaload) 1 412 := ⟨by decide +kernel, rfl⟩
theorem zd_L_law_412 : zz_D zy_law_L 412 (.i2l) 1 413 := ⟨by decide +kernel, rfl⟩
theorem zd_L_law_413 : zz_D zy_law_L 413 (.bipush 32) 2 415 := ⟨by decide +kernel, rfl⟩
theorem zd_L_law_415 : zz_D zy_law_L 415 (.lshl) 1 416 := ⟨by decide +kernel, rfl⟩
theorem zd_L_law_416 : zz_D zy_law_L 416 (.aload_n 0) 1 417 := ⟨by decide +kernel, rfl⟩
theorem zd_L_law_417 : zz_D zy_law_L 417 (.iload 4) 2 419 := ⟨by decide +kernel, rfl⟩
theorem zd_L_law_419 : zz_D zy_law_L 419 (.iconst 2) 1 420 := ⟨by decide +kernel, rfl⟩
theorem zd_L_law_420 : zz_D zy_law_L 420 (.iadd) 1 421 := ⟨by decide +kernel, rfl⟩
theorem zd_L_law_421 : zz_D zy_law_L 421 (.iaload) 1 422 := ⟨by decide +kernel, rfl⟩
theorem zd_L_law_422 : zz_D zy_law_L 422 (.i2l) 1 423 := ⟨by decide +kernel, rfl⟩
theorem zd_L_law_423 : zz_D zy_law_L 423 (.ldc2_w 112) 3 426 := ⟨by decide +kernel, rfl⟩
theorem zd_L_law_426 : zz_D zy_law_L 426 (.land) 1 427 := ⟨by decide +kernel, rfl⟩
theorem zd_L_law_427 : zz_D zy_law_L 427 (.lor) 1 428 := ⟨by decide +kernel, rfl⟩
theorem zd_L_law_428 : zz_D zy_law_L 428 (.aload_n 0) 1 429 := ⟨by decide +kernel, rfl⟩
theorem zd_L_law_429 : zz_D zy_law_L 429 (.iload 4) 2 431 := ⟨by decide +kernel, rfl⟩
theorem zd_L_law_431 : zz_D zy_law_L 431 (.iconst 3) 1 432 := ⟨by decide +kernel, rfl⟩
theorem zd_L_law_432 : zz_D zy_law_L 432 (.iadd) 1 433 := ⟨by decide +kernel, rfl⟩
theorem zd_L_law_433 : zz_D zy_law_L 433 (.iaload) 1 434 := ⟨by decide +kernel, rfl⟩
theorem zd_L_law_434 : zz_D zy_law_L 434 (.aload_n 3) 1 435 := ⟨by decide +kernel, rfl⟩
theorem zd_L_law_435 : zz_D zy_law_L 435 (.invokestatic 129) 3 438 := ⟨by decide +kernel, rfl⟩
theorem zd_L_law_438 : zz_D zy_law_L 438 (.istore 5) 2 440 := ⟨by decide +kernel, rfl⟩
theorem zd_L_law_440 : zz_D zy_law_L 440 (.aload_n 2) 1 441 := ⟨by decide +kernel, rfl⟩
theorem zd_L_law_441 : zz_D zy_law_L 441 (.aload_n 0) 1 442 := ⟨by decide +kernel, rfl⟩
theorem zd_L_law_442 : zz_D zy_law_L 442 (.iload 4) 2 444 := ⟨by decide +kernel, rfl⟩
theorem zd_L_law_444 : zz_D zy_law_L 444 (.iconst 1) 1 445 := ⟨by decide +kernel, rfl⟩
theorem zd_L_law_445 : zz_D zy_law_L 445 (.iadd) 1 446 := ⟨by decide +kernel, rfl⟩
theorem zd_L_law_446 : zz_D zy_law_L 446 (.iaload) 1 447 := ⟨by decide +kernel, rfl⟩
theorem zd_L_law_447 : zz_D zy_law_L 447 (.i2l) 1 448 := ⟨by decide +kernel, rfl⟩
theorem zd_L_law_448 : zz_D zy_law_L 448 (.bipush 32) 2 450 := ⟨by decide +kernel, rfl⟩
theorem zd_L_law_450 : zz_D zy_law_L 450 (.lshl) 1 451 := ⟨by decide +kernel, rfl⟩
theorem zd_L_law_451 : zz_D zy_law_L 451 (.aload_n 0) 1 452 := ⟨by decide +kernel, rfl⟩
theorem zd_L_law_452 : zz_D zy_law_L 452 (.iload 4) 2 454 := ⟨by decide +kernel, rfl⟩
theorem zd_L_law_454 : zz_D zy_law_L 454 (.iconst 2) 1 455 := ⟨by decide +kernel, rfl⟩
theorem zd_L_law_455 : zz_D zy_law_L 455 (.iadd) 1 456 := ⟨by decide +kernel, rfl⟩
theorem zd_L_law_456 : zz_D zy_law_L 456 (.iaload) 1 457 := ⟨by decide +kernel, rfl⟩
theorem zd_L_law_457 : zz_D zy_law_L 457 (.i2l) 1 458 := ⟨by decide +kernel, rfl⟩
theorem zd_L_law_458 : zz_D zy_law_L 458 (.ldc2_w 112) 3 461 := ⟨by decide +kernel, rfl⟩
theorem zd_L_law_461 : zz_D zy_law_L 461 (.land) 1 462 := ⟨by decide +kernel, rfl⟩
theorem zd_L_law_462 : zz_D zy_law_L 462 (.lor) 1 463 := ⟨by decide +kernel, rfl⟩
theorem zd_L_law_463 : zz_D zy_law_L 463 (.aload_n 0) 1 464 := ⟨by decide +kernel, rfl⟩
theorem zd_L_law_464 : zz_D zy_law_L 464 (.iload 4) 2 466 := ⟨by decide +kernel, rfl⟩
theorem zd_L_law_466 : zz_D zy_law_L 466 (.iconst 3) 1 467 := ⟨by decide +kernel, rfl⟩
theorem zd_L_law_467 : zz_D zy_law_L 467 (.iadd) 1 468 := ⟨by decide +kernel, rfl⟩
theorem zd_L_law_468 : zz_D zy_law_L 468 (.iaload) 1 469 := ⟨by decide +kernel, rfl⟩
theorem zd_L_law_469 : zz_D zy_law_L 469 (.invokevirtual 132) 3 472 := ⟨by decide +kernel, rfl⟩
theorem zd_L_law_472 : zz_D zy_law_L 472 (.istore 6) 2 474 := ⟨by decide +kernel, rfl⟩
theorem zd_L_law_474 : zz_B zy_law_L 474 Instr.goto 1208 477 := ⟨734, by decide +kernel, rfl, rfl⟩
theorem zd_L_law_477 : zz_D zy_law_L 477 (.aload_n 1) 1 478 := ⟨by decide +kernel, rfl⟩
theorem zd_L_law_478 : zz_D zy_law_L 478 (.aload_n 0) 1 479 := ⟨by decide +kernel, rfl⟩
theorem zd_L_law_479 : zz_D zy_law_L 479 (.iload 4) 2 481 := ⟨by decide +kernel, rfl⟩
theorem zd_L_law_481 : zz_D zy_law_L 481 (.iconst 1) 1 482 := ⟨by decide +kernel, rfl⟩
theorem zd_L_law_482 : zz_D zy_law_L 482 (.iadd) 1 483 := ⟨by decide +kernel, rfl⟩
theorem zd_L_law_483 : zz_D zy_law_L 483 (.iaload) 1 484 := ⟨by decide +kernel, rfl⟩
theorem zd_L_law_484 : zz_D zy_law_L 484 (.i2l) 1 485 := ⟨by decide +kernel, rfl⟩
theorem zd_L_law_485 : zz_D zy_law_L 485 (.bipush 32) 2 487 := ⟨by decide +kernel, rfl⟩
theorem zd_L_law_487 : zz_D zy_law_L 487 (.lshl) 1 488 := ⟨by decide +kernel, rfl⟩
theorem zd_L_law_488 : zz_D zy_law_L 488 (.aload_n 0) 1 489 := ⟨by decide +kernel, rfl⟩
theorem zd_L_law_489 : zz_D zy_law_L 489 (.iload 4) 2 491 := ⟨by decide +kernel, rfl⟩
theorem zd_L_law_491 : zz_D zy_law_L 491 (.iconst 2) 1 492 := ⟨by decide +kernel, rfl⟩
theorem zd_L_law_492 : zz_D zy_law_L 492 (.iadd) 1 493 := ⟨by decide +kernel, rfl⟩
theorem zd_L_law_493 : zz_D zy_law_L 493 (.iaload) 1 494 := ⟨by decide +kernel, rfl⟩
theorem zd_L_law_494 : zz_D zy_law_L 494 (.i2l) 1 495 := ⟨by decide +kernel, rfl⟩
theorem zd_L_law_495 : zz_D zy_law_L 495 (.ldc2_w 112) 3 498 := ⟨by decide +kernel, rfl⟩
theorem zd_L_law_498 : zz_D zy_law_L 498 (.land) 1 499 := ⟨by decide +kernel, rfl⟩
theorem zd_L_law_499 : zz_D zy_law_L 499 (.lor) 1 500 := ⟨by decide +kernel, rfl⟩
theorem zd_L_law_500 : zz_D zy_law_L 500 (.invokevirtual 133) 3 503 := ⟨by decide +kernel, rfl⟩
theorem zd_L_law_503 : zz_D zy_law_L 503 (.pop) 1 504 := ⟨by decide +kernel, rfl⟩
theorem zd_L_law_504 : zz_D zy_law_L 504 (.aload_n 2) 1 505 := ⟨by decide +kernel, rfl⟩
theorem zd_L_law_505 : zz_D zy_law_L 505 (.aload_n 0) 1 506 := ⟨by decide +kernel, rfl⟩
theorem zd_L_law_506 : zz_D zy_law_L 506 (.iload 4) 2 508 := ⟨by decide +kernel, rfl⟩
theorem zd_L_law_508 : zz_D zy_law_L 508 (.iconst 1) 1 509 := ⟨by decide +kernel, rfl⟩
theorem zd_L_law_509 : zz_D zy_law_L 509 (.iadd) 1 510 := ⟨by decide +kernel, rfl⟩
theorem zd_L_law_510 : zz_D zy_law_L 510 (.iaload) 1 511 := ⟨by decide +kernel, rfl⟩
theorem zd_L_law_511 : zz_D zy_law_L 511 (.i2l) 1 512 := ⟨by decide +kernel, rfl⟩
theorem zd_L_law_512 : zz_D zy_law_L 512 (.bipush 32) 2 514 := ⟨by decide +kernel, rfl⟩
theorem zd_L_law_514 : zz_D zy_law_L 514 (.lshl) 1 515 := ⟨by decide +kernel, rfl⟩
theorem zd_L_law_515 : zz_D zy_law_L 515 (.aload_n 0) 1 516 := ⟨by decide +kernel, rfl⟩
theorem zd_L_law_516 : zz_D zy_law_L 516 (.iload 4) 2 518 := ⟨by decide +kernel, rfl⟩
theorem zd_L_law_518 : zz_D zy_law_L 518 (.iconst 2) 1 519 := ⟨by decide +kernel, rfl⟩
theorem zd_L_law_519 : zz_D zy_law_L 519 (.iadd) 1 520 := ⟨by decide +kernel, rfl⟩
theorem zd_L_law_520 : zz_D zy_law_L 520 (.iaload) 1 521 := ⟨by decide +kernel, rfl⟩
theorem zd_L_law_521 : zz_D zy_law_L 521 (.i2l) 1 522 := ⟨by decide +kernel, rfl⟩
theorem zd_L_law_522 : zz_D zy_law_L 522 (.ldc2_w 112) 3 525 := ⟨by decide +kernel, rfl⟩
theorem zd_L_law_525 : zz_D zy_law_L 525 (.land) 1 526 := ⟨by decide +kernel, rfl⟩
theorem zd_L_law_526 : zz_D zy_law_L 526 (.lor) 1 527 := ⟨by decide +kernel, rfl⟩
theorem zd_L_law_527 : zz_D zy_law_L 527 (.invokevirtual 137) 3 530 := ⟨by decide +kernel, rfl⟩
theorem zd_L_law_530 : zz_D zy_law_L 530 (.pop) 1 531 := ⟨by decide +kernel, rfl⟩
theorem zd_L_law_531 : zz_B zy_law_L 531 Instr.goto 1208 534 := ⟨677, by decide +kernel, rfl, rfl⟩
theorem zd_L_law_534 : zz_D zy_law_L 534 (.aload_n 1) 1 535 := ⟨by decide +kernel, rfl⟩
theorem zd_L_law_535 : zz_D zy_law_L 535 (.aload_n 0) 1 536 := ⟨by decide +kernel, rfl⟩
theorem zd_L_law_536 : zz_D zy_law_L 536 (.iload 4) 2 538 := ⟨by decide +kernel, rfl⟩
theorem zd_L_law_538 : zz_D zy_law_L 538 (.iconst 1) 1 539 := ⟨by decide +kernel, rfl⟩
theorem zd_L_law_539 : zz_D zy_law_L 539 (.iadd) 1 540 := ⟨by decide +kernel, rfl⟩
theorem zd_L_law_540 : zz_D zy_law_L 540 (.iaload) 1 541 := ⟨by decide +kernel, rfl⟩
theorem zd_L_law_541 : zz_D zy_law_L 541 (.aload_n 3) 1 542 := ⟨by decide +kernel, rfl⟩
theorem zd_L_law_542 : zz_D zy_law_L 542 (.invokestatic 138) 3 545 := ⟨by decide +kernel, rfl⟩
theorem zd_L_law_545 : zz_D zy_law_L 545 (.istore 5) 2 547 := ⟨by decide +kernel, rfl⟩
theorem zd_L_law_547 : zz_D zy_law_L 547 (.aload_n 2) 1 548 := ⟨by decide +kernel, rfl⟩
theorem zd_L_law_548 : zz_D zy_law_L 548 (.aload_n 0) 1 549 := ⟨by decide +kernel, rfl⟩
theorem zd_L_law_549 : zz_D zy_law_L 549 (.iload 4) 2 551 := ⟨by decide +kernel, rfl⟩
theorem zd_L_law_551 : zz_D zy_law_L 551 (.iconst 1) 1 552 := ⟨by decide +kernel, rfl⟩
theorem zd_L_law_552 : zz_D zy_law_L 552 (.iadd) 1 553 := ⟨by decide +kernel, rfl⟩
theorem zd_L_law_553 : zz_D zy_law_L 553 (.iaload) 1 554 := ⟨by decide +kernel, rfl⟩
theorem zd_L_law_554 : zz_D zy_law_L 554 (.invokevirtual 140) 3 557 := ⟨by decide +kernel, rfl⟩
theorem zd_L_law_557 : zz_D zy_law_L 557 (.istore 6) 2 559 := ⟨by decide +kernel, rfl⟩
theorem zd_L_law_559 : zz_B zy_law_L 559 Instr.goto 1208 562 := ⟨649, by decide +kernel, rfl, rfl⟩
theorem zd_L_law_562 : zz_D zy_law_L 562 (.aload_n 1) 1 563 := ⟨by decide +kernel, rfl⟩
theorem zd_L_law_563 : zz_D zy_law_L 563 (.aload_n 0) 1 564 := ⟨by decide +kernel, rfl⟩
theorem zd_L_law_564 : zz_D zy_law_L 564 (.iload 4) 2 566 := ⟨by decide +kernel, rfl⟩
theorem zd_L_law_566 : zz_D zy_law_L 566 (.iconst 1) 1 567 := ⟨by decide +kernel, rfl⟩
theorem zd_L_law_567 : zz_D zy_law_L 567 (.iadd) 1 568 := ⟨by decide +kernel, rfl⟩
theorem zd_L_law_568 : zz_D zy_law_L 568 (.iaload) 1 569 := ⟨by decide +kernel, rfl⟩
theorem zd_L_law_569 : zz_D zy_law_L 569 (.invokestatic 141) 3 572 := ⟨by decide +kernel, rfl⟩
theorem zd_L_law_572 : zz_D zy_law_L 572 (.istore 5) 2 574 := ⟨by decide +kernel, rfl⟩
theorem zd_L_law_574 : zz_D zy_law_L 574 (.aload_n 2) 1 575 := ⟨by decide +kernel, rfl⟩
theorem zd_L_law_575 : zz_D zy_law_L 575 (.aload_n 0) 1 576 := ⟨by decide +kernel, rfl⟩
theorem zd_L_law_576 : zz_D zy_law_L 576 (.iload 4) 2 578 := ⟨by decide +kernel, rfl⟩
theorem zd_L_law_578 : zz_D zy_law_L 578 (.iconst 1) 1 579 := ⟨by decide +kernel, rfl⟩
theorem zd_L_law_579 : zz_D zy_law_L 579 (.iadd) 1 580 := ⟨by decide +kernel, rfl⟩
theorem zd_L_law_580 : zz_D zy_law_L 580 (.iaload) 1 581 := ⟨by decide +kernel, rfl⟩
theorem zd_L_law_581 : zz_D zy_law_L 581 (.invokevirtual 143) 3 584 := ⟨by decide +kernel, rfl⟩
theorem zd_L_law_584 : zz_B zy_law_L 584 Instr.goto 1208 587 := ⟨624, by decide +kernel, rfl, rfl⟩
theorem zd_L_law_587 : zz_D zy_law_L 587 (.aload_n 1) 1 588 := ⟨by decide +kernel, rfl⟩
theorem zd_L_law_588 : zz_D zy_law_L 588 (.invokevirtual 144) 3 591 := ⟨by decide +kernel, rfl⟩
theorem zd_L_law_591 : zz_D zy_law_L 591 (.pop) 1 592 := ⟨by decide +kernel, rfl⟩
theorem zd_L_law_592 : zz_D zy_law_L 592 (.aload_n 2) 1 593 := ⟨by decide +kernel, rfl⟩
theorem zd_L_law_593 : zz_D zy_law_L 593 (.invokevirtual 147) 3 596 := ⟨by decide +kernel, rfl⟩
theorem zd_L_law_596 : zz_D zy_law_L 596 (.pop) 1 597 := ⟨by decide +kernel, rfl⟩
theorem zd_L_law_597 : zz_B zy_law_L 597 Instr.goto 1208 600 := ⟨611, by decide +kernel, rfl, rfl⟩
theorem zd_L_law_600 : zz_D zy_law_L 600 (.aload_n 1) 1 601 := ⟨by decide +kernel, rfl⟩
theorem zd_L_law_601 : zz_D zy_law_L 601 (.aload_n 0) 1 602 := ⟨by decide +kernel, rfl⟩
theorem zd_L_law_602 : zz_D zy_law_L 602 (.iload 4) 2 604 := ⟨by decide +kernel, rfl⟩
theorem zd_L_law_604 : zz_D zy_law_L 604 (.iconst 1) 1 605 := ⟨by decide +kernel, rfl⟩
theorem zd_L_law_605 : zz_D zy_law_L 605 (.iadd) 1 606 := ⟨by decide +kernel, rfl⟩
theorem zd_L_law_606 : zz_D zy_law_L 606 (.iaload) 1 607 := ⟨by decide +kernel, rfl⟩
theorem zd_L_law_607 : zz_D zy_law_L 607 (.aload_n 0) 1 608 := ⟨by decide +kernel, rfl⟩
theorem zd_L_law_608 : zz_D zy_law_L 608 (.iload 4) 2 610 := ⟨by decide +kernel, rfl⟩
theorem zd_L_law_610 : zz_D zy_law_L 610 (.iconst 2) 1 611 := ⟨by decide +kernel, rfl⟩
theorem zd_L_law_611 : zz_D zy_law_L 611 (.iadd) 1 612 := ⟨by decide +kernel, rfl⟩
theorem zd_L_law_612 : zz_D zy_law_L 612 (.iaload) 1 613 := ⟨by decide +kernel, rfl⟩
theorem zd_L_law_613 : zz_D zy_law_L 613 (.aload_n 3) 1 614 := ⟨by decide +kernel, rfl⟩
theorem zd_L_law_614 : zz_D zy_law_L 614 (.invokestatic 148) 3 617 := ⟨by decide +kernel, rfl⟩
theorem zd_L_law_617 : zz_D zy_law_L 617 (.istore 5) 2 619 := ⟨by decide +kernel, rfl⟩
theorem zd_L_law_619 : zz_D zy_law_L 619 (.aload_n 2) 1 620 := ⟨by decide +kernel, rfl⟩
theorem zd_L_law_620 : zz_D zy_law_L 620 (.aload_n 0) 1 621 := ⟨by decide +kernel, rfl⟩
theorem zd_L_law_621 : zz_D zy_law_L 621 (.iload 4) 2 623 := ⟨by decide +kernel, rfl⟩
theorem zd_L_law_623 : zz_D zy_law_L 623 (.iconst 1) 1 624 := ⟨by decide +kernel, rfl⟩
theorem zd_L_law_624 : zz_D zy_law_L 624 (.iadd) 1 625 := ⟨by decide +kernel, rfl⟩
theorem zd_L_law_625 : zz_D zy_law_L 625 (.iaload) 1 626 := ⟨by decide +kernel, rfl⟩
theorem zd_L_law_626 : zz_D zy_law_L 626 (.aload_n 0) 1 627 := ⟨by decide +kernel, rfl⟩
theorem zd_L_law_627 : zz_D zy_law_L 627 (.iload 4) 2 629 := ⟨by decide +kernel, rfl⟩
theorem zd_L_law_629 : zz_D zy_law_L 629 (.iconst 2) 1 630 := ⟨by decide +kernel, rfl⟩
theorem zd_L_law_630 : zz_D zy_law_L 630 (.iadd) 1 631 := ⟨by decide +kernel, rfl⟩
theorem zd_L_law_631 : zz_D zy_law_L 631 (.iaload) 1 632 := ⟨by decide +kernel, rfl⟩
theorem zd_L_law_632 : zz_D zy_law_L 632 (.invokevirtual 150) 3 635 := ⟨by decide +kernel, rfl⟩
theorem zd_L_law_635 : zz_D zy_law_L 635 (.istore 6) 2 637 := ⟨by decide +kernel, rfl⟩
theorem zd_L_law_637 : zz_B zy_law_L 637 Instr.goto 1208 640 := ⟨571, by decide +kernel, rfl, rfl⟩
theorem zd_L_law_640 : zz_D zy_law_L 640 (.aload_n 1) 1 641 := ⟨by decide +kernel, rfl⟩
theorem zd_L_law_641 : zz_D zy_law_L 641 (.invokevirtual 151) 3 644 := ⟨by decide +kernel, rfl⟩
theorem zd_L_law_644 : zz_D zy_law_L 644 (.pop) 1 645 := ⟨by decide +kernel, rfl⟩
theorem zd_L_law_645 : zz_D zy_law_L 645 (.aload_n 2) 1 646 := ⟨by decide +kernel, rfl⟩
theorem zd_L_law_646 : zz_D zy_law_L 646 (.invokevirtual 154) 3 649 := ⟨by decide +kernel, rfl⟩
theorem zd_L_law_649 : zz_D zy_law_L 649 (.pop) 1 650 := ⟨by decide +kernel, rfl⟩
theorem zd_L_law_650 : zz_B zy_law_L 650 Instr.goto 1208 653 := ⟨558, by decide +kernel, rfl, rfl⟩
theorem zd_L_law_653 : zz_D zy_law_L 653 (.aload_n 1) 1 654 := ⟨by decide +kernel, rfl⟩
theorem zd_L_law_654 : zz_D zy_law_L 654 (.aload_n 0) 1 655 := ⟨by decide +kernel, rfl⟩
theorem zd_L_law_655 : zz_D zy_law_L 655 (.iload 4) 2 657 := ⟨by decide +kernel, rfl⟩
theorem zd_L_law_657 : zz_D zy_law_L 657 (.iconst 1) 1 658 := ⟨by decide +kernel, rfl⟩
theorem zd_L_law_658 : zz_D zy_law_L 658 (.iadd) 1 659 := ⟨by decide +kernel, rfl⟩
theorem zd_L_law_659 : zz_D zy_law_L 659 (.iaload) 1 660 := ⟨by decide +kernel, rfl⟩
theorem zd_L_law_660 : zz_D zy_law_L 660 (.aload_n 3) 1 661 := ⟨by decide +kernel, rfl⟩
theorem zd_L_law_661 : zz_D zy_law_L 661 (.invokestatic 155) 3 664 := ⟨by decide +kernel, rfl⟩
theorem zd_L_law_664 : zz_D zy_law_L 664 (.istore 5) 2 666 := ⟨by decide +kernel, rfl⟩
theorem zd_L_law_666 : zz_D zy_law_L 666 (.aload_n 2) 1 667 := ⟨by decide +kernel, rfl⟩
theorem zd_L_law_667 : zz_D zy_law_L 667 (.aload_n 0) 1 668 := ⟨by decide +kernel, rfl⟩
theorem zd_L_law_668 : zz_D zy_law_L 668 (.iload 4) 2 670 := ⟨by decide +kernel, rfl⟩
theorem zd_L_law_670 : zz_D zy_law_L 670 (.iconst 1) 1 671 := ⟨by decide +kernel, rfl⟩
theorem zd_L_law_671 : zz_D zy_law_L 671 (.iadd) 1 672 := ⟨by decide +kernel, rfl⟩
theorem zd_L_law_672 : zz_D zy_law_L 672 (.iaload) 1 673 := ⟨by decide +kernel, rfl⟩
theorem zd_L_law_673 : zz_D zy_law_L 673 (.invokevirtual 157) 3 676 := ⟨by decide +kernel, rfl⟩
theorem zd_L_law_676 : zz_D zy_law_L 676 (.istore 6) 2 678 := ⟨by decide +kernel, rfl⟩
theorem zd_L_law_678 : zz_B zy_law_L 678 Instr.goto 1208 681 := ⟨530, by decide +kernel, rfl, rfl⟩
theorem zd_L_law_681 : zz_D zy_law_L 681 (.aload_n 1) 1 682 := ⟨by decide +kernel, rfl⟩
theorem zd_L_law_682 : zz_D zy_law_L 682 (.aload_n 0) 1 683 := ⟨by decide +kernel, rfl⟩
theorem zd_L_law_683 : zz_D zy_law_L 683 (.iload 4) 2 685 := ⟨by decide +kernel, rfl⟩
theorem zd_L_law_685 : zz_D zy_law_L 685 (.iconst 1) 1 686 := ⟨by decide +kernel, rfl⟩
theorem zd_L_law_686 : zz_D zy_law_L 686 (.iadd) 1 687 := ⟨by decide +kernel, rfl⟩
theorem zd_L_law_687 : zz_D zy_law_L 687 (.iaload) 1 688 := ⟨by decide +kernel, rfl⟩
theorem zd_L_law_688 : zz_D zy_law_L 688 (.aload_n 0) 1 689 := ⟨by decide +kernel, rfl⟩
theorem zd_L_law_689 : zz_D zy_law_L 689 (.iload 4) 2 691 := ⟨by decide +kernel, rfl⟩
theorem zd_L_law_691 : zz_D zy_law_L 691 (.iconst 2) 1 692 := ⟨by decide +kernel, rfl⟩
theorem zd_L_law_692 : zz_D zy_law_L 692 (.iadd) 1 693 := ⟨by decide +kernel, rfl⟩
theorem zd_L_law_693 : zz_D zy_law_L 693 (.iaload) 1 694 := ⟨by decide +kernel, rfl⟩
theorem zd_L_law_694 : zz_D zy_law_L 694 (.aload_n 3) 1 695 := ⟨by decide +kernel, rfl⟩
theorem zd_L_law_695 : zz_D zy_law_L 695 (.invokestatic 158) 3 698 := ⟨by decide +kernel, rfl⟩
theorem zd_L_law_698 : zz_D zy_law_L 698 (.istore 5) 2 700 := ⟨by decide +kernel, rfl⟩
theorem zd_L_law_700 : zz_D zy_law_L 700 (.aload_n 2) 1 701 := ⟨by decide +kernel, rfl⟩
theorem zd_L_law_701 : zz_D zy_law_L 701 (.aload_n 0) 1 702 := ⟨by decide +kernel, rfl⟩
theorem zd_L_law_702 : zz_D zy_law_L 702 (.iload 4) 2 704 := ⟨by decide +kernel, rfl⟩
theorem zd_L_law_704 : zz_D zy_law_L 704 (.iconst 1) 1 705 := ⟨by decide +kernel, rfl⟩
theorem zd_L_law_705 : zz_D zy_law_L 705 (.iadd) 1 706 := ⟨by decide +kernel, rfl⟩
theorem zd_L_law_706 : zz_D zy_law_L 706 (.iaload) 1 707 := ⟨by decide +kernel, rfl⟩
theorem zd_L_law_707 : zz_D zy_law_L 707 (.aload_n 0) 1 708 := ⟨by decide +kernel, rfl⟩
theorem zd_L_law_708 : zz_D zy_law_L 708 (.iload 4) 2 710 := ⟨by decide +kernel, rfl⟩
theorem zd_L_law_710 : zz_D zy_law_L 710 (.iconst 2) 1 711 := ⟨by decide +kernel, rfl⟩
theorem zd_L_law_711 : zz_D zy_law_L 711 (.iadd) 1 712 := ⟨by decide +kernel, rfl⟩
theorem zd_L_law_712 : zz_D zy_law_L 712 (.iaload) 1 713 := ⟨by decide +kernel, rfl⟩
theorem zd_L_law_713 : zz_D zy_law_L 713 (.invokevirtual 160) 3 716 := ⟨by decide +kernel, rfl⟩
theorem zd_L_law_716 : zz_D zy_law_L 716 (.istore 6) 2 718 := ⟨by decide +kernel, rfl⟩
theorem zd_L_law_718 : zz_B zy_law_L 718 Instr.goto 1208 721 := ⟨490, by decide +kernel, rfl, rfl⟩
theorem zd_L_law_721 : zz_D zy_law_L 721 (.aload_n 1) 1 722 := ⟨by decide +kernel, rfl⟩
theorem zd_L_law_722 : zz_D zy_law_L 722 (.aload_n 0) 1 723 := ⟨by decide +kernel, rfl⟩
theorem zd_L_law_723 : zz_D zy_law_L 723 (.iload 4) 2 725 := ⟨by decide +kernel, rfl⟩
theorem zd_L_law_725 : zz_D zy_law_L 725 (.iconst 1) 1 726 := ⟨by decide +kernel, rfl⟩
theorem zd_L_law_726 : zz_D zy_law_L 726 (.iadd) 1 727 := ⟨by decide +kernel, rfl⟩
theorem zd_L_law_727 : zz_D zy_law_L 727 (.iaload) 1 728 := ⟨by decide +kernel, rfl⟩
theorem zd_L_law_728 : zz_D zy_law_L 728 (.aload_n 0) 1 729 := ⟨by decide +kernel, rfl⟩
theorem zd_L_law_729 : zz_D zy_law_L 729 (.iload 4) 2 731 := ⟨by decide +kernel, rfl⟩
theorem zd_L_law_731 : zz_D zy_law_L 731 (.iconst 2) 1 732 := ⟨by decide +kernel, rfl⟩
theorem zd_L_law_732 : zz_D zy_law_L 732 (.iadd) 1 733 := ⟨by decide +kernel, rfl⟩
theorem zd_L_law_733 : zz_D zy_law_L 733 (.iaload) 1 734 := ⟨by decide +kernel, rfl⟩
theorem zd_L_law_734 : zz_D zy_law_L 734 (.aload_n 0) 1 735 := ⟨by decide +kernel, rfl⟩
theorem zd_L_law_735 : zz_D zy_law_L 735 (.iload 4) 2 737 := ⟨by decide +kernel, rfl⟩
theorem zd_L_law_737 : zz_D zy_law_L 737 (.iconst 3) 1 738 := ⟨by decide +kernel, rfl⟩
theorem zd_L_law_738 : zz_D zy_law_L 738 (.iadd) 1 739 := ⟨by decide +kernel, rfl⟩
theorem zd_L_law_739 : zz_D zy_law_L 739 (.iaload) 1 740 := ⟨by decide +kernel, rfl⟩
theorem zd_L_law_740 : zz_D zy_law_L 740 (.invokestatic 161) 3 743 := ⟨by decide +kernel, rfl⟩
theorem zd_L_law_743 : zz_D zy_law_L 743 (.istore 5) 2 745 := ⟨by decide +kernel, rfl⟩
theorem zd_L_law_745 : zz_D zy_law_L 745 (.aload_n 2) 1 746 := ⟨by decide +kernel, rfl⟩
theorem zd_L_law_746 : zz_D zy_law_L 746 (.aload_n 0) 1 747 := ⟨by decide +kernel, rfl⟩
theorem zd_L_law_747 : zz_D zy_law_L 747 (.iload 4) 2 749 := ⟨by decide +kernel, rfl⟩
theorem zd_L_law_749 : zz_D zy_law_L 749 (.iconst 1) 1 750 := ⟨by decide +kernel, rfl⟩
theorem zd_L_law_750 : zz_D zy_law_L 750 (.iadd) 1 751 := ⟨by decide +kernel, rfl⟩
theorem zd_L_law_751 : zz_D zy_law_L 751 (.iaload) 1 752 := ⟨by decide +kernel, rfl⟩
theorem zd_L_law_752 : zz_D zy_law_L 752 (.aload_n 0) 1 753 := ⟨by decide +kernel, rfl⟩
theorem zd_L_law_753 : zz_D zy_law_L 753 (.iload 4) 2 755 := ⟨by decide +kernel, rfl⟩
theorem zd_L_law_755 : zz_D zy_law_L 755 (.iconst 2) 1 756 := ⟨by decide +kernel, rfl⟩
theorem zd_L_law_756 : zz_D zy_law_L 756 (.iadd) 1 757 := ⟨by decide +kernel, rfl⟩
theorem zd_L_law_757 : zz_D zy_law_L 757 (.iaload) 1 758 := ⟨by decide +kernel, rfl⟩
theorem zd_L_law_758 : zz_D zy_law_L 758 (.aload_n 0) 1 759 := ⟨by decide +kernel, rfl⟩
theorem zd_L_law_759 : zz_D zy_law_L 759 (.iload 4) 2 761 := ⟨by decide +kernel, rfl⟩
theorem zd_L_law_761 : zz_D zy_law_L 761 (.iconst 3) 1 762 := ⟨by decide +kernel, rfl⟩
theorem zd_L_law_762 : zz_D zy_law_L 762 (.iadd) 1 763 := ⟨by decide +kernel, rfl⟩
theorem zd_L_law_763 : zz_D zy_law_L 763 (.iaload) 1 764 := ⟨by decide +kernel, rfl⟩
theorem zd_L_law_764 : zz_D zy_law_L 764 (.invokevirtual 164) 3 767 := ⟨by decide +kernel, rfl⟩
theorem zd_L_law_767 : zz_B zy_law_L 767 Instr.goto 1208 770 := ⟨441, by decide +kernel, rfl, rfl⟩
theorem zd_L_law_770 : zz_D zy_law_L 770 (.aload_n 1) 1 771 := ⟨by decide +kernel, rfl⟩
theorem zd_L_law_771 : zz_D zy_law_L 771 (.aload_n 0) 1 772 := ⟨by decide +kernel, rfl⟩
theorem zd_L_law_772 : zz_D zy_law_L 772 (.iload 4) 2 774 := ⟨by decide +kernel, rfl⟩
theorem zd_L_law_774 : zz_D zy_law_L 774 (.iconst 1) 1 775 := ⟨by decide +kernel, rfl⟩
theorem zd_L_law_775 : zz_D zy_law_L 775 (.iadd) 1 776 := ⟨by decide +kernel, rfl⟩
theorem zd_L_law_776 : zz_D zy_law_L 776 (.iaload) 1 777 := ⟨by decide +kernel, rfl⟩
theorem zd_L_law_777 : zz_D zy_law_L 777 (.aload_n 0) 1 778 := ⟨by decide +kernel, rfl⟩
theorem zd_L_law_778 : zz_D zy_law_L 778 (.iload 4) 2 780 := ⟨by decide +kernel, rfl⟩
theorem zd_L_law_780 : zz_D zy_law_L 780 (.iconst 2) 1 781 := ⟨by decide +kernel, rfl⟩
theorem zd_L_law_781 : zz_D zy_law_L 781 (.iadd) 1 782 := ⟨by decide +kernel, rfl⟩
theorem zd_L_law_782 : zz_D zy_law_L 782 (.iaload) 1 783 := ⟨by decide +kernel, rfl⟩
theorem zd_L_law_783 : zz_D zy_law_L 783 (.aload_n 0) 1 784 := ⟨by decide +kernel, rfl⟩
theorem zd_L_law_784 : zz_D zy_law_L 784 (.iload 4) 2 786 := ⟨by decide +kernel, rfl⟩
theorem zd_L_law_786 : zz_D zy_law_L 786 (.iconst 3) 1 787 := ⟨by decide +kernel, rfl⟩
theorem zd_L_law_787 : zz_D zy_law_L 787 (.iadd) 1 788 := ⟨by decide +kernel, rfl⟩
theorem zd_L_law_788 : zz_D zy_law_L 788 (.iaload) 1 789 := ⟨by decide +kernel, rfl⟩
theorem zd_L_law_789 : zz_D zy_law_L 789 (.aload_n 0) 1 790 := ⟨by decide +kernel, rfl⟩
theorem zd_L_law_790 : zz_D zy_law_L 790 (.iload 4) 2 792 := ⟨by decide +kernel, rfl⟩
theorem zd_L_law_792 : zz_D zy_law_L 792 (.iconst 4) 1 793 := ⟨by decide +kernel, rfl⟩
theorem zd_L_law_793 : zz_D zy_law_L 793 (.iadd) 1 794 := ⟨by decide +kernel, rfl⟩
theorem zd_L_law_794 : zz_D zy_law_L 794 (.iaload) 1 795 := ⟨by decide +kernel, rfl⟩
theorem zd_L_law_795 : zz_D zy_law_L 795 (.aload_n 0) 1 796 := ⟨by decide +kernel, rfl⟩
theorem zd_L_law_796 : zz_D zy_law_L 796 (.iload 4) 2 798 := ⟨by decide +kernel, rfl⟩
theorem zd_L_law_798 : zz_D zy_law_L 798 (.iconst 5) 1 799 := ⟨by decide +kernel, rfl⟩
theorem zd_L_law_799 : zz_D zy_law_L 799 (.iadd) 1 800 := ⟨by decide +kernel, rfl⟩
theorem zd_L_law_800 : zz_D zy_law_L 800 (.iaload) 1 801 := ⟨by decide +kernel, rfl⟩
theorem zd_L_law_801 : zz_D zy_law_L 801 (.aload_n 0) 1 802 := ⟨by decide +kernel, rfl⟩
theorem zd_L_law_802 : zz_D zy_law_L 802 (.iload 4) 2 804 := ⟨by decide +kernel, rfl⟩
theorem zd_L_law_804 : zz_D zy_law_L 804 (.bipush 6) 2 806 := ⟨by decide +kernel, rfl⟩
theorem zd_L_law_806 : zz_D zy_law_L 806 (.iadd) 1 807 := ⟨by decide +kernel, rfl⟩
theorem zd_L_law_807 : zz_D zy_law_L 807 (.iaload) 1 808 := ⟨by decide +kernel, rfl⟩
theorem zd_L_law_808 : zz_D zy_law_L 808 (.aload_n 3) 1 809 := ⟨by decide +kernel, rfl⟩
theorem zd_L_law_809 : zz_D zy_law_L 809 (.invokestatic 165) 3 812 := ⟨by decide +kernel, rfl⟩
theorem zd_L_law_812 : zz_D zy_law_L 812 (.istore 5) 2 814 := ⟨by decide +kernel, rfl⟩
theorem zd_L_law_814 : zz_D zy_law_L 814 (.aload_n 2) 1 815 := ⟨by decide +kernel, rfl⟩
theorem zd_L_law_815 : zz_D zy_law_L 815 (.aload_n 0) 1 816 := ⟨by decide +kernel, rfl⟩
theorem zd_L_law_816 : zz_D zy_law_L 816 (.iload 4) 2 818 := ⟨by decide +kernel, rfl⟩
theorem zd_L_law_818 : zz_D zy_law_L 818 (.iconst 1) 1 819 := ⟨by decide +kernel, rfl⟩
theorem zd_L_law_819 : zz_D zy_law_L 819 (.iadd) 1 820 := ⟨by decide +kernel, rfl⟩
theorem zd_L_law_820 : zz_D zy_law_L 820 (.iaload) 1 821 := ⟨by decide +kernel, rfl⟩
theorem zd_L_law_821 : zz_D zy_law_L 821 (.aload_n 0) 1 822 := ⟨by decide +kernel, rfl⟩
theorem zd_L_law_822 : zz_D zy_law_L 822 (.iload 4) 2 824 := ⟨by decide +kernel, rfl⟩
theorem zd_L_law_824 : zz_D zy_law_L 824 (.iconst 2) 1 825 := ⟨by decide +kernel, rfl⟩
theorem zd_L_law_825 : zz_D zy_law_L 825 (.iadd) 1 826 := ⟨by decide +kernel, rfl⟩
theorem zd_L_law_826 : zz_D zy_law_L 826 (.iaload) 1 827 := ⟨by decide +kernel, rfl⟩
theorem zd_L_law_827 : zz_D zy_law_L 827 (.aload_n 0) 1 828 := ⟨by decide +kernel, rfl⟩
theorem zd_L_law_828 : zz_D zy_law_L 828 (.iload 4) 2 830 := ⟨by decide +kernel, rfl⟩
theorem zd_L_law_830 : zz_D zy_law_L 830 (.iconst 3) 1 831 := ⟨by decide +kernel, rfl⟩
theorem zd_L_law_831 : zz_D zy_law_L 831 (.iadd) 1 832 := ⟨by decide +kernel, rfl⟩
theorem zd_L_law_832 : zz_D zy_law_L 832 (.iaload) 1 833 := ⟨by decide +kernel, rfl⟩
theorem zd_L_law_833 : zz_D zy_law_L 833 (.aload_n 0) 1 834 := ⟨by decide +kernel, rfl⟩
theorem zd_L_law_834 : zz_D zy_law_L 834 (.iload 4) 2 836 := ⟨by decide +kernel, rfl⟩
theorem zd_L_law_836 : zz_D zy_law_L 836 (.iconst 4) 1 837 := ⟨by decide +kernel, rfl⟩
theorem zd_L_law_837 : zz_D zy_law_L 837 (.iadd) 1 838 := ⟨by decide +kernel, rfl⟩
theorem zd_L_law_838 : zz_D zy_law_L 838 (.iaload) 1 839 := ⟨by decide +kernel, rfl⟩
theorem zd_L_law_839 : zz_D zy_law_L 839 (.aload_n 0) 1 840 := ⟨by decide +kernel, rfl⟩
theorem zd_L_law_840 : zz_D zy_law_L 840 (.iload 4) 2 842 := ⟨by decide +kernel, rfl⟩
theorem zd_L_law_842 : zz_D zy_law_L 842 (.iconst 5) 1 843 := ⟨by decide +kernel, rfl⟩
theorem zd_L_law_843 : zz_D zy_law_L 843 (.iadd) 1 844 := ⟨by decide +kernel, rfl⟩
theorem zd_L_law_844 : zz_D zy_law_L 844 (.iaload) 1 845 := ⟨by decide +kernel, rfl⟩
theorem zd_L_law_845 : zz_D zy_law_L 845 (.aload_n 0) 1 846 := ⟨by decide +kernel, rfl⟩
theorem zd_L_law_846 : zz_D zy_law_L 846 (.iload 4) 2 848 := ⟨by decide +kernel, rfl⟩
theorem zd_L_law_848 : zz_D zy_law_L 848 (.bipush 6) 2 850 := ⟨by decide +kernel, rfl⟩
theorem zd_L_law_850 : zz_D zy_law_L 850 (.iadd) 1 851 := ⟨by decide +kernel, rfl⟩
theorem zd_L_law_851 : zz_D zy_law_L 851 (.iaload) 1 852 := ⟨by decide +kernel, rfl⟩
theorem zd_L_law_852 : zz_D zy_law_L 852 (.invokevirtual 168) 3 855 := ⟨by decide +kernel, rfl⟩
theorem zd_L_law_855 : zz_D zy_law_L 855 (.istore 6) 2 857 := ⟨by decide +kernel, rfl⟩
theorem zd_L_law_857 : zz_B zy_law_L 857 Instr.goto 1208 860 := ⟨351, by decide +kernel, rfl, rfl⟩
theorem zd_L_law_860 : zz_D zy_law_L 860 (.aload_n 1) 1 861 := ⟨by decide +kernel, rfl⟩
theorem zd_L_law_861 : zz_D zy_law_L 861 (.aload_n 0) 1 862 := ⟨by decide +kernel, rfl⟩
theorem zd_L_law_862 : zz_D zy_law_L 862 (.iload 4) 2 864 := ⟨by decide +kernel, rfl⟩
theorem zd_L_law_864 : zz_D zy_law_L 864 (.iconst 1) 1 865 := ⟨by decide +kernel, rfl⟩
theorem zd_L_law_865 : zz_D zy_law_L 865 (.iadd) 1 866 := ⟨by decide +kernel, rfl⟩
theorem zd_L_law_866 : zz_D zy_law_L 866 (.iaload) 1 867 := ⟨by decide +kernel, rfl⟩
theorem zd_L_law_867 : zz_D zy_law_L 867 (.aload_n 0) 1 868 := ⟨by decide +kernel, rfl⟩
theorem zd_L_law_868 : zz_D zy_law_L 868 (.iload 4) 2 870 := ⟨by decide +kernel, rfl⟩
theorem zd_L_law_870 : zz_D zy_law_L 870 (.iconst 2) 1 871 := ⟨by decide +kernel, rfl⟩
theorem zd_L_law_871 : zz_D zy_law_L 871 (.iadd) 1 872 := ⟨by decide +kernel, rfl⟩
theorem zd_L_law_872 : zz_D zy_law_L 872 (.iaload) 1 873 := ⟨by decide +kernel, rfl⟩
theorem zd_L_law_873 : zz_D zy_law_L 873 (.aload_n 0) 1 874 := ⟨by decide +kernel, rfl⟩
theorem zd_L_law_874 : zz_D zy_law_L 874 (.iload 4) 2 876 := ⟨by decide +kernel, rfl⟩
theorem zd_L_law_876 : zz_D zy_law_L 876 (.iconst 3) 1 877 := ⟨by decide +kernel, rfl⟩
theorem zd_L_law_877 : zz_D zy_law_L 877 (.iadd) 1 878 := ⟨by decide +kernel, rfl⟩
theorem zd_L_law_878 : zz_D zy_law_L 878 (.iaload) 1 879 := ⟨by decide +kernel, rfl⟩
theorem zd_L_law_879 : zz_D zy_law_L 879 (.aload_n 3) 1 880 := ⟨by decide +kernel, rfl⟩
theorem zd_L_law_880 : zz_D zy_law_L 880 (.invokestatic 169) 3 883 := ⟨by decide +kernel, rfl⟩
theorem zd_L_law_883 : zz_D zy_law_L 883 (.istore 5) 2 885 := ⟨by decide +kernel, rfl⟩
theorem zd_L_law_885 : zz_D zy_law_L 885 (.aload_n 2) 1 886 := ⟨by decide +kernel, rfl⟩
theorem zd_L_law_886 : zz_D zy_law_L 886 (.aload_n 0) 1 887 := ⟨by decide +kernel, rfl⟩
theorem zd_L_law_887 : zz_D zy_law_L 887 (.iload 4) 2 889 := ⟨by decide +kernel, rfl⟩
theorem zd_L_law_889 : zz_D zy_law_L 889 (.iconst 1) 1 890 := ⟨by decide +kernel, rfl⟩
theorem zd_L_law_890 : zz_D zy_law_L 890 (.iadd) 1 891 := ⟨by decide +kernel, rfl⟩
theorem zd_L_law_891 : zz_D zy_law_L 891 (.iaload) 1 892 := ⟨by decide +kernel, rfl⟩
theorem zd_L_law_892 : zz_D zy_law_L 892 (.aload_n 0) 1 893 := ⟨by decide +kernel, rfl⟩
theorem zd_L_law_893 : zz_D zy_law_L 893 (.iload 4) 2 895 := ⟨by decide +kernel, rfl⟩
theorem zd_L_law_895 : zz_D zy_law_L 895 (.iconst 2) 1 896 := ⟨by decide +kernel, rfl⟩
theorem zd_L_law_896 : zz_D zy_law_L 896 (.iadd) 1 897 := ⟨by decide +kernel, rfl⟩
theorem zd_L_law_897 : zz_D zy_law_L 897 (.iaload) 1 898 := ⟨by decide +kernel, rfl⟩
theorem zd_L_law_898 : zz_D zy_law_L 898 (.aload_n 0) 1 899 := ⟨by decide +kernel, rfl⟩
theorem zd_L_law_899 : zz_D zy_law_L 899 (.iload 4) 2 901 := ⟨by decide +kernel, rfl⟩
theorem zd_L_law_901 : zz_D zy_law_L 901 (.iconst 3) 1 902 := ⟨by decide +kernel, rfl⟩
theorem zd_L_law_902 : zz_D zy_law_L 902 (.iadd) 1 903 := ⟨by decide +kernel, rfl⟩
theorem zd_L_law_903 : zz_D zy_law_L 903 (.iaload) 1 904 := ⟨by decide +kernel, rfl⟩
theorem zd_L_law_904 : zz_D zy_law_L 904 (.invokevirtual 172) 3 907 := ⟨by decide +kernel, rfl⟩
theorem zd_L_law_907 : zz_D zy_law_L 907 (.istore 6) 2 909 := ⟨by decide +kernel, rfl⟩
theorem zd_L_law_909 : zz_B zy_law_L 909 Instr.goto 1208 912 := ⟨299, by decide +kernel, rfl, rfl⟩
theorem zd_L_law_912 : zz_D zy_law_L 912 (.aload_n 1) 1 913 := ⟨by decide +kernel, rfl⟩
theorem zd_L_law_913 : zz_D zy_law_L 913 (.aload_n 0) 1 914 := ⟨by decide +kernel, rfl⟩
theorem zd_L_law_914 : zz_D zy_law_L 914 (.iload 4) 2 916 := ⟨by decide +kernel, rfl⟩
theorem zd_L_law_916 : zz_D zy_law_L 916 (.iconst 1) 1 917 := ⟨by decide +kernel, rfl⟩
theorem zd_L_law_917 : zz_D zy_law_L 917 (.iadd) 1 918 := ⟨by decide +kernel, rfl⟩
theorem zd_L_law_918 : zz_D zy_law_L 918 (.iaload) 1 919 := ⟨by decide +kernel, rfl⟩
theorem zd_L_law_919 : zz_D zy_law_L 919 (.aload_n 0) 1 920 := ⟨by decide +kernel, rfl⟩
theorem zd_L_law_920 : zz_D zy_law_L 920 (.iload 4) 2 922 := ⟨by decide +kernel, rfl⟩
theorem zd_L_law_922 : zz_D zy_law_L 922 (.iconst 2) 1 923 := ⟨by decide +kernel, rfl⟩
theorem zd_L_law_923 : zz_D zy_law_L 923 (.iadd) 1 924 := ⟨by decide +kernel, rfl⟩
theorem zd_L_law_924 : zz_D zy_law_L 924 (.iaload) 1 925 := ⟨by decide +kernel, rfl⟩
theorem zd_L_law_925 : zz_D zy_law_L 925 (.aload_n 0) 1 926 := ⟨by decide +kernel, rfl⟩
theorem zd_L_law_926 : zz_D zy_law_L 926 (.iload 4) 2 928 := ⟨by decide +kernel, rfl⟩
theorem zd_L_law_928 : zz_D zy_law_L 928 (.iconst 3) 1 929 := ⟨by decide +kernel, rfl⟩
theorem zd_L_law_929 : zz_D zy_law_L 929 (.iadd) 1 930 := ⟨by decide +kernel, rfl⟩
theorem zd_L_law_930 : zz_D zy_law_L 930 (.iaload) 1 931 := ⟨by decide +kernel, rfl⟩
theorem zd_L_law_931 : zz_D zy_law_L 931 (.aload_n 3) 1 932 := ⟨by decide +kernel, rfl⟩
theorem zd_L_law_932 : zz_D zy_law_L 932 (.invokestatic 173) 3 935 := ⟨by decide +kernel, rfl⟩
theorem zd_L_law_935 : zz_D zy_law_L 935 (.istore 5) 2 937 := ⟨by decide +kernel, rfl⟩
theorem zd_L_law_937 : zz_D zy_law_L 937 (.aload_n 2) 1 938 := ⟨by decide +kernel, rfl⟩
theorem zd_L_law_938 : zz_D zy_law_L 938 (.aload_n 0) 1 939 := ⟨by decide +kernel, rfl⟩
theorem zd_L_law_939 : zz_D zy_law_L 939 (.iload 4) 2 941 := ⟨by decide +kernel, rfl⟩
theorem zd_L_law_941 : zz_D zy_law_L 941 (.iconst 1) 1 942 := ⟨by decide +kernel, rfl⟩
theorem zd_L_law_942 : zz_D zy_law_L 942 (.iadd) 1 943 := ⟨by decide +kernel, rfl⟩
theorem zd_L_law_943 : zz_D zy_law_L 943 (.iaload) 1 944 := ⟨by decide +kernel, rfl⟩
theorem zd_L_law_944 : zz_D zy_law_L 944 (.aload_n 0) 1 945 := ⟨by decide +kernel, rfl⟩
theorem zd_L_law_945 : zz_D zy_law_L 945 (.iload 4) 2 947 := ⟨by decide +kernel, rfl⟩
theorem zd_L_law_947 : zz_D zy_law_L 947 (.iconst 2) 1 948 := ⟨by decide +kernel, rfl⟩
theorem zd_L_law_948 : zz_D zy_law_L 948 (.iadd) 1 949 := ⟨by decide +kernel, rfl⟩
theorem zd_L_law_949 : zz_D zy_law_L 949 (.iaload) 1 950 := ⟨by decide +kernel, rfl⟩
theorem zd_L_law_950 : zz_D zy_law_L 950 (.aload_n 0) 1 951 := ⟨by decide +kernel, rfl⟩
theorem zd_L_law_951 : zz_D zy_law_L 951 (.iload 4) 2 953 := ⟨by decide +kernel, rfl⟩
theorem zd_L_law_953 : zz_D zy_law_L 953 (.iconst 3) 1 954 := ⟨by decide +kernel, rfl⟩
theorem zd_L_law_954 : zz_D zy_law_L 954 (.iadd) 1 955 := ⟨by decide +kernel, rfl⟩
theorem zd_L_law_955 : zz_D zy_law_L 955 (.iaload) 1 956 := ⟨by decide +kernel, rfl⟩
theorem zd_L_law_956 : zz_D zy_law_L 956 (.invokevirtual 175) 3 959 := ⟨by decide +kernel, rfl⟩
theorem zd_L_law_959 : zz_D zy_law_L 959 (.istore 6) 2 961 := ⟨by decide +kernel, rfl⟩
theorem zd_L_law_961 : zz_B zy_law_L 961 Instr.goto 1208 964 := ⟨247, by decide +kernel, rfl, rfl⟩
theorem zd_L_law_964 : zz_D zy_law_L 964 (.aload_n 1) 1 965 := ⟨by decide +kernel, rfl⟩
theorem zd_L_law_965 : zz_D zy_law_L 965 (.aload_n 0) 1 966 := ⟨by decide +kernel, rfl⟩
theorem zd_L_law_966 : zz_D zy_law_L 966 (.iload 4) 2 968 := ⟨by decide +kernel, rfl⟩
theorem zd_L_law_968 : zz_D zy_law_L 968 (.iconst 1) 1 969 := ⟨by decide +kernel, rfl⟩
theorem zd_L_law_969 : zz_D zy_law_L 969 (.iadd) 1 970 := ⟨by decide +kernel, rfl⟩
theorem zd_L_law_970 : zz_D zy_law_L 970 (.iaload) 1 971 := ⟨by decide +kernel, rfl⟩
theorem zd_L_law_971 : zz_D zy_law_L 971 (.aload_n 0) 1 972 := ⟨by decide +kernel, rfl⟩
theorem zd_L_law_972 : zz_D zy_law_L 972 (.iload 4) 2 974 := ⟨by decide +kernel, rfl⟩
theorem zd_L_law_974 : zz_D zy_law_L 974 (.iconst 2) 1 975 := ⟨by decide +kernel, rfl⟩
theorem zd_L_law_975 : zz_D zy_law_L 975 (.iadd) 1 976 := ⟨by decide +kernel, rfl⟩
theorem zd_L_law_976 : zz_D zy_law_L 976 (.iaload) 1 977 := ⟨by decide +kernel, rfl⟩
theorem zd_L_law_977 : zz_D zy_law_L 977 (.aload_n 3) 1 978 := ⟨by decide +kernel, rfl⟩
theorem zd_L_law_978 : zz_D zy_law_L 978 (.invokestatic 176) 3 981 := ⟨by decide +kernel, rfl⟩
theorem zd_L_law_981 : zz_D zy_law_L 981 (.istore 5) 2 983 := ⟨by decide +kernel, rfl⟩
theorem zd_L_law_983 : zz_D zy_law_L 983 (.aload_n 2) 1 984 := ⟨by decide +kernel, rfl⟩
theorem zd_L_law_984 : zz_D zy_law_L 984 (.aload_n 0) 1 985 := ⟨by decide +kernel, rfl⟩
theorem zd_L_law_985 : zz_D zy_law_L 985 (.iload 4) 2 987 := ⟨by decide +kernel, rfl⟩
theorem zd_L_law_987 : zz_D zy_law_L 987 (.iconst 1) 1 988 := ⟨by decide +kernel, rfl⟩
theorem zd_L_law_988 : zz_D zy_law_L 988 (.iadd) 1 989 := ⟨by decide +kernel, rfl⟩
theorem zd_L_law_989 : zz_D zy_law_L 989 (.iaload) 1 990 := ⟨by decide +kernel, rfl⟩
theorem zd_L_law_990 : zz_D zy_law_L 990 (.aload_n 0) 1 991 := ⟨by decide +kernel, rfl⟩
theorem zd_L_law_991 : zz_D zy_law_L 991 (.iload 4) 2 993 := ⟨by decide +kernel, rfl⟩
theorem zd_L_law_993 : zz_D zy_law_L 993 (.iconst 2) 1 994 := ⟨by decide +kernel, rfl⟩
theorem zd_L_law_994 : zz_D zy_law_L 994 (.iadd) 1 995 := ⟨by decide +kernel, rfl⟩
theorem zd_L_law_995 : zz_D zy_law_L 995 (.iaload) 1 996 := ⟨by decide +kernel, rfl⟩
theorem zd_L_law_996 : zz_D zy_law_L 996 (.invokevirtual 178) 3 999 := ⟨by decide +kernel, rfl⟩
theorem zd_L_law_999 : zz_D zy_law_L 999 (.istore 6) 2 1001 := ⟨by decide +kernel, rfl⟩
theorem zd_L_law_1001 : zz_B zy_law_L 1001 Instr.goto 1208 1004 := ⟨207, by decide +kernel, rfl, rfl⟩
theorem zd_L_law_1004 : zz_D zy_law_L 1004 (.aload_n 1) 1 1005 := ⟨by decide +kernel, rfl⟩
theorem zd_L_law_1005 : zz_D zy_law_L 1005 (.aload_n 3) 1 1006 := ⟨by decide +kernel, rfl⟩
theorem zd_L_law_1006 : zz_D zy_law_L 1006 (.invokestatic 179) 3 1009 := ⟨by decide +kernel, rfl⟩
theorem zd_L_law_1009 : zz_D zy_law_L 1009 (.istore 5) 2 1011 := ⟨by decide +kernel, rfl⟩
theorem zd_L_law_1011 : zz_D zy_law_L 1011 (.aload_n 2) 1 1012 := ⟨by decide +kernel, rfl⟩
theorem zd_L_law_1012 : zz_D zy_law_L 1012 (.invokevirtual 182) 3 1015 := ⟨by decide +kernel, rfl⟩
theorem zd_L_law_1015 : zz_D zy_law_L 1015 (.istore 6) 2 1017 := ⟨by decide +kernel, rfl⟩
theorem zd_L_law_1017 : zz_B zy_law_L 1017 Instr.goto 1208 1020 := ⟨191, by decide +kernel, rfl, rfl⟩
theorem zd_L_law_1020 : zz_D zy_law_L 1020 (.aload_n 1) 1 1021 := ⟨by decide +kernel, rfl⟩
theorem zd_L_law_1021 : zz_D zy_law_L 1021 (.invokevirtual 183) 3 1024 := ⟨by decide +kernel, rfl⟩
theorem zd_L_law_1024 : zz_D zy_law_L 1024 (.aload_n 2) 1 1025 := ⟨by decide +kernel, rfl⟩
theorem zd_L_law_1025 : zz_D zy_law_L 1025 (.invokevirtual 186) 3 1028 := ⟨by decide +kernel, rfl⟩
theorem zd_L_law_1028 : zz_B zy_law_L 1028 Instr.goto 1208 1031 := ⟨180, by decide +kernel, rfl, rfl⟩
theorem zd_L_law_1031 : zz_D zy_law_L 1031 (.aload_n 1) 1 1032 := ⟨by decide +kernel, rfl⟩
theorem zd_L_law_1032 : zz_D zy_law_L 1032 (.invokevirtual 187) 3 1035 := ⟨by decide +kernel, rfl⟩
theorem zd_L_law_1035 : zz_D zy_law_L 1035 (.pop) 1 1036 := ⟨by decide +kernel, rfl⟩
theorem zd_L_law_1036 : zz_D zy_law_L 1036 (.aload_n 2) 1 1037 := ⟨by decide +kernel, rfl⟩
theorem zd_L_law_1037 : zz_D zy_law_L 1037 (.invokevirtual 190) 3 1040 := ⟨by decide +kernel, rfl⟩
theorem zd_L_law_1040 : zz_D zy_law_L 1040 (.pop) 1 1041 := ⟨by decide +kernel, rfl⟩
theorem zd_L_law_1041 : zz_B zy_law_L 1041 Instr.goto 1208 1044 := ⟨167, by decide +kernel, rfl, rfl⟩
theorem zd_L_law_1044 : zz_D zy_law_L 1044 (.aload_n 1) 1 1045 := ⟨by decide +kernel, rfl⟩
theorem zd_L_law_1045 : zz_D zy_law_L 1045 (.aload_n 0) 1 1046 := ⟨by decide +kernel, rfl⟩
theorem zd_L_law_1046 : zz_D zy_law_L 1046 (.iload 4) 2 1048 := ⟨by decide +kernel, rfl⟩
theorem zd_L_law_1048 : zz_D zy_law_L 1048 (.iconst 1) 1 1049 := ⟨by decide +kernel, rfl⟩
theorem zd_L_law_1049 : zz_D zy_law_L 1049 (.iadd) 1 1050 := ⟨by decide +kernel, rfl⟩
theorem zd_L_law_1050 : zz_D zy_law_L 1050 (.iaload) 1 1051 := ⟨by decide +kernel, rfl⟩
theorem zd_L_law_1051 : zz_D zy_law_L 1051 (.aload_n 0) 1 1052 := ⟨by decide +kernel, rfl⟩
theorem zd_L_law_1052 : zz_D zy_law_L 1052 (.iload 4) 2 1054 := ⟨by decide +kernel, rfl⟩
theorem zd_L_law_1054 : zz_D zy_law_L 1054 (.iconst 2) 1 1055 := ⟨by decide +kernel, rfl⟩
theorem zd_L_law_1055 : zz_D zy_law_L 1055 (.iadd) 1 1056 := ⟨by decide +kernel, rfl⟩
theorem zd_L_law_1056 : zz_D zy_law_L 1056 (.iaload) 1 1057 := ⟨by decide +kernel, rfl⟩
theorem zd_L_law_1057 : zz_D zy_law_L 1057 (.aload_n 3) 1 1058 := ⟨by decide +kernel, rfl⟩
theorem zd_L_law_1058 : zz_D zy_law_L 1058 (.invokestatic 191) 3 1061 := ⟨by decide +kernel, rfl⟩
theorem zd_L_law_1061 : zz_D zy_law_L 1061 (.istore 5) 2 1063 := ⟨by decide +kernel, rfl⟩
theorem zd_L_law_1063 : zz_D zy_law_L 1063 (.aload_n 2) 1 1064 := ⟨by decide +kernel, rfl⟩
theorem zd_L_law_1064 : zz_D zy_law_L 1064 (.aload_n 0) 1 1065 := ⟨by decide +kernel, rfl⟩
theorem zd_L_law_1065 : zz_D zy_law_L 1065 (.iload 4) 2 1067 := ⟨by decide +kernel, rfl⟩
theorem zd_L_law_1067 : zz_D zy_law_L 1067 (.iconst 1) 1 1068 := ⟨by decide +kernel, rfl⟩
theorem zd_L_law_1068 : zz_D zy_law_L 1068 (.iadd) 1 1069 := ⟨by decide +kernel, rfl⟩
theorem zd_L_law_1069 : zz_D zy_law_L 1069 (.iaload) 1 1070 := ⟨by decide +kernel, rfl⟩
theorem zd_L_law_1070 : zz_D zy_law_L 1070 (.aload_n 0) 1 1071 := ⟨by decide +kernel, rfl⟩
theorem zd_L_law_1071 : zz_D zy_law_L 1071 (.iload 4) 2 1073 := ⟨by decide +kernel, rfl⟩
theorem zd_L_law_1073 : zz_D zy_law_L 1073 (.iconst 2) 1 1074 := ⟨by decide +kernel, rfl⟩
theorem zd_L_law_1074 : zz_D zy_law_L 1074 (.iadd) 1 1075 := ⟨by decide +kernel, rfl⟩
theorem zd_L_law_1075 : zz_D zy_law_L 1075 (.iaload) 1 1076 := ⟨by decide +kernel, rfl⟩
theorem zd_L_law_1076 : zz_D zy_law_L 1076 (.invokevirtual 193) 3 1079 := ⟨by decide +kernel, rfl⟩
theorem zd_L_law_1079 : zz_D zy_law_L 1079 (.istore 6) 2 1081 := ⟨by decide +kernel, rfl⟩
theorem zd_L_law_1081 : zz_D zy_law_L 1081 (.aload_n 2) 1 1082 := ⟨by decide +kernel, rfl⟩
theorem zd_L_law_1082 : zz_D zy_law_L 1082 (.invokevirtual 194) 3 1085 := ⟨by decide +kernel, rfl⟩
theorem zd_L_law_1085 : zz_D zy_law_L 1085 (.iload 5) 2 1087 := ⟨by decide +kernel, rfl⟩
theorem zd_L_law_1087 : zz_B zy_law_L 1087 (Instr.if_icmp .eq) 1092 1090 := ⟨5, by decide +kernel, rfl, rfl⟩
theorem zd_L_law_1092 : zz_D zy_law_L 1092 (.iload 5) 2 1094 := ⟨by decide +kernel, rfl⟩
theorem zd_L_law_1094 : zz_B zy_law_L 1094 (Instr.ifCond .ne) 1109 1097 := ⟨15, by decide +kernel, rfl, rfl⟩
theorem zd_L_law_1109 : zz_B zy_law_L 1109 Instr.goto 1208 1112 := ⟨99, by decide +kernel, rfl, rfl⟩
theorem zd_L_law_1097 : zz_D zy_law_L 1097 (.aload_n 3) 1 1098 := ⟨by decide +kernel, rfl⟩
theorem zd_L_law_1098 : zz_D zy_law_L 1098 (.iconst 0) 1 1099 := ⟨by decide +kernel, rfl⟩
theorem zd_L_law_1099 : zz_D zy_law_L 1099 (.laload) 1 1100 := ⟨by decide +kernel, rfl⟩
theorem zd_L_law_1100 : zz_D zy_law_L 1100 (.iload 6) 2 1102 := ⟨by decide +kernel, rfl⟩
theorem zd_L_law_1102 : zz_D zy_law_L 1102 (.i2l) 1 1103 := ⟨by decide +kernel, rfl⟩
theorem zd_L_law_1103 : zz_D zy_law_L 1103 (.lcmp) 1 1104 := ⟨by decide +kernel, rfl⟩
theorem zd_L_law_1104 : zz_B zy_law_L 1104 (Instr.ifCond .eq) 1109 1107 := ⟨5, by decide +kernel, rfl, rfl⟩
theorem zd_L_law_1112 : zz_D zy_law_L 1112 (.aload_n 1) 1 1113 := ⟨by decide +kernel, rfl⟩
theorem zd_L_law_1113 : zz_D zy_law_L 1113 (.aload_n 3) 1 1114 := ⟨by decide +kernel, rfl⟩
theorem zd_L_law_1114 : zz_D zy_law_L 1114 (.invokestatic 197) 3 1117 := ⟨by decide +kernel, rfl⟩
theorem zd_L_law_1117 : zz_D zy_law_L 1117 (.istore 5) 2 1119 := ⟨by decide +kernel, rfl⟩
theorem zd_L_law_1119 : zz_D zy_law_L 1119 (.aload_n 2) 1 1120 := ⟨by decide +kernel, rfl⟩
theorem zd_L_law_1120 : zz_D zy_law_L 1120 (.invokevirtual 199) 3 1123 := ⟨by decide +kernel, rfl⟩
theorem zd_L_law_1123 : zz_D zy_law_L 1123 (.istore 6) 2 1125 := ⟨by decide +kernel, rfl⟩
theorem zd_L_law_1125 : zz_B zy_law_L 1125 Instr.goto 1208 1128 := ⟨83, by decide +kernel, rfl, rfl⟩
theorem zd_L_law_1128 : zz_D zy_law_L 1128 (.aload_n 1) 1 1129 := ⟨by decide +kernel, rfl⟩
theorem zd_L_law_1129 : zz_D zy_law_L 1129 (.aload_n 0) 1 1130 := ⟨by decide +kernel, rfl⟩
theorem zd_L_law_1130 : zz_D zy_law_L 1130 (.iload 4) 2 1132 := ⟨by decide +kernel, rfl⟩
theorem zd_L_law_1132 : zz_D zy_law_L 1132 (.iconst 1) 1 1133 := ⟨by decide +kernel, rfl⟩
theorem zd_L_law_1133 : zz_D zy_law_L 1133 (.iadd) 1 1134 := ⟨by decide +kernel, rfl⟩
theorem zd_L_law_1134 : zz_D zy_law_L 1134 (.iaload) 1 1135 := ⟨by decide +kernel, rfl⟩
theorem zd_L_law_1135 : zz_D zy_law_L 1135 (.aload_n 0) 1 1136 := ⟨by decide +kernel, rfl⟩
theorem zd_L_law_1136 : zz_D zy_law_L 1136 (.iload 4) 2 1138 := ⟨by decide +kernel, rfl⟩
theorem zd_L_law_1138 : zz_D zy_law_L 1138 (.iconst 2) 1 1139 := ⟨by decide +kernel, rfl⟩
theorem zd_L_law_1139 : zz_D zy_law_L 1139 (.iadd) 1 1140 := ⟨by decide +kernel, rfl⟩
theorem zd_L_law_1140 : zz_D zy_law_L 1140 (.iaload) 1 1141 := ⟨by decide +kernel, rfl⟩
theorem zd_L_law_1141 : zz_D zy_law_L 1141 (.aload_n 3) 1 1142 := ⟨by decide +kernel, rfl⟩
theorem zd_L_law_1142 : zz_D zy_law_L 1142 (.invokestatic 200) 3 1145 := ⟨by decide +kernel, rfl⟩
theorem zd_L_law_1145 : zz_D zy_law_L 1145 (.istore 5) 2 1147 := ⟨by decide +kernel, rfl⟩
theorem zd_L_law_1147 : zz_D zy_law_L 1147 (.aload_n 2) 1 1148 := ⟨by decide +kernel, rfl⟩
theorem zd_L_law_1148 : zz_D zy_law_L 1148 (.aload_n 0) 1 1149 := ⟨by decide +kernel, rfl⟩
theorem zd_L_law_1149 : zz_D zy_law_L 1149 (.iload 4) 2 1151 := ⟨by decide +kernel, rfl⟩
theorem zd_L_law_1151 : zz_D zy_law_L 1151 (.iconst 1) 1 1152 := ⟨by decide +kernel, rfl⟩
theorem zd_L_law_1152 : zz_D zy_law_L 1152 (.iadd) 1 1153 := ⟨by decide +kernel, rfl⟩
theorem zd_L_law_1153 : zz_D zy_law_L 1153 (.iaload) 1 1154 := ⟨by decide +kernel, rfl⟩
theorem zd_L_law_1154 : zz_D zy_law_L 1154 (.aload_n 0) 1 1155 := ⟨by decide +kernel, rfl⟩
theorem zd_L_law_1155 : zz_D zy_law_L 1155 (.iload 4) 2 1157 := ⟨by decide +kernel, rfl⟩
theorem zd_L_law_1157 : zz_D zy_law_L 1157 (.iconst 2) 1 1158 := ⟨by decide +kernel, rfl⟩
theorem zd_L_law_1158 : zz_D zy_law_L 1158 (.iadd) 1 1159 := ⟨by decide +kernel, rfl⟩
theorem zd_L_law_1159 : zz_D zy_law_L 1159 (.iaload) 1 1160 := ⟨by decide +kernel, rfl⟩
theorem zd_L_law_1160 : zz_D zy_law_L 1160 (.invokevirtual 202) 3 1163 := ⟨by decide +kernel, rfl⟩
theorem zd_L_law_1163 : zz_D zy_law_L 1163 (.istore 6) 2 1165 := ⟨by decide +kernel, rfl⟩
theorem zd_L_law_1165 : zz_B zy_law_L 1165 Instr.goto 1208 1168 := ⟨43, by decide +kernel, rfl, rfl⟩
theorem zd_L_law_1168 : zz_D zy_law_L 1168 (.aload_n 1) 1 1169 := ⟨by decide +kernel, rfl⟩
theorem zd_L_law_1169 : zz_D zy_law_L 1169 (.aload_n 0) 1 1170 := ⟨by decide +kernel, rfl⟩
theorem zd_L_law_1170 : zz_D zy_law_L 1170 (.iload 4) 2 1172 := ⟨by decide +kernel, rfl⟩
theorem zd_L_law_1172 : zz_D zy_law_L 1172 (.iconst 1) 1 1173 := ⟨by decide +kernel, rfl⟩
theorem zd_L_law_1173 : zz_D zy_law_L 1173 (.iadd) 1 1174 := ⟨by decide +kernel, rfl⟩
theorem zd_L_law_1174 : zz_D zy_law_L 1174 (.iaload) 1 1175 := ⟨by decide +kernel, rfl⟩
theorem zd_L_law_1175 : zz_D zy_law_L 1175 (.aload_n 0) 1 1176 := ⟨by decide +kernel, rfl⟩
theorem zd_L_law_1176 : zz_D zy_law_L 1176 (.iload 4) 2 1178 := ⟨by decide +kernel, rfl⟩
theorem zd_L_law_1178 : zz_D zy_law_L 1178 (.iconst 2) 1 1179 := ⟨by decide +kernel, rfl⟩
theorem zd_L_law_1179 : zz_D zy_law_L 1179 (.iadd) 1 1180 := ⟨by decide +kernel, rfl⟩
theorem zd_L_law_1180 : zz_D zy_law_L 1180 (.iaload) 1 1181 := ⟨by decide +kernel, rfl⟩
theorem zd_L_law_1181 : zz_D zy_law_L 1181 (.aload_n 3) 1 1182 := ⟨by decide +kernel, rfl⟩
theorem zd_L_law_1182 : zz_D zy_law_L 1182 (.invokestatic 203) 3 1185 := ⟨by decide +kernel, rfl⟩
theorem zd_L_law_1185 : zz_D zy_law_L 1185 (.istore 5) 2 1187 := ⟨by decide +kernel, rfl⟩
theorem zd_L_law_1187 : zz_D zy_law_L 1187 (.aload_n 2) 1 1188 := ⟨by decide +kernel, rfl⟩
theorem zd_L_law_1188 : zz_D zy_law_L 1188 (.aload_n 0) 1 1189 := ⟨by decide +kernel, rfl⟩
theorem zd_L_law_1189 : zz_D zy_law_L 1189 (.iload 4) 2 1191 := ⟨by decide +kernel, rfl⟩
theorem zd_L_law_1191 : zz_D zy_law_L 1191 (.iconst 1) 1 1192 := ⟨by decide +kernel, rfl⟩
theorem zd_L_law_1192 : zz_D zy_law_L 1192 (.iadd) 1 1193 := ⟨by decide +kernel, rfl⟩
theorem zd_L_law_1193 : zz_D zy_law_L 1193 (.iaload) 1 1194 := ⟨by decide +kernel, rfl⟩
theorem zd_L_law_1194 : zz_D zy_law_L 1194 (.aload_n 0) 1 1195 := ⟨by decide +kernel, rfl⟩
theorem zd_L_law_1195 : zz_D zy_law_L 1195 (.iload 4) 2 1197 := ⟨by decide +kernel, rfl⟩
theorem zd_L_law_1197 : zz_D zy_law_L 1197 (.iconst 2) 1 1198 := ⟨by decide +kernel, rfl⟩
theorem zd_L_law_1198 : zz_D zy_law_L 1198 (.iadd) 1 1199 := ⟨by decide +kernel, rfl⟩
theorem zd_L_law_1199 : zz_D zy_law_L 1199 (.iaload) 1 1200 := ⟨by decide +kernel, rfl⟩
theorem zd_L_law_1200 : zz_D zy_law_L 1200 (.invokevirtual 205) 3 1203 := ⟨by decide +kernel, rfl⟩
theorem zd_L_law_1203 : zz_D zy_law_L 1203 (.istore 6) 2 1205 := ⟨by decide +kernel, rfl⟩
theorem zd_L_law_1205 : zz_B zy_law_L 1205 Instr.goto 1208 1208 := ⟨3, by decide +kernel, rfl, rfl⟩
theorem zl_0 {g : mm_G} {l : Launch} (hfl : l.flags = flags0) (hlen : g.2.2.2 997 ≤ 3584) (N : Nat) (ih : ∀ (x4 : Int) (S : zz_S) (n k j : Nat), zz_G S → zz_Hc S → zz_Hr S → 1 ≤ S 1079 36 → S 1070 1 = S 1079 28 → S 1031 6 = S 1079 1 → (∀ w : Nat, 1 ≤ w → w ≤ 20 → S 1100 w = zt_cd (zt_nw.getD w [])) → (∀ i : Int, 0 ≤ i → i < S 1070 1 → S 1071 i.toNat = S 1099 i.toNat) → zn_A S → zz_end ≤ n → (0 ≤ x4 ∧ x4 ≤ 3590) → (k : Int) ≤ 200 + x4 → (j : Int) ≤ 30000 + 6 * x4 → (3600 - x4).toNat < N → zz_E g l zy_law_L room_1 (fun u => ∃ M1 n1, u = (.inl (some (zi 1)), M1, n1)) S n 23 [some (.ref 998), some (.ref 1000), some (.ref 1079), some (.ref 1121), some (zi x4)] [] k j) (x4 : Int) (S : zz_S) (n k j : Nat) (G_S : zz_G S) (H_S : zz_Hc S) (R_S : zz_Hr S) (O_S : 1 ≤ S 1079 36) (T0_S : S 1070 1 = S 1079 28) (T1_S : S 1031 6 = S 1079 1) (N_S : ∀ w : Nat, 1 ≤ w → w ≤ 20 → S 1100 w = zt_cd (zt_nw.getD w [])) (U_S : ∀ i : Int, 0 ≤ i → i < S 1070 1 → S 1071 i.toNat = S 1099 i.toNat) (A_S : zn_A S) (hn : zz_end ≤ n) (hx : 0 ≤ x4 ∧ x4 ≤ 3590) (hkk : (k : Int) ≤ 200 + x4) (hjj : (j : Int) ≤ 30000 + 6 * x4) (hR : (3600 - x4).toNat < N + 1) (hc1 : x4 ≤ zz_ln g - 7) : zz_E g l zy_law_L room_1 (fun u => ∃ M1 n1, u = (.inl (some (zi 1)), M1, n1)) S n 168 [some (.ref 998), some (.ref 1000), some (.ref 1079), some (.ref 1121), some (zi x4)] [] k j := by
  have hln : 0 ≤ zz_ln g ∧ zz_ln g ≤ 3584 := ⟨Int.natCast_nonneg _, Int.ofNat_le.mpr hlen⟩
  have hk : k ≤ 601024 := by omega
  have hj : j ≤ 7293034 := by omega
  refine zz_aload_n (x := 1000) rfl zd_L_law_168 ?_
  refine zz_aload_n (x := 998) rfl zd_L_law_169 ?_
  refine zz_iload (x := x4) rfl zd_L_law_170 ?_
  refine zz_iconst zd_L_law_172 ?_
  refine zz_iadd zd_L_law_173 ?_
  refine zz_sld (by omega) zd_L_law_174 (by omega) ?_
  have g5 := zz_sc_r g (x4 + 1).toNat
  refine zz_callHW (rz := zr_side_L) [.ref 1000, zi (zz_sc g (x4 + 1).toNat)] zd_L_law_175 zhl_side_L rfl rfl ⟨Nat.le_of_ble_eq_true rfl, Nat.le_of_ble_eq_true rfl⟩ (by show k + 1 ≤ 601024; omega) (by show j + 6 ≤ 7293034; omega) (zc_side_L (zz_sc g (x4 + 1).toNat) S (n) hn hfl G_S (by omega) H_S) (fun v7 S6 d8 hd8 hP => ?_)
  obtain ⟨G_S6, fS6, rv7, o9, o10, o11, o12⟩ := hP
  have g13 := zz_G.r G_S 1000 7 0 1 rfl rfl
  have hn14 : zz_end ≤ n + d8 := by omega
  have hk15 : (k + zr_side_L.cells) ≤ 601024 := by show k + 1 ≤ 601024; omega
  have hj16 : (j + zr_side_L.slots) ≤ 7293034 := by show j + 6 ≤ 7293034; omega
  have b17 := zz_rf3 (z := (S 1000 7)) (by omega)
  have H_S6 : zz_Hc S6 := o12
  have R_S6 : zz_Hr S6 := zz_Hr.fr fS6 rfl rfl (fun b q h => by have h0_ := zz_rf3 (z := (S 1000 7)) (by omega); omega) R_S
  have O_S6 : 1 ≤ S6 1079 36 := by rw [show S6 1079 36 = S 1079 36 from zz_rc fS6 rfl rfl (by have h0_ := zz_rf3 (z := (S 1000 7)) (by omega); omega) rfl]; exact O_S
  have g18 := zz_G.r G_S 1000 7 0 1 rfl rfl
  have e19 : S6 1000 7 = S 1000 7 := (zz_rc fS6 rfl rfl (by first | decide | omega) rfl)
  have g20 := zz_G.r G_S 1000 8 0 1 rfl rfl
  have e21 : S6 1000 8 = S 1000 8 := (zz_rc fS6 rfl rfl (by first | decide | omega) rfl)
  have g22 := zz_G.r G_S 1079 36 0 11 rfl rfl
  have e23 : S6 1079 36 = S 1079 36 := (zz_rc fS6 rfl rfl (by first | decide | omega) rfl)
  refine zz_istore [some (.ref 998), some (.ref 1000), some (.ref 1079), some (.ref 1121), some (zi x4), some (zi v7)] zd_L_law_178 (by decide) rfl ?_
  refine zz_aload_n (x := 1079) rfl zd_L_law_180 ?_
  refine zz_aload_n (x := 998) rfl zd_L_law_181 ?_
  refine zz_iload (x := x4) rfl zd_L_law_182 ?_
  refine zz_iconst zd_L_law_184 ?_
  refine zz_iadd zd_L_law_185 ?_
  refine zz_sld (by omega) zd_L_law_186 (by omega) ?_
  have g24 := zz_G.r G_S 1079 1 2 8 rfl rfl
  have e25 : S6 1079 1 = S 1079 1 := (zz_rc fS6 rfl rfl (by first | decide | omega) rfl)
  refine zz_callVV [zi (zz_sc g (x4 + 1).toNat)] zd_L_law_187 zk_TFLaw_103 zT_1079 (zz_ltn hn14 rfl) rfl rfl ⟨Nat.le_of_ble_eq_true rfl, Nat.le_of_ble_eq_true rfl⟩ ⟨rfl, rfl⟩ hk15 hj16 (zc_side_14_6 (zz_sc g (x4 + 1).toNat) S6 (n + d8) hn14 G_S6 (by omega) R_S6 (by omega)) (fun S26 hP => ?_)
  obtain ⟨G_S26, fS26, o28, o29, o30, o31⟩ := hP
  have H_S26 : zz_Hc S26 := zz_Hc.fr (q := 0) fS26 rfl rfl G_S6 (by decide) rfl (fun b q h => h.elim) H_S6
  have R_S26 : zz_Hr S26 := o31
  have O_S26 : 1 ≤ S26 1079 36 := by omega
  have e32 : S26 1000 7 = S 1000 7 := (zz_rc fS26 rfl rfl (fun h => h) (zz_rc fS6 rfl rfl (by first | decide | omega) rfl))
  have e33 : S26 1000 8 = S 1000 8 := (zz_rc fS26 rfl rfl (fun h => h) (zz_rc fS6 rfl rfl (by first | decide | omega) rfl))
  have g34 := zz_G.r G_S26 1079 36 0 11 rfl rfl
  have L_S26 := zn_Lside (h := S26 1079 0) A_S o10 o11 o30 (fun v h => zn_M.fr h fS6 rfl rfl (fun b q h => by have h0_ := zz_rf3 (z := (S 1000 7)) (by omega); omega) (by omega)) (fun v hV h => zn_C.out h hV (by omega) fS26 rfl rfl (fun b q h => h.elim)) (by omega) (by omega) (by omega)
  have A_S26 : zn_A S26 := L_S26
  refine zz_goto zd_L_law_190 ?_
  refine zz_iinc [some (.ref 998), some (.ref 1000), some (.ref 1079), some (.ref 1121), some (zi (x4 + 7)), some (zi v7)] zd_L_law_1208 rfl rfl ?_
  refine zz_goto zd_L_law_1211 ?_
  refine zz_less (ls1 := [some (.ref 998), some (.ref 1000), some (.ref 1079), some (.ref 1121), some (zi (x4 + 7))]) ⟨rfl, ⟨rfl, ⟨rfl, ⟨rfl, ⟨rfl, trivial⟩⟩⟩⟩⟩ ?_
  have g35 := zz_G.r G_S 1070 1 0 1500 rfl rfl
  have e36 : S26 1070 1 = S 1070 1 := (zz_rc fS26 rfl rfl (fun h => h) (zz_rc fS6 rfl rfl (by first | decide | omega) rfl))
  have g37 := zz_G.r G_S 1079 28 0 1500 rfl rfl
  have e38 : S26 1079 28 = S 1079 28 := (zz_rc fS26 rfl rfl (fun h => h) (zz_rc fS6 rfl rfl (by first | decide | omega) rfl))
  have g39 := zz_G.r G_S6 1031 6 2 8 rfl rfl
  have e40 : S26 1031 6 = S6 1031 6 := (zz_rc fS26 rfl rfl (fun h => h) rfl)
  have g41 := zz_G.r G_S26 1079 1 2 8 rfl rfl
  exact ih (x4 + 7) S26 (n + d8) (k + zr_side_L.cells) (j + zr_side_L.slots) G_S26 H_S26 R_S26 O_S26 (by omega) (by omega) (fun u h1 h2 => ((zz_rc fS26 (zz_nc1 rfl) rfl (fun h => h) (zz_rc fS6 (zz_nc1 rfl) rfl (by have h0_ := zz_rf3 (z := (S 1000 7)) (by omega); omega) rfl)) : S26 1100 u = S 1100 u).trans (N_S u h1 h2)) (fun i h1 h2 => ((zz_rc fS26 (zz_nc1 rfl) rfl (fun h => h) (zz_rc fS6 (zz_nc1 rfl) rfl (by have h0_ := zz_rf3 (z := (S 1000 7)) (by omega); omega) rfl)) : S26 1071 i.toNat = S 1071 i.toNat).trans ((U_S i h1 (by omega)).trans ((zz_rc fS26 (zz_nc1 rfl) rfl (fun h => h) (zz_rc fS6 (zz_nc1 rfl) rfl (by have h0_ := zz_rf3 (z := (S 1000 7)) (by omega); omega) rfl)) : S26 1099 i.toNat = S 1099 i.toNat).symm)) A_S26 hn14 (by omega) (by show ((k + 1 : Nat) : Int) ≤ 200 + (x4 + 7); omega) (by show ((j + 6 : Nat) : Int) ≤ 30000 + 6 * (x4 + 7); omega) (by omega)
theorem zl_1 {g : mm_G} {l : Launch} (hfl : l.flags = flags0) (hlen : g.2.2.2 997 ≤ 3584) (N : Nat) (ih : ∀ (x4 : Int) (S : zz_S) (n k j : Nat), zz_G S → zz_Hc S → zz_Hr S → 1 ≤ S 1079 36 → S 1070 1 = S 1079 28 → S 1031 6 = S 1079 1 → (∀ w : Nat, 1 ≤ w → w ≤ 20 → S 1100 w = zt_cd (zt_nw.getD w [])) → (∀ i : Int, 0 ≤ i → i < S 1070 1 → S 1071 i.toNat = S 1099 i.toNat) → zn_A S → zz_end ≤ n → (0 ≤ x4 ∧ x4 ≤ 3590) → (k : Int) ≤ 200 + x4 → (j : Int) ≤ 30000 + 6 * x4 → (3600 - x4).toNat < N → zz_E g l zy_law_L room_1 (fun u => ∃ M1 n1, u = (.inl (some (zi 1)), M1, n1)) S n 23 [some (.ref 998), some (.ref 1000), some (.ref 1079), some (.ref 1121), some (zi x4)] [] k j) (x4 : Int) (S : zz_S) (n k j : Nat) (G_S : zz_G S) (H_S : zz_Hc S) (R_S : zz_Hr S) (O_S : 1 ≤ S 1079 36) (T0_S : S 1070 1 = S 1079 28) (T1_S : S 1031 6 = S 1079 1) (N_S : ∀ w : Nat, 1 ≤ w → w ≤ 20 → S 1100 w = zt_cd (zt_nw.getD w [])) (U_S : ∀ i : Int, 0 ≤ i → i < S 1070 1 → S 1071 i.toNat = S 1099 i.toNat) (A_S : zn_A S) (hn : zz_end ≤ n) (hx : 0 ≤ x4 ∧ x4 ≤ 3590) (hkk : (k : Int) ≤ 200 + x4) (hjj : (j : Int) ≤ 30000 + 6 * x4) (hR : (3600 - x4).toNat < N + 1) (hc1 : x4 ≤ zz_ln g - 7) : zz_E g l zy_law_L room_1 (fun u => ∃ M1 n1, u = (.inl (some (zi 1)), M1, n1)) S n 193 [some (.ref 998), some (.ref 1000), some (.ref 1079), some (.ref 1121), some (zi x4)] [] k j := by
  have hln : 0 ≤ zz_ln g ∧ zz_ln g ≤ 3584 := ⟨Int.natCast_nonneg _, Int.ofNat_le.mpr hlen⟩
  have hk : k ≤ 601024 := by omega
  have hj : j ≤ 7293034 := by omega
  refine zz_aload_n (x := 1000) rfl zd_L_law_193 ?_
  refine zz_aload_n (x := 998) rfl zd_L_law_194 ?_
  refine zz_iload (x := x4) rfl zd_L_law_195 ?_
  refine zz_iconst zd_L_law_197 ?_
  refine zz_iadd zd_L_law_198 ?_
  refine zz_sld (by omega) zd_L_law_199 (by omega) ?_
  have g43 := zz_sc_r g (x4 + 1).toNat
  refine zz_aload_n (x := 998) rfl zd_L_law_200 ?_
  refine zz_iload (x := x4) rfl zd_L_law_201 ?_
  refine zz_iconst zd_L_law_203 ?_
  refine zz_iadd zd_L_law_204 ?_
  refine zz_sld (by omega) zd_L_law_205 (by omega) ?_
  have g44 := zz_sc_r g (x4 + 2).toNat
  refine zz_callHW (rz := zr_memory_L) [.ref 1000, zi (zz_sc g (x4 + 1).toNat), zi (zz_sc g (x4 + 2).toNat)] zd_L_law_206 zhl_memory_L rfl rfl ⟨Nat.le_of_ble_eq_true rfl, Nat.le_of_ble_eq_true rfl⟩ (by show k + 1 ≤ 601024; omega) (by show j + 6 ≤ 7293034; omega) (zc_memory_L (zz_sc g (x4 + 1).toNat) (zz_sc g (x4 + 2).toNat) S (n) hn hfl G_S (by omega) (by omega)) (fun v46 S45 d47 hd47 hP => ?_)
  obtain ⟨G_S45, fS45, rv46, o48⟩ := hP
  have hn49 : zz_end ≤ n + d47 := by omega
  have hk50 : (k + zr_memory_L.cells) ≤ 601024 := by show k + 1 ≤ 601024; omega
  have hj51 : (j + zr_memory_L.slots) ≤ 7293034 := by show j + 6 ≤ 7293034; omega
  have H_S45 : zz_Hc S45 := zz_Hc.fr (q := 0) fS45 rfl rfl G_S (by decide) rfl (fun b q h => h.elim) H_S
  have R_S45 : zz_Hr S45 := zz_Hr.fr fS45 rfl rfl (fun b q h => h.elim) R_S
  have O_S45 : 1 ≤ S45 1079 36 := by rw [show S45 1079 36 = S 1079 36 from zz_rc fS45 rfl rfl (fun h => h) rfl]; exact O_S
  have g52 := zz_G.r G_S 1000 7 0 1 rfl rfl
  have e53 : S45 1000 7 = S 1000 7 := (zz_rc fS45 rfl rfl (fun h => h) rfl)
  have g54 := zz_G.r G_S 1000 8 0 1 rfl rfl
  have e55 : S45 1000 8 = S 1000 8 := (zz_rc fS45 rfl rfl (fun h => h) rfl)
  have g56 := zz_G.r G_S 1079 36 0 11 rfl rfl
  have e57 : S45 1079 36 = S 1079 36 := (zz_rc fS45 rfl rfl (fun h => h) rfl)
  have A_S45 : zn_A S45 := zn_A.fr A_S fS45 rfl rfl (fun b q h => h.elim) rfl rfl (by omega) (by omega) (by omega) (by omega)
  refine zz_istore [some (.ref 998), some (.ref 1000), some (.ref 1079), some (.ref 1121), some (zi x4), some (zi v46)] zd_L_law_209 (by decide) rfl ?_
  refine zz_aload_n (x := 1079) rfl zd_L_law_211 ?_
  refine zz_aload_n (x := 998) rfl zd_L_law_212 ?_
  refine zz_iload (x := x4) rfl zd_L_law_213 ?_
  refine zz_iconst zd_L_law_215 ?_
  refine zz_iadd zd_L_law_216 ?_
  refine zz_sld (by omega) zd_L_law_217 (by omega) ?_
  refine zz_aload_n (x := 998) rfl zd_L_law_218 ?_
  refine zz_iload (x := x4) rfl zd_L_law_219 ?_
  refine zz_iconst zd_L_law_221 ?_
  refine zz_iadd zd_L_law_222 ?_
  refine zz_sld (by omega) zd_L_law_223 (by omega) ?_
  refine zz_callVV [zi (zz_sc g (x4 + 1).toNat), zi (zz_sc g (x4 + 2).toNat)] zd_L_law_224 zk_TFLaw_107 zT_1079 (zz_ltn hn49 rfl) rfl rfl ⟨Nat.le_of_ble_eq_true rfl, Nat.le_of_ble_eq_true rfl⟩ ⟨rfl, rfl⟩ hk50 hj51 (zc_memory_14_8 (zz_sc g (x4 + 1).toNat) (zz_sc g (x4 + 2).toNat) S45 (n + d47) hn49 G_S45 (by omega) (by omega)) (fun S58 hP => ?_)
  obtain ⟨G_S58, fS58, o60⟩ := hP
  have H_S58 : zz_Hc S58 := zz_Hc.fr (q := 0) fS58 rfl rfl G_S45 (by decide) rfl (fun b q h => h.elim) H_S45
  have R_S58 : zz_Hr S58 := zz_Hr.fr fS58 rfl rfl (fun b q h => h.elim) R_S45
  have O_S58 : 1 ≤ S58 1079 36 := by rw [show S58 1079 36 = S45 1079 36 from zz_rc fS58 rfl rfl (fun h => h) rfl]; exact O_S45
  have e61 : S58 1000 7 = S 1000 7 := (zz_rc fS58 rfl rfl (fun h => h) (zz_rc fS45 rfl rfl (fun h => h) rfl))
  have e62 : S58 1000 8 = S 1000 8 := (zz_rc fS58 rfl rfl (fun h => h) (zz_rc fS45 rfl rfl (fun h => h) rfl))
  have e63 : S58 1079 36 = S 1079 36 := (zz_rc fS58 rfl rfl (fun h => h) (zz_rc fS45 rfl rfl (fun h => h) rfl))
  have A_S58 : zn_A S58 := zn_A.fr A_S45 fS58 rfl rfl (fun b q h => h.elim) rfl rfl (by omega) (by omega) (by omega) (by omega)
  refine zz_goto zd_L_law_227 ?_
  refine zz_iinc [some (.ref 998), some (.ref 1000), some (.ref 1079), some (.ref 1121), some (zi (x4 + 7)), some (zi v46)] zd_L_law_1208 rfl rfl ?_
  refine zz_goto zd_L_law_1211 ?_
  refine zz_less (ls1 := [some (.ref 998), some (.ref 1000), some (.ref 1079), some (.ref 1121), some (zi (x4 + 7))]) ⟨rfl, ⟨rfl, ⟨rfl, ⟨rfl, ⟨rfl, trivial⟩⟩⟩⟩⟩ ?_
  have g64 := zz_G.r G_S 1070 1 0 1500 rfl rfl
  have e65 : S58 1070 1 = S 1070 1 := (zz_rc fS58 rfl rfl (fun h => h) (zz_rc fS45 rfl rfl (fun h => h) rfl))
  have g66 := zz_G.r G_S 1079 28 0 1500 rfl rfl
  have e67 : S58 1079 28 = S 1079 28 := (zz_rc fS58 rfl rfl (fun h => h) (zz_rc fS45 rfl rfl (fun h => h) rfl))
  have g68 := zz_G.r G_S 1031 6 2 8 rfl rfl
  have e69 : S58 1031 6 = S 1031 6 := (zz_rc fS58 rfl rfl (fun h => h) (zz_rc fS45 rfl rfl (fun h => h) rfl))
  have g70 := zz_G.r G_S 1079 1 2 8 rfl rfl
  have e71 : S58 1079 1 = S 1079 1 := (zz_rc fS58 rfl rfl (fun h => h) (zz_rc fS45 rfl rfl (fun h => h) rfl))
  exact ih (x4 + 7) S58 (n + d47) (k + zr_memory_L.cells) (j + zr_memory_L.slots) G_S58 H_S58 R_S58 O_S58 (by omega) (by omega) (fun u h1 h2 => ((zz_rc fS58 (zz_nc1 rfl) rfl (fun h => h) (zz_rc fS45 (zz_nc1 rfl) rfl (fun h => h) rfl)) : S58 1100 u = S 1100 u).trans (N_S u h1 h2)) (fun i h1 h2 => ((zz_rc fS58 (zz_nc1 rfl) rfl (fun h => h) (zz_rc fS45 (zz_nc1 rfl) rfl (fun h => h) rfl)) : S58 1071 i.toNat = S 1071 i.toNat).trans ((U_S i h1 (by omega)).trans ((zz_rc fS58 (zz_nc1 rfl) rfl (fun h => h) (zz_rc fS45 (zz_nc1 rfl) rfl (fun h => h) rfl)) : S58 1099 i.toNat = S 1099 i.toNat).symm)) A_S58 hn49 (by omega) (by show ((k + 1 : Nat) : Int) ≤ 200 + (x4 + 7); omega) (by show ((j + 6 : Nat) : Int) ≤ 30000 + 6 * (x4 + 7); omega) (by omega)
theorem zl_2 {g : mm_G} {l : Launch} (hfl : l.flags = flags0) (hlen : g.2.2.2 997 ≤ 3584) (N : Nat) (ih : ∀ (x4 : Int) (S : zz_S) (n k j : Nat), zz_G S → zz_Hc S → zz_Hr S → 1 ≤ S 1079 36 → S 1070 1 = S 1079 28 → S 1031 6 = S 1079 1 → (∀ w : Nat, 1 ≤ w → w ≤ 20 → S 1100 w = zt_cd (zt_nw.getD w [])) → (∀ i : Int, 0 ≤ i → i < S 1070 1 → S 1071 i.toNat = S 1099 i.toNat) → zn_A S → zz_end ≤ n → (0 ≤ x4 ∧ x4 ≤ 3590) → (k : Int) ≤ 200 + x4 → (j : Int) ≤ 30000 + 6 * x4 → (3600 - x4).toNat < N → zz_E g l zy_law_L room_1 (fun u => ∃ M1 n1, u = (.inl (some (zi 1)), M1, n1)) S n 23 [some (.ref 998), some (.ref 1000), some (.ref 1079), some (.ref 1121), some (zi x4)] [] k j) (x4 : Int) (S : zz_S) (n k j : Nat) (G_S : zz_G S) (H_S : zz_Hc S) (R_S : zz_Hr S) (O_S : 1 ≤ S 1079 36) (T0_S : S 1070 1 = S 1079 28) (T1_S : S 1031 6 = S 1079 1) (N_S : ∀ w : Nat, 1 ≤ w → w ≤ 20 → S 1100 w = zt_cd (zt_nw.getD w [])) (U_S : ∀ i : Int, 0 ≤ i → i < S 1070 1 → S 1071 i.toNat = S 1099 i.toNat) (A_S : zn_A S) (hn : zz_end ≤ n) (hx : 0 ≤ x4 ∧ x4 ≤ 3590) (hkk : (k : Int) ≤ 200 + x4) (hjj : (j : Int) ≤ 30000 + 6 * x4) (hR : (3600 - x4).toNat < N + 1) (hc1 : x4 ≤ zz_ln g - 7) : zz_E g l zy_law_L room_1 (fun u => ∃ M1 n1, u = (.inl (some (zi 1)), M1, n1)) S n 230 [some (.ref 998), some (.ref 1000), some (.ref 1079), some (.ref 1121), some (zi x4)] [] k j := by
  have hln : 0 ≤ zz_ln g ∧ zz_ln g ≤ 3584 := ⟨Int.natCast_nonneg _, Int.ofNat_le.mpr hlen⟩
  have hk : k ≤ 601024 := by omega
  have hj : j ≤ 7293034 := by omega
  refine zz_aload_n (x := 1000) rfl zd_L_law_230 ?_
  refine zz_aload_n (x := 998) rfl zd_L_law_231 ?_
  refine zz_iload (x := x4) rfl zd_L_law_232 ?_
  refine zz_iconst zd_L_law_234 ?_
  refine zz_iadd zd_L_law_235 ?_
  refine zz_sld (by omega) zd_L_law_236 (by omega) ?_
  have g73 := zz_sc_r g (x4 + 1).toNat
  refine zz_aload_n (x := 998) rfl zd_L_law_237 ?_
  refine zz_iload (x := x4) rfl zd_L_law_238 ?_
  refine zz_iconst zd_L_law_240 ?_
  refine zz_iadd zd_L_law_241 ?_
  refine zz_sld (by omega) zd_L_law_242 (by omega) ?_
  have g74 := zz_sc_r g (x4 + 2).toNat
  refine zz_aload_n (x := 1121) rfl zd_L_law_243 ?_
  refine zz_callHW (rz := zr_look_L) [.ref 1000, zi (zz_sc g (x4 + 1).toNat), zi (zz_sc g (x4 + 2).toNat), .ref 1121] zd_L_law_244 zhl_look_L rfl rfl ⟨Nat.le_of_ble_eq_true rfl, Nat.le_of_ble_eq_true rfl⟩ (by show k + 1 ≤ 601024; omega) (by show j + 6 ≤ 7293034; omega) (zc_look_L (zz_sc g (x4 + 1).toNat) (zz_sc g (x4 + 2).toNat) S (n) hn hfl G_S (by omega) (by omega)) (fun v76 S75 d77 hd77 hP => ?_)
  obtain ⟨G_S75, fS75, rv76⟩ := hP
  have hn78 : zz_end ≤ n + d77 := by omega
  have hk79 : (k + zr_look_L.cells) ≤ 601024 := by show k + 1 ≤ 601024; omega
  have hj80 : (j + zr_look_L.slots) ≤ 7293034 := by show j + 6 ≤ 7293034; omega
  have H_S75 : zz_Hc S75 := zz_Hc.fr (q := 0) fS75 rfl rfl G_S (by decide) rfl (fun b q h => h.elim) H_S
  have R_S75 : zz_Hr S75 := zz_Hr.fr fS75 rfl rfl (fun b q h => h.elim) R_S
  have O_S75 : 1 ≤ S75 1079 36 := by rw [show S75 1079 36 = S 1079 36 from zz_rc fS75 rfl rfl (fun h => h) rfl]; exact O_S
  have g81 := zz_G.r G_S 1000 7 0 1 rfl rfl
  have e82 : S75 1000 7 = S 1000 7 := (zz_rc fS75 rfl rfl (fun h => h) rfl)
  have g83 := zz_G.r G_S 1000 8 0 1 rfl rfl
  have e84 : S75 1000 8 = S 1000 8 := (zz_rc fS75 rfl rfl (fun h => h) rfl)
  have g85 := zz_G.r G_S 1079 36 0 11 rfl rfl
  have e86 : S75 1079 36 = S 1079 36 := (zz_rc fS75 rfl rfl (fun h => h) rfl)
  have A_S75 : zn_A S75 := zn_A.fr A_S fS75 rfl rfl (fun b q h => h.elim) rfl rfl (by omega) (by omega) (by omega) (by omega)
  refine zz_istore [some (.ref 998), some (.ref 1000), some (.ref 1079), some (.ref 1121), some (zi x4), some (zi v76)] zd_L_law_247 (by decide) rfl ?_
  refine zz_aload_n (x := 1079) rfl zd_L_law_249 ?_
  refine zz_aload_n (x := 998) rfl zd_L_law_250 ?_
  refine zz_iload (x := x4) rfl zd_L_law_251 ?_
  refine zz_iconst zd_L_law_253 ?_
  refine zz_iadd zd_L_law_254 ?_
  refine zz_sld (by omega) zd_L_law_255 (by omega) ?_
  refine zz_aload_n (x := 998) rfl zd_L_law_256 ?_
  refine zz_iload (x := x4) rfl zd_L_law_257 ?_
  refine zz_iconst zd_L_law_259 ?_
  refine zz_iadd zd_L_law_260 ?_
  refine zz_sld (by omega) zd_L_law_261 (by omega) ?_
  refine zz_callVI [zi (zz_sc g (x4 + 1).toNat), zi (zz_sc g (x4 + 2).toNat)] zd_L_law_262 zk_TFLaw_111 zT_1079 (zz_ltn hn78 rfl) rfl rfl ⟨Nat.le_of_ble_eq_true rfl, Nat.le_of_ble_eq_true rfl⟩ ⟨rfl, rfl⟩ hk79 hj80 (zc_look_14_10 (zz_sc g (x4 + 1).toNat) (zz_sc g (x4 + 2).toNat) S75 (n + d77) hn78 G_S75 (by omega) (by omega)) (fun v88 S87 hP => ?_)
  obtain ⟨G_S87, fS87, o89⟩ := hP
  have H_S87 : zz_Hc S87 := zz_Hc.fr (q := 0) fS87 rfl rfl G_S75 (by decide) rfl (fun b q h => h.elim) H_S75
  have R_S87 : zz_Hr S87 := zz_Hr.fr fS87 rfl rfl (fun b q h => h.elim) R_S75
  have O_S87 : 1 ≤ S87 1079 36 := by rw [show S87 1079 36 = S75 1079 36 from zz_rc fS87 rfl rfl (fun h => h) rfl]; exact O_S75
  have e90 : S87 1000 7 = S 1000 7 := (zz_rc fS87 rfl rfl (fun h => h) (zz_rc fS75 rfl rfl (fun h => h) rfl))
  have e91 : S87 1000 8 = S 1000 8 := (zz_rc fS87 rfl rfl (fun h => h) (zz_rc fS75 rfl rfl (fun h => h) rfl))
  have e92 : S87 1079 36 = S 1079 36 := (zz_rc fS87 rfl rfl (fun h => h) (zz_rc fS75 rfl rfl (fun h => h) rfl))
  have A_S87 : zn_A S87 := zn_A.fr A_S75 fS87 rfl rfl (fun b q h => h.elim) rfl rfl (by omega) (by omega) (by omega) (by omega)
  refine zz_istore [some (.ref 998), some (.ref 1000), some (.ref 1079), some (.ref 1121), some (zi x4), some (zi v76), some (zi v88)] zd_L_law_265 (by decide) rfl ?_
  refine zz_goto zd_L_law_267 ?_
  refine zz_iinc [some (.ref 998), some (.ref 1000), some (.ref 1079), some (.ref 1121), some (zi (x4 + 7)), some (zi v76), some (zi v88)] zd_L_law_1208 rfl rfl ?_
  refine zz_goto zd_L_law_1211 ?_
  refine zz_less (ls1 := [some (.ref 998), some (.ref 1000), some (.ref 1079), some (.ref 1121), some (zi (x4 + 7))]) ⟨rfl, ⟨rfl, ⟨rfl, ⟨rfl, ⟨rfl, trivial⟩⟩⟩⟩⟩ ?_
  have g93 := zz_G.r G_S 1070 1 0 1500 rfl rfl
  have e94 : S87 1070 1 = S 1070 1 := (zz_rc fS87 rfl rfl (fun h => h) (zz_rc fS75 rfl rfl (fun h => h) rfl))
  have g95 := zz_G.r G_S 1079 28 0 1500 rfl rfl
  have e96 : S87 1079 28 = S 1079 28 := (zz_rc fS87 rfl rfl (fun h => h) (zz_rc fS75 rfl rfl (fun h => h) rfl))
  have g97 := zz_G.r G_S 1031 6 2 8 rfl rfl
  have e98 : S87 1031 6 = S 1031 6 := (zz_rc fS87 rfl rfl (fun h => h) (zz_rc fS75 rfl rfl (fun h => h) rfl))
  have g99 := zz_G.r G_S 1079 1 2 8 rfl rfl
  have e100 : S87 1079 1 = S 1079 1 := (zz_rc fS87 rfl rfl (fun h => h) (zz_rc fS75 rfl rfl (fun h => h) rfl))
  exact ih (x4 + 7) S87 (n + d77) (k + zr_look_L.cells) (j + zr_look_L.slots) G_S87 H_S87 R_S87 O_S87 (by omega) (by omega) (fun u h1 h2 => ((zz_rc fS87 (zz_nc1 rfl) rfl (fun h => h) (zz_rc fS75 (zz_nc1 rfl) rfl (fun h => h) rfl)) : S87 1100 u = S 1100 u).trans (N_S u h1 h2)) (fun i h1 h2 => ((zz_rc fS87 (zz_nc1 rfl) rfl (fun h => h) (zz_rc fS75 (zz_nc1 rfl) rfl (fun h => h) rfl)) : S87 1071 i.toNat = S 1071 i.toNat).trans ((U_S i h1 (by omega)).trans ((zz_rc fS87 (zz_nc1 rfl) rfl (fun h => h) (zz_rc fS75 (zz_nc1 rfl) rfl (fun h => h) rfl)) : S87 1099 i.toNat = S 1099 i.toNat).symm)) A_S87 hn78 (by omega) (by show ((k + 1 : Nat) : Int) ≤ 200 + (x4 + 7); omega) (by show ((j + 6 : Nat) : Int) ≤ 30000 + 6 * (x4 + 7); omega) (by omega)
theorem zl_3 {g : mm_G} {l : Launch} (hfl : l.flags = flags0) (hlen : g.2.2.2 997 ≤ 3584) (N : Nat) (ih : ∀ (x4 : Int) (S : zz_S) (n k j : Nat), zz_G S → zz_Hc S → zz_Hr S → 1 ≤ S 1079 36 → S 1070 1 = S 1079 28 → S 1031 6 = S 1079 1 → (∀ w : Nat, 1 ≤ w → w ≤ 20 → S 1100 w = zt_cd (zt_nw.getD w [])) → (∀ i : Int, 0 ≤ i → i < S 1070 1 → S 1071 i.toNat = S 1099 i.toNat) → zn_A S → zz_end ≤ n → (0 ≤ x4 ∧ x4 ≤ 3590) → (k : Int) ≤ 200 + x4 → (j : Int) ≤ 30000 + 6 * x4 → (3600 - x4).toNat < N → zz_E g l zy_law_L room_1 (fun u => ∃ M1 n1, u = (.inl (some (zi 1)), M1, n1)) S n 23 [some (.ref 998), some (.ref 1000), some (.ref 1079), some (.ref 1121), some (zi x4)] [] k j) (x4 : Int) (S : zz_S) (n k j : Nat) (G_S : zz_G S) (H_S : zz_Hc S) (R_S : zz_Hr S) (O_S : 1 ≤ S 1079 36) (T0_S : S 1070 1 = S 1079 28) (T1_S : S 1031 6 = S 1079 1) (N_S : ∀ w : Nat, 1 ≤ w → w ≤ 20 → S 1100 w = zt_cd (zt_nw.getD w [])) (U_S : ∀ i : Int, 0 ≤ i → i < S 1070 1 → S 1071 i.toNat = S 1099 i.toNat) (A_S : zn_A S) (hn : zz_end ≤ n) (hx : 0 ≤ x4 ∧ x4 ≤ 3590) (hkk : (k : Int) ≤ 200 + x4) (hjj : (j : Int) ≤ 30000 + 6 * x4) (hR : (3600 - x4).toNat < N + 1) (hc1 : x4 ≤ zz_ln g - 7) : zz_E g l zy_law_L room_1 (fun u => ∃ M1 n1, u = (.inl (some (zi 1)), M1, n1)) S n 270 [some (.ref 998), some (.ref 1000), some (.ref 1079), some (.ref 1121), some (zi x4)] [] k j := by
  have hln : 0 ≤ zz_ln g ∧ zz_ln g ≤ 3584 := ⟨Int.natCast_nonneg _, Int.ofNat_le.mpr hlen⟩
  have hk : k ≤ 601024 := by omega
  have hj : j ≤ 7293034 := by omega
  refine zz_aload_n (x := 1000) rfl zd_L_law_270 ?_
  refine zz_aload_n (x := 998) rfl zd_L_law_271 ?_
  refine zz_iload (x := x4) rfl zd_L_law_272 ?_
  refine zz_iconst zd_L_law_274 ?_
  refine zz_iadd zd_L_law_275 ?_
  refine zz_sld (by omega) zd_L_law_276 (by omega) ?_
  have g102 := zz_sc_r g (x4 + 1).toNat
  refine zz_aload_n (x := 998) rfl zd_L_law_277 ?_
  refine zz_iload (x := x4) rfl zd_L_law_278 ?_
  refine zz_iconst zd_L_law_280 ?_
  refine zz_iadd zd_L_law_281 ?_
  refine zz_sld (by omega) zd_L_law_282 (by omega) ?_
  have g103 := zz_sc_r g (x4 + 2).toNat
  refine zz_i2l (by omega) zd_L_law_283 ?_
  refine zz_bipush (by decide) zd_L_law_284 ?_
  refine zz_lshl zd_L_law_286 (fun v104 hv104 ev104 => ?_)
  refine zz_aload_n (x := 998) rfl zd_L_law_287 ?_
  refine zz_iload (x := x4) rfl zd_L_law_288 ?_
  refine zz_iconst zd_L_law_290 ?_
  refine zz_iadd zd_L_law_291 ?_
  refine zz_sld (by omega) zd_L_law_292 (by omega) ?_
  have g105 := zz_sc_r g (x4 + 3).toNat
  refine zz_i2l (by omega) zd_L_law_293 ?_
  refine zz_ldc2 (z := 4294967295) zq_TFLaw_112 (by decide) zd_L_law_294 ?_
  refine zz_land zd_L_law_297 (fun v106 hv106 ev106 => ?_)
  have av106 := zz_band64 (by omega) (by omega) ev106
  refine zz_lor zd_L_law_298 (fun v107 hv107 ev107 => ?_)
  refine zz_callHW (rz := zr_word_L) [.ref 1000, zi (zz_sc g (x4 + 1).toNat), zl v107] zd_L_law_299 zhl_word_L rfl rfl ⟨Nat.le_of_ble_eq_true rfl, Nat.le_of_ble_eq_true rfl⟩ (by show k + 1 ≤ 601024; omega) (by show j + 6 ≤ 7293034; omega) (zc_word_L (zz_sc g (x4 + 1).toNat) v107 S (n) hn hfl G_S (by omega) (by omega)) (fun v109 S108 d110 hd110 hP => ?_)
  obtain ⟨G_S108, fS108, rv109⟩ := hP
  have g111 := zz_G.r G_S 1000 9 0 1 rfl rfl
  have hn112 : zz_end ≤ n + d110 := by omega
  have hk113 : (k + zr_word_L.cells) ≤ 601024 := by show k + 1 ≤ 601024; omega
  have hj114 : (j + zr_word_L.slots) ≤ 7293034 := by show j + 6 ≤ 7293034; omega
  have b115 := zz_rf4 (z := (S 1000 9)) (by omega)
  have H_S108 : zz_Hc S108 := zz_Hc.fr (q := 0) fS108 rfl rfl G_S (by decide) rfl (fun b q h => by have h0_ := zz_rf4 (z := (S 1000 9)) (by omega); omega) H_S
  have R_S108 : zz_Hr S108 := zz_Hr.fr fS108 rfl rfl (fun b q h => by have h0_ := zz_rf4 (z := (S 1000 9)) (by omega); omega) R_S
  have O_S108 : 1 ≤ S108 1079 36 := by rw [show S108 1079 36 = S 1079 36 from zz_rc fS108 rfl rfl (by have h0_ := zz_rf4 (z := (S 1000 9)) (by omega); omega) rfl]; exact O_S
  have g116 := zz_G.r G_S 1000 7 0 1 rfl rfl
  have e117 : S108 1000 7 = S 1000 7 := (zz_rc fS108 rfl rfl (by first | decide | omega) rfl)
  have g118 := zz_G.r G_S 1000 8 0 1 rfl rfl
  have e119 : S108 1000 8 = S 1000 8 := (zz_rc fS108 rfl rfl (by first | decide | omega) rfl)
  have g120 := zz_G.r G_S 1079 36 0 11 rfl rfl
  have e121 : S108 1079 36 = S 1079 36 := (zz_rc fS108 rfl rfl (by first | decide | omega) rfl)
  have A_S108 : zn_A S108 := zn_A.fr A_S fS108 rfl rfl (fun b q h => by have h0_ := zz_rf4 (z := (S 1000 9)) (by omega); omega) rfl rfl (by omega) (by omega) (by omega) (by omega)
  refine zz_istore [some (.ref 998), some (.ref 1000), some (.ref 1079), some (.ref 1121), some (zi x4), some (zi v109)] zd_L_law_302 (by decide) rfl ?_
  refine zz_aload_n (x := 1079) rfl zd_L_law_304 ?_
  refine zz_aload_n (x := 998) rfl zd_L_law_305 ?_
  refine zz_iload (x := x4) rfl zd_L_law_306 ?_
  refine zz_iconst zd_L_law_308 ?_
  refine zz_iadd zd_L_law_309 ?_
  refine zz_sld (by omega) zd_L_law_310 (by omega) ?_
  refine zz_aload_n (x := 998) rfl zd_L_law_311 ?_
  refine zz_iload (x := x4) rfl zd_L_law_312 ?_
  refine zz_iconst zd_L_law_314 ?_
  refine zz_iadd zd_L_law_315 ?_
  refine zz_sld (by omega) zd_L_law_316 (by omega) ?_
  refine zz_i2l (by omega) zd_L_law_317 ?_
  refine zz_bipush (by decide) zd_L_law_318 ?_
  refine zz_lshl zd_L_law_320 (fun v122 hv122 ev122 => ?_)
  refine zz_aload_n (x := 998) rfl zd_L_law_321 ?_
  refine zz_iload (x := x4) rfl zd_L_law_322 ?_
  refine zz_iconst zd_L_law_324 ?_
  refine zz_iadd zd_L_law_325 ?_
  refine zz_sld (by omega) zd_L_law_326 (by omega) ?_
  refine zz_i2l (by omega) zd_L_law_327 ?_
  refine zz_ldc2 (z := 4294967295) zq_TFLaw_112 (by decide) zd_L_law_328 ?_
  refine zz_land zd_L_law_331 (fun v123 hv123 ev123 => ?_)
  have av123 := zz_band64 (by omega) (by omega) ev123
  refine zz_lor zd_L_law_332 (fun v124 hv124 ev124 => ?_)
  refine zz_callVV [zi (zz_sc g (x4 + 1).toNat), zl v124] zd_L_law_333 zk_TFLaw_117 zT_1079 (zz_ltn hn112 rfl) rfl rfl ⟨Nat.le_of_ble_eq_true rfl, Nat.le_of_ble_eq_true rfl⟩ ⟨rfl, rfl⟩ hk113 hj114 (zc_word_14_14 (zz_sc g (x4 + 1).toNat) v124 S108 (n + d110) hn112 G_S108 (by omega) (by omega)) (fun S125 hP => ?_)
  obtain ⟨G_S125, fS125⟩ := hP
  have H_S125 : zz_Hc S125 := zz_Hc.fr (q := 0) fS125 rfl rfl G_S108 (by decide) rfl (fun b q h => h.elim) H_S108
  have R_S125 : zz_Hr S125 := zz_Hr.fr fS125 rfl rfl (fun b q h => h.elim) R_S108
  have O_S125 : 1 ≤ S125 1079 36 := by rw [show S125 1079 36 = S108 1079 36 from zz_rc fS125 rfl rfl (fun h => h) rfl]; exact O_S108
  have e127 : S125 1000 7 = S 1000 7 := (zz_rc fS125 rfl rfl (fun h => h) (zz_rc fS108 rfl rfl (by first | decide | omega) rfl))
  have e128 : S125 1000 8 = S 1000 8 := (zz_rc fS125 rfl rfl (fun h => h) (zz_rc fS108 rfl rfl (by first | decide | omega) rfl))
  have e129 : S125 1079 36 = S 1079 36 := (zz_rc fS125 rfl rfl (fun h => h) (zz_rc fS108 rfl rfl (by first | decide | omega) rfl))
  have A_S125 : zn_A S125 := zn_A.fr A_S108 fS125 rfl rfl (fun b q h => h.elim) rfl rfl (by omega) (by omega) (by omega) (by omega)
  refine zz_goto zd_L_law_336 ?_
  refine zz_iinc [some (.ref 998), some (.ref 1000), some (.ref 1079), some (.ref 1121), some (zi (x4 + 7)), some (zi v109)] zd_L_law_1208 rfl rfl ?_
  refine zz_goto zd_L_law_1211 ?_
  refine zz_less (ls1 := [some (.ref 998), some (.ref 1000), some (.ref 1079), some (.ref 1121), some (zi (x4 + 7))]) ⟨rfl, ⟨rfl, ⟨rfl, ⟨rfl, ⟨rfl, trivial⟩⟩⟩⟩⟩ ?_
  have g130 := zz_G.r G_S 1070 1 0 1500 rfl rfl
  have e131 : S125 1070 1 = S 1070 1 := (zz_rc fS125 rfl rfl (fun h => h) (zz_rc fS108 rfl rfl (by first | decide | omega) rfl))
  have g132 := zz_G.r G_S 1079 28 0 1500 rfl rfl
  have e133 : S125 1079 28 = S 1079 28 := (zz_rc fS125 rfl rfl (fun h => h) (zz_rc fS108 rfl rfl (by first | decide | omega) rfl))
  have g134 := zz_G.r G_S 1031 6 2 8 rfl rfl
  have e135 : S125 1031 6 = S 1031 6 := (zz_rc fS125 rfl rfl (fun h => h) (zz_rc fS108 rfl rfl (by first | decide | omega) rfl))
  have g136 := zz_G.r G_S 1079 1 2 8 rfl rfl
  have e137 : S125 1079 1 = S 1079 1 := (zz_rc fS125 rfl rfl (fun h => h) (zz_rc fS108 rfl rfl (by first | decide | omega) rfl))
  exact ih (x4 + 7) S125 (n + d110) (k + zr_word_L.cells) (j + zr_word_L.slots) G_S125 H_S125 R_S125 O_S125 (by omega) (by omega) (fun u h1 h2 => ((zz_rc fS125 (zz_nc1 rfl) rfl (fun h => h) (zz_rc fS108 (zz_nc1 rfl) rfl (by have h0_ := zz_rf4 (z := (S 1000 9)) (by omega); omega) rfl)) : S125 1100 u = S 1100 u).trans (N_S u h1 h2)) (fun i h1 h2 => ((zz_rc fS125 (zz_nc1 rfl) rfl (fun h => h) (zz_rc fS108 (zz_nc1 rfl) rfl (by have h0_ := zz_rf4 (z := (S 1000 9)) (by omega); omega) rfl)) : S125 1071 i.toNat = S 1071 i.toNat).trans ((U_S i h1 (by omega)).trans ((zz_rc fS125 (zz_nc1 rfl) rfl (fun h => h) (zz_rc fS108 (zz_nc1 rfl) rfl (by have h0_ := zz_rf4 (z := (S 1000 9)) (by omega); omega) rfl)) : S125 1099 i.toNat = S 1099 i.toNat).symm)) A_S125 hn112 (by omega) (by show ((k + 1 : Nat) : Int) ≤ 200 + (x4 + 7); omega) (by show ((j + 6 : Nat) : Int) ≤ 30000 + 6 * (x4 + 7); omega) (by omega)
theorem zl_4 {g : mm_G} {l : Launch} (hfl : l.flags = flags0) (hlen : g.2.2.2 997 ≤ 3584) (N : Nat) (ih : ∀ (x4 : Int) (S : zz_S) (n k j : Nat), zz_G S → zz_Hc S → zz_Hr S → 1 ≤ S 1079 36 → S 1070 1 = S 1079 28 → S 1031 6 = S 1079 1 → (∀ w : Nat, 1 ≤ w → w ≤ 20 → S 1100 w = zt_cd (zt_nw.getD w [])) → (∀ i : Int, 0 ≤ i → i < S 1070 1 → S 1071 i.toNat = S 1099 i.toNat) → zn_A S → zz_end ≤ n → (0 ≤ x4 ∧ x4 ≤ 3590) → (k : Int) ≤ 200 + x4 → (j : Int) ≤ 30000 + 6 * x4 → (3600 - x4).toNat < N → zz_E g l zy_law_L room_1 (fun u => ∃ M1 n1, u = (.inl (some (zi 1)), M1, n1)) S n 23 [some (.ref 998), some (.ref 1000), some (.ref 1079), some (.ref 1121), some (zi x4)] [] k j) (x4 : Int) (S : zz_S) (n k j : Nat) (G_S : zz_G S) (H_S : zz_Hc S) (R_S : zz_Hr S) (O_S : 1 ≤ S 1079 36) (T0_S : S 1070 1 = S 1079 28) (T1_S : S 1031 6 = S 1079 1) (N_S : ∀ w : Nat, 1 ≤ w → w ≤ 20 → S 1100 w = zt_cd (zt_nw.getD w [])) (U_S : ∀ i : Int, 0 ≤ i → i < S 1070 1 → S 1071 i.toNat = S 1099 i.toNat) (A_S : zn_A S) (hn : zz_end ≤ n) (hx : 0 ≤ x4 ∧ x4 ≤ 3590) (hkk : (k : Int) ≤ 200 + x4) (hjj : (j : Int) ≤ 30000 + 6 * x4) (hR : (3600 - x4).toNat < N + 1) (hc1 : x4 ≤ zz_ln g - 7) : zz_E g l zy_law_L room_1 (fun u => ∃ M1 n1, u = (.inl (some (zi 1)), M1, n1)) S n 339 [some (.ref 998), some (.ref 1000), some (.ref 1079), some (.ref 1121), some (zi x4)] [] k j := by
  have hln : 0 ≤ zz_ln g ∧ zz_ln g ≤ 3584 := ⟨Int.natCast_nonneg _, Int.ofNat_le.mpr hlen⟩
  have hk : k ≤ 601024 := by omega
  have hj : j ≤ 7293034 := by omega
  refine zz_aload_n (x := 1000) rfl zd_L_law_339 ?_
  refine zz_aload_n (x := 998) rfl zd_L_law_340 ?_
  refine zz_iload (x := x4) rfl zd_L_law_341 ?_
  refine zz_iconst zd_L_law_343 ?_
  refine zz_iadd zd_L_law_344 ?_
  refine zz_sld (by omega) zd_L_law_345 (by omega) ?_
  have g139 := zz_sc_r g (x4 + 1).toNat
  refine zz_callHW (rz := zr_cut_L) [.ref 1000, zi (zz_sc g (x4 + 1).toNat)] zd_L_law_346 zhl_cut_L rfl rfl ⟨Nat.le_of_ble_eq_true rfl, Nat.le_of_ble_eq_true rfl⟩ (by show k + 1 ≤ 601024; omega) (by show j + 6 ≤ 7293034; omega) (zc_cut_L (zz_sc g (x4 + 1).toNat) S (n) hn hfl G_S (by omega)) (fun v141 S140 d142 hd142 hP => ?_)
  obtain ⟨G_S140, fS140, rv141⟩ := hP
  have hn143 : zz_end ≤ n + d142 := by omega
  have hk144 : (k + zr_cut_L.cells) ≤ 601024 := by show k + 1 ≤ 601024; omega
  have hj145 : (j + zr_cut_L.slots) ≤ 7293034 := by show j + 6 ≤ 7293034; omega
  have H_S140 : zz_Hc S140 := zz_Hc.fr (q := 0) fS140 rfl rfl G_S (by decide) rfl (fun b q h => h.elim) H_S
  have R_S140 : zz_Hr S140 := zz_Hr.fr fS140 rfl rfl (fun b q h => h.elim) R_S
  have O_S140 : 1 ≤ S140 1079 36 := by rw [show S140 1079 36 = S 1079 36 from zz_rc fS140 rfl rfl (fun h => h) rfl]; exact O_S
  have g146 := zz_G.r G_S 1000 7 0 1 rfl rfl
  have e147 : S140 1000 7 = S 1000 7 := (zz_rc fS140 rfl rfl (fun h => h) rfl)
  have g148 := zz_G.r G_S 1000 8 0 1 rfl rfl
  have e149 : S140 1000 8 = S 1000 8 := (zz_rc fS140 rfl rfl (fun h => h) rfl)
  have g150 := zz_G.r G_S 1079 36 0 11 rfl rfl
  have e151 : S140 1079 36 = S 1079 36 := (zz_rc fS140 rfl rfl (fun h => h) rfl)
  have A_S140 : zn_A S140 := zn_A.fr A_S fS140 rfl rfl (fun b q h => h.elim) rfl rfl (by omega) (by omega) (by omega) (by omega)
  refine zz_istore [some (.ref 998), some (.ref 1000), some (.ref 1079), some (.ref 1121), some (zi x4), some (zi v141)] zd_L_law_349 (by decide) rfl ?_
  refine zz_aload_n (x := 1079) rfl zd_L_law_351 ?_
  refine zz_aload_n (x := 998) rfl zd_L_law_352 ?_
  refine zz_iload (x := x4) rfl zd_L_law_353 ?_
  refine zz_iconst zd_L_law_355 ?_
  refine zz_iadd zd_L_law_356 ?_
  refine zz_sld (by omega) zd_L_law_357 (by omega) ?_
  refine zz_callVV [zi (zz_sc g (x4 + 1).toNat)] zd_L_law_358 zk_TFLaw_120 zT_1079 (zz_ltn hn143 rfl) rfl rfl ⟨Nat.le_of_ble_eq_true rfl, Nat.le_of_ble_eq_true rfl⟩ ⟨rfl, rfl⟩ hk144 hj145 (zc_cut_14_15 (zz_sc g (x4 + 1).toNat) S140 (n + d142) hn143 G_S140 (by omega)) (fun S152 hP => ?_)
  obtain ⟨G_S152, fS152⟩ := hP
  have H_S152 : zz_Hc S152 := zz_Hc.fr (q := 0) fS152 rfl rfl G_S140 (by decide) rfl (fun b q h => h.elim) H_S140
  have R_S152 : zz_Hr S152 := zz_Hr.fr fS152 rfl rfl (fun b q h => h.elim) R_S140
  have O_S152 : 1 ≤ S152 1079 36 := by rw [show S152 1079 36 = S140 1079 36 from zz_rc fS152 rfl rfl (fun h => h) rfl]; exact O_S140
  have e154 : S152 1000 7 = S 1000 7 := (zz_rc fS152 rfl rfl (fun h => h) (zz_rc fS140 rfl rfl (fun h => h) rfl))
  have e155 : S152 1000 8 = S 1000 8 := (zz_rc fS152 rfl rfl (fun h => h) (zz_rc fS140 rfl rfl (fun h => h) rfl))
  have e156 : S152 1079 36 = S 1079 36 := (zz_rc fS152 rfl rfl (fun h => h) (zz_rc fS140 rfl rfl (fun h => h) rfl))
  have A_S152 : zn_A S152 := zn_A.fr A_S140 fS152 rfl rfl (fun b q h => h.elim) rfl rfl (by omega) (by omega) (by omega) (by omega)
  refine zz_goto zd_L_law_361 ?_
  refine zz_iinc [some (.ref 998), some (.ref 1000), some (.ref 1079), some (.ref 1121), some (zi (x4 + 7)), some (zi v141)] zd_L_law_1208 rfl rfl ?_
  refine zz_goto zd_L_law_1211 ?_
  refine zz_less (ls1 := [some (.ref 998), some (.ref 1000), some (.ref 1079), some (.ref 1121), some (zi (x4 + 7))]) ⟨rfl, ⟨rfl, ⟨rfl, ⟨rfl, ⟨rfl, trivial⟩⟩⟩⟩⟩ ?_
  have g157 := zz_G.r G_S 1070 1 0 1500 rfl rfl
  have e158 : S152 1070 1 = S 1070 1 := (zz_rc fS152 rfl rfl (fun h => h) (zz_rc fS140 rfl rfl (fun h => h) rfl))
  have g159 := zz_G.r G_S 1079 28 0 1500 rfl rfl
  have e160 : S152 1079 28 = S 1079 28 := (zz_rc fS152 rfl rfl (fun h => h) (zz_rc fS140 rfl rfl (fun h => h) rfl))
  have g161 := zz_G.r G_S 1031 6 2 8 rfl rfl
  have e162 : S152 1031 6 = S 1031 6 := (zz_rc fS152 rfl rfl (fun h => h) (zz_rc fS140 rfl rfl (fun h => h) rfl))
  have g163 := zz_G.r G_S 1079 1 2 8 rfl rfl
  have e164 : S152 1079 1 = S 1079 1 := (zz_rc fS152 rfl rfl (fun h => h) (zz_rc fS140 rfl rfl (fun h => h) rfl))
  exact ih (x4 + 7) S152 (n + d142) (k + zr_cut_L.cells) (j + zr_cut_L.slots) G_S152 H_S152 R_S152 O_S152 (by omega) (by omega) (fun u h1 h2 => ((zz_rc fS152 (zz_nc1 rfl) rfl (fun h => h) (zz_rc fS140 (zz_nc1 rfl) rfl (fun h => h) rfl)) : S152 1100 u = S 1100 u).trans (N_S u h1 h2)) (fun i h1 h2 => ((zz_rc fS152 (zz_nc1 rfl) rfl (fun h => h) (zz_rc fS140 (zz_nc1 rfl) rfl (fun h => h) rfl)) : S152 1071 i.toNat = S 1071 i.toNat).trans ((U_S i h1 (by omega)).trans ((zz_rc fS152 (zz_nc1 rfl) rfl (fun h => h) (zz_rc fS140 (zz_nc1 rfl) rfl (fun h => h) rfl)) : S152 1099 i.toNat = S 1099 i.toNat).symm)) A_S152 hn143 (by omega) (by show ((k + 1 : Nat) : Int) ≤ 200 + (x4 + 7); omega) (by show ((j + 6 : Nat) : Int) ≤ 30000 + 6 * (x4 + 7); omega) (by omega)
theorem zl_5 {g : mm_G} {l : Launch} (hfl : l.flags = flags0) (hlen : g.2.2.2 997 ≤ 3584) (N : Nat) (ih : ∀ (x4 : Int) (S : zz_S) (n k j : Nat), zz_G S → zz_Hc S → zz_Hr S → 1 ≤ S 1079 36 → S 1070 1 = S 1079 28 → S 1031 6 = S 1079 1 → (∀ w : Nat, 1 ≤ w → w ≤ 20 → S 1100 w = zt_cd (zt_nw.getD w [])) → (∀ i : Int, 0 ≤ i → i < S 1070 1 → S 1071 i.toNat = S 1099 i.toNat) → zn_A S → zz_end ≤ n → (0 ≤ x4 ∧ x4 ≤ 3590) → (k : Int) ≤ 200 + x4 → (j : Int) ≤ 30000 + 6 * x4 → (3600 - x4).toNat < N → zz_E g l zy_law_L room_1 (fun u => ∃ M1 n1, u = (.inl (some (zi 1)), M1, n1)) S n 23 [some (.ref 998), some (.ref 1000), some (.ref 1079), some (.ref 1121), some (zi x4)] [] k j) (x4 : Int) (S : zz_S) (n k j : Nat) (G_S : zz_G S) (H_S : zz_Hc S) (R_S : zz_Hr S) (O_S : 1 ≤ S 1079 36) (T0_S : S 1070 1 = S 1079 28) (T1_S : S 1031 6 = S 1079 1) (N_S : ∀ w : Nat, 1 ≤ w → w ≤ 20 → S 1100 w = zt_cd (zt_nw.getD w [])) (U_S : ∀ i : Int, 0 ≤ i → i < S 1070 1 → S 1071 i.toNat = S 1099 i.toNat) (A_S : zn_A S) (hn : zz_end ≤ n) (hx : 0 ≤ x4 ∧ x4 ≤ 3590) (hkk : (k : Int) ≤ 200 + x4) (hjj : (j : Int) ≤ 30000 + 6 * x4) (hR : (3600 - x4).toNat < N + 1) (hc1 : x4 ≤ zz_ln g - 7) : zz_E g l zy_law_L room_1 (fun u => ∃ M1 n1, u = (.inl (some (zi 1)), M1, n1)) S n 364 [some (.ref 998), some (.ref 1000), some (.ref 1079), some (.ref 1121), some (zi x4)] [] k j := by
  have hln : 0 ≤ zz_ln g ∧ zz_ln g ≤ 3584 := ⟨Int.natCast_nonneg _, Int.ofNat_le.mpr hlen⟩
  have hk : k ≤ 601024 := by omega
  have hj : j ≤ 7293034 := by omega
  refine zz_aload_n (x := 1000) rfl zd_L_law_364 ?_
  refine zz_aload_n (x := 998) rfl zd_L_law_365 ?_
  refine zz_iload (x := x4) rfl zd_L_law_366 ?_
  refine zz_iconst zd_L_law_368 ?_
  refine zz_iadd zd_L_law_369 ?_
  refine zz_sld (by omega) zd_L_law_370 (by omega) ?_
  have g166 := zz_sc_r g (x4 + 1).toNat
  refine zz_aload_n (x := 1121) rfl zd_L_law_371 ?_
  refine zz_callHW (rz := zr_wordOf_L) [.ref 1000, zi (zz_sc g (x4 + 1).toNat), .ref 1121] zd_L_law_372 zhl_wordOf_L rfl rfl ⟨Nat.le_of_ble_eq_true rfl, Nat.le_of_ble_eq_true rfl⟩ (by show k + 1 ≤ 601024; omega) (by show j + 6 ≤ 7293034; omega) (zc_wordOf_L (zz_sc g (x4 + 1).toNat) S (n) hn hfl G_S (by omega)) (fun v168 S167 d169 hd169 hP => ?_)
  obtain ⟨G_S167, fS167, rv168⟩ := hP
  have hn170 : zz_end ≤ n + d169 := by omega
  have hk171 : (k + zr_wordOf_L.cells) ≤ 601024 := by show k + 1 ≤ 601024; omega
  have hj172 : (j + zr_wordOf_L.slots) ≤ 7293034 := by show j + 6 ≤ 7293034; omega
  have H_S167 : zz_Hc S167 := zz_Hc.fr (q := 0) fS167 rfl rfl G_S (by decide) rfl (fun b q h => h.elim) H_S
  have R_S167 : zz_Hr S167 := zz_Hr.fr fS167 rfl rfl (fun b q h => h.elim) R_S
  have O_S167 : 1 ≤ S167 1079 36 := by rw [show S167 1079 36 = S 1079 36 from zz_rc fS167 rfl rfl (fun h => h) rfl]; exact O_S
  have g173 := zz_G.r G_S 1000 7 0 1 rfl rfl
  have e174 : S167 1000 7 = S 1000 7 := (zz_rc fS167 rfl rfl (fun h => h) rfl)
  have g175 := zz_G.r G_S 1000 8 0 1 rfl rfl
  have e176 : S167 1000 8 = S 1000 8 := (zz_rc fS167 rfl rfl (fun h => h) rfl)
  have g177 := zz_G.r G_S 1079 36 0 11 rfl rfl
  have e178 : S167 1079 36 = S 1079 36 := (zz_rc fS167 rfl rfl (fun h => h) rfl)
  have A_S167 : zn_A S167 := zn_A.fr A_S fS167 rfl rfl (fun b q h => h.elim) rfl rfl (by omega) (by omega) (by omega) (by omega)
  refine zz_istore [some (.ref 998), some (.ref 1000), some (.ref 1079), some (.ref 1121), some (zi x4), some (zi v168)] zd_L_law_375 (by decide) rfl ?_
  refine zz_aload_n (x := 1079) rfl zd_L_law_377 ?_
  refine zz_aload_n (x := 998) rfl zd_L_law_378 ?_
  refine zz_iload (x := x4) rfl zd_L_law_379 ?_
  refine zz_iconst zd_L_law_381 ?_
  refine zz_iadd zd_L_law_382 ?_
  refine zz_sld (by omega) zd_L_law_383 (by omega) ?_
  refine zz_callVJ [zi (zz_sc g (x4 + 1).toNat)] zd_L_law_384 zk_TFLaw_124 zT_1079 (zz_ltn hn170 rfl) rfl rfl ⟨Nat.le_of_ble_eq_true rfl, Nat.le_of_ble_eq_true rfl⟩ ⟨rfl, rfl⟩ hk171 hj172 (zc_wordOf_14_16 (zz_sc g (x4 + 1).toNat) S167 (n + d169) hn170 G_S167 (by omega)) (fun v180 S179 hP => ?_)
  obtain ⟨G_S179, fS179, o181⟩ := hP
  have H_S179 : zz_Hc S179 := zz_Hc.fr (q := 0) fS179 rfl rfl G_S167 (by decide) rfl (fun b q h => h.elim) H_S167
  have R_S179 : zz_Hr S179 := zz_Hr.fr fS179 rfl rfl (fun b q h => h.elim) R_S167
  have O_S179 : 1 ≤ S179 1079 36 := by rw [show S179 1079 36 = S167 1079 36 from zz_rc fS179 rfl rfl (fun h => h) rfl]; exact O_S167
  have e182 : S179 1000 7 = S 1000 7 := (zz_rc fS179 rfl rfl (fun h => h) (zz_rc fS167 rfl rfl (fun h => h) rfl))
  have e183 : S179 1000 8 = S 1000 8 := (zz_rc fS179 rfl rfl (fun h => h) (zz_rc fS167 rfl rfl (fun h => h) rfl))
  have e184 : S179 1079 36 = S 1079 36 := (zz_rc fS179 rfl rfl (fun h => h) (zz_rc fS167 rfl rfl (fun h => h) rfl))
  have A_S179 : zn_A S179 := zn_A.fr A_S167 fS179 rfl rfl (fun b q h => h.elim) rfl rfl (by omega) (by omega) (by omega) (by omega)
  refine zz_lstore [some (.ref 998), some (.ref 1000), some (.ref 1079), some (.ref 1121), some (zi x4), some (zi v168), some (zl v180), none] zd_L_law_387 (by decide) rfl ?_
  refine zz_goto zd_L_law_389 ?_
  refine zz_iinc [some (.ref 998), some (.ref 1000), some (.ref 1079), some (.ref 1121), some (zi (x4 + 7)), some (zi v168), some (zl v180), none] zd_L_law_1208 rfl rfl ?_
  refine zz_goto zd_L_law_1211 ?_
  refine zz_less (ls1 := [some (.ref 998), some (.ref 1000), some (.ref 1079), some (.ref 1121), some (zi (x4 + 7))]) ⟨rfl, ⟨rfl, ⟨rfl, ⟨rfl, ⟨rfl, trivial⟩⟩⟩⟩⟩ ?_
  have g185 := zz_G.r G_S 1070 1 0 1500 rfl rfl
  have e186 : S179 1070 1 = S 1070 1 := (zz_rc fS179 rfl rfl (fun h => h) (zz_rc fS167 rfl rfl (fun h => h) rfl))
  have g187 := zz_G.r G_S 1079 28 0 1500 rfl rfl
  have e188 : S179 1079 28 = S 1079 28 := (zz_rc fS179 rfl rfl (fun h => h) (zz_rc fS167 rfl rfl (fun h => h) rfl))
  have g189 := zz_G.r G_S 1031 6 2 8 rfl rfl
  have e190 : S179 1031 6 = S 1031 6 := (zz_rc fS179 rfl rfl (fun h => h) (zz_rc fS167 rfl rfl (fun h => h) rfl))
  have g191 := zz_G.r G_S 1079 1 2 8 rfl rfl
  have e192 : S179 1079 1 = S 1079 1 := (zz_rc fS179 rfl rfl (fun h => h) (zz_rc fS167 rfl rfl (fun h => h) rfl))
  exact ih (x4 + 7) S179 (n + d169) (k + zr_wordOf_L.cells) (j + zr_wordOf_L.slots) G_S179 H_S179 R_S179 O_S179 (by omega) (by omega) (fun u h1 h2 => ((zz_rc fS179 (zz_nc1 rfl) rfl (fun h => h) (zz_rc fS167 (zz_nc1 rfl) rfl (fun h => h) rfl)) : S179 1100 u = S 1100 u).trans (N_S u h1 h2)) (fun i h1 h2 => ((zz_rc fS179 (zz_nc1 rfl) rfl (fun h => h) (zz_rc fS167 (zz_nc1 rfl) rfl (fun h => h) rfl)) : S179 1071 i.toNat = S 1071 i.toNat).trans ((U_S i h1 (by omega)).trans ((zz_rc fS179 (zz_nc1 rfl) rfl (fun h => h) (zz_rc fS167 (zz_nc1 rfl) rfl (fun h => h) rfl)) : S179 1099 i.toNat = S 1099 i.toNat).symm)) A_S179 hn170 (by omega) (by show ((k + 1 : Nat) : Int) ≤ 200 + (x4 + 7); omega) (by show ((j + 6 : Nat) : Int) ≤ 30000 + 6 * (x4 + 7); omega) (by omega)
theorem zl_6 {g : mm_G} {l : Launch} (hfl : l.flags = flags0) (hlen : g.2.2.2 997 ≤ 3584) (N : Nat) (ih : ∀ (x4 : Int) (S : zz_S) (n k j : Nat), zz_G S → zz_Hc S → zz_Hr S → 1 ≤ S 1079 36 → S 1070 1 = S 1079 28 → S 1031 6 = S 1079 1 → (∀ w : Nat, 1 ≤ w → w ≤ 20 → S 1100 w = zt_cd (zt_nw.getD w [])) → (∀ i : Int, 0 ≤ i → i < S 1070 1 → S 1071 i.toNat = S 1099 i.toNat) → zn_A S → zz_end ≤ n → (0 ≤ x4 ∧ x4 ≤ 3590) → (k : Int) ≤ 200 + x4 → (j : Int) ≤ 30000 + 6 * x4 → (3600 - x4).toNat < N → zz_E g l zy_law_L room_1 (fun u => ∃ M1 n1, u = (.inl (some (zi 1)), M1, n1)) S n 23 [some (.ref 998), some (.ref 1000), some (.ref 1079), some (.ref 1121), some (zi x4)] [] k j) (x4 : Int) (S : zz_S) (n k j : Nat) (G_S : zz_G S) (H_S : zz_Hc S) (R_S : zz_Hr S) (O_S : 1 ≤ S 1079 36) (T0_S : S 1070 1 = S 1079 28) (T1_S : S 1031 6 = S 1079 1) (N_S : ∀ w : Nat, 1 ≤ w → w ≤ 20 → S 1100 w = zt_cd (zt_nw.getD w [])) (U_S : ∀ i : Int, 0 ≤ i → i < S 1070 1 → S 1071 i.toNat = S 1099 i.toNat) (A_S : zn_A S) (hn : zz_end ≤ n) (hx : 0 ≤ x4 ∧ x4 ≤ 3590) (hkk : (k : Int) ≤ 200 + x4) (hjj : (j : Int) ≤ 30000 + 6 * x4) (hR : (3600 - x4).toNat < N + 1) (hc1 : x4 ≤ zz_ln g - 7) : zz_E g l zy_law_L room_1 (fun u => ∃ M1 n1, u = (.inl (some (zi 1)), M1, n1)) S n 392 [some (.ref 998), some (.ref 1000), some (.ref 1079), some (.ref 1121), some (zi x4)] [] k j := by
  have hln : 0 ≤ zz_ln g ∧ zz_ln g ≤ 3584 := ⟨Int.natCast_nonneg _, Int.ofNat_le.mpr hlen⟩
  have hk : k ≤ 601024 := by omega
  have hj : j ≤ 7293034 := by omega
  refine zz_aload_n (x := 1000) rfl zd_L_law_392 ?_
  refine zz_callVI [] zd_L_law_393 zk_TFLaw_125 zT_1000 (zz_ltn hn rfl) rfl rfl ⟨Nat.le_of_ble_eq_true rfl, Nat.le_of_ble_eq_true rfl⟩ ⟨rfl, rfl⟩ hk hj (zc_length_1_8  S (n) hn G_S ) (fun v195 S194 hP => ?_)
  obtain ⟨rfl, o196⟩ := hP
  refine zz_pop rfl zd_L_law_396 ?_
  refine zz_aload_n (x := 1079) rfl zd_L_law_397 ?_
  refine zz_callVI [] zd_L_law_398 zk_TFLaw_128 zT_1079 (zz_ltn hn rfl) rfl rfl ⟨Nat.le_of_ble_eq_true rfl, Nat.le_of_ble_eq_true rfl⟩ ⟨rfl, rfl⟩ hk hj (zc_length_14_17  S (n) hn G_S ) (fun v198 S197 hP => ?_)
  obtain ⟨G_S197, fS197, o199⟩ := hP
  have H_S197 : zz_Hc S197 := zz_Hc.fr (q := 0) fS197 rfl rfl G_S (by decide) rfl (fun b q h => h.elim) H_S
  have R_S197 : zz_Hr S197 := zz_Hr.fr fS197 rfl rfl (fun b q h => h.elim) R_S
  have O_S197 : 1 ≤ S197 1079 36 := by rw [show S197 1079 36 = S 1079 36 from zz_rc fS197 rfl rfl (fun h => h) rfl]; exact O_S
  have g200 := zz_G.r G_S 1000 7 0 1 rfl rfl
  have e201 : S197 1000 7 = S 1000 7 := (zz_rc fS197 rfl rfl (fun h => h) rfl)
  have g202 := zz_G.r G_S 1000 8 0 1 rfl rfl
  have e203 : S197 1000 8 = S 1000 8 := (zz_rc fS197 rfl rfl (fun h => h) rfl)
  have g204 := zz_G.r G_S 1079 36 0 11 rfl rfl
  have e205 : S197 1079 36 = S 1079 36 := (zz_rc fS197 rfl rfl (fun h => h) rfl)
  have A_S197 : zn_A S197 := zn_A.fr A_S fS197 rfl rfl (fun b q h => h.elim) rfl rfl (by omega) (by omega) (by omega) (by omega)
  refine zz_pop rfl zd_L_law_401 ?_
  refine zz_goto zd_L_law_402 ?_
  refine zz_iinc [some (.ref 998), some (.ref 1000), some (.ref 1079), some (.ref 1121), some (zi (x4 + 7))] zd_L_law_1208 rfl rfl ?_
  refine zz_goto zd_L_law_1211 ?_
  refine zz_less (ls1 := [some (.ref 998), some (.ref 1000), some (.ref 1079), some (.ref 1121), some (zi (x4 + 7))]) ⟨rfl, ⟨rfl, ⟨rfl, ⟨rfl, ⟨rfl, trivial⟩⟩⟩⟩⟩ ?_
  have g206 := zz_G.r G_S 1070 1 0 1500 rfl rfl
  have e207 : S197 1070 1 = S 1070 1 := (zz_rc fS197 rfl rfl (fun h => h) rfl)
  have g208 := zz_G.r G_S 1079 28 0 1500 rfl rfl
  have e209 : S197 1079 28 = S 1079 28 := (zz_rc fS197 rfl rfl (fun h => h) rfl)
  have g210 := zz_G.r G_S 1031 6 2 8 rfl rfl
  have e211 : S197 1031 6 = S 1031 6 := (zz_rc fS197 rfl rfl (fun h => h) rfl)
  have g212 := zz_G.r G_S 1079 1 2 8 rfl rfl
  have e213 : S197 1079 1 = S 1079 1 := (zz_rc fS197 rfl rfl (fun h => h) rfl)
  exact ih (x4 + 7) S197 (n) k j G_S197 H_S197 R_S197 O_S197 (by omega) (by omega) (fun u h1 h2 => ((zz_rc fS197 (zz_nc1 rfl) rfl (fun h => h) rfl) : S197 1100 u = S 1100 u).trans (N_S u h1 h2)) (fun i h1 h2 => ((zz_rc fS197 (zz_nc1 rfl) rfl (fun h => h) rfl) : S197 1071 i.toNat = S 1071 i.toNat).trans ((U_S i h1 (by omega)).trans ((zz_rc fS197 (zz_nc1 rfl) rfl (fun h => h) rfl) : S197 1099 i.toNat = S 1099 i.toNat).symm)) A_S197 hn (by omega) (by show ((k : Nat) : Int) ≤ 200 + (x4 + 7); omega) (by show ((j : Nat) : Int) ≤ 30000 + 6 * (x4 + 7); omega) (by omega)
theorem zl_7 {g : mm_G} {l : Launch} (hfl : l.flags = flags0) (hlen : g.2.2.2 997 ≤ 3584) (N : Nat) (ih : ∀ (x4 : Int) (S : zz_S) (n k j : Nat), zz_G S → zz_Hc S → zz_Hr S → 1 ≤ S 1079 36 → S 1070 1 = S 1079 28 → S 1031 6 = S 1079 1 → (∀ w : Nat, 1 ≤ w → w ≤ 20 → S 1100 w = zt_cd (zt_nw.getD w [])) → (∀ i : Int, 0 ≤ i → i < S 1070 1 → S 1071 i.toNat = S 1099 i.toNat) → zn_A S → zz_end ≤ n → (0 ≤ x4 ∧ x4 ≤ 3590) → (k : Int) ≤ 200 + x4 → (j : Int) ≤ 30000 + 6 * x4 → (3600 - x4).toNat < N → zz_E g l zy_law_L room_1 (fun u => ∃ M1 n1, u = (.inl (some (zi 1)), M1, n1)) S n 23 [some (.ref 998), some (.ref 1000), some (.ref 1079), some (.ref 1121), some (zi x4)] [] k j) (x4 : Int) (S : zz_S) (n k j : Nat) (G_S : zz_G S) (H_S : zz_Hc S) (R_S : zz_Hr S) (O_S : 1 ≤ S 1079 36) (T0_S : S 1070 1 = S 1079 28) (T1_S : S 1031 6 = S 1079 1) (N_S : ∀ w : Nat, 1 ≤ w → w ≤ 20 → S 1100 w = zt_cd (zt_nw.getD w [])) (U_S : ∀ i : Int, 0 ≤ i → i < S 1070 1 → S 1071 i.toNat = S 1099 i.toNat) (A_S : zn_A S) (hn : zz_end ≤ n) (hx : 0 ≤ x4 ∧ x4 ≤ 3590) (hkk : (k : Int) ≤ 200 + x4) (hjj : (j : Int) ≤ 30000 + 6 * x4) (hR : (3600 - x4).toNat < N + 1) (hc1 : x4 ≤ zz_ln g - 7) : zz_E g l zy_law_L room_1 (fun u => ∃ M1 n1, u = (.inl (some (zi 1)), M1, n1)) S n 405 [some (.ref 998), some (.ref 1000), some (.ref 1079), some (.ref 1121), some (zi x4)] [] k j := by
  have hln : 0 ≤ zz_ln g ∧ zz_ln g ≤ 3584 := ⟨Int.natCast_nonneg _, Int.ofNat_le.mpr hlen⟩
  have hk : k ≤ 601024 := by omega
  have hj : j ≤ 7293034 := by omega
  refine zz_aload_n (x := 1000) rfl zd_L_law_405 ?_
  refine zz_aload_n (x := 998) rfl zd_L_law_406 ?_
  refine zz_iload (x := x4) rfl zd_L_law_407 ?_
  refine zz_iconst zd_L_law_409 ?_
  refine zz_iadd zd_L_law_410 ?_
  refine zz_sld (by omega) zd_L_law_411 (by omega) ?_
  have g215 := zz_sc_r g (x4 + 1).toNat
  refine zz_i2l (by omega) zd_L_law_412 ?_
  refine zz_bipush (by decide) zd_L_law_413 ?_
  refine zz_lshl zd_L_law_415 (fun v216 hv216 ev216 => ?_)
  refine zz_aload_n (x := 998) rfl zd_L_law_416 ?_
  refine zz_iload (x := x4) rfl zd_L_law_417 ?_
  refine zz_iconst zd_L_law_419 ?_
  refine zz_iadd zd_L_law_420 ?_
  refine zz_sld (by omega) zd_L_law_421 (by omega) ?_
  have g217 := zz_sc_r g (x4 + 2).toNat
  refine zz_i2l (by omega) zd_L_law_422 ?_
  refine zz_ldc2 (z := 4294967295) zq_TFLaw_112 (by decide) zd_L_law_423 ?_
  refine zz_land zd_L_law_426 (fun v218 hv218 ev218 => ?_)
  have av218 := zz_band64 (by omega) (by omega) ev218
  refine zz_lor zd_L_law_427 (fun v219 hv219 ev219 => ?_)
  refine zz_aload_n (x := 998) rfl zd_L_law_428 ?_
  refine zz_iload (x := x4) rfl zd_L_law_429 ?_
  refine zz_iconst zd_L_law_431 ?_
  refine zz_iadd zd_L_law_432 ?_
  refine zz_sld (by omega) zd_L_law_433 (by omega) ?_
  have g220 := zz_sc_r g (x4 + 3).toNat
  refine zz_aload_n (x := 1121) rfl zd_L_law_434 ?_
  refine zz_callHW (rz := zr_field_L) [.ref 1000, zl v219, zi (zz_sc g (x4 + 3).toNat), .ref 1121] zd_L_law_435 zhl_field_L rfl rfl ⟨Nat.le_of_ble_eq_true rfl, Nat.le_of_ble_eq_true rfl⟩ (by show k + 1 ≤ 601024; omega) (by show j + 6 ≤ 7293034; omega) (zc_field_L v219 (zz_sc g (x4 + 3).toNat) S (n) hn hfl G_S (by omega) (by omega)) (fun v222 S221 d223 hd223 hP => ?_)
  obtain ⟨G_S221, fS221, rv222, o224, o225⟩ := hP
  have hn226 : zz_end ≤ n + d223 := by omega
  have hk227 : (k + zr_field_L.cells) ≤ 601024 := by show k + 1 ≤ 601024; omega
  have hj228 : (j + zr_field_L.slots) ≤ 7293034 := by show j + 6 ≤ 7293034; omega
  have H_S221 : zz_Hc S221 := zz_Hc.fr (q := 0) fS221 rfl rfl G_S (by decide) rfl (fun b q h => h.elim) H_S
  have R_S221 : zz_Hr S221 := zz_Hr.fr fS221 rfl rfl (fun b q h => h.elim) R_S
  have O_S221 : 1 ≤ S221 1079 36 := by rw [show S221 1079 36 = S 1079 36 from zz_rc fS221 rfl rfl (fun h => h) rfl]; exact O_S
  have g229 := zz_G.r G_S 1000 7 0 1 rfl rfl
  have e230 : S221 1000 7 = S 1000 7 := (zz_rc fS221 rfl rfl (fun h => h) rfl)
  have g231 := zz_G.r G_S 1000 8 0 1 rfl rfl
  have e232 : S221 1000 8 = S 1000 8 := (zz_rc fS221 rfl rfl (fun h => h) rfl)
  have g233 := zz_G.r G_S 1079 36 0 11 rfl rfl
  have e234 : S221 1079 36 = S 1079 36 := (zz_rc fS221 rfl rfl (fun h => h) rfl)
  have A_S221 : zn_A S221 := zn_A.fr A_S fS221 rfl rfl (fun b q h => h.elim) rfl rfl (by omega) (by omega) (by omega) (by omega)
  refine zz_istore [some (.ref 998), some (.ref 1000), some (.ref 1079), some (.ref 1121), some (zi x4), some (zi v222)] zd_L_law_438 (by decide) rfl ?_
  refine zz_aload_n (x := 1079) rfl zd_L_law_440 ?_
  refine zz_aload_n (x := 998) rfl zd_L_law_441 ?_
  refine zz_iload (x := x4) rfl zd_L_law_442 ?_
  refine zz_iconst zd_L_law_444 ?_
  refine zz_iadd zd_L_law_445 ?_
  refine zz_sld (by omega) zd_L_law_446 (by omega) ?_
  refine zz_i2l (by omega) zd_L_law_447 ?_
  refine zz_bipush (by decide) zd_L_law_448 ?_
  refine zz_lshl zd_L_law_450 (fun v235 hv235 ev235 => ?_)
  refine zz_aload_n (x := 998) rfl zd_L_law_451 ?_
  refine zz_iload (x := x4) rfl zd_L_law_452 ?_
  refine zz_iconst zd_L_law_454 ?_
  refine zz_iadd zd_L_law_455 ?_
  refine zz_sld (by omega) zd_L_law_456 (by omega) ?_
  refine zz_i2l (by omega) zd_L_law_457 ?_
  refine zz_ldc2 (z := 4294967295) zq_TFLaw_112 (by decide) zd_L_law_458 ?_
  refine zz_land zd_L_law_461 (fun v236 hv236 ev236 => ?_)
  have av236 := zz_band64 (by omega) (by omega) ev236
  refine zz_lor zd_L_law_462 (fun v237 hv237 ev237 => ?_)
  refine zz_aload_n (x := 998) rfl zd_L_law_463 ?_
  refine zz_iload (x := x4) rfl zd_L_law_464 ?_
  refine zz_iconst zd_L_law_466 ?_
  refine zz_iadd zd_L_law_467 ?_
  refine zz_sld (by omega) zd_L_law_468 (by omega) ?_
  refine zz_callVI [zl v237, zi (zz_sc g (x4 + 3).toNat)] zd_L_law_469 zk_TFLaw_132 zT_1079 (zz_ltn hn226 rfl) rfl rfl ⟨Nat.le_of_ble_eq_true rfl, Nat.le_of_ble_eq_true rfl⟩ ⟨rfl, rfl⟩ hk227 hj228 (zc_field_14_13 v237 (zz_sc g (x4 + 3).toNat) S221 (n + d223) hn226 G_S221 (by omega) (by omega)) (fun v239 S238 hP => ?_)
  obtain ⟨G_S238, fS238, o240, o241, o242⟩ := hP
  have H_S238 : zz_Hc S238 := zz_Hc.fr (q := 0) fS238 rfl rfl G_S221 (by decide) rfl (fun b q h => h.elim) H_S221
  have R_S238 : zz_Hr S238 := zz_Hr.fr fS238 rfl rfl (fun b q h => h.elim) R_S221
  have O_S238 : 1 ≤ S238 1079 36 := by rw [show S238 1079 36 = S221 1079 36 from zz_rc fS238 rfl rfl (fun h => h) rfl]; exact O_S221
  have e243 : S238 1000 7 = S 1000 7 := (zz_rc fS238 rfl rfl (fun h => h) (zz_rc fS221 rfl rfl (fun h => h) rfl))
  have e244 : S238 1000 8 = S 1000 8 := (zz_rc fS238 rfl rfl (fun h => h) (zz_rc fS221 rfl rfl (fun h => h) rfl))
  have e245 : S238 1079 36 = S 1079 36 := (zz_rc fS238 rfl rfl (fun h => h) (zz_rc fS221 rfl rfl (fun h => h) rfl))
  have A_S238 : zn_A S238 := zn_A.fr A_S221 fS238 rfl rfl (fun b q h => h.elim) rfl rfl (by omega) (by omega) (by omega) (by omega)
  refine zz_istore [some (.ref 998), some (.ref 1000), some (.ref 1079), some (.ref 1121), some (zi x4), some (zi v222), some (zi v239)] zd_L_law_472 (by decide) rfl ?_
  refine zz_goto zd_L_law_474 ?_
  refine zz_iinc [some (.ref 998), some (.ref 1000), some (.ref 1079), some (.ref 1121), some (zi (x4 + 7)), some (zi v222), some (zi v239)] zd_L_law_1208 rfl rfl ?_
  refine zz_goto zd_L_law_1211 ?_
  refine zz_less (ls1 := [some (.ref 998), some (.ref 1000), some (.ref 1079), some (.ref 1121), some (zi (x4 + 7))]) ⟨rfl, ⟨rfl, ⟨rfl, ⟨rfl, ⟨rfl, trivial⟩⟩⟩⟩⟩ ?_
  have g246 := zz_G.r G_S 1070 1 0 1500 rfl rfl
  have e247 : S238 1070 1 = S 1070 1 := (zz_rc fS238 rfl rfl (fun h => h) (zz_rc fS221 rfl rfl (fun h => h) rfl))
  have g248 := zz_G.r G_S 1079 28 0 1500 rfl rfl
  have e249 : S238 1079 28 = S 1079 28 := (zz_rc fS238 rfl rfl (fun h => h) (zz_rc fS221 rfl rfl (fun h => h) rfl))
  have g250 := zz_G.r G_S 1031 6 2 8 rfl rfl
  have e251 : S238 1031 6 = S 1031 6 := (zz_rc fS238 rfl rfl (fun h => h) (zz_rc fS221 rfl rfl (fun h => h) rfl))
  have g252 := zz_G.r G_S 1079 1 2 8 rfl rfl
  have e253 : S238 1079 1 = S 1079 1 := (zz_rc fS238 rfl rfl (fun h => h) (zz_rc fS221 rfl rfl (fun h => h) rfl))
  exact ih (x4 + 7) S238 (n + d223) (k + zr_field_L.cells) (j + zr_field_L.slots) G_S238 H_S238 R_S238 O_S238 (by omega) (by omega) (fun u h1 h2 => ((zz_rc fS238 (zz_nc1 rfl) rfl (fun h => h) (zz_rc fS221 (zz_nc1 rfl) rfl (fun h => h) rfl)) : S238 1100 u = S 1100 u).trans (N_S u h1 h2)) (fun i h1 h2 => ((zz_rc fS238 (zz_nc1 rfl) rfl (fun h => h) (zz_rc fS221 (zz_nc1 rfl) rfl (fun h => h) rfl)) : S238 1071 i.toNat = S 1071 i.toNat).trans ((U_S i h1 (by omega)).trans ((zz_rc fS238 (zz_nc1 rfl) rfl (fun h => h) (zz_rc fS221 (zz_nc1 rfl) rfl (fun h => h) rfl)) : S238 1099 i.toNat = S 1099 i.toNat).symm)) A_S238 hn226 (by omega) (by show ((k + 1 : Nat) : Int) ≤ 200 + (x4 + 7); omega) (by show ((j + 6 : Nat) : Int) ≤ 30000 + 6 * (x4 + 7); omega) (by omega)
theorem zl_8 {g : mm_G} {l : Launch} (hfl : l.flags = flags0) (hlen : g.2.2.2 997 ≤ 3584) (N : Nat) (ih : ∀ (x4 : Int) (S : zz_S) (n k j : Nat), zz_G S → zz_Hc S → zz_Hr S → 1 ≤ S 1079 36 → S 1070 1 = S 1079 28 → S 1031 6 = S 1079 1 → (∀ w : Nat, 1 ≤ w → w ≤ 20 → S 1100 w = zt_cd (zt_nw.getD w [])) → (∀ i : Int, 0 ≤ i → i < S 1070 1 → S 1071 i.toNat = S 1099 i.toNat) → zn_A S → zz_end ≤ n → (0 ≤ x4 ∧ x4 ≤ 3590) → (k : Int) ≤ 200 + x4 → (j : Int) ≤ 30000 + 6 * x4 → (3600 - x4).toNat < N → zz_E g l zy_law_L room_1 (fun u => ∃ M1 n1, u = (.inl (some (zi 1)), M1, n1)) S n 23 [some (.ref 998), some (.ref 1000), some (.ref 1079), some (.ref 1121), some (zi x4)] [] k j) (x4 : Int) (S : zz_S) (n k j : Nat) (G_S : zz_G S) (H_S : zz_Hc S) (R_S : zz_Hr S) (O_S : 1 ≤ S 1079 36) (T0_S : S 1070 1 = S 1079 28) (T1_S : S 1031 6 = S 1079 1) (N_S : ∀ w : Nat, 1 ≤ w → w ≤ 20 → S 1100 w = zt_cd (zt_nw.getD w [])) (U_S : ∀ i : Int, 0 ≤ i → i < S 1070 1 → S 1071 i.toNat = S 1099 i.toNat) (A_S : zn_A S) (hn : zz_end ≤ n) (hx : 0 ≤ x4 ∧ x4 ≤ 3590) (hkk : (k : Int) ≤ 200 + x4) (hjj : (j : Int) ≤ 30000 + 6 * x4) (hR : (3600 - x4).toNat < N + 1) (hc1 : x4 ≤ zz_ln g - 7) : zz_E g l zy_law_L room_1 (fun u => ∃ M1 n1, u = (.inl (some (zi 1)), M1, n1)) S n 477 [some (.ref 998), some (.ref 1000), some (.ref 1079), some (.ref 1121), some (zi x4)] [] k j := by
  have hln : 0 ≤ zz_ln g ∧ zz_ln g ≤ 3584 := ⟨Int.natCast_nonneg _, Int.ofNat_le.mpr hlen⟩
  have hk : k ≤ 601024 := by omega
  have hj : j ≤ 7293034 := by omega
  refine zz_aload_n (x := 1000) rfl zd_L_law_477 ?_
  refine zz_aload_n (x := 998) rfl zd_L_law_478 ?_
  refine zz_iload (x := x4) rfl zd_L_law_479 ?_
  refine zz_iconst zd_L_law_481 ?_
  refine zz_iadd zd_L_law_482 ?_
  refine zz_sld (by omega) zd_L_law_483 (by omega) ?_
  have g255 := zz_sc_r g (x4 + 1).toNat
  refine zz_i2l (by omega) zd_L_law_484 ?_
  refine zz_bipush (by decide) zd_L_law_485 ?_
  refine zz_lshl zd_L_law_487 (fun v256 hv256 ev256 => ?_)
  refine zz_aload_n (x := 998) rfl zd_L_law_488 ?_
  refine zz_iload (x := x4) rfl zd_L_law_489 ?_
  refine zz_iconst zd_L_law_491 ?_
  refine zz_iadd zd_L_law_492 ?_
  refine zz_sld (by omega) zd_L_law_493 (by omega) ?_
  have g257 := zz_sc_r g (x4 + 2).toNat
  refine zz_i2l (by omega) zd_L_law_494 ?_
  refine zz_ldc2 (z := 4294967295) zq_TFLaw_112 (by decide) zd_L_law_495 ?_
  refine zz_land zd_L_law_498 (fun v258 hv258 ev258 => ?_)
  have av258 := zz_band64 (by omega) (by omega) ev258
  refine zz_lor zd_L_law_499 (fun v259 hv259 ev259 => ?_)
  have g260 := zz_G.r G_S 1031 6 2 8 rfl rfl
  refine zz_callVI [zl v259] zd_L_law_500 zk_TFLaw_133 zT_1000 (zz_ltn hn rfl) rfl rfl ⟨Nat.le_of_ble_eq_true rfl, Nat.le_of_ble_eq_true rfl⟩ ⟨rfl, rfl⟩ hk hj (zc_illegal_1_10 v259 S (n) hn G_S (by omega)) (fun v262 S261 hP => ?_)
  obtain ⟨G_S261, fS261, o263, o264⟩ := hP
  have H_S261 : zz_Hc S261 := zz_Hc.fr (q := 0) fS261 rfl rfl G_S (by decide) rfl (fun b q h => h.elim) H_S
  have R_S261 : zz_Hr S261 := zz_Hr.fr fS261 rfl rfl (fun b q h => h.elim) R_S
  have O_S261 : 1 ≤ S261 1079 36 := by rw [show S261 1079 36 = S 1079 36 from zz_rc fS261 rfl rfl (fun h => h) rfl]; exact O_S
  have g265 := zz_G.r G_S 1000 7 0 1 rfl rfl
  have e266 : S261 1000 7 = S 1000 7 := (zz_rc fS261 rfl rfl (fun h => h) rfl)
  have g267 := zz_G.r G_S 1000 8 0 1 rfl rfl
  have e268 : S261 1000 8 = S 1000 8 := (zz_rc fS261 rfl rfl (fun h => h) rfl)
  have g269 := zz_G.r G_S 1079 36 0 11 rfl rfl
  have e270 : S261 1079 36 = S 1079 36 := (zz_rc fS261 rfl rfl (fun h => h) rfl)
  have A_S261 : zn_A S261 := zn_A.fr A_S fS261 rfl rfl (fun b q h => h.elim) rfl rfl (by omega) (by omega) (by omega) (by omega)
  rcases (by omega : v262 = 0 ∨ v262 = 1) with rfl | rfl
  · refine zz_pop rfl zd_L_law_503 ?_
    refine zz_aload_n (x := 1079) rfl zd_L_law_504 ?_
    refine zz_aload_n (x := 998) rfl zd_L_law_505 ?_
    refine zz_iload (x := x4) rfl zd_L_law_506 ?_
    refine zz_iconst zd_L_law_508 ?_
    refine zz_iadd zd_L_law_509 ?_
    refine zz_sld (by omega) zd_L_law_510 (by omega) ?_
    refine zz_i2l (by omega) zd_L_law_511 ?_
    refine zz_bipush (by decide) zd_L_law_512 ?_
    refine zz_lshl zd_L_law_514 (fun v271 hv271 ev271 => ?_)
    refine zz_aload_n (x := 998) rfl zd_L_law_515 ?_
    refine zz_iload (x := x4) rfl zd_L_law_516 ?_
    refine zz_iconst zd_L_law_518 ?_
    refine zz_iadd zd_L_law_519 ?_
    refine zz_sld (by omega) zd_L_law_520 (by omega) ?_
    refine zz_i2l (by omega) zd_L_law_521 ?_
    refine zz_ldc2 (z := 4294967295) zq_TFLaw_112 (by decide) zd_L_law_522 ?_
    refine zz_land zd_L_law_525 (fun v272 hv272 ev272 => ?_)
    have av272 := zz_band64 (by omega) (by omega) ev272
    refine zz_lor zd_L_law_526 (fun v273 hv273 ev273 => ?_)
    have g274 := zz_G.r G_S 1079 1 2 8 rfl rfl
    have e275 : S261 1079 1 = S 1079 1 := (zz_rc fS261 rfl rfl (fun h => h) rfl)
    refine zz_callVI [zl v273] zd_L_law_527 zk_TFLaw_137 zT_1079 (zz_ltn hn rfl) rfl rfl ⟨Nat.le_of_ble_eq_true rfl, Nat.le_of_ble_eq_true rfl⟩ ⟨rfl, rfl⟩ hk hj (zc_illegal_14_25 v273 S261 (n) hn G_S261 (by omega)) (fun v277 S276 hP => ?_)
    obtain ⟨G_S276, fS276, o278, o279, o280⟩ := hP
    have H_S276 : zz_Hc S276 := zz_Hc.fr (q := 0) fS276 rfl rfl G_S261 (by decide) rfl (fun b q h => h.elim) H_S261
    have R_S276 : zz_Hr S276 := zz_Hr.fr fS276 rfl rfl (fun b q h => h.elim) R_S261
    have O_S276 : 1 ≤ S276 1079 36 := by rw [show S276 1079 36 = S261 1079 36 from zz_rc fS276 rfl rfl (fun h => h) rfl]; exact O_S261
    have e281 : S276 1000 7 = S 1000 7 := (zz_rc fS276 rfl rfl (fun h => h) (zz_rc fS261 rfl rfl (fun h => h) rfl))
    have e282 : S276 1000 8 = S 1000 8 := (zz_rc fS276 rfl rfl (fun h => h) (zz_rc fS261 rfl rfl (fun h => h) rfl))
    have e283 : S276 1079 36 = S 1079 36 := (zz_rc fS276 rfl rfl (fun h => h) (zz_rc fS261 rfl rfl (fun h => h) rfl))
    have A_S276 : zn_A S276 := zn_A.fr A_S261 fS276 rfl rfl (fun b q h => h.elim) rfl rfl (by omega) (by omega) (by omega) (by omega)
    rcases (by omega : v277 = 0 ∨ v277 = 1) with rfl | rfl
    · refine zz_pop rfl zd_L_law_530 ?_
      refine zz_goto zd_L_law_531 ?_
      refine zz_iinc [some (.ref 998), some (.ref 1000), some (.ref 1079), some (.ref 1121), some (zi (x4 + 7))] zd_L_law_1208 rfl rfl ?_
      refine zz_goto zd_L_law_1211 ?_
      refine zz_less (ls1 := [some (.ref 998), some (.ref 1000), some (.ref 1079), some (.ref 1121), some (zi (x4 + 7))]) ⟨rfl, ⟨rfl, ⟨rfl, ⟨rfl, ⟨rfl, trivial⟩⟩⟩⟩⟩ ?_
      have g284 := zz_G.r G_S 1070 1 0 1500 rfl rfl
      have e285 : S276 1070 1 = S 1070 1 := (zz_rc fS276 rfl rfl (fun h => h) (zz_rc fS261 rfl rfl (fun h => h) rfl))
      have g286 := zz_G.r G_S 1079 28 0 1500 rfl rfl
      have e287 : S276 1079 28 = S 1079 28 := (zz_rc fS276 rfl rfl (fun h => h) (zz_rc fS261 rfl rfl (fun h => h) rfl))
      have e288 : S276 1031 6 = S 1031 6 := (zz_rc fS276 rfl rfl (fun h => h) (zz_rc fS261 rfl rfl (fun h => h) rfl))
      have e289 : S276 1079 1 = S 1079 1 := (zz_rc fS276 rfl rfl (fun h => h) (zz_rc fS261 rfl rfl (fun h => h) rfl))
      exact ih (x4 + 7) S276 (n) k j G_S276 H_S276 R_S276 O_S276 (by omega) (by omega) (fun u h1 h2 => ((zz_rc fS276 (zz_nc1 rfl) rfl (fun h => h) (zz_rc fS261 (zz_nc1 rfl) rfl (fun h => h) rfl)) : S276 1100 u = S 1100 u).trans (N_S u h1 h2)) (fun i h1 h2 => ((zz_rc fS276 (zz_nc1 rfl) rfl (fun h => h) (zz_rc fS261 (zz_nc1 rfl) rfl (fun h => h) rfl)) : S276 1071 i.toNat = S 1071 i.toNat).trans ((U_S i h1 (by omega)).trans ((zz_rc fS276 (zz_nc1 rfl) rfl (fun h => h) (zz_rc fS261 (zz_nc1 rfl) rfl (fun h => h) rfl)) : S276 1099 i.toNat = S 1099 i.toNat).symm)) A_S276 hn (by omega) (by show ((k : Nat) : Int) ≤ 200 + (x4 + 7); omega) (by show ((j : Nat) : Int) ≤ 30000 + 6 * (x4 + 7); omega) (by omega)
    · refine zz_pop rfl zd_L_law_530 ?_
      refine zz_goto zd_L_law_531 ?_
      refine zz_iinc [some (.ref 998), some (.ref 1000), some (.ref 1079), some (.ref 1121), some (zi (x4 + 7))] zd_L_law_1208 rfl rfl ?_
      refine zz_goto zd_L_law_1211 ?_
      refine zz_less (ls1 := [some (.ref 998), some (.ref 1000), some (.ref 1079), some (.ref 1121), some (zi (x4 + 7))]) ⟨rfl, ⟨rfl, ⟨rfl, ⟨rfl, ⟨rfl, trivial⟩⟩⟩⟩⟩ ?_
      have g290 := zz_G.r G_S 1070 1 0 1500 rfl rfl
      have e291 : S276 1070 1 = S 1070 1 := (zz_rc fS276 rfl rfl (fun h => h) (zz_rc fS261 rfl rfl (fun h => h) rfl))
      have g292 := zz_G.r G_S 1079 28 0 1500 rfl rfl
      have e293 : S276 1079 28 = S 1079 28 := (zz_rc fS276 rfl rfl (fun h => h) (zz_rc fS261 rfl rfl (fun h => h) rfl))
      have e294 : S276 1031 6 = S 1031 6 := (zz_rc fS276 rfl rfl (fun h => h) (zz_rc fS261 rfl rfl (fun h => h) rfl))
      have e295 : S276 1079 1 = S 1079 1 := (zz_rc fS276 rfl rfl (fun h => h) (zz_rc fS261 rfl rfl (fun h => h) rfl))
      exact ih (x4 + 7) S276 (n) k j G_S276 H_S276 R_S276 O_S276 (by omega) (by omega) (fun u h1 h2 => ((zz_rc fS276 (zz_nc1 rfl) rfl (fun h => h) (zz_rc fS261 (zz_nc1 rfl) rfl (fun h => h) rfl)) : S276 1100 u = S 1100 u).trans (N_S u h1 h2)) (fun i h1 h2 => ((zz_rc fS276 (zz_nc1 rfl) rfl (fun h => h) (zz_rc fS261 (zz_nc1 rfl) rfl (fun h => h) rfl)) : S276 1071 i.toNat = S 1071 i.toNat).trans ((U_S i h1 (by omega)).trans ((zz_rc fS276 (zz_nc1 rfl) rfl (fun h => h) (zz_rc fS261 (zz_nc1 rfl) rfl (fun h => h) rfl)) : S276 1099 i.toNat = S 1099 i.toNat).symm)) A_S276 hn (by omega) (by show ((k : Nat) : Int) ≤ 200 + (x4 + 7); omega) (by show ((j : Nat) : Int) ≤ 30000 + 6 * (x4 + 7); omega) (by omega)
  · refine zz_pop rfl zd_L_law_503 ?_
    refine zz_aload_n (x := 1079) rfl zd_L_law_504 ?_
    refine zz_aload_n (x := 998) rfl zd_L_law_505 ?_
    refine zz_iload (x := x4) rfl zd_L_law_506 ?_
    refine zz_iconst zd_L_law_508 ?_
    refine zz_iadd zd_L_law_509 ?_
    refine zz_sld (by omega) zd_L_law_510 (by omega) ?_
    refine zz_i2l (by omega) zd_L_law_511 ?_
    refine zz_bipush (by decide) zd_L_law_512 ?_
    refine zz_lshl zd_L_law_514 (fun v296 hv296 ev296 => ?_)
    refine zz_aload_n (x := 998) rfl zd_L_law_515 ?_
    refine zz_iload (x := x4) rfl zd_L_law_516 ?_
    refine zz_iconst zd_L_law_518 ?_
    refine zz_iadd zd_L_law_519 ?_
    refine zz_sld (by omega) zd_L_law_520 (by omega) ?_
    refine zz_i2l (by omega) zd_L_law_521 ?_
    refine zz_ldc2 (z := 4294967295) zq_TFLaw_112 (by decide) zd_L_law_522 ?_
    refine zz_land zd_L_law_525 (fun v297 hv297 ev297 => ?_)
    have av297 := zz_band64 (by omega) (by omega) ev297
    refine zz_lor zd_L_law_526 (fun v298 hv298 ev298 => ?_)
    have g299 := zz_G.r G_S 1079 1 2 8 rfl rfl
    have e300 : S261 1079 1 = S 1079 1 := (zz_rc fS261 rfl rfl (fun h => h) rfl)
    refine zz_callVI [zl v298] zd_L_law_527 zk_TFLaw_137 zT_1079 (zz_ltn hn rfl) rfl rfl ⟨Nat.le_of_ble_eq_true rfl, Nat.le_of_ble_eq_true rfl⟩ ⟨rfl, rfl⟩ hk hj (zc_illegal_14_25 v298 S261 (n) hn G_S261 (by omega)) (fun v302 S301 hP => ?_)
    obtain ⟨G_S301, fS301, o303, o304, o305⟩ := hP
    have H_S301 : zz_Hc S301 := zz_Hc.fr (q := 0) fS301 rfl rfl G_S261 (by decide) rfl (fun b q h => h.elim) H_S261
    have R_S301 : zz_Hr S301 := zz_Hr.fr fS301 rfl rfl (fun b q h => h.elim) R_S261
    have O_S301 : 1 ≤ S301 1079 36 := by rw [show S301 1079 36 = S261 1079 36 from zz_rc fS301 rfl rfl (fun h => h) rfl]; exact O_S261
    have e306 : S301 1000 7 = S 1000 7 := (zz_rc fS301 rfl rfl (fun h => h) (zz_rc fS261 rfl rfl (fun h => h) rfl))
    have e307 : S301 1000 8 = S 1000 8 := (zz_rc fS301 rfl rfl (fun h => h) (zz_rc fS261 rfl rfl (fun h => h) rfl))
    have e308 : S301 1079 36 = S 1079 36 := (zz_rc fS301 rfl rfl (fun h => h) (zz_rc fS261 rfl rfl (fun h => h) rfl))
    have A_S301 : zn_A S301 := zn_A.fr A_S261 fS301 rfl rfl (fun b q h => h.elim) rfl rfl (by omega) (by omega) (by omega) (by omega)
    rcases (by omega : v302 = 0 ∨ v302 = 1) with rfl | rfl
    · refine zz_pop rfl zd_L_law_530 ?_
      refine zz_goto zd_L_law_531 ?_
      refine zz_iinc [some (.ref 998), some (.ref 1000), some (.ref 1079), some (.ref 1121), some (zi (x4 + 7))] zd_L_law_1208 rfl rfl ?_
      refine zz_goto zd_L_law_1211 ?_
      refine zz_less (ls1 := [some (.ref 998), some (.ref 1000), some (.ref 1079), some (.ref 1121), some (zi (x4 + 7))]) ⟨rfl, ⟨rfl, ⟨rfl, ⟨rfl, ⟨rfl, trivial⟩⟩⟩⟩⟩ ?_
      have g309 := zz_G.r G_S 1070 1 0 1500 rfl rfl
      have e310 : S301 1070 1 = S 1070 1 := (zz_rc fS301 rfl rfl (fun h => h) (zz_rc fS261 rfl rfl (fun h => h) rfl))
      have g311 := zz_G.r G_S 1079 28 0 1500 rfl rfl
      have e312 : S301 1079 28 = S 1079 28 := (zz_rc fS301 rfl rfl (fun h => h) (zz_rc fS261 rfl rfl (fun h => h) rfl))
      have e313 : S301 1031 6 = S 1031 6 := (zz_rc fS301 rfl rfl (fun h => h) (zz_rc fS261 rfl rfl (fun h => h) rfl))
      have e314 : S301 1079 1 = S 1079 1 := (zz_rc fS301 rfl rfl (fun h => h) (zz_rc fS261 rfl rfl (fun h => h) rfl))
      exact ih (x4 + 7) S301 (n) k j G_S301 H_S301 R_S301 O_S301 (by omega) (by omega) (fun u h1 h2 => ((zz_rc fS301 (zz_nc1 rfl) rfl (fun h => h) (zz_rc fS261 (zz_nc1 rfl) rfl (fun h => h) rfl)) : S301 1100 u = S 1100 u).trans (N_S u h1 h2)) (fun i h1 h2 => ((zz_rc fS301 (zz_nc1 rfl) rfl (fun h => h) (zz_rc fS261 (zz_nc1 rfl) rfl (fun h => h) rfl)) : S301 1071 i.toNat = S 1071 i.toNat).trans ((U_S i h1 (by omega)).trans ((zz_rc fS301 (zz_nc1 rfl) rfl (fun h => h) (zz_rc fS261 (zz_nc1 rfl) rfl (fun h => h) rfl)) : S301 1099 i.toNat = S 1099 i.toNat).symm)) A_S301 hn (by omega) (by show ((k : Nat) : Int) ≤ 200 + (x4 + 7); omega) (by show ((j : Nat) : Int) ≤ 30000 + 6 * (x4 + 7); omega) (by omega)
    · refine zz_pop rfl zd_L_law_530 ?_
      refine zz_goto zd_L_law_531 ?_
      refine zz_iinc [some (.ref 998), some (.ref 1000), some (.ref 1079), some (.ref 1121), some (zi (x4 + 7))] zd_L_law_1208 rfl rfl ?_
      refine zz_goto zd_L_law_1211 ?_
      refine zz_less (ls1 := [some (.ref 998), some (.ref 1000), some (.ref 1079), some (.ref 1121), some (zi (x4 + 7))]) ⟨rfl, ⟨rfl, ⟨rfl, ⟨rfl, ⟨rfl, trivial⟩⟩⟩⟩⟩ ?_
      have g315 := zz_G.r G_S 1070 1 0 1500 rfl rfl
      have e316 : S301 1070 1 = S 1070 1 := (zz_rc fS301 rfl rfl (fun h => h) (zz_rc fS261 rfl rfl (fun h => h) rfl))
      have g317 := zz_G.r G_S 1079 28 0 1500 rfl rfl
      have e318 : S301 1079 28 = S 1079 28 := (zz_rc fS301 rfl rfl (fun h => h) (zz_rc fS261 rfl rfl (fun h => h) rfl))
      have e319 : S301 1031 6 = S 1031 6 := (zz_rc fS301 rfl rfl (fun h => h) (zz_rc fS261 rfl rfl (fun h => h) rfl))
      have e320 : S301 1079 1 = S 1079 1 := (zz_rc fS301 rfl rfl (fun h => h) (zz_rc fS261 rfl rfl (fun h => h) rfl))
      exact ih (x4 + 7) S301 (n) k j G_S301 H_S301 R_S301 O_S301 (by omega) (by omega) (fun u h1 h2 => ((zz_rc fS301 (zz_nc1 rfl) rfl (fun h => h) (zz_rc fS261 (zz_nc1 rfl) rfl (fun h => h) rfl)) : S301 1100 u = S 1100 u).trans (N_S u h1 h2)) (fun i h1 h2 => ((zz_rc fS301 (zz_nc1 rfl) rfl (fun h => h) (zz_rc fS261 (zz_nc1 rfl) rfl (fun h => h) rfl)) : S301 1071 i.toNat = S 1071 i.toNat).trans ((U_S i h1 (by omega)).trans ((zz_rc fS301 (zz_nc1 rfl) rfl (fun h => h) (zz_rc fS261 (zz_nc1 rfl) rfl (fun h => h) rfl)) : S301 1099 i.toNat = S 1099 i.toNat).symm)) A_S301 hn (by omega) (by show ((k : Nat) : Int) ≤ 200 + (x4 + 7); omega) (by show ((j : Nat) : Int) ≤ 30000 + 6 * (x4 + 7); omega) (by omega)
theorem zl_9 {g : mm_G} {l : Launch} (hfl : l.flags = flags0) (hlen : g.2.2.2 997 ≤ 3584) (N : Nat) (ih : ∀ (x4 : Int) (S : zz_S) (n k j : Nat), zz_G S → zz_Hc S → zz_Hr S → 1 ≤ S 1079 36 → S 1070 1 = S 1079 28 → S 1031 6 = S 1079 1 → (∀ w : Nat, 1 ≤ w → w ≤ 20 → S 1100 w = zt_cd (zt_nw.getD w [])) → (∀ i : Int, 0 ≤ i → i < S 1070 1 → S 1071 i.toNat = S 1099 i.toNat) → zn_A S → zz_end ≤ n → (0 ≤ x4 ∧ x4 ≤ 3590) → (k : Int) ≤ 200 + x4 → (j : Int) ≤ 30000 + 6 * x4 → (3600 - x4).toNat < N → zz_E g l zy_law_L room_1 (fun u => ∃ M1 n1, u = (.inl (some (zi 1)), M1, n1)) S n 23 [some (.ref 998), some (.ref 1000), some (.ref 1079), some (.ref 1121), some (zi x4)] [] k j) (x4 : Int) (S : zz_S) (n k j : Nat) (G_S : zz_G S) (H_S : zz_Hc S) (R_S : zz_Hr S) (O_S : 1 ≤ S 1079 36) (T0_S : S 1070 1 = S 1079 28) (T1_S : S 1031 6 = S 1079 1) (N_S : ∀ w : Nat, 1 ≤ w → w ≤ 20 → S 1100 w = zt_cd (zt_nw.getD w [])) (U_S : ∀ i : Int, 0 ≤ i → i < S 1070 1 → S 1071 i.toNat = S 1099 i.toNat) (A_S : zn_A S) (hn : zz_end ≤ n) (hx : 0 ≤ x4 ∧ x4 ≤ 3590) (hkk : (k : Int) ≤ 200 + x4) (hjj : (j : Int) ≤ 30000 + 6 * x4) (hR : (3600 - x4).toNat < N + 1) (hc1 : x4 ≤ zz_ln g - 7) : zz_E g l zy_law_L room_1 (fun u => ∃ M1 n1, u = (.inl (some (zi 1)), M1, n1)) S n 534 [some (.ref 998), some (.ref 1000), some (.ref 1079), some (.ref 1121), some (zi x4)] [] k j := by
  have hln : 0 ≤ zz_ln g ∧ zz_ln g ≤ 3584 := ⟨Int.natCast_nonneg _, Int.ofNat_le.mpr hlen⟩
  have hk : k ≤ 601024 := by omega
  have hj : j ≤ 7293034 := by omega
  refine zz_aload_n (x := 1000) rfl zd_L_law_534 ?_
  refine zz_aload_n (x := 998) rfl zd_L_law_535 ?_
  refine zz_iload (x := x4) rfl zd_L_law_536 ?_
  refine zz_iconst zd_L_law_538 ?_
  refine zz_iadd zd_L_law_539 ?_
  refine zz_sld (by omega) zd_L_law_540 (by omega) ?_
  have g322 := zz_sc_r g (x4 + 1).toNat
  refine zz_aload_n (x := 1121) rfl zd_L_law_541 ?_
  refine zz_callHW (rz := zr_put_L) [.ref 1000, zi (zz_sc g (x4 + 1).toNat), .ref 1121] zd_L_law_542 zhl_put_L rfl rfl ⟨Nat.le_of_ble_eq_true rfl, Nat.le_of_ble_eq_true rfl⟩ (by show k + 1 ≤ 601024; omega) (by show j + 6 ≤ 7293034; omega) (zc_put_L (zz_sc g (x4 + 1).toNat) S (n) hn hfl G_S (by omega)) (fun v324 S323 d325 hd325 hP => ?_)
  obtain ⟨G_S323, fS323, rv324, o326, o327⟩ := hP
  have hn328 : zz_end ≤ n + d325 := by omega
  have hk329 : (k + zr_put_L.cells) ≤ 601024 := by show k + 1 ≤ 601024; omega
  have hj330 : (j + zr_put_L.slots) ≤ 7293034 := by show j + 6 ≤ 7293034; omega
  have H_S323 : zz_Hc S323 := zz_Hc.fr (q := 0) fS323 rfl rfl G_S (by decide) rfl (fun b q h => h.elim) H_S
  have R_S323 : zz_Hr S323 := zz_Hr.fr fS323 rfl rfl (fun b q h => h.elim) R_S
  have O_S323 : 1 ≤ S323 1079 36 := by rw [show S323 1079 36 = S 1079 36 from zz_rc fS323 rfl rfl (fun h => h) rfl]; exact O_S
  have g331 := zz_G.r G_S 1000 7 0 1 rfl rfl
  have e332 : S323 1000 7 = S 1000 7 := (zz_rc fS323 rfl rfl (fun h => h) rfl)
  have g333 := zz_G.r G_S 1000 8 0 1 rfl rfl
  have e334 : S323 1000 8 = S 1000 8 := (zz_rc fS323 rfl rfl (fun h => h) rfl)
  have g335 := zz_G.r G_S 1079 36 0 11 rfl rfl
  have e336 : S323 1079 36 = S 1079 36 := (zz_rc fS323 rfl rfl (fun h => h) rfl)
  have A_S323 : zn_A S323 := zn_A.fr A_S fS323 rfl rfl (fun b q h => h.elim) rfl rfl (by omega) (by omega) (by omega) (by omega)
  refine zz_istore [some (.ref 998), some (.ref 1000), some (.ref 1079), some (.ref 1121), some (zi x4), some (zi v324)] zd_L_law_545 (by decide) rfl ?_
  refine zz_aload_n (x := 1079) rfl zd_L_law_547 ?_
  refine zz_aload_n (x := 998) rfl zd_L_law_548 ?_
  refine zz_iload (x := x4) rfl zd_L_law_549 ?_
  refine zz_iconst zd_L_law_551 ?_
  refine zz_iadd zd_L_law_552 ?_
  refine zz_sld (by omega) zd_L_law_553 (by omega) ?_
  have g337 := zz_G.r G_S 1079 28 0 1500 rfl rfl
  have e338 : S323 1079 28 = S 1079 28 := (zz_rc fS323 rfl rfl (fun h => h) rfl)
  refine zz_callVI [zi (zz_sc g (x4 + 1).toNat)] zd_L_law_554 zk_TFLaw_140 zT_1079 (zz_ltn hn328 rfl) rfl rfl ⟨Nat.le_of_ble_eq_true rfl, Nat.le_of_ble_eq_true rfl⟩ ⟨rfl, rfl⟩ hk329 hj330 (zc_put_14_47 (zz_sc g (x4 + 1).toNat) S323 (n + d325) hn328 G_S323 (by omega)) (fun v340 S339 hP => ?_)
  obtain ⟨G_S339, fS339, o341, o342, o343⟩ := hP
  have H_S339 : zz_Hc S339 := zz_Hc.fr (q := 0) fS339 rfl rfl G_S323 (by decide) rfl (fun b q h => h.elim) H_S323
  have R_S339 : zz_Hr S339 := zz_Hr.fr fS339 rfl rfl (fun b q h => h.elim) R_S323
  have O_S339 : 1 ≤ S339 1079 36 := by rw [show S339 1079 36 = S323 1079 36 from zz_rc fS339 rfl rfl (fun h => h) rfl]; exact O_S323
  have e344 : S339 1000 7 = S 1000 7 := (zz_rc fS339 rfl rfl (fun h => h) (zz_rc fS323 rfl rfl (fun h => h) rfl))
  have e345 : S339 1000 8 = S 1000 8 := (zz_rc fS339 rfl rfl (fun h => h) (zz_rc fS323 rfl rfl (fun h => h) rfl))
  have e346 : S339 1079 36 = S 1079 36 := (zz_rc fS339 rfl rfl (fun h => h) (zz_rc fS323 rfl rfl (fun h => h) rfl))
  have A_S339 : zn_A S339 := zn_A.fr A_S323 fS339 rfl rfl (fun b q h => h.elim) rfl rfl (by omega) (by omega) (by omega) (by omega)
  refine zz_istore [some (.ref 998), some (.ref 1000), some (.ref 1079), some (.ref 1121), some (zi x4), some (zi v324), some (zi v340)] zd_L_law_557 (by decide) rfl ?_
  refine zz_goto zd_L_law_559 ?_
  refine zz_iinc [some (.ref 998), some (.ref 1000), some (.ref 1079), some (.ref 1121), some (zi (x4 + 7)), some (zi v324), some (zi v340)] zd_L_law_1208 rfl rfl ?_
  refine zz_goto zd_L_law_1211 ?_
  refine zz_less (ls1 := [some (.ref 998), some (.ref 1000), some (.ref 1079), some (.ref 1121), some (zi (x4 + 7))]) ⟨rfl, ⟨rfl, ⟨rfl, ⟨rfl, ⟨rfl, trivial⟩⟩⟩⟩⟩ ?_
  have g347 := zz_G.r G_S323 1070 1 0 1500 rfl rfl
  have e348 : S339 1070 1 = S323 1070 1 := (zz_rc fS339 rfl rfl (fun h => h) rfl)
  have g349 := zz_G.r G_S339 1079 28 0 1500 rfl rfl
  have g350 := zz_G.r G_S 1031 6 2 8 rfl rfl
  have e351 : S339 1031 6 = S 1031 6 := (zz_rc fS339 rfl rfl (fun h => h) (zz_rc fS323 rfl rfl (fun h => h) rfl))
  have g352 := zz_G.r G_S 1079 1 2 8 rfl rfl
  have e353 : S339 1079 1 = S 1079 1 := (zz_rc fS339 rfl rfl (fun h => h) (zz_rc fS323 rfl rfl (fun h => h) rfl))
  have hp1 := o327
  have hp2 := o343
  rw [show S323 1099 = S 1099 from funext (fun u => ((zz_rc fS323 (zz_nc1 rfl) rfl (fun h => h) rfl) : S323 1099 u = S 1099 u))] at hp2
  rw [show S323 1071 = S339 1071 from funext (fun u => ((zz_rc fS339 (zz_nc1 rfl) rfl (fun h => h) rfl) : S339 1071 u = S323 1071 u).symm)] at hp1
  exact ih (x4 + 7) S339 (n + d325) (k + zr_put_L.cells) (j + zr_put_L.slots) G_S339 H_S339 R_S339 O_S339 (by omega) (by omega) (fun u h1 h2 => ((zz_rc fS339 (zz_nc1 rfl) rfl (fun h => h) (zz_rc fS323 (zz_nc1 rfl) rfl (fun h => h) rfl)) : S339 1100 u = S 1100 u).trans (N_S u h1 h2)) (zt_ptU (by omega) U_S hp1 hp2 (by omega) (by omega) (by omega)) A_S339 hn328 (by omega) (by show ((k + 1 : Nat) : Int) ≤ 200 + (x4 + 7); omega) (by show ((j + 6 : Nat) : Int) ≤ 30000 + 6 * (x4 + 7); omega) (by omega)
theorem zl_10 {g : mm_G} {l : Launch} (hfl : l.flags = flags0) (hlen : g.2.2.2 997 ≤ 3584) (N : Nat) (ih : ∀ (x4 : Int) (S : zz_S) (n k j : Nat), zz_G S → zz_Hc S → zz_Hr S → 1 ≤ S 1079 36 → S 1070 1 = S 1079 28 → S 1031 6 = S 1079 1 → (∀ w : Nat, 1 ≤ w → w ≤ 20 → S 1100 w = zt_cd (zt_nw.getD w [])) → (∀ i : Int, 0 ≤ i → i < S 1070 1 → S 1071 i.toNat = S 1099 i.toNat) → zn_A S → zz_end ≤ n → (0 ≤ x4 ∧ x4 ≤ 3590) → (k : Int) ≤ 200 + x4 → (j : Int) ≤ 30000 + 6 * x4 → (3600 - x4).toNat < N → zz_E g l zy_law_L room_1 (fun u => ∃ M1 n1, u = (.inl (some (zi 1)), M1, n1)) S n 23 [some (.ref 998), some (.ref 1000), some (.ref 1079), some (.ref 1121), some (zi x4)] [] k j) (x4 : Int) (S : zz_S) (n k j : Nat) (G_S : zz_G S) (H_S : zz_Hc S) (R_S : zz_Hr S) (O_S : 1 ≤ S 1079 36) (T0_S : S 1070 1 = S 1079 28) (T1_S : S 1031 6 = S 1079 1) (N_S : ∀ w : Nat, 1 ≤ w → w ≤ 20 → S 1100 w = zt_cd (zt_nw.getD w [])) (U_S : ∀ i : Int, 0 ≤ i → i < S 1070 1 → S 1071 i.toNat = S 1099 i.toNat) (A_S : zn_A S) (hn : zz_end ≤ n) (hx : 0 ≤ x4 ∧ x4 ≤ 3590) (hkk : (k : Int) ≤ 200 + x4) (hjj : (j : Int) ≤ 30000 + 6 * x4) (hR : (3600 - x4).toNat < N + 1) (hc1 : x4 ≤ zz_ln g - 7) : zz_E g l zy_law_L room_1 (fun u => ∃ M1 n1, u = (.inl (some (zi 1)), M1, n1)) S n 562 [some (.ref 998), some (.ref 1000), some (.ref 1079), some (.ref 1121), some (zi x4)] [] k j := by
  have hln : 0 ≤ zz_ln g ∧ zz_ln g ≤ 3584 := ⟨Int.natCast_nonneg _, Int.ofNat_le.mpr hlen⟩
  have hk : k ≤ 601024 := by omega
  have hj : j ≤ 7293034 := by omega
  refine zz_aload_n (x := 1000) rfl zd_L_law_562 ?_
  refine zz_aload_n (x := 998) rfl zd_L_law_563 ?_
  refine zz_iload (x := x4) rfl zd_L_law_564 ?_
  refine zz_iconst zd_L_law_566 ?_
  refine zz_iadd zd_L_law_567 ?_
  refine zz_sld (by omega) zd_L_law_568 (by omega) ?_
  have g355 := zz_sc_r g (x4 + 1).toNat
  refine zz_callHW (rz := zr_end_L) [.ref 1000, zi (zz_sc g (x4 + 1).toNat)] zd_L_law_569 zhl_end_L rfl rfl ⟨Nat.le_of_ble_eq_true rfl, Nat.le_of_ble_eq_true rfl⟩ (by show k + 1 ≤ 601024; omega) (by show j + 6 ≤ 7293034; omega) (zc_end_L (zz_sc g (x4 + 1).toNat) S (n) hn hfl G_S (by omega)) (fun v357 S356 d358 hd358 hP => ?_)
  obtain ⟨G_S356, fS356, rv357, o359⟩ := hP
  have hn360 : zz_end ≤ n + d358 := by omega
  have hk361 : (k + zr_end_L.cells) ≤ 601024 := by show k + 1 ≤ 601024; omega
  have hj362 : (j + zr_end_L.slots) ≤ 7293034 := by show j + 6 ≤ 7293034; omega
  have H_S356 : zz_Hc S356 := zz_Hc.fr (q := 0) fS356 rfl rfl G_S (by decide) rfl (fun b q h => h.elim) H_S
  have R_S356 : zz_Hr S356 := zz_Hr.fr fS356 rfl rfl (fun b q h => h.elim) R_S
  have O_S356 : 1 ≤ S356 1079 36 := by rw [show S356 1079 36 = S 1079 36 from zz_rc fS356 rfl rfl (fun h => h) rfl]; exact O_S
  have g363 := zz_G.r G_S 1000 7 0 1 rfl rfl
  have e364 : S356 1000 7 = S 1000 7 := (zz_rc fS356 rfl rfl (fun h => h) rfl)
  have g365 := zz_G.r G_S 1000 8 0 1 rfl rfl
  have e366 : S356 1000 8 = S 1000 8 := (zz_rc fS356 rfl rfl (fun h => h) rfl)
  have g367 := zz_G.r G_S 1079 36 0 11 rfl rfl
  have e368 : S356 1079 36 = S 1079 36 := (zz_rc fS356 rfl rfl (fun h => h) rfl)
  have A_S356 : zn_A S356 := zn_A.fr A_S fS356 rfl rfl (fun b q h => h.elim) rfl rfl (by omega) (by omega) (by omega) (by omega)
  refine zz_istore [some (.ref 998), some (.ref 1000), some (.ref 1079), some (.ref 1121), some (zi x4), some (zi v357)] zd_L_law_572 (by decide) rfl ?_
  refine zz_aload_n (x := 1079) rfl zd_L_law_574 ?_
  refine zz_aload_n (x := 998) rfl zd_L_law_575 ?_
  refine zz_iload (x := x4) rfl zd_L_law_576 ?_
  refine zz_iconst zd_L_law_578 ?_
  refine zz_iadd zd_L_law_579 ?_
  refine zz_sld (by omega) zd_L_law_580 (by omega) ?_
  have g369 := zz_G.r G_S 1079 28 0 1500 rfl rfl
  have e370 : S356 1079 28 = S 1079 28 := (zz_rc fS356 rfl rfl (fun h => h) rfl)
  refine zz_callVV [zi (zz_sc g (x4 + 1).toNat)] zd_L_law_581 zk_TFLaw_143 zT_1079 (zz_ltn hn360 rfl) rfl rfl ⟨Nat.le_of_ble_eq_true rfl, Nat.le_of_ble_eq_true rfl⟩ ⟨rfl, rfl⟩ hk361 hj362 (zc_end_14_48 (zz_sc g (x4 + 1).toNat) S356 (n + d358) hn360 G_S356 (by omega)) (fun S371 hP => ?_)
  obtain ⟨G_S371, fS371, o373⟩ := hP
  have H_S371 : zz_Hc S371 := zz_Hc.fr (q := 0) fS371 rfl rfl G_S356 (by decide) rfl (fun b q h => h.elim) H_S356
  have R_S371 : zz_Hr S371 := zz_Hr.fr fS371 rfl rfl (fun b q h => h.elim) R_S356
  have O_S371 : 1 ≤ S371 1079 36 := by rw [show S371 1079 36 = S356 1079 36 from zz_rc fS371 rfl rfl (fun h => h) rfl]; exact O_S356
  have e374 : S371 1000 7 = S 1000 7 := (zz_rc fS371 rfl rfl (fun h => h) (zz_rc fS356 rfl rfl (fun h => h) rfl))
  have e375 : S371 1000 8 = S 1000 8 := (zz_rc fS371 rfl rfl (fun h => h) (zz_rc fS356 rfl rfl (fun h => h) rfl))
  have e376 : S371 1079 36 = S 1079 36 := (zz_rc fS371 rfl rfl (fun h => h) (zz_rc fS356 rfl rfl (fun h => h) rfl))
  have A_S371 : zn_A S371 := zn_A.fr A_S356 fS371 rfl rfl (fun b q h => h.elim) rfl rfl (by omega) (by omega) (by omega) (by omega)
  refine zz_goto zd_L_law_584 ?_
  refine zz_iinc [some (.ref 998), some (.ref 1000), some (.ref 1079), some (.ref 1121), some (zi (x4 + 7)), some (zi v357)] zd_L_law_1208 rfl rfl ?_
  refine zz_goto zd_L_law_1211 ?_
  refine zz_less (ls1 := [some (.ref 998), some (.ref 1000), some (.ref 1079), some (.ref 1121), some (zi (x4 + 7))]) ⟨rfl, ⟨rfl, ⟨rfl, ⟨rfl, ⟨rfl, trivial⟩⟩⟩⟩⟩ ?_
  have g377 := zz_G.r G_S356 1070 1 0 1500 rfl rfl
  have e378 : S371 1070 1 = S356 1070 1 := (zz_rc fS371 rfl rfl (fun h => h) rfl)
  have g379 := zz_G.r G_S371 1079 28 0 1500 rfl rfl
  have g380 := zz_G.r G_S 1031 6 2 8 rfl rfl
  have e381 : S371 1031 6 = S 1031 6 := (zz_rc fS371 rfl rfl (fun h => h) (zz_rc fS356 rfl rfl (fun h => h) rfl))
  have g382 := zz_G.r G_S 1079 1 2 8 rfl rfl
  have e383 : S371 1079 1 = S 1079 1 := (zz_rc fS371 rfl rfl (fun h => h) (zz_rc fS356 rfl rfl (fun h => h) rfl))
  exact ih (x4 + 7) S371 (n + d358) (k + zr_end_L.cells) (j + zr_end_L.slots) G_S371 H_S371 R_S371 O_S371 (by omega) (by omega) (fun u h1 h2 => ((zz_rc fS371 (zz_nc1 rfl) rfl (fun h => h) (zz_rc fS356 (zz_nc1 rfl) rfl (fun h => h) rfl)) : S371 1100 u = S 1100 u).trans (N_S u h1 h2)) (fun i h1 h2 => ((zz_rc fS371 (zz_nc1 rfl) rfl (fun h => h) (zz_rc fS356 (zz_nc1 rfl) rfl (fun h => h) rfl)) : S371 1071 i.toNat = S 1071 i.toNat).trans ((U_S i h1 (by omega)).trans ((zz_rc fS371 (zz_nc1 rfl) rfl (fun h => h) (zz_rc fS356 (zz_nc1 rfl) rfl (fun h => h) rfl)) : S371 1099 i.toNat = S 1099 i.toNat).symm)) A_S371 hn360 (by omega) (by show ((k + 1 : Nat) : Int) ≤ 200 + (x4 + 7); omega) (by show ((j + 6 : Nat) : Int) ≤ 30000 + 6 * (x4 + 7); omega) (by omega)
theorem zl_11 {g : mm_G} {l : Launch} (hfl : l.flags = flags0) (hlen : g.2.2.2 997 ≤ 3584) (N : Nat) (ih : ∀ (x4 : Int) (S : zz_S) (n k j : Nat), zz_G S → zz_Hc S → zz_Hr S → 1 ≤ S 1079 36 → S 1070 1 = S 1079 28 → S 1031 6 = S 1079 1 → (∀ w : Nat, 1 ≤ w → w ≤ 20 → S 1100 w = zt_cd (zt_nw.getD w [])) → (∀ i : Int, 0 ≤ i → i < S 1070 1 → S 1071 i.toNat = S 1099 i.toNat) → zn_A S → zz_end ≤ n → (0 ≤ x4 ∧ x4 ≤ 3590) → (k : Int) ≤ 200 + x4 → (j : Int) ≤ 30000 + 6 * x4 → (3600 - x4).toNat < N → zz_E g l zy_law_L room_1 (fun u => ∃ M1 n1, u = (.inl (some (zi 1)), M1, n1)) S n 23 [some (.ref 998), some (.ref 1000), some (.ref 1079), some (.ref 1121), some (zi x4)] [] k j) (x4 : Int) (S : zz_S) (n k j : Nat) (G_S : zz_G S) (H_S : zz_Hc S) (R_S : zz_Hr S) (O_S : 1 ≤ S 1079 36) (T0_S : S 1070 1 = S 1079 28) (T1_S : S 1031 6 = S 1079 1) (N_S : ∀ w : Nat, 1 ≤ w → w ≤ 20 → S 1100 w = zt_cd (zt_nw.getD w [])) (U_S : ∀ i : Int, 0 ≤ i → i < S 1070 1 → S 1071 i.toNat = S 1099 i.toNat) (A_S : zn_A S) (hn : zz_end ≤ n) (hx : 0 ≤ x4 ∧ x4 ≤ 3590) (hkk : (k : Int) ≤ 200 + x4) (hjj : (j : Int) ≤ 30000 + 6 * x4) (hR : (3600 - x4).toNat < N + 1) (hc1 : x4 ≤ zz_ln g - 7) : zz_E g l zy_law_L room_1 (fun u => ∃ M1 n1, u = (.inl (some (zi 1)), M1, n1)) S n 587 [some (.ref 998), some (.ref 1000), some (.ref 1079), some (.ref 1121), some (zi x4)] [] k j := by
  have hln : 0 ≤ zz_ln g ∧ zz_ln g ≤ 3584 := ⟨Int.natCast_nonneg _, Int.ofNat_le.mpr hlen⟩
  have hk : k ≤ 601024 := by omega
  have hj : j ≤ 7293034 := by omega
  refine zz_aload_n (x := 1000) rfl zd_L_law_587 ?_
  have g385 := zz_G.r G_S 1070 1 0 1500 rfl rfl
  refine zz_callVI [] zd_L_law_588 zk_TFLaw_144 zT_1000 (zz_ltn hn rfl) rfl rfl ⟨Nat.le_of_ble_eq_true rfl, Nat.le_of_ble_eq_true rfl⟩ ⟨rfl, rfl⟩ hk hj (zc_assemble_1_13  S (n) hn G_S ) (fun v387 S386 hP => ?_)
  obtain ⟨G_S386, fS386, o388, o389⟩ := hP
  have g390 := zz_G.r G_S 1000 10 0 1 rfl rfl
  have b391 := zz_rf4 (z := (S 1000 10)) (by omega)
  have H_S386 : zz_Hc S386 := zz_Hc.fr (q := 0) fS386 rfl rfl G_S (by decide) rfl (fun b q h => by have h0_ := zz_rf4 (z := (S 1000 10)) (by omega); omega) H_S
  have R_S386 : zz_Hr S386 := zz_Hr.fr fS386 rfl rfl (fun b q h => by have h0_ := zz_rf4 (z := (S 1000 10)) (by omega); omega) R_S
  have O_S386 : 1 ≤ S386 1079 36 := by rw [show S386 1079 36 = S 1079 36 from zz_rc fS386 rfl rfl (by have h0_ := zz_rf4 (z := (S 1000 10)) (by omega); omega) rfl]; exact O_S
  have g392 := zz_G.r G_S 1000 7 0 1 rfl rfl
  have e393 : S386 1000 7 = S 1000 7 := (zz_rc fS386 rfl rfl (by first | decide | omega) rfl)
  have g394 := zz_G.r G_S 1000 8 0 1 rfl rfl
  have e395 : S386 1000 8 = S 1000 8 := (zz_rc fS386 rfl rfl (by first | decide | omega) rfl)
  have g396 := zz_G.r G_S 1079 36 0 11 rfl rfl
  have e397 : S386 1079 36 = S 1079 36 := (zz_rc fS386 rfl rfl (by first | decide | omega) rfl)
  have A_S386 : zn_A S386 := zn_A.fr A_S fS386 rfl rfl (fun b q h => by have h0_ := zz_rf4 (z := (S 1000 10)) (by omega); omega) rfl rfl (by omega) (by omega) (by omega) (by omega)
  refine zz_pop rfl zd_L_law_591 ?_
  refine zz_aload_n (x := 1079) rfl zd_L_law_592 ?_
  have g398 := zz_G.r G_S 1079 28 0 1500 rfl rfl
  have e399 : S386 1079 28 = S 1079 28 := (zz_rc fS386 rfl rfl (by first | decide | omega) rfl)
  refine zz_callVI [] zd_L_law_593 zk_TFLaw_147 zT_1079 (zz_ltn hn rfl) rfl rfl ⟨Nat.le_of_ble_eq_true rfl, Nat.le_of_ble_eq_true rfl⟩ ⟨rfl, rfl⟩ hk hj (zc_assemble_14_55  S386 (n) hn G_S386 (fun u h1 h2 => ((zz_rc fS386 (zz_nc1 rfl) rfl (by have h0_ := zz_rf4 (z := (S 1000 10)) (by omega); omega) rfl) : S386 1100 u = S 1100 u).trans (N_S u h1 h2))) (fun v401 S400 hP => ?_)
  obtain ⟨G_S400, fS400, o402, o403⟩ := hP
  have H_S400 : zz_Hc S400 := zz_Hc.fr (q := 0) fS400 rfl rfl G_S386 (by decide) rfl (fun b q h => h.elim) H_S386
  have R_S400 : zz_Hr S400 := zz_Hr.fr fS400 rfl rfl (fun b q h => h.elim) R_S386
  have O_S400 : 1 ≤ S400 1079 36 := by rw [show S400 1079 36 = S386 1079 36 from zz_rc fS400 rfl rfl (fun h => h) rfl]; exact O_S386
  have e404 : S400 1000 7 = S 1000 7 := (zz_rc fS400 rfl rfl (fun h => h) (zz_rc fS386 rfl rfl (by first | decide | omega) rfl))
  have e405 : S400 1000 8 = S 1000 8 := (zz_rc fS400 rfl rfl (fun h => h) (zz_rc fS386 rfl rfl (by first | decide | omega) rfl))
  have e406 : S400 1079 36 = S 1079 36 := (zz_rc fS400 rfl rfl (fun h => h) (zz_rc fS386 rfl rfl (by first | decide | omega) rfl))
  have A_S400 : zn_A S400 := zn_A.fr A_S386 fS400 rfl rfl (fun b q h => h.elim) rfl rfl (by omega) (by omega) (by omega) (by omega)
  refine zz_pop rfl zd_L_law_596 ?_
  refine zz_goto zd_L_law_597 ?_
  refine zz_iinc [some (.ref 998), some (.ref 1000), some (.ref 1079), some (.ref 1121), some (zi (x4 + 7))] zd_L_law_1208 rfl rfl ?_
  refine zz_goto zd_L_law_1211 ?_
  refine zz_less (ls1 := [some (.ref 998), some (.ref 1000), some (.ref 1079), some (.ref 1121), some (zi (x4 + 7))]) ⟨rfl, ⟨rfl, ⟨rfl, ⟨rfl, ⟨rfl, trivial⟩⟩⟩⟩⟩ ?_
  have e407 : S400 1070 1 = S 1070 1 := (zz_rc fS400 rfl rfl (fun h => h) (zz_rc fS386 rfl rfl (by first | decide | omega) rfl))
  have e408 : S400 1079 28 = S 1079 28 := (zz_rc fS400 rfl rfl (fun h => h) (zz_rc fS386 rfl rfl (by first | decide | omega) rfl))
  have g409 := zz_G.r G_S 1031 6 2 8 rfl rfl
  have e410 : S400 1031 6 = S 1031 6 := (zz_rc fS400 rfl rfl (fun h => h) (zz_rc fS386 rfl rfl (by first | decide | omega) rfl))
  have g411 := zz_G.r G_S 1079 1 2 8 rfl rfl
  have e412 : S400 1079 1 = S 1079 1 := (zz_rc fS400 rfl rfl (fun h => h) (zz_rc fS386 rfl rfl (by first | decide | omega) rfl))
  exact ih (x4 + 7) S400 (n) k j G_S400 H_S400 R_S400 O_S400 (by omega) (by omega) (fun u h1 h2 => ((zz_rc fS400 (zz_nc1 rfl) rfl (fun h => h) (zz_rc fS386 (zz_nc1 rfl) rfl (by have h0_ := zz_rf4 (z := (S 1000 10)) (by omega); omega) rfl)) : S400 1100 u = S 1100 u).trans (N_S u h1 h2)) (fun i h1 h2 => ((zz_rc fS400 (zz_nc1 rfl) rfl (fun h => h) (zz_rc fS386 (zz_nc1 rfl) rfl (by have h0_ := zz_rf4 (z := (S 1000 10)) (by omega); omega) rfl)) : S400 1071 i.toNat = S 1071 i.toNat).trans ((U_S i h1 (by omega)).trans ((zz_rc fS400 (zz_nc1 rfl) rfl (fun h => h) (zz_rc fS386 (zz_nc1 rfl) rfl (by have h0_ := zz_rf4 (z := (S 1000 10)) (by omega); omega) rfl)) : S400 1099 i.toNat = S 1099 i.toNat).symm)) A_S400 hn (by omega) (by show ((k : Nat) : Int) ≤ 200 + (x4 + 7); omega) (by show ((j : Nat) : Int) ≤ 30000 + 6 * (x4 + 7); omega) (by omega)
theorem zl_12 {g : mm_G} {l : Launch} (hfl : l.flags = flags0) (hlen : g.2.2.2 997 ≤ 3584) (N : Nat) (ih : ∀ (x4 : Int) (S : zz_S) (n k j : Nat), zz_G S → zz_Hc S → zz_Hr S → 1 ≤ S 1079 36 → S 1070 1 = S 1079 28 → S 1031 6 = S 1079 1 → (∀ w : Nat, 1 ≤ w → w ≤ 20 → S 1100 w = zt_cd (zt_nw.getD w [])) → (∀ i : Int, 0 ≤ i → i < S 1070 1 → S 1071 i.toNat = S 1099 i.toNat) → zn_A S → zz_end ≤ n → (0 ≤ x4 ∧ x4 ≤ 3590) → (k : Int) ≤ 200 + x4 → (j : Int) ≤ 30000 + 6 * x4 → (3600 - x4).toNat < N → zz_E g l zy_law_L room_1 (fun u => ∃ M1 n1, u = (.inl (some (zi 1)), M1, n1)) S n 23 [some (.ref 998), some (.ref 1000), some (.ref 1079), some (.ref 1121), some (zi x4)] [] k j) (x4 : Int) (S : zz_S) (n k j : Nat) (G_S : zz_G S) (H_S : zz_Hc S) (R_S : zz_Hr S) (O_S : 1 ≤ S 1079 36) (T0_S : S 1070 1 = S 1079 28) (T1_S : S 1031 6 = S 1079 1) (N_S : ∀ w : Nat, 1 ≤ w → w ≤ 20 → S 1100 w = zt_cd (zt_nw.getD w [])) (U_S : ∀ i : Int, 0 ≤ i → i < S 1070 1 → S 1071 i.toNat = S 1099 i.toNat) (A_S : zn_A S) (hn : zz_end ≤ n) (hx : 0 ≤ x4 ∧ x4 ≤ 3590) (hkk : (k : Int) ≤ 200 + x4) (hjj : (j : Int) ≤ 30000 + 6 * x4) (hR : (3600 - x4).toNat < N + 1) (hc1 : x4 ≤ zz_ln g - 7) : zz_E g l zy_law_L room_1 (fun u => ∃ M1 n1, u = (.inl (some (zi 1)), M1, n1)) S n 600 [some (.ref 998), some (.ref 1000), some (.ref 1079), some (.ref 1121), some (zi x4)] [] k j := by
  have hln : 0 ≤ zz_ln g ∧ zz_ln g ≤ 3584 := ⟨Int.natCast_nonneg _, Int.ofNat_le.mpr hlen⟩
  have hk : k ≤ 601024 := by omega
  have hj : j ≤ 7293034 := by omega
  refine zz_aload_n (x := 1000) rfl zd_L_law_600 ?_
  refine zz_aload_n (x := 998) rfl zd_L_law_601 ?_
  refine zz_iload (x := x4) rfl zd_L_law_602 ?_
  refine zz_iconst zd_L_law_604 ?_
  refine zz_iadd zd_L_law_605 ?_
  refine zz_sld (by omega) zd_L_law_606 (by omega) ?_
  have g414 := zz_sc_r g (x4 + 1).toNat
  refine zz_aload_n (x := 998) rfl zd_L_law_607 ?_
  refine zz_iload (x := x4) rfl zd_L_law_608 ?_
  refine zz_iconst zd_L_law_610 ?_
  refine zz_iadd zd_L_law_611 ?_
  refine zz_sld (by omega) zd_L_law_612 (by omega) ?_
  have g415 := zz_sc_r g (x4 + 2).toNat
  refine zz_aload_n (x := 1121) rfl zd_L_law_613 ?_
  refine zz_callHW (rz := zr_listing_L) [.ref 1000, zi (zz_sc g (x4 + 1).toNat), zi (zz_sc g (x4 + 2).toNat), .ref 1121] zd_L_law_614 zhl_listing_L rfl rfl ⟨Nat.le_of_ble_eq_true rfl, Nat.le_of_ble_eq_true rfl⟩ (by show k + 1 ≤ 601024; omega) (by show j + 6 ≤ 7293034; omega) (zc_listing_L (zz_sc g (x4 + 1).toNat) (zz_sc g (x4 + 2).toNat) S (n) hn hfl G_S (by omega) (by omega)) (fun v417 S416 d418 hd418 hP => ?_)
  obtain ⟨G_S416, fS416, rv417⟩ := hP
  have hn419 : zz_end ≤ n + d418 := by omega
  have hk420 : (k + zr_listing_L.cells) ≤ 601024 := by show k + 1 ≤ 601024; omega
  have hj421 : (j + zr_listing_L.slots) ≤ 7293034 := by show j + 6 ≤ 7293034; omega
  have H_S416 : zz_Hc S416 := zz_Hc.fr (q := 0) fS416 rfl rfl G_S (by decide) rfl (fun b q h => h.elim) H_S
  have R_S416 : zz_Hr S416 := zz_Hr.fr fS416 rfl rfl (fun b q h => h.elim) R_S
  have O_S416 : 1 ≤ S416 1079 36 := by rw [show S416 1079 36 = S 1079 36 from zz_rc fS416 rfl rfl (fun h => h) rfl]; exact O_S
  have g422 := zz_G.r G_S 1000 7 0 1 rfl rfl
  have e423 : S416 1000 7 = S 1000 7 := (zz_rc fS416 rfl rfl (fun h => h) rfl)
  have g424 := zz_G.r G_S 1000 8 0 1 rfl rfl
  have e425 : S416 1000 8 = S 1000 8 := (zz_rc fS416 rfl rfl (fun h => h) rfl)
  have g426 := zz_G.r G_S 1079 36 0 11 rfl rfl
  have e427 : S416 1079 36 = S 1079 36 := (zz_rc fS416 rfl rfl (fun h => h) rfl)
  have A_S416 : zn_A S416 := zn_A.fr A_S fS416 rfl rfl (fun b q h => h.elim) rfl rfl (by omega) (by omega) (by omega) (by omega)
  refine zz_istore [some (.ref 998), some (.ref 1000), some (.ref 1079), some (.ref 1121), some (zi x4), some (zi v417)] zd_L_law_617 (by decide) rfl ?_
  refine zz_aload_n (x := 1079) rfl zd_L_law_619 ?_
  refine zz_aload_n (x := 998) rfl zd_L_law_620 ?_
  refine zz_iload (x := x4) rfl zd_L_law_621 ?_
  refine zz_iconst zd_L_law_623 ?_
  refine zz_iadd zd_L_law_624 ?_
  refine zz_sld (by omega) zd_L_law_625 (by omega) ?_
  refine zz_aload_n (x := 998) rfl zd_L_law_626 ?_
  refine zz_iload (x := x4) rfl zd_L_law_627 ?_
  refine zz_iconst zd_L_law_629 ?_
  refine zz_iadd zd_L_law_630 ?_
  refine zz_sld (by omega) zd_L_law_631 (by omega) ?_
  refine zz_callVI [zi (zz_sc g (x4 + 1).toNat), zi (zz_sc g (x4 + 2).toNat)] zd_L_law_632 zk_TFLaw_150 zT_1079 (zz_ltn hn419 rfl) rfl rfl ⟨Nat.le_of_ble_eq_true rfl, Nat.le_of_ble_eq_true rfl⟩ ⟨rfl, rfl⟩ hk420 hj421 (zc_listing_14_62 (zz_sc g (x4 + 1).toNat) (zz_sc g (x4 + 2).toNat) S416 (n + d418) hn419 G_S416 (by omega) (by omega)) (fun v429 S428 hP => ?_)
  obtain ⟨G_S428, fS428, o430⟩ := hP
  have H_S428 : zz_Hc S428 := zz_Hc.fr (q := 0) fS428 rfl rfl G_S416 (by decide) rfl (fun b q h => h.elim) H_S416
  have R_S428 : zz_Hr S428 := zz_Hr.fr fS428 rfl rfl (fun b q h => h.elim) R_S416
  have O_S428 : 1 ≤ S428 1079 36 := by rw [show S428 1079 36 = S416 1079 36 from zz_rc fS428 rfl rfl (fun h => h) rfl]; exact O_S416
  have e431 : S428 1000 7 = S 1000 7 := (zz_rc fS428 rfl rfl (fun h => h) (zz_rc fS416 rfl rfl (fun h => h) rfl))
  have e432 : S428 1000 8 = S 1000 8 := (zz_rc fS428 rfl rfl (fun h => h) (zz_rc fS416 rfl rfl (fun h => h) rfl))
  have e433 : S428 1079 36 = S 1079 36 := (zz_rc fS428 rfl rfl (fun h => h) (zz_rc fS416 rfl rfl (fun h => h) rfl))
  have A_S428 : zn_A S428 := zn_A.fr A_S416 fS428 rfl rfl (fun b q h => h.elim) rfl rfl (by omega) (by omega) (by omega) (by omega)
  refine zz_istore [some (.ref 998), some (.ref 1000), some (.ref 1079), some (.ref 1121), some (zi x4), some (zi v417), some (zi v429)] zd_L_law_635 (by decide) rfl ?_
  refine zz_goto zd_L_law_637 ?_
  refine zz_iinc [some (.ref 998), some (.ref 1000), some (.ref 1079), some (.ref 1121), some (zi (x4 + 7)), some (zi v417), some (zi v429)] zd_L_law_1208 rfl rfl ?_
  refine zz_goto zd_L_law_1211 ?_
  refine zz_less (ls1 := [some (.ref 998), some (.ref 1000), some (.ref 1079), some (.ref 1121), some (zi (x4 + 7))]) ⟨rfl, ⟨rfl, ⟨rfl, ⟨rfl, ⟨rfl, trivial⟩⟩⟩⟩⟩ ?_
  have g434 := zz_G.r G_S 1070 1 0 1500 rfl rfl
  have e435 : S428 1070 1 = S 1070 1 := (zz_rc fS428 rfl rfl (fun h => h) (zz_rc fS416 rfl rfl (fun h => h) rfl))
  have g436 := zz_G.r G_S 1079 28 0 1500 rfl rfl
  have e437 : S428 1079 28 = S 1079 28 := (zz_rc fS428 rfl rfl (fun h => h) (zz_rc fS416 rfl rfl (fun h => h) rfl))
  have g438 := zz_G.r G_S 1031 6 2 8 rfl rfl
  have e439 : S428 1031 6 = S 1031 6 := (zz_rc fS428 rfl rfl (fun h => h) (zz_rc fS416 rfl rfl (fun h => h) rfl))
  have g440 := zz_G.r G_S 1079 1 2 8 rfl rfl
  have e441 : S428 1079 1 = S 1079 1 := (zz_rc fS428 rfl rfl (fun h => h) (zz_rc fS416 rfl rfl (fun h => h) rfl))
  exact ih (x4 + 7) S428 (n + d418) (k + zr_listing_L.cells) (j + zr_listing_L.slots) G_S428 H_S428 R_S428 O_S428 (by omega) (by omega) (fun u h1 h2 => ((zz_rc fS428 (zz_nc1 rfl) rfl (fun h => h) (zz_rc fS416 (zz_nc1 rfl) rfl (fun h => h) rfl)) : S428 1100 u = S 1100 u).trans (N_S u h1 h2)) (fun i h1 h2 => ((zz_rc fS428 (zz_nc1 rfl) rfl (fun h => h) (zz_rc fS416 (zz_nc1 rfl) rfl (fun h => h) rfl)) : S428 1071 i.toNat = S 1071 i.toNat).trans ((U_S i h1 (by omega)).trans ((zz_rc fS428 (zz_nc1 rfl) rfl (fun h => h) (zz_rc fS416 (zz_nc1 rfl) rfl (fun h => h) rfl)) : S428 1099 i.toNat = S 1099 i.toNat).symm)) A_S428 hn419 (by omega) (by show ((k + 1 : Nat) : Int) ≤ 200 + (x4 + 7); omega) (by show ((j + 6 : Nat) : Int) ≤ 30000 + 6 * (x4 + 7); omega) (by omega)
theorem zl_13 {g : mm_G} {l : Launch} (hfl : l.flags = flags0) (hlen : g.2.2.2 997 ≤ 3584) (N : Nat) (ih : ∀ (x4 : Int) (S : zz_S) (n k j : Nat), zz_G S → zz_Hc S → zz_Hr S → 1 ≤ S 1079 36 → S 1070 1 = S 1079 28 → S 1031 6 = S 1079 1 → (∀ w : Nat, 1 ≤ w → w ≤ 20 → S 1100 w = zt_cd (zt_nw.getD w [])) → (∀ i : Int, 0 ≤ i → i < S 1070 1 → S 1071 i.toNat = S 1099 i.toNat) → zn_A S → zz_end ≤ n → (0 ≤ x4 ∧ x4 ≤ 3590) → (k : Int) ≤ 200 + x4 → (j : Int) ≤ 30000 + 6 * x4 → (3600 - x4).toNat < N → zz_E g l zy_law_L room_1 (fun u => ∃ M1 n1, u = (.inl (some (zi 1)), M1, n1)) S n 23 [some (.ref 998), some (.ref 1000), some (.ref 1079), some (.ref 1121), some (zi x4)] [] k j) (x4 : Int) (S : zz_S) (n k j : Nat) (G_S : zz_G S) (H_S : zz_Hc S) (R_S : zz_Hr S) (O_S : 1 ≤ S 1079 36) (T0_S : S 1070 1 = S 1079 28) (T1_S : S 1031 6 = S 1079 1) (N_S : ∀ w : Nat, 1 ≤ w → w ≤ 20 → S 1100 w = zt_cd (zt_nw.getD w [])) (U_S : ∀ i : Int, 0 ≤ i → i < S 1070 1 → S 1071 i.toNat = S 1099 i.toNat) (A_S : zn_A S) (hn : zz_end ≤ n) (hx : 0 ≤ x4 ∧ x4 ≤ 3590) (hkk : (k : Int) ≤ 200 + x4) (hjj : (j : Int) ≤ 30000 + 6 * x4) (hR : (3600 - x4).toNat < N + 1) (hc1 : x4 ≤ zz_ln g - 7) : zz_E g l zy_law_L room_1 (fun u => ∃ M1 n1, u = (.inl (some (zi 1)), M1, n1)) S n 640 [some (.ref 998), some (.ref 1000), some (.ref 1079), some (.ref 1121), some (zi x4)] [] k j := by
  have hln : 0 ≤ zz_ln g ∧ zz_ln g ≤ 3584 := ⟨Int.natCast_nonneg _, Int.ofNat_le.mpr hlen⟩
  have hk : k ≤ 601024 := by omega
  have hj : j ≤ 7293034 := by omega
  refine zz_aload_n (x := 1000) rfl zd_L_law_640 ?_
  refine zz_callVI [] zd_L_law_641 zk_TFLaw_151 zT_1000 (zz_ltn hn rfl) rfl rfl ⟨Nat.le_of_ble_eq_true rfl, Nat.le_of_ble_eq_true rfl⟩ ⟨rfl, rfl⟩ hk hj (zc_run_1_15  S (n) hn G_S ) (fun v444 S443 hP => ?_)
  obtain ⟨G_S443, fS443, o445⟩ := hP
  have H_S443 : zz_Hc S443 := zz_Hc.fr (q := 0) fS443 rfl rfl G_S (by decide) rfl (fun b q h => h.elim) H_S
  have R_S443 : zz_Hr S443 := zz_Hr.fr fS443 rfl rfl (fun b q h => h.elim) R_S
  have O_S443 : 1 ≤ S443 1079 36 := by rw [show S443 1079 36 = S 1079 36 from zz_rc fS443 rfl rfl (fun h => h) rfl]; exact O_S
  have g446 := zz_G.r G_S 1000 7 0 1 rfl rfl
  have e447 : S443 1000 7 = S 1000 7 := (zz_rc fS443 rfl rfl (fun h => h) rfl)
  have g448 := zz_G.r G_S 1000 8 0 1 rfl rfl
  have e449 : S443 1000 8 = S 1000 8 := (zz_rc fS443 rfl rfl (fun h => h) rfl)
  have g450 := zz_G.r G_S 1079 36 0 11 rfl rfl
  have e451 : S443 1079 36 = S 1079 36 := (zz_rc fS443 rfl rfl (fun h => h) rfl)
  have A_S443 : zn_A S443 := zn_A.fr A_S fS443 rfl rfl (fun b q h => h.elim) rfl rfl (by omega) (by omega) (by omega) (by omega)
  refine zz_pop rfl zd_L_law_644 ?_
  refine zz_aload_n (x := 1079) rfl zd_L_law_645 ?_
  refine zz_callVI [] zd_L_law_646 zk_TFLaw_154 zT_1079 (zz_ltn hn rfl) rfl rfl ⟨Nat.le_of_ble_eq_true rfl, Nat.le_of_ble_eq_true rfl⟩ ⟨rfl, rfl⟩ hk hj (zc_run_14_44  S443 (n) hn G_S443 ) (fun v453 S452 hP => ?_)
  obtain ⟨G_S452, fS452, o454⟩ := hP
  have H_S452 : zz_Hc S452 := zz_Hc.fr (q := 0) fS452 rfl rfl G_S443 (by decide) rfl (fun b q h => h.elim) H_S443
  have R_S452 : zz_Hr S452 := zz_Hr.fr fS452 rfl rfl (fun b q h => h.elim) R_S443
  have O_S452 : 1 ≤ S452 1079 36 := by rw [show S452 1079 36 = S443 1079 36 from zz_rc fS452 rfl rfl (fun h => h) rfl]; exact O_S443
  have e455 : S452 1000 7 = S 1000 7 := (zz_rc fS452 rfl rfl (fun h => h) (zz_rc fS443 rfl rfl (fun h => h) rfl))
  have e456 : S452 1000 8 = S 1000 8 := (zz_rc fS452 rfl rfl (fun h => h) (zz_rc fS443 rfl rfl (fun h => h) rfl))
  have e457 : S452 1079 36 = S 1079 36 := (zz_rc fS452 rfl rfl (fun h => h) (zz_rc fS443 rfl rfl (fun h => h) rfl))
  have A_S452 : zn_A S452 := zn_A.fr A_S443 fS452 rfl rfl (fun b q h => h.elim) rfl rfl (by omega) (by omega) (by omega) (by omega)
  refine zz_pop rfl zd_L_law_649 ?_
  refine zz_goto zd_L_law_650 ?_
  refine zz_iinc [some (.ref 998), some (.ref 1000), some (.ref 1079), some (.ref 1121), some (zi (x4 + 7))] zd_L_law_1208 rfl rfl ?_
  refine zz_goto zd_L_law_1211 ?_
  refine zz_less (ls1 := [some (.ref 998), some (.ref 1000), some (.ref 1079), some (.ref 1121), some (zi (x4 + 7))]) ⟨rfl, ⟨rfl, ⟨rfl, ⟨rfl, ⟨rfl, trivial⟩⟩⟩⟩⟩ ?_
  have g458 := zz_G.r G_S 1070 1 0 1500 rfl rfl
  have e459 : S452 1070 1 = S 1070 1 := (zz_rc fS452 rfl rfl (fun h => h) (zz_rc fS443 rfl rfl (fun h => h) rfl))
  have g460 := zz_G.r G_S 1079 28 0 1500 rfl rfl
  have e461 : S452 1079 28 = S 1079 28 := (zz_rc fS452 rfl rfl (fun h => h) (zz_rc fS443 rfl rfl (fun h => h) rfl))
  have g462 := zz_G.r G_S 1031 6 2 8 rfl rfl
  have e463 : S452 1031 6 = S 1031 6 := (zz_rc fS452 rfl rfl (fun h => h) (zz_rc fS443 rfl rfl (fun h => h) rfl))
  have g464 := zz_G.r G_S 1079 1 2 8 rfl rfl
  have e465 : S452 1079 1 = S 1079 1 := (zz_rc fS452 rfl rfl (fun h => h) (zz_rc fS443 rfl rfl (fun h => h) rfl))
  exact ih (x4 + 7) S452 (n) k j G_S452 H_S452 R_S452 O_S452 (by omega) (by omega) (fun u h1 h2 => ((zz_rc fS452 (zz_nc1 rfl) rfl (fun h => h) (zz_rc fS443 (zz_nc1 rfl) rfl (fun h => h) rfl)) : S452 1100 u = S 1100 u).trans (N_S u h1 h2)) (fun i h1 h2 => ((zz_rc fS452 (zz_nc1 rfl) rfl (fun h => h) (zz_rc fS443 (zz_nc1 rfl) rfl (fun h => h) rfl)) : S452 1071 i.toNat = S 1071 i.toNat).trans ((U_S i h1 (by omega)).trans ((zz_rc fS452 (zz_nc1 rfl) rfl (fun h => h) (zz_rc fS443 (zz_nc1 rfl) rfl (fun h => h) rfl)) : S452 1099 i.toNat = S 1099 i.toNat).symm)) A_S452 hn (by omega) (by show ((k : Nat) : Int) ≤ 200 + (x4 + 7); omega) (by show ((j : Nat) : Int) ≤ 30000 + 6 * (x4 + 7); omega) (by omega)
theorem zl_14 {g : mm_G} {l : Launch} (hfl : l.flags = flags0) (hlen : g.2.2.2 997 ≤ 3584) (N : Nat) (ih : ∀ (x4 : Int) (S : zz_S) (n k j : Nat), zz_G S → zz_Hc S → zz_Hr S → 1 ≤ S 1079 36 → S 1070 1 = S 1079 28 → S 1031 6 = S 1079 1 → (∀ w : Nat, 1 ≤ w → w ≤ 20 → S 1100 w = zt_cd (zt_nw.getD w [])) → (∀ i : Int, 0 ≤ i → i < S 1070 1 → S 1071 i.toNat = S 1099 i.toNat) → zn_A S → zz_end ≤ n → (0 ≤ x4 ∧ x4 ≤ 3590) → (k : Int) ≤ 200 + x4 → (j : Int) ≤ 30000 + 6 * x4 → (3600 - x4).toNat < N → zz_E g l zy_law_L room_1 (fun u => ∃ M1 n1, u = (.inl (some (zi 1)), M1, n1)) S n 23 [some (.ref 998), some (.ref 1000), some (.ref 1079), some (.ref 1121), some (zi x4)] [] k j) (x4 : Int) (S : zz_S) (n k j : Nat) (G_S : zz_G S) (H_S : zz_Hc S) (R_S : zz_Hr S) (O_S : 1 ≤ S 1079 36) (T0_S : S 1070 1 = S 1079 28) (T1_S : S 1031 6 = S 1079 1) (N_S : ∀ w : Nat, 1 ≤ w → w ≤ 20 → S 1100 w = zt_cd (zt_nw.getD w [])) (U_S : ∀ i : Int, 0 ≤ i → i < S 1070 1 → S 1071 i.toNat = S 1099 i.toNat) (A_S : zn_A S) (hn : zz_end ≤ n) (hx : 0 ≤ x4 ∧ x4 ≤ 3590) (hkk : (k : Int) ≤ 200 + x4) (hjj : (j : Int) ≤ 30000 + 6 * x4) (hR : (3600 - x4).toNat < N + 1) (hc1 : x4 ≤ zz_ln g - 7) : zz_E g l zy_law_L room_1 (fun u => ∃ M1 n1, u = (.inl (some (zi 1)), M1, n1)) S n 653 [some (.ref 998), some (.ref 1000), some (.ref 1079), some (.ref 1121), some (zi x4)] [] k j := by
  have hln : 0 ≤ zz_ln g ∧ zz_ln g ≤ 3584 := ⟨Int.natCast_nonneg _, Int.ofNat_le.mpr hlen⟩
  have hk : k ≤ 601024 := by omega
  have hj : j ≤ 7293034 := by omega
  refine zz_aload_n (x := 1000) rfl zd_L_law_653 ?_
  refine zz_aload_n (x := 998) rfl zd_L_law_654 ?_
  refine zz_iload (x := x4) rfl zd_L_law_655 ?_
  refine zz_iconst zd_L_law_657 ?_
  refine zz_iadd zd_L_law_658 ?_
  refine zz_sld (by omega) zd_L_law_659 (by omega) ?_
  have g467 := zz_sc_r g (x4 + 1).toNat
  refine zz_aload_n (x := 1121) rfl zd_L_law_660 ?_
  refine zz_callHW (rz := zr_stopped_L) [.ref 1000, zi (zz_sc g (x4 + 1).toNat), .ref 1121] zd_L_law_661 zhl_stopped_L rfl rfl ⟨Nat.le_of_ble_eq_true rfl, Nat.le_of_ble_eq_true rfl⟩ (by show k + 1 ≤ 601024; omega) (by show j + 6 ≤ 7293034; omega) (zc_stopped_L (zz_sc g (x4 + 1).toNat) S (n) hn hfl G_S (by omega)) (fun v469 S468 d470 hd470 hP => ?_)
  obtain ⟨G_S468, fS468, rv469⟩ := hP
  have hn471 : zz_end ≤ n + d470 := by omega
  have hk472 : (k + zr_stopped_L.cells) ≤ 601024 := by show k + 1 ≤ 601024; omega
  have hj473 : (j + zr_stopped_L.slots) ≤ 7293034 := by show j + 6 ≤ 7293034; omega
  have H_S468 : zz_Hc S468 := zz_Hc.fr (q := 0) fS468 rfl rfl G_S (by decide) rfl (fun b q h => h.elim) H_S
  have R_S468 : zz_Hr S468 := zz_Hr.fr fS468 rfl rfl (fun b q h => h.elim) R_S
  have O_S468 : 1 ≤ S468 1079 36 := by rw [show S468 1079 36 = S 1079 36 from zz_rc fS468 rfl rfl (fun h => h) rfl]; exact O_S
  have g474 := zz_G.r G_S 1000 7 0 1 rfl rfl
  have e475 : S468 1000 7 = S 1000 7 := (zz_rc fS468 rfl rfl (fun h => h) rfl)
  have g476 := zz_G.r G_S 1000 8 0 1 rfl rfl
  have e477 : S468 1000 8 = S 1000 8 := (zz_rc fS468 rfl rfl (fun h => h) rfl)
  have g478 := zz_G.r G_S 1079 36 0 11 rfl rfl
  have e479 : S468 1079 36 = S 1079 36 := (zz_rc fS468 rfl rfl (fun h => h) rfl)
  have A_S468 : zn_A S468 := zn_A.fr A_S fS468 rfl rfl (fun b q h => h.elim) rfl rfl (by omega) (by omega) (by omega) (by omega)
  refine zz_istore [some (.ref 998), some (.ref 1000), some (.ref 1079), some (.ref 1121), some (zi x4), some (zi v469)] zd_L_law_664 (by decide) rfl ?_
  refine zz_aload_n (x := 1079) rfl zd_L_law_666 ?_
  refine zz_aload_n (x := 998) rfl zd_L_law_667 ?_
  refine zz_iload (x := x4) rfl zd_L_law_668 ?_
  refine zz_iconst zd_L_law_670 ?_
  refine zz_iadd zd_L_law_671 ?_
  refine zz_sld (by omega) zd_L_law_672 (by omega) ?_
  refine zz_callVI [zi (zz_sc g (x4 + 1).toNat)] zd_L_law_673 zk_TFLaw_157 zT_1079 (zz_ltn hn471 rfl) rfl rfl ⟨Nat.le_of_ble_eq_true rfl, Nat.le_of_ble_eq_true rfl⟩ ⟨rfl, rfl⟩ hk472 hj473 (zc_stopped_14_45 (zz_sc g (x4 + 1).toNat) S468 (n + d470) hn471 G_S468 (by omega)) (fun v481 S480 hP => ?_)
  obtain ⟨G_S480, fS480, o482⟩ := hP
  have H_S480 : zz_Hc S480 := zz_Hc.fr (q := 0) fS480 rfl rfl G_S468 (by decide) rfl (fun b q h => h.elim) H_S468
  have R_S480 : zz_Hr S480 := zz_Hr.fr fS480 rfl rfl (fun b q h => h.elim) R_S468
  have O_S480 : 1 ≤ S480 1079 36 := by rw [show S480 1079 36 = S468 1079 36 from zz_rc fS480 rfl rfl (fun h => h) rfl]; exact O_S468
  have e483 : S480 1000 7 = S 1000 7 := (zz_rc fS480 rfl rfl (fun h => h) (zz_rc fS468 rfl rfl (fun h => h) rfl))
  have e484 : S480 1000 8 = S 1000 8 := (zz_rc fS480 rfl rfl (fun h => h) (zz_rc fS468 rfl rfl (fun h => h) rfl))
  have e485 : S480 1079 36 = S 1079 36 := (zz_rc fS480 rfl rfl (fun h => h) (zz_rc fS468 rfl rfl (fun h => h) rfl))
  have A_S480 : zn_A S480 := zn_A.fr A_S468 fS480 rfl rfl (fun b q h => h.elim) rfl rfl (by omega) (by omega) (by omega) (by omega)
  refine zz_istore [some (.ref 998), some (.ref 1000), some (.ref 1079), some (.ref 1121), some (zi x4), some (zi v469), some (zi v481)] zd_L_law_676 (by decide) rfl ?_
  refine zz_goto zd_L_law_678 ?_
  refine zz_iinc [some (.ref 998), some (.ref 1000), some (.ref 1079), some (.ref 1121), some (zi (x4 + 7)), some (zi v469), some (zi v481)] zd_L_law_1208 rfl rfl ?_
  refine zz_goto zd_L_law_1211 ?_
  refine zz_less (ls1 := [some (.ref 998), some (.ref 1000), some (.ref 1079), some (.ref 1121), some (zi (x4 + 7))]) ⟨rfl, ⟨rfl, ⟨rfl, ⟨rfl, ⟨rfl, trivial⟩⟩⟩⟩⟩ ?_
  have g486 := zz_G.r G_S 1070 1 0 1500 rfl rfl
  have e487 : S480 1070 1 = S 1070 1 := (zz_rc fS480 rfl rfl (fun h => h) (zz_rc fS468 rfl rfl (fun h => h) rfl))
  have g488 := zz_G.r G_S 1079 28 0 1500 rfl rfl
  have e489 : S480 1079 28 = S 1079 28 := (zz_rc fS480 rfl rfl (fun h => h) (zz_rc fS468 rfl rfl (fun h => h) rfl))
  have g490 := zz_G.r G_S 1031 6 2 8 rfl rfl
  have e491 : S480 1031 6 = S 1031 6 := (zz_rc fS480 rfl rfl (fun h => h) (zz_rc fS468 rfl rfl (fun h => h) rfl))
  have g492 := zz_G.r G_S 1079 1 2 8 rfl rfl
  have e493 : S480 1079 1 = S 1079 1 := (zz_rc fS480 rfl rfl (fun h => h) (zz_rc fS468 rfl rfl (fun h => h) rfl))
  exact ih (x4 + 7) S480 (n + d470) (k + zr_stopped_L.cells) (j + zr_stopped_L.slots) G_S480 H_S480 R_S480 O_S480 (by omega) (by omega) (fun u h1 h2 => ((zz_rc fS480 (zz_nc1 rfl) rfl (fun h => h) (zz_rc fS468 (zz_nc1 rfl) rfl (fun h => h) rfl)) : S480 1100 u = S 1100 u).trans (N_S u h1 h2)) (fun i h1 h2 => ((zz_rc fS480 (zz_nc1 rfl) rfl (fun h => h) (zz_rc fS468 (zz_nc1 rfl) rfl (fun h => h) rfl)) : S480 1071 i.toNat = S 1071 i.toNat).trans ((U_S i h1 (by omega)).trans ((zz_rc fS480 (zz_nc1 rfl) rfl (fun h => h) (zz_rc fS468 (zz_nc1 rfl) rfl (fun h => h) rfl)) : S480 1099 i.toNat = S 1099 i.toNat).symm)) A_S480 hn471 (by omega) (by show ((k + 1 : Nat) : Int) ≤ 200 + (x4 + 7); omega) (by show ((j + 6 : Nat) : Int) ≤ 30000 + 6 * (x4 + 7); omega) (by omega)
theorem zl_15 {g : mm_G} {l : Launch} (hfl : l.flags = flags0) (hlen : g.2.2.2 997 ≤ 3584) (N : Nat) (ih : ∀ (x4 : Int) (S : zz_S) (n k j : Nat), zz_G S → zz_Hc S → zz_Hr S → 1 ≤ S 1079 36 → S 1070 1 = S 1079 28 → S 1031 6 = S 1079 1 → (∀ w : Nat, 1 ≤ w → w ≤ 20 → S 1100 w = zt_cd (zt_nw.getD w [])) → (∀ i : Int, 0 ≤ i → i < S 1070 1 → S 1071 i.toNat = S 1099 i.toNat) → zn_A S → zz_end ≤ n → (0 ≤ x4 ∧ x4 ≤ 3590) → (k : Int) ≤ 200 + x4 → (j : Int) ≤ 30000 + 6 * x4 → (3600 - x4).toNat < N → zz_E g l zy_law_L room_1 (fun u => ∃ M1 n1, u = (.inl (some (zi 1)), M1, n1)) S n 23 [some (.ref 998), some (.ref 1000), some (.ref 1079), some (.ref 1121), some (zi x4)] [] k j) (x4 : Int) (S : zz_S) (n k j : Nat) (G_S : zz_G S) (H_S : zz_Hc S) (R_S : zz_Hr S) (O_S : 1 ≤ S 1079 36) (T0_S : S 1070 1 = S 1079 28) (T1_S : S 1031 6 = S 1079 1) (N_S : ∀ w : Nat, 1 ≤ w → w ≤ 20 → S 1100 w = zt_cd (zt_nw.getD w [])) (U_S : ∀ i : Int, 0 ≤ i → i < S 1070 1 → S 1071 i.toNat = S 1099 i.toNat) (A_S : zn_A S) (hn : zz_end ≤ n) (hx : 0 ≤ x4 ∧ x4 ≤ 3590) (hkk : (k : Int) ≤ 200 + x4) (hjj : (j : Int) ≤ 30000 + 6 * x4) (hR : (3600 - x4).toNat < N + 1) (hc1 : x4 ≤ zz_ln g - 7) : zz_E g l zy_law_L room_1 (fun u => ∃ M1 n1, u = (.inl (some (zi 1)), M1, n1)) S n 681 [some (.ref 998), some (.ref 1000), some (.ref 1079), some (.ref 1121), some (zi x4)] [] k j := by
  have hln : 0 ≤ zz_ln g ∧ zz_ln g ≤ 3584 := ⟨Int.natCast_nonneg _, Int.ofNat_le.mpr hlen⟩
  have hk : k ≤ 601024 := by omega
  have hj : j ≤ 7293034 := by omega
  refine zz_aload_n (x := 1000) rfl zd_L_law_681 ?_
  refine zz_aload_n (x := 998) rfl zd_L_law_682 ?_
  refine zz_iload (x := x4) rfl zd_L_law_683 ?_
  refine zz_iconst zd_L_law_685 ?_
  refine zz_iadd zd_L_law_686 ?_
  refine zz_sld (by omega) zd_L_law_687 (by omega) ?_
  have g495 := zz_sc_r g (x4 + 1).toNat
  refine zz_aload_n (x := 998) rfl zd_L_law_688 ?_
  refine zz_iload (x := x4) rfl zd_L_law_689 ?_
  refine zz_iconst zd_L_law_691 ?_
  refine zz_iadd zd_L_law_692 ?_
  refine zz_sld (by omega) zd_L_law_693 (by omega) ?_
  have g496 := zz_sc_r g (x4 + 2).toNat
  refine zz_aload_n (x := 1121) rfl zd_L_law_694 ?_
  refine zz_callHW (rz := zr_instruction_L) [.ref 1000, zi (zz_sc g (x4 + 1).toNat), zi (zz_sc g (x4 + 2).toNat), .ref 1121] zd_L_law_695 zhl_instruction_L rfl rfl ⟨Nat.le_of_ble_eq_true rfl, Nat.le_of_ble_eq_true rfl⟩ (by show k + 2 ≤ 601024; omega) (by show j + 12 ≤ 7293034; omega) (zc_instruction_L (zz_sc g (x4 + 1).toNat) (zz_sc g (x4 + 2).toNat) S (n) hn hfl G_S (by omega) (by omega)) (fun v498 S497 d499 hd499 hP => ?_)
  obtain ⟨G_S497, fS497, rv498⟩ := hP
  have hn500 : zz_end ≤ n + d499 := by omega
  have hk501 : (k + zr_instruction_L.cells) ≤ 601024 := by show k + 2 ≤ 601024; omega
  have hj502 : (j + zr_instruction_L.slots) ≤ 7293034 := by show j + 12 ≤ 7293034; omega
  have H_S497 : zz_Hc S497 := zz_Hc.fr (q := 0) fS497 rfl rfl G_S (by decide) rfl (fun b q h => h.elim) H_S
  have R_S497 : zz_Hr S497 := zz_Hr.fr fS497 rfl rfl (fun b q h => h.elim) R_S
  have O_S497 : 1 ≤ S497 1079 36 := by rw [show S497 1079 36 = S 1079 36 from zz_rc fS497 rfl rfl (fun h => h) rfl]; exact O_S
  have g503 := zz_G.r G_S 1000 7 0 1 rfl rfl
  have e504 : S497 1000 7 = S 1000 7 := (zz_rc fS497 rfl rfl (fun h => h) rfl)
  have g505 := zz_G.r G_S 1000 8 0 1 rfl rfl
  have e506 : S497 1000 8 = S 1000 8 := (zz_rc fS497 rfl rfl (fun h => h) rfl)
  have g507 := zz_G.r G_S 1079 36 0 11 rfl rfl
  have e508 : S497 1079 36 = S 1079 36 := (zz_rc fS497 rfl rfl (fun h => h) rfl)
  have A_S497 : zn_A S497 := zn_A.fr A_S fS497 rfl rfl (fun b q h => h.elim) rfl rfl (by omega) (by omega) (by omega) (by omega)
  refine zz_istore [some (.ref 998), some (.ref 1000), some (.ref 1079), some (.ref 1121), some (zi x4), some (zi v498)] zd_L_law_698 (by decide) rfl ?_
  refine zz_aload_n (x := 1079) rfl zd_L_law_700 ?_
  refine zz_aload_n (x := 998) rfl zd_L_law_701 ?_
  refine zz_iload (x := x4) rfl zd_L_law_702 ?_
  refine zz_iconst zd_L_law_704 ?_
  refine zz_iadd zd_L_law_705 ?_
  refine zz_sld (by omega) zd_L_law_706 (by omega) ?_
  refine zz_aload_n (x := 998) rfl zd_L_law_707 ?_
  refine zz_iload (x := x4) rfl zd_L_law_708 ?_
  refine zz_iconst zd_L_law_710 ?_
  refine zz_iadd zd_L_law_711 ?_
  refine zz_sld (by omega) zd_L_law_712 (by omega) ?_
  refine zz_callVI [zi (zz_sc g (x4 + 1).toNat), zi (zz_sc g (x4 + 2).toNat)] zd_L_law_713 zk_TFLaw_160 zT_1079 (zz_ltn hn500 rfl) rfl rfl ⟨Nat.le_of_ble_eq_true rfl, Nat.le_of_ble_eq_true rfl⟩ ⟨rfl, rfl⟩ hk501 hj502 (zc_instruction_14_46 (zz_sc g (x4 + 1).toNat) (zz_sc g (x4 + 2).toNat) S497 (n + d499) hn500 G_S497 (by omega) (by omega)) (fun v510 S509 hP => ?_)
  obtain ⟨G_S509, fS509, o511⟩ := hP
  have H_S509 : zz_Hc S509 := zz_Hc.fr (q := 0) fS509 rfl rfl G_S497 (by decide) rfl (fun b q h => h.elim) H_S497
  have R_S509 : zz_Hr S509 := zz_Hr.fr fS509 rfl rfl (fun b q h => h.elim) R_S497
  have O_S509 : 1 ≤ S509 1079 36 := by rw [show S509 1079 36 = S497 1079 36 from zz_rc fS509 rfl rfl (fun h => h) rfl]; exact O_S497
  have e512 : S509 1000 7 = S 1000 7 := (zz_rc fS509 rfl rfl (fun h => h) (zz_rc fS497 rfl rfl (fun h => h) rfl))
  have e513 : S509 1000 8 = S 1000 8 := (zz_rc fS509 rfl rfl (fun h => h) (zz_rc fS497 rfl rfl (fun h => h) rfl))
  have e514 : S509 1079 36 = S 1079 36 := (zz_rc fS509 rfl rfl (fun h => h) (zz_rc fS497 rfl rfl (fun h => h) rfl))
  have A_S509 : zn_A S509 := zn_A.fr A_S497 fS509 rfl rfl (fun b q h => h.elim) rfl rfl (by omega) (by omega) (by omega) (by omega)
  refine zz_istore [some (.ref 998), some (.ref 1000), some (.ref 1079), some (.ref 1121), some (zi x4), some (zi v498), some (zi v510)] zd_L_law_716 (by decide) rfl ?_
  refine zz_goto zd_L_law_718 ?_
  refine zz_iinc [some (.ref 998), some (.ref 1000), some (.ref 1079), some (.ref 1121), some (zi (x4 + 7)), some (zi v498), some (zi v510)] zd_L_law_1208 rfl rfl ?_
  refine zz_goto zd_L_law_1211 ?_
  refine zz_less (ls1 := [some (.ref 998), some (.ref 1000), some (.ref 1079), some (.ref 1121), some (zi (x4 + 7))]) ⟨rfl, ⟨rfl, ⟨rfl, ⟨rfl, ⟨rfl, trivial⟩⟩⟩⟩⟩ ?_
  have g515 := zz_G.r G_S 1070 1 0 1500 rfl rfl
  have e516 : S509 1070 1 = S 1070 1 := (zz_rc fS509 rfl rfl (fun h => h) (zz_rc fS497 rfl rfl (fun h => h) rfl))
  have g517 := zz_G.r G_S 1079 28 0 1500 rfl rfl
  have e518 : S509 1079 28 = S 1079 28 := (zz_rc fS509 rfl rfl (fun h => h) (zz_rc fS497 rfl rfl (fun h => h) rfl))
  have g519 := zz_G.r G_S 1031 6 2 8 rfl rfl
  have e520 : S509 1031 6 = S 1031 6 := (zz_rc fS509 rfl rfl (fun h => h) (zz_rc fS497 rfl rfl (fun h => h) rfl))
  have g521 := zz_G.r G_S 1079 1 2 8 rfl rfl
  have e522 : S509 1079 1 = S 1079 1 := (zz_rc fS509 rfl rfl (fun h => h) (zz_rc fS497 rfl rfl (fun h => h) rfl))
  exact ih (x4 + 7) S509 (n + d499) (k + zr_instruction_L.cells) (j + zr_instruction_L.slots) G_S509 H_S509 R_S509 O_S509 (by omega) (by omega) (fun u h1 h2 => ((zz_rc fS509 (zz_nc1 rfl) rfl (fun h => h) (zz_rc fS497 (zz_nc1 rfl) rfl (fun h => h) rfl)) : S509 1100 u = S 1100 u).trans (N_S u h1 h2)) (fun i h1 h2 => ((zz_rc fS509 (zz_nc1 rfl) rfl (fun h => h) (zz_rc fS497 (zz_nc1 rfl) rfl (fun h => h) rfl)) : S509 1071 i.toNat = S 1071 i.toNat).trans ((U_S i h1 (by omega)).trans ((zz_rc fS509 (zz_nc1 rfl) rfl (fun h => h) (zz_rc fS497 (zz_nc1 rfl) rfl (fun h => h) rfl)) : S509 1099 i.toNat = S 1099 i.toNat).symm)) A_S509 hn500 (by omega) (by show ((k + 2 : Nat) : Int) ≤ 200 + (x4 + 7); omega) (by show ((j + 12 : Nat) : Int) ≤ 30000 + 6 * (x4 + 7); omega) (by omega)
theorem zl_16 {g : mm_G} {l : Launch} (hfl : l.flags = flags0) (hlen : g.2.2.2 997 ≤ 3584) (N : Nat) (ih : ∀ (x4 : Int) (S : zz_S) (n k j : Nat), zz_G S → zz_Hc S → zz_Hr S → 1 ≤ S 1079 36 → S 1070 1 = S 1079 28 → S 1031 6 = S 1079 1 → (∀ w : Nat, 1 ≤ w → w ≤ 20 → S 1100 w = zt_cd (zt_nw.getD w [])) → (∀ i : Int, 0 ≤ i → i < S 1070 1 → S 1071 i.toNat = S 1099 i.toNat) → zn_A S → zz_end ≤ n → (0 ≤ x4 ∧ x4 ≤ 3590) → (k : Int) ≤ 200 + x4 → (j : Int) ≤ 30000 + 6 * x4 → (3600 - x4).toNat < N → zz_E g l zy_law_L room_1 (fun u => ∃ M1 n1, u = (.inl (some (zi 1)), M1, n1)) S n 23 [some (.ref 998), some (.ref 1000), some (.ref 1079), some (.ref 1121), some (zi x4)] [] k j) (x4 : Int) (S : zz_S) (n k j : Nat) (G_S : zz_G S) (H_S : zz_Hc S) (R_S : zz_Hr S) (O_S : 1 ≤ S 1079 36) (T0_S : S 1070 1 = S 1079 28) (T1_S : S 1031 6 = S 1079 1) (N_S : ∀ w : Nat, 1 ≤ w → w ≤ 20 → S 1100 w = zt_cd (zt_nw.getD w [])) (U_S : ∀ i : Int, 0 ≤ i → i < S 1070 1 → S 1071 i.toNat = S 1099 i.toNat) (A_S : zn_A S) (hn : zz_end ≤ n) (hx : 0 ≤ x4 ∧ x4 ≤ 3590) (hkk : (k : Int) ≤ 200 + x4) (hjj : (j : Int) ≤ 30000 + 6 * x4) (hR : (3600 - x4).toNat < N + 1) (hc1 : x4 ≤ zz_ln g - 7) : zz_E g l zy_law_L room_1 (fun u => ∃ M1 n1, u = (.inl (some (zi 1)), M1, n1)) S n 721 [some (.ref 998), some (.ref 1000), some (.ref 1079), some (.ref 1121), some (zi x4)] [] k j := by
  have hln : 0 ≤ zz_ln g ∧ zz_ln g ≤ 3584 := ⟨Int.natCast_nonneg _, Int.ofNat_le.mpr hlen⟩
  have hk : k ≤ 601024 := by omega
  have hj : j ≤ 7293034 := by omega
  refine zz_aload_n (x := 1000) rfl zd_L_law_721 ?_
  refine zz_aload_n (x := 998) rfl zd_L_law_722 ?_
  refine zz_iload (x := x4) rfl zd_L_law_723 ?_
  refine zz_iconst zd_L_law_725 ?_
  refine zz_iadd zd_L_law_726 ?_
  refine zz_sld (by omega) zd_L_law_727 (by omega) ?_
  have g524 := zz_sc_r g (x4 + 1).toNat
  refine zz_aload_n (x := 998) rfl zd_L_law_728 ?_
  refine zz_iload (x := x4) rfl zd_L_law_729 ?_
  refine zz_iconst zd_L_law_731 ?_
  refine zz_iadd zd_L_law_732 ?_
  refine zz_sld (by omega) zd_L_law_733 (by omega) ?_
  have g525 := zz_sc_r g (x4 + 2).toNat
  refine zz_aload_n (x := 998) rfl zd_L_law_734 ?_
  refine zz_iload (x := x4) rfl zd_L_law_735 ?_
  refine zz_iconst zd_L_law_737 ?_
  refine zz_iadd zd_L_law_738 ?_
  refine zz_sld (by omega) zd_L_law_739 (by omega) ?_
  have g526 := zz_sc_r g (x4 + 3).toNat
  refine zz_callHW (rz := zr_input_L) [.ref 1000, zi (zz_sc g (x4 + 1).toNat), zi (zz_sc g (x4 + 2).toNat), zi (zz_sc g (x4 + 3).toNat)] zd_L_law_740 zhl_input_L rfl rfl ⟨Nat.le_of_ble_eq_true rfl, Nat.le_of_ble_eq_true rfl⟩ (by show k + 1 ≤ 601024; omega) (by show j + 6 ≤ 7293034; omega) (zc_input_L (zz_sc g (x4 + 1).toNat) (zz_sc g (x4 + 2).toNat) (zz_sc g (x4 + 3).toNat) S (n) hn hfl G_S (by omega) (by omega) (by omega) H_S) (fun v528 S527 d529 hd529 hP => ?_)
  obtain ⟨G_S527, fS527, rv528, o530, o531, o532, o533⟩ := hP
  have g534 := zz_G.r G_S 1000 7 0 1 rfl rfl
  have hn535 : zz_end ≤ n + d529 := by omega
  have hk536 : (k + zr_input_L.cells) ≤ 601024 := by show k + 1 ≤ 601024; omega
  have hj537 : (j + zr_input_L.slots) ≤ 7293034 := by show j + 6 ≤ 7293034; omega
  have b538 := zz_rf3 (z := (S 1000 7)) (by omega)
  have b539 := zz_rf6 (z := (12 * (S 1000 7) + 0)) (by omega)
  have H_S527 : zz_Hc S527 := o533
  have R_S527 : zz_Hr S527 := zz_Hr.fr fS527 rfl rfl (fun b q h => by have h0_ := zz_rf3 (z := (S 1000 7)) (by omega); have h10_ := zz_rf6 (z := (12 * (S 1000 7) + 0)) (by omega); have h11_ := zz_rf6 (z := (12 * (S 1000 7) + 0)) (by omega); have h12_ := zz_rf6 (z := (12 * (S 1000 7) + 0)) (by omega); have h13_ := zz_rf6 (z := (12 * (S 1000 7) + 0)) (by omega); have h14_ := zz_rf6 (z := (12 * (S 1000 7) + 0)) (by omega); have h15_ := zz_rf6 (z := (12 * (S 1000 7) + 0)) (by omega); have h1_ := zz_rf6 (z := (12 * (S 1000 7) + 0)) (by omega); have h2_ := zz_rf6 (z := (12 * (S 1000 7) + 0)) (by omega); have h3_ := zz_rf6 (z := (12 * (S 1000 7) + 0)) (by omega); have h4_ := zz_rf6 (z := (12 * (S 1000 7) + 0)) (by omega); have h5_ := zz_rf6 (z := (12 * (S 1000 7) + 0)) (by omega); have h6_ := zz_rf6 (z := (12 * (S 1000 7) + 0)) (by omega); have h7_ := zz_rf6 (z := (12 * (S 1000 7) + 0)) (by omega); have h8_ := zz_rf6 (z := (12 * (S 1000 7) + 0)) (by omega); have h9_ := zz_rf6 (z := (12 * (S 1000 7) + 0)) (by omega); omega) R_S
  have O_S527 : 1 ≤ S527 1079 36 := by rw [show S527 1079 36 = S 1079 36 from zz_rc fS527 rfl rfl (by have h0_ := zz_rf3 (z := (S 1000 7)) (by omega); have h10_ := zz_rf6 (z := (12 * (S 1000 7) + 0)) (by omega); have h11_ := zz_rf6 (z := (12 * (S 1000 7) + 0)) (by omega); have h12_ := zz_rf6 (z := (12 * (S 1000 7) + 0)) (by omega); have h13_ := zz_rf6 (z := (12 * (S 1000 7) + 0)) (by omega); have h14_ := zz_rf6 (z := (12 * (S 1000 7) + 0)) (by omega); have h15_ := zz_rf6 (z := (12 * (S 1000 7) + 0)) (by omega); have h1_ := zz_rf6 (z := (12 * (S 1000 7) + 0)) (by omega); have h2_ := zz_rf6 (z := (12 * (S 1000 7) + 0)) (by omega); have h3_ := zz_rf6 (z := (12 * (S 1000 7) + 0)) (by omega); have h4_ := zz_rf6 (z := (12 * (S 1000 7) + 0)) (by omega); have h5_ := zz_rf6 (z := (12 * (S 1000 7) + 0)) (by omega); have h6_ := zz_rf6 (z := (12 * (S 1000 7) + 0)) (by omega); have h7_ := zz_rf6 (z := (12 * (S 1000 7) + 0)) (by omega); have h8_ := zz_rf6 (z := (12 * (S 1000 7) + 0)) (by omega); have h9_ := zz_rf6 (z := (12 * (S 1000 7) + 0)) (by omega); omega) rfl]; exact O_S
  have g540 := zz_G.r G_S 1000 7 0 1 rfl rfl
  have e541 : S527 1000 7 = S 1000 7 := (zz_rc fS527 rfl rfl (by first | decide | omega) rfl)
  have g542 := zz_G.r G_S 1000 8 0 1 rfl rfl
  have e543 : S527 1000 8 = S 1000 8 := (zz_rc fS527 rfl rfl (by first | decide | omega) rfl)
  have g544 := zz_G.r G_S 1079 36 0 11 rfl rfl
  have e545 : S527 1079 36 = S 1079 36 := (zz_rc fS527 rfl rfl (by first | decide | omega) rfl)
  refine zz_istore [some (.ref 998), some (.ref 1000), some (.ref 1079), some (.ref 1121), some (zi x4), some (zi v528)] zd_L_law_743 (by decide) rfl ?_
  refine zz_aload_n (x := 1079) rfl zd_L_law_745 ?_
  refine zz_aload_n (x := 998) rfl zd_L_law_746 ?_
  refine zz_iload (x := x4) rfl zd_L_law_747 ?_
  refine zz_iconst zd_L_law_749 ?_
  refine zz_iadd zd_L_law_750 ?_
  refine zz_sld (by omega) zd_L_law_751 (by omega) ?_
  refine zz_aload_n (x := 998) rfl zd_L_law_752 ?_
  refine zz_iload (x := x4) rfl zd_L_law_753 ?_
  refine zz_iconst zd_L_law_755 ?_
  refine zz_iadd zd_L_law_756 ?_
  refine zz_sld (by omega) zd_L_law_757 (by omega) ?_
  refine zz_aload_n (x := 998) rfl zd_L_law_758 ?_
  refine zz_iload (x := x4) rfl zd_L_law_759 ?_
  refine zz_iconst zd_L_law_761 ?_
  refine zz_iadd zd_L_law_762 ?_
  refine zz_sld (by omega) zd_L_law_763 (by omega) ?_
  refine zz_callVV [zi (zz_sc g (x4 + 1).toNat), zi (zz_sc g (x4 + 2).toNat), zi (zz_sc g (x4 + 3).toNat)] zd_L_law_764 zk_TFLaw_164 zT_1079 (zz_ltn hn535 rfl) rfl rfl ⟨Nat.le_of_ble_eq_true rfl, Nat.le_of_ble_eq_true rfl⟩ ⟨rfl, rfl⟩ hk536 hj537 (zc_input_14_63 (zz_sc g (x4 + 1).toNat) (zz_sc g (x4 + 2).toNat) (zz_sc g (x4 + 3).toNat) S527 (n + d529) hn535 G_S527 (by omega) (by omega) (by omega) R_S527) (fun S546 hP => ?_)
  obtain ⟨G_S546, fS546, o548, o549, o550, o551, o552, o553⟩ := hP
  have H_S546 : zz_Hc S546 := zz_Hc.fr (q := 0) fS546 rfl rfl G_S527 (by decide) rfl (fun b q h => h.elim) H_S527
  have R_S546 : zz_Hr S546 := o553
  have O_S546 : 1 ≤ S546 1079 36 := by omega
  have e554 : S546 1000 7 = S 1000 7 := (zz_rc fS546 rfl rfl (fun h => h) (zz_rc fS527 rfl rfl (by first | decide | omega) rfl))
  have e555 : S546 1000 8 = S 1000 8 := (zz_rc fS546 rfl rfl (fun h => h) (zz_rc fS527 rfl rfl (by first | decide | omega) rfl))
  have g556 := zz_G.r G_S546 1079 36 0 11 rfl rfl
  have L_S546 := zn_Linp (h := S546 1079 0) A_S o531 o532 o551 o552 (fun v h => zn_M.fr h fS527 rfl rfl (fun b q h => by have h0_ := zz_rf3 (z := (S 1000 7)) (by omega); have h1_ := zz_rf6 (z := (12 * (S 1000 7) + 0)) (by omega); omega) (by omega)) (fun v hV h => zn_C.out h hV (by omega) fS546 rfl rfl (fun b q h => h.elim)) (by omega) (by omega) (by omega) (fun h => by omega)
  have A_S546 : zn_A S546 := L_S546
  refine zz_goto zd_L_law_767 ?_
  refine zz_iinc [some (.ref 998), some (.ref 1000), some (.ref 1079), some (.ref 1121), some (zi (x4 + 7)), some (zi v528)] zd_L_law_1208 rfl rfl ?_
  refine zz_goto zd_L_law_1211 ?_
  refine zz_less (ls1 := [some (.ref 998), some (.ref 1000), some (.ref 1079), some (.ref 1121), some (zi (x4 + 7))]) ⟨rfl, ⟨rfl, ⟨rfl, ⟨rfl, ⟨rfl, trivial⟩⟩⟩⟩⟩ ?_
  have g557 := zz_G.r G_S 1070 1 0 1500 rfl rfl
  have e558 : S546 1070 1 = S 1070 1 := (zz_rc fS546 rfl rfl (fun h => h) (zz_rc fS527 rfl rfl (by first | decide | omega) rfl))
  have g559 := zz_G.r G_S 1079 28 0 1500 rfl rfl
  have e560 : S546 1079 28 = S 1079 28 := (zz_rc fS546 rfl rfl (fun h => h) (zz_rc fS527 rfl rfl (by first | decide | omega) rfl))
  have g561 := zz_G.r G_S 1031 6 2 8 rfl rfl
  have e562 : S546 1031 6 = S 1031 6 := (zz_rc fS546 rfl rfl (fun h => h) (zz_rc fS527 rfl rfl (by first | decide | omega) rfl))
  have g563 := zz_G.r G_S 1079 1 2 8 rfl rfl
  have e564 : S546 1079 1 = S 1079 1 := (zz_rc fS546 rfl rfl (fun h => h) (zz_rc fS527 rfl rfl (by first | decide | omega) rfl))
  exact ih (x4 + 7) S546 (n + d529) (k + zr_input_L.cells) (j + zr_input_L.slots) G_S546 H_S546 R_S546 O_S546 (by omega) (by omega) (fun u h1 h2 => ((zz_rc fS546 (zz_nc1 rfl) rfl (fun h => h) (zz_rc fS527 (zz_nc1 rfl) rfl (by have h0_ := zz_rf3 (z := (S 1000 7)) (by omega); have h10_ := zz_rf6 (z := (12 * (S 1000 7) + 0)) (by omega); have h11_ := zz_rf6 (z := (12 * (S 1000 7) + 0)) (by omega); have h12_ := zz_rf6 (z := (12 * (S 1000 7) + 0)) (by omega); have h13_ := zz_rf6 (z := (12 * (S 1000 7) + 0)) (by omega); have h14_ := zz_rf6 (z := (12 * (S 1000 7) + 0)) (by omega); have h15_ := zz_rf6 (z := (12 * (S 1000 7) + 0)) (by omega); have h1_ := zz_rf6 (z := (12 * (S 1000 7) + 0)) (by omega); have h2_ := zz_rf6 (z := (12 * (S 1000 7) + 0)) (by omega); have h3_ := zz_rf6 (z := (12 * (S 1000 7) + 0)) (by omega); have h4_ := zz_rf6 (z := (12 * (S 1000 7) + 0)) (by omega); have h5_ := zz_rf6 (z := (12 * (S 1000 7) + 0)) (by omega); have h6_ := zz_rf6 (z := (12 * (S 1000 7) + 0)) (by omega); have h7_ := zz_rf6 (z := (12 * (S 1000 7) + 0)) (by omega); have h8_ := zz_rf6 (z := (12 * (S 1000 7) + 0)) (by omega); have h9_ := zz_rf6 (z := (12 * (S 1000 7) + 0)) (by omega); omega) rfl)) : S546 1100 u = S 1100 u).trans (N_S u h1 h2)) (fun i h1 h2 => ((zz_rc fS546 (zz_nc1 rfl) rfl (fun h => h) (zz_rc fS527 (zz_nc1 rfl) rfl (by have h0_ := zz_rf3 (z := (S 1000 7)) (by omega); have h10_ := zz_rf6 (z := (12 * (S 1000 7) + 0)) (by omega); have h11_ := zz_rf6 (z := (12 * (S 1000 7) + 0)) (by omega); have h12_ := zz_rf6 (z := (12 * (S 1000 7) + 0)) (by omega); have h13_ := zz_rf6 (z := (12 * (S 1000 7) + 0)) (by omega); have h14_ := zz_rf6 (z := (12 * (S 1000 7) + 0)) (by omega); have h15_ := zz_rf6 (z := (12 * (S 1000 7) + 0)) (by omega); have h1_ := zz_rf6 (z := (12 * (S 1000 7) + 0)) (by omega); have h2_ := zz_rf6 (z := (12 * (S 1000 7) + 0)) (by omega); have h3_ := zz_rf6 (z := (12 * (S 1000 7) + 0)) (by omega); have h4_ := zz_rf6 (z := (12 * (S 1000 7) + 0)) (by omega); have h5_ := zz_rf6 (z := (12 * (S 1000 7) + 0)) (by omega); have h6_ := zz_rf6 (z := (12 * (S 1000 7) + 0)) (by omega); have h7_ := zz_rf6 (z := (12 * (S 1000 7) + 0)) (by omega); have h8_ := zz_rf6 (z := (12 * (S 1000 7) + 0)) (by omega); have h9_ := zz_rf6 (z := (12 * (S 1000 7) + 0)) (by omega); omega) rfl)) : S546 1071 i.toNat = S 1071 i.toNat).trans ((U_S i h1 (by omega)).trans ((zz_rc fS546 (zz_nc1 rfl) rfl (fun h => h) (zz_rc fS527 (zz_nc1 rfl) rfl (by have h0_ := zz_rf3 (z := (S 1000 7)) (by omega); have h10_ := zz_rf6 (z := (12 * (S 1000 7) + 0)) (by omega); have h11_ := zz_rf6 (z := (12 * (S 1000 7) + 0)) (by omega); have h12_ := zz_rf6 (z := (12 * (S 1000 7) + 0)) (by omega); have h13_ := zz_rf6 (z := (12 * (S 1000 7) + 0)) (by omega); have h14_ := zz_rf6 (z := (12 * (S 1000 7) + 0)) (by omega); have h15_ := zz_rf6 (z := (12 * (S 1000 7) + 0)) (by omega); have h1_ := zz_rf6 (z := (12 * (S 1000 7) + 0)) (by omega); have h2_ := zz_rf6 (z := (12 * (S 1000 7) + 0)) (by omega); have h3_ := zz_rf6 (z := (12 * (S 1000 7) + 0)) (by omega); have h4_ := zz_rf6 (z := (12 * (S 1000 7) + 0)) (by omega); have h5_ := zz_rf6 (z := (12 * (S 1000 7) + 0)) (by omega); have h6_ := zz_rf6 (z := (12 * (S 1000 7) + 0)) (by omega); have h7_ := zz_rf6 (z := (12 * (S 1000 7) + 0)) (by omega); have h8_ := zz_rf6 (z := (12 * (S 1000 7) + 0)) (by omega); have h9_ := zz_rf6 (z := (12 * (S 1000 7) + 0)) (by omega); omega) rfl)) : S546 1099 i.toNat = S 1099 i.toNat).symm)) A_S546 hn535 (by omega) (by show ((k + 1 : Nat) : Int) ≤ 200 + (x4 + 7); omega) (by show ((j + 6 : Nat) : Int) ≤ 30000 + 6 * (x4 + 7); omega) (by omega)
theorem zl_17 {g : mm_G} {l : Launch} (hfl : l.flags = flags0) (hlen : g.2.2.2 997 ≤ 3584) (N : Nat) (ih : ∀ (x4 : Int) (S : zz_S) (n k j : Nat), zz_G S → zz_Hc S → zz_Hr S → 1 ≤ S 1079 36 → S 1070 1 = S 1079 28 → S 1031 6 = S 1079 1 → (∀ w : Nat, 1 ≤ w → w ≤ 20 → S 1100 w = zt_cd (zt_nw.getD w [])) → (∀ i : Int, 0 ≤ i → i < S 1070 1 → S 1071 i.toNat = S 1099 i.toNat) → zn_A S → zz_end ≤ n → (0 ≤ x4 ∧ x4 ≤ 3590) → (k : Int) ≤ 200 + x4 → (j : Int) ≤ 30000 + 6 * x4 → (3600 - x4).toNat < N → zz_E g l zy_law_L room_1 (fun u => ∃ M1 n1, u = (.inl (some (zi 1)), M1, n1)) S n 23 [some (.ref 998), some (.ref 1000), some (.ref 1079), some (.ref 1121), some (zi x4)] [] k j) (x4 : Int) (S : zz_S) (n k j : Nat) (G_S : zz_G S) (H_S : zz_Hc S) (R_S : zz_Hr S) (O_S : 1 ≤ S 1079 36) (T0_S : S 1070 1 = S 1079 28) (T1_S : S 1031 6 = S 1079 1) (N_S : ∀ w : Nat, 1 ≤ w → w ≤ 20 → S 1100 w = zt_cd (zt_nw.getD w [])) (U_S : ∀ i : Int, 0 ≤ i → i < S 1070 1 → S 1071 i.toNat = S 1099 i.toNat) (A_S : zn_A S) (hn : zz_end ≤ n) (hx : 0 ≤ x4 ∧ x4 ≤ 3590) (hkk : (k : Int) ≤ 200 + x4) (hjj : (j : Int) ≤ 30000 + 6 * x4) (hR : (3600 - x4).toNat < N + 1) (hc1 : x4 ≤ zz_ln g - 7) : zz_E g l zy_law_L room_1 (fun u => ∃ M1 n1, u = (.inl (some (zi 1)), M1, n1)) S n 770 [some (.ref 998), some (.ref 1000), some (.ref 1079), some (.ref 1121), some (zi x4)] [] k j := by
  have hln : 0 ≤ zz_ln g ∧ zz_ln g ≤ 3584 := ⟨Int.natCast_nonneg _, Int.ofNat_le.mpr hlen⟩
  have hk : k ≤ 601024 := by omega
  have hj : j ≤ 7293034 := by omega
  refine zz_aload_n (x := 1000) rfl zd_L_law_770 ?_
  refine zz_aload_n (x := 998) rfl zd_L_law_771 ?_
  refine zz_iload (x := x4) rfl zd_L_law_772 ?_
  refine zz_iconst zd_L_law_774 ?_
  refine zz_iadd zd_L_law_775 ?_
  refine zz_sld (by omega) zd_L_law_776 (by omega) ?_
  have g566 := zz_sc_r g (x4 + 1).toNat
  refine zz_aload_n (x := 998) rfl zd_L_law_777 ?_
  refine zz_iload (x := x4) rfl zd_L_law_778 ?_
  refine zz_iconst zd_L_law_780 ?_
  refine zz_iadd zd_L_law_781 ?_
  refine zz_sld (by omega) zd_L_law_782 (by omega) ?_
  have g567 := zz_sc_r g (x4 + 2).toNat
  refine zz_aload_n (x := 998) rfl zd_L_law_783 ?_
  refine zz_iload (x := x4) rfl zd_L_law_784 ?_
  refine zz_iconst zd_L_law_786 ?_
  refine zz_iadd zd_L_law_787 ?_
  refine zz_sld (by omega) zd_L_law_788 (by omega) ?_
  have g568 := zz_sc_r g (x4 + 3).toNat
  refine zz_aload_n (x := 998) rfl zd_L_law_789 ?_
  refine zz_iload (x := x4) rfl zd_L_law_790 ?_
  refine zz_iconst zd_L_law_792 ?_
  refine zz_iadd zd_L_law_793 ?_
  refine zz_sld (by omega) zd_L_law_794 (by omega) ?_
  have g569 := zz_sc_r g (x4 + 4).toNat
  refine zz_aload_n (x := 998) rfl zd_L_law_795 ?_
  refine zz_iload (x := x4) rfl zd_L_law_796 ?_
  refine zz_iconst zd_L_law_798 ?_
  refine zz_iadd zd_L_law_799 ?_
  refine zz_sld (by omega) zd_L_law_800 (by omega) ?_
  have g570 := zz_sc_r g (x4 + 5).toNat
  refine zz_aload_n (x := 998) rfl zd_L_law_801 ?_
  refine zz_iload (x := x4) rfl zd_L_law_802 ?_
  refine zz_bipush (by decide) zd_L_law_804 ?_
  refine zz_iadd zd_L_law_806 ?_
  refine zz_sld (by omega) zd_L_law_807 (by omega) ?_
  have g571 := zz_sc_r g (x4 + 6).toNat
  refine zz_aload_n (x := 1121) rfl zd_L_law_808 ?_
  refine zz_callHW (rz := zr_convolution_L) [.ref 1000, zi (zz_sc g (x4 + 1).toNat), zi (zz_sc g (x4 + 2).toNat), zi (zz_sc g (x4 + 3).toNat), zi (zz_sc g (x4 + 4).toNat), zi (zz_sc g (x4 + 5).toNat), zi (zz_sc g (x4 + 6).toNat), .ref 1121] zd_L_law_809 zhl_convolution_L rfl rfl ⟨Nat.le_of_ble_eq_true rfl, Nat.le_of_ble_eq_true rfl⟩ (by show k + 1 ≤ 601024; omega) (by show j + 6 ≤ 7293034; omega) (zc_convolution_L (zz_sc g (x4 + 1).toNat) (zz_sc g (x4 + 2).toNat) (zz_sc g (x4 + 3).toNat) (zz_sc g (x4 + 4).toNat) (zz_sc g (x4 + 5).toNat) (zz_sc g (x4 + 6).toNat) S (n) hn hfl G_S (by omega) (by omega) (by omega) (by omega) (by omega) (by omega) H_S) (fun v573 S572 d574 hd574 hP => ?_)
  obtain ⟨G_S572, fS572, rv573, o575, o576⟩ := hP
  have hn577 : zz_end ≤ n + d574 := by omega
  have hk578 : (k + zr_convolution_L.cells) ≤ 601024 := by show k + 1 ≤ 601024; omega
  have hj579 : (j + zr_convolution_L.slots) ≤ 7293034 := by show j + 6 ≤ 7293034; omega
  have H_S572 : zz_Hc S572 := o576
  have R_S572 : zz_Hr S572 := zz_Hr.fr fS572 rfl rfl (fun b q h => h.elim) R_S
  have O_S572 : 1 ≤ S572 1079 36 := by rw [show S572 1079 36 = S 1079 36 from zz_rc fS572 rfl rfl (fun h => h) rfl]; exact O_S
  have g580 := zz_G.r G_S 1000 7 0 1 rfl rfl
  have e581 : S572 1000 7 = S 1000 7 := (zz_rc fS572 rfl rfl (fun h => h) rfl)
  have g582 := zz_G.r G_S 1000 8 0 1 rfl rfl
  have e583 : S572 1000 8 = S 1000 8 := (zz_rc fS572 rfl rfl (fun h => h) rfl)
  have g584 := zz_G.r G_S 1079 36 0 11 rfl rfl
  have e585 : S572 1079 36 = S 1079 36 := (zz_rc fS572 rfl rfl (fun h => h) rfl)
  refine zz_istore [some (.ref 998), some (.ref 1000), some (.ref 1079), some (.ref 1121), some (zi x4), some (zi v573)] zd_L_law_812 (by decide) rfl ?_
  refine zz_aload_n (x := 1079) rfl zd_L_law_814 ?_
  refine zz_aload_n (x := 998) rfl zd_L_law_815 ?_
  refine zz_iload (x := x4) rfl zd_L_law_816 ?_
  refine zz_iconst zd_L_law_818 ?_
  refine zz_iadd zd_L_law_819 ?_
  refine zz_sld (by omega) zd_L_law_820 (by omega) ?_
  refine zz_aload_n (x := 998) rfl zd_L_law_821 ?_
  refine zz_iload (x := x4) rfl zd_L_law_822 ?_
  refine zz_iconst zd_L_law_824 ?_
  refine zz_iadd zd_L_law_825 ?_
  refine zz_sld (by omega) zd_L_law_826 (by omega) ?_
  refine zz_aload_n (x := 998) rfl zd_L_law_827 ?_
  refine zz_iload (x := x4) rfl zd_L_law_828 ?_
  refine zz_iconst zd_L_law_830 ?_
  refine zz_iadd zd_L_law_831 ?_
  refine zz_sld (by omega) zd_L_law_832 (by omega) ?_
  refine zz_aload_n (x := 998) rfl zd_L_law_833 ?_
  refine zz_iload (x := x4) rfl zd_L_law_834 ?_
  refine zz_iconst zd_L_law_836 ?_
  refine zz_iadd zd_L_law_837 ?_
  refine zz_sld (by omega) zd_L_law_838 (by omega) ?_
  refine zz_aload_n (x := 998) rfl zd_L_law_839 ?_
  refine zz_iload (x := x4) rfl zd_L_law_840 ?_
  refine zz_iconst zd_L_law_842 ?_
  refine zz_iadd zd_L_law_843 ?_
  refine zz_sld (by omega) zd_L_law_844 (by omega) ?_
  refine zz_aload_n (x := 998) rfl zd_L_law_845 ?_
  refine zz_iload (x := x4) rfl zd_L_law_846 ?_
  refine zz_bipush (by decide) zd_L_law_848 ?_
  refine zz_iadd zd_L_law_850 ?_
  refine zz_sld (by omega) zd_L_law_851 (by omega) ?_
  refine zz_callVI [zi (zz_sc g (x4 + 1).toNat), zi (zz_sc g (x4 + 2).toNat), zi (zz_sc g (x4 + 3).toNat), zi (zz_sc g (x4 + 4).toNat), zi (zz_sc g (x4 + 5).toNat), zi (zz_sc g (x4 + 6).toNat)] zd_L_law_852 zk_TFLaw_168 zT_1079 (zz_ltn hn577 rfl) rfl rfl ⟨Nat.le_of_ble_eq_true rfl, Nat.le_of_ble_eq_true rfl⟩ ⟨rfl, rfl⟩ hk578 hj579 (zc_convolution_14_67 (zz_sc g (x4 + 1).toNat) (zz_sc g (x4 + 2).toNat) (zz_sc g (x4 + 3).toNat) (zz_sc g (x4 + 4).toNat) (zz_sc g (x4 + 5).toNat) (zz_sc g (x4 + 6).toNat) S572 (n + d574) hn577 G_S572 (by omega) (by omega) (by omega) (by omega) (by omega) (by omega) R_S572) (fun v587 S586 hP => ?_)
  obtain ⟨G_S586, fS586, o588, o589, o590, o591⟩ := hP
  have H_S586 : zz_Hc S586 := zz_Hc.fr (q := 0) fS586 rfl rfl G_S572 (by decide) rfl (fun b q h => by omega) H_S572
  have R_S586 : zz_Hr S586 := o591
  have O_S586 : 1 ≤ S586 1079 36 := by omega
  have e592 : S586 1000 7 = S 1000 7 := (zz_rc fS586 rfl rfl (by first | decide | (intro h; rcases h with h | h | h | h | h | h | h | h | h | h | h | h; exact absurd h.1 (by decide); exact absurd h.1 (by decide); exact absurd h.1 (by decide); exact absurd h.1 (by decide); exact absurd h.1 (by decide); exact absurd h.1 (by decide); exact absurd h.1 (by decide); exact absurd h.1 (by decide); exact absurd h.1 (by decide); exact absurd h.1 (by decide); exact absurd h.1 (by decide); exact absurd h.1 (by decide)) | omega) (zz_rc fS572 rfl rfl (fun h => h) rfl))
  have e593 : S586 1000 8 = S 1000 8 := (zz_rc fS586 rfl rfl (by first | decide | (intro h; rcases h with h | h | h | h | h | h | h | h | h | h | h | h; exact absurd h.1 (by decide); exact absurd h.1 (by decide); exact absurd h.1 (by decide); exact absurd h.1 (by decide); exact absurd h.1 (by decide); exact absurd h.1 (by decide); exact absurd h.1 (by decide); exact absurd h.1 (by decide); exact absurd h.1 (by decide); exact absurd h.1 (by decide); exact absurd h.1 (by decide); exact absurd h.1 (by decide)) | omega) (zz_rc fS572 rfl rfl (fun h => h) rfl))
  have g594 := zz_G.r G_S586 1079 36 0 11 rfl rfl
  have L_S586 := zn_Llay (h := S586 1079 0) (b2 := v587) A_S o575 o590 (fun v h => zn_M.fr h fS572 rfl rfl (fun b q h => h.elim) (by omega)) (fun v hV h => zn_C.out h hV (by omega) fS586 rfl rfl (fun b q h => by omega)) (by omega) (by omega) (by decide) (fun _ => rfl) ⟨fun h => absurd rfl h, fun h => absurd h (by decide), fun h => absurd h (by decide), zs_rlb _⟩
  have A_S586 : zn_A S586 := L_S586.1
  have l1_S586 := L_S586.2.1
  have l2_S586 := L_S586.2.2
  refine zz_istore [some (.ref 998), some (.ref 1000), some (.ref 1079), some (.ref 1121), some (zi x4), some (zi v573), some (zi v587)] zd_L_law_855 (by decide) rfl ?_
  refine zz_goto zd_L_law_857 ?_
  refine zz_iinc [some (.ref 998), some (.ref 1000), some (.ref 1079), some (.ref 1121), some (zi (x4 + 7)), some (zi v573), some (zi v587)] zd_L_law_1208 rfl rfl ?_
  refine zz_goto zd_L_law_1211 ?_
  refine zz_less (ls1 := [some (.ref 998), some (.ref 1000), some (.ref 1079), some (.ref 1121), some (zi (x4 + 7))]) ⟨rfl, ⟨rfl, ⟨rfl, ⟨rfl, ⟨rfl, trivial⟩⟩⟩⟩⟩ ?_
  have g595 := zz_G.r G_S 1070 1 0 1500 rfl rfl
  have e596 : S586 1070 1 = S 1070 1 := (zz_rc fS586 rfl rfl (by first | decide | (intro h; rcases h with h | h | h | h | h | h | h | h | h | h | h | h; exact absurd h.1 (by decide); exact absurd h.1 (by decide); exact absurd h.1 (by decide); exact absurd h.1 (by decide); exact absurd h.1 (by decide); exact absurd h.1 (by decide); exact absurd h.1 (by decide); exact absurd h.1 (by decide); exact absurd h.1 (by decide); exact absurd h.1 (by decide); exact absurd h.1 (by decide); exact absurd h.1 (by decide)) | omega) (zz_rc fS572 rfl rfl (fun h => h) rfl))
  have g597 := zz_G.r G_S 1079 28 0 1500 rfl rfl
  have e598 : S586 1079 28 = S 1079 28 := (zz_rc fS586 rfl rfl (by first | decide | (intro h; rcases h with h | h | h | h | h | h | h | h | h | h | h | h; exact absurd h.1 (by decide); exact absurd h.1 (by decide); exact absurd h.1 (by decide); exact absurd h.1 (by decide); exact absurd h.1 (by decide); exact absurd h.1 (by decide); exact absurd h.1 (by decide); exact absurd h.1 (by decide); exact absurd h.1 (by decide); exact absurd h.1 (by decide); exact absurd h.1 (by decide); exact absurd h.1 (by decide)) | omega) (zz_rc fS572 rfl rfl (fun h => h) rfl))
  have g599 := zz_G.r G_S 1031 6 2 8 rfl rfl
  have e600 : S586 1031 6 = S 1031 6 := (zz_rc fS586 rfl rfl (by first | decide | (intro h; rcases h with h | h | h | h | h | h | h | h | h | h | h | h; exact absurd h.1 (by decide); exact absurd h.1 (by decide); exact absurd h.1 (by decide); exact absurd h.1 (by decide); exact absurd h.1 (by decide); exact absurd h.1 (by decide); exact absurd h.1 (by decide); exact absurd h.1 (by decide); exact absurd h.1 (by decide); exact absurd h.1 (by decide); exact absurd h.1 (by decide); exact absurd h.1 (by decide)) | omega) (zz_rc fS572 rfl rfl (fun h => h) rfl))
  have g601 := zz_G.r G_S 1079 1 2 8 rfl rfl
  have e602 : S586 1079 1 = S 1079 1 := (zz_rc fS586 rfl rfl (by first | decide | (intro h; rcases h with h | h | h | h | h | h | h | h | h | h | h | h; exact absurd h.1 (by decide); exact absurd h.1 (by decide); exact absurd h.1 (by decide); exact absurd h.1 (by decide); exact absurd h.1 (by decide); exact absurd h.1 (by decide); exact absurd h.1 (by decide); exact absurd h.1 (by decide); exact absurd h.1 (by decide); exact absurd h.1 (by decide); exact absurd h.1 (by decide); exact absurd h.1 (by decide)) | omega) (zz_rc fS572 rfl rfl (fun h => h) rfl))
  exact ih (x4 + 7) S586 (n + d574) (k + zr_convolution_L.cells) (j + zr_convolution_L.slots) G_S586 H_S586 R_S586 O_S586 (by omega) (by omega) (fun u h1 h2 => ((zz_rc fS586 (zz_nc1 rfl) rfl (by omega) (zz_rc fS572 (zz_nc1 rfl) rfl (fun h => h) rfl)) : S586 1100 u = S 1100 u).trans (N_S u h1 h2)) (fun i h1 h2 => ((zz_rc fS586 (zz_nc1 rfl) rfl (by omega) (zz_rc fS572 (zz_nc1 rfl) rfl (fun h => h) rfl)) : S586 1071 i.toNat = S 1071 i.toNat).trans ((U_S i h1 (by omega)).trans ((zz_rc fS586 (zz_nc1 rfl) rfl (by omega) (zz_rc fS572 (zz_nc1 rfl) rfl (fun h => h) rfl)) : S586 1099 i.toNat = S 1099 i.toNat).symm)) A_S586 hn577 (by omega) (by show ((k + 1 : Nat) : Int) ≤ 200 + (x4 + 7); omega) (by show ((j + 6 : Nat) : Int) ≤ 30000 + 6 * (x4 + 7); omega) (by omega)
theorem zl_18 {g : mm_G} {l : Launch} (hfl : l.flags = flags0) (hlen : g.2.2.2 997 ≤ 3584) (N : Nat) (ih : ∀ (x4 : Int) (S : zz_S) (n k j : Nat), zz_G S → zz_Hc S → zz_Hr S → 1 ≤ S 1079 36 → S 1070 1 = S 1079 28 → S 1031 6 = S 1079 1 → (∀ w : Nat, 1 ≤ w → w ≤ 20 → S 1100 w = zt_cd (zt_nw.getD w [])) → (∀ i : Int, 0 ≤ i → i < S 1070 1 → S 1071 i.toNat = S 1099 i.toNat) → zn_A S → zz_end ≤ n → (0 ≤ x4 ∧ x4 ≤ 3590) → (k : Int) ≤ 200 + x4 → (j : Int) ≤ 30000 + 6 * x4 → (3600 - x4).toNat < N → zz_E g l zy_law_L room_1 (fun u => ∃ M1 n1, u = (.inl (some (zi 1)), M1, n1)) S n 23 [some (.ref 998), some (.ref 1000), some (.ref 1079), some (.ref 1121), some (zi x4)] [] k j) (x4 : Int) (S : zz_S) (n k j : Nat) (G_S : zz_G S) (H_S : zz_Hc S) (R_S : zz_Hr S) (O_S : 1 ≤ S 1079 36) (T0_S : S 1070 1 = S 1079 28) (T1_S : S 1031 6 = S 1079 1) (N_S : ∀ w : Nat, 1 ≤ w → w ≤ 20 → S 1100 w = zt_cd (zt_nw.getD w [])) (U_S : ∀ i : Int, 0 ≤ i → i < S 1070 1 → S 1071 i.toNat = S 1099 i.toNat) (A_S : zn_A S) (hn : zz_end ≤ n) (hx : 0 ≤ x4 ∧ x4 ≤ 3590) (hkk : (k : Int) ≤ 200 + x4) (hjj : (j : Int) ≤ 30000 + 6 * x4) (hR : (3600 - x4).toNat < N + 1) (hc1 : x4 ≤ zz_ln g - 7) : zz_E g l zy_law_L room_1 (fun u => ∃ M1 n1, u = (.inl (some (zi 1)), M1, n1)) S n 860 [some (.ref 998), some (.ref 1000), some (.ref 1079), some (.ref 1121), some (zi x4)] [] k j := by
  have hln : 0 ≤ zz_ln g ∧ zz_ln g ≤ 3584 := ⟨Int.natCast_nonneg _, Int.ofNat_le.mpr hlen⟩
  have hk : k ≤ 601024 := by omega
  have hj : j ≤ 7293034 := by omega
  refine zz_aload_n (x := 1000) rfl zd_L_law_860 ?_
  refine zz_aload_n (x := 998) rfl zd_L_law_861 ?_
  refine zz_iload (x := x4) rfl zd_L_law_862 ?_
  refine zz_iconst zd_L_law_864 ?_
  refine zz_iadd zd_L_law_865 ?_
  refine zz_sld (by omega) zd_L_law_866 (by omega) ?_
  have g604 := zz_sc_r g (x4 + 1).toNat
  refine zz_aload_n (x := 998) rfl zd_L_law_867 ?_
  refine zz_iload (x := x4) rfl zd_L_law_868 ?_
  refine zz_iconst zd_L_law_870 ?_
  refine zz_iadd zd_L_law_871 ?_
  refine zz_sld (by omega) zd_L_law_872 (by omega) ?_
  have g605 := zz_sc_r g (x4 + 2).toNat
  refine zz_aload_n (x := 998) rfl zd_L_law_873 ?_
  refine zz_iload (x := x4) rfl zd_L_law_874 ?_
  refine zz_iconst zd_L_law_876 ?_
  refine zz_iadd zd_L_law_877 ?_
  refine zz_sld (by omega) zd_L_law_878 (by omega) ?_
  have g606 := zz_sc_r g (x4 + 3).toNat
  refine zz_aload_n (x := 1121) rfl zd_L_law_879 ?_
  refine zz_callHW (rz := zr_pool_L) [.ref 1000, zi (zz_sc g (x4 + 1).toNat), zi (zz_sc g (x4 + 2).toNat), zi (zz_sc g (x4 + 3).toNat), .ref 1121] zd_L_law_880 zhl_pool_L rfl rfl ⟨Nat.le_of_ble_eq_true rfl, Nat.le_of_ble_eq_true rfl⟩ (by show k + 1 ≤ 601024; omega) (by show j + 6 ≤ 7293034; omega) (zc_pool_L (zz_sc g (x4 + 1).toNat) (zz_sc g (x4 + 2).toNat) (zz_sc g (x4 + 3).toNat) S (n) hn hfl G_S (by omega) (by omega) (by omega) H_S) (fun v608 S607 d609 hd609 hP => ?_)
  obtain ⟨G_S607, fS607, rv608, o610, o611⟩ := hP
  have hn612 : zz_end ≤ n + d609 := by omega
  have hk613 : (k + zr_pool_L.cells) ≤ 601024 := by show k + 1 ≤ 601024; omega
  have hj614 : (j + zr_pool_L.slots) ≤ 7293034 := by show j + 6 ≤ 7293034; omega
  have H_S607 : zz_Hc S607 := o611
  have R_S607 : zz_Hr S607 := zz_Hr.fr fS607 rfl rfl (fun b q h => h.elim) R_S
  have O_S607 : 1 ≤ S607 1079 36 := by rw [show S607 1079 36 = S 1079 36 from zz_rc fS607 rfl rfl (fun h => h) rfl]; exact O_S
  have g615 := zz_G.r G_S 1000 7 0 1 rfl rfl
  have e616 : S607 1000 7 = S 1000 7 := (zz_rc fS607 rfl rfl (fun h => h) rfl)
  have g617 := zz_G.r G_S 1000 8 0 1 rfl rfl
  have e618 : S607 1000 8 = S 1000 8 := (zz_rc fS607 rfl rfl (fun h => h) rfl)
  have g619 := zz_G.r G_S 1079 36 0 11 rfl rfl
  have e620 : S607 1079 36 = S 1079 36 := (zz_rc fS607 rfl rfl (fun h => h) rfl)
  refine zz_istore [some (.ref 998), some (.ref 1000), some (.ref 1079), some (.ref 1121), some (zi x4), some (zi v608)] zd_L_law_883 (by decide) rfl ?_
  refine zz_aload_n (x := 1079) rfl zd_L_law_885 ?_
  refine zz_aload_n (x := 998) rfl zd_L_law_886 ?_
  refine zz_iload (x := x4) rfl zd_L_law_887 ?_
  refine zz_iconst zd_L_law_889 ?_
  refine zz_iadd zd_L_law_890 ?_
  refine zz_sld (by omega) zd_L_law_891 (by omega) ?_
  refine zz_aload_n (x := 998) rfl zd_L_law_892 ?_
  refine zz_iload (x := x4) rfl zd_L_law_893 ?_
  refine zz_iconst zd_L_law_895 ?_
  refine zz_iadd zd_L_law_896 ?_
  refine zz_sld (by omega) zd_L_law_897 (by omega) ?_
  refine zz_aload_n (x := 998) rfl zd_L_law_898 ?_
  refine zz_iload (x := x4) rfl zd_L_law_899 ?_
  refine zz_iconst zd_L_law_901 ?_
  refine zz_iadd zd_L_law_902 ?_
  refine zz_sld (by omega) zd_L_law_903 (by omega) ?_
  refine zz_callVI [zi (zz_sc g (x4 + 1).toNat), zi (zz_sc g (x4 + 2).toNat), zi (zz_sc g (x4 + 3).toNat)] zd_L_law_904 zk_TFLaw_172 zT_1079 (zz_ltn hn612 rfl) rfl rfl ⟨Nat.le_of_ble_eq_true rfl, Nat.le_of_ble_eq_true rfl⟩ ⟨rfl, rfl⟩ hk613 hj614 (zc_pool_14_69 (zz_sc g (x4 + 1).toNat) (zz_sc g (x4 + 2).toNat) (zz_sc g (x4 + 3).toNat) S607 (n + d609) hn612 G_S607 (by omega) (by omega) (by omega) R_S607) (fun v622 S621 hP => ?_)
  obtain ⟨G_S621, fS621, o623, o624, o625, o626⟩ := hP
  have H_S621 : zz_Hc S621 := zz_Hc.fr (q := 0) fS621 rfl rfl G_S607 (by decide) rfl (fun b q h => by omega) H_S607
  have R_S621 : zz_Hr S621 := o626
  have O_S621 : 1 ≤ S621 1079 36 := by omega
  have e627 : S621 1000 7 = S 1000 7 := (zz_rc fS621 rfl rfl (by first | decide | (intro h; rcases h with h | h | h | h | h | h | h | h | h | h | h; exact absurd h.1 (by decide); exact absurd h.1 (by decide); exact absurd h.1 (by decide); exact absurd h.1 (by decide); exact absurd h.1 (by decide); exact absurd h.1 (by decide); exact absurd h.1 (by decide); exact absurd h.1 (by decide); exact absurd h.1 (by decide); exact absurd h.1 (by decide); exact absurd h.1 (by decide)) | omega) (zz_rc fS607 rfl rfl (fun h => h) rfl))
  have e628 : S621 1000 8 = S 1000 8 := (zz_rc fS621 rfl rfl (by first | decide | (intro h; rcases h with h | h | h | h | h | h | h | h | h | h | h; exact absurd h.1 (by decide); exact absurd h.1 (by decide); exact absurd h.1 (by decide); exact absurd h.1 (by decide); exact absurd h.1 (by decide); exact absurd h.1 (by decide); exact absurd h.1 (by decide); exact absurd h.1 (by decide); exact absurd h.1 (by decide); exact absurd h.1 (by decide); exact absurd h.1 (by decide)) | omega) (zz_rc fS607 rfl rfl (fun h => h) rfl))
  have g629 := zz_G.r G_S621 1079 36 0 11 rfl rfl
  have L_S621 := zn_Llay (h := S621 1079 0) (b2 := v622) A_S o610 o625 (fun v h => zn_M.fr h fS607 rfl rfl (fun b q h => h.elim) (by omega)) (fun v hV h => zn_C.out h hV (by omega) fS621 rfl rfl (fun b q h => by omega)) (by omega) (by omega) (by decide) (fun _ => rfl) ⟨fun _ => rfl, fun _ => rfl, fun h => absurd h (by decide), by decide, by decide⟩
  have A_S621 : zn_A S621 := L_S621.1
  have l1_S621 := L_S621.2.1
  have l2_S621 := L_S621.2.2
  refine zz_istore [some (.ref 998), some (.ref 1000), some (.ref 1079), some (.ref 1121), some (zi x4), some (zi v608), some (zi v622)] zd_L_law_907 (by decide) rfl ?_
  refine zz_goto zd_L_law_909 ?_
  refine zz_iinc [some (.ref 998), some (.ref 1000), some (.ref 1079), some (.ref 1121), some (zi (x4 + 7)), some (zi v608), some (zi v622)] zd_L_law_1208 rfl rfl ?_
  refine zz_goto zd_L_law_1211 ?_
  refine zz_less (ls1 := [some (.ref 998), some (.ref 1000), some (.ref 1079), some (.ref 1121), some (zi (x4 + 7))]) ⟨rfl, ⟨rfl, ⟨rfl, ⟨rfl, ⟨rfl, trivial⟩⟩⟩⟩⟩ ?_
  have g630 := zz_G.r G_S 1070 1 0 1500 rfl rfl
  have e631 : S621 1070 1 = S 1070 1 := (zz_rc fS621 rfl rfl (by first | decide | (intro h; rcases h with h | h | h | h | h | h | h | h | h | h | h; exact absurd h.1 (by decide); exact absurd h.1 (by decide); exact absurd h.1 (by decide); exact absurd h.1 (by decide); exact absurd h.1 (by decide); exact absurd h.1 (by decide); exact absurd h.1 (by decide); exact absurd h.1 (by decide); exact absurd h.1 (by decide); exact absurd h.1 (by decide); exact absurd h.1 (by decide)) | omega) (zz_rc fS607 rfl rfl (fun h => h) rfl))
  have g632 := zz_G.r G_S 1079 28 0 1500 rfl rfl
  have e633 : S621 1079 28 = S 1079 28 := (zz_rc fS621 rfl rfl (by first | decide | (intro h; rcases h with h | h | h | h | h | h | h | h | h | h | h; exact absurd h.1 (by decide); exact absurd h.1 (by decide); exact absurd h.1 (by decide); exact absurd h.1 (by decide); exact absurd h.1 (by decide); exact absurd h.1 (by decide); exact absurd h.1 (by decide); exact absurd h.1 (by decide); exact absurd h.1 (by decide); exact absurd h.1 (by decide); exact absurd h.1 (by decide)) | omega) (zz_rc fS607 rfl rfl (fun h => h) rfl))
  have g634 := zz_G.r G_S 1031 6 2 8 rfl rfl
  have e635 : S621 1031 6 = S 1031 6 := (zz_rc fS621 rfl rfl (by first | decide | (intro h; rcases h with h | h | h | h | h | h | h | h | h | h | h; exact absurd h.1 (by decide); exact absurd h.1 (by decide); exact absurd h.1 (by decide); exact absurd h.1 (by decide); exact absurd h.1 (by decide); exact absurd h.1 (by decide); exact absurd h.1 (by decide); exact absurd h.1 (by decide); exact absurd h.1 (by decide); exact absurd h.1 (by decide); exact absurd h.1 (by decide)) | omega) (zz_rc fS607 rfl rfl (fun h => h) rfl))
  have g636 := zz_G.r G_S 1079 1 2 8 rfl rfl
  have e637 : S621 1079 1 = S 1079 1 := (zz_rc fS621 rfl rfl (by first | decide | (intro h; rcases h with h | h | h | h | h | h | h | h | h | h | h; exact absurd h.1 (by decide); exact absurd h.1 (by decide); exact absurd h.1 (by decide); exact absurd h.1 (by decide); exact absurd h.1 (by decide); exact absurd h.1 (by decide); exact absurd h.1 (by decide); exact absurd h.1 (by decide); exact absurd h.1 (by decide); exact absurd h.1 (by decide); exact absurd h.1 (by decide)) | omega) (zz_rc fS607 rfl rfl (fun h => h) rfl))
  exact ih (x4 + 7) S621 (n + d609) (k + zr_pool_L.cells) (j + zr_pool_L.slots) G_S621 H_S621 R_S621 O_S621 (by omega) (by omega) (fun u h1 h2 => ((zz_rc fS621 (zz_nc1 rfl) rfl (by omega) (zz_rc fS607 (zz_nc1 rfl) rfl (fun h => h) rfl)) : S621 1100 u = S 1100 u).trans (N_S u h1 h2)) (fun i h1 h2 => ((zz_rc fS621 (zz_nc1 rfl) rfl (by omega) (zz_rc fS607 (zz_nc1 rfl) rfl (fun h => h) rfl)) : S621 1071 i.toNat = S 1071 i.toNat).trans ((U_S i h1 (by omega)).trans ((zz_rc fS621 (zz_nc1 rfl) rfl (by omega) (zz_rc fS607 (zz_nc1 rfl) rfl (fun h => h) rfl)) : S621 1099 i.toNat = S 1099 i.toNat).symm)) A_S621 hn612 (by omega) (by show ((k + 1 : Nat) : Int) ≤ 200 + (x4 + 7); omega) (by show ((j + 6 : Nat) : Int) ≤ 30000 + 6 * (x4 + 7); omega) (by omega)
theorem zl_19 {g : mm_G} {l : Launch} (hfl : l.flags = flags0) (hlen : g.2.2.2 997 ≤ 3584) (N : Nat) (ih : ∀ (x4 : Int) (S : zz_S) (n k j : Nat), zz_G S → zz_Hc S → zz_Hr S → 1 ≤ S 1079 36 → S 1070 1 = S 1079 28 → S 1031 6 = S 1079 1 → (∀ w : Nat, 1 ≤ w → w ≤ 20 → S 1100 w = zt_cd (zt_nw.getD w [])) → (∀ i : Int, 0 ≤ i → i < S 1070 1 → S 1071 i.toNat = S 1099 i.toNat) → zn_A S → zz_end ≤ n → (0 ≤ x4 ∧ x4 ≤ 3590) → (k : Int) ≤ 200 + x4 → (j : Int) ≤ 30000 + 6 * x4 → (3600 - x4).toNat < N → zz_E g l zy_law_L room_1 (fun u => ∃ M1 n1, u = (.inl (some (zi 1)), M1, n1)) S n 23 [some (.ref 998), some (.ref 1000), some (.ref 1079), some (.ref 1121), some (zi x4)] [] k j) (x4 : Int) (S : zz_S) (n k j : Nat) (G_S : zz_G S) (H_S : zz_Hc S) (R_S : zz_Hr S) (O_S : 1 ≤ S 1079 36) (T0_S : S 1070 1 = S 1079 28) (T1_S : S 1031 6 = S 1079 1) (N_S : ∀ w : Nat, 1 ≤ w → w ≤ 20 → S 1100 w = zt_cd (zt_nw.getD w [])) (U_S : ∀ i : Int, 0 ≤ i → i < S 1070 1 → S 1071 i.toNat = S 1099 i.toNat) (A_S : zn_A S) (hn : zz_end ≤ n) (hx : 0 ≤ x4 ∧ x4 ≤ 3590) (hkk : (k : Int) ≤ 200 + x4) (hjj : (j : Int) ≤ 30000 + 6 * x4) (hR : (3600 - x4).toNat < N + 1) (hc1 : x4 ≤ zz_ln g - 7) : zz_E g l zy_law_L room_1 (fun u => ∃ M1 n1, u = (.inl (some (zi 1)), M1, n1)) S n 912 [some (.ref 998), some (.ref 1000), some (.ref 1079), some (.ref 1121), some (zi x4)] [] k j := by
  have hln : 0 ≤ zz_ln g ∧ zz_ln g ≤ 3584 := ⟨Int.natCast_nonneg _, Int.ofNat_le.mpr hlen⟩
  have hk : k ≤ 601024 := by omega
  have hj : j ≤ 7293034 := by omega
  refine zz_aload_n (x := 1000) rfl zd_L_law_912 ?_
  refine zz_aload_n (x := 998) rfl zd_L_law_913 ?_
  refine zz_iload (x := x4) rfl zd_L_law_914 ?_
  refine zz_iconst zd_L_law_916 ?_
  refine zz_iadd zd_L_law_917 ?_
  refine zz_sld (by omega) zd_L_law_918 (by omega) ?_
  have g639 := zz_sc_r g (x4 + 1).toNat
  refine zz_aload_n (x := 998) rfl zd_L_law_919 ?_
  refine zz_iload (x := x4) rfl zd_L_law_920 ?_
  refine zz_iconst zd_L_law_922 ?_
  refine zz_iadd zd_L_law_923 ?_
  refine zz_sld (by omega) zd_L_law_924 (by omega) ?_
  have g640 := zz_sc_r g (x4 + 2).toNat
  refine zz_aload_n (x := 998) rfl zd_L_law_925 ?_
  refine zz_iload (x := x4) rfl zd_L_law_926 ?_
  refine zz_iconst zd_L_law_928 ?_
  refine zz_iadd zd_L_law_929 ?_
  refine zz_sld (by omega) zd_L_law_930 (by omega) ?_
  have g641 := zz_sc_r g (x4 + 3).toNat
  refine zz_aload_n (x := 1121) rfl zd_L_law_931 ?_
  refine zz_callHW (rz := zr_addition_L) [.ref 1000, zi (zz_sc g (x4 + 1).toNat), zi (zz_sc g (x4 + 2).toNat), zi (zz_sc g (x4 + 3).toNat), .ref 1121] zd_L_law_932 zhl_addition_L rfl rfl ⟨Nat.le_of_ble_eq_true rfl, Nat.le_of_ble_eq_true rfl⟩ (by show k + 1 ≤ 601024; omega) (by show j + 6 ≤ 7293034; omega) (zc_addition_L (zz_sc g (x4 + 1).toNat) (zz_sc g (x4 + 2).toNat) (zz_sc g (x4 + 3).toNat) S (n) hn hfl G_S (by omega) (by omega) (by omega) H_S) (fun v643 S642 d644 hd644 hP => ?_)
  obtain ⟨G_S642, fS642, rv643, o645, o646⟩ := hP
  have hn647 : zz_end ≤ n + d644 := by omega
  have hk648 : (k + zr_addition_L.cells) ≤ 601024 := by show k + 1 ≤ 601024; omega
  have hj649 : (j + zr_addition_L.slots) ≤ 7293034 := by show j + 6 ≤ 7293034; omega
  have H_S642 : zz_Hc S642 := o646
  have R_S642 : zz_Hr S642 := zz_Hr.fr fS642 rfl rfl (fun b q h => h.elim) R_S
  have O_S642 : 1 ≤ S642 1079 36 := by rw [show S642 1079 36 = S 1079 36 from zz_rc fS642 rfl rfl (fun h => h) rfl]; exact O_S
  have g650 := zz_G.r G_S 1000 7 0 1 rfl rfl
  have e651 : S642 1000 7 = S 1000 7 := (zz_rc fS642 rfl rfl (fun h => h) rfl)
  have g652 := zz_G.r G_S 1000 8 0 1 rfl rfl
  have e653 : S642 1000 8 = S 1000 8 := (zz_rc fS642 rfl rfl (fun h => h) rfl)
  have g654 := zz_G.r G_S 1079 36 0 11 rfl rfl
  have e655 : S642 1079 36 = S 1079 36 := (zz_rc fS642 rfl rfl (fun h => h) rfl)
  refine zz_istore [some (.ref 998), some (.ref 1000), some (.ref 1079), some (.ref 1121), some (zi x4), some (zi v643)] zd_L_law_935 (by decide) rfl ?_
  refine zz_aload_n (x := 1079) rfl zd_L_law_937 ?_
  refine zz_aload_n (x := 998) rfl zd_L_law_938 ?_
  refine zz_iload (x := x4) rfl zd_L_law_939 ?_
  refine zz_iconst zd_L_law_941 ?_
  refine zz_iadd zd_L_law_942 ?_
  refine zz_sld (by omega) zd_L_law_943 (by omega) ?_
  refine zz_aload_n (x := 998) rfl zd_L_law_944 ?_
  refine zz_iload (x := x4) rfl zd_L_law_945 ?_
  refine zz_iconst zd_L_law_947 ?_
  refine zz_iadd zd_L_law_948 ?_
  refine zz_sld (by omega) zd_L_law_949 (by omega) ?_
  refine zz_aload_n (x := 998) rfl zd_L_law_950 ?_
  refine zz_iload (x := x4) rfl zd_L_law_951 ?_
  refine zz_iconst zd_L_law_953 ?_
  refine zz_iadd zd_L_law_954 ?_
  refine zz_sld (by omega) zd_L_law_955 (by omega) ?_
  refine zz_callVI [zi (zz_sc g (x4 + 1).toNat), zi (zz_sc g (x4 + 2).toNat), zi (zz_sc g (x4 + 3).toNat)] zd_L_law_956 zk_TFLaw_175 zT_1079 (zz_ltn hn647 rfl) rfl rfl ⟨Nat.le_of_ble_eq_true rfl, Nat.le_of_ble_eq_true rfl⟩ ⟨rfl, rfl⟩ hk648 hj649 (zc_addition_14_70 (zz_sc g (x4 + 1).toNat) (zz_sc g (x4 + 2).toNat) (zz_sc g (x4 + 3).toNat) S642 (n + d644) hn647 G_S642 (by omega) (by omega) (by omega) R_S642) (fun v657 S656 hP => ?_)
  obtain ⟨G_S656, fS656, o658, o659, o660, o661⟩ := hP
  have H_S656 : zz_Hc S656 := zz_Hc.fr (q := 0) fS656 rfl rfl G_S642 (by decide) rfl (fun b q h => by omega) H_S642
  have R_S656 : zz_Hr S656 := o661
  have O_S656 : 1 ≤ S656 1079 36 := by omega
  have e662 : S656 1000 7 = S 1000 7 := (zz_rc fS656 rfl rfl (by first | decide | (intro h; rcases h with h | h | h | h | h | h | h | h | h | h | h | h; exact absurd h.1 (by decide); exact absurd h.1 (by decide); exact absurd h.1 (by decide); exact absurd h.1 (by decide); exact absurd h.1 (by decide); exact absurd h.1 (by decide); exact absurd h.1 (by decide); exact absurd h.1 (by decide); exact absurd h.1 (by decide); exact absurd h.1 (by decide); exact absurd h.1 (by decide); exact absurd h.1 (by decide)) | omega) (zz_rc fS642 rfl rfl (fun h => h) rfl))
  have e663 : S656 1000 8 = S 1000 8 := (zz_rc fS656 rfl rfl (by first | decide | (intro h; rcases h with h | h | h | h | h | h | h | h | h | h | h | h; exact absurd h.1 (by decide); exact absurd h.1 (by decide); exact absurd h.1 (by decide); exact absurd h.1 (by decide); exact absurd h.1 (by decide); exact absurd h.1 (by decide); exact absurd h.1 (by decide); exact absurd h.1 (by decide); exact absurd h.1 (by decide); exact absurd h.1 (by decide); exact absurd h.1 (by decide); exact absurd h.1 (by decide)) | omega) (zz_rc fS642 rfl rfl (fun h => h) rfl))
  have g664 := zz_G.r G_S656 1079 36 0 11 rfl rfl
  have L_S656 := zn_Llay (h := S656 1079 0) (b2 := v657) A_S o645 o660 (fun v h => zn_M.fr h fS642 rfl rfl (fun b q h => h.elim) (by omega)) (fun v hV h => zn_C.out h hV (by omega) fS656 rfl rfl (fun b q h => by omega)) (by omega) (by omega) (by decide) (fun h => absurd rfl h) ⟨fun _ => rfl, fun h => absurd h (by decide), fun _ => rfl, zs_rlb _⟩
  have A_S656 : zn_A S656 := L_S656.1
  have l1_S656 := L_S656.2.1
  have l2_S656 := L_S656.2.2
  refine zz_istore [some (.ref 998), some (.ref 1000), some (.ref 1079), some (.ref 1121), some (zi x4), some (zi v643), some (zi v657)] zd_L_law_959 (by decide) rfl ?_
  refine zz_goto zd_L_law_961 ?_
  refine zz_iinc [some (.ref 998), some (.ref 1000), some (.ref 1079), some (.ref 1121), some (zi (x4 + 7)), some (zi v643), some (zi v657)] zd_L_law_1208 rfl rfl ?_
  refine zz_goto zd_L_law_1211 ?_
  refine zz_less (ls1 := [some (.ref 998), some (.ref 1000), some (.ref 1079), some (.ref 1121), some (zi (x4 + 7))]) ⟨rfl, ⟨rfl, ⟨rfl, ⟨rfl, ⟨rfl, trivial⟩⟩⟩⟩⟩ ?_
  have g665 := zz_G.r G_S 1070 1 0 1500 rfl rfl
  have e666 : S656 1070 1 = S 1070 1 := (zz_rc fS656 rfl rfl (by first | decide | (intro h; rcases h with h | h | h | h | h | h | h | h | h | h | h | h; exact absurd h.1 (by decide); exact absurd h.1 (by decide); exact absurd h.1 (by decide); exact absurd h.1 (by decide); exact absurd h.1 (by decide); exact absurd h.1 (by decide); exact absurd h.1 (by decide); exact absurd h.1 (by decide); exact absurd h.1 (by decide); exact absurd h.1 (by decide); exact absurd h.1 (by decide); exact absurd h.1 (by decide)) | omega) (zz_rc fS642 rfl rfl (fun h => h) rfl))
  have g667 := zz_G.r G_S 1079 28 0 1500 rfl rfl
  have e668 : S656 1079 28 = S 1079 28 := (zz_rc fS656 rfl rfl (by first | decide | (intro h; rcases h with h | h | h | h | h | h | h | h | h | h | h | h; exact absurd h.1 (by decide); exact absurd h.1 (by decide); exact absurd h.1 (by decide); exact absurd h.1 (by decide); exact absurd h.1 (by decide); exact absurd h.1 (by decide); exact absurd h.1 (by decide); exact absurd h.1 (by decide); exact absurd h.1 (by decide); exact absurd h.1 (by decide); exact absurd h.1 (by decide); exact absurd h.1 (by decide)) | omega) (zz_rc fS642 rfl rfl (fun h => h) rfl))
  have g669 := zz_G.r G_S 1031 6 2 8 rfl rfl
  have e670 : S656 1031 6 = S 1031 6 := (zz_rc fS656 rfl rfl (by first | decide | (intro h; rcases h with h | h | h | h | h | h | h | h | h | h | h | h; exact absurd h.1 (by decide); exact absurd h.1 (by decide); exact absurd h.1 (by decide); exact absurd h.1 (by decide); exact absurd h.1 (by decide); exact absurd h.1 (by decide); exact absurd h.1 (by decide); exact absurd h.1 (by decide); exact absurd h.1 (by decide); exact absurd h.1 (by decide); exact absurd h.1 (by decide); exact absurd h.1 (by decide)) | omega) (zz_rc fS642 rfl rfl (fun h => h) rfl))
  have g671 := zz_G.r G_S 1079 1 2 8 rfl rfl
  have e672 : S656 1079 1 = S 1079 1 := (zz_rc fS656 rfl rfl (by first | decide | (intro h; rcases h with h | h | h | h | h | h | h | h | h | h | h | h; exact absurd h.1 (by decide); exact absurd h.1 (by decide); exact absurd h.1 (by decide); exact absurd h.1 (by decide); exact absurd h.1 (by decide); exact absurd h.1 (by decide); exact absurd h.1 (by decide); exact absurd h.1 (by decide); exact absurd h.1 (by decide); exact absurd h.1 (by decide); exact absurd h.1 (by decide); exact absurd h.1 (by decide)) | omega) (zz_rc fS642 rfl rfl (fun h => h) rfl))
  exact ih (x4 + 7) S656 (n + d644) (k + zr_addition_L.cells) (j + zr_addition_L.slots) G_S656 H_S656 R_S656 O_S656 (by omega) (by omega) (fun u h1 h2 => ((zz_rc fS656 (zz_nc1 rfl) rfl (by omega) (zz_rc fS642 (zz_nc1 rfl) rfl (fun h => h) rfl)) : S656 1100 u = S 1100 u).trans (N_S u h1 h2)) (fun i h1 h2 => ((zz_rc fS656 (zz_nc1 rfl) rfl (by omega) (zz_rc fS642 (zz_nc1 rfl) rfl (fun h => h) rfl)) : S656 1071 i.toNat = S 1071 i.toNat).trans ((U_S i h1 (by omega)).trans ((zz_rc fS656 (zz_nc1 rfl) rfl (by omega) (zz_rc fS642 (zz_nc1 rfl) rfl (fun h => h) rfl)) : S656 1099 i.toNat = S 1099 i.toNat).symm)) A_S656 hn647 (by omega) (by show ((k + 1 : Nat) : Int) ≤ 200 + (x4 + 7); omega) (by show ((j + 6 : Nat) : Int) ≤ 30000 + 6 * (x4 + 7); omega) (by omega)
theorem zl_20 {g : mm_G} {l : Launch} (hfl : l.flags = flags0) (hlen : g.2.2.2 997 ≤ 3584) (N : Nat) (ih : ∀ (x4 : Int) (S : zz_S) (n k j : Nat), zz_G S → zz_Hc S → zz_Hr S → 1 ≤ S 1079 36 → S 1070 1 = S 1079 28 → S 1031 6 = S 1079 1 → (∀ w : Nat, 1 ≤ w → w ≤ 20 → S 1100 w = zt_cd (zt_nw.getD w [])) → (∀ i : Int, 0 ≤ i → i < S 1070 1 → S 1071 i.toNat = S 1099 i.toNat) → zn_A S → zz_end ≤ n → (0 ≤ x4 ∧ x4 ≤ 3590) → (k : Int) ≤ 200 + x4 → (j : Int) ≤ 30000 + 6 * x4 → (3600 - x4).toNat < N → zz_E g l zy_law_L room_1 (fun u => ∃ M1 n1, u = (.inl (some (zi 1)), M1, n1)) S n 23 [some (.ref 998), some (.ref 1000), some (.ref 1079), some (.ref 1121), some (zi x4)] [] k j) (x4 : Int) (S : zz_S) (n k j : Nat) (G_S : zz_G S) (H_S : zz_Hc S) (R_S : zz_Hr S) (O_S : 1 ≤ S 1079 36) (T0_S : S 1070 1 = S 1079 28) (T1_S : S 1031 6 = S 1079 1) (N_S : ∀ w : Nat, 1 ≤ w → w ≤ 20 → S 1100 w = zt_cd (zt_nw.getD w [])) (U_S : ∀ i : Int, 0 ≤ i → i < S 1070 1 → S 1071 i.toNat = S 1099 i.toNat) (A_S : zn_A S) (hn : zz_end ≤ n) (hx : 0 ≤ x4 ∧ x4 ≤ 3590) (hkk : (k : Int) ≤ 200 + x4) (hjj : (j : Int) ≤ 30000 + 6 * x4) (hR : (3600 - x4).toNat < N + 1) (hc1 : x4 ≤ zz_ln g - 7) : zz_E g l zy_law_L room_1 (fun u => ∃ M1 n1, u = (.inl (some (zi 1)), M1, n1)) S n 964 [some (.ref 998), some (.ref 1000), some (.ref 1079), some (.ref 1121), some (zi x4)] [] k j := by
  have hln : 0 ≤ zz_ln g ∧ zz_ln g ≤ 3584 := ⟨Int.natCast_nonneg _, Int.ofNat_le.mpr hlen⟩
  have hk : k ≤ 601024 := by omega
  have hj : j ≤ 7293034 := by omega
  refine zz_aload_n (x := 1000) rfl zd_L_law_964 ?_
  refine zz_aload_n (x := 998) rfl zd_L_law_965 ?_
  refine zz_iload (x := x4) rfl zd_L_law_966 ?_
  refine zz_iconst zd_L_law_968 ?_
  refine zz_iadd zd_L_law_969 ?_
  refine zz_sld (by omega) zd_L_law_970 (by omega) ?_
  have g674 := zz_sc_r g (x4 + 1).toNat
  refine zz_aload_n (x := 998) rfl zd_L_law_971 ?_
  refine zz_iload (x := x4) rfl zd_L_law_972 ?_
  refine zz_iconst zd_L_law_974 ?_
  refine zz_iadd zd_L_law_975 ?_
  refine zz_sld (by omega) zd_L_law_976 (by omega) ?_
  have g675 := zz_sc_r g (x4 + 2).toNat
  refine zz_aload_n (x := 1121) rfl zd_L_law_977 ?_
  refine zz_callHW (rz := zr_form_L) [.ref 1000, zi (zz_sc g (x4 + 1).toNat), zi (zz_sc g (x4 + 2).toNat), .ref 1121] zd_L_law_978 zhl_form_L rfl rfl ⟨Nat.le_of_ble_eq_true rfl, Nat.le_of_ble_eq_true rfl⟩ (by show k + 1 ≤ 601024; omega) (by show j + 6 ≤ 7293034; omega) (zc_form_L (zz_sc g (x4 + 1).toNat) (zz_sc g (x4 + 2).toNat) S (n) hn hfl G_S (by omega) (by omega)) (fun v677 S676 d678 hd678 hP => ?_)
  obtain ⟨G_S676, fS676, rv677, o679⟩ := hP
  have hn680 : zz_end ≤ n + d678 := by omega
  have hk681 : (k + zr_form_L.cells) ≤ 601024 := by show k + 1 ≤ 601024; omega
  have hj682 : (j + zr_form_L.slots) ≤ 7293034 := by show j + 6 ≤ 7293034; omega
  have H_S676 : zz_Hc S676 := zz_Hc.fr (q := 0) fS676 rfl rfl G_S (by decide) rfl (fun b q h => h.elim) H_S
  have R_S676 : zz_Hr S676 := zz_Hr.fr fS676 rfl rfl (fun b q h => h.elim) R_S
  have O_S676 : 1 ≤ S676 1079 36 := by rw [show S676 1079 36 = S 1079 36 from zz_rc fS676 rfl rfl (fun h => h) rfl]; exact O_S
  have g683 := zz_G.r G_S 1000 7 0 1 rfl rfl
  have e684 : S676 1000 7 = S 1000 7 := (zz_rc fS676 rfl rfl (fun h => h) rfl)
  have g685 := zz_G.r G_S 1000 8 0 1 rfl rfl
  have e686 : S676 1000 8 = S 1000 8 := (zz_rc fS676 rfl rfl (fun h => h) rfl)
  have g687 := zz_G.r G_S 1079 36 0 11 rfl rfl
  have e688 : S676 1079 36 = S 1079 36 := (zz_rc fS676 rfl rfl (fun h => h) rfl)
  have A_S676 : zn_A S676 := zn_A.fr A_S fS676 rfl rfl (fun b q h => h.elim) rfl rfl (by omega) (by omega) (by omega) (by omega)
  refine zz_istore [some (.ref 998), some (.ref 1000), some (.ref 1079), some (.ref 1121), some (zi x4), some (zi v677)] zd_L_law_981 (by decide) rfl ?_
  refine zz_aload_n (x := 1079) rfl zd_L_law_983 ?_
  refine zz_aload_n (x := 998) rfl zd_L_law_984 ?_
  refine zz_iload (x := x4) rfl zd_L_law_985 ?_
  refine zz_iconst zd_L_law_987 ?_
  refine zz_iadd zd_L_law_988 ?_
  refine zz_sld (by omega) zd_L_law_989 (by omega) ?_
  refine zz_aload_n (x := 998) rfl zd_L_law_990 ?_
  refine zz_iload (x := x4) rfl zd_L_law_991 ?_
  refine zz_iconst zd_L_law_993 ?_
  refine zz_iadd zd_L_law_994 ?_
  refine zz_sld (by omega) zd_L_law_995 (by omega) ?_
  refine zz_callVI [zi (zz_sc g (x4 + 1).toNat), zi (zz_sc g (x4 + 2).toNat)] zd_L_law_996 zk_TFLaw_178 zT_1079 (zz_ltn hn680 rfl) rfl rfl ⟨Nat.le_of_ble_eq_true rfl, Nat.le_of_ble_eq_true rfl⟩ ⟨rfl, rfl⟩ hk681 hj682 (zc_form_14_71 (zz_sc g (x4 + 1).toNat) (zz_sc g (x4 + 2).toNat) S676 (n + d678) hn680 G_S676 (by omega) (by omega)) (fun v690 S689 hP => ?_)
  obtain ⟨G_S689, fS689, o691, o692⟩ := hP
  have H_S689 : zz_Hc S689 := zz_Hc.fr (q := 0) fS689 rfl rfl G_S676 (by decide) rfl (fun b q h => h.elim) H_S676
  have R_S689 : zz_Hr S689 := zz_Hr.fr fS689 rfl rfl (fun b q h => h.elim) R_S676
  have O_S689 : 1 ≤ S689 1079 36 := by rw [show S689 1079 36 = S676 1079 36 from zz_rc fS689 rfl rfl (fun h => h) rfl]; exact O_S676
  have e693 : S689 1000 7 = S 1000 7 := (zz_rc fS689 rfl rfl (fun h => h) (zz_rc fS676 rfl rfl (fun h => h) rfl))
  have e694 : S689 1000 8 = S 1000 8 := (zz_rc fS689 rfl rfl (fun h => h) (zz_rc fS676 rfl rfl (fun h => h) rfl))
  have e695 : S689 1079 36 = S 1079 36 := (zz_rc fS689 rfl rfl (fun h => h) (zz_rc fS676 rfl rfl (fun h => h) rfl))
  have A_S689 : zn_A S689 := zn_A.fr A_S676 fS689 rfl rfl (fun b q h => h.elim) rfl rfl (by omega) (by omega) (by omega) (by omega)
  refine zz_istore [some (.ref 998), some (.ref 1000), some (.ref 1079), some (.ref 1121), some (zi x4), some (zi v677), some (zi v690)] zd_L_law_999 (by decide) rfl ?_
  refine zz_goto zd_L_law_1001 ?_
  refine zz_iinc [some (.ref 998), some (.ref 1000), some (.ref 1079), some (.ref 1121), some (zi (x4 + 7)), some (zi v677), some (zi v690)] zd_L_law_1208 rfl rfl ?_
  refine zz_goto zd_L_law_1211 ?_
  refine zz_less (ls1 := [some (.ref 998), some (.ref 1000), some (.ref 1079), some (.ref 1121), some (zi (x4 + 7))]) ⟨rfl, ⟨rfl, ⟨rfl, ⟨rfl, ⟨rfl, trivial⟩⟩⟩⟩⟩ ?_
  have g696 := zz_G.r G_S 1070 1 0 1500 rfl rfl
  have e697 : S689 1070 1 = S 1070 1 := (zz_rc fS689 rfl rfl (fun h => h) (zz_rc fS676 rfl rfl (fun h => h) rfl))
  have g698 := zz_G.r G_S 1079 28 0 1500 rfl rfl
  have e699 : S689 1079 28 = S 1079 28 := (zz_rc fS689 rfl rfl (fun h => h) (zz_rc fS676 rfl rfl (fun h => h) rfl))
  have g700 := zz_G.r G_S 1031 6 2 8 rfl rfl
  have e701 : S689 1031 6 = S 1031 6 := (zz_rc fS689 rfl rfl (fun h => h) (zz_rc fS676 rfl rfl (fun h => h) rfl))
  have g702 := zz_G.r G_S 1079 1 2 8 rfl rfl
  have e703 : S689 1079 1 = S 1079 1 := (zz_rc fS689 rfl rfl (fun h => h) (zz_rc fS676 rfl rfl (fun h => h) rfl))
  exact ih (x4 + 7) S689 (n + d678) (k + zr_form_L.cells) (j + zr_form_L.slots) G_S689 H_S689 R_S689 O_S689 (by omega) (by omega) (fun u h1 h2 => ((zz_rc fS689 (zz_nc1 rfl) rfl (fun h => h) (zz_rc fS676 (zz_nc1 rfl) rfl (fun h => h) rfl)) : S689 1100 u = S 1100 u).trans (N_S u h1 h2)) (fun i h1 h2 => ((zz_rc fS689 (zz_nc1 rfl) rfl (fun h => h) (zz_rc fS676 (zz_nc1 rfl) rfl (fun h => h) rfl)) : S689 1071 i.toNat = S 1071 i.toNat).trans ((U_S i h1 (by omega)).trans ((zz_rc fS689 (zz_nc1 rfl) rfl (fun h => h) (zz_rc fS676 (zz_nc1 rfl) rfl (fun h => h) rfl)) : S689 1099 i.toNat = S 1099 i.toNat).symm)) A_S689 hn680 (by omega) (by show ((k + 1 : Nat) : Int) ≤ 200 + (x4 + 7); omega) (by show ((j + 6 : Nat) : Int) ≤ 30000 + 6 * (x4 + 7); omega) (by omega)
theorem zl_21 {g : mm_G} {l : Launch} (hfl : l.flags = flags0) (hlen : g.2.2.2 997 ≤ 3584) (N : Nat) (ih : ∀ (x4 : Int) (S : zz_S) (n k j : Nat), zz_G S → zz_Hc S → zz_Hr S → 1 ≤ S 1079 36 → S 1070 1 = S 1079 28 → S 1031 6 = S 1079 1 → (∀ w : Nat, 1 ≤ w → w ≤ 20 → S 1100 w = zt_cd (zt_nw.getD w [])) → (∀ i : Int, 0 ≤ i → i < S 1070 1 → S 1071 i.toNat = S 1099 i.toNat) → zn_A S → zz_end ≤ n → (0 ≤ x4 ∧ x4 ≤ 3590) → (k : Int) ≤ 200 + x4 → (j : Int) ≤ 30000 + 6 * x4 → (3600 - x4).toNat < N → zz_E g l zy_law_L room_1 (fun u => ∃ M1 n1, u = (.inl (some (zi 1)), M1, n1)) S n 23 [some (.ref 998), some (.ref 1000), some (.ref 1079), some (.ref 1121), some (zi x4)] [] k j) (x4 : Int) (S : zz_S) (n k j : Nat) (G_S : zz_G S) (H_S : zz_Hc S) (R_S : zz_Hr S) (O_S : 1 ≤ S 1079 36) (T0_S : S 1070 1 = S 1079 28) (T1_S : S 1031 6 = S 1079 1) (N_S : ∀ w : Nat, 1 ≤ w → w ≤ 20 → S 1100 w = zt_cd (zt_nw.getD w [])) (U_S : ∀ i : Int, 0 ≤ i → i < S 1070 1 → S 1071 i.toNat = S 1099 i.toNat) (A_S : zn_A S) (hn : zz_end ≤ n) (hx : 0 ≤ x4 ∧ x4 ≤ 3590) (hkk : (k : Int) ≤ 200 + x4) (hjj : (j : Int) ≤ 30000 + 6 * x4) (hR : (3600 - x4).toNat < N + 1) (hc1 : x4 ≤ zz_ln g - 7) : zz_E g l zy_law_L room_1 (fun u => ∃ M1 n1, u = (.inl (some (zi 1)), M1, n1)) S n 1004 [some (.ref 998), some (.ref 1000), some (.ref 1079), some (.ref 1121), some (zi x4)] [] k j := by
  have hln : 0 ≤ zz_ln g ∧ zz_ln g ≤ 3584 := ⟨Int.natCast_nonneg _, Int.ofNat_le.mpr hlen⟩
  have hk : k ≤ 601024 := by omega
  have hj : j ≤ 7293034 := by omega
  refine zz_aload_n (x := 1000) rfl zd_L_law_1004 ?_
  refine zz_aload_n (x := 1121) rfl zd_L_law_1005 ?_
  refine zz_callHW (rz := zr_compile_L) [.ref 1000, .ref 1121] zd_L_law_1006 zhl_compile_L rfl rfl ⟨Nat.le_of_ble_eq_true rfl, Nat.le_of_ble_eq_true rfl⟩ (by show k + 1 ≤ 601024; omega) (by show j + 6 ≤ 7293034; omega) (zc_compile_L  S (n) hn hfl G_S H_S) (fun v706 S705 d707 hd707 hP => ?_)
  obtain ⟨G_S705, fS705, rv706, o708⟩ := hP
  have hn709 : zz_end ≤ n + d707 := by omega
  have hk710 : (k + zr_compile_L.cells) ≤ 601024 := by show k + 1 ≤ 601024; omega
  have hj711 : (j + zr_compile_L.slots) ≤ 7293034 := by show j + 6 ≤ 7293034; omega
  have H_S705 : zz_Hc S705 := o708
  have R_S705 : zz_Hr S705 := zz_Hr.fr fS705 rfl rfl (fun b q h => h.elim) R_S
  have O_S705 : 1 ≤ S705 1079 36 := by rw [show S705 1079 36 = S 1079 36 from zz_rc fS705 rfl rfl (fun h => h) rfl]; exact O_S
  have g712 := zz_G.r G_S 1000 7 0 1 rfl rfl
  have e713 : S705 1000 7 = S 1000 7 := (zz_rc fS705 rfl rfl (fun h => h) rfl)
  have g714 := zz_G.r G_S 1000 8 0 1 rfl rfl
  have e715 : S705 1000 8 = S 1000 8 := (zz_rc fS705 rfl rfl (fun h => h) rfl)
  have g716 := zz_G.r G_S 1079 36 0 11 rfl rfl
  have e717 : S705 1079 36 = S 1079 36 := (zz_rc fS705 rfl rfl (fun h => h) rfl)
  have A_S705 : zn_A S705 := zn_A.fr A_S fS705 rfl rfl (fun b q h => h.elim) rfl rfl (by omega) (by omega) (by omega) (by omega)
  refine zz_istore [some (.ref 998), some (.ref 1000), some (.ref 1079), some (.ref 1121), some (zi x4), some (zi v706)] zd_L_law_1009 (by decide) rfl ?_
  refine zz_aload_n (x := 1079) rfl zd_L_law_1011 ?_
  refine zz_callVI [] zd_L_law_1012 zk_TFLaw_182 zT_1079 (zz_ltn hn709 rfl) rfl rfl ⟨Nat.le_of_ble_eq_true rfl, Nat.le_of_ble_eq_true rfl⟩ ⟨rfl, rfl⟩ hk710 hj711 (zc_compile_14_89  S705 (n + d707) hn709 G_S705 ) (fun v719 S718 hP => ?_)
  obtain ⟨G_S718, fS718, o720⟩ := hP
  have H_S718 : zz_Hc S718 := zz_Hc.fr (q := 0) fS718 rfl rfl G_S705 (by decide) rfl (fun b q h => h.elim) H_S705
  have R_S718 : zz_Hr S718 := zz_Hr.fr fS718 rfl rfl (fun b q h => h.elim) R_S705
  have O_S718 : 1 ≤ S718 1079 36 := by rw [show S718 1079 36 = S705 1079 36 from zz_rc fS718 rfl rfl (fun h => h) rfl]; exact O_S705
  have e721 : S718 1000 7 = S 1000 7 := (zz_rc fS718 rfl rfl (fun h => h) (zz_rc fS705 rfl rfl (fun h => h) rfl))
  have e722 : S718 1000 8 = S 1000 8 := (zz_rc fS718 rfl rfl (fun h => h) (zz_rc fS705 rfl rfl (fun h => h) rfl))
  have e723 : S718 1079 36 = S 1079 36 := (zz_rc fS718 rfl rfl (fun h => h) (zz_rc fS705 rfl rfl (fun h => h) rfl))
  have A_S718 : zn_A S718 := zn_A.fr A_S705 fS718 rfl rfl (fun b q h => h.elim) rfl rfl (by omega) (by omega) (by omega) (by omega)
  refine zz_istore [some (.ref 998), some (.ref 1000), some (.ref 1079), some (.ref 1121), some (zi x4), some (zi v706), some (zi v719)] zd_L_law_1015 (by decide) rfl ?_
  refine zz_goto zd_L_law_1017 ?_
  refine zz_iinc [some (.ref 998), some (.ref 1000), some (.ref 1079), some (.ref 1121), some (zi (x4 + 7)), some (zi v706), some (zi v719)] zd_L_law_1208 rfl rfl ?_
  refine zz_goto zd_L_law_1211 ?_
  refine zz_less (ls1 := [some (.ref 998), some (.ref 1000), some (.ref 1079), some (.ref 1121), some (zi (x4 + 7))]) ⟨rfl, ⟨rfl, ⟨rfl, ⟨rfl, ⟨rfl, trivial⟩⟩⟩⟩⟩ ?_
  have g724 := zz_G.r G_S 1070 1 0 1500 rfl rfl
  have e725 : S718 1070 1 = S 1070 1 := (zz_rc fS718 rfl rfl (fun h => h) (zz_rc fS705 rfl rfl (fun h => h) rfl))
  have g726 := zz_G.r G_S 1079 28 0 1500 rfl rfl
  have e727 : S718 1079 28 = S 1079 28 := (zz_rc fS718 rfl rfl (fun h => h) (zz_rc fS705 rfl rfl (fun h => h) rfl))
  have g728 := zz_G.r G_S 1031 6 2 8 rfl rfl
  have e729 : S718 1031 6 = S 1031 6 := (zz_rc fS718 rfl rfl (fun h => h) (zz_rc fS705 rfl rfl (fun h => h) rfl))
  have g730 := zz_G.r G_S 1079 1 2 8 rfl rfl
  have e731 : S718 1079 1 = S 1079 1 := (zz_rc fS718 rfl rfl (fun h => h) (zz_rc fS705 rfl rfl (fun h => h) rfl))
  exact ih (x4 + 7) S718 (n + d707) (k + zr_compile_L.cells) (j + zr_compile_L.slots) G_S718 H_S718 R_S718 O_S718 (by omega) (by omega) (fun u h1 h2 => ((zz_rc fS718 (zz_nc1 rfl) rfl (fun h => h) (zz_rc fS705 (zz_nc1 rfl) rfl (fun h => h) rfl)) : S718 1100 u = S 1100 u).trans (N_S u h1 h2)) (fun i h1 h2 => ((zz_rc fS718 (zz_nc1 rfl) rfl (fun h => h) (zz_rc fS705 (zz_nc1 rfl) rfl (fun h => h) rfl)) : S718 1071 i.toNat = S 1071 i.toNat).trans ((U_S i h1 (by omega)).trans ((zz_rc fS718 (zz_nc1 rfl) rfl (fun h => h) (zz_rc fS705 (zz_nc1 rfl) rfl (fun h => h) rfl)) : S718 1099 i.toNat = S 1099 i.toNat).symm)) A_S718 hn709 (by omega) (by show ((k + 1 : Nat) : Int) ≤ 200 + (x4 + 7); omega) (by show ((j + 6 : Nat) : Int) ≤ 30000 + 6 * (x4 + 7); omega) (by omega)
theorem zl_22 {g : mm_G} {l : Launch} (hfl : l.flags = flags0) (hlen : g.2.2.2 997 ≤ 3584) (N : Nat) (ih : ∀ (x4 : Int) (S : zz_S) (n k j : Nat), zz_G S → zz_Hc S → zz_Hr S → 1 ≤ S 1079 36 → S 1070 1 = S 1079 28 → S 1031 6 = S 1079 1 → (∀ w : Nat, 1 ≤ w → w ≤ 20 → S 1100 w = zt_cd (zt_nw.getD w [])) → (∀ i : Int, 0 ≤ i → i < S 1070 1 → S 1071 i.toNat = S 1099 i.toNat) → zn_A S → zz_end ≤ n → (0 ≤ x4 ∧ x4 ≤ 3590) → (k : Int) ≤ 200 + x4 → (j : Int) ≤ 30000 + 6 * x4 → (3600 - x4).toNat < N → zz_E g l zy_law_L room_1 (fun u => ∃ M1 n1, u = (.inl (some (zi 1)), M1, n1)) S n 23 [some (.ref 998), some (.ref 1000), some (.ref 1079), some (.ref 1121), some (zi x4)] [] k j) (x4 : Int) (S : zz_S) (n k j : Nat) (G_S : zz_G S) (H_S : zz_Hc S) (R_S : zz_Hr S) (O_S : 1 ≤ S 1079 36) (T0_S : S 1070 1 = S 1079 28) (T1_S : S 1031 6 = S 1079 1) (N_S : ∀ w : Nat, 1 ≤ w → w ≤ 20 → S 1100 w = zt_cd (zt_nw.getD w [])) (U_S : ∀ i : Int, 0 ≤ i → i < S 1070 1 → S 1071 i.toNat = S 1099 i.toNat) (A_S : zn_A S) (hn : zz_end ≤ n) (hx : 0 ≤ x4 ∧ x4 ≤ 3590) (hkk : (k : Int) ≤ 200 + x4) (hjj : (j : Int) ≤ 30000 + 6 * x4) (hR : (3600 - x4).toNat < N + 1) (hc1 : x4 ≤ zz_ln g - 7) : zz_E g l zy_law_L room_1 (fun u => ∃ M1 n1, u = (.inl (some (zi 1)), M1, n1)) S n 1020 [some (.ref 998), some (.ref 1000), some (.ref 1079), some (.ref 1121), some (zi x4)] [] k j := by
  have hln : 0 ≤ zz_ln g ∧ zz_ln g ≤ 3584 := ⟨Int.natCast_nonneg _, Int.ofNat_le.mpr hlen⟩
  have hk : k ≤ 601024 := by omega
  have hj : j ≤ 7293034 := by omega
  refine zz_aload_n (x := 1000) rfl zd_L_law_1020 ?_
  refine zz_callVV [] zd_L_law_1021 zk_TFLaw_183 zT_1000 (zz_ltn hn rfl) rfl rfl ⟨Nat.le_of_ble_eq_true rfl, Nat.le_of_ble_eq_true rfl⟩ ⟨rfl, rfl⟩ hk hj (zc_reckon_1_24  S (n) hn G_S ) (fun S733 hP => ?_)
  obtain ⟨G_S733, fS733⟩ := hP
  have H_S733 : zz_Hc S733 := zz_Hc.fr (q := 0) fS733 rfl rfl G_S (by decide) rfl (fun b q h => h.elim) H_S
  have R_S733 : zz_Hr S733 := zz_Hr.fr fS733 rfl rfl (fun b q h => h.elim) R_S
  have O_S733 : 1 ≤ S733 1079 36 := by rw [show S733 1079 36 = S 1079 36 from zz_rc fS733 rfl rfl (fun h => h) rfl]; exact O_S
  have g735 := zz_G.r G_S 1000 7 0 1 rfl rfl
  have e736 : S733 1000 7 = S 1000 7 := (zz_rc fS733 rfl rfl (fun h => h) rfl)
  have g737 := zz_G.r G_S 1000 8 0 1 rfl rfl
  have e738 : S733 1000 8 = S 1000 8 := (zz_rc fS733 rfl rfl (fun h => h) rfl)
  have g739 := zz_G.r G_S 1079 36 0 11 rfl rfl
  have e740 : S733 1079 36 = S 1079 36 := (zz_rc fS733 rfl rfl (fun h => h) rfl)
  have A_S733 : zn_A S733 := zn_A.fr A_S fS733 rfl rfl (fun b q h => h.elim) rfl rfl (by omega) (by omega) (by omega) (by omega)
  refine zz_aload_n (x := 1079) rfl zd_L_law_1024 ?_
  refine zz_callVV [] zd_L_law_1025 zk_TFLaw_186 zT_1079 (zz_ltn hn rfl) rfl rfl ⟨Nat.le_of_ble_eq_true rfl, Nat.le_of_ble_eq_true rfl⟩ ⟨rfl, rfl⟩ hk hj (zc_reckon_14_76  S733 (n) hn G_S733 R_S733) (fun S741 hP => ?_)
  obtain ⟨G_S741, fS741, o743⟩ := hP
  have H_S741 : zz_Hc S741 := zz_Hc.fr (q := 0) fS741 rfl rfl G_S733 (by decide) rfl (fun b q h => h.elim) H_S733
  have R_S741 : zz_Hr S741 := o743
  have O_S741 : 1 ≤ S741 1079 36 := by rw [show S741 1079 36 = S733 1079 36 from zz_rc fS741 rfl rfl (fun h => h) rfl]; exact O_S733
  have e744 : S741 1000 7 = S 1000 7 := (zz_rc fS741 rfl rfl (fun h => h) (zz_rc fS733 rfl rfl (fun h => h) rfl))
  have e745 : S741 1000 8 = S 1000 8 := (zz_rc fS741 rfl rfl (fun h => h) (zz_rc fS733 rfl rfl (fun h => h) rfl))
  have e746 : S741 1079 36 = S 1079 36 := (zz_rc fS741 rfl rfl (fun h => h) (zz_rc fS733 rfl rfl (fun h => h) rfl))
  have A_S741 : zn_A S741 := zn_A.fr A_S733 fS741 rfl rfl (fun b q h => h.elim) rfl rfl (by omega) (by omega) (by omega) (by omega)
  refine zz_goto zd_L_law_1028 ?_
  refine zz_iinc [some (.ref 998), some (.ref 1000), some (.ref 1079), some (.ref 1121), some (zi (x4 + 7))] zd_L_law_1208 rfl rfl ?_
  refine zz_goto zd_L_law_1211 ?_
  refine zz_less (ls1 := [some (.ref 998), some (.ref 1000), some (.ref 1079), some (.ref 1121), some (zi (x4 + 7))]) ⟨rfl, ⟨rfl, ⟨rfl, ⟨rfl, ⟨rfl, trivial⟩⟩⟩⟩⟩ ?_
  have g747 := zz_G.r G_S 1070 1 0 1500 rfl rfl
  have e748 : S741 1070 1 = S 1070 1 := (zz_rc fS741 rfl rfl (fun h => h) (zz_rc fS733 rfl rfl (fun h => h) rfl))
  have g749 := zz_G.r G_S 1079 28 0 1500 rfl rfl
  have e750 : S741 1079 28 = S 1079 28 := (zz_rc fS741 rfl rfl (fun h => h) (zz_rc fS733 rfl rfl (fun h => h) rfl))
  have g751 := zz_G.r G_S 1031 6 2 8 rfl rfl
  have e752 : S741 1031 6 = S 1031 6 := (zz_rc fS741 rfl rfl (fun h => h) (zz_rc fS733 rfl rfl (fun h => h) rfl))
  have g753 := zz_G.r G_S 1079 1 2 8 rfl rfl
  have e754 : S741 1079 1 = S 1079 1 := (zz_rc fS741 rfl rfl (fun h => h) (zz_rc fS733 rfl rfl (fun h => h) rfl))
  exact ih (x4 + 7) S741 (n) k j G_S741 H_S741 R_S741 O_S741 (by omega) (by omega) (fun u h1 h2 => ((zz_rc fS741 (zz_nc1 rfl) rfl (fun h => h) (zz_rc fS733 (zz_nc1 rfl) rfl (fun h => h) rfl)) : S741 1100 u = S 1100 u).trans (N_S u h1 h2)) (fun i h1 h2 => ((zz_rc fS741 (zz_nc1 rfl) rfl (fun h => h) (zz_rc fS733 (zz_nc1 rfl) rfl (fun h => h) rfl)) : S741 1071 i.toNat = S 1071 i.toNat).trans ((U_S i h1 (by omega)).trans ((zz_rc fS741 (zz_nc1 rfl) rfl (fun h => h) (zz_rc fS733 (zz_nc1 rfl) rfl (fun h => h) rfl)) : S741 1099 i.toNat = S 1099 i.toNat).symm)) A_S741 hn (by omega) (by show ((k : Nat) : Int) ≤ 200 + (x4 + 7); omega) (by show ((j : Nat) : Int) ≤ 30000 + 6 * (x4 + 7); omega) (by omega)
theorem zl_23 {g : mm_G} {l : Launch} (hfl : l.flags = flags0) (hlen : g.2.2.2 997 ≤ 3584) (N : Nat) (ih : ∀ (x4 : Int) (S : zz_S) (n k j : Nat), zz_G S → zz_Hc S → zz_Hr S → 1 ≤ S 1079 36 → S 1070 1 = S 1079 28 → S 1031 6 = S 1079 1 → (∀ w : Nat, 1 ≤ w → w ≤ 20 → S 1100 w = zt_cd (zt_nw.getD w [])) → (∀ i : Int, 0 ≤ i → i < S 1070 1 → S 1071 i.toNat = S 1099 i.toNat) → zn_A S → zz_end ≤ n → (0 ≤ x4 ∧ x4 ≤ 3590) → (k : Int) ≤ 200 + x4 → (j : Int) ≤ 30000 + 6 * x4 → (3600 - x4).toNat < N → zz_E g l zy_law_L room_1 (fun u => ∃ M1 n1, u = (.inl (some (zi 1)), M1, n1)) S n 23 [some (.ref 998), some (.ref 1000), some (.ref 1079), some (.ref 1121), some (zi x4)] [] k j) (x4 : Int) (S : zz_S) (n k j : Nat) (G_S : zz_G S) (H_S : zz_Hc S) (R_S : zz_Hr S) (O_S : 1 ≤ S 1079 36) (T0_S : S 1070 1 = S 1079 28) (T1_S : S 1031 6 = S 1079 1) (N_S : ∀ w : Nat, 1 ≤ w → w ≤ 20 → S 1100 w = zt_cd (zt_nw.getD w [])) (U_S : ∀ i : Int, 0 ≤ i → i < S 1070 1 → S 1071 i.toNat = S 1099 i.toNat) (A_S : zn_A S) (hn : zz_end ≤ n) (hx : 0 ≤ x4 ∧ x4 ≤ 3590) (hkk : (k : Int) ≤ 200 + x4) (hjj : (j : Int) ≤ 30000 + 6 * x4) (hR : (3600 - x4).toNat < N + 1) (hc1 : x4 ≤ zz_ln g - 7) : zz_E g l zy_law_L room_1 (fun u => ∃ M1 n1, u = (.inl (some (zi 1)), M1, n1)) S n 1031 [some (.ref 998), some (.ref 1000), some (.ref 1079), some (.ref 1121), some (zi x4)] [] k j := by
  have hln : 0 ≤ zz_ln g ∧ zz_ln g ≤ 3584 := ⟨Int.natCast_nonneg _, Int.ofNat_le.mpr hlen⟩
  have hk : k ≤ 601024 := by omega
  have hj : j ≤ 7293034 := by omega
  refine zz_aload_n (x := 1000) rfl zd_L_law_1031 ?_
  have g756 := zz_G.r G_S 1070 1 0 1500 rfl rfl
  have g757 := zz_G.r G_S 1000 7 0 1 rfl rfl
  have g758 := zz_G.r G_S 1000 8 0 1 rfl rfl
  refine zz_callVI [] zd_L_law_1032 zk_TFLaw_187 zT_1000 (zz_ltn hn rfl) rfl rfl ⟨Nat.le_of_ble_eq_true rfl, Nat.le_of_ble_eq_true rfl⟩ ⟨rfl, rfl⟩ hk hj (zc_network_1_25  S (n) hn G_S H_S) (fun v760 S759 hP => ?_)
  obtain ⟨G_S759, fS759, o761, o762, o763, o764, o765, o766⟩ := hP
  have g767 := zz_G.r G_S 1000 8 0 1 rfl rfl
  have b768 := zz_rf3 (z := ((S 1000 8))) (by omega)
  have b769 := zz_rf3 (z := (S 1000 8)) (by omega)
  have H_S759 : zz_Hc S759 := o766
  have R_S759 : zz_Hr S759 := zz_Hr.fr fS759 rfl rfl (fun b q h => by have h0_ := zz_rf3 (z := ((S 1000 8))) (by omega); have h1_ := zz_rf3 (z := (S 1000 8)) (by omega); omega) R_S
  have O_S759 : 1 ≤ S759 1079 36 := by rw [show S759 1079 36 = S 1079 36 from zz_rc fS759 rfl rfl (by have h0_ := zz_rf3 (z := ((S 1000 8))) (by omega); have h1_ := zz_rf3 (z := (S 1000 8)) (by omega); omega) rfl]; exact O_S
  have g770 := zz_G.r G_S759 1000 7 0 1 rfl rfl
  have g771 := zz_G.r G_S759 1000 8 0 1 rfl rfl
  have g772 := zz_G.r G_S 1079 36 0 11 rfl rfl
  have e773 : S759 1079 36 = S 1079 36 := (zz_rc fS759 rfl rfl (by first | decide | omega) rfl)
  refine zz_pop rfl zd_L_law_1035 ?_
  refine zz_aload_n (x := 1079) rfl zd_L_law_1036 ?_
  have g774 := zz_G.r G_S 1079 28 0 1500 rfl rfl
  have e775 : S759 1079 28 = S 1079 28 := (zz_rc fS759 rfl rfl (by first | decide | omega) rfl)
  refine zz_callVI [] zd_L_law_1037 zk_TFLaw_190 zT_1079 (zz_ltn hn rfl) rfl rfl ⟨Nat.le_of_ble_eq_true rfl, Nat.le_of_ble_eq_true rfl⟩ ⟨rfl, rfl⟩ hk hj (zc_network_14_105  S759 (n) hn G_S759 R_S759 (by omega) (fun u h1 h2 => ((zz_rc fS759 (zz_nc1 rfl) rfl (by have h0_ := zz_rf3 (z := ((S 1000 8))) (by omega); have h1_ := zz_rf3 (z := (S 1000 8)) (by omega); omega) rfl) : S759 1100 u = S 1100 u).trans (N_S u h1 h2))) (fun v777 S776 hP => ?_)
  obtain ⟨G_S776, fS776, o778, o779, o780, o781, o782, o783⟩ := hP
  rw [show S759 1099 = S 1099 from funext (fun u => (zz_rc fS759 (zz_nc1 rfl) rfl (by first | decide | omega) rfl))] at o780
  rw [show S759 1099 = S 1099 from funext (fun u => (zz_rc fS759 (zz_nc1 rfl) rfl (by first | decide | omega) rfl))] at o781
  have H_S776 : zz_Hc S776 := zz_Hc.fr (q := 0) fS776 rfl rfl G_S759 (by decide) rfl (fun b q h => h.elim) H_S759
  have R_S776 : zz_Hr S776 := o783
  have O_S776 : 1 ≤ S776 1079 36 := by omega
  have e784 : S776 1000 7 = S759 1000 7 := (zz_rc fS776 rfl rfl (fun h => h) rfl)
  have e785 : S776 1000 8 = S759 1000 8 := (zz_rc fS776 rfl rfl (fun h => h) rfl)
  have g786 := zz_G.r G_S776 1079 36 0 11 rfl rfl
  have e787 : S776 1079 28 = S 1079 28 := (zz_rc fS776 rfl rfl (fun h => h) (zz_rc fS759 rfl rfl (by first | decide | omega) rfl))
  have L_S776 := zn_Lnet (n2 := S759 1079 28) A_S (by first | exact fun i h1 h2 => U_S i h1 h2 | exact fun i h1 h2 => (U_S i h1 h2).trans ((zz_rc fS759 (zz_nc1 rfl) rfl (by have h0_ := zz_rf3 (z := ((S 1000 8))) (by omega); have h1_ := zz_rf3 (z := (S 1000 8)) (by omega); omega) rfl) : S759 1099 i.toNat = S 1099 i.toNat).symm) (by omega) o762 o763 o764 o765 o780 o781 o782 (fun v h => zn_M.fr h fS759 rfl rfl (fun b q h => by have h0_ := zz_rf3 (z := ((S 1000 8))) (by omega); have h1_ := zz_rf3 (z := (S 1000 8)) (by omega); omega) (by omega)) (fun v q hq hV h => zn_C.out h hV hq fS776 rfl rfl (fun b q h => h.elim)) (by omega) (by omega) (by omega)
  have A_S776 : zn_A S776 := L_S776.1
  have l1_S776 := L_S776.2
  refine zz_pop rfl zd_L_law_1040 ?_
  refine zz_goto zd_L_law_1041 ?_
  refine zz_iinc [some (.ref 998), some (.ref 1000), some (.ref 1079), some (.ref 1121), some (zi (x4 + 7))] zd_L_law_1208 rfl rfl ?_
  refine zz_goto zd_L_law_1211 ?_
  refine zz_less (ls1 := [some (.ref 998), some (.ref 1000), some (.ref 1079), some (.ref 1121), some (zi (x4 + 7))]) ⟨rfl, ⟨rfl, ⟨rfl, ⟨rfl, ⟨rfl, trivial⟩⟩⟩⟩⟩ ?_
  have e788 : S776 1070 1 = S 1070 1 := (zz_rc fS776 rfl rfl (fun h => h) (zz_rc fS759 rfl rfl (by first | decide | omega) rfl))
  have g789 := zz_G.r G_S 1031 6 2 8 rfl rfl
  have e790 : S776 1031 6 = S 1031 6 := (zz_rc fS776 rfl rfl (fun h => h) (zz_rc fS759 rfl rfl (by first | decide | omega) rfl))
  have g791 := zz_G.r G_S 1079 1 2 8 rfl rfl
  have e792 : S776 1079 1 = S 1079 1 := (zz_rc fS776 rfl rfl (fun h => h) (zz_rc fS759 rfl rfl (by first | decide | omega) rfl))
  exact ih (x4 + 7) S776 (n) k j G_S776 H_S776 R_S776 O_S776 (by omega) (by omega) (fun u h1 h2 => ((zz_rc fS776 (zz_nc1 rfl) rfl (fun h => h) (zz_rc fS759 (zz_nc1 rfl) rfl (by have h0_ := zz_rf3 (z := ((S 1000 8))) (by omega); have h1_ := zz_rf3 (z := (S 1000 8)) (by omega); omega) rfl)) : S776 1100 u = S 1100 u).trans (N_S u h1 h2)) (fun i h1 h2 => ((zz_rc fS776 (zz_nc1 rfl) rfl (fun h => h) (zz_rc fS759 (zz_nc1 rfl) rfl (by have h0_ := zz_rf3 (z := ((S 1000 8))) (by omega); have h1_ := zz_rf3 (z := (S 1000 8)) (by omega); omega) rfl)) : S776 1071 i.toNat = S 1071 i.toNat).trans ((U_S i h1 (by omega)).trans ((zz_rc fS776 (zz_nc1 rfl) rfl (fun h => h) (zz_rc fS759 (zz_nc1 rfl) rfl (by have h0_ := zz_rf3 (z := ((S 1000 8))) (by omega); have h1_ := zz_rf3 (z := (S 1000 8)) (by omega); omega) rfl)) : S776 1099 i.toNat = S 1099 i.toNat).symm)) A_S776 hn (by omega) (by show ((k : Nat) : Int) ≤ 200 + (x4 + 7); omega) (by show ((j : Nat) : Int) ≤ 30000 + 6 * (x4 + 7); omega) (by omega)
theorem zl_24 {g : mm_G} {l : Launch} (hfl : l.flags = flags0) (hlen : g.2.2.2 997 ≤ 3584) (N : Nat) (ih : ∀ (x4 : Int) (S : zz_S) (n k j : Nat), zz_G S → zz_Hc S → zz_Hr S → 1 ≤ S 1079 36 → S 1070 1 = S 1079 28 → S 1031 6 = S 1079 1 → (∀ w : Nat, 1 ≤ w → w ≤ 20 → S 1100 w = zt_cd (zt_nw.getD w [])) → (∀ i : Int, 0 ≤ i → i < S 1070 1 → S 1071 i.toNat = S 1099 i.toNat) → zn_A S → zz_end ≤ n → (0 ≤ x4 ∧ x4 ≤ 3590) → (k : Int) ≤ 200 + x4 → (j : Int) ≤ 30000 + 6 * x4 → (3600 - x4).toNat < N → zz_E g l zy_law_L room_1 (fun u => ∃ M1 n1, u = (.inl (some (zi 1)), M1, n1)) S n 23 [some (.ref 998), some (.ref 1000), some (.ref 1079), some (.ref 1121), some (zi x4)] [] k j) (x4 : Int) (S : zz_S) (n k j : Nat) (G_S : zz_G S) (H_S : zz_Hc S) (R_S : zz_Hr S) (O_S : 1 ≤ S 1079 36) (T0_S : S 1070 1 = S 1079 28) (T1_S : S 1031 6 = S 1079 1) (N_S : ∀ w : Nat, 1 ≤ w → w ≤ 20 → S 1100 w = zt_cd (zt_nw.getD w [])) (U_S : ∀ i : Int, 0 ≤ i → i < S 1070 1 → S 1071 i.toNat = S 1099 i.toNat) (A_S : zn_A S) (hn : zz_end ≤ n) (hx : 0 ≤ x4 ∧ x4 ≤ 3590) (hkk : (k : Int) ≤ 200 + x4) (hjj : (j : Int) ≤ 30000 + 6 * x4) (hR : (3600 - x4).toNat < N + 1) (hc1 : x4 ≤ zz_ln g - 7) : zz_E g l zy_law_L room_1 (fun u => ∃ M1 n1, u = (.inl (some (zi 1)), M1, n1)) S n 1044 [some (.ref 998), some (.ref 1000), some (.ref 1079), some (.ref 1121), some (zi x4)] [] k j := by
  have hln : 0 ≤ zz_ln g ∧ zz_ln g ≤ 3584 := ⟨Int.natCast_nonneg _, Int.ofNat_le.mpr hlen⟩
  have hk : k ≤ 601024 := by omega
  have hj : j ≤ 7293034 := by omega
  refine zz_aload_n (x := 1000) rfl zd_L_law_1044 ?_
  refine zz_aload_n (x := 998) rfl zd_L_law_1045 ?_
  refine zz_iload (x := x4) rfl zd_L_law_1046 ?_
  refine zz_iconst zd_L_law_1048 ?_
  refine zz_iadd zd_L_law_1049 ?_
  refine zz_sld (by omega) zd_L_law_1050 (by omega) ?_
  have g794 := zz_sc_r g (x4 + 1).toNat
  refine zz_aload_n (x := 998) rfl zd_L_law_1051 ?_
  refine zz_iload (x := x4) rfl zd_L_law_1052 ?_
  refine zz_iconst zd_L_law_1054 ?_
  refine zz_iadd zd_L_law_1055 ?_
  refine zz_sld (by omega) zd_L_law_1056 (by omega) ?_
  have g795 := zz_sc_r g (x4 + 2).toNat
  refine zz_aload_n (x := 1121) rfl zd_L_law_1057 ?_
  refine zz_callHW (rz := zr_networkSign_L) [.ref 1000, zi (zz_sc g (x4 + 1).toNat), zi (zz_sc g (x4 + 2).toNat), .ref 1121] zd_L_law_1058 zhl_networkSign_L rfl rfl ⟨Nat.le_of_ble_eq_true rfl, Nat.le_of_ble_eq_true rfl⟩ (by show k + 1 ≤ 601024; omega) (by show j + 6 ≤ 7293034; omega) (zc_networkSign_L (zz_sc g (x4 + 1).toNat) (zz_sc g (x4 + 2).toNat) S (n) hn hfl G_S (by omega) (by omega)) (fun v797 S796 d798 hd798 hP => ?_)
  obtain ⟨G_S796, fS796, rv797, o799⟩ := hP
  have hn800 : zz_end ≤ n + d798 := by omega
  have hk801 : (k + zr_networkSign_L.cells) ≤ 601024 := by show k + 1 ≤ 601024; omega
  have hj802 : (j + zr_networkSign_L.slots) ≤ 7293034 := by show j + 6 ≤ 7293034; omega
  have H_S796 : zz_Hc S796 := zz_Hc.fr (q := 0) fS796 rfl rfl G_S (by decide) rfl (fun b q h => h.elim) H_S
  have R_S796 : zz_Hr S796 := zz_Hr.fr fS796 rfl rfl (fun b q h => h.elim) R_S
  have O_S796 : 1 ≤ S796 1079 36 := by rw [show S796 1079 36 = S 1079 36 from zz_rc fS796 rfl rfl (fun h => h) rfl]; exact O_S
  have g803 := zz_G.r G_S 1000 7 0 1 rfl rfl
  have e804 : S796 1000 7 = S 1000 7 := (zz_rc fS796 rfl rfl (fun h => h) rfl)
  have g805 := zz_G.r G_S 1000 8 0 1 rfl rfl
  have e806 : S796 1000 8 = S 1000 8 := (zz_rc fS796 rfl rfl (fun h => h) rfl)
  have g807 := zz_G.r G_S 1079 36 0 11 rfl rfl
  have e808 : S796 1079 36 = S 1079 36 := (zz_rc fS796 rfl rfl (fun h => h) rfl)
  have A_S796 : zn_A S796 := zn_A.fr A_S fS796 rfl rfl (fun b q h => h.elim) rfl rfl (by omega) (by omega) (by omega) (by omega)
  refine zz_istore [some (.ref 998), some (.ref 1000), some (.ref 1079), some (.ref 1121), some (zi x4), some (zi v797)] zd_L_law_1061 (by decide) rfl ?_
  refine zz_aload_n (x := 1079) rfl zd_L_law_1063 ?_
  refine zz_aload_n (x := 998) rfl zd_L_law_1064 ?_
  refine zz_iload (x := x4) rfl zd_L_law_1065 ?_
  refine zz_iconst zd_L_law_1067 ?_
  refine zz_iadd zd_L_law_1068 ?_
  refine zz_sld (by omega) zd_L_law_1069 (by omega) ?_
  refine zz_aload_n (x := 998) rfl zd_L_law_1070 ?_
  refine zz_iload (x := x4) rfl zd_L_law_1071 ?_
  refine zz_iconst zd_L_law_1073 ?_
  refine zz_iadd zd_L_law_1074 ?_
  refine zz_sld (by omega) zd_L_law_1075 (by omega) ?_
  refine zz_callVI [zi (zz_sc g (x4 + 1).toNat), zi (zz_sc g (x4 + 2).toNat)] zd_L_law_1076 zk_TFLaw_193 zT_1079 (zz_ltn hn800 rfl) rfl rfl ⟨Nat.le_of_ble_eq_true rfl, Nat.le_of_ble_eq_true rfl⟩ ⟨rfl, rfl⟩ hk801 hj802 (zc_networkSign_14_109 (zz_sc g (x4 + 1).toNat) (zz_sc g (x4 + 2).toNat) S796 (n + d798) hn800 G_S796 (by omega) (by omega)) (fun v810 S809 hP => ?_)
  obtain ⟨G_S809, fS809, o811, o812⟩ := hP
  have H_S809 : zz_Hc S809 := zz_Hc.fr (q := 0) fS809 rfl rfl G_S796 (by decide) rfl (fun b q h => h.elim) H_S796
  have R_S809 : zz_Hr S809 := zz_Hr.fr fS809 rfl rfl (fun b q h => h.elim) R_S796
  have O_S809 : 1 ≤ S809 1079 36 := by rw [show S809 1079 36 = S796 1079 36 from zz_rc fS809 rfl rfl (fun h => h) rfl]; exact O_S796
  have e813 : S809 1000 7 = S 1000 7 := (zz_rc fS809 rfl rfl (fun h => h) (zz_rc fS796 rfl rfl (fun h => h) rfl))
  have e814 : S809 1000 8 = S 1000 8 := (zz_rc fS809 rfl rfl (fun h => h) (zz_rc fS796 rfl rfl (fun h => h) rfl))
  have e815 : S809 1079 36 = S 1079 36 := (zz_rc fS809 rfl rfl (fun h => h) (zz_rc fS796 rfl rfl (fun h => h) rfl))
  have A_S809 : zn_A S809 := zn_A.fr A_S796 fS809 rfl rfl (fun b q h => h.elim) rfl rfl (by omega) (by omega) (by omega) (by omega)
  have L_S809 := zs_Lsg (h := S809 1079 0) (b := v810) A_S o799 (fun v h => zn_M.fr h fS796 rfl rfl (fun b q h => h.elim) (by omega)) o812
  have l1_S809 := L_S809.1
  have l2_S809 := L_S809.2
  refine zz_istore [some (.ref 998), some (.ref 1000), some (.ref 1079), some (.ref 1121), some (zi x4), some (zi v797), some (zi v810)] zd_L_law_1079 (by decide) rfl ?_
  refine zz_aload_n (x := 1079) rfl zd_L_law_1081 ?_
  have g816 := zz_G.r G_S809 1079 0 0 3 rfl rfl
  refine zz_callVI [] zd_L_law_1082 zk_TFLaw_194 zT_1079 (zz_ltn hn800 rfl) rfl rfl ⟨Nat.le_of_ble_eq_true rfl, Nat.le_of_ble_eq_true rfl⟩ ⟨rfl, rfl⟩ hk801 hj802 (zc_thrown_14_2  S809 (n + d798) hn800 G_S809 ) (fun v818 S817 hP => ?_)
  obtain ⟨rfl, o819, o820⟩ := hP
  refine zz_iload (x := v797) rfl zd_L_law_1085 ?_
  refine zz_icmp_eq (by omega) (by omega) zd_L_law_1087 (fun c821 => ?_) (fun c821 => ?_)
  · refine zz_iload (x := v797) rfl zd_L_law_1092 ?_
    refine zz_if_ne (by omega) zd_L_law_1094 (fun c822 => ?_) (fun c822 => ?_)
    · refine zz_goto zd_L_law_1109 ?_
      refine zz_iinc [some (.ref 998), some (.ref 1000), some (.ref 1079), some (.ref 1121), some (zi (x4 + 7)), some (zi v797), some (zi v810)] zd_L_law_1208 rfl rfl ?_
      refine zz_goto zd_L_law_1211 ?_
      refine zz_less (ls1 := [some (.ref 998), some (.ref 1000), some (.ref 1079), some (.ref 1121), some (zi (x4 + 7))]) ⟨rfl, ⟨rfl, ⟨rfl, ⟨rfl, ⟨rfl, trivial⟩⟩⟩⟩⟩ ?_
      have g823 := zz_G.r G_S 1070 1 0 1500 rfl rfl
      have e824 : S809 1070 1 = S 1070 1 := (zz_rc fS809 rfl rfl (fun h => h) (zz_rc fS796 rfl rfl (fun h => h) rfl))
      have g825 := zz_G.r G_S 1079 28 0 1500 rfl rfl
      have e826 : S809 1079 28 = S 1079 28 := (zz_rc fS809 rfl rfl (fun h => h) (zz_rc fS796 rfl rfl (fun h => h) rfl))
      have g827 := zz_G.r G_S 1031 6 2 8 rfl rfl
      have e828 : S809 1031 6 = S 1031 6 := (zz_rc fS809 rfl rfl (fun h => h) (zz_rc fS796 rfl rfl (fun h => h) rfl))
      have g829 := zz_G.r G_S 1079 1 2 8 rfl rfl
      have e830 : S809 1079 1 = S 1079 1 := (zz_rc fS809 rfl rfl (fun h => h) (zz_rc fS796 rfl rfl (fun h => h) rfl))
      exact ih (x4 + 7) S809 (n + d798) (k + zr_networkSign_L.cells) (j + zr_networkSign_L.slots) G_S809 H_S809 R_S809 O_S809 (by omega) (by omega) (fun u h1 h2 => ((zz_rc fS809 (zz_nc1 rfl) rfl (fun h => h) (zz_rc fS796 (zz_nc1 rfl) rfl (fun h => h) rfl)) : S809 1100 u = S 1100 u).trans (N_S u h1 h2)) (fun i h1 h2 => ((zz_rc fS809 (zz_nc1 rfl) rfl (fun h => h) (zz_rc fS796 (zz_nc1 rfl) rfl (fun h => h) rfl)) : S809 1071 i.toNat = S 1071 i.toNat).trans ((U_S i h1 (by omega)).trans ((zz_rc fS809 (zz_nc1 rfl) rfl (fun h => h) (zz_rc fS796 (zz_nc1 rfl) rfl (fun h => h) rfl)) : S809 1099 i.toNat = S 1099 i.toNat).symm)) A_S809 hn800 (by omega) (by show ((k + 1 : Nat) : Int) ≤ 200 + (x4 + 7); omega) (by show ((j + 6 : Nat) : Int) ≤ 30000 + 6 * (x4 + 7); omega) (by omega)
    · refine zz_aload_n (x := 1121) rfl zd_L_law_1097 ?_
      refine zz_iconst zd_L_law_1098 ?_
      have g831 := zz_G.r G_S796 1121 0 (-9223372036854775808) 9223372036854775807 rfl rfl
      refine zz_lald (z := S796 1121 0) zd_L_law_1099 zT_1121 rfl (zz_ltn hn800 rfl) (by decide) (by decide) (zz_rc fS809 rfl rfl (fun h => h) rfl) ?_
      refine zz_iload (x := v810) rfl zd_L_law_1100 ?_
      refine zz_i2l (by omega) zd_L_law_1102 ?_
      refine zz_lcmp (by omega) (by omega) zd_L_law_1103 (fun v832 hv832 => ?_)
      refine zz_if_eq (by omega) zd_L_law_1104 (fun c833 => ?_) (fun c833 => ?_)
      · refine zz_goto zd_L_law_1109 ?_
        refine zz_iinc [some (.ref 998), some (.ref 1000), some (.ref 1079), some (.ref 1121), some (zi (x4 + 7)), some (zi v797), some (zi v810)] zd_L_law_1208 rfl rfl ?_
        refine zz_goto zd_L_law_1211 ?_
        refine zz_less (ls1 := [some (.ref 998), some (.ref 1000), some (.ref 1079), some (.ref 1121), some (zi (x4 + 7))]) ⟨rfl, ⟨rfl, ⟨rfl, ⟨rfl, ⟨rfl, trivial⟩⟩⟩⟩⟩ ?_
        have g834 := zz_G.r G_S 1070 1 0 1500 rfl rfl
        have e835 : S809 1070 1 = S 1070 1 := (zz_rc fS809 rfl rfl (fun h => h) (zz_rc fS796 rfl rfl (fun h => h) rfl))
        have g836 := zz_G.r G_S 1079 28 0 1500 rfl rfl
        have e837 : S809 1079 28 = S 1079 28 := (zz_rc fS809 rfl rfl (fun h => h) (zz_rc fS796 rfl rfl (fun h => h) rfl))
        have g838 := zz_G.r G_S 1031 6 2 8 rfl rfl
        have e839 : S809 1031 6 = S 1031 6 := (zz_rc fS809 rfl rfl (fun h => h) (zz_rc fS796 rfl rfl (fun h => h) rfl))
        have g840 := zz_G.r G_S 1079 1 2 8 rfl rfl
        have e841 : S809 1079 1 = S 1079 1 := (zz_rc fS809 rfl rfl (fun h => h) (zz_rc fS796 rfl rfl (fun h => h) rfl))
        exact ih (x4 + 7) S809 (n + d798) (k + zr_networkSign_L.cells) (j + zr_networkSign_L.slots) G_S809 H_S809 R_S809 O_S809 (by omega) (by omega) (fun u h1 h2 => ((zz_rc fS809 (zz_nc1 rfl) rfl (fun h => h) (zz_rc fS796 (zz_nc1 rfl) rfl (fun h => h) rfl)) : S809 1100 u = S 1100 u).trans (N_S u h1 h2)) (fun i h1 h2 => ((zz_rc fS809 (zz_nc1 rfl) rfl (fun h => h) (zz_rc fS796 (zz_nc1 rfl) rfl (fun h => h) rfl)) : S809 1071 i.toNat = S 1071 i.toNat).trans ((U_S i h1 (by omega)).trans ((zz_rc fS809 (zz_nc1 rfl) rfl (fun h => h) (zz_rc fS796 (zz_nc1 rfl) rfl (fun h => h) rfl)) : S809 1099 i.toNat = S 1099 i.toNat).symm)) A_S809 hn800 (by omega) (by show ((k + 1 : Nat) : Int) ≤ 200 + (x4 + 7); omega) (by show ((j + 6 : Nat) : Int) ≤ 30000 + 6 * (x4 + 7); omega) (by omega)
      · exfalso; omega
  · exfalso; omega
theorem zl_25 {g : mm_G} {l : Launch} (hfl : l.flags = flags0) (hlen : g.2.2.2 997 ≤ 3584) (N : Nat) (ih : ∀ (x4 : Int) (S : zz_S) (n k j : Nat), zz_G S → zz_Hc S → zz_Hr S → 1 ≤ S 1079 36 → S 1070 1 = S 1079 28 → S 1031 6 = S 1079 1 → (∀ w : Nat, 1 ≤ w → w ≤ 20 → S 1100 w = zt_cd (zt_nw.getD w [])) → (∀ i : Int, 0 ≤ i → i < S 1070 1 → S 1071 i.toNat = S 1099 i.toNat) → zn_A S → zz_end ≤ n → (0 ≤ x4 ∧ x4 ≤ 3590) → (k : Int) ≤ 200 + x4 → (j : Int) ≤ 30000 + 6 * x4 → (3600 - x4).toNat < N → zz_E g l zy_law_L room_1 (fun u => ∃ M1 n1, u = (.inl (some (zi 1)), M1, n1)) S n 23 [some (.ref 998), some (.ref 1000), some (.ref 1079), some (.ref 1121), some (zi x4)] [] k j) (x4 : Int) (S : zz_S) (n k j : Nat) (G_S : zz_G S) (H_S : zz_Hc S) (R_S : zz_Hr S) (O_S : 1 ≤ S 1079 36) (T0_S : S 1070 1 = S 1079 28) (T1_S : S 1031 6 = S 1079 1) (N_S : ∀ w : Nat, 1 ≤ w → w ≤ 20 → S 1100 w = zt_cd (zt_nw.getD w [])) (U_S : ∀ i : Int, 0 ≤ i → i < S 1070 1 → S 1071 i.toNat = S 1099 i.toNat) (A_S : zn_A S) (hn : zz_end ≤ n) (hx : 0 ≤ x4 ∧ x4 ≤ 3590) (hkk : (k : Int) ≤ 200 + x4) (hjj : (j : Int) ≤ 30000 + 6 * x4) (hR : (3600 - x4).toNat < N + 1) (hc1 : x4 ≤ zz_ln g - 7) : zz_E g l zy_law_L room_1 (fun u => ∃ M1 n1, u = (.inl (some (zi 1)), M1, n1)) S n 1112 [some (.ref 998), some (.ref 1000), some (.ref 1079), some (.ref 1121), some (zi x4)] [] k j := by
  have hln : 0 ≤ zz_ln g ∧ zz_ln g ≤ 3584 := ⟨Int.natCast_nonneg _, Int.ofNat_le.mpr hlen⟩
  have hk : k ≤ 601024 := by omega
  have hj : j ≤ 7293034 := by omega
  refine zz_aload_n (x := 1000) rfl zd_L_law_1112 ?_
  refine zz_aload_n (x := 1121) rfl zd_L_law_1113 ?_
  refine zz_callHW (rz := zr_place_L) [.ref 1000, .ref 1121] zd_L_law_1114 zhl_place_L rfl rfl ⟨Nat.le_of_ble_eq_true rfl, Nat.le_of_ble_eq_true rfl⟩ (by show k + 1 ≤ 601024; omega) (by show j + 6 ≤ 7293034; omega) (zc_place_L  S (n) hn hfl G_S ) (fun v844 S843 d845 hd845 hP => ?_)
  obtain ⟨G_S843, fS843, rv844, o846⟩ := hP
  have g847 := zz_G.r G_S 1000 7 0 1 rfl rfl
  have hn848 : zz_end ≤ n + d845 := by omega
  have hk849 : (k + zr_place_L.cells) ≤ 601024 := by show k + 1 ≤ 601024; omega
  have hj850 : (j + zr_place_L.slots) ≤ 7293034 := by show j + 6 ≤ 7293034; omega
  have b851 := zz_rf6 (z := (12 * (S 1000 7) + 0)) (by omega)
  have H_S843 : zz_Hc S843 := zz_Hc.sp fS843 rfl rfl G_S (fun b q h => by have h0_ := zz_rf6 (z := (12 * (S 1000 7) + 0)) (by omega); omega) H_S
  have R_S843 : zz_Hr S843 := zz_Hr.fr fS843 rfl rfl (fun b q h => by have h0_ := zz_rf6 (z := (12 * (S 1000 7) + 0)) (by omega); omega) R_S
  have O_S843 : 1 ≤ S843 1079 36 := by rw [show S843 1079 36 = S 1079 36 from zz_rc fS843 rfl rfl (by have h0_ := zz_rf6 (z := (12 * (S 1000 7) + 0)) (by omega); omega) rfl]; exact O_S
  have g852 := zz_G.r G_S 1000 7 0 1 rfl rfl
  have e853 : S843 1000 7 = S 1000 7 := (zz_rc fS843 rfl rfl (by first | decide | omega) rfl)
  have g854 := zz_G.r G_S 1000 8 0 1 rfl rfl
  have e855 : S843 1000 8 = S 1000 8 := (zz_rc fS843 rfl rfl (by first | decide | omega) rfl)
  have g856 := zz_G.r G_S 1079 36 0 11 rfl rfl
  have e857 : S843 1079 36 = S 1079 36 := (zz_rc fS843 rfl rfl (by first | decide | omega) rfl)
  refine zz_istore [some (.ref 998), some (.ref 1000), some (.ref 1079), some (.ref 1121), some (zi x4), some (zi v844)] zd_L_law_1117 (by decide) rfl ?_
  refine zz_aload_n (x := 1079) rfl zd_L_law_1119 ?_
  refine zz_callVI [] zd_L_law_1120 zk_TFLaw_199 zT_1079 (zz_ltn hn848 rfl) rfl rfl ⟨Nat.le_of_ble_eq_true rfl, Nat.le_of_ble_eq_true rfl⟩ ⟨rfl, rfl⟩ hk849 hj850 (zc_place_14_113  S843 (n + d845) hn848 G_S843 R_S843 (by omega)) (fun v859 S858 hP => ?_)
  obtain ⟨G_S858, fS858, o860, o861, o862⟩ := hP
  have H_S858 : zz_Hc S858 := zz_Hc.fr (q := 0) fS858 rfl rfl G_S843 (by decide) rfl (fun b q h => h.elim) H_S843
  have R_S858 : zz_Hr S858 := o862
  have O_S858 : 1 ≤ S858 1079 36 := by rw [show S858 1079 36 = S843 1079 36 from zz_rc fS858 rfl rfl (fun h => h) rfl]; exact O_S843
  have e863 : S858 1000 7 = S 1000 7 := (zz_rc fS858 rfl rfl (fun h => h) (zz_rc fS843 rfl rfl (by first | decide | omega) rfl))
  have e864 : S858 1000 8 = S 1000 8 := (zz_rc fS858 rfl rfl (fun h => h) (zz_rc fS843 rfl rfl (by first | decide | omega) rfl))
  have e865 : S858 1079 36 = S 1079 36 := (zz_rc fS858 rfl rfl (fun h => h) (zz_rc fS843 rfl rfl (by first | decide | omega) rfl))
  have L_S858 := zn_Lpl (h := S858 1079 0) (b := v859) A_S o846 o861 (fun v h => zn_M.fr h fS843 rfl rfl (fun b q h => by have h0_ := zz_rf6 (z := (12 * (S 1000 7) + 0)) (by omega); omega) (by omega)) (fun v hV h => zn_C.out h hV (by omega) fS858 rfl rfl (fun b q h => h.elim)) (by omega) (by omega)
  have A_S858 : zn_A S858 := L_S858.1
  have l1_S858 := L_S858.2.1
  have l2_S858 := L_S858.2.2
  refine zz_istore [some (.ref 998), some (.ref 1000), some (.ref 1079), some (.ref 1121), some (zi x4), some (zi v844), some (zi v859)] zd_L_law_1123 (by decide) rfl ?_
  refine zz_goto zd_L_law_1125 ?_
  refine zz_iinc [some (.ref 998), some (.ref 1000), some (.ref 1079), some (.ref 1121), some (zi (x4 + 7)), some (zi v844), some (zi v859)] zd_L_law_1208 rfl rfl ?_
  refine zz_goto zd_L_law_1211 ?_
  refine zz_less (ls1 := [some (.ref 998), some (.ref 1000), some (.ref 1079), some (.ref 1121), some (zi (x4 + 7))]) ⟨rfl, ⟨rfl, ⟨rfl, ⟨rfl, ⟨rfl, trivial⟩⟩⟩⟩⟩ ?_
  have g866 := zz_G.r G_S 1070 1 0 1500 rfl rfl
  have e867 : S858 1070 1 = S 1070 1 := (zz_rc fS858 rfl rfl (fun h => h) (zz_rc fS843 rfl rfl (by first | decide | omega) rfl))
  have g868 := zz_G.r G_S 1079 28 0 1500 rfl rfl
  have e869 : S858 1079 28 = S 1079 28 := (zz_rc fS858 rfl rfl (fun h => h) (zz_rc fS843 rfl rfl (by first | decide | omega) rfl))
  have g870 := zz_G.r G_S 1031 6 2 8 rfl rfl
  have e871 : S858 1031 6 = S 1031 6 := (zz_rc fS858 rfl rfl (fun h => h) (zz_rc fS843 rfl rfl (by first | decide | omega) rfl))
  have g872 := zz_G.r G_S 1079 1 2 8 rfl rfl
  have e873 : S858 1079 1 = S 1079 1 := (zz_rc fS858 rfl rfl (fun h => h) (zz_rc fS843 rfl rfl (by first | decide | omega) rfl))
  exact ih (x4 + 7) S858 (n + d845) (k + zr_place_L.cells) (j + zr_place_L.slots) G_S858 H_S858 R_S858 O_S858 (by omega) (by omega) (fun u h1 h2 => ((zz_rc fS858 (zz_nc1 rfl) rfl (fun h => h) (zz_rc fS843 (zz_nc1 rfl) rfl (by have h0_ := zz_rf6 (z := (12 * (S 1000 7) + 0)) (by omega); omega) rfl)) : S858 1100 u = S 1100 u).trans (N_S u h1 h2)) (fun i h1 h2 => ((zz_rc fS858 (zz_nc1 rfl) rfl (fun h => h) (zz_rc fS843 (zz_nc1 rfl) rfl (by have h0_ := zz_rf6 (z := (12 * (S 1000 7) + 0)) (by omega); omega) rfl)) : S858 1071 i.toNat = S 1071 i.toNat).trans ((U_S i h1 (by omega)).trans ((zz_rc fS858 (zz_nc1 rfl) rfl (fun h => h) (zz_rc fS843 (zz_nc1 rfl) rfl (by have h0_ := zz_rf6 (z := (12 * (S 1000 7) + 0)) (by omega); omega) rfl)) : S858 1099 i.toNat = S 1099 i.toNat).symm)) A_S858 hn848 (by omega) (by show ((k + 1 : Nat) : Int) ≤ 200 + (x4 + 7); omega) (by show ((j + 6 : Nat) : Int) ≤ 30000 + 6 * (x4 + 7); omega) (by omega)
theorem zl_26 {g : mm_G} {l : Launch} (hfl : l.flags = flags0) (hlen : g.2.2.2 997 ≤ 3584) (N : Nat) (ih : ∀ (x4 : Int) (S : zz_S) (n k j : Nat), zz_G S → zz_Hc S → zz_Hr S → 1 ≤ S 1079 36 → S 1070 1 = S 1079 28 → S 1031 6 = S 1079 1 → (∀ w : Nat, 1 ≤ w → w ≤ 20 → S 1100 w = zt_cd (zt_nw.getD w [])) → (∀ i : Int, 0 ≤ i → i < S 1070 1 → S 1071 i.toNat = S 1099 i.toNat) → zn_A S → zz_end ≤ n → (0 ≤ x4 ∧ x4 ≤ 3590) → (k : Int) ≤ 200 + x4 → (j : Int) ≤ 30000 + 6 * x4 → (3600 - x4).toNat < N → zz_E g l zy_law_L room_1 (fun u => ∃ M1 n1, u = (.inl (some (zi 1)), M1, n1)) S n 23 [some (.ref 998), some (.ref 1000), some (.ref 1079), some (.ref 1121), some (zi x4)] [] k j) (x4 : Int) (S : zz_S) (n k j : Nat) (G_S : zz_G S) (H_S : zz_Hc S) (R_S : zz_Hr S) (O_S : 1 ≤ S 1079 36) (T0_S : S 1070 1 = S 1079 28) (T1_S : S 1031 6 = S 1079 1) (N_S : ∀ w : Nat, 1 ≤ w → w ≤ 20 → S 1100 w = zt_cd (zt_nw.getD w [])) (U_S : ∀ i : Int, 0 ≤ i → i < S 1070 1 → S 1071 i.toNat = S 1099 i.toNat) (A_S : zn_A S) (hn : zz_end ≤ n) (hx : 0 ≤ x4 ∧ x4 ≤ 3590) (hkk : (k : Int) ≤ 200 + x4) (hjj : (j : Int) ≤ 30000 + 6 * x4) (hR : (3600 - x4).toNat < N + 1) (hc1 : x4 ≤ zz_ln g - 7) : zz_E g l zy_law_L room_1 (fun u => ∃ M1 n1, u = (.inl (some (zi 1)), M1, n1)) S n 1128 [some (.ref 998), some (.ref 1000), some (.ref 1079), some (.ref 1121), some (zi x4)] [] k j := by
  have hln : 0 ≤ zz_ln g ∧ zz_ln g ≤ 3584 := ⟨Int.natCast_nonneg _, Int.ofNat_le.mpr hlen⟩
  have hk : k ≤ 601024 := by omega
  have hj : j ≤ 7293034 := by omega
  refine zz_aload_n (x := 1000) rfl zd_L_law_1128 ?_
  refine zz_aload_n (x := 998) rfl zd_L_law_1129 ?_
  refine zz_iload (x := x4) rfl zd_L_law_1130 ?_
  refine zz_iconst zd_L_law_1132 ?_
  refine zz_iadd zd_L_law_1133 ?_
  refine zz_sld (by omega) zd_L_law_1134 (by omega) ?_
  have g875 := zz_sc_r g (x4 + 1).toNat
  refine zz_aload_n (x := 998) rfl zd_L_law_1135 ?_
  refine zz_iload (x := x4) rfl zd_L_law_1136 ?_
  refine zz_iconst zd_L_law_1138 ?_
  refine zz_iadd zd_L_law_1139 ?_
  refine zz_sld (by omega) zd_L_law_1140 (by omega) ?_
  have g876 := zz_sc_r g (x4 + 2).toNat
  refine zz_aload_n (x := 1121) rfl zd_L_law_1141 ?_
  refine zz_callHW (rz := zr_under_L) [.ref 1000, zi (zz_sc g (x4 + 1).toNat), zi (zz_sc g (x4 + 2).toNat), .ref 1121] zd_L_law_1142 zhl_under_L rfl rfl ⟨Nat.le_of_ble_eq_true rfl, Nat.le_of_ble_eq_true rfl⟩ (by show k + 2 ≤ 601024; omega) (by show j + 12 ≤ 7293034; omega) (zc_under_L (zz_sc g (x4 + 1).toNat) (zz_sc g (x4 + 2).toNat) S (n) hn hfl G_S (by omega) (by omega)) (fun v878 S877 d879 hd879 hP => ?_)
  obtain ⟨G_S877, fS877, rv878⟩ := hP
  have hn880 : zz_end ≤ n + d879 := by omega
  have hk881 : (k + zr_under_L.cells) ≤ 601024 := by show k + 2 ≤ 601024; omega
  have hj882 : (j + zr_under_L.slots) ≤ 7293034 := by show j + 12 ≤ 7293034; omega
  have H_S877 : zz_Hc S877 := zz_Hc.fr (q := 0) fS877 rfl rfl G_S (by decide) rfl (fun b q h => h.elim) H_S
  have R_S877 : zz_Hr S877 := zz_Hr.fr fS877 rfl rfl (fun b q h => h.elim) R_S
  have O_S877 : 1 ≤ S877 1079 36 := by rw [show S877 1079 36 = S 1079 36 from zz_rc fS877 rfl rfl (fun h => h) rfl]; exact O_S
  have g883 := zz_G.r G_S 1000 7 0 1 rfl rfl
  have e884 : S877 1000 7 = S 1000 7 := (zz_rc fS877 rfl rfl (fun h => h) rfl)
  have g885 := zz_G.r G_S 1000 8 0 1 rfl rfl
  have e886 : S877 1000 8 = S 1000 8 := (zz_rc fS877 rfl rfl (fun h => h) rfl)
  have g887 := zz_G.r G_S 1079 36 0 11 rfl rfl
  have e888 : S877 1079 36 = S 1079 36 := (zz_rc fS877 rfl rfl (fun h => h) rfl)
  have A_S877 : zn_A S877 := zn_A.fr A_S fS877 rfl rfl (fun b q h => h.elim) rfl rfl (by omega) (by omega) (by omega) (by omega)
  refine zz_istore [some (.ref 998), some (.ref 1000), some (.ref 1079), some (.ref 1121), some (zi x4), some (zi v878)] zd_L_law_1145 (by decide) rfl ?_
  refine zz_aload_n (x := 1079) rfl zd_L_law_1147 ?_
  refine zz_aload_n (x := 998) rfl zd_L_law_1148 ?_
  refine zz_iload (x := x4) rfl zd_L_law_1149 ?_
  refine zz_iconst zd_L_law_1151 ?_
  refine zz_iadd zd_L_law_1152 ?_
  refine zz_sld (by omega) zd_L_law_1153 (by omega) ?_
  refine zz_aload_n (x := 998) rfl zd_L_law_1154 ?_
  refine zz_iload (x := x4) rfl zd_L_law_1155 ?_
  refine zz_iconst zd_L_law_1157 ?_
  refine zz_iadd zd_L_law_1158 ?_
  refine zz_sld (by omega) zd_L_law_1159 (by omega) ?_
  refine zz_callVI [zi (zz_sc g (x4 + 1).toNat), zi (zz_sc g (x4 + 2).toNat)] zd_L_law_1160 zk_TFLaw_202 zT_1079 (zz_ltn hn880 rfl) rfl rfl ⟨Nat.le_of_ble_eq_true rfl, Nat.le_of_ble_eq_true rfl⟩ ⟨rfl, rfl⟩ hk881 hj882 (zc_under_14_117 (zz_sc g (x4 + 1).toNat) (zz_sc g (x4 + 2).toNat) S877 (n + d879) hn880 G_S877 (by omega) (by omega)) (fun v890 S889 hP => ?_)
  obtain ⟨G_S889, fS889, o891⟩ := hP
  have H_S889 : zz_Hc S889 := zz_Hc.fr (q := 0) fS889 rfl rfl G_S877 (by decide) rfl (fun b q h => h.elim) H_S877
  have R_S889 : zz_Hr S889 := zz_Hr.fr fS889 rfl rfl (fun b q h => h.elim) R_S877
  have O_S889 : 1 ≤ S889 1079 36 := by rw [show S889 1079 36 = S877 1079 36 from zz_rc fS889 rfl rfl (fun h => h) rfl]; exact O_S877
  have e892 : S889 1000 7 = S 1000 7 := (zz_rc fS889 rfl rfl (fun h => h) (zz_rc fS877 rfl rfl (fun h => h) rfl))
  have e893 : S889 1000 8 = S 1000 8 := (zz_rc fS889 rfl rfl (fun h => h) (zz_rc fS877 rfl rfl (fun h => h) rfl))
  have e894 : S889 1079 36 = S 1079 36 := (zz_rc fS889 rfl rfl (fun h => h) (zz_rc fS877 rfl rfl (fun h => h) rfl))
  have A_S889 : zn_A S889 := zn_A.fr A_S877 fS889 rfl rfl (fun b q h => h.elim) rfl rfl (by omega) (by omega) (by omega) (by omega)
  refine zz_istore [some (.ref 998), some (.ref 1000), some (.ref 1079), some (.ref 1121), some (zi x4), some (zi v878), some (zi v890)] zd_L_law_1163 (by decide) rfl ?_
  refine zz_goto zd_L_law_1165 ?_
  refine zz_iinc [some (.ref 998), some (.ref 1000), some (.ref 1079), some (.ref 1121), some (zi (x4 + 7)), some (zi v878), some (zi v890)] zd_L_law_1208 rfl rfl ?_
  refine zz_goto zd_L_law_1211 ?_
  refine zz_less (ls1 := [some (.ref 998), some (.ref 1000), some (.ref 1079), some (.ref 1121), some (zi (x4 + 7))]) ⟨rfl, ⟨rfl, ⟨rfl, ⟨rfl, ⟨rfl, trivial⟩⟩⟩⟩⟩ ?_
  have g895 := zz_G.r G_S 1070 1 0 1500 rfl rfl
  have e896 : S889 1070 1 = S 1070 1 := (zz_rc fS889 rfl rfl (fun h => h) (zz_rc fS877 rfl rfl (fun h => h) rfl))
  have g897 := zz_G.r G_S 1079 28 0 1500 rfl rfl
  have e898 : S889 1079 28 = S 1079 28 := (zz_rc fS889 rfl rfl (fun h => h) (zz_rc fS877 rfl rfl (fun h => h) rfl))
  have g899 := zz_G.r G_S 1031 6 2 8 rfl rfl
  have e900 : S889 1031 6 = S 1031 6 := (zz_rc fS889 rfl rfl (fun h => h) (zz_rc fS877 rfl rfl (fun h => h) rfl))
  have g901 := zz_G.r G_S 1079 1 2 8 rfl rfl
  have e902 : S889 1079 1 = S 1079 1 := (zz_rc fS889 rfl rfl (fun h => h) (zz_rc fS877 rfl rfl (fun h => h) rfl))
  exact ih (x4 + 7) S889 (n + d879) (k + zr_under_L.cells) (j + zr_under_L.slots) G_S889 H_S889 R_S889 O_S889 (by omega) (by omega) (fun u h1 h2 => ((zz_rc fS889 (zz_nc1 rfl) rfl (fun h => h) (zz_rc fS877 (zz_nc1 rfl) rfl (fun h => h) rfl)) : S889 1100 u = S 1100 u).trans (N_S u h1 h2)) (fun i h1 h2 => ((zz_rc fS889 (zz_nc1 rfl) rfl (fun h => h) (zz_rc fS877 (zz_nc1 rfl) rfl (fun h => h) rfl)) : S889 1071 i.toNat = S 1071 i.toNat).trans ((U_S i h1 (by omega)).trans ((zz_rc fS889 (zz_nc1 rfl) rfl (fun h => h) (zz_rc fS877 (zz_nc1 rfl) rfl (fun h => h) rfl)) : S889 1099 i.toNat = S 1099 i.toNat).symm)) A_S889 hn880 (by omega) (by show ((k + 2 : Nat) : Int) ≤ 200 + (x4 + 7); omega) (by show ((j + 12 : Nat) : Int) ≤ 30000 + 6 * (x4 + 7); omega) (by omega)
theorem zl_27 {g : mm_G} {l : Launch} (hfl : l.flags = flags0) (hlen : g.2.2.2 997 ≤ 3584) (N : Nat) (ih : ∀ (x4 : Int) (S : zz_S) (n k j : Nat), zz_G S → zz_Hc S → zz_Hr S → 1 ≤ S 1079 36 → S 1070 1 = S 1079 28 → S 1031 6 = S 1079 1 → (∀ w : Nat, 1 ≤ w → w ≤ 20 → S 1100 w = zt_cd (zt_nw.getD w [])) → (∀ i : Int, 0 ≤ i → i < S 1070 1 → S 1071 i.toNat = S 1099 i.toNat) → zn_A S → zz_end ≤ n → (0 ≤ x4 ∧ x4 ≤ 3590) → (k : Int) ≤ 200 + x4 → (j : Int) ≤ 30000 + 6 * x4 → (3600 - x4).toNat < N → zz_E g l zy_law_L room_1 (fun u => ∃ M1 n1, u = (.inl (some (zi 1)), M1, n1)) S n 23 [some (.ref 998), some (.ref 1000), some (.ref 1079), some (.ref 1121), some (zi x4)] [] k j) (x4 : Int) (S : zz_S) (n k j : Nat) (G_S : zz_G S) (H_S : zz_Hc S) (R_S : zz_Hr S) (O_S : 1 ≤ S 1079 36) (T0_S : S 1070 1 = S 1079 28) (T1_S : S 1031 6 = S 1079 1) (N_S : ∀ w : Nat, 1 ≤ w → w ≤ 20 → S 1100 w = zt_cd (zt_nw.getD w [])) (U_S : ∀ i : Int, 0 ≤ i → i < S 1070 1 → S 1071 i.toNat = S 1099 i.toNat) (A_S : zn_A S) (hn : zz_end ≤ n) (hx : 0 ≤ x4 ∧ x4 ≤ 3590) (hkk : (k : Int) ≤ 200 + x4) (hjj : (j : Int) ≤ 30000 + 6 * x4) (hR : (3600 - x4).toNat < N + 1) (hc1 : x4 ≤ zz_ln g - 7) : zz_E g l zy_law_L room_1 (fun u => ∃ M1 n1, u = (.inl (some (zi 1)), M1, n1)) S n 1168 [some (.ref 998), some (.ref 1000), some (.ref 1079), some (.ref 1121), some (zi x4)] [] k j := by
  have hln : 0 ≤ zz_ln g ∧ zz_ln g ≤ 3584 := ⟨Int.natCast_nonneg _, Int.ofNat_le.mpr hlen⟩
  have hk : k ≤ 601024 := by omega
  have hj : j ≤ 7293034 := by omega
  refine zz_aload_n (x := 1000) rfl zd_L_law_1168 ?_
  refine zz_aload_n (x := 998) rfl zd_L_law_1169 ?_
  refine zz_iload (x := x4) rfl zd_L_law_1170 ?_
  refine zz_iconst zd_L_law_1172 ?_
  refine zz_iadd zd_L_law_1173 ?_
  refine zz_sld (by omega) zd_L_law_1174 (by omega) ?_
  have g904 := zz_sc_r g (x4 + 1).toNat
  refine zz_aload_n (x := 998) rfl zd_L_law_1175 ?_
  refine zz_iload (x := x4) rfl zd_L_law_1176 ?_
  refine zz_iconst zd_L_law_1178 ?_
  refine zz_iadd zd_L_law_1179 ?_
  refine zz_sld (by omega) zd_L_law_1180 (by omega) ?_
  have g905 := zz_sc_r g (x4 + 2).toNat
  refine zz_aload_n (x := 1121) rfl zd_L_law_1181 ?_
  refine zz_callHW (rz := zr_waits_L) [.ref 1000, zi (zz_sc g (x4 + 1).toNat), zi (zz_sc g (x4 + 2).toNat), .ref 1121] zd_L_law_1182 zhl_waits_L rfl rfl ⟨Nat.le_of_ble_eq_true rfl, Nat.le_of_ble_eq_true rfl⟩ (by show k + 2 ≤ 601024; omega) (by show j + 12 ≤ 7293034; omega) (zc_waits_L (zz_sc g (x4 + 1).toNat) (zz_sc g (x4 + 2).toNat) S (n) hn hfl G_S (by omega) (by omega)) (fun v907 S906 d908 hd908 hP => ?_)
  obtain ⟨G_S906, fS906, rv907⟩ := hP
  have hn909 : zz_end ≤ n + d908 := by omega
  have hk910 : (k + zr_waits_L.cells) ≤ 601024 := by show k + 2 ≤ 601024; omega
  have hj911 : (j + zr_waits_L.slots) ≤ 7293034 := by show j + 12 ≤ 7293034; omega
  have H_S906 : zz_Hc S906 := zz_Hc.fr (q := 0) fS906 rfl rfl G_S (by decide) rfl (fun b q h => h.elim) H_S
  have R_S906 : zz_Hr S906 := zz_Hr.fr fS906 rfl rfl (fun b q h => h.elim) R_S
  have O_S906 : 1 ≤ S906 1079 36 := by rw [show S906 1079 36 = S 1079 36 from zz_rc fS906 rfl rfl (fun h => h) rfl]; exact O_S
  have g912 := zz_G.r G_S 1000 7 0 1 rfl rfl
  have e913 : S906 1000 7 = S 1000 7 := (zz_rc fS906 rfl rfl (fun h => h) rfl)
  have g914 := zz_G.r G_S 1000 8 0 1 rfl rfl
  have e915 : S906 1000 8 = S 1000 8 := (zz_rc fS906 rfl rfl (fun h => h) rfl)
  have g916 := zz_G.r G_S 1079 36 0 11 rfl rfl
  have e917 : S906 1079 36 = S 1079 36 := (zz_rc fS906 rfl rfl (fun h => h) rfl)
  have A_S906 : zn_A S906 := zn_A.fr A_S fS906 rfl rfl (fun b q h => h.elim) rfl rfl (by omega) (by omega) (by omega) (by omega)
  refine zz_istore [some (.ref 998), some (.ref 1000), some (.ref 1079), some (.ref 1121), some (zi x4), some (zi v907)] zd_L_law_1185 (by decide) rfl ?_
  refine zz_aload_n (x := 1079) rfl zd_L_law_1187 ?_
  refine zz_aload_n (x := 998) rfl zd_L_law_1188 ?_
  refine zz_iload (x := x4) rfl zd_L_law_1189 ?_
  refine zz_iconst zd_L_law_1191 ?_
  refine zz_iadd zd_L_law_1192 ?_
  refine zz_sld (by omega) zd_L_law_1193 (by omega) ?_
  refine zz_aload_n (x := 998) rfl zd_L_law_1194 ?_
  refine zz_iload (x := x4) rfl zd_L_law_1195 ?_
  refine zz_iconst zd_L_law_1197 ?_
  refine zz_iadd zd_L_law_1198 ?_
  refine zz_sld (by omega) zd_L_law_1199 (by omega) ?_
  refine zz_callVI [zi (zz_sc g (x4 + 1).toNat), zi (zz_sc g (x4 + 2).toNat)] zd_L_law_1200 zk_TFLaw_205 zT_1079 (zz_ltn hn909 rfl) rfl rfl ⟨Nat.le_of_ble_eq_true rfl, Nat.le_of_ble_eq_true rfl⟩ ⟨rfl, rfl⟩ hk910 hj911 (zc_waits_14_119 (zz_sc g (x4 + 1).toNat) (zz_sc g (x4 + 2).toNat) S906 (n + d908) hn909 G_S906 (by omega) (by omega)) (fun v919 S918 hP => ?_)
  obtain ⟨G_S918, fS918, o920⟩ := hP
  have H_S918 : zz_Hc S918 := zz_Hc.fr (q := 0) fS918 rfl rfl G_S906 (by decide) rfl (fun b q h => h.elim) H_S906
  have R_S918 : zz_Hr S918 := zz_Hr.fr fS918 rfl rfl (fun b q h => h.elim) R_S906
  have O_S918 : 1 ≤ S918 1079 36 := by rw [show S918 1079 36 = S906 1079 36 from zz_rc fS918 rfl rfl (fun h => h) rfl]; exact O_S906
  have e921 : S918 1000 7 = S 1000 7 := (zz_rc fS918 rfl rfl (fun h => h) (zz_rc fS906 rfl rfl (fun h => h) rfl))
  have e922 : S918 1000 8 = S 1000 8 := (zz_rc fS918 rfl rfl (fun h => h) (zz_rc fS906 rfl rfl (fun h => h) rfl))
  have e923 : S918 1079 36 = S 1079 36 := (zz_rc fS918 rfl rfl (fun h => h) (zz_rc fS906 rfl rfl (fun h => h) rfl))
  have A_S918 : zn_A S918 := zn_A.fr A_S906 fS918 rfl rfl (fun b q h => h.elim) rfl rfl (by omega) (by omega) (by omega) (by omega)
  refine zz_istore [some (.ref 998), some (.ref 1000), some (.ref 1079), some (.ref 1121), some (zi x4), some (zi v907), some (zi v919)] zd_L_law_1203 (by decide) rfl ?_
  refine zz_goto zd_L_law_1205 ?_
  refine zz_iinc [some (.ref 998), some (.ref 1000), some (.ref 1079), some (.ref 1121), some (zi (x4 + 7)), some (zi v907), some (zi v919)] zd_L_law_1208 rfl rfl ?_
  refine zz_goto zd_L_law_1211 ?_
  refine zz_less (ls1 := [some (.ref 998), some (.ref 1000), some (.ref 1079), some (.ref 1121), some (zi (x4 + 7))]) ⟨rfl, ⟨rfl, ⟨rfl, ⟨rfl, ⟨rfl, trivial⟩⟩⟩⟩⟩ ?_
  have g924 := zz_G.r G_S 1070 1 0 1500 rfl rfl
  have e925 : S918 1070 1 = S 1070 1 := (zz_rc fS918 rfl rfl (fun h => h) (zz_rc fS906 rfl rfl (fun h => h) rfl))
  have g926 := zz_G.r G_S 1079 28 0 1500 rfl rfl
  have e927 : S918 1079 28 = S 1079 28 := (zz_rc fS918 rfl rfl (fun h => h) (zz_rc fS906 rfl rfl (fun h => h) rfl))
  have g928 := zz_G.r G_S 1031 6 2 8 rfl rfl
  have e929 : S918 1031 6 = S 1031 6 := (zz_rc fS918 rfl rfl (fun h => h) (zz_rc fS906 rfl rfl (fun h => h) rfl))
  have g930 := zz_G.r G_S 1079 1 2 8 rfl rfl
  have e931 : S918 1079 1 = S 1079 1 := (zz_rc fS918 rfl rfl (fun h => h) (zz_rc fS906 rfl rfl (fun h => h) rfl))
  exact ih (x4 + 7) S918 (n + d908) (k + zr_waits_L.cells) (j + zr_waits_L.slots) G_S918 H_S918 R_S918 O_S918 (by omega) (by omega) (fun u h1 h2 => ((zz_rc fS918 (zz_nc1 rfl) rfl (fun h => h) (zz_rc fS906 (zz_nc1 rfl) rfl (fun h => h) rfl)) : S918 1100 u = S 1100 u).trans (N_S u h1 h2)) (fun i h1 h2 => ((zz_rc fS918 (zz_nc1 rfl) rfl (fun h => h) (zz_rc fS906 (zz_nc1 rfl) rfl (fun h => h) rfl)) : S918 1071 i.toNat = S 1071 i.toNat).trans ((U_S i h1 (by omega)).trans ((zz_rc fS918 (zz_nc1 rfl) rfl (fun h => h) (zz_rc fS906 (zz_nc1 rfl) rfl (fun h => h) rfl)) : S918 1099 i.toNat = S 1099 i.toNat).symm)) A_S918 hn909 (by omega) (by show ((k + 2 : Nat) : Int) ≤ 200 + (x4 + 7); omega) (by show ((j + 12 : Nat) : Int) ≤ 30000 + 6 * (x4 + 7); omega) (by omega)
theorem zi_law_L {g : mm_G} {l : Launch} (hfl : l.flags = flags0) (hlen : g.2.2.2 997 ≤ 3584) : ∀ N : Nat, ∀ (x4 : Int) (S : zz_S) (n k j : Nat), zz_G S → zz_Hc S → zz_Hr S → 1 ≤ S 1079 36 → S 1070 1 = S 1079 28 → S 1031 6 = S 1079 1 → (∀ w : Nat, 1 ≤ w → w ≤ 20 → S 1100 w = zt_cd (zt_nw.getD w [])) → (∀ i : Int, 0 ≤ i → i < S 1070 1 → S 1071 i.toNat = S 1099 i.toNat) → zn_A S → zz_end ≤ n → (0 ≤ x4 ∧ x4 ≤ 3590) → (k : Int) ≤ 200 + x4 → (j : Int) ≤ 30000 + 6 * x4 → (3600 - x4).toNat < N → zz_E g l zy_law_L room_1 (fun u => ∃ M1 n1, u = (.inl (some (zi 1)), M1, n1)) S n 23 [some (.ref 998), some (.ref 1000), some (.ref 1079), some (.ref 1121), some (zi x4)] [] k j := by
  intro N
  induction N with
  | zero => exact fun x4 S n k j _ _ _ _ _ _ _ _ _ _ _ _ _ h => absurd h (Nat.not_lt_zero _)
  | succ N ih =>
    intro x4 S n k j G_S H_S R_S O_S T0_S T1_S N_S U_S A_S hn hx hkk hjj hR
    have hln : 0 ≤ zz_ln g ∧ zz_ln g ≤ 3584 := ⟨Int.natCast_nonneg _, Int.ofNat_le.mpr hlen⟩
    have hk : k ≤ 601024 := by omega
    have hj : j ≤ 7293034 := by omega
    refine zz_iload (x := x4) rfl zd_L_law_23 ?_
    refine zz_aload_n (x := 998) rfl zd_L_law_25 ?_
    refine zz_sln zd_L_law_26 ?_
    refine zz_bipush (by decide) zd_L_law_27 ?_
    refine zz_isub zd_L_law_29 ?_
    refine zz_icmp_gt (by omega) (by omega) zd_L_law_30 (fun c1 => ?_) (fun hc1 => ?_)
    · refine zz_iconst zd_L_law_1214 ?_
      exact zz_zret zd_L_law_1215 rfl (by decide) hk hj ⟨_, _, rfl⟩
    · refine zz_aload_n (x := 998) rfl zd_L_law_33 ?_
      refine zz_iload (x := x4) rfl zd_L_law_34 ?_
      refine zz_sld (by omega) zd_L_law_36 (by omega) ?_
      have g2 := zz_sc_r g x4.toNat
      refine zz_bipush (by decide) zd_L_law_37 ?_
      refine zz_iand (by omega) (by omega) zd_L_law_39 (fun v3 hv3 av3 bv3 ev3 => ?_)
      by_cases c4 : v3 = 0
      · refine zz_swIn 0 128 c4 (by decide) zd_L_law_40 rfl rfl ?_
        exact zl_0 hfl hlen N ih x4 S n k j G_S H_S R_S O_S T0_S T1_S N_S U_S A_S hn hx hkk hjj hR hc1
      by_cases c42 : v3 = 1
      · refine zz_swIn 1 153 c42 (by decide) zd_L_law_40 rfl rfl ?_
        exact zl_1 hfl hlen N ih x4 S n k j G_S H_S R_S O_S T0_S T1_S N_S U_S A_S hn hx hkk hjj hR hc1
      by_cases c72 : v3 = 2
      · refine zz_swIn 2 190 c72 (by decide) zd_L_law_40 rfl rfl ?_
        exact zl_2 hfl hlen N ih x4 S n k j G_S H_S R_S O_S T0_S T1_S N_S U_S A_S hn hx hkk hjj hR hc1
      by_cases c101 : v3 = 3
      · refine zz_swIn 3 230 c101 (by decide) zd_L_law_40 rfl rfl ?_
        exact zl_3 hfl hlen N ih x4 S n k j G_S H_S R_S O_S T0_S T1_S N_S U_S A_S hn hx hkk hjj hR hc1
      by_cases c138 : v3 = 4
      · refine zz_swIn 4 299 c138 (by decide) zd_L_law_40 rfl rfl ?_
        exact zl_4 hfl hlen N ih x4 S n k j G_S H_S R_S O_S T0_S T1_S N_S U_S A_S hn hx hkk hjj hR hc1
      by_cases c165 : v3 = 5
      · refine zz_swIn 5 324 c165 (by decide) zd_L_law_40 rfl rfl ?_
        exact zl_5 hfl hlen N ih x4 S n k j G_S H_S R_S O_S T0_S T1_S N_S U_S A_S hn hx hkk hjj hR hc1
      by_cases c193 : v3 = 6
      · refine zz_swIn 6 352 c193 (by decide) zd_L_law_40 rfl rfl ?_
        exact zl_6 hfl hlen N ih x4 S n k j G_S H_S R_S O_S T0_S T1_S N_S U_S A_S hn hx hkk hjj hR hc1
      by_cases c214 : v3 = 7
      · refine zz_swIn 7 365 c214 (by decide) zd_L_law_40 rfl rfl ?_
        exact zl_7 hfl hlen N ih x4 S n k j G_S H_S R_S O_S T0_S T1_S N_S U_S A_S hn hx hkk hjj hR hc1
      by_cases c254 : v3 = 8
      · refine zz_swIn 8 437 c254 (by decide) zd_L_law_40 rfl rfl ?_
        exact zl_8 hfl hlen N ih x4 S n k j G_S H_S R_S O_S T0_S T1_S N_S U_S A_S hn hx hkk hjj hR hc1
      by_cases c321 : v3 = 9
      · refine zz_swIn 9 494 c321 (by decide) zd_L_law_40 rfl rfl ?_
        exact zl_9 hfl hlen N ih x4 S n k j G_S H_S R_S O_S T0_S T1_S N_S U_S A_S hn hx hkk hjj hR hc1
      by_cases c354 : v3 = 10
      · refine zz_swIn 10 522 c354 (by decide) zd_L_law_40 rfl rfl ?_
        exact zl_10 hfl hlen N ih x4 S n k j G_S H_S R_S O_S T0_S T1_S N_S U_S A_S hn hx hkk hjj hR hc1
      by_cases c384 : v3 = 11
      · refine zz_swIn 11 547 c384 (by decide) zd_L_law_40 rfl rfl ?_
        exact zl_11 hfl hlen N ih x4 S n k j G_S H_S R_S O_S T0_S T1_S N_S U_S A_S hn hx hkk hjj hR hc1
      by_cases c413 : v3 = 12
      · refine zz_swIn 12 560 c413 (by decide) zd_L_law_40 rfl rfl ?_
        exact zl_12 hfl hlen N ih x4 S n k j G_S H_S R_S O_S T0_S T1_S N_S U_S A_S hn hx hkk hjj hR hc1
      by_cases c442 : v3 = 13
      · refine zz_swIn 13 600 c442 (by decide) zd_L_law_40 rfl rfl ?_
        exact zl_13 hfl hlen N ih x4 S n k j G_S H_S R_S O_S T0_S T1_S N_S U_S A_S hn hx hkk hjj hR hc1
      by_cases c466 : v3 = 14
      · refine zz_swIn 14 613 c466 (by decide) zd_L_law_40 rfl rfl ?_
        exact zl_14 hfl hlen N ih x4 S n k j G_S H_S R_S O_S T0_S T1_S N_S U_S A_S hn hx hkk hjj hR hc1
      by_cases c494 : v3 = 15
      · refine zz_swIn 15 641 c494 (by decide) zd_L_law_40 rfl rfl ?_
        exact zl_15 hfl hlen N ih x4 S n k j G_S H_S R_S O_S T0_S T1_S N_S U_S A_S hn hx hkk hjj hR hc1
      by_cases c523 : v3 = 16
      · refine zz_swIn 16 681 c523 (by decide) zd_L_law_40 rfl rfl ?_
        exact zl_16 hfl hlen N ih x4 S n k j G_S H_S R_S O_S T0_S T1_S N_S U_S A_S hn hx hkk hjj hR hc1
      by_cases c565 : v3 = 17
      · refine zz_swIn 17 730 c565 (by decide) zd_L_law_40 rfl rfl ?_
        exact zl_17 hfl hlen N ih x4 S n k j G_S H_S R_S O_S T0_S T1_S N_S U_S A_S hn hx hkk hjj hR hc1
      by_cases c603 : v3 = 18
      · refine zz_swIn 18 820 c603 (by decide) zd_L_law_40 rfl rfl ?_
        exact zl_18 hfl hlen N ih x4 S n k j G_S H_S R_S O_S T0_S T1_S N_S U_S A_S hn hx hkk hjj hR hc1
      by_cases c638 : v3 = 19
      · refine zz_swIn 19 872 c638 (by decide) zd_L_law_40 rfl rfl ?_
        exact zl_19 hfl hlen N ih x4 S n k j G_S H_S R_S O_S T0_S T1_S N_S U_S A_S hn hx hkk hjj hR hc1
      by_cases c673 : v3 = 20
      · refine zz_swIn 20 924 c673 (by decide) zd_L_law_40 rfl rfl ?_
        exact zl_20 hfl hlen N ih x4 S n k j G_S H_S R_S O_S T0_S T1_S N_S U_S A_S hn hx hkk hjj hR hc1
      by_cases c704 : v3 = 21
      · refine zz_swIn 21 964 c704 (by decide) zd_L_law_40 rfl rfl ?_
        exact zl_21 hfl hlen N ih x4 S n k j G_S H_S R_S O_S T0_S T1_S N_S U_S A_S hn hx hkk hjj hR hc1
      by_cases c732 : v3 = 22
      · refine zz_swIn 22 980 c732 (by decide) zd_L_law_40 rfl rfl ?_
        exact zl_22 hfl hlen N ih x4 S n k j G_S H_S R_S O_S T0_S T1_S N_S U_S A_S hn hx hkk hjj hR hc1
      by_cases c755 : v3 = 23
      · refine zz_swIn 23 991 c755 (by decide) zd_L_law_40 rfl rfl ?_
        exact zl_23 hfl hlen N ih x4 S n k j G_S H_S R_S O_S T0_S T1_S N_S U_S A_S hn hx hkk hjj hR hc1
      by_cases c793 : v3 = 24
      · refine zz_swIn 24 1004 c793 (by decide) zd_L_law_40 rfl rfl ?_
        exact zl_24 hfl hlen N ih x4 S n k j G_S H_S R_S O_S T0_S T1_S N_S U_S A_S hn hx hkk hjj hR hc1
      by_cases c842 : v3 = 25
      · refine zz_swIn 25 1072 c842 (by decide) zd_L_law_40 rfl rfl ?_
        exact zl_25 hfl hlen N ih x4 S n k j G_S H_S R_S O_S T0_S T1_S N_S U_S A_S hn hx hkk hjj hR hc1
      by_cases c874 : v3 = 26
      · refine zz_swIn 26 1088 c874 (by decide) zd_L_law_40 rfl rfl ?_
        exact zl_26 hfl hlen N ih x4 S n k j G_S H_S R_S O_S T0_S T1_S N_S U_S A_S hn hx hkk hjj hR hc1
      by_cases c903 : v3 = 27
      · refine zz_swIn 27 1128 c903 (by decide) zd_L_law_40 rfl rfl ?_
        exact zl_27 hfl hlen N ih x4 S n k j G_S H_S R_S O_S T0_S T1_S N_S U_S A_S hn hx hkk hjj hR hc1
      refine zz_swOut (by omega) (by omega) zd_L_law_40 rfl ?_
      refine zz_iinc [some (.ref 998), some (.ref 1000), some (.ref 1079), some (.ref 1121), some (zi (x4 + 7))] zd_L_law_1208 rfl rfl ?_
      refine zz_goto zd_L_law_1211 ?_
      refine zz_less (ls1 := [some (.ref 998), some (.ref 1000), some (.ref 1079), some (.ref 1121), some (zi (x4 + 7))]) ⟨rfl, ⟨rfl, ⟨rfl, ⟨rfl, ⟨rfl, trivial⟩⟩⟩⟩⟩ ?_
      have g932 := zz_G.r G_S 1070 1 0 1500 rfl rfl
      have g933 := zz_G.r G_S 1079 28 0 1500 rfl rfl
      have g934 := zz_G.r G_S 1031 6 2 8 rfl rfl
      have g935 := zz_G.r G_S 1079 1 2 8 rfl rfl
      exact ih (x4 + 7) S (n) k j G_S H_S R_S O_S (by omega) (by omega) (fun u h1 h2 => (rfl : S 1100 u = S 1100 u).trans (N_S u h1 h2)) (fun i h1 h2 => (rfl : S 1071 i.toNat = S 1071 i.toNat).trans ((U_S i h1 (by omega)).trans (rfl : S 1099 i.toNat = S 1099 i.toNat).symm)) A_S hn (by omega) (by show ((k : Nat) : Int) ≤ 200 + (x4 + 7); omega) (by show ((j : Nat) : Int) ≤ 30000 + 6 * (x4 + 7); omega) (by omega)
theorem zn_TFLaw_8 : mm_Nl "TensorForgeLaw" 8 0 12 [.null, .null, .null, .null, .null, .null, .null, .null, .null, .null, .null, .int 0] := ⟨R_TF, F_TF, t_TF, rfl, i_TF, t_TF_ok, mm_tb_1 28 (by decide +kernel) rfl, mm_tb_1 29 (by decide +kernel) rfl, mm_tb_1 1 (by decide +kernel) rfl, fun q hq => by rcases (by omega : q = 0 ∨ q = 1 ∨ q = 2 ∨ q = 3 ∨ q = 4 ∨ q = 5 ∨ q = 6 ∨ q = 7 ∨ q = 8 ∨ q = 9 ∨ q = 10 ∨ q = 11) with rfl | rfl | rfl | rfl | rfl | rfl | rfl | rfl | rfl | rfl | rfl | rfl <;> rfl, fun _ => rfl⟩
theorem zk_TFLaw_94 : mm_Il "TensorForgeLaw" 94 0 zy_init_1_1 := ⟨zyw_init_1_1, mm_tb_1 30 (by decide +kernel) rfl, mm_tb_1 31 (by decide +kernel) rfl, rfl, rfl⟩
theorem zn_TFLaw_95 : mm_Nl "TensorForgeLaw" 95 11 69 [.int 0, .int 0, .null, .null, .null, .null, .null, .int 0, .null, .null, .int 0, .null, .null, .null, .int 0, .int 0, .int 0, .null, .null, .int 0, .null, .null, .null, .null, .null, .null, .null, .null, .int 0, .null, .int 0, .int 0, .int 0, .int 0, .int 0, .null, .int 0, .null, .null, .null, .null, .null, .null, .null, .null, .null, .null, .null, .null, .null, .int 0, .int 0, .int 0, .int 0, .int 0, .int 0, .int 0, .int 0, .null, .null, .int 0, .long 0, .null, .null, .long 0, .int 0, .int 0, .null, .null] := ⟨R_Md, F_Md, t_Md, rfl, i_Md, t_Md_ok, mm_tb_1 1582 (by decide +kernel) rfl, mm_tb_1 1583 (by decide +kernel) rfl, mm_tb_1 12 (by decide +kernel) rfl, fun q hq => by rcases (by omega : q = 0 ∨ q = 1 ∨ q = 2 ∨ q = 3 ∨ q = 4 ∨ q = 5 ∨ q = 6 ∨ q = 7 ∨ q = 8 ∨ q = 9 ∨ q = 10 ∨ q = 11 ∨ q = 12 ∨ q = 13 ∨ q = 14 ∨ q = 15 ∨ q = 16 ∨ q = 17 ∨ q = 18 ∨ q = 19 ∨ q = 20 ∨ q = 21 ∨ q = 22 ∨ q = 23 ∨ q = 24 ∨ q = 25 ∨ q = 26 ∨ q = 27 ∨ q = 28 ∨ q = 29 ∨ q = 30 ∨ q = 31 ∨ q = 32 ∨ q = 33 ∨ q = 34 ∨ q = 35 ∨ q = 36 ∨ q = 37 ∨ q = 38 ∨ q = 39 ∨ q = 40 ∨ q = 41 ∨ q = 42 ∨ q = 43 ∨ q = 44 ∨ q = 45 ∨ q = 46 ∨ q = 47 ∨ q = 48 ∨ q = 49 ∨ q = 50 ∨ q = 51 ∨ q = 52 ∨ q = 53 ∨ q = 54 ∨ q = 55 ∨ q = 56 ∨ q = 57 ∨ q = 58 ∨ q = 59 ∨ q = 60 ∨ q = 61 ∨ q = 62 ∨ q = 63 ∨ q = 64 ∨ q = 65 ∨ q = 66 ∨ q = 67 ∨ q = 68) with rfl | rfl | rfl | rfl | rfl | rfl | rfl | rfl | rfl | rfl | rfl | rfl | rfl | rfl | rfl | rfl | rfl | rfl | rfl | rfl | rfl | rfl | rfl | rfl | rfl | rfl | rfl | rfl | rfl | rfl | rfl | rfl | rfl | rfl | rfl | rfl | rfl | rfl | rfl | rfl | rfl | rfl | rfl | rfl | rfl | rfl | rfl | rfl | rfl | rfl | rfl | rfl | rfl | rfl | rfl | rfl | rfl | rfl | rfl | rfl | rfl | rfl | rfl | rfl | rfl | rfl | rfl | rfl | rfl <;> rfl, fun _ => rfl⟩
theorem zk_TFLaw_97 : mm_Il "TensorForgeLaw" 97 0 zy_init_14_1 := ⟨zyw_init_14_1, mm_tb_1 1584 (by decide +kernel) rfl, mm_tb_1 1585 (by decide +kernel) rfl, rfl, rfl⟩
theorem zz_hi {cl : List Nat} {a : Nat} (h : cl.all (fun c => Nat.blt c 1122) = true) (ha : 1122 ≤ a) : cl.contains a = false := by
  cases hc : cl.contains a with
  | false => rfl
  | true =>
    have h1 := (List.all_eq_true.mp h) a (List.contains_iff_mem.mp hc)
    simp only [Nat.blt_eq] at h1
    omega
theorem zz_hi2 {sl : List (Nat × Nat)} {a i : Nat} (h : sl.all (fun c => Nat.blt c.1 1122) = true) (ha : 1122 ≤ a) : sl.contains (a, i) = false := by
  cases hc : sl.contains (a, i) with
  | false => rfl
  | true =>
    have h1 := (List.all_eq_true.mp h) (a, i) (List.contains_iff_mem.mp hc)
    simp only [Nat.blt_eq] at h1
    omega
set_option maxHeartbeats 4000000 in
theorem zd_L_law_0 : zz_D zy_law_L 0 (.new 8) 3 3 := ⟨by decide +kernel, rfl⟩
theorem zd_L_law_3 : zz_D zy_law_L 3 (.dup) 1 4 := ⟨by decide +kernel, rfl⟩
theorem zd_L_law_4 : zz_D zy_law_L 4 (.invokespecial 94) 3 7 := ⟨by decide +kernel, rfl⟩
theorem zd_L_law_7 : zz_D zy_law_L 7 (.astore_n 1) 1 8 := ⟨by decide +kernel, rfl⟩
theorem zd_L_law_8 : zz_D zy_law_L 8 (.new 95) 3 11 := ⟨by decide +kernel, rfl⟩
theorem zd_L_law_11 : zz_D zy_law_L 11 (.dup) 1 12 := ⟨by decide +kernel, rfl⟩
theorem zd_L_law_12 : zz_D zy_law_L 12 (.invokespecial 97) 3 15 := ⟨by decide +kernel, rfl⟩
theorem zd_L_law_15 : zz_D zy_law_L 15 (.astore_n 2) 1 16 := ⟨by decide +kernel, rfl⟩
theorem zd_L_law_16 : zz_D zy_law_L 16 (.iconst 1) 1 17 := ⟨by decide +kernel, rfl⟩
theorem zd_L_law_17 : zz_D zy_law_L 17 (.newarray .long) 2 19 := ⟨by decide +kernel, rfl⟩
theorem zd_L_law_19 : zz_D zy_law_L 19 (.astore_n 3) 1 20 := ⟨by decide +kernel, rfl⟩
theorem zd_L_law_20 : zz_D zy_law_L 20 (.iconst 0) 1 21 := ⟨by decide +kernel, rfl⟩
theorem zd_L_law_21 : zz_D zy_law_L 21 (.istore 4) 2 23 := ⟨by decide +kernel, rfl⟩
theorem zs_law_L {g : mm_G} {l : Launch} (hfl : l.flags = flags0) (hlen : g.2.2.2 997 ≤ 3584) (S0 : zz_S) (h0 : ∀ a i, S0 a i = 0) : zz_E g l zy_law_L room_1 (fun u => ∃ M1 n1, u = (.inl (some (zi 1)), M1, n1)) S0 1000 0 [some (.ref 998)] [] 0 0 := by
  have G_S0 : zz_Gm [] [] S0 := fun a i h => by cases h
  have F_S0 : zz_fr [] [1000, 1001, 1002, 1003, 1004, 1005, 1006, 1007, 1008, 1009, 1010, 1011, 1012, 1013, 1014, 1015, 1016, 1017, 1018, 1019, 1020, 1021, 1022, 1023, 1024, 1025, 1026, 1027, 1028, 1029, 1030, 1031, 1032, 1033, 1034, 1035, 1036, 1037, 1038, 1039, 1040, 1041, 1042, 1043, 1044, 1045, 1046, 1047, 1048, 1049, 1050, 1051, 1052, 1053, 1054, 1055, 1056, 1057, 1058, 1059, 1060, 1061, 1062, 1063, 1064, 1065, 1066, 1067, 1068, 1069, 1070, 1071, 1072, 1073, 1074, 1075, 1076, 1077, 1078, 1079, 1080, 1081, 1082, 1083, 1084, 1085, 1086, 1087, 1088, 1089, 1090, 1091, 1092, 1093, 1094, 1095, 1096, 1097, 1098, 1099, 1100, 1101, 1102, 1103, 1104, 1105, 1106, 1107, 1108, 1109, 1110, 1111, 1112, 1113, 1114, 1115, 1116, 1117, 1118, 1119, 1120, 1121] (fun _ _ => False) S0 S0 := zz_fr.refl
  refine zz_new (zz_ov [(-1), (-1), (-1), (-1), (-1), (-1), (-1), (-1), (-1), (-1), (-1), 0]) zd_L_law_0 zn_TFLaw_8 zT_1000 rfl (Nat.le_of_ble_eq_true rfl) (Nat.le_of_ble_eq_true rfl) (fun S1 qS1 => ?_)
  have G_S1 := zz_Gm.nwo G_S0 qS1 (by decide +kernel)
  have F_S1 := zz_fr.nw F_S0 qS1 (by decide +kernel)
  refine zz_setn (n1 := 1001) (k1 := 1) (j1 := 12) rfl rfl rfl ?_
  refine zz_dup rfl zd_L_law_3 ?_
  refine zz_callN (n1 := 1079) [] zd_L_law_4 zk_TFLaw_94 rfl rfl ⟨Nat.le_of_ble_eq_true rfl, Nat.le_of_ble_eq_true rfl⟩ (Nat.le_of_ble_eq_true rfl) (Nat.le_of_ble_eq_true rfl) (zc_init_1_1_c1000_1001 S1 (zz_Gm.own qS1 (zz_ovG (rs := [(1031, 1031), (1042, 1042), (1070, 1070), (1072, 1072), (1073, 1073), (1076, 1076), (1077, 1077), (0, 1), (0, 1), (0, 1), (0, 1), (0, 600)]) (fun _ => rfl) rfl (by decide +kernel)))) (fun S2 hP => ?_)
  obtain ⟨gS2, fS2, o3, o4, o5, o6, o7, o8⟩ := hP
  have F_S2 := zz_fr.trans F_S1 fS2 (by decide +kernel) zz_nv
  have G_S2 := zz_Gm.call [] G_S1 fS2 gS2 (by decide +kernel) (by decide +kernel) (by decide +kernel) (by decide +kernel)
  refine zz_setn (n1 := 1079) (k1 := 79) (j1 := 10884) rfl rfl rfl ?_
  refine zz_astore_n [some (.ref 998), some (.ref 1000)] zd_L_law_7 (by decide) rfl ?_
  refine zz_new (zz_ov [0, 0, (-1), (-1), (-1), (-1), (-1), 0, (-1), (-1), 0, (-1), (-1), (-1), 0, 0, 0, (-1), (-1), 0, (-1), (-1), (-1), (-1), (-1), (-1), (-1), (-1), 0, (-1), 0, 0, 0, 0, 0, (-1), 0, (-1), (-1), (-1), (-1), (-1), (-1), (-1), (-1), (-1), (-1), (-1), (-1), (-1), 0, 0, 0, 0, 0, 0, 0, 0, (-1), (-1), 0, 0, (-1), (-1), 0, 0, 0, (-1), (-1)]) zd_L_law_8 zn_TFLaw_95 zT_1079 (by decide +kernel) (Nat.le_of_ble_eq_true rfl) (Nat.le_of_ble_eq_true rfl) (fun S9 qS9 => ?_)
  have G_S9 := zz_Gm.nwo G_S2 qS9 (by decide +kernel)
  have F_S9 := zz_fr.nw F_S2 qS9 (by decide +kernel)
  refine zz_setn (n1 := 1080) (k1 := 80) (j1 := 10953) rfl rfl rfl ?_
  refine zz_dup rfl zd_L_law_11 ?_
  refine zz_callN (n1 := 1121) [] zd_L_law_12 zk_TFLaw_97 rfl rfl ⟨Nat.le_of_ble_eq_true rfl, Nat.le_of_ble_eq_true rfl⟩ (Nat.le_of_ble_eq_true rfl) (Nat.le_of_ble_eq_true rfl) (zc_init_14_1_c1079_1080 S9 (zz_Gm.own qS9 (zz_ovG (rs := [(0, 3), (2, 8), (1080, 1080), (1081, 1081), (1082, 1082), (1083, 1083), (1084, 1084), (0, 600), (1085, 1085), (1086, 1086), (0, 1000000), (1087, 1087), (1088, 1088), (1089, 1089), (0, 4), ((-1), 600), ((-2147483648), 2147483647), (1090, 1090), (1091, 1091), ((-1), 600), (1092, 1092), (1093, 1093), (1094, 1094), (1095, 1095), (1096, 1096), (1097, 1097), (1098, 1098), (1099, 1099), (0, 1500), (1100, 1100), (0, 102), (0, 9999), (0, 1500), (0, 1500), (0, 200), (1101, 1101), (0, 11), (1102, 1102), (1103, 1103), (1104, 1104), (1105, 1105), (1106, 1106), (1107, 1107), (1108, 1108), (1109, 1109), (1110, 1110), (1111, 1111), (1112, 1112), (1113, 1113), (1114, 1114), ((-2147483648), 2147483647), ((-2147483648), 2147483647), ((-2147483648), 2147483647), ((-2147483648), 2147483647), ((-2147483648), 2147483647), ((-2147483648), 2147483647), ((-2147483648), 2147483647), ((-2147483648), 2147483647), (1115, 1115), (1116, 1116), ((-2147483648), 2147483647), ((-9223372036854775808), 9223372036854775807), (1117, 1117), (1118, 1118), ((-9223372036854775808), 9223372036854775807), (0, 255), (0, 11), (1119, 1119), (1120, 1120)]) (fun _ => rfl) rfl (by decide +kernel)))) (fun S10 hP => ?_)
  obtain ⟨gS10, fS10, o11, o12, o13, o14, o15, o16, o17, o18, o19, o20, o21, o22, o23, o24, o25, o26, o27, o28, o29, o30, o31, o32, o33, o34⟩ := hP
  have F_S10 := zz_fr.trans F_S9 fS10 (by decide +kernel) zz_nv
  have G_S10 := zz_Gm.call [] G_S9 fS10 gS10 (by decide +kernel) (by decide +kernel) (by decide +kernel) (by decide +kernel)
  refine zz_setn (n1 := 1121) (k1 := 121) (j1 := 22894) rfl rfl rfl ?_
  have z35 : S10 1079 28 = 0 := o13.trans ((zz_nws qS9 28).trans (by decide +kernel))
  refine zz_astore_n [some (.ref 998), some (.ref 1000), some (.ref 1079)] zd_L_law_15 (by decide) rfl ?_
  refine zz_iconst zd_L_law_16 ?_
  refine zz_newa (z := 1) (fun _ => 0) zd_L_law_17 zT_1121 rfl (mm_tb_1 181 (by decide +kernel) rfl) rfl (by decide) (by decide) (fun _ => rfl) (fun _ => rfl) (fun _ h => by cases h) (Nat.le_of_ble_eq_true rfl) (Nat.le_of_ble_eq_true rfl) (fun S36 qS36 => ?_)
  have G_S36 := zz_Gm.nwa [] G_S10 qS36 (by decide +kernel) (fun i _ => ⟨(by decide : ((-9223372036854775808) : Int) ≤ 0), (by decide : (0 : Int) ≤ 9223372036854775807)⟩)
  have F_S36 := zz_fr.nw F_S10 qS36 (by decide +kernel)
  refine zz_setn (n1 := 1122) (k1 := 122) (j1 := 22895) rfl rfl rfl ?_
  refine zz_astore_n [some (.ref 998), some (.ref 1000), some (.ref 1079), some (.ref 1121)] zd_L_law_19 (by decide) rfl ?_
  refine zz_iconst zd_L_law_20 ?_
  refine zz_istore [some (.ref 998), some (.ref 1000), some (.ref 1079), some (.ref 1121), some (zi 0)] zd_L_law_21 (by decide) rfl ?_
  have g37 := trivial
  have e38 : S36 1001 1 = S2 1001 1 := (zz_nwo qS36 (by decide) (zz_rc fS10 (by decide +kernel) (by decide +kernel) (fun h => h) (zz_nwo qS9 (by decide) rfl)))
  have g39 := trivial
  have e40 : S36 1003 0 = S2 1003 0 := (zz_nwo qS36 (by decide) (zz_rc fS10 (by decide +kernel) (by decide +kernel) (fun h => h) (zz_nwo qS9 (by decide) rfl)))
  have g41 := trivial
  have e42 : S36 1003 12 = S2 1003 12 := (zz_nwo qS36 (by decide) (zz_rc fS10 (by decide +kernel) (by decide +kernel) (fun h => h) (zz_nwo qS9 (by decide) rfl)))
  have g43 := trivial
  have e44 : S36 1003 3 = S2 1003 3 := (zz_nwo qS36 (by decide) (zz_rc fS10 (by decide +kernel) (by decide +kernel) (fun h => h) (zz_nwo qS9 (by decide) rfl)))
  have g45 := trivial
  have e46 : S36 1003 4 = S2 1003 4 := (zz_nwo qS36 (by decide) (zz_rc fS10 (by decide +kernel) (by decide +kernel) (fun h => h) (zz_nwo qS9 (by decide) rfl)))
  have g47 := trivial
  have e48 : S36 1015 1 = S2 1015 1 := (zz_nwo qS36 (by decide) (zz_rc fS10 (by decide +kernel) (by decide +kernel) (fun h => h) (zz_nwo qS9 (by decide) rfl)))
  have g49 := trivial
  have e50 : S36 1017 0 = S2 1017 0 := (zz_nwo qS36 (by decide) (zz_rc fS10 (by decide +kernel) (by decide +kernel) (fun h => h) (zz_nwo qS9 (by decide) rfl)))
  have g51 := trivial
  have e52 : S36 1017 12 = S2 1017 12 := (zz_nwo qS36 (by decide) (zz_rc fS10 (by decide +kernel) (by decide +kernel) (fun h => h) (zz_nwo qS9 (by decide) rfl)))
  have g53 := trivial
  have e54 : S36 1017 3 = S2 1017 3 := (zz_nwo qS36 (by decide) (zz_rc fS10 (by decide +kernel) (by decide +kernel) (fun h => h) (zz_nwo qS9 (by decide) rfl)))
  have g55 := trivial
  have e56 : S36 1017 4 = S2 1017 4 := (zz_nwo qS36 (by decide) (zz_rc fS10 (by decide +kernel) (by decide +kernel) (fun h => h) (zz_nwo qS9 (by decide) rfl)))
  have g57 := trivial
  have e58 : S36 1079 36 = S10 1079 36 := (zz_nwo qS36 (by decide) rfl)
  have g59 := trivial
  have e60 : S36 1102 0 = S10 1102 0 := (zz_nwo qS36 (by decide) rfl)
  have g61 := trivial
  have e62 : S36 1103 0 = S10 1103 0 := (zz_nwo qS36 (by decide) rfl)
  have g63 := trivial
  have e64 : S36 1104 0 = S10 1104 0 := (zz_nwo qS36 (by decide) rfl)
  have g65 := trivial
  have e66 : S36 1105 0 = S10 1105 0 := (zz_nwo qS36 (by decide) rfl)
  have GG : zz_G S36 := zz_Gm.full G_S36 (by decide +kernel) (fun a i ha => (F_S36 a i (zz_hi2 (by decide +kernel) ha) (zz_hi (by decide +kernel) ha) (fun h => h)).trans (h0 a i))
  have HH : zz_Hc S36 := by
    intro q hq k hk hkt
    rcases (by omega : q = 0 ∨ q = 1) with rfl | rfl
    · have hkt : k < S36 1001 1 := hkt
      have hk0 : k = 0 := by omega
      subst hk0
      show (S36 1003 0 = 3 ∨ (S36 1003 3 ≤ 3 ∧ S36 1003 4 ≤ 3)) ∧ S36 1003 12 ≤ 63
      omega
    · have hkt : k < S36 1015 1 := hkt
      have hk0 : k = 0 := by omega
      subst hk0
      show (S36 1017 0 = 3 ∨ (S36 1017 3 ≤ 3 ∧ S36 1017 4 ≤ 3)) ∧ S36 1017 12 ≤ 63
      omega
  have RR : zz_Hr S36 := zz_Hr.one (by omega) (by unfold zz_tn zz_sz; rw [show S36 1102 0 = 1 by omega, show S36 1103 0 = 1 by omega, show S36 1104 0 = 1 by omega, show S36 1105 0 = 0 by omega]; decide)
  have e67 : S36 1100 1 = 20328611 := (zz_nwo qS36 (by decide) o14)
  have e68 : S36 1100 10 = 641 := (zz_nwo qS36 (by decide) o23)
  have e69 : S36 1100 11 = 802 := (zz_nwo qS36 (by decide) o24)
  have e70 : S36 1100 12 = 24 := (zz_nwo qS36 (by decide) o25)
  have e71 : S36 1100 13 = 1 := (zz_nwo qS36 (by decide) o26)
  have e72 : S36 1100 14 = 2 := (zz_nwo qS36 (by decide) o27)
  have e73 : S36 1100 15 = 530067 := (zz_nwo qS36 (by decide) o28)
  have e74 : S36 1100 16 = 14 := (zz_nwo qS36 (by decide) o29)
  have e75 : S36 1100 17 = 16880 := (zz_nwo qS36 (by decide) o30)
  have e76 : S36 1100 18 = 282288 := (zz_nwo qS36 (by decide) o31)
  have e77 : S36 1100 19 = 187144354 := (zz_nwo qS36 (by decide) o32)
  have e78 : S36 1100 2 = 21080810679 := (zz_nwo qS36 (by decide) o15)
  have e79 : S36 1100 20 = 149201058 := (zz_nwo qS36 (by decide) o33)
  have e80 : S36 1100 3 = 18912643 := (zz_nwo qS36 (by decide) o16)
  have e81 : S36 1100 4 = 636595 := (zz_nwo qS36 (by decide) o17)
  have e82 : S36 1100 5 = 872425337517 := (zz_nwo qS36 (by decide) o18)
  have e83 : S36 1100 6 = 5847987683 := (zz_nwo qS36 (by decide) o19)
  have e84 : S36 1100 7 = 788088878 := (zz_nwo qS36 (by decide) o20)
  have e85 : S36 1100 8 = 5848723 := (zz_nwo qS36 (by decide) o21)
  have e86 : S36 1100 9 = 664631 := (zz_nwo qS36 (by decide) o22)
  have NN : ∀ w : Nat, 1 ≤ w → w ≤ 20 → S36 1100 w = zt_cd (zt_nw.getD w []) := by
    intro w h1 h2
    rcases (by omega : w = 1 ∨ w = 2 ∨ w = 3 ∨ w = 4 ∨ w = 5 ∨ w = 6 ∨ w = 7 ∨ w = 8 ∨ w = 9 ∨ w = 10 ∨ w = 11 ∨ w = 12 ∨ w = 13 ∨ w = 14 ∨ w = 15 ∨ w = 16 ∨ w = 17 ∨ w = 18 ∨ w = 19 ∨ w = 20) with rfl | rfl | rfl | rfl | rfl | rfl | rfl | rfl | rfl | rfl | rfl | rfl | rfl | rfl | rfl | rfl | rfl | rfl | rfl | rfl
    · exact (show S36 1100 1 = 20328611 by omega).trans (by decide +kernel)
    · exact (show S36 1100 2 = 21080810679 by omega).trans (by decide +kernel)
    · exact (show S36 1100 3 = 18912643 by omega).trans (by decide +kernel)
    · exact (show S36 1100 4 = 636595 by omega).trans (by decide +kernel)
    · exact (show S36 1100 5 = 872425337517 by omega).trans (by decide +kernel)
    · exact (show S36 1100 6 = 5847987683 by omega).trans (by decide +kernel)
    · exact (show S36 1100 7 = 788088878 by omega).trans (by decide +kernel)
    · exact (show S36 1100 8 = 5848723 by omega).trans (by decide +kernel)
    · exact (show S36 1100 9 = 664631 by omega).trans (by decide +kernel)
    · exact (show S36 1100 10 = 641 by omega).trans (by decide +kernel)
    · exact (show S36 1100 11 = 802 by omega).trans (by decide +kernel)
    · exact (show S36 1100 12 = 24 by omega).trans (by decide +kernel)
    · exact (show S36 1100 13 = 1 by omega).trans (by decide +kernel)
    · exact (show S36 1100 14 = 2 by omega).trans (by decide +kernel)
    · exact (show S36 1100 15 = 530067 by omega).trans (by decide +kernel)
    · exact (show S36 1100 16 = 14 by omega).trans (by decide +kernel)
    · exact (show S36 1100 17 = 16880 by omega).trans (by decide +kernel)
    · exact (show S36 1100 18 = 282288 by omega).trans (by decide +kernel)
    · exact (show S36 1100 19 = 187144354 by omega).trans (by decide +kernel)
    · exact (show S36 1100 20 = 149201058 by omega).trans (by decide +kernel)
  have g87 := trivial
  have e88 : S36 1000 7 = S2 1000 7 := (zz_nwo qS36 (by decide) (zz_rc fS10 (by decide +kernel) (by decide +kernel) (fun h => h) (zz_nwo qS9 (by decide) rfl)))
  have g89 := trivial
  have e90 : S36 1000 8 = S2 1000 8 := (zz_nwo qS36 (by decide) (zz_rc fS10 (by decide +kernel) (by decide +kernel) (fun h => h) (zz_nwo qS9 (by decide) rfl)))
  have g91 := trivial
  have e92 : S36 1003 1 = S2 1003 1 := (zz_nwo qS36 (by decide) (zz_rc fS10 (by decide +kernel) (by decide +kernel) (fun h => h) (zz_nwo qS9 (by decide) rfl)))
  have g93 := trivial
  have e94 : S36 1003 10 = S2 1003 10 := (zz_nwo qS36 (by decide) (zz_rc fS10 (by decide +kernel) (by decide +kernel) (fun h => h) (zz_nwo qS9 (by decide) rfl)))
  have g95 := trivial
  have e96 : S36 1003 11 = S2 1003 11 := (zz_nwo qS36 (by decide) (zz_rc fS10 (by decide +kernel) (by decide +kernel) (fun h => h) (zz_nwo qS9 (by decide) rfl)))
  have g97 := trivial
  have e98 : S36 1003 13 = S2 1003 13 := (zz_nwo qS36 (by decide) (zz_rc fS10 (by decide +kernel) (by decide +kernel) (fun h => h) (zz_nwo qS9 (by decide) rfl)))
  have g99 := trivial
  have e100 : S36 1003 2 = S2 1003 2 := (zz_nwo qS36 (by decide) (zz_rc fS10 (by decide +kernel) (by decide +kernel) (fun h => h) (zz_nwo qS9 (by decide) rfl)))
  have g101 := trivial
  have e102 : S36 1003 5 = S2 1003 5 := (zz_nwo qS36 (by decide) (zz_rc fS10 (by decide +kernel) (by decide +kernel) (fun h => h) (zz_nwo qS9 (by decide) rfl)))
  have g103 := trivial
  have e104 : S36 1003 6 = S2 1003 6 := (zz_nwo qS36 (by decide) (zz_rc fS10 (by decide +kernel) (by decide +kernel) (fun h => h) (zz_nwo qS9 (by decide) rfl)))
  have g105 := trivial
  have e106 : S36 1003 7 = S2 1003 7 := (zz_nwo qS36 (by decide) (zz_rc fS10 (by decide +kernel) (by decide +kernel) (fun h => h) (zz_nwo qS9 (by decide) rfl)))
  have g107 := trivial
  have e108 : S36 1003 8 = S2 1003 8 := (zz_nwo qS36 (by decide) (zz_rc fS10 (by decide +kernel) (by decide +kernel) (fun h => h) (zz_nwo qS9 (by decide) rfl)))
  have g109 := trivial
  have e110 : S36 1003 9 = S2 1003 9 := (zz_nwo qS36 (by decide) (zz_rc fS10 (by decide +kernel) (by decide +kernel) (fun h => h) (zz_nwo qS9 (by decide) rfl)))
  have e111 : S36 1105 1 = 1 := (zz_nwo qS36 (by decide) o34)
  have AA : zn_A S36 := ⟨by omega, zn_ip 1 1 1 0, zn_Vip (by decide) (by decide) (by decide) (by decide), ⟨zn_Wip 1 1 1 0, zs_Qip 1 1 1 0⟩, (by rw [show S36 1000 7 = 0 by omega]; exact zn_C.ip (show S36 1001 1 = 1 by omega) (show S36 1003 0 = 0 by omega) (show S36 1003 1 = 0 by omega) (show S36 1003 2 = 0 by omega) (show S36 1003 3 = 1 by omega) (show S36 1003 4 = 1 by omega) (show S36 1003 5 = 1 by omega) (show S36 1003 6 = 0 by omega) (show S36 1003 7 = 0 by omega) (show S36 1003 8 = 0 by omega) (show S36 1003 9 = 0 by omega) (show S36 1003 10 = 1 by omega) (show S36 1003 11 = 1 by omega) (show S36 1003 12 = 1 by omega) (show S36 1003 13 = 0 by omega)), zn_M.ip (by omega) (by omega) (by omega) (by omega) (by omega) (by omega)⟩
  refine zz_less (ls1 := [some (.ref 998), some (.ref 1000), some (.ref 1079), some (.ref 1121), some (zi 0)]) ⟨rfl, ⟨rfl, ⟨rfl, ⟨rfl, ⟨rfl, trivial⟩⟩⟩⟩⟩ ?_
  have e112 : S36 1070 1 = 0 := (zz_nwo qS36 (by decide) (zz_rc fS10 (by decide +kernel) (by decide +kernel) (fun h => h) (zz_nwo qS9 (by decide) o6)))
  have e113 : S36 1079 28 = 0 := (zz_nwo qS36 (by decide) z35)
  have e114 : S36 1031 6 = 2 := (zz_nwo qS36 (by decide) (zz_rc fS10 (by decide +kernel) (by decide +kernel) (fun h => h) (zz_nwo qS9 (by decide) o5)))
  have e115 : S36 1079 1 = 2 := (zz_nwo qS36 (by decide) o12)
  exact zi_law_L hfl hlen _ 0 S36 1122 122 22895 GG HH RR (by omega) (by omega) (by omega) NN (fun i h1 h2 => absurd h2 (by omega)) AA (Nat.le_refl _) (by decide) (by show ((122 : Nat) : Int) ≤ 200 + 0; decide) (by show ((22895 : Nat) : Int) ≤ 30000 + 6 * 0; decide) (Nat.lt_succ_self _)

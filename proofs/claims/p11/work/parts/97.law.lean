abbrev zy_law_L : mm_Y := (x, code, maxLocals, ret)
theorem zd_L_law_40 : zz_W zy_law_L 40 1168 0 27 #[128, 153, 190, 230, 299, 324, 352, 365, 437, 494, 550, 575, 588, 628, 641, 669, 709, 758, 848, 900, 952, 992, 1008, 1019, 1032, 1072, 1088, 1128] := ⟨128, by decide +kernel⟩
theorem zhl_side_L : mm_Hl "TensorForgeLaw" 98 2 [(0, 5, 8, 13)] zy_side_L := ⟨zxY_side_L, mm_tb_1 0 (by decide +kernel) rfl, ⟨by decide, by decide⟩, by decide +kernel, mm_tb_1 1040 (by decide +kernel) rfl, mm_tb_1 1041 (by decide +kernel) rfl⟩
theorem zk_TFLaw_103 : mm_Vl "TensorForgeLaw" 103 11 1 zy_side_14_6 := ⟨zyw_side_14_6, (R_Md, F_Md, 69), rfl, mm_tb_1 1824 (by decide +kernel) rfl, mm_tb_1 1825 (by decide +kernel) rfl, mm_tb_1 1826 (by decide +kernel) rfl⟩
theorem zhl_memory_L : mm_Hl "TensorForgeLaw" 104 3 [(0, 6, 9, 19)] zy_memory_L := ⟨zxY_memory_L, mm_tb_1 0 (by decide +kernel) rfl, ⟨by decide, by decide⟩, by decide +kernel, mm_tb_1 1125 (by decide +kernel) rfl, mm_tb_1 1126 (by decide +kernel) rfl⟩
theorem zk_TFLaw_107 : mm_Vl "TensorForgeLaw" 107 11 2 zy_memory_14_8 := ⟨zyw_memory_14_8, (R_Md, F_Md, 69), rfl, mm_tb_1 1840 (by decide +kernel) rfl, mm_tb_1 1841 (by decide +kernel) rfl, mm_tb_1 1842 (by decide +kernel) rfl⟩
theorem zhl_look_L : mm_Hl "TensorForgeLaw" 108 4 [(0, 10, 13, 13), (0, 10, 17, 19)] zy_look_L := ⟨zxY_look_L, mm_tb_1 0 (by decide +kernel) rfl, ⟨by decide, by decide⟩, by decide +kernel, mm_tb_1 1153 (by decide +kernel) rfl, mm_tb_1 1154 (by decide +kernel) rfl⟩
theorem zk_TFLaw_111 : mm_Vl "TensorForgeLaw" 111 11 2 zy_look_14_10 := ⟨zyw_look_14_10, (R_Md, F_Md, 69), rfl, mm_tb_1 1848 (by decide +kernel) rfl, mm_tb_1 1849 (by decide +kernel) rfl, mm_tb_1 1850 (by decide +kernel) rfl⟩
theorem zq_TFLaw_112 : Cond.constantLong "TensorForgeLaw" 112 (4294967295 : Int64) ∈ mm_tb := mm_tb_1 2313 (by decide +kernel) rfl
theorem zhl_word_L : mm_Hl "TensorForgeLaw" 114 3 [(0, 6, 9, 19), (0, 6, 13, 29)] zy_word_L := ⟨zxY_word_L, mm_tb_1 0 (by decide +kernel) rfl, ⟨by decide, by decide⟩, by decide +kernel, mm_tb_1 1167 (by decide +kernel) rfl, mm_tb_1 1168 (by decide +kernel) rfl⟩
theorem zk_TFLaw_117 : mm_Vl "TensorForgeLaw" 117 11 2 zy_word_14_14 := ⟨zyw_word_14_14, (R_Md, F_Md, 69), rfl, mm_tb_1 1867 (by decide +kernel) rfl, mm_tb_1 1868 (by decide +kernel) rfl, mm_tb_1 1869 (by decide +kernel) rfl⟩
theorem zhl_cut_L : mm_Hl "TensorForgeLaw" 118 2 [(0, 5, 8, 13)] zy_cut_L := ⟨zxY_cut_L, mm_tb_1 0 (by decide +kernel) rfl, ⟨by decide, by decide⟩, by decide +kernel, mm_tb_1 1192 (by decide +kernel) rfl, mm_tb_1 1193 (by decide +kernel) rfl⟩
theorem zk_TFLaw_120 : mm_Vl "TensorForgeLaw" 120 11 1 zy_cut_14_15 := ⟨zyw_cut_14_15, (R_Md, F_Md, 69), rfl, mm_tb_1 1871 (by decide +kernel) rfl, mm_tb_1 1872 (by decide +kernel) rfl, mm_tb_1 1873 (by decide +kernel) rfl⟩
theorem zhl_wordOf_L : mm_Hl "TensorForgeLaw" 121 3 [(0, 8, 11, 19)] zy_wordOf_L := ⟨zxY_wordOf_L, mm_tb_1 0 (by decide +kernel) rfl, ⟨by decide, by decide⟩, by decide +kernel, mm_tb_1 1200 (by decide +kernel) rfl, mm_tb_1 1201 (by decide +kernel) rfl⟩
theorem zk_TFLaw_124 : mm_Vl "TensorForgeLaw" 124 11 1 zy_wordOf_14_16 := ⟨zyw_wordOf_14_16, (R_Md, F_Md, 69), rfl, mm_tb_1 1875 (by decide +kernel) rfl, mm_tb_1 1876 (by decide +kernel) rfl, mm_tb_1 1877 (by decide +kernel) rfl⟩
theorem zk_TFLaw_125 : mm_Vl "TensorForgeLaw" 125 0 0 zy_length_1_8 := ⟨zyw_length_1_8, (R_TF, F_TF, 12), rfl, mm_tb_1 477 (by decide +kernel) rfl, mm_tb_1 478 (by decide +kernel) rfl, mm_tb_1 479 (by decide +kernel) rfl⟩
theorem zk_TFLaw_128 : mm_Vl "TensorForgeLaw" 128 11 0 zy_length_14_17 := ⟨zyw_length_14_17, (R_Md, F_Md, 69), rfl, mm_tb_1 1879 (by decide +kernel) rfl, mm_tb_1 1880 (by decide +kernel) rfl, mm_tb_1 1881 (by decide +kernel) rfl⟩
theorem zhl_field_L : mm_Hl "TensorForgeLaw" 129 4 [(0, 11, 14, 13)] zy_field_L := ⟨zxY_field_L, mm_tb_1 0 (by decide +kernel) rfl, ⟨by decide, by decide⟩, by decide +kernel, mm_tb_1 1207 (by decide +kernel) rfl, mm_tb_1 1208 (by decide +kernel) rfl⟩
theorem zk_TFLaw_132 : mm_Vl "TensorForgeLaw" 132 11 2 zy_field_14_13 := ⟨zyw_field_14_13, (R_Md, F_Md, 69), rfl, mm_tb_1 1856 (by decide +kernel) rfl, mm_tb_1 1857 (by decide +kernel) rfl, mm_tb_1 1858 (by decide +kernel) rfl⟩
theorem zk_TFLaw_133 : mm_Vl "TensorForgeLaw" 133 0 1 zy_illegal_1_10 := ⟨zyw_illegal_1_10, (R_TF, F_TF, 12), rfl, mm_tb_1 481 (by decide +kernel) rfl, mm_tb_1 482 (by decide +kernel) rfl, mm_tb_1 483 (by decide +kernel) rfl⟩
theorem zk_TFLaw_137 : mm_Vl "TensorForgeLaw" 137 11 1 zy_illegal_14_25 := ⟨zyw_illegal_14_25, (R_Md, F_Md, 69), rfl, mm_tb_1 1883 (by decide +kernel) rfl, mm_tb_1 1884 (by decide +kernel) rfl, mm_tb_1 1885 (by decide +kernel) rfl⟩
theorem zhl_put_L : mm_Hl "TensorForgeLaw" 138 3 [(0, 9, 12, 13), (0, 9, 15, 29)] zy_put_L := ⟨zxY_put_L, mm_tb_1 0 (by decide +kernel) rfl, ⟨by decide, by decide⟩, by decide +kernel, mm_tb_1 1216 (by decide +kernel) rfl, mm_tb_1 1217 (by decide +kernel) rfl⟩
theorem zk_TFLaw_140 : mm_Vl "TensorForgeLaw" 140 11 1 zy_put_14_47 := ⟨zyw_put_14_47, (R_Md, F_Md, 69), rfl, mm_tb_1 1997 (by decide +kernel) rfl, mm_tb_1 1998 (by decide +kernel) rfl, mm_tb_1 1999 (by decide +kernel) rfl⟩
theorem zk_TFLaw_141 : mm_Vl "TensorForgeLaw" 141 11 0 zy_thrown_14_2 := ⟨zyw_thrown_14_2, (R_Md, F_Md, 69), rfl, mm_tb_1 1820 (by decide +kernel) rfl, mm_tb_1 1821 (by decide +kernel) rfl, mm_tb_1 1822 (by decide +kernel) rfl⟩
theorem zhl_end_L : mm_Hl "TensorForgeLaw" 144 2 [(0, 5, 8, 13)] zy_end_L := ⟨zxY_end_L, mm_tb_1 0 (by decide +kernel) rfl, ⟨by decide, by decide⟩, by decide +kernel, mm_tb_1 1236 (by decide +kernel) rfl, mm_tb_1 1237 (by decide +kernel) rfl⟩
theorem zk_TFLaw_146 : mm_Vl "TensorForgeLaw" 146 11 1 zy_end_14_48 := ⟨zyw_end_14_48, (R_Md, F_Md, 69), rfl, mm_tb_1 2003 (by decide +kernel) rfl, mm_tb_1 2004 (by decide +kernel) rfl, mm_tb_1 2005 (by decide +kernel) rfl⟩
theorem zk_TFLaw_147 : mm_Vl "TensorForgeLaw" 147 0 0 zy_assemble_1_13 := ⟨zyw_assemble_1_13, (R_TF, F_TF, 12), rfl, mm_tb_1 556 (by decide +kernel) rfl, mm_tb_1 557 (by decide +kernel) rfl, mm_tb_1 558 (by decide +kernel) rfl⟩
theorem zk_TFLaw_150 : mm_Vl "TensorForgeLaw" 150 11 0 zy_assemble_14_55 := ⟨zyw_assemble_14_55, (R_Md, F_Md, 69), rfl, mm_tb_1 2007 (by decide +kernel) rfl, mm_tb_1 2008 (by decide +kernel) rfl, mm_tb_1 2009 (by decide +kernel) rfl⟩
theorem zhl_listing_L : mm_Hl "TensorForgeLaw" 151 4 [(0, 10, 13, 19)] zy_listing_L := ⟨zxY_listing_L, mm_tb_1 0 (by decide +kernel) rfl, ⟨by decide, by decide⟩, by decide +kernel, mm_tb_1 1244 (by decide +kernel) rfl, mm_tb_1 1245 (by decide +kernel) rfl⟩
theorem zk_TFLaw_153 : mm_Vl "TensorForgeLaw" 153 11 2 zy_listing_14_62 := ⟨zyw_listing_14_62, (R_Md, F_Md, 69), rfl, mm_tb_1 2046 (by decide +kernel) rfl, mm_tb_1 2047 (by decide +kernel) rfl, mm_tb_1 2048 (by decide +kernel) rfl⟩
theorem zk_TFLaw_154 : mm_Vl "TensorForgeLaw" 154 0 0 zy_run_1_15 := ⟨zyw_run_1_15, (R_TF, F_TF, 12), rfl, mm_tb_1 693 (by decide +kernel) rfl, mm_tb_1 694 (by decide +kernel) rfl, mm_tb_1 695 (by decide +kernel) rfl⟩
theorem zk_TFLaw_157 : mm_Vl "TensorForgeLaw" 157 11 0 zy_run_14_44 := ⟨zyw_run_14_44, (R_Md, F_Md, 69), rfl, mm_tb_1 1915 (by decide +kernel) rfl, mm_tb_1 1916 (by decide +kernel) rfl, mm_tb_1 1917 (by decide +kernel) rfl⟩
theorem zhl_stopped_L : mm_Hl "TensorForgeLaw" 158 3 [(0, 9, 12, 13)] zy_stopped_L := ⟨zxY_stopped_L, mm_tb_1 0 (by decide +kernel) rfl, ⟨by decide, by decide⟩, by decide +kernel, mm_tb_1 1304 (by decide +kernel) rfl, mm_tb_1 1305 (by decide +kernel) rfl⟩
theorem zk_TFLaw_160 : mm_Vl "TensorForgeLaw" 160 11 1 zy_stopped_14_45 := ⟨zyw_stopped_14_45, (R_Md, F_Md, 69), rfl, mm_tb_1 1989 (by decide +kernel) rfl, mm_tb_1 1990 (by decide +kernel) rfl, mm_tb_1 1991 (by decide +kernel) rfl⟩
theorem zhl_instruction_L : mm_Hl "TensorForgeLaw" 161 4 [(0, 10, 13, 58), (0, 10, 17, 19), (0, 10, 21, 13)] zy_instruction_L := ⟨zxY_instruction_L, mm_tb_1 0 (by decide +kernel) rfl, ⟨by decide, by decide⟩, by decide +kernel, mm_tb_1 1312 (by decide +kernel) rfl, mm_tb_1 1313 (by decide +kernel) rfl⟩
theorem zk_TFLaw_163 : mm_Vl "TensorForgeLaw" 163 11 2 zy_instruction_14_46 := ⟨zyw_instruction_14_46, (R_Md, F_Md, 69), rfl, mm_tb_1 1993 (by decide +kernel) rfl, mm_tb_1 1994 (by decide +kernel) rfl, mm_tb_1 1995 (by decide +kernel) rfl⟩
theorem zhl_input_L : mm_Hl "TensorForgeLaw" 164 4 [(0, 7, 10, 13)] zy_input_L := ⟨zxY_input_L, mm_tb_1 0 (by decide +kernel) rfl, ⟨by decide, by decide⟩, by decide +kernel, mm_tb_1 1343 (by decide +kernel) rfl, mm_tb_1 1344 (by decide +kernel) rfl⟩
theorem zk_TFLaw_167 : mm_Vl "TensorForgeLaw" 167 11 3 zy_input_14_63 := ⟨zyw_input_14_63, (R_Md, F_Md, 69), rfl, mm_tb_1 2073 (by decide +kernel) rfl, mm_tb_1 2074 (by decide +kernel) rfl, mm_tb_1 2075 (by decide +kernel) rfl⟩
theorem zhl_convolution_L : mm_Hl "TensorForgeLaw" 168 8 [(0, 18, 21, 19), (0, 18, 25, 13), (0, 18, 29, 29)] zy_convolution_L := ⟨zxY_convolution_L, mm_tb_1 0 (by decide +kernel) rfl, ⟨by decide, by decide⟩, by decide +kernel, mm_tb_1 1353 (by decide +kernel) rfl, mm_tb_1 1354 (by decide +kernel) rfl⟩
theorem zk_TFLaw_171 : mm_Vl "TensorForgeLaw" 171 11 6 zy_convolution_14_67 := ⟨zyw_convolution_14_67, (R_Md, F_Md, 69), rfl, mm_tb_1 2078 (by decide +kernel) rfl, mm_tb_1 2079 (by decide +kernel) rfl, mm_tb_1 2080 (by decide +kernel) rfl⟩
theorem zhl_pool_L : mm_Hl "TensorForgeLaw" 172 5 [(0, 12, 15, 19), (0, 12, 19, 13), (0, 12, 23, 29)] zy_pool_L := ⟨zxY_pool_L, mm_tb_1 0 (by decide +kernel) rfl, ⟨by decide, by decide⟩, by decide +kernel, mm_tb_1 1375 (by decide +kernel) rfl, mm_tb_1 1376 (by decide +kernel) rfl⟩
theorem zk_TFLaw_175 : mm_Vl "TensorForgeLaw" 175 11 3 zy_pool_14_69 := ⟨zyw_pool_14_69, (R_Md, F_Md, 69), rfl, mm_tb_1 2101 (by decide +kernel) rfl, mm_tb_1 2102 (by decide +kernel) rfl, mm_tb_1 2103 (by decide +kernel) rfl⟩
theorem zhl_addition_L : mm_Hl "TensorForgeLaw" 176 5 [(0, 12, 15, 19), (0, 12, 19, 13), (0, 12, 23, 29)] zy_addition_L := ⟨zxY_addition_L, mm_tb_1 0 (by decide +kernel) rfl, ⟨by decide, by decide⟩, by decide +kernel, mm_tb_1 1382 (by decide +kernel) rfl, mm_tb_1 1383 (by decide +kernel) rfl⟩
theorem zk_TFLaw_178 : mm_Vl "TensorForgeLaw" 178 11 3 zy_addition_14_70 := ⟨zyw_addition_14_70, (R_Md, F_Md, 69), rfl, mm_tb_1 2105 (by decide +kernel) rfl, mm_tb_1 2106 (by decide +kernel) rfl, mm_tb_1 2107 (by decide +kernel) rfl⟩
theorem zhl_form_L : mm_Hl "TensorForgeLaw" 179 4 [(0, 10, 13, 19), (0, 10, 17, 13)] zy_form_L := ⟨zxY_form_L, mm_tb_1 0 (by decide +kernel) rfl, ⟨by decide, by decide⟩, by decide +kernel, mm_tb_1 1389 (by decide +kernel) rfl, mm_tb_1 1390 (by decide +kernel) rfl⟩
theorem zk_TFLaw_181 : mm_Vl "TensorForgeLaw" 181 11 2 zy_form_14_71 := ⟨zyw_form_14_71, (R_Md, F_Md, 69), rfl, mm_tb_1 2109 (by decide +kernel) rfl, mm_tb_1 2110 (by decide +kernel) rfl, mm_tb_1 2111 (by decide +kernel) rfl⟩
theorem zhl_compile_L : mm_Hl "TensorForgeLaw" 182 2 [(0, 8, 11, 29)] zy_compile_L := ⟨zxY_compile_L, mm_tb_1 0 (by decide +kernel) rfl, ⟨by decide, by decide⟩, by decide +kernel, mm_tb_1 1398 (by decide +kernel) rfl, mm_tb_1 1399 (by decide +kernel) rfl⟩
theorem zk_TFLaw_185 : mm_Vl "TensorForgeLaw" 185 11 0 zy_compile_14_89 := ⟨zyw_compile_14_89, (R_Md, F_Md, 69), rfl, mm_tb_1 2133 (by decide +kernel) rfl, mm_tb_1 2134 (by decide +kernel) rfl, mm_tb_1 2135 (by decide +kernel) rfl⟩
theorem zk_TFLaw_186 : mm_Vl "TensorForgeLaw" 186 0 0 zy_reckon_1_24 := ⟨zyw_reckon_1_24, (R_TF, F_TF, 12), rfl, mm_tb_1 850 (by decide +kernel) rfl, mm_tb_1 851 (by decide +kernel) rfl, mm_tb_1 852 (by decide +kernel) rfl⟩
theorem zk_TFLaw_189 : mm_Vl "TensorForgeLaw" 189 11 0 zy_reckon_14_76 := ⟨zyw_reckon_14_76, (R_Md, F_Md, 69), rfl, mm_tb_1 2113 (by decide +kernel) rfl, mm_tb_1 2114 (by decide +kernel) rfl, mm_tb_1 2115 (by decide +kernel) rfl⟩
theorem zk_TFLaw_190 : mm_Vl "TensorForgeLaw" 190 0 0 zy_network_1_25 := ⟨zyw_network_1_25, (R_TF, F_TF, 12), rfl, mm_tb_1 908 (by decide +kernel) rfl, mm_tb_1 909 (by decide +kernel) rfl, mm_tb_1 910 (by decide +kernel) rfl⟩
theorem zk_TFLaw_193 : mm_Vl "TensorForgeLaw" 193 11 0 zy_network_14_105 := ⟨zyw_network_14_105, (R_Md, F_Md, 69), rfl, mm_tb_1 2184 (by decide +kernel) rfl, mm_tb_1 2185 (by decide +kernel) rfl, mm_tb_1 2186 (by decide +kernel) rfl⟩
theorem zhl_networkSign_L : mm_Hl "TensorForgeLaw" 194 4 [(0, 10, 13, 19)] zy_networkSign_L := ⟨zxY_networkSign_L, mm_tb_1 0 (by decide +kernel) rfl, ⟨by decide, by decide⟩, by decide +kernel, mm_tb_1 1481 (by decide +kernel) rfl, mm_tb_1 1482 (by decide +kernel) rfl⟩
theorem zk_TFLaw_196 : mm_Vl "TensorForgeLaw" 196 11 2 zy_networkSign_14_109 := ⟨zyw_networkSign_14_109, (R_Md, F_Md, 69), rfl, mm_tb_1 2257 (by decide +kernel) rfl, mm_tb_1 2258 (by decide +kernel) rfl, mm_tb_1 2259 (by decide +kernel) rfl⟩
theorem zhl_place_L : mm_Hl "TensorForgeLaw" 197 2 [(0, 8, 11, 29)] zy_place_L := ⟨zxY_place_L, mm_tb_1 0 (by decide +kernel) rfl, ⟨by decide, by decide⟩, by decide +kernel, mm_tb_1 1505 (by decide +kernel) rfl, mm_tb_1 1506 (by decide +kernel) rfl⟩
theorem zk_TFLaw_199 : mm_Vl "TensorForgeLaw" 199 11 0 zy_place_14_113 := ⟨zyw_place_14_113, (R_Md, F_Md, 69), rfl, mm_tb_1 2273 (by decide +kernel) rfl, mm_tb_1 2274 (by decide +kernel) rfl, mm_tb_1 2275 (by decide +kernel) rfl⟩
theorem zhl_under_L : mm_Hl "TensorForgeLaw" 200 4 [(0, 10, 13, 58), (0, 10, 17, 13)] zy_under_L := ⟨zxY_under_L, mm_tb_1 0 (by decide +kernel) rfl, ⟨by decide, by decide⟩, by decide +kernel, mm_tb_1 1534 (by decide +kernel) rfl, mm_tb_1 1535 (by decide +kernel) rfl⟩
theorem zk_TFLaw_202 : mm_Vl "TensorForgeLaw" 202 11 2 zy_under_14_117 := ⟨zyw_under_14_117, (R_Md, F_Md, 69), rfl, mm_tb_1 2293 (by decide +kernel) rfl, mm_tb_1 2294 (by decide +kernel) rfl, mm_tb_1 2295 (by decide +kernel) rfl⟩
theorem zhl_waits_L : mm_Hl "TensorForgeLaw" 203 4 [(0, 10, 13, 58), (0, 10, 17, 13)] zy_waits_L := ⟨zxY_waits_L, mm_tb_1 0 (by decide +kernel) rfl, ⟨by decide, by decide⟩, by decide +kernel, mm_tb_1 1558 (by decide +kernel) rfl, mm_tb_1 1559 (by decide +kernel) rfl⟩
theorem zk_TFLaw_205 : mm_Vl "TensorForgeLaw" 205 11 2 zy_waits_14_119 := ⟨zyw_waits_14_119, (R_Md, F_Md, 69), rfl, mm_tb_1 2305 (by decide +kernel) rfl, mm_tb_1 2306 (by decide +kernel) rfl, mm_tb_1 2307 (by decide +kernel) rfl⟩
theorem zg_L_law_23 : (decode zy_law_L.2.1 23 = .ok ((.iload 4), 2)) ∧ (decode zy_law_L.2.1 25 = .ok ((.aload_n 0), 1)) ∧ (decode zy_law_L.2.1 26 = .ok ((.arraylength), 1)) ∧ (decode zy_law_L.2.1 27 = .ok ((.bipush 7), 2)) ∧ (decode zy_law_L.2.1 29 = .ok ((.isub), 1)) ∧ (decode zy_law_L.2.1 30 = .ok ((Instr.if_icmp .gt) 1184, 3)) ∧ (decode zy_law_L.2.1 1214 = .ok ((.iconst 1), 1)) ∧ (decode zy_law_L.2.1 1215 = .ok ((.ireturn), 1)) ∧ (decode zy_law_L.2.1 33 = .ok ((.aload_n 0), 1)) ∧ (decode zy_law_L.2.1 34 = .ok ((.iload 4), 2)) := by decide +kernel
theorem zd_L_law_23 : zz_D zy_law_L 23 (.iload 4) 2 25 := ⟨zg_L_law_23.1, rfl⟩
theorem zd_L_law_25 : zz_D zy_law_L 25 (.aload_n 0) 1 26 := ⟨zg_L_law_23.2.1, rfl⟩
theorem zd_L_law_26 : zz_D zy_law_L 26 (.arraylength) 1 27 := ⟨zg_L_law_23.2.2.1, rfl⟩
theorem zd_L_law_27 : zz_D zy_law_L 27 (.bipush 7) 2 29 := ⟨zg_L_law_23.2.2.2.1, rfl⟩
theorem zd_L_law_29 : zz_D zy_law_L 29 (.isub) 1 30 := ⟨zg_L_law_23.2.2.2.2.1, rfl⟩
theorem zd_L_law_30 : zz_B zy_law_L 30 (Instr.if_icmp .gt) 1214 33 := ⟨1184, zg_L_law_23.2.2.2.2.2.1, rfl, rfl⟩
theorem zd_L_law_1214 : zz_D zy_law_L 1214 (.iconst 1) 1 1215 := ⟨zg_L_law_23.2.2.2.2.2.2.1, rfl⟩
theorem zd_L_law_1215 : zz_D zy_law_L 1215 (.ireturn) 1 1216 := ⟨zg_L_law_23.2.2.2.2.2.2.2.1, rfl⟩
theorem zd_L_law_33 : zz_D zy_law_L 33 (.aload_n 0) 1 34 := ⟨zg_L_law_23.2.2.2.2.2.2.2.2.1, rfl⟩
theorem zd_L_law_34 : zz_D zy_law_L 34 (.iload 4) 2 36 := ⟨zg_L_law_23.2.2.2.2.2.2.2.2.2, rfl⟩
theorem zg_L_law_36 : (decode zy_law_L.2.1 36 = .ok ((.iaload), 1)) ∧ (decode zy_law_L.2.1 37 = .ok ((.bipush 31), 2)) ∧ (decode zy_law_L.2.1 39 = .ok ((.iand), 1)) ∧ (decode zy_law_L.2.1 168 = .ok ((.aload_n 1), 1)) ∧ (decode zy_law_L.2.1 169 = .ok ((.aload_n 0), 1)) ∧ (decode zy_law_L.2.1 170 = .ok ((.iload 4), 2)) ∧ (decode zy_law_L.2.1 172 = .ok ((.iconst 1), 1)) ∧ (decode zy_law_L.2.1 173 = .ok ((.iadd), 1)) ∧ (decode zy_law_L.2.1 174 = .ok ((.iaload), 1)) ∧ (decode zy_law_L.2.1 175 = .ok ((.invokestatic 98), 3)) := by decide +kernel
theorem zd_L_law_36 : zz_D zy_law_L 36 (.iaload) 1 37 := ⟨zg_L_law_36.1, rfl⟩
theorem zd_L_law_37 : zz_D zy_law_L 37 (.bipush 31) 2 39 := ⟨zg_L_law_36.2.1, rfl⟩
theorem zd_L_law_39 : zz_D zy_law_L 39 (.iand) 1 40 := ⟨zg_L_law_36.2.2.1, rfl⟩
theorem zd_L_law_168 : zz_D zy_law_L 168 (.aload_n 1) 1 169 := ⟨zg_L_law_36.2.2.2.1, rfl⟩
theorem zd_L_law_169 : zz_D zy_law_L 169 (.aload_n 0) 1 170 := ⟨zg_L_law_36.2.2.2.2.1, rfl⟩
theorem zd_L_law_170 : zz_D zy_law_L 170 (.iload 4) 2 172 := ⟨zg_L_law_36.2.2.2.2.2.1, rfl⟩
theorem zd_L_law_172 : zz_D zy_law_L 172 (.iconst 1) 1 173 := ⟨zg_L_law_36.2.2.2.2.2.2.1, rfl⟩
theorem zd_L_law_173 : zz_D zy_law_L 173 (.iadd) 1 174 := ⟨zg_L_law_36.2.2.2.2.2.2.2.1, rfl⟩
theorem zd_L_law_174 : zz_D zy_law_L 174 (.iaload) 1 175 := ⟨zg_L_law_36.2.2.2.2.2.2.2.2.1, rfl⟩
theorem zd_L_law_175 : zz_D zy_law_L 175 (.invokestatic 98) 3 178 := ⟨zg_L_law_36.2.2.2.2.2.2.2.2.2, rfl⟩
theorem zg_L_law_178 : (decode zy_law_L.2.1 178 = .ok ((.istore 5), 2)) ∧ (decode zy_law_L.2.1 180 = .ok ((.aload_n 2), 1)) ∧ (decode zy_law_L.2.1 181 = .ok ((.aload_n 0), 1)) ∧ (decode zy_law_L.2.1 182 = .ok ((.iload 4), 2)) ∧ (decode zy_law_L.2.1 184 = .ok ((.iconst 1), 1)) ∧ (decode zy_law_L.2.1 185 = .ok ((.iadd), 1)) ∧ (decode zy_law_L.2.1 186 = .ok ((.iaload), 1)) ∧ (decode zy_law_L.2.1 187 = .ok ((.invokevirtual 103), 3)) ∧ (decode zy_law_L.2.1 190 = .ok (Instr.goto 1018, 3)) ∧ (decode zy_law_L.2.1 1208 = .ok ((.iinc 4 7), 3)) := by decide +kernel
theorem zd_L_law_178 : zz_D zy_law_L 178 (.istore 5) 2 180 := ⟨zg_L_law_178.1, rfl⟩
theorem zd_L_law_180 : zz_D zy_law_L 180 (.aload_n 2) 1 181 := ⟨zg_L_law_178.2.1, rfl⟩
theorem zd_L_law_181 : zz_D zy_law_L 181 (.aload_n 0) 1 182 := ⟨zg_L_law_178.2.2.1, rfl⟩
theorem zd_L_law_182 : zz_D zy_law_L 182 (.iload 4) 2 184 := ⟨zg_L_law_178.2.2.2.1, rfl⟩
theorem zd_L_law_184 : zz_D zy_law_L 184 (.iconst 1) 1 185 := ⟨zg_L_law_178.2.2.2.2.1, rfl⟩
theorem zd_L_law_185 : zz_D zy_law_L 185 (.iadd) 1 186 := ⟨zg_L_law_178.2.2.2.2.2.1, rfl⟩
theorem zd_L_law_186 : zz_D zy_law_L 186 (.iaload) 1 187 := ⟨zg_L_law_178.2.2.2.2.2.2.1, rfl⟩
theorem zd_L_law_187 : zz_D zy_law_L 187 (.invokevirtual 103) 3 190 := ⟨zg_L_law_178.2.2.2.2.2.2.2.1, rfl⟩
theorem zd_L_law_190 : zz_B zy_law_L 190 Instr.goto 1208 193 := ⟨1018, zg_L_law_178.2.2.2.2.2.2.2.2.1, rfl, rfl⟩
theorem zd_L_law_1208 : zz_D zy_law_L 1208 (.iinc 4 7) 3 1211 := ⟨zg_L_law_178.2.2.2.2.2.2.2.2.2, rfl⟩
theorem zg_L_law_1211 : (decode zy_law_L.2.1 1211 = .ok (Instr.goto (-1188), 3)) ∧ (decode zy_law_L.2.1 193 = .ok ((.aload_n 1), 1)) ∧ (decode zy_law_L.2.1 194 = .ok ((.aload_n 0), 1)) ∧ (decode zy_law_L.2.1 195 = .ok ((.iload 4), 2)) ∧ (decode zy_law_L.2.1 197 = .ok ((.iconst 1), 1)) ∧ (decode zy_law_L.2.1 198 = .ok ((.iadd), 1)) ∧ (decode zy_law_L.2.1 199 = .ok ((.iaload), 1)) ∧ (decode zy_law_L.2.1 200 = .ok ((.aload_n 0), 1)) ∧ (decode zy_law_L.2.1 201 = .ok ((.iload 4), 2)) ∧ (decode zy_law_L.2.1 203 = .ok ((.iconst 2), 1)) := by decide +kernel
theorem zd_L_law_1211 : zz_B zy_law_L 1211 Instr.goto 23 1214 := ⟨(-1188), zg_L_law_1211.1, rfl, rfl⟩
theorem zd_L_law_193 : zz_D zy_law_L 193 (.aload_n 1) 1 194 := ⟨zg_L_law_1211.2.1, rfl⟩
theorem zd_L_law_194 : zz_D zy_law_L 194 (.aload_n 0) 1 195 := ⟨zg_L_law_1211.2.2.1, rfl⟩
theorem zd_L_law_195 : zz_D zy_law_L 195 (.iload 4) 2 197 := ⟨zg_L_law_1211.2.2.2.1, rfl⟩
theorem zd_L_law_197 : zz_D zy_law_L 197 (.iconst 1) 1 198 := ⟨zg_L_law_1211.2.2.2.2.1, rfl⟩
theorem zd_L_law_198 : zz_D zy_law_L 198 (.iadd) 1 199 := ⟨zg_L_law_1211.2.2.2.2.2.1, rfl⟩
theorem zd_L_law_199 : zz_D zy_law_L 199 (.iaload) 1 200 := ⟨zg_L_law_1211.2.2.2.2.2.2.1, rfl⟩
theorem zd_L_law_200 : zz_D zy_law_L 200 (.aload_n 0) 1 201 := ⟨zg_L_law_1211.2.2.2.2.2.2.2.1, rfl⟩
theorem zd_L_law_201 : zz_D zy_law_L 201 (.iload 4) 2 203 := ⟨zg_L_law_1211.2.2.2.2.2.2.2.2.1, rfl⟩
theorem zd_L_law_203 : zz_D zy_law_L 203 (.iconst 2) 1 204 := ⟨zg_L_law_1211.2.2.2.2.2.2.2.2.2, rfl⟩
theorem zg_L_law_204 : (decode zy_law_L.2.1 204 = .ok ((.iadd), 1)) ∧ (decode zy_law_L.2.1 205 = .ok ((.iaload), 1)) ∧ (decode zy_law_L.2.1 206 = .ok ((.invokestatic 104), 3)) ∧ (decode zy_law_L.2.1 209 = .ok ((.istore 5), 2)) ∧ (decode zy_law_L.2.1 211 = .ok ((.aload_n 2), 1)) ∧ (decode zy_law_L.2.1 212 = .ok ((.aload_n 0), 1)) ∧ (decode zy_law_L.2.1 213 = .ok ((.iload 4), 2)) ∧ (decode zy_law_L.2.1 215 = .ok ((.iconst 1), 1)) ∧ (decode zy_law_L.2.1 216 = .ok ((.iadd), 1)) ∧ (decode zy_law_L.2.1 217 = .ok ((.iaload), 1)) := by decide +kernel
theorem zd_L_law_204 : zz_D zy_law_L 204 (.iadd) 1 205 := ⟨zg_L_law_204.1, rfl⟩
theorem zd_L_law_205 : zz_D zy_law_L 205 (.iaload) 1 206 := ⟨zg_L_law_204.2.1, rfl⟩
theorem zd_L_law_206 : zz_D zy_law_L 206 (.invokestatic 104) 3 209 := ⟨zg_L_law_204.2.2.1, rfl⟩
theorem zd_L_law_209 : zz_D zy_law_L 209 (.istore 5) 2 211 := ⟨zg_L_law_204.2.2.2.1, rfl⟩
theorem zd_L_law_211 : zz_D zy_law_L 211 (.aload_n 2) 1 212 := ⟨zg_L_law_204.2.2.2.2.1, rfl⟩
theorem zd_L_law_212 : zz_D zy_law_L 212 (.aload_n 0) 1 213 := ⟨zg_L_law_204.2.2.2.2.2.1, rfl⟩
theorem zd_L_law_213 : zz_D zy_law_L 213 (.iload 4) 2 215 := ⟨zg_L_law_204.2.2.2.2.2.2.1, rfl⟩
theorem zd_L_law_215 : zz_D zy_law_L 215 (.iconst 1) 1 216 := ⟨zg_L_law_204.2.2.2.2.2.2.2.1, rfl⟩
theorem zd_L_law_216 : zz_D zy_law_L 216 (.iadd) 1 217 := ⟨zg_L_law_204.2.2.2.2.2.2.2.2.1, rfl⟩
theorem zd_L_law_217 : zz_D zy_law_L 217 (.iaload) 1 218 := ⟨zg_L_law_204.2.2.2.2.2.2.2.2.2, rfl⟩
theorem zg_L_law_218 : (decode zy_law_L.2.1 218 = .ok ((.aload_n 0), 1)) ∧ (decode zy_law_L.2.1 219 = .ok ((.iload 4), 2)) ∧ (decode zy_law_L.2.1 221 = .ok ((.iconst 2), 1)) ∧ (decode zy_law_L.2.1 222 = .ok ((.iadd), 1)) ∧ (decode zy_law_L.2.1 223 = .ok ((.iaload), 1)) ∧ (decode zy_law_L.2.1 224 = .ok ((.invokevirtual 107), 3)) ∧ (decode zy_law_L.2.1 227 = .ok (Instr.goto 981, 3)) ∧ (decode zy_law_L.2.1 230 = .ok ((.aload_n 1), 1)) ∧ (decode zy_law_L.2.1 231 = .ok ((.aload_n 0), 1)) ∧ (decode zy_law_L.2.1 232 = .ok ((.iload 4), 2)) := by decide +kernel
theorem zd_L_law_218 : zz_D zy_law_L 218 (.aload_n 0) 1 219 := ⟨zg_L_law_218.1, rfl⟩
theorem zd_L_law_219 : zz_D zy_law_L 219 (.iload 4) 2 221 := ⟨zg_L_law_218.2.1, rfl⟩
theorem zd_L_law_221 : zz_D zy_law_L 221 (.iconst 2) 1 222 := ⟨zg_L_law_218.2.2.1, rfl⟩
theorem zd_L_law_222 : zz_D zy_law_L 222 (.iadd) 1 223 := ⟨zg_L_law_218.2.2.2.1, rfl⟩
theorem zd_L_law_223 : zz_D zy_law_L 223 (.iaload) 1 224 := ⟨zg_L_law_218.2.2.2.2.1, rfl⟩
theorem zd_L_law_224 : zz_D zy_law_L 224 (.invokevirtual 107) 3 227 := ⟨zg_L_law_218.2.2.2.2.2.1, rfl⟩
theorem zd_L_law_227 : zz_B zy_law_L 227 Instr.goto 1208 230 := ⟨981, zg_L_law_218.2.2.2.2.2.2.1, rfl, rfl⟩
theorem zd_L_law_230 : zz_D zy_law_L 230 (.aload_n 1) 1 231 := ⟨zg_L_law_218.2.2.2.2.2.2.2.1, rfl⟩
theorem zd_L_law_231 : zz_D zy_law_L 231 (.aload_n 0) 1 232 := ⟨zg_L_law_218.2.2.2.2.2.2.2.2.1, rfl⟩
theorem zd_L_law_232 : zz_D zy_law_L 232 (.iload 4) 2 234 := ⟨zg_L_law_218.2.2.2.2.2.2.2.2.2, rfl⟩
theorem zg_L_law_234 : (decode zy_law_L.2.1 234 = .ok ((.iconst 1), 1)) ∧ (decode zy_law_L.2.1 235 = .ok ((.iadd), 1)) ∧ (decode zy_law_L.2.1 236 = .ok ((.iaload), 1)) ∧ (decode zy_law_L.2.1 237 = .ok ((.aload_n 0), 1)) ∧ (decode zy_law_L.2.1 238 = .ok ((.iload 4), 2)) ∧ (decode zy_law_L.2.1 240 = .ok ((.iconst 2), 1)) ∧ (decode zy_law_L.2.1 241 = .ok ((.iadd), 1)) ∧ (decode zy_law_L.2.1 242 = .ok ((.iaload), 1)) ∧ (decode zy_law_L.2.1 243 = .ok ((.aload_n 3), 1)) ∧ (decode zy_law_L.2.1 244 = .ok ((.invokestatic 108), 3)) := by decide +kernel
theorem zd_L_law_234 : zz_D zy_law_L 234 (.iconst 1) 1 235 := ⟨zg_L_law_234.1, rfl⟩
theorem zd_L_law_235 : zz_D zy_law_L 235 (.iadd) 1 236 := ⟨zg_L_law_234.2.1, rfl⟩
theorem zd_L_law_236 : zz_D zy_law_L 236 (.iaload) 1 237 := ⟨zg_L_law_234.2.2.1, rfl⟩
theorem zd_L_law_237 : zz_D zy_law_L 237 (.aload_n 0) 1 238 := ⟨zg_L_law_234.2.2.2.1, rfl⟩
theorem zd_L_law_238 : zz_D zy_law_L 238 (.iload 4) 2 240 := ⟨zg_L_law_234.2.2.2.2.1, rfl⟩
theorem zd_L_law_240 : zz_D zy_law_L 240 (.iconst 2) 1 241 := ⟨zg_L_law_234.2.2.2.2.2.1, rfl⟩
theorem zd_L_law_241 : zz_D zy_law_L 241 (.iadd) 1 242 := ⟨zg_L_law_234.2.2.2.2.2.2.1, rfl⟩
theorem zd_L_law_242 : zz_D zy_law_L 242 (.iaload) 1 243 := ⟨zg_L_law_234.2.2.2.2.2.2.2.1, rfl⟩
theorem zd_L_law_243 : zz_D zy_law_L 243 (.aload_n 3) 1 244 := ⟨zg_L_law_234.2.2.2.2.2.2.2.2.1, rfl⟩
theorem zd_L_law_244 : zz_D zy_law_L 244 (.invokestatic 108) 3 247 := ⟨zg_L_law_234.2.2.2.2.2.2.2.2.2, rfl⟩
theorem zg_L_law_247 : (decode zy_law_L.2.1 247 = .ok ((.istore 5), 2)) ∧ (decode zy_law_L.2.1 249 = .ok ((.aload_n 2), 1)) ∧ (decode zy_law_L.2.1 250 = .ok ((.aload_n 0), 1)) ∧ (decode zy_law_L.2.1 251 = .ok ((.iload 4), 2)) ∧ (decode zy_law_L.2.1 253 = .ok ((.iconst 1), 1)) ∧ (decode zy_law_L.2.1 254 = .ok ((.iadd), 1)) ∧ (decode zy_law_L.2.1 255 = .ok ((.iaload), 1)) ∧ (decode zy_law_L.2.1 256 = .ok ((.aload_n 0), 1)) ∧ (decode zy_law_L.2.1 257 = .ok ((.iload 4), 2)) ∧ (decode zy_law_L.2.1 259 = .ok ((.iconst 2), 1)) := by decide +kernel
theorem zd_L_law_247 : zz_D zy_law_L 247 (.istore 5) 2 249 := ⟨zg_L_law_247.1, rfl⟩
theorem zd_L_law_249 : zz_D zy_law_L 249 (.aload_n 2) 1 250 := ⟨zg_L_law_247.2.1, rfl⟩
theorem zd_L_law_250 : zz_D zy_law_L 250 (.aload_n 0) 1 251 := ⟨zg_L_law_247.2.2.1, rfl⟩
theorem zd_L_law_251 : zz_D zy_law_L 251 (.iload 4) 2 253 := ⟨zg_L_law_247.2.2.2.1, rfl⟩
theorem zd_L_law_253 : zz_D zy_law_L 253 (.iconst 1) 1 254 := ⟨zg_L_law_247.2.2.2.2.1, rfl⟩
theorem zd_L_law_254 : zz_D zy_law_L 254 (.iadd) 1 255 := ⟨zg_L_law_247.2.2.2.2.2.1, rfl⟩
theorem zd_L_law_255 : zz_D zy_law_L 255 (.iaload) 1 256 := ⟨zg_L_law_247.2.2.2.2.2.2.1, rfl⟩
theorem zd_L_law_256 : zz_D zy_law_L 256 (.aload_n 0) 1 257 := ⟨zg_L_law_247.2.2.2.2.2.2.2.1, rfl⟩
theorem zd_L_law_257 : zz_D zy_law_L 257 (.iload 4) 2 259 := ⟨zg_L_law_247.2.2.2.2.2.2.2.2.1, rfl⟩
theorem zd_L_law_259 : zz_D zy_law_L 259 (.iconst 2) 1 260 := ⟨zg_L_law_247.2.2.2.2.2.2.2.2.2, rfl⟩
theorem zg_L_law_260 : (decode zy_law_L.2.1 260 = .ok ((.iadd), 1)) ∧ (decode zy_law_L.2.1 261 = .ok ((.iaload), 1)) ∧ (decode zy_law_L.2.1 262 = .ok ((.invokevirtual 111), 3)) ∧ (decode zy_law_L.2.1 265 = .ok ((.istore 6), 2)) ∧ (decode zy_law_L.2.1 267 = .ok (Instr.goto 941, 3)) ∧ (decode zy_law_L.2.1 270 = .ok ((.aload_n 1), 1)) ∧ (decode zy_law_L.2.1 271 = .ok ((.aload_n 0), 1)) ∧ (decode zy_law_L.2.1 272 = .ok ((.iload 4), 2)) ∧ (decode zy_law_L.2.1 274 = .ok ((.iconst 1), 1)) ∧ (decode zy_law_L.2.1 275 = .ok ((.iadd), 1)) := by decide +kernel
theorem zd_L_law_260 : zz_D zy_law_L 260 (.iadd) 1 261 := ⟨zg_L_law_260.1, rfl⟩
theorem zd_L_law_261 : zz_D zy_law_L 261 (.iaload) 1 262 := ⟨zg_L_law_260.2.1, rfl⟩
theorem zd_L_law_262 : zz_D zy_law_L 262 (.invokevirtual 111) 3 265 := ⟨zg_L_law_260.2.2.1, rfl⟩
theorem zd_L_law_265 : zz_D zy_law_L 265 (.istore 6) 2 267 := ⟨zg_L_law_260.2.2.2.1, rfl⟩
theorem zd_L_law_267 : zz_B zy_law_L 267 Instr.goto 1208 270 := ⟨941, zg_L_law_260.2.2.2.2.1, rfl, rfl⟩
theorem zd_L_law_270 : zz_D zy_law_L 270 (.aload_n 1) 1 271 := ⟨zg_L_law_260.2.2.2.2.2.1, rfl⟩
theorem zd_L_law_271 : zz_D zy_law_L 271 (.aload_n 0) 1 272 := ⟨zg_L_law_260.2.2.2.2.2.2.1, rfl⟩
theorem zd_L_law_272 : zz_D zy_law_L 272 (.iload 4) 2 274 := ⟨zg_L_law_260.2.2.2.2.2.2.2.1, rfl⟩
theorem zd_L_law_274 : zz_D zy_law_L 274 (.iconst 1) 1 275 := ⟨zg_L_law_260.2.2.2.2.2.2.2.2.1, rfl⟩
theorem zd_L_law_275 : zz_D zy_law_L 275 (.iadd) 1 276 := ⟨zg_L_law_260.2.2.2.2.2.2.2.2.2, rfl⟩
theorem zg_L_law_276 : (decode zy_law_L.2.1 276 = .ok ((.iaload), 1)) ∧ (decode zy_law_L.2.1 277 = .ok ((.aload_n 0), 1)) ∧ (decode zy_law_L.2.1 278 = .ok ((.iload 4), 2)) ∧ (decode zy_law_L.2.1 280 = .ok ((.iconst 2), 1)) ∧ (decode zy_law_L.2.1 281 = .ok ((.iadd), 1)) ∧ (decode zy_law_L.2.1 282 = .ok ((.iaload), 1)) ∧ (decode zy_law_L.2.1 283 = .ok ((.i2l), 1)) ∧ (decode zy_law_L.2.1 284 = .ok ((.bipush 32), 2)) ∧ (decode zy_law_L.2.1 286 = .ok ((.lshl), 1)) ∧ (decode zy_law_L.2.1 287 = .ok ((.aload_n 0), 1)) := by decide +kernel
theorem zd_L_law_276 : zz_D zy_law_L 276 (.iaload) 1 277 := ⟨zg_L_law_276.1, rfl⟩
theorem zd_L_law_277 : zz_D zy_law_L 277 (.aload_n 0) 1 278 := ⟨zg_L_law_276.2.1, rfl⟩
theorem zd_L_law_278 : zz_D zy_law_L 278 (.iload 4) 2 280 := ⟨zg_L_law_276.2.2.1, rfl⟩
theorem zd_L_law_280 : zz_D zy_law_L 280 (.iconst 2) 1 281 := ⟨zg_L_law_276.2.2.2.1, rfl⟩
theorem zd_L_law_281 : zz_D zy_law_L 281 (.iadd) 1 282 := ⟨zg_L_law_276.2.2.2.2.1, rfl⟩
theorem zd_L_law_282 : zz_D zy_law_L 282 (.iaload) 1 283 := ⟨zg_L_law_276.2.2.2.2.2.1, rfl⟩
theorem zd_L_law_283 : zz_D zy_law_L 283 (.i2l) 1 284 := ⟨zg_L_law_276.2.2.2.2.2.2.1, rfl⟩
theorem zd_L_law_284 : zz_D zy_law_L 284 (.bipush 32) 2 286 := ⟨zg_L_law_276.2.2.2.2.2.2.2.1, rfl⟩
theorem zd_L_law_286 : zz_D zy_law_L 286 (.lshl) 1 287 := ⟨zg_L_law_276.2.2.2.2.2.2.2.2.1, rfl⟩
theorem zd_L_law_287 : zz_D zy_law_L 287 (.aload_n 0) 1 288 := ⟨zg_L_law_276.2.2.2.2.2.2.2.2.2, rfl⟩
theorem zg_L_law_288 : (decode zy_law_L.2.1 288 = .ok ((.iload 4), 2)) ∧ (decode zy_law_L.2.1 290 = .ok ((.iconst 3), 1)) ∧ (decode zy_law_L.2.1 291 = .ok ((.iadd), 1)) ∧ (decode zy_law_L.2.1 292 = .ok ((.iaload), 1)) ∧ (decode zy_law_L.2.1 293 = .ok ((.i2l), 1)) ∧ (decode zy_law_L.2.1 294 = .ok ((.ldc2_w 112), 3)) ∧ (decode zy_law_L.2.1 297 = .ok ((.land), 1)) ∧ (decode zy_law_L.2.1 298 = .ok ((.lor), 1)) ∧ (decode zy_law_L.2.1 299 = .ok ((.invokestatic 114), 3)) ∧ (decode zy_law_L.2.1 302 = .ok ((.istore 5), 2)) := by decide +kernel
theorem zd_L_law_288 : zz_D zy_law_L 288 (.iload 4) 2 290 := ⟨zg_L_law_288.1, rfl⟩
theorem zd_L_law_290 : zz_D zy_law_L 290 (.iconst 3) 1 291 := ⟨zg_L_law_288.2.1, rfl⟩
theorem zd_L_law_291 : zz_D zy_law_L 291 (.iadd) 1 292 := ⟨zg_L_law_288.2.2.1, rfl⟩
theorem zd_L_law_292 : zz_D zy_law_L 292 (.iaload) 1 293 := ⟨zg_L_law_288.2.2.2.1, rfl⟩
theorem zd_L_law_293 : zz_D zy_law_L 293 (.i2l) 1 294 := ⟨zg_L_law_288.2.2.2.2.1, rfl⟩
theorem zd_L_law_294 : zz_D zy_law_L 294 (.ldc2_w 112) 3 297 := ⟨zg_L_law_288.2.2.2.2.2.1, rfl⟩
theorem zd_L_law_297 : zz_D zy_law_L 297 (.land) 1 298 := ⟨zg_L_law_288.2.2.2.2.2.2.1, rfl⟩
theorem zd_L_law_298 : zz_D zy_law_L 298 (.lor) 1 299 := ⟨zg_L_law_288.2.2.2.2.2.2.2.1, rfl⟩
theorem zd_L_law_299 : zz_D zy_law_L 299 (.invokestatic 114) 3 302 := ⟨zg_L_law_288.2.2.2.2.2.2.2.2.1, rfl⟩
theorem zd_L_law_302 : zz_D zy_law_L 302 (.istore 5) 2 304 := ⟨zg_L_law_288.2.2.2.2.2.2.2.2.2, rfl⟩
theorem zg_L_law_304 : (decode zy_law_L.2.1 304 = .ok ((.aload_n 2), 1)) ∧ (decode zy_law_L.2.1 305 = .ok ((.aload_n 0), 1)) ∧ (decode zy_law_L.2.1 306 = .ok ((.iload 4), 2)) ∧ (decode zy_law_L.2.1 308 = .ok ((.iconst 1), 1)) ∧ (decode zy_law_L.2.1 309 = .ok ((.iadd), 1)) ∧ (decode zy_law_L.2.1 310 = .ok ((.iaload), 1)) ∧ (decode zy_law_L.2.1 311 = .ok ((.aload_n 0), 1)) ∧ (decode zy_law_L.2.1 312 = .ok ((.iload 4), 2)) ∧ (decode zy_law_L.2.1 314 = .ok ((.iconst 2), 1)) ∧ (decode zy_law_L.2.1 315 = .ok ((.iadd), 1)) := by decide +kernel
theorem zd_L_law_304 : zz_D zy_law_L 304 (.aload_n 2) 1 305 := ⟨zg_L_law_304.1, rfl⟩
theorem zd_L_law_305 : zz_D zy_law_L 305 (.aload_n 0) 1 306 := ⟨zg_L_law_304.2.1, rfl⟩
theorem zd_L_law_306 : zz_D zy_law_L 306 (.iload 4) 2 308 := ⟨zg_L_law_304.2.2.1, rfl⟩
theorem zd_L_law_308 : zz_D zy_law_L 308 (.iconst 1) 1 309 := ⟨zg_L_law_304.2.2.2.1, rfl⟩
theorem zd_L_law_309 : zz_D zy_law_L 309 (.iadd) 1 310 := ⟨zg_L_law_304.2.2.2.2.1, rfl⟩
theorem zd_L_law_310 : zz_D zy_law_L 310 (.iaload) 1 311 := ⟨zg_L_law_304.2.2.2.2.2.1, rfl⟩
theorem zd_L_law_311 : zz_D zy_law_L 311 (.aload_n 0) 1 312 := ⟨zg_L_law_304.2.2.2.2.2.2.1, rfl⟩
theorem zd_L_law_312 : zz_D zy_law_L 312 (.iload 4) 2 314 := ⟨zg_L_law_304.2.2.2.2.2.2.2.1, rfl⟩
theorem zd_L_law_314 : zz_D zy_law_L 314 (.iconst 2) 1 315 := ⟨zg_L_law_304.2.2.2.2.2.2.2.2.1, rfl⟩
theorem zd_L_law_315 : zz_D zy_law_L 315 (.iadd) 1 316 := ⟨zg_L_law_304.2.2.2.2.2.2.2.2.2, rfl⟩
theorem zg_L_law_316 : (decode zy_law_L.2.1 316 = .ok ((.iaload), 1)) ∧ (decode zy_law_L.2.1 317 = .ok ((.i2l), 1)) ∧ (decode zy_law_L.2.1 318 = .ok ((.bipush 32), 2)) ∧ (decode zy_law_L.2.1 320 = .ok ((.lshl), 1)) ∧ (decode zy_law_L.2.1 321 = .ok ((.aload_n 0), 1)) ∧ (decode zy_law_L.2.1 322 = .ok ((.iload 4), 2)) ∧ (decode zy_law_L.2.1 324 = .ok ((.iconst 3), 1)) ∧ (decode zy_law_L.2.1 325 = .ok ((.iadd), 1)) ∧ (decode zy_law_L.2.1 326 = .ok ((.iaload), 1)) ∧ (decode zy_law_L.2.1 327 = .ok ((.i2l), 1)) := by decide +kernel
theorem zd_L_law_316 : zz_D zy_law_L 316 (.iaload) 1 317 := ⟨zg_L_law_316.1, rfl⟩
theorem zd_L_law_317 : zz_D zy_law_L 317 (.i2l) 1 318 := ⟨zg_L_law_316.2.1, rfl⟩
theorem zd_L_law_318 : zz_D zy_law_L 318 (.bipush 32) 2 320 := ⟨zg_L_law_316.2.2.1, rfl⟩
theorem zd_L_law_320 : zz_D zy_law_L 320 (.lshl) 1 321 := ⟨zg_L_law_316.2.2.2.1, rfl⟩
theorem zd_L_law_321 : zz_D zy_law_L 321 (.aload_n 0) 1 322 := ⟨zg_L_law_316.2.2.2.2.1, rfl⟩
theorem zd_L_law_322 : zz_D zy_law_L 322 (.iload 4) 2 324 := ⟨zg_L_law_316.2.2.2.2.2.1, rfl⟩
theorem zd_L_law_324 : zz_D zy_law_L 324 (.iconst 3) 1 325 := ⟨zg_L_law_316.2.2.2.2.2.2.1, rfl⟩
theorem zd_L_law_325 : zz_D zy_law_L 325 (.iadd) 1 326 := ⟨zg_L_law_316.2.2.2.2.2.2.2.1, rfl⟩
theorem zd_L_law_326 : zz_D zy_law_L 326 (.iaload) 1 327 := ⟨zg_L_law_316.2.2.2.2.2.2.2.2.1, rfl⟩
theorem zd_L_law_327 : zz_D zy_law_L 327 (.i2l) 1 328 := ⟨zg_L_law_316.2.2.2.2.2.2.2.2.2, rfl⟩
theorem zg_L_law_328 : (decode zy_law_L.2.1 328 = .ok ((.ldc2_w 112), 3)) ∧ (decode zy_law_L.2.1 331 = .ok ((.land), 1)) ∧ (decode zy_law_L.2.1 332 = .ok ((.lor), 1)) ∧ (decode zy_law_L.2.1 333 = .ok ((.invokevirtual 117), 3)) ∧ (decode zy_law_L.2.1 336 = .ok (Instr.goto 872, 3)) ∧ (decode zy_law_L.2.1 339 = .ok ((.aload_n 1), 1)) ∧ (decode zy_law_L.2.1 340 = .ok ((.aload_n 0), 1)) ∧ (decode zy_law_L.2.1 341 = .ok ((.iload 4), 2)) ∧ (decode zy_law_L.2.1 343 = .ok ((.iconst 1), 1)) ∧ (decode zy_law_L.2.1 344 = .ok ((.iadd), 1)) := by decide +kernel
theorem zd_L_law_328 : zz_D zy_law_L 328 (.ldc2_w 112) 3 331 := ⟨zg_L_law_328.1, rfl⟩
theorem zd_L_law_331 : zz_D zy_law_L 331 (.land) 1 332 := ⟨zg_L_law_328.2.1, rfl⟩
theorem zd_L_law_332 : zz_D zy_law_L 332 (.lor) 1 333 := ⟨zg_L_law_328.2.2.1, rfl⟩
theorem zd_L_law_333 : zz_D zy_law_L 333 (.invokevirtual 117) 3 336 := ⟨zg_L_law_328.2.2.2.1, rfl⟩
theorem zd_L_law_336 : zz_B zy_law_L 336 Instr.goto 1208 339 := ⟨872, zg_L_law_328.2.2.2.2.1, rfl, rfl⟩
theorem zd_L_law_339 : zz_D zy_law_L 339 (.aload_n 1) 1 340 := ⟨zg_L_law_328.2.2.2.2.2.1, rfl⟩
theorem zd_L_law_340 : zz_D zy_law_L 340 (.aload_n 0) 1 341 := ⟨zg_L_law_328.2.2.2.2.2.2.1, rfl⟩
theorem zd_L_law_341 : zz_D zy_law_L 341 (.iload 4) 2 343 := ⟨zg_L_law_328.2.2.2.2.2.2.2.1, rfl⟩
theorem zd_L_law_343 : zz_D zy_law_L 343 (.iconst 1) 1 344 := ⟨zg_L_law_328.2.2.2.2.2.2.2.2.1, rfl⟩
theorem zd_L_law_344 : zz_D zy_law_L 344 (.iadd) 1 345 := ⟨zg_L_law_328.2.2.2.2.2.2.2.2.2, rfl⟩
theorem zg_L_law_345 : (decode zy_law_L.2.1 345 = .ok ((.iaload), 1)) ∧ (decode zy_law_L.2.1 346 = .ok ((.invokestatic 118), 3)) ∧ (decode zy_law_L.2.1 349 = .ok ((.istore 5), 2)) ∧ (decode zy_law_L.2.1 351 = .ok ((.aload_n 2), 1)) ∧ (decode zy_law_L.2.1 352 = .ok ((.aload_n 0), 1)) ∧ (decode zy_law_L.2.1 353 = .ok ((.iload 4), 2)) ∧ (decode zy_law_L.2.1 355 = .ok ((.iconst 1), 1)) ∧ (decode zy_law_L.2.1 356 = .ok ((.iadd), 1)) ∧ (decode zy_law_L.2.1 357 = .ok ((.iaload), 1)) ∧ (decode zy_law_L.2.1 358 = .ok ((.invokevirtual 120), 3)) := by decide +kernel
theorem zd_L_law_345 : zz_D zy_law_L 345 (.iaload) 1 346 := ⟨zg_L_law_345.1, rfl⟩
theorem zd_L_law_346 : zz_D zy_law_L 346 (.invokestatic 118) 3 349 := ⟨zg_L_law_345.2.1, rfl⟩
theorem zd_L_law_349 : zz_D zy_law_L 349 (.istore 5) 2 351 := ⟨zg_L_law_345.2.2.1, rfl⟩
theorem zd_L_law_351 : zz_D zy_law_L 351 (.aload_n 2) 1 352 := ⟨zg_L_law_345.2.2.2.1, rfl⟩
theorem zd_L_law_352 : zz_D zy_law_L 352 (.aload_n 0) 1 353 := ⟨zg_L_law_345.2.2.2.2.1, rfl⟩
theorem zd_L_law_353 : zz_D zy_law_L 353 (.iload 4) 2 355 := ⟨zg_L_law_345.2.2.2.2.2.1, rfl⟩
theorem zd_L_law_355 : zz_D zy_law_L 355 (.iconst 1) 1 356 := ⟨zg_L_law_345.2.2.2.2.2.2.1, rfl⟩
theorem zd_L_law_356 : zz_D zy_law_L 356 (.iadd) 1 357 := ⟨zg_L_law_345.2.2.2.2.2.2.2.1, rfl⟩
theorem zd_L_law_357 : zz_D zy_law_L 357 (.iaload) 1 358 := ⟨zg_L_law_345.2.2.2.2.2.2.2.2.1, rfl⟩
theorem zd_L_law_358 : zz_D zy_law_L 358 (.invokevirtual 120) 3 361 := ⟨zg_L_law_345.2.2.2.2.2.2.2.2.2, rfl⟩
theorem zg_L_law_361 : (decode zy_law_L.2.1 361 = .ok (Instr.goto 847, 3)) ∧ (decode zy_law_L.2.1 364 = .ok ((.aload_n 1), 1)) ∧ (decode zy_law_L.2.1 365 = .ok ((.aload_n 0), 1)) ∧ (decode zy_law_L.2.1 366 = .ok ((.iload 4), 2)) ∧ (decode zy_law_L.2.1 368 = .ok ((.iconst 1), 1)) ∧ (decode zy_law_L.2.1 369 = .ok ((.iadd), 1)) ∧ (decode zy_law_L.2.1 370 = .ok ((.iaload), 1)) ∧ (decode zy_law_L.2.1 371 = .ok ((.aload_n 3), 1)) ∧ (decode zy_law_L.2.1 372 = .ok ((.invokestatic 121), 3)) ∧ (decode zy_law_L.2.1 375 = .ok ((.istore 5), 2)) := by decide +kernel
theorem zd_L_law_361 : zz_B zy_law_L 361 Instr.goto 1208 364 := ⟨847, zg_L_law_361.1, rfl, rfl⟩
theorem zd_L_law_364 : zz_D zy_law_L 364 (.aload_n 1) 1 365 := ⟨zg_L_law_361.2.1, rfl⟩
theorem zd_L_law_365 : zz_D zy_law_L 365 (.aload_n 0) 1 366 := ⟨zg_L_law_361.2.2.1, rfl⟩
theorem zd_L_law_366 : zz_D zy_law_L 366 (.iload 4) 2 368 := ⟨zg_L_law_361.2.2.2.1, rfl⟩
theorem zd_L_law_368 : zz_D zy_law_L 368 (.iconst 1) 1 369 := ⟨zg_L_law_361.2.2.2.2.1, rfl⟩
theorem zd_L_law_369 : zz_D zy_law_L 369 (.iadd) 1 370 := ⟨zg_L_law_361.2.2.2.2.2.1, rfl⟩
theorem zd_L_law_370 : zz_D zy_law_L 370 (.iaload) 1 371 := ⟨zg_L_law_361.2.2.2.2.2.2.1, rfl⟩
theorem zd_L_law_371 : zz_D zy_law_L 371 (.aload_n 3) 1 372 := ⟨zg_L_law_361.2.2.2.2.2.2.2.1, rfl⟩
theorem zd_L_law_372 : zz_D zy_law_L 372 (.invokestatic 121) 3 375 := ⟨zg_L_law_361.2.2.2.2.2.2.2.2.1, rfl⟩
theorem zd_L_law_375 : zz_D zy_law_L 375 (.istore 5) 2 377 := ⟨zg_L_law_361.2.2.2.2.2.2.2.2.2, rfl⟩
theorem zg_L_law_377 : (decode zy_law_L.2.1 377 = .ok ((.aload_n 2), 1)) ∧ (decode zy_law_L.2.1 378 = .ok ((.aload_n 0), 1)) ∧ (decode zy_law_L.2.1 379 = .ok ((.iload 4), 2)) ∧ (decode zy_law_L.2.1 381 = .ok ((.iconst 1), 1)) ∧ (decode zy_law_L.2.1 382 = .ok ((.iadd), 1)) ∧ (decode zy_law_L.2.1 383 = .ok ((.iaload), 1)) ∧ (decode zy_law_L.2.1 384 = .ok ((.invokevirtual 124), 3)) ∧ (decode zy_law_L.2.1 387 = .ok ((.lstore 6), 2)) ∧ (decode zy_law_L.2.1 389 = .ok (Instr.goto 819, 3)) ∧ (decode zy_law_L.2.1 392 = .ok ((.aload_n 1), 1)) := by decide +kernel
theorem zd_L_law_377 : zz_D zy_law_L 377 (.aload_n 2) 1 378 := ⟨zg_L_law_377.1, rfl⟩
theorem zd_L_law_378 : zz_D zy_law_L 378 (.aload_n 0) 1 379 := ⟨zg_L_law_377.2.1, rfl⟩
theorem zd_L_law_379 : zz_D zy_law_L 379 (.iload 4) 2 381 := ⟨zg_L_law_377.2.2.1, rfl⟩
theorem zd_L_law_381 : zz_D zy_law_L 381 (.iconst 1) 1 382 := ⟨zg_L_law_377.2.2.2.1, rfl⟩
theorem zd_L_law_382 : zz_D zy_law_L 382 (.iadd) 1 383 := ⟨zg_L_law_377.2.2.2.2.1, rfl⟩
theorem zd_L_law_383 : zz_D zy_law_L 383 (.iaload) 1 384 := ⟨zg_L_law_377.2.2.2.2.2.1, rfl⟩
theorem zd_L_law_384 : zz_D zy_law_L 384 (.invokevirtual 124) 3 387 := ⟨zg_L_law_377.2.2.2.2.2.2.1, rfl⟩
theorem zd_L_law_387 : zz_D zy_law_L 387 (.lstore 6) 2 389 := ⟨zg_L_law_377.2.2.2.2.2.2.2.1, rfl⟩
theorem zd_L_law_389 : zz_B zy_law_L 389 Instr.goto 1208 392 := ⟨819, zg_L_law_377.2.2.2.2.2.2.2.2.1, rfl, rfl⟩
theorem zd_L_law_392 : zz_D zy_law_L 392 (.aload_n 1) 1 393 := ⟨zg_L_law_377.2.2.2.2.2.2.2.2.2, rfl⟩
theorem zg_L_law_393 : (decode zy_law_L.2.1 393 = .ok ((.invokevirtual 125), 3)) ∧ (decode zy_law_L.2.1 396 = .ok ((.pop), 1)) ∧ (decode zy_law_L.2.1 397 = .ok ((.aload_n 2), 1)) ∧ (decode zy_law_L.2.1 398 = .ok ((.invokevirtual 128), 3)) ∧ (decode zy_law_L.2.1 401 = .ok ((.pop), 1)) ∧ (decode zy_law_L.2.1 402 = .ok (Instr.goto 806, 3)) ∧ (decode zy_law_L.2.1 405 = .ok ((.aload_n 1), 1)) ∧ (decode zy_law_L.2.1 406 = .ok ((.aload_n 0), 1)) ∧ (decode zy_law_L.2.1 407 = .ok ((.iload 4), 2)) ∧ (decode zy_law_L.2.1 409 = .ok ((.iconst 1), 1)) := by decide +kernel
theorem zd_L_law_393 : zz_D zy_law_L 393 (.invokevirtual 125) 3 396 := ⟨zg_L_law_393.1, rfl⟩
theorem zd_L_law_396 : zz_D zy_law_L 396 (.pop) 1 397 := ⟨zg_L_law_393.2.1, rfl⟩
theorem zd_L_law_397 : zz_D zy_law_L 397 (.aload_n 2) 1 398 := ⟨zg_L_law_393.2.2.1, rfl⟩
theorem zd_L_law_398 : zz_D zy_law_L 398 (.invokevirtual 128) 3 401 := ⟨zg_L_law_393.2.2.2.1, rfl⟩
theorem zd_L_law_401 : zz_D zy_law_L 401 (.pop) 1 402 := ⟨zg_L_law_393.2.2.2.2.1, rfl⟩
theorem zd_L_law_402 : zz_B zy_law_L 402 Instr.goto 1208 405 := ⟨806, zg_L_law_393.2.2.2.2.2.1, rfl, rfl⟩
theorem zd_L_law_405 : zz_D zy_law_L 405 (.aload_n 1) 1 406 := ⟨zg_L_law_393.2.2.2.2.2.2.1, rfl⟩
theorem zd_L_law_406 : zz_D zy_law_L 406 (.aload_n 0) 1 407 := ⟨zg_L_law_393.2.2.2.2.2.2.2.1, rfl⟩
theorem zd_L_law_407 : zz_D zy_law_L 407 (.iload 4) 2 409 := ⟨zg_L_law_393.2.2.2.2.2.2.2.2.1, rfl⟩
theorem zd_L_law_409 : zz_D zy_law_L 409 (.iconst 1) 1 410 := ⟨zg_L_law_393.2.2.2.2.2.2.2.2.2, rfl⟩
theorem zg_L_law_410 : (decode zy_law_L.2.1 410 = .ok ((.iadd), 1)) ∧ (decode zy_law_L.2.1 411 = .ok ((.iaload), 1)) ∧ (decode zy_law_L.2.1 412 = .ok ((.i2l), 1)) ∧ (decode zy_law_L.2.1 413 = .ok ((.bipush 32), 2)) ∧ (decode zy_law_L.2.1 415 = .ok ((.lshl), 1)) ∧ (decode zy_law_L.2.1 416 = .ok ((.aload_n 0), 1)) ∧ (decode zy_law_L.2.1 417 = .ok ((.iload 4), 2)) ∧ (decode zy_law_L.2.1 419 = .ok ((.iconst 2), 1)) ∧ (decode zy_law_L.2.1 420 = .ok ((.iadd), 1)) ∧ (decode zy_law_L.2.1 421 = .ok ((.iaload), 1)) := by decide +kernel
theorem zd_L_law_410 : zz_D zy_law_L 410 (.iadd) 1 411 := ⟨zg_L_law_410.1, rfl⟩
theorem zd_L_law_411 : zz_D zy_law_L 411 (.iaload) 1 412 := ⟨zg_L_law_410.2.1, rfl⟩
theorem zd_L_law_412 : zz_D zy_law_L 412 (.i2l) 1 413 := ⟨zg_L_law_410.2.2.1, rfl⟩
theorem zd_L_law_413 : zz_D zy_law_L 413 (.bipush 32) 2 415 := ⟨zg_L_law_410.2.2.2.1, rfl⟩
theorem zd_L_law_415 : zz_D zy_law_L 415 (.lshl) 1 416 := ⟨zg_L_law_410.2.2.2.2.1, rfl⟩
theorem zd_L_law_416 : zz_D zy_law_L 416 (.aload_n 0) 1 417 := ⟨zg_L_law_410.2.2.2.2.2.1, rfl⟩
theorem zd_L_law_417 : zz_D zy_law_L 417 (.iload 4) 2 419 := ⟨zg_L_law_410.2.2.2.2.2.2.1, rfl⟩
theorem zd_L_law_419 : zz_D zy_law_L 419 (.iconst 2) 1 420 := ⟨zg_L_law_410.2.2.2.2.2.2.2.1, rfl⟩
theorem zd_L_law_420 : zz_D zy_law_L 420 (.iadd) 1 421 := ⟨zg_L_law_410.2.2.2.2.2.2.2.2.1, rfl⟩
theorem zd_L_law_421 : zz_D zy_law_L 421 (.iaload) 1 422 := ⟨zg_L_law_410.2.2.2.2.2.2.2.2.2, rfl⟩
theorem zg_L_law_422 : (decode zy_law_L.2.1 422 = .ok ((.i2l), 1)) ∧ (decode zy_law_L.2.1 423 = .ok ((.ldc2_w 112), 3)) ∧ (decode zy_law_L.2.1 426 = .ok ((.land), 1)) ∧ (decode zy_law_L.2.1 427 = .ok ((.lor), 1)) ∧ (decode zy_law_L.2.1 428 = .ok ((.aload_n 0), 1)) ∧ (decode zy_law_L.2.1 429 = .ok ((.iload 4), 2)) ∧ (decode zy_law_L.2.1 431 = .ok ((.iconst 3), 1)) ∧ (decode zy_law_L.2.1 432 = .ok ((.iadd), 1)) ∧ (decode zy_law_L.2.1 433 = .ok ((.iaload), 1)) ∧ (decode zy_law_L.2.1 434 = .ok ((.aload_n 3), 1)) := by decide +kernel
theorem zd_L_law_422 : zz_D zy_law_L 422 (.i2l) 1 423 := ⟨zg_L_law_422.1, rfl⟩
theorem zd_L_law_423 : zz_D zy_law_L 423 (.ldc2_w 112) 3 426 := ⟨zg_L_law_422.2.1, rfl⟩
theorem zd_L_law_426 : zz_D zy_law_L 426 (.land) 1 427 := ⟨zg_L_law_422.2.2.1, rfl⟩
theorem zd_L_law_427 : zz_D zy_law_L 427 (.lor) 1 428 := ⟨zg_L_law_422.2.2.2.1, rfl⟩
theorem zd_L_law_428 : zz_D zy_law_L 428 (.aload_n 0) 1 429 := ⟨zg_L_law_422.2.2.2.2.1, rfl⟩
theorem zd_L_law_429 : zz_D zy_law_L 429 (.iload 4) 2 431 := ⟨zg_L_law_422.2.2.2.2.2.1, rfl⟩
theorem zd_L_law_431 : zz_D zy_law_L 431 (.iconst 3) 1 432 := ⟨zg_L_law_422.2.2.2.2.2.2.1, rfl⟩
theorem zd_L_law_432 : zz_D zy_law_L 432 (.iadd) 1 433 := ⟨zg_L_law_422.2.2.2.2.2.2.2.1, rfl⟩
theorem zd_L_law_433 : zz_D zy_law_L 433 (.iaload) 1 434 := ⟨zg_L_law_422.2.2.2.2.2.2.2.2.1, rfl⟩
theorem zd_L_law_434 : zz_D zy_law_L 434 (.aload_n 3) 1 435 := ⟨zg_L_law_422.2.2.2.2.2.2.2.2.2, rfl⟩
theorem zg_L_law_435 : (decode zy_law_L.2.1 435 = .ok ((.invokestatic 129), 3)) ∧ (decode zy_law_L.2.1 438 = .ok ((.istore 5), 2)) ∧ (decode zy_law_L.2.1 440 = .ok ((.aload_n 2), 1)) ∧ (decode zy_law_L.2.1 441 = .ok ((.aload_n 0), 1)) ∧ (decode zy_law_L.2.1 442 = .ok ((.iload 4), 2)) ∧ (decode zy_law_L.2.1 444 = .ok ((.iconst 1), 1)) ∧ (decode zy_law_L.2.1 445 = .ok ((.iadd), 1)) ∧ (decode zy_law_L.2.1 446 = .ok ((.iaload), 1)) ∧ (decode zy_law_L.2.1 447 = .ok ((.i2l), 1)) ∧ (decode zy_law_L.2.1 448 = .ok ((.bipush 32), 2)) := by decide +kernel
theorem zd_L_law_435 : zz_D zy_law_L 435 (.invokestatic 129) 3 438 := ⟨zg_L_law_435.1, rfl⟩
theorem zd_L_law_438 : zz_D zy_law_L 438 (.istore 5) 2 440 := ⟨zg_L_law_435.2.1, rfl⟩
theorem zd_L_law_440 : zz_D zy_law_L 440 (.aload_n 2) 1 441 := ⟨zg_L_law_435.2.2.1, rfl⟩
theorem zd_L_law_441 : zz_D zy_law_L 441 (.aload_n 0) 1 442 := ⟨zg_L_law_435.2.2.2.1, rfl⟩
theorem zd_L_law_442 : zz_D zy_law_L 442 (.iload 4) 2 444 := ⟨zg_L_law_435.2.2.2.2.1, rfl⟩
theorem zd_L_law_444 : zz_D zy_law_L 444 (.iconst 1) 1 445 := ⟨zg_L_law_435.2.2.2.2.2.1, rfl⟩
theorem zd_L_law_445 : zz_D zy_law_L 445 (.iadd) 1 446 := ⟨zg_L_law_435.2.2.2.2.2.2.1, rfl⟩
theorem zd_L_law_446 : zz_D zy_law_L 446 (.iaload) 1 447 := ⟨zg_L_law_435.2.2.2.2.2.2.2.1, rfl⟩
theorem zd_L_law_447 : zz_D zy_law_L 447 (.i2l) 1 448 := ⟨zg_L_law_435.2.2.2.2.2.2.2.2.1, rfl⟩
theorem zd_L_law_448 : zz_D zy_law_L 448 (.bipush 32) 2 450 := ⟨zg_L_law_435.2.2.2.2.2.2.2.2.2, rfl⟩
theorem zg_L_law_450 : (decode zy_law_L.2.1 450 = .ok ((.lshl), 1)) ∧ (decode zy_law_L.2.1 451 = .ok ((.aload_n 0), 1)) ∧ (decode zy_law_L.2.1 452 = .ok ((.iload 4), 2)) ∧ (decode zy_law_L.2.1 454 = .ok ((.iconst 2), 1)) ∧ (decode zy_law_L.2.1 455 = .ok ((.iadd), 1)) ∧ (decode zy_law_L.2.1 456 = .ok ((.iaload), 1)) ∧ (decode zy_law_L.2.1 457 = .ok ((.i2l), 1)) ∧ (decode zy_law_L.2.1 458 = .ok ((.ldc2_w 112), 3)) ∧ (decode zy_law_L.2.1 461 = .ok ((.land), 1)) ∧ (decode zy_law_L.2.1 462 = .ok ((.lor), 1)) := by decide +kernel
theorem zd_L_law_450 : zz_D zy_law_L 450 (.lshl) 1 451 := ⟨zg_L_law_450.1, rfl⟩
theorem zd_L_law_451 : zz_D zy_law_L 451 (.aload_n 0) 1 452 := ⟨zg_L_law_450.2.1, rfl⟩
theorem zd_L_law_452 : zz_D zy_law_L 452 (.iload 4) 2 454 := ⟨zg_L_law_450.2.2.1, rfl⟩
theorem zd_L_law_454 : zz_D zy_law_L 454 (.iconst 2) 1 455 := ⟨zg_L_law_450.2.2.2.1, rfl⟩
theorem zd_L_law_455 : zz_D zy_law_L 455 (.iadd) 1 456 := ⟨zg_L_law_450.2.2.2.2.1, rfl⟩
theorem zd_L_law_456 : zz_D zy_law_L 456 (.iaload) 1 457 := ⟨zg_L_law_450.2.2.2.2.2.1, rfl⟩
theorem zd_L_law_457 : zz_D zy_law_L 457 (.i2l) 1 458 := ⟨zg_L_law_450.2.2.2.2.2.2.1, rfl⟩
theorem zd_L_law_458 : zz_D zy_law_L 458 (.ldc2_w 112) 3 461 := ⟨zg_L_law_450.2.2.2.2.2.2.2.1, rfl⟩
theorem zd_L_law_461 : zz_D zy_law_L 461 (.land) 1 462 := ⟨zg_L_law_450.2.2.2.2.2.2.2.2.1, rfl⟩
theorem zd_L_law_462 : zz_D zy_law_L 462 (.lor) 1 463 := ⟨zg_L_law_450.2.2.2.2.2.2.2.2.2, rfl⟩
theorem zg_L_law_463 : (decode zy_law_L.2.1 463 = .ok ((.aload_n 0), 1)) ∧ (decode zy_law_L.2.1 464 = .ok ((.iload 4), 2)) ∧ (decode zy_law_L.2.1 466 = .ok ((.iconst 3), 1)) ∧ (decode zy_law_L.2.1 467 = .ok ((.iadd), 1)) ∧ (decode zy_law_L.2.1 468 = .ok ((.iaload), 1)) ∧ (decode zy_law_L.2.1 469 = .ok ((.invokevirtual 132), 3)) ∧ (decode zy_law_L.2.1 472 = .ok ((.istore 6), 2)) ∧ (decode zy_law_L.2.1 474 = .ok (Instr.goto 734, 3)) ∧ (decode zy_law_L.2.1 477 = .ok ((.aload_n 1), 1)) ∧ (decode zy_law_L.2.1 478 = .ok ((.aload_n 0), 1)) := by decide +kernel
theorem zd_L_law_463 : zz_D zy_law_L 463 (.aload_n 0) 1 464 := ⟨zg_L_law_463.1, rfl⟩
theorem zd_L_law_464 : zz_D zy_law_L 464 (.iload 4) 2 466 := ⟨zg_L_law_463.2.1, rfl⟩
theorem zd_L_law_466 : zz_D zy_law_L 466 (.iconst 3) 1 467 := ⟨zg_L_law_463.2.2.1, rfl⟩
theorem zd_L_law_467 : zz_D zy_law_L 467 (.iadd) 1 468 := ⟨zg_L_law_463.2.2.2.1, rfl⟩
theorem zd_L_law_468 : zz_D zy_law_L 468 (.iaload) 1 469 := ⟨zg_L_law_463.2.2.2.2.1, rfl⟩
theorem zd_L_law_469 : zz_D zy_law_L 469 (.invokevirtual 132) 3 472 := ⟨zg_L_law_463.2.2.2.2.2.1, rfl⟩
theorem zd_L_law_472 : zz_D zy_law_L 472 (.istore 6) 2 474 := ⟨zg_L_law_463.2.2.2.2.2.2.1, rfl⟩
theorem zd_L_law_474 : zz_B zy_law_L 474 Instr.goto 1208 477 := ⟨734, zg_L_law_463.2.2.2.2.2.2.2.1, rfl, rfl⟩
theorem zd_L_law_477 : zz_D zy_law_L 477 (.aload_n 1) 1 478 := ⟨zg_L_law_463.2.2.2.2.2.2.2.2.1, rfl⟩
theorem zd_L_law_478 : zz_D zy_law_L 478 (.aload_n 0) 1 479 := ⟨zg_L_law_463.2.2.2.2.2.2.2.2.2, rfl⟩
theorem zg_L_law_479 : (decode zy_law_L.2.1 479 = .ok ((.iload 4), 2)) ∧ (decode zy_law_L.2.1 481 = .ok ((.iconst 1), 1)) ∧ (decode zy_law_L.2.1 482 = .ok ((.iadd), 1)) ∧ (decode zy_law_L.2.1 483 = .ok ((.iaload), 1)) ∧ (decode zy_law_L.2.1 484 = .ok ((.i2l), 1)) ∧ (decode zy_law_L.2.1 485 = .ok ((.bipush 32), 2)) ∧ (decode zy_law_L.2.1 487 = .ok ((.lshl), 1)) ∧ (decode zy_law_L.2.1 488 = .ok ((.aload_n 0), 1)) ∧ (decode zy_law_L.2.1 489 = .ok ((.iload 4), 2)) ∧ (decode zy_law_L.2.1 491 = .ok ((.iconst 2), 1)) := by decide +kernel
theorem zd_L_law_479 : zz_D zy_law_L 479 (.iload 4) 2 481 := ⟨zg_L_law_479.1, rfl⟩
theorem zd_L_law_481 : zz_D zy_law_L 481 (.iconst 1) 1 482 := ⟨zg_L_law_479.2.1, rfl⟩
theorem zd_L_law_482 : zz_D zy_law_L 482 (.iadd) 1 483 := ⟨zg_L_law_479.2.2.1, rfl⟩
theorem zd_L_law_483 : zz_D zy_law_L 483 (.iaload) 1 484 := ⟨zg_L_law_479.2.2.2.1, rfl⟩
theorem zd_L_law_484 : zz_D zy_law_L 484 (.i2l) 1 485 := ⟨zg_L_law_479.2.2.2.2.1, rfl⟩
theorem zd_L_law_485 : zz_D zy_law_L 485 (.bipush 32) 2 487 := ⟨zg_L_law_479.2.2.2.2.2.1, rfl⟩
theorem zd_L_law_487 : zz_D zy_law_L 487 (.lshl) 1 488 := ⟨zg_L_law_479.2.2.2.2.2.2.1, rfl⟩
theorem zd_L_law_488 : zz_D zy_law_L 488 (.aload_n 0) 1 489 := ⟨zg_L_law_479.2.2.2.2.2.2.2.1, rfl⟩
theorem zd_L_law_489 : zz_D zy_law_L 489 (.iload 4) 2 491 := ⟨zg_L_law_479.2.2.2.2.2.2.2.2.1, rfl⟩
theorem zd_L_law_491 : zz_D zy_law_L 491 (.iconst 2) 1 492 := ⟨zg_L_law_479.2.2.2.2.2.2.2.2.2, rfl⟩
theorem zg_L_law_492 : (decode zy_law_L.2.1 492 = .ok ((.iadd), 1)) ∧ (decode zy_law_L.2.1 493 = .ok ((.iaload), 1)) ∧ (decode zy_law_L.2.1 494 = .ok ((.i2l), 1)) ∧ (decode zy_law_L.2.1 495 = .ok ((.ldc2_w 112), 3)) ∧ (decode zy_law_L.2.1 498 = .ok ((.land), 1)) ∧ (decode zy_law_L.2.1 499 = .ok ((.lor), 1)) ∧ (decode zy_law_L.2.1 500 = .ok ((.invokevirtual 133), 3)) ∧ (decode zy_law_L.2.1 503 = .ok ((.pop), 1)) ∧ (decode zy_law_L.2.1 504 = .ok ((.aload_n 2), 1)) ∧ (decode zy_law_L.2.1 505 = .ok ((.aload_n 0), 1)) := by decide +kernel
theorem zd_L_law_492 : zz_D zy_law_L 492 (.iadd) 1 493 := ⟨zg_L_law_492.1, rfl⟩
theorem zd_L_law_493 : zz_D zy_law_L 493 (.iaload) 1 494 := ⟨zg_L_law_492.2.1, rfl⟩
theorem zd_L_law_494 : zz_D zy_law_L 494 (.i2l) 1 495 := ⟨zg_L_law_492.2.2.1, rfl⟩
theorem zd_L_law_495 : zz_D zy_law_L 495 (.ldc2_w 112) 3 498 := ⟨zg_L_law_492.2.2.2.1, rfl⟩
theorem zd_L_law_498 : zz_D zy_law_L 498 (.land) 1 499 := ⟨zg_L_law_492.2.2.2.2.1, rfl⟩
theorem zd_L_law_499 : zz_D zy_law_L 499 (.lor) 1 500 := ⟨zg_L_law_492.2.2.2.2.2.1, rfl⟩
theorem zd_L_law_500 : zz_D zy_law_L 500 (.invokevirtual 133) 3 503 := ⟨zg_L_law_492.2.2.2.2.2.2.1, rfl⟩
theorem zd_L_law_503 : zz_D zy_law_L 503 (.pop) 1 504 := ⟨zg_L_law_492.2.2.2.2.2.2.2.1, rfl⟩
theorem zd_L_law_504 : zz_D zy_law_L 504 (.aload_n 2) 1 505 := ⟨zg_L_law_492.2.2.2.2.2.2.2.2.1, rfl⟩
theorem zd_L_law_505 : zz_D zy_law_L 505 (.aload_n 0) 1 506 := ⟨zg_L_law_492.2.2.2.2.2.2.2.2.2, rfl⟩
theorem zg_L_law_506 : (decode zy_law_L.2.1 506 = .ok ((.iload 4), 2)) ∧ (decode zy_law_L.2.1 508 = .ok ((.iconst 1), 1)) ∧ (decode zy_law_L.2.1 509 = .ok ((.iadd), 1)) ∧ (decode zy_law_L.2.1 510 = .ok ((.iaload), 1)) ∧ (decode zy_law_L.2.1 511 = .ok ((.i2l), 1)) ∧ (decode zy_law_L.2.1 512 = .ok ((.bipush 32), 2)) ∧ (decode zy_law_L.2.1 514 = .ok ((.lshl), 1)) ∧ (decode zy_law_L.2.1 515 = .ok ((.aload_n 0), 1)) ∧ (decode zy_law_L.2.1 516 = .ok ((.iload 4), 2)) ∧ (decode zy_law_L.2.1 518 = .ok ((.iconst 2), 1)) := by decide +kernel
theorem zd_L_law_506 : zz_D zy_law_L 506 (.iload 4) 2 508 := ⟨zg_L_law_506.1, rfl⟩
theorem zd_L_law_508 : zz_D zy_law_L 508 (.iconst 1) 1 509 := ⟨zg_L_law_506.2.1, rfl⟩
theorem zd_L_law_509 : zz_D zy_law_L 509 (.iadd) 1 510 := ⟨zg_L_law_506.2.2.1, rfl⟩
theorem zd_L_law_510 : zz_D zy_law_L 510 (.iaload) 1 511 := ⟨zg_L_law_506.2.2.2.1, rfl⟩
theorem zd_L_law_511 : zz_D zy_law_L 511 (.i2l) 1 512 := ⟨zg_L_law_506.2.2.2.2.1, rfl⟩
theorem zd_L_law_512 : zz_D zy_law_L 512 (.bipush 32) 2 514 := ⟨zg_L_law_506.2.2.2.2.2.1, rfl⟩
theorem zd_L_law_514 : zz_D zy_law_L 514 (.lshl) 1 515 := ⟨zg_L_law_506.2.2.2.2.2.2.1, rfl⟩
theorem zd_L_law_515 : zz_D zy_law_L 515 (.aload_n 0) 1 516 := ⟨zg_L_law_506.2.2.2.2.2.2.2.1, rfl⟩
theorem zd_L_law_516 : zz_D zy_law_L 516 (.iload 4) 2 518 := ⟨zg_L_law_506.2.2.2.2.2.2.2.2.1, rfl⟩
theorem zd_L_law_518 : zz_D zy_law_L 518 (.iconst 2) 1 519 := ⟨zg_L_law_506.2.2.2.2.2.2.2.2.2, rfl⟩
theorem zg_L_law_519 : (decode zy_law_L.2.1 519 = .ok ((.iadd), 1)) ∧ (decode zy_law_L.2.1 520 = .ok ((.iaload), 1)) ∧ (decode zy_law_L.2.1 521 = .ok ((.i2l), 1)) ∧ (decode zy_law_L.2.1 522 = .ok ((.ldc2_w 112), 3)) ∧ (decode zy_law_L.2.1 525 = .ok ((.land), 1)) ∧ (decode zy_law_L.2.1 526 = .ok ((.lor), 1)) ∧ (decode zy_law_L.2.1 527 = .ok ((.invokevirtual 137), 3)) ∧ (decode zy_law_L.2.1 530 = .ok ((.pop), 1)) ∧ (decode zy_law_L.2.1 531 = .ok (Instr.goto 677, 3)) ∧ (decode zy_law_L.2.1 534 = .ok ((.aload_n 1), 1)) := by decide +kernel
theorem zd_L_law_519 : zz_D zy_law_L 519 (.iadd) 1 520 := ⟨zg_L_law_519.1, rfl⟩
theorem zd_L_law_520 : zz_D zy_law_L 520 (.iaload) 1 521 := ⟨zg_L_law_519.2.1, rfl⟩
theorem zd_L_law_521 : zz_D zy_law_L 521 (.i2l) 1 522 := ⟨zg_L_law_519.2.2.1, rfl⟩
theorem zd_L_law_522 : zz_D zy_law_L 522 (.ldc2_w 112) 3 525 := ⟨zg_L_law_519.2.2.2.1, rfl⟩
theorem zd_L_law_525 : zz_D zy_law_L 525 (.land) 1 526 := ⟨zg_L_law_519.2.2.2.2.1, rfl⟩
theorem zd_L_law_526 : zz_D zy_law_L 526 (.lor) 1 527 := ⟨zg_L_law_519.2.2.2.2.2.1, rfl⟩
theorem zd_L_law_527 : zz_D zy_law_L 527 (.invokevirtual 137) 3 530 := ⟨zg_L_law_519.2.2.2.2.2.2.1, rfl⟩
theorem zd_L_law_530 : zz_D zy_law_L 530 (.pop) 1 531 := ⟨zg_L_law_519.2.2.2.2.2.2.2.1, rfl⟩
theorem zd_L_law_531 : zz_B zy_law_L 531 Instr.goto 1208 534 := ⟨677, zg_L_law_519.2.2.2.2.2.2.2.2.1, rfl, rfl⟩
theorem zd_L_law_534 : zz_D zy_law_L 534 (.aload_n 1) 1 535 := ⟨zg_L_law_519.2.2.2.2.2.2.2.2.2, rfl⟩
theorem zg_L_law_535 : (decode zy_law_L.2.1 535 = .ok ((.aload_n 0), 1)) ∧ (decode zy_law_L.2.1 536 = .ok ((.iload 4), 2)) ∧ (decode zy_law_L.2.1 538 = .ok ((.iconst 1), 1)) ∧ (decode zy_law_L.2.1 539 = .ok ((.iadd), 1)) ∧ (decode zy_law_L.2.1 540 = .ok ((.iaload), 1)) ∧ (decode zy_law_L.2.1 541 = .ok ((.aload_n 3), 1)) ∧ (decode zy_law_L.2.1 542 = .ok ((.invokestatic 138), 3)) ∧ (decode zy_law_L.2.1 545 = .ok ((.istore 5), 2)) ∧ (decode zy_law_L.2.1 547 = .ok ((.aload_n 2), 1)) ∧ (decode zy_law_L.2.1 548 = .ok ((.aload_n 0), 1)) := by decide +kernel
theorem zd_L_law_535 : zz_D zy_law_L 535 (.aload_n 0) 1 536 := ⟨zg_L_law_535.1, rfl⟩
theorem zd_L_law_536 : zz_D zy_law_L 536 (.iload 4) 2 538 := ⟨zg_L_law_535.2.1, rfl⟩
theorem zd_L_law_538 : zz_D zy_law_L 538 (.iconst 1) 1 539 := ⟨zg_L_law_535.2.2.1, rfl⟩
theorem zd_L_law_539 : zz_D zy_law_L 539 (.iadd) 1 540 := ⟨zg_L_law_535.2.2.2.1, rfl⟩
theorem zd_L_law_540 : zz_D zy_law_L 540 (.iaload) 1 541 := ⟨zg_L_law_535.2.2.2.2.1, rfl⟩
theorem zd_L_law_541 : zz_D zy_law_L 541 (.aload_n 3) 1 542 := ⟨zg_L_law_535.2.2.2.2.2.1, rfl⟩
theorem zd_L_law_542 : zz_D zy_law_L 542 (.invokestatic 138) 3 545 := ⟨zg_L_law_535.2.2.2.2.2.2.1, rfl⟩
theorem zd_L_law_545 : zz_D zy_law_L 545 (.istore 5) 2 547 := ⟨zg_L_law_535.2.2.2.2.2.2.2.1, rfl⟩
theorem zd_L_law_547 : zz_D zy_law_L 547 (.aload_n 2) 1 548 := ⟨zg_L_law_535.2.2.2.2.2.2.2.2.1, rfl⟩
theorem zd_L_law_548 : zz_D zy_law_L 548 (.aload_n 0) 1 549 := ⟨zg_L_law_535.2.2.2.2.2.2.2.2.2, rfl⟩
theorem zg_L_law_549 : (decode zy_law_L.2.1 549 = .ok ((.iload 4), 2)) ∧ (decode zy_law_L.2.1 551 = .ok ((.iconst 1), 1)) ∧ (decode zy_law_L.2.1 552 = .ok ((.iadd), 1)) ∧ (decode zy_law_L.2.1 553 = .ok ((.iaload), 1)) ∧ (decode zy_law_L.2.1 554 = .ok ((.invokevirtual 140), 3)) ∧ (decode zy_law_L.2.1 557 = .ok ((.istore 6), 2)) ∧ (decode zy_law_L.2.1 559 = .ok ((.aload_n 2), 1)) ∧ (decode zy_law_L.2.1 560 = .ok ((.invokevirtual 141), 3)) ∧ (decode zy_law_L.2.1 563 = .ok ((.iload 5), 2)) ∧ (decode zy_law_L.2.1 565 = .ok ((Instr.if_icmp .eq) 5, 3)) := by decide +kernel
theorem zd_L_law_549 : zz_D zy_law_L 549 (.iload 4) 2 551 := ⟨zg_L_law_549.1, rfl⟩
theorem zd_L_law_551 : zz_D zy_law_L 551 (.iconst 1) 1 552 := ⟨zg_L_law_549.2.1, rfl⟩
theorem zd_L_law_552 : zz_D zy_law_L 552 (.iadd) 1 553 := ⟨zg_L_law_549.2.2.1, rfl⟩
theorem zd_L_law_553 : zz_D zy_law_L 553 (.iaload) 1 554 := ⟨zg_L_law_549.2.2.2.1, rfl⟩
theorem zd_L_law_554 : zz_D zy_law_L 554 (.invokevirtual 140) 3 557 := ⟨zg_L_law_549.2.2.2.2.1, rfl⟩
theorem zd_L_law_557 : zz_D zy_law_L 557 (.istore 6) 2 559 := ⟨zg_L_law_549.2.2.2.2.2.1, rfl⟩
theorem zd_L_law_559 : zz_D zy_law_L 559 (.aload_n 2) 1 560 := ⟨zg_L_law_549.2.2.2.2.2.2.1, rfl⟩
theorem zd_L_law_560 : zz_D zy_law_L 560 (.invokevirtual 141) 3 563 := ⟨zg_L_law_549.2.2.2.2.2.2.2.1, rfl⟩
theorem zd_L_law_563 : zz_D zy_law_L 563 (.iload 5) 2 565 := ⟨zg_L_law_549.2.2.2.2.2.2.2.2.1, rfl⟩
theorem zd_L_law_565 : zz_B zy_law_L 565 (Instr.if_icmp .eq) 570 568 := ⟨5, zg_L_law_549.2.2.2.2.2.2.2.2.2, rfl, rfl⟩
theorem zg_L_law_570 : (decode zy_law_L.2.1 570 = .ok ((.iload 5), 2)) ∧ (decode zy_law_L.2.1 572 = .ok ((Instr.ifCond .ne) 15, 3)) ∧ (decode zy_law_L.2.1 587 = .ok (Instr.goto 621, 3)) ∧ (decode zy_law_L.2.1 575 = .ok ((.aload_n 3), 1)) ∧ (decode zy_law_L.2.1 576 = .ok ((.iconst 0), 1)) ∧ (decode zy_law_L.2.1 577 = .ok ((.laload), 1)) ∧ (decode zy_law_L.2.1 578 = .ok ((.iload 6), 2)) ∧ (decode zy_law_L.2.1 580 = .ok ((.i2l), 1)) ∧ (decode zy_law_L.2.1 581 = .ok ((.lcmp), 1)) ∧ (decode zy_law_L.2.1 582 = .ok ((Instr.ifCond .eq) 5, 3)) := by decide +kernel
theorem zd_L_law_570 : zz_D zy_law_L 570 (.iload 5) 2 572 := ⟨zg_L_law_570.1, rfl⟩
theorem zd_L_law_572 : zz_B zy_law_L 572 (Instr.ifCond .ne) 587 575 := ⟨15, zg_L_law_570.2.1, rfl, rfl⟩
theorem zd_L_law_587 : zz_B zy_law_L 587 Instr.goto 1208 590 := ⟨621, zg_L_law_570.2.2.1, rfl, rfl⟩
theorem zd_L_law_575 : zz_D zy_law_L 575 (.aload_n 3) 1 576 := ⟨zg_L_law_570.2.2.2.1, rfl⟩
theorem zd_L_law_576 : zz_D zy_law_L 576 (.iconst 0) 1 577 := ⟨zg_L_law_570.2.2.2.2.1, rfl⟩
theorem zd_L_law_577 : zz_D zy_law_L 577 (.laload) 1 578 := ⟨zg_L_law_570.2.2.2.2.2.1, rfl⟩
theorem zd_L_law_578 : zz_D zy_law_L 578 (.iload 6) 2 580 := ⟨zg_L_law_570.2.2.2.2.2.2.1, rfl⟩
theorem zd_L_law_580 : zz_D zy_law_L 580 (.i2l) 1 581 := ⟨zg_L_law_570.2.2.2.2.2.2.2.1, rfl⟩
theorem zd_L_law_581 : zz_D zy_law_L 581 (.lcmp) 1 582 := ⟨zg_L_law_570.2.2.2.2.2.2.2.2.1, rfl⟩
theorem zd_L_law_582 : zz_B zy_law_L 582 (Instr.ifCond .eq) 587 585 := ⟨5, zg_L_law_570.2.2.2.2.2.2.2.2.2, rfl, rfl⟩
theorem zg_L_law_590 : (decode zy_law_L.2.1 590 = .ok ((.aload_n 1), 1)) ∧ (decode zy_law_L.2.1 591 = .ok ((.aload_n 0), 1)) ∧ (decode zy_law_L.2.1 592 = .ok ((.iload 4), 2)) ∧ (decode zy_law_L.2.1 594 = .ok ((.iconst 1), 1)) ∧ (decode zy_law_L.2.1 595 = .ok ((.iadd), 1)) ∧ (decode zy_law_L.2.1 596 = .ok ((.iaload), 1)) ∧ (decode zy_law_L.2.1 597 = .ok ((.invokestatic 144), 3)) ∧ (decode zy_law_L.2.1 600 = .ok ((.istore 5), 2)) ∧ (decode zy_law_L.2.1 602 = .ok ((.aload_n 2), 1)) ∧ (decode zy_law_L.2.1 603 = .ok ((.aload_n 0), 1)) := by decide +kernel
theorem zd_L_law_590 : zz_D zy_law_L 590 (.aload_n 1) 1 591 := ⟨zg_L_law_590.1, rfl⟩
theorem zd_L_law_591 : zz_D zy_law_L 591 (.aload_n 0) 1 592 := ⟨zg_L_law_590.2.1, rfl⟩
theorem zd_L_law_592 : zz_D zy_law_L 592 (.iload 4) 2 594 := ⟨zg_L_law_590.2.2.1, rfl⟩
theorem zd_L_law_594 : zz_D zy_law_L 594 (.iconst 1) 1 595 := ⟨zg_L_law_590.2.2.2.1, rfl⟩
theorem zd_L_law_595 : zz_D zy_law_L 595 (.iadd) 1 596 := ⟨zg_L_law_590.2.2.2.2.1, rfl⟩
theorem zd_L_law_596 : zz_D zy_law_L 596 (.iaload) 1 597 := ⟨zg_L_law_590.2.2.2.2.2.1, rfl⟩
theorem zd_L_law_597 : zz_D zy_law_L 597 (.invokestatic 144) 3 600 := ⟨zg_L_law_590.2.2.2.2.2.2.1, rfl⟩
theorem zd_L_law_600 : zz_D zy_law_L 600 (.istore 5) 2 602 := ⟨zg_L_law_590.2.2.2.2.2.2.2.1, rfl⟩
theorem zd_L_law_602 : zz_D zy_law_L 602 (.aload_n 2) 1 603 := ⟨zg_L_law_590.2.2.2.2.2.2.2.2.1, rfl⟩
theorem zd_L_law_603 : zz_D zy_law_L 603 (.aload_n 0) 1 604 := ⟨zg_L_law_590.2.2.2.2.2.2.2.2.2, rfl⟩
theorem zg_L_law_604 : (decode zy_law_L.2.1 604 = .ok ((.iload 4), 2)) ∧ (decode zy_law_L.2.1 606 = .ok ((.iconst 1), 1)) ∧ (decode zy_law_L.2.1 607 = .ok ((.iadd), 1)) ∧ (decode zy_law_L.2.1 608 = .ok ((.iaload), 1)) ∧ (decode zy_law_L.2.1 609 = .ok ((.invokevirtual 146), 3)) ∧ (decode zy_law_L.2.1 612 = .ok (Instr.goto 596, 3)) ∧ (decode zy_law_L.2.1 615 = .ok ((.aload_n 1), 1)) ∧ (decode zy_law_L.2.1 616 = .ok ((.invokevirtual 147), 3)) ∧ (decode zy_law_L.2.1 619 = .ok ((.pop), 1)) ∧ (decode zy_law_L.2.1 620 = .ok ((.aload_n 2), 1)) := by decide +kernel
theorem zd_L_law_604 : zz_D zy_law_L 604 (.iload 4) 2 606 := ⟨zg_L_law_604.1, rfl⟩
theorem zd_L_law_606 : zz_D zy_law_L 606 (.iconst 1) 1 607 := ⟨zg_L_law_604.2.1, rfl⟩
theorem zd_L_law_607 : zz_D zy_law_L 607 (.iadd) 1 608 := ⟨zg_L_law_604.2.2.1, rfl⟩
theorem zd_L_law_608 : zz_D zy_law_L 608 (.iaload) 1 609 := ⟨zg_L_law_604.2.2.2.1, rfl⟩
theorem zd_L_law_609 : zz_D zy_law_L 609 (.invokevirtual 146) 3 612 := ⟨zg_L_law_604.2.2.2.2.1, rfl⟩
theorem zd_L_law_612 : zz_B zy_law_L 612 Instr.goto 1208 615 := ⟨596, zg_L_law_604.2.2.2.2.2.1, rfl, rfl⟩
theorem zd_L_law_615 : zz_D zy_law_L 615 (.aload_n 1) 1 616 := ⟨zg_L_law_604.2.2.2.2.2.2.1, rfl⟩
theorem zd_L_law_616 : zz_D zy_law_L 616 (.invokevirtual 147) 3 619 := ⟨zg_L_law_604.2.2.2.2.2.2.2.1, rfl⟩
theorem zd_L_law_619 : zz_D zy_law_L 619 (.pop) 1 620 := ⟨zg_L_law_604.2.2.2.2.2.2.2.2.1, rfl⟩
theorem zd_L_law_620 : zz_D zy_law_L 620 (.aload_n 2) 1 621 := ⟨zg_L_law_604.2.2.2.2.2.2.2.2.2, rfl⟩
theorem zg_L_law_621 : (decode zy_law_L.2.1 621 = .ok ((.invokevirtual 150), 3)) ∧ (decode zy_law_L.2.1 624 = .ok ((.pop), 1)) ∧ (decode zy_law_L.2.1 625 = .ok (Instr.goto 583, 3)) ∧ (decode zy_law_L.2.1 628 = .ok ((.aload_n 1), 1)) ∧ (decode zy_law_L.2.1 629 = .ok ((.aload_n 0), 1)) ∧ (decode zy_law_L.2.1 630 = .ok ((.iload 4), 2)) ∧ (decode zy_law_L.2.1 632 = .ok ((.iconst 1), 1)) ∧ (decode zy_law_L.2.1 633 = .ok ((.iadd), 1)) ∧ (decode zy_law_L.2.1 634 = .ok ((.iaload), 1)) ∧ (decode zy_law_L.2.1 635 = .ok ((.aload_n 0), 1)) := by decide +kernel
theorem zd_L_law_621 : zz_D zy_law_L 621 (.invokevirtual 150) 3 624 := ⟨zg_L_law_621.1, rfl⟩
theorem zd_L_law_624 : zz_D zy_law_L 624 (.pop) 1 625 := ⟨zg_L_law_621.2.1, rfl⟩
theorem zd_L_law_625 : zz_B zy_law_L 625 Instr.goto 1208 628 := ⟨583, zg_L_law_621.2.2.1, rfl, rfl⟩
theorem zd_L_law_628 : zz_D zy_law_L 628 (.aload_n 1) 1 629 := ⟨zg_L_law_621.2.2.2.1, rfl⟩
theorem zd_L_law_629 : zz_D zy_law_L 629 (.aload_n 0) 1 630 := ⟨zg_L_law_621.2.2.2.2.1, rfl⟩
theorem zd_L_law_630 : zz_D zy_law_L 630 (.iload 4) 2 632 := ⟨zg_L_law_621.2.2.2.2.2.1, rfl⟩
theorem zd_L_law_632 : zz_D zy_law_L 632 (.iconst 1) 1 633 := ⟨zg_L_law_621.2.2.2.2.2.2.1, rfl⟩
theorem zd_L_law_633 : zz_D zy_law_L 633 (.iadd) 1 634 := ⟨zg_L_law_621.2.2.2.2.2.2.2.1, rfl⟩
theorem zd_L_law_634 : zz_D zy_law_L 634 (.iaload) 1 635 := ⟨zg_L_law_621.2.2.2.2.2.2.2.2.1, rfl⟩
theorem zd_L_law_635 : zz_D zy_law_L 635 (.aload_n 0) 1 636 := ⟨zg_L_law_621.2.2.2.2.2.2.2.2.2, rfl⟩
theorem zg_L_law_636 : (decode zy_law_L.2.1 636 = .ok ((.iload 4), 2)) ∧ (decode zy_law_L.2.1 638 = .ok ((.iconst 2), 1)) ∧ (decode zy_law_L.2.1 639 = .ok ((.iadd), 1)) ∧ (decode zy_law_L.2.1 640 = .ok ((.iaload), 1)) ∧ (decode zy_law_L.2.1 641 = .ok ((.aload_n 3), 1)) ∧ (decode zy_law_L.2.1 642 = .ok ((.invokestatic 151), 3)) ∧ (decode zy_law_L.2.1 645 = .ok ((.istore 5), 2)) ∧ (decode zy_law_L.2.1 647 = .ok ((.aload_n 2), 1)) ∧ (decode zy_law_L.2.1 648 = .ok ((.aload_n 0), 1)) ∧ (decode zy_law_L.2.1 649 = .ok ((.iload 4), 2)) := by decide +kernel
theorem zd_L_law_636 : zz_D zy_law_L 636 (.iload 4) 2 638 := ⟨zg_L_law_636.1, rfl⟩
theorem zd_L_law_638 : zz_D zy_law_L 638 (.iconst 2) 1 639 := ⟨zg_L_law_636.2.1, rfl⟩
theorem zd_L_law_639 : zz_D zy_law_L 639 (.iadd) 1 640 := ⟨zg_L_law_636.2.2.1, rfl⟩
theorem zd_L_law_640 : zz_D zy_law_L 640 (.iaload) 1 641 := ⟨zg_L_law_636.2.2.2.1, rfl⟩
theorem zd_L_law_641 : zz_D zy_law_L 641 (.aload_n 3) 1 642 := ⟨zg_L_law_636.2.2.2.2.1, rfl⟩
theorem zd_L_law_642 : zz_D zy_law_L 642 (.invokestatic 151) 3 645 := ⟨zg_L_law_636.2.2.2.2.2.1, rfl⟩
theorem zd_L_law_645 : zz_D zy_law_L 645 (.istore 5) 2 647 := ⟨zg_L_law_636.2.2.2.2.2.2.1, rfl⟩
theorem zd_L_law_647 : zz_D zy_law_L 647 (.aload_n 2) 1 648 := ⟨zg_L_law_636.2.2.2.2.2.2.2.1, rfl⟩
theorem zd_L_law_648 : zz_D zy_law_L 648 (.aload_n 0) 1 649 := ⟨zg_L_law_636.2.2.2.2.2.2.2.2.1, rfl⟩
theorem zd_L_law_649 : zz_D zy_law_L 649 (.iload 4) 2 651 := ⟨zg_L_law_636.2.2.2.2.2.2.2.2.2, rfl⟩
theorem zg_L_law_651 : (decode zy_law_L.2.1 651 = .ok ((.iconst 1), 1)) ∧ (decode zy_law_L.2.1 652 = .ok ((.iadd), 1)) ∧ (decode zy_law_L.2.1 653 = .ok ((.iaload), 1)) ∧ (decode zy_law_L.2.1 654 = .ok ((.aload_n 0), 1)) ∧ (decode zy_law_L.2.1 655 = .ok ((.iload 4), 2)) ∧ (decode zy_law_L.2.1 657 = .ok ((.iconst 2), 1)) ∧ (decode zy_law_L.2.1 658 = .ok ((.iadd), 1)) ∧ (decode zy_law_L.2.1 659 = .ok ((.iaload), 1)) ∧ (decode zy_law_L.2.1 660 = .ok ((.invokevirtual 153), 3)) ∧ (decode zy_law_L.2.1 663 = .ok ((.istore 6), 2)) := by decide +kernel
theorem zd_L_law_651 : zz_D zy_law_L 651 (.iconst 1) 1 652 := ⟨zg_L_law_651.1, rfl⟩
theorem zd_L_law_652 : zz_D zy_law_L 652 (.iadd) 1 653 := ⟨zg_L_law_651.2.1, rfl⟩
theorem zd_L_law_653 : zz_D zy_law_L 653 (.iaload) 1 654 := ⟨zg_L_law_651.2.2.1, rfl⟩
theorem zd_L_law_654 : zz_D zy_law_L 654 (.aload_n 0) 1 655 := ⟨zg_L_law_651.2.2.2.1, rfl⟩
theorem zd_L_law_655 : zz_D zy_law_L 655 (.iload 4) 2 657 := ⟨zg_L_law_651.2.2.2.2.1, rfl⟩
theorem zd_L_law_657 : zz_D zy_law_L 657 (.iconst 2) 1 658 := ⟨zg_L_law_651.2.2.2.2.2.1, rfl⟩
theorem zd_L_law_658 : zz_D zy_law_L 658 (.iadd) 1 659 := ⟨zg_L_law_651.2.2.2.2.2.2.1, rfl⟩
theorem zd_L_law_659 : zz_D zy_law_L 659 (.iaload) 1 660 := ⟨zg_L_law_651.2.2.2.2.2.2.2.1, rfl⟩
theorem zd_L_law_660 : zz_D zy_law_L 660 (.invokevirtual 153) 3 663 := ⟨zg_L_law_651.2.2.2.2.2.2.2.2.1, rfl⟩
theorem zd_L_law_663 : zz_D zy_law_L 663 (.istore 6) 2 665 := ⟨zg_L_law_651.2.2.2.2.2.2.2.2.2, rfl⟩
theorem zg_L_law_665 : (decode zy_law_L.2.1 665 = .ok (Instr.goto 543, 3)) ∧ (decode zy_law_L.2.1 668 = .ok ((.aload_n 1), 1)) ∧ (decode zy_law_L.2.1 669 = .ok ((.invokevirtual 154), 3)) ∧ (decode zy_law_L.2.1 672 = .ok ((.pop), 1)) ∧ (decode zy_law_L.2.1 673 = .ok ((.aload_n 2), 1)) ∧ (decode zy_law_L.2.1 674 = .ok ((.invokevirtual 157), 3)) ∧ (decode zy_law_L.2.1 677 = .ok ((.pop), 1)) ∧ (decode zy_law_L.2.1 678 = .ok (Instr.goto 530, 3)) ∧ (decode zy_law_L.2.1 681 = .ok ((.aload_n 1), 1)) ∧ (decode zy_law_L.2.1 682 = .ok ((.aload_n 0), 1)) := by decide +kernel
theorem zd_L_law_665 : zz_B zy_law_L 665 Instr.goto 1208 668 := ⟨543, zg_L_law_665.1, rfl, rfl⟩
theorem zd_L_law_668 : zz_D zy_law_L 668 (.aload_n 1) 1 669 := ⟨zg_L_law_665.2.1, rfl⟩
theorem zd_L_law_669 : zz_D zy_law_L 669 (.invokevirtual 154) 3 672 := ⟨zg_L_law_665.2.2.1, rfl⟩
theorem zd_L_law_672 : zz_D zy_law_L 672 (.pop) 1 673 := ⟨zg_L_law_665.2.2.2.1, rfl⟩
theorem zd_L_law_673 : zz_D zy_law_L 673 (.aload_n 2) 1 674 := ⟨zg_L_law_665.2.2.2.2.1, rfl⟩
theorem zd_L_law_674 : zz_D zy_law_L 674 (.invokevirtual 157) 3 677 := ⟨zg_L_law_665.2.2.2.2.2.1, rfl⟩
theorem zd_L_law_677 : zz_D zy_law_L 677 (.pop) 1 678 := ⟨zg_L_law_665.2.2.2.2.2.2.1, rfl⟩
theorem zd_L_law_678 : zz_B zy_law_L 678 Instr.goto 1208 681 := ⟨530, zg_L_law_665.2.2.2.2.2.2.2.1, rfl, rfl⟩
theorem zd_L_law_681 : zz_D zy_law_L 681 (.aload_n 1) 1 682 := ⟨zg_L_law_665.2.2.2.2.2.2.2.2.1, rfl⟩
theorem zd_L_law_682 : zz_D zy_law_L 682 (.aload_n 0) 1 683 := ⟨zg_L_law_665.2.2.2.2.2.2.2.2.2, rfl⟩
theorem zg_L_law_683 : (decode zy_law_L.2.1 683 = .ok ((.iload 4), 2)) ∧ (decode zy_law_L.2.1 685 = .ok ((.iconst 1), 1)) ∧ (decode zy_law_L.2.1 686 = .ok ((.iadd), 1)) ∧ (decode zy_law_L.2.1 687 = .ok ((.iaload), 1)) ∧ (decode zy_law_L.2.1 688 = .ok ((.aload_n 3), 1)) ∧ (decode zy_law_L.2.1 689 = .ok ((.invokestatic 158), 3)) ∧ (decode zy_law_L.2.1 692 = .ok ((.istore 5), 2)) ∧ (decode zy_law_L.2.1 694 = .ok ((.aload_n 2), 1)) ∧ (decode zy_law_L.2.1 695 = .ok ((.aload_n 0), 1)) ∧ (decode zy_law_L.2.1 696 = .ok ((.iload 4), 2)) := by decide +kernel
theorem zd_L_law_683 : zz_D zy_law_L 683 (.iload 4) 2 685 := ⟨zg_L_law_683.1, rfl⟩
theorem zd_L_law_685 : zz_D zy_law_L 685 (.iconst 1) 1 686 := ⟨zg_L_law_683.2.1, rfl⟩
theorem zd_L_law_686 : zz_D zy_law_L 686 (.iadd) 1 687 := ⟨zg_L_law_683.2.2.1, rfl⟩
theorem zd_L_law_687 : zz_D zy_law_L 687 (.iaload) 1 688 := ⟨zg_L_law_683.2.2.2.1, rfl⟩
theorem zd_L_law_688 : zz_D zy_law_L 688 (.aload_n 3) 1 689 := ⟨zg_L_law_683.2.2.2.2.1, rfl⟩
theorem zd_L_law_689 : zz_D zy_law_L 689 (.invokestatic 158) 3 692 := ⟨zg_L_law_683.2.2.2.2.2.1, rfl⟩
theorem zd_L_law_692 : zz_D zy_law_L 692 (.istore 5) 2 694 := ⟨zg_L_law_683.2.2.2.2.2.2.1, rfl⟩
theorem zd_L_law_694 : zz_D zy_law_L 694 (.aload_n 2) 1 695 := ⟨zg_L_law_683.2.2.2.2.2.2.2.1, rfl⟩
theorem zd_L_law_695 : zz_D zy_law_L 695 (.aload_n 0) 1 696 := ⟨zg_L_law_683.2.2.2.2.2.2.2.2.1, rfl⟩
theorem zd_L_law_696 : zz_D zy_law_L 696 (.iload 4) 2 698 := ⟨zg_L_law_683.2.2.2.2.2.2.2.2.2, rfl⟩
theorem zg_L_law_698 : (decode zy_law_L.2.1 698 = .ok ((.iconst 1), 1)) ∧ (decode zy_law_L.2.1 699 = .ok ((.iadd), 1)) ∧ (decode zy_law_L.2.1 700 = .ok ((.iaload), 1)) ∧ (decode zy_law_L.2.1 701 = .ok ((.invokevirtual 160), 3)) ∧ (decode zy_law_L.2.1 704 = .ok ((.istore 6), 2)) ∧ (decode zy_law_L.2.1 706 = .ok (Instr.goto 502, 3)) ∧ (decode zy_law_L.2.1 709 = .ok ((.aload_n 1), 1)) ∧ (decode zy_law_L.2.1 710 = .ok ((.aload_n 0), 1)) ∧ (decode zy_law_L.2.1 711 = .ok ((.iload 4), 2)) ∧ (decode zy_law_L.2.1 713 = .ok ((.iconst 1), 1)) := by decide +kernel
theorem zd_L_law_698 : zz_D zy_law_L 698 (.iconst 1) 1 699 := ⟨zg_L_law_698.1, rfl⟩
theorem zd_L_law_699 : zz_D zy_law_L 699 (.iadd) 1 700 := ⟨zg_L_law_698.2.1, rfl⟩
theorem zd_L_law_700 : zz_D zy_law_L 700 (.iaload) 1 701 := ⟨zg_L_law_698.2.2.1, rfl⟩
theorem zd_L_law_701 : zz_D zy_law_L 701 (.invokevirtual 160) 3 704 := ⟨zg_L_law_698.2.2.2.1, rfl⟩
theorem zd_L_law_704 : zz_D zy_law_L 704 (.istore 6) 2 706 := ⟨zg_L_law_698.2.2.2.2.1, rfl⟩
theorem zd_L_law_706 : zz_B zy_law_L 706 Instr.goto 1208 709 := ⟨502, zg_L_law_698.2.2.2.2.2.1, rfl, rfl⟩
theorem zd_L_law_709 : zz_D zy_law_L 709 (.aload_n 1) 1 710 := ⟨zg_L_law_698.2.2.2.2.2.2.1, rfl⟩
theorem zd_L_law_710 : zz_D zy_law_L 710 (.aload_n 0) 1 711 := ⟨zg_L_law_698.2.2.2.2.2.2.2.1, rfl⟩
theorem zd_L_law_711 : zz_D zy_law_L 711 (.iload 4) 2 713 := ⟨zg_L_law_698.2.2.2.2.2.2.2.2.1, rfl⟩
theorem zd_L_law_713 : zz_D zy_law_L 713 (.iconst 1) 1 714 := ⟨zg_L_law_698.2.2.2.2.2.2.2.2.2, rfl⟩
theorem zg_L_law_714 : (decode zy_law_L.2.1 714 = .ok ((.iadd), 1)) ∧ (decode zy_law_L.2.1 715 = .ok ((.iaload), 1)) ∧ (decode zy_law_L.2.1 716 = .ok ((.aload_n 0), 1)) ∧ (decode zy_law_L.2.1 717 = .ok ((.iload 4), 2)) ∧ (decode zy_law_L.2.1 719 = .ok ((.iconst 2), 1)) ∧ (decode zy_law_L.2.1 720 = .ok ((.iadd), 1)) ∧ (decode zy_law_L.2.1 721 = .ok ((.iaload), 1)) ∧ (decode zy_law_L.2.1 722 = .ok ((.aload_n 3), 1)) ∧ (decode zy_law_L.2.1 723 = .ok ((.invokestatic 161), 3)) ∧ (decode zy_law_L.2.1 726 = .ok ((.istore 5), 2)) := by decide +kernel
theorem zd_L_law_714 : zz_D zy_law_L 714 (.iadd) 1 715 := ⟨zg_L_law_714.1, rfl⟩
theorem zd_L_law_715 : zz_D zy_law_L 715 (.iaload) 1 716 := ⟨zg_L_law_714.2.1, rfl⟩
theorem zd_L_law_716 : zz_D zy_law_L 716 (.aload_n 0) 1 717 := ⟨zg_L_law_714.2.2.1, rfl⟩
theorem zd_L_law_717 : zz_D zy_law_L 717 (.iload 4) 2 719 := ⟨zg_L_law_714.2.2.2.1, rfl⟩
theorem zd_L_law_719 : zz_D zy_law_L 719 (.iconst 2) 1 720 := ⟨zg_L_law_714.2.2.2.2.1, rfl⟩
theorem zd_L_law_720 : zz_D zy_law_L 720 (.iadd) 1 721 := ⟨zg_L_law_714.2.2.2.2.2.1, rfl⟩
theorem zd_L_law_721 : zz_D zy_law_L 721 (.iaload) 1 722 := ⟨zg_L_law_714.2.2.2.2.2.2.1, rfl⟩
theorem zd_L_law_722 : zz_D zy_law_L 722 (.aload_n 3) 1 723 := ⟨zg_L_law_714.2.2.2.2.2.2.2.1, rfl⟩
theorem zd_L_law_723 : zz_D zy_law_L 723 (.invokestatic 161) 3 726 := ⟨zg_L_law_714.2.2.2.2.2.2.2.2.1, rfl⟩
theorem zd_L_law_726 : zz_D zy_law_L 726 (.istore 5) 2 728 := ⟨zg_L_law_714.2.2.2.2.2.2.2.2.2, rfl⟩
theorem zg_L_law_728 : (decode zy_law_L.2.1 728 = .ok ((.aload_n 2), 1)) ∧ (decode zy_law_L.2.1 729 = .ok ((.aload_n 0), 1)) ∧ (decode zy_law_L.2.1 730 = .ok ((.iload 4), 2)) ∧ (decode zy_law_L.2.1 732 = .ok ((.iconst 1), 1)) ∧ (decode zy_law_L.2.1 733 = .ok ((.iadd), 1)) ∧ (decode zy_law_L.2.1 734 = .ok ((.iaload), 1)) ∧ (decode zy_law_L.2.1 735 = .ok ((.aload_n 0), 1)) ∧ (decode zy_law_L.2.1 736 = .ok ((.iload 4), 2)) ∧ (decode zy_law_L.2.1 738 = .ok ((.iconst 2), 1)) ∧ (decode zy_law_L.2.1 739 = .ok ((.iadd), 1)) := by decide +kernel
theorem zd_L_law_728 : zz_D zy_law_L 728 (.aload_n 2) 1 729 := ⟨zg_L_law_728.1, rfl⟩
theorem zd_L_law_729 : zz_D zy_law_L 729 (.aload_n 0) 1 730 := ⟨zg_L_law_728.2.1, rfl⟩
theorem zd_L_law_730 : zz_D zy_law_L 730 (.iload 4) 2 732 := ⟨zg_L_law_728.2.2.1, rfl⟩
theorem zd_L_law_732 : zz_D zy_law_L 732 (.iconst 1) 1 733 := ⟨zg_L_law_728.2.2.2.1, rfl⟩
theorem zd_L_law_733 : zz_D zy_law_L 733 (.iadd) 1 734 := ⟨zg_L_law_728.2.2.2.2.1, rfl⟩
theorem zd_L_law_734 : zz_D zy_law_L 734 (.iaload) 1 735 := ⟨zg_L_law_728.2.2.2.2.2.1, rfl⟩
theorem zd_L_law_735 : zz_D zy_law_L 735 (.aload_n 0) 1 736 := ⟨zg_L_law_728.2.2.2.2.2.2.1, rfl⟩
theorem zd_L_law_736 : zz_D zy_law_L 736 (.iload 4) 2 738 := ⟨zg_L_law_728.2.2.2.2.2.2.2.1, rfl⟩
theorem zd_L_law_738 : zz_D zy_law_L 738 (.iconst 2) 1 739 := ⟨zg_L_law_728.2.2.2.2.2.2.2.2.1, rfl⟩
theorem zd_L_law_739 : zz_D zy_law_L 739 (.iadd) 1 740 := ⟨zg_L_law_728.2.2.2.2.2.2.2.2.2, rfl⟩
theorem zg_L_law_740 : (decode zy_law_L.2.1 740 = .ok ((.iaload), 1)) ∧ (decode zy_law_L.2.1 741 = .ok ((.invokevirtual 163), 3)) ∧ (decode zy_law_L.2.1 744 = .ok ((.istore 6), 2)) ∧ (decode zy_law_L.2.1 746 = .ok (Instr.goto 462, 3)) ∧ (decode zy_law_L.2.1 749 = .ok ((.aload_n 1), 1)) ∧ (decode zy_law_L.2.1 750 = .ok ((.aload_n 0), 1)) ∧ (decode zy_law_L.2.1 751 = .ok ((.iload 4), 2)) ∧ (decode zy_law_L.2.1 753 = .ok ((.iconst 1), 1)) ∧ (decode zy_law_L.2.1 754 = .ok ((.iadd), 1)) ∧ (decode zy_law_L.2.1 755 = .ok ((.iaload), 1)) := by decide +kernel
theorem zd_L_law_740 : zz_D zy_law_L 740 (.iaload) 1 741 := ⟨zg_L_law_740.1, rfl⟩
theorem zd_L_law_741 : zz_D zy_law_L 741 (.invokevirtual 163) 3 744 := ⟨zg_L_law_740.2.1, rfl⟩
theorem zd_L_law_744 : zz_D zy_law_L 744 (.istore 6) 2 746 := ⟨zg_L_law_740.2.2.1, rfl⟩
theorem zd_L_law_746 : zz_B zy_law_L 746 Instr.goto 1208 749 := ⟨462, zg_L_law_740.2.2.2.1, rfl, rfl⟩
theorem zd_L_law_749 : zz_D zy_law_L 749 (.aload_n 1) 1 750 := ⟨zg_L_law_740.2.2.2.2.1, rfl⟩
theorem zd_L_law_750 : zz_D zy_law_L 750 (.aload_n 0) 1 751 := ⟨zg_L_law_740.2.2.2.2.2.1, rfl⟩
theorem zd_L_law_751 : zz_D zy_law_L 751 (.iload 4) 2 753 := ⟨zg_L_law_740.2.2.2.2.2.2.1, rfl⟩
theorem zd_L_law_753 : zz_D zy_law_L 753 (.iconst 1) 1 754 := ⟨zg_L_law_740.2.2.2.2.2.2.2.1, rfl⟩
theorem zd_L_law_754 : zz_D zy_law_L 754 (.iadd) 1 755 := ⟨zg_L_law_740.2.2.2.2.2.2.2.2.1, rfl⟩
theorem zd_L_law_755 : zz_D zy_law_L 755 (.iaload) 1 756 := ⟨zg_L_law_740.2.2.2.2.2.2.2.2.2, rfl⟩
theorem zg_L_law_756 : (decode zy_law_L.2.1 756 = .ok ((.aload_n 0), 1)) ∧ (decode zy_law_L.2.1 757 = .ok ((.iload 4), 2)) ∧ (decode zy_law_L.2.1 759 = .ok ((.iconst 2), 1)) ∧ (decode zy_law_L.2.1 760 = .ok ((.iadd), 1)) ∧ (decode zy_law_L.2.1 761 = .ok ((.iaload), 1)) ∧ (decode zy_law_L.2.1 762 = .ok ((.aload_n 0), 1)) ∧ (decode zy_law_L.2.1 763 = .ok ((.iload 4), 2)) ∧ (decode zy_law_L.2.1 765 = .ok ((.iconst 3), 1)) ∧ (decode zy_law_L.2.1 766 = .ok ((.iadd), 1)) ∧ (decode zy_law_L.2.1 767 = .ok ((.iaload), 1)) := by decide +kernel
theorem zd_L_law_756 : zz_D zy_law_L 756 (.aload_n 0) 1 757 := ⟨zg_L_law_756.1, rfl⟩
theorem zd_L_law_757 : zz_D zy_law_L 757 (.iload 4) 2 759 := ⟨zg_L_law_756.2.1, rfl⟩
theorem zd_L_law_759 : zz_D zy_law_L 759 (.iconst 2) 1 760 := ⟨zg_L_law_756.2.2.1, rfl⟩
theorem zd_L_law_760 : zz_D zy_law_L 760 (.iadd) 1 761 := ⟨zg_L_law_756.2.2.2.1, rfl⟩
theorem zd_L_law_761 : zz_D zy_law_L 761 (.iaload) 1 762 := ⟨zg_L_law_756.2.2.2.2.1, rfl⟩
theorem zd_L_law_762 : zz_D zy_law_L 762 (.aload_n 0) 1 763 := ⟨zg_L_law_756.2.2.2.2.2.1, rfl⟩
theorem zd_L_law_763 : zz_D zy_law_L 763 (.iload 4) 2 765 := ⟨zg_L_law_756.2.2.2.2.2.2.1, rfl⟩
theorem zd_L_law_765 : zz_D zy_law_L 765 (.iconst 3) 1 766 := ⟨zg_L_law_756.2.2.2.2.2.2.2.1, rfl⟩
theorem zd_L_law_766 : zz_D zy_law_L 766 (.iadd) 1 767 := ⟨zg_L_law_756.2.2.2.2.2.2.2.2.1, rfl⟩
theorem zd_L_law_767 : zz_D zy_law_L 767 (.iaload) 1 768 := ⟨zg_L_law_756.2.2.2.2.2.2.2.2.2, rfl⟩
theorem zg_L_law_768 : (decode zy_law_L.2.1 768 = .ok ((.invokestatic 164), 3)) ∧ (decode zy_law_L.2.1 771 = .ok ((.istore 5), 2)) ∧ (decode zy_law_L.2.1 773 = .ok ((.aload_n 2), 1)) ∧ (decode zy_law_L.2.1 774 = .ok ((.aload_n 0), 1)) ∧ (decode zy_law_L.2.1 775 = .ok ((.iload 4), 2)) ∧ (decode zy_law_L.2.1 777 = .ok ((.iconst 1), 1)) ∧ (decode zy_law_L.2.1 778 = .ok ((.iadd), 1)) ∧ (decode zy_law_L.2.1 779 = .ok ((.iaload), 1)) ∧ (decode zy_law_L.2.1 780 = .ok ((.aload_n 0), 1)) ∧ (decode zy_law_L.2.1 781 = .ok ((.iload 4), 2)) := by decide +kernel
theorem zd_L_law_768 : zz_D zy_law_L 768 (.invokestatic 164) 3 771 := ⟨zg_L_law_768.1, rfl⟩
theorem zd_L_law_771 : zz_D zy_law_L 771 (.istore 5) 2 773 := ⟨zg_L_law_768.2.1, rfl⟩
theorem zd_L_law_773 : zz_D zy_law_L 773 (.aload_n 2) 1 774 := ⟨zg_L_law_768.2.2.1, rfl⟩
theorem zd_L_law_774 : zz_D zy_law_L 774 (.aload_n 0) 1 775 := ⟨zg_L_law_768.2.2.2.1, rfl⟩
theorem zd_L_law_775 : zz_D zy_law_L 775 (.iload 4) 2 777 := ⟨zg_L_law_768.2.2.2.2.1, rfl⟩
theorem zd_L_law_777 : zz_D zy_law_L 777 (.iconst 1) 1 778 := ⟨zg_L_law_768.2.2.2.2.2.1, rfl⟩
theorem zd_L_law_778 : zz_D zy_law_L 778 (.iadd) 1 779 := ⟨zg_L_law_768.2.2.2.2.2.2.1, rfl⟩
theorem zd_L_law_779 : zz_D zy_law_L 779 (.iaload) 1 780 := ⟨zg_L_law_768.2.2.2.2.2.2.2.1, rfl⟩
theorem zd_L_law_780 : zz_D zy_law_L 780 (.aload_n 0) 1 781 := ⟨zg_L_law_768.2.2.2.2.2.2.2.2.1, rfl⟩
theorem zd_L_law_781 : zz_D zy_law_L 781 (.iload 4) 2 783 := ⟨zg_L_law_768.2.2.2.2.2.2.2.2.2, rfl⟩
theorem zg_L_law_783 : (decode zy_law_L.2.1 783 = .ok ((.iconst 2), 1)) ∧ (decode zy_law_L.2.1 784 = .ok ((.iadd), 1)) ∧ (decode zy_law_L.2.1 785 = .ok ((.iaload), 1)) ∧ (decode zy_law_L.2.1 786 = .ok ((.aload_n 0), 1)) ∧ (decode zy_law_L.2.1 787 = .ok ((.iload 4), 2)) ∧ (decode zy_law_L.2.1 789 = .ok ((.iconst 3), 1)) ∧ (decode zy_law_L.2.1 790 = .ok ((.iadd), 1)) ∧ (decode zy_law_L.2.1 791 = .ok ((.iaload), 1)) ∧ (decode zy_law_L.2.1 792 = .ok ((.invokevirtual 167), 3)) ∧ (decode zy_law_L.2.1 795 = .ok (Instr.goto 413, 3)) := by decide +kernel
theorem zd_L_law_783 : zz_D zy_law_L 783 (.iconst 2) 1 784 := ⟨zg_L_law_783.1, rfl⟩
theorem zd_L_law_784 : zz_D zy_law_L 784 (.iadd) 1 785 := ⟨zg_L_law_783.2.1, rfl⟩
theorem zd_L_law_785 : zz_D zy_law_L 785 (.iaload) 1 786 := ⟨zg_L_law_783.2.2.1, rfl⟩
theorem zd_L_law_786 : zz_D zy_law_L 786 (.aload_n 0) 1 787 := ⟨zg_L_law_783.2.2.2.1, rfl⟩
theorem zd_L_law_787 : zz_D zy_law_L 787 (.iload 4) 2 789 := ⟨zg_L_law_783.2.2.2.2.1, rfl⟩
theorem zd_L_law_789 : zz_D zy_law_L 789 (.iconst 3) 1 790 := ⟨zg_L_law_783.2.2.2.2.2.1, rfl⟩
theorem zd_L_law_790 : zz_D zy_law_L 790 (.iadd) 1 791 := ⟨zg_L_law_783.2.2.2.2.2.2.1, rfl⟩
theorem zd_L_law_791 : zz_D zy_law_L 791 (.iaload) 1 792 := ⟨zg_L_law_783.2.2.2.2.2.2.2.1, rfl⟩
theorem zd_L_law_792 : zz_D zy_law_L 792 (.invokevirtual 167) 3 795 := ⟨zg_L_law_783.2.2.2.2.2.2.2.2.1, rfl⟩
theorem zd_L_law_795 : zz_B zy_law_L 795 Instr.goto 1208 798 := ⟨413, zg_L_law_783.2.2.2.2.2.2.2.2.2, rfl, rfl⟩
theorem zg_L_law_798 : (decode zy_law_L.2.1 798 = .ok ((.aload_n 1), 1)) ∧ (decode zy_law_L.2.1 799 = .ok ((.aload_n 0), 1)) ∧ (decode zy_law_L.2.1 800 = .ok ((.iload 4), 2)) ∧ (decode zy_law_L.2.1 802 = .ok ((.iconst 1), 1)) ∧ (decode zy_law_L.2.1 803 = .ok ((.iadd), 1)) ∧ (decode zy_law_L.2.1 804 = .ok ((.iaload), 1)) ∧ (decode zy_law_L.2.1 805 = .ok ((.aload_n 0), 1)) ∧ (decode zy_law_L.2.1 806 = .ok ((.iload 4), 2)) ∧ (decode zy_law_L.2.1 808 = .ok ((.iconst 2), 1)) ∧ (decode zy_law_L.2.1 809 = .ok ((.iadd), 1)) := by decide +kernel
theorem zd_L_law_798 : zz_D zy_law_L 798 (.aload_n 1) 1 799 := ⟨zg_L_law_798.1, rfl⟩
theorem zd_L_law_799 : zz_D zy_law_L 799 (.aload_n 0) 1 800 := ⟨zg_L_law_798.2.1, rfl⟩
theorem zd_L_law_800 : zz_D zy_law_L 800 (.iload 4) 2 802 := ⟨zg_L_law_798.2.2.1, rfl⟩
theorem zd_L_law_802 : zz_D zy_law_L 802 (.iconst 1) 1 803 := ⟨zg_L_law_798.2.2.2.1, rfl⟩
theorem zd_L_law_803 : zz_D zy_law_L 803 (.iadd) 1 804 := ⟨zg_L_law_798.2.2.2.2.1, rfl⟩
theorem zd_L_law_804 : zz_D zy_law_L 804 (.iaload) 1 805 := ⟨zg_L_law_798.2.2.2.2.2.1, rfl⟩
theorem zd_L_law_805 : zz_D zy_law_L 805 (.aload_n 0) 1 806 := ⟨zg_L_law_798.2.2.2.2.2.2.1, rfl⟩
theorem zd_L_law_806 : zz_D zy_law_L 806 (.iload 4) 2 808 := ⟨zg_L_law_798.2.2.2.2.2.2.2.1, rfl⟩
theorem zd_L_law_808 : zz_D zy_law_L 808 (.iconst 2) 1 809 := ⟨zg_L_law_798.2.2.2.2.2.2.2.2.1, rfl⟩
theorem zd_L_law_809 : zz_D zy_law_L 809 (.iadd) 1 810 := ⟨zg_L_law_798.2.2.2.2.2.2.2.2.2, rfl⟩
theorem zg_L_law_810 : (decode zy_law_L.2.1 810 = .ok ((.iaload), 1)) ∧ (decode zy_law_L.2.1 811 = .ok ((.aload_n 0), 1)) ∧ (decode zy_law_L.2.1 812 = .ok ((.iload 4), 2)) ∧ (decode zy_law_L.2.1 814 = .ok ((.iconst 3), 1)) ∧ (decode zy_law_L.2.1 815 = .ok ((.iadd), 1)) ∧ (decode zy_law_L.2.1 816 = .ok ((.iaload), 1)) ∧ (decode zy_law_L.2.1 817 = .ok ((.aload_n 0), 1)) ∧ (decode zy_law_L.2.1 818 = .ok ((.iload 4), 2)) ∧ (decode zy_law_L.2.1 820 = .ok ((.iconst 4), 1)) ∧ (decode zy_law_L.2.1 821 = .ok ((.iadd), 1)) := by decide +kernel
theorem zd_L_law_810 : zz_D zy_law_L 810 (.iaload) 1 811 := ⟨zg_L_law_810.1, rfl⟩
theorem zd_L_law_811 : zz_D zy_law_L 811 (.aload_n 0) 1 812 := ⟨zg_L_law_810.2.1, rfl⟩
theorem zd_L_law_812 : zz_D zy_law_L 812 (.iload 4) 2 814 := ⟨zg_L_law_810.2.2.1, rfl⟩
theorem zd_L_law_814 : zz_D zy_law_L 814 (.iconst 3) 1 815 := ⟨zg_L_law_810.2.2.2.1, rfl⟩
theorem zd_L_law_815 : zz_D zy_law_L 815 (.iadd) 1 816 := ⟨zg_L_law_810.2.2.2.2.1, rfl⟩
theorem zd_L_law_816 : zz_D zy_law_L 816 (.iaload) 1 817 := ⟨zg_L_law_810.2.2.2.2.2.1, rfl⟩
theorem zd_L_law_817 : zz_D zy_law_L 817 (.aload_n 0) 1 818 := ⟨zg_L_law_810.2.2.2.2.2.2.1, rfl⟩
theorem zd_L_law_818 : zz_D zy_law_L 818 (.iload 4) 2 820 := ⟨zg_L_law_810.2.2.2.2.2.2.2.1, rfl⟩
theorem zd_L_law_820 : zz_D zy_law_L 820 (.iconst 4) 1 821 := ⟨zg_L_law_810.2.2.2.2.2.2.2.2.1, rfl⟩
theorem zd_L_law_821 : zz_D zy_law_L 821 (.iadd) 1 822 := ⟨zg_L_law_810.2.2.2.2.2.2.2.2.2, rfl⟩
theorem zg_L_law_822 : (decode zy_law_L.2.1 822 = .ok ((.iaload), 1)) ∧ (decode zy_law_L.2.1 823 = .ok ((.aload_n 0), 1)) ∧ (decode zy_law_L.2.1 824 = .ok ((.iload 4), 2)) ∧ (decode zy_law_L.2.1 826 = .ok ((.iconst 5), 1)) ∧ (decode zy_law_L.2.1 827 = .ok ((.iadd), 1)) ∧ (decode zy_law_L.2.1 828 = .ok ((.iaload), 1)) ∧ (decode zy_law_L.2.1 829 = .ok ((.aload_n 0), 1)) ∧ (decode zy_law_L.2.1 830 = .ok ((.iload 4), 2)) ∧ (decode zy_law_L.2.1 832 = .ok ((.bipush 6), 2)) ∧ (decode zy_law_L.2.1 834 = .ok ((.iadd), 1)) := by decide +kernel
theorem zd_L_law_822 : zz_D zy_law_L 822 (.iaload) 1 823 := ⟨zg_L_law_822.1, rfl⟩
theorem zd_L_law_823 : zz_D zy_law_L 823 (.aload_n 0) 1 824 := ⟨zg_L_law_822.2.1, rfl⟩
theorem zd_L_law_824 : zz_D zy_law_L 824 (.iload 4) 2 826 := ⟨zg_L_law_822.2.2.1, rfl⟩
theorem zd_L_law_826 : zz_D zy_law_L 826 (.iconst 5) 1 827 := ⟨zg_L_law_822.2.2.2.1, rfl⟩
theorem zd_L_law_827 : zz_D zy_law_L 827 (.iadd) 1 828 := ⟨zg_L_law_822.2.2.2.2.1, rfl⟩
theorem zd_L_law_828 : zz_D zy_law_L 828 (.iaload) 1 829 := ⟨zg_L_law_822.2.2.2.2.2.1, rfl⟩
theorem zd_L_law_829 : zz_D zy_law_L 829 (.aload_n 0) 1 830 := ⟨zg_L_law_822.2.2.2.2.2.2.1, rfl⟩
theorem zd_L_law_830 : zz_D zy_law_L 830 (.iload 4) 2 832 := ⟨zg_L_law_822.2.2.2.2.2.2.2.1, rfl⟩
theorem zd_L_law_832 : zz_D zy_law_L 832 (.bipush 6) 2 834 := ⟨zg_L_law_822.2.2.2.2.2.2.2.2.1, rfl⟩
theorem zd_L_law_834 : zz_D zy_law_L 834 (.iadd) 1 835 := ⟨zg_L_law_822.2.2.2.2.2.2.2.2.2, rfl⟩
theorem zg_L_law_835 : (decode zy_law_L.2.1 835 = .ok ((.iaload), 1)) ∧ (decode zy_law_L.2.1 836 = .ok ((.aload_n 3), 1)) ∧ (decode zy_law_L.2.1 837 = .ok ((.invokestatic 168), 3)) ∧ (decode zy_law_L.2.1 840 = .ok ((.istore 5), 2)) ∧ (decode zy_law_L.2.1 842 = .ok ((.aload_n 2), 1)) ∧ (decode zy_law_L.2.1 843 = .ok ((.aload_n 0), 1)) ∧ (decode zy_law_L.2.1 844 = .ok ((.iload 4), 2)) ∧ (decode zy_law_L.2.1 846 = .ok ((.iconst 1), 1)) ∧ (decode zy_law_L.2.1 847 = .ok ((.iadd), 1)) ∧ (decode zy_law_L.2.1 848 = .ok ((.iaload), 1)) := by decide +kernel
theorem zd_L_law_835 : zz_D zy_law_L 835 (.iaload) 1 836 := ⟨zg_L_law_835.1, rfl⟩
theorem zd_L_law_836 : zz_D zy_law_L 836 (.aload_n 3) 1 837 := ⟨zg_L_law_835.2.1, rfl⟩
theorem zd_L_law_837 : zz_D zy_law_L 837 (.invokestatic 168) 3 840 := ⟨zg_L_law_835.2.2.1, rfl⟩
theorem zd_L_law_840 : zz_D zy_law_L 840 (.istore 5) 2 842 := ⟨zg_L_law_835.2.2.2.1, rfl⟩
theorem zd_L_law_842 : zz_D zy_law_L 842 (.aload_n 2) 1 843 := ⟨zg_L_law_835.2.2.2.2.1, rfl⟩
theorem zd_L_law_843 : zz_D zy_law_L 843 (.aload_n 0) 1 844 := ⟨zg_L_law_835.2.2.2.2.2.1, rfl⟩
theorem zd_L_law_844 : zz_D zy_law_L 844 (.iload 4) 2 846 := ⟨zg_L_law_835.2.2.2.2.2.2.1, rfl⟩
theorem zd_L_law_846 : zz_D zy_law_L 846 (.iconst 1) 1 847 := ⟨zg_L_law_835.2.2.2.2.2.2.2.1, rfl⟩
theorem zd_L_law_847 : zz_D zy_law_L 847 (.iadd) 1 848 := ⟨zg_L_law_835.2.2.2.2.2.2.2.2.1, rfl⟩
theorem zd_L_law_848 : zz_D zy_law_L 848 (.iaload) 1 849 := ⟨zg_L_law_835.2.2.2.2.2.2.2.2.2, rfl⟩
theorem zg_L_law_849 : (decode zy_law_L.2.1 849 = .ok ((.aload_n 0), 1)) ∧ (decode zy_law_L.2.1 850 = .ok ((.iload 4), 2)) ∧ (decode zy_law_L.2.1 852 = .ok ((.iconst 2), 1)) ∧ (decode zy_law_L.2.1 853 = .ok ((.iadd), 1)) ∧ (decode zy_law_L.2.1 854 = .ok ((.iaload), 1)) ∧ (decode zy_law_L.2.1 855 = .ok ((.aload_n 0), 1)) ∧ (decode zy_law_L.2.1 856 = .ok ((.iload 4), 2)) ∧ (decode zy_law_L.2.1 858 = .ok ((.iconst 3), 1)) ∧ (decode zy_law_L.2.1 859 = .ok ((.iadd), 1)) ∧ (decode zy_law_L.2.1 860 = .ok ((.iaload), 1)) := by decide +kernel
theorem zd_L_law_849 : zz_D zy_law_L 849 (.aload_n 0) 1 850 := ⟨zg_L_law_849.1, rfl⟩
theorem zd_L_law_850 : zz_D zy_law_L 850 (.iload 4) 2 852 := ⟨zg_L_law_849.2.1, rfl⟩
theorem zd_L_law_852 : zz_D zy_law_L 852 (.iconst 2) 1 853 := ⟨zg_L_law_849.2.2.1, rfl⟩
theorem zd_L_law_853 : zz_D zy_law_L 853 (.iadd) 1 854 := ⟨zg_L_law_849.2.2.2.1, rfl⟩
theorem zd_L_law_854 : zz_D zy_law_L 854 (.iaload) 1 855 := ⟨zg_L_law_849.2.2.2.2.1, rfl⟩
theorem zd_L_law_855 : zz_D zy_law_L 855 (.aload_n 0) 1 856 := ⟨zg_L_law_849.2.2.2.2.2.1, rfl⟩
theorem zd_L_law_856 : zz_D zy_law_L 856 (.iload 4) 2 858 := ⟨zg_L_law_849.2.2.2.2.2.2.1, rfl⟩
theorem zd_L_law_858 : zz_D zy_law_L 858 (.iconst 3) 1 859 := ⟨zg_L_law_849.2.2.2.2.2.2.2.1, rfl⟩
theorem zd_L_law_859 : zz_D zy_law_L 859 (.iadd) 1 860 := ⟨zg_L_law_849.2.2.2.2.2.2.2.2.1, rfl⟩
theorem zd_L_law_860 : zz_D zy_law_L 860 (.iaload) 1 861 := ⟨zg_L_law_849.2.2.2.2.2.2.2.2.2, rfl⟩
theorem zg_L_law_861 : (decode zy_law_L.2.1 861 = .ok ((.aload_n 0), 1)) ∧ (decode zy_law_L.2.1 862 = .ok ((.iload 4), 2)) ∧ (decode zy_law_L.2.1 864 = .ok ((.iconst 4), 1)) ∧ (decode zy_law_L.2.1 865 = .ok ((.iadd), 1)) ∧ (decode zy_law_L.2.1 866 = .ok ((.iaload), 1)) ∧ (decode zy_law_L.2.1 867 = .ok ((.aload_n 0), 1)) ∧ (decode zy_law_L.2.1 868 = .ok ((.iload 4), 2)) ∧ (decode zy_law_L.2.1 870 = .ok ((.iconst 5), 1)) ∧ (decode zy_law_L.2.1 871 = .ok ((.iadd), 1)) ∧ (decode zy_law_L.2.1 872 = .ok ((.iaload), 1)) := by decide +kernel
theorem zd_L_law_861 : zz_D zy_law_L 861 (.aload_n 0) 1 862 := ⟨zg_L_law_861.1, rfl⟩
theorem zd_L_law_862 : zz_D zy_law_L 862 (.iload 4) 2 864 := ⟨zg_L_law_861.2.1, rfl⟩
theorem zd_L_law_864 : zz_D zy_law_L 864 (.iconst 4) 1 865 := ⟨zg_L_law_861.2.2.1, rfl⟩
theorem zd_L_law_865 : zz_D zy_law_L 865 (.iadd) 1 866 := ⟨zg_L_law_861.2.2.2.1, rfl⟩
theorem zd_L_law_866 : zz_D zy_law_L 866 (.iaload) 1 867 := ⟨zg_L_law_861.2.2.2.2.1, rfl⟩
theorem zd_L_law_867 : zz_D zy_law_L 867 (.aload_n 0) 1 868 := ⟨zg_L_law_861.2.2.2.2.2.1, rfl⟩
theorem zd_L_law_868 : zz_D zy_law_L 868 (.iload 4) 2 870 := ⟨zg_L_law_861.2.2.2.2.2.2.1, rfl⟩
theorem zd_L_law_870 : zz_D zy_law_L 870 (.iconst 5) 1 871 := ⟨zg_L_law_861.2.2.2.2.2.2.2.1, rfl⟩
theorem zd_L_law_871 : zz_D zy_law_L 871 (.iadd) 1 872 := ⟨zg_L_law_861.2.2.2.2.2.2.2.2.1, rfl⟩
theorem zd_L_law_872 : zz_D zy_law_L 872 (.iaload) 1 873 := ⟨zg_L_law_861.2.2.2.2.2.2.2.2.2, rfl⟩
theorem zg_L_law_873 : (decode zy_law_L.2.1 873 = .ok ((.aload_n 0), 1)) ∧ (decode zy_law_L.2.1 874 = .ok ((.iload 4), 2)) ∧ (decode zy_law_L.2.1 876 = .ok ((.bipush 6), 2)) ∧ (decode zy_law_L.2.1 878 = .ok ((.iadd), 1)) ∧ (decode zy_law_L.2.1 879 = .ok ((.iaload), 1)) ∧ (decode zy_law_L.2.1 880 = .ok ((.invokevirtual 171), 3)) ∧ (decode zy_law_L.2.1 883 = .ok ((.istore 6), 2)) ∧ (decode zy_law_L.2.1 885 = .ok (Instr.goto 323, 3)) ∧ (decode zy_law_L.2.1 888 = .ok ((.aload_n 1), 1)) ∧ (decode zy_law_L.2.1 889 = .ok ((.aload_n 0), 1)) := by decide +kernel
theorem zd_L_law_873 : zz_D zy_law_L 873 (.aload_n 0) 1 874 := ⟨zg_L_law_873.1, rfl⟩
theorem zd_L_law_874 : zz_D zy_law_L 874 (.iload 4) 2 876 := ⟨zg_L_law_873.2.1, rfl⟩
theorem zd_L_law_876 : zz_D zy_law_L 876 (.bipush 6) 2 878 := ⟨zg_L_law_873.2.2.1, rfl⟩
theorem zd_L_law_878 : zz_D zy_law_L 878 (.iadd) 1 879 := ⟨zg_L_law_873.2.2.2.1, rfl⟩
theorem zd_L_law_879 : zz_D zy_law_L 879 (.iaload) 1 880 := ⟨zg_L_law_873.2.2.2.2.1, rfl⟩
theorem zd_L_law_880 : zz_D zy_law_L 880 (.invokevirtual 171) 3 883 := ⟨zg_L_law_873.2.2.2.2.2.1, rfl⟩
theorem zd_L_law_883 : zz_D zy_law_L 883 (.istore 6) 2 885 := ⟨zg_L_law_873.2.2.2.2.2.2.1, rfl⟩
theorem zd_L_law_885 : zz_B zy_law_L 885 Instr.goto 1208 888 := ⟨323, zg_L_law_873.2.2.2.2.2.2.2.1, rfl, rfl⟩
theorem zd_L_law_888 : zz_D zy_law_L 888 (.aload_n 1) 1 889 := ⟨zg_L_law_873.2.2.2.2.2.2.2.2.1, rfl⟩
theorem zd_L_law_889 : zz_D zy_law_L 889 (.aload_n 0) 1 890 := ⟨zg_L_law_873.2.2.2.2.2.2.2.2.2, rfl⟩
theorem zg_L_law_890 : (decode zy_law_L.2.1 890 = .ok ((.iload 4), 2)) ∧ (decode zy_law_L.2.1 892 = .ok ((.iconst 1), 1)) ∧ (decode zy_law_L.2.1 893 = .ok ((.iadd), 1)) ∧ (decode zy_law_L.2.1 894 = .ok ((.iaload), 1)) ∧ (decode zy_law_L.2.1 895 = .ok ((.aload_n 0), 1)) ∧ (decode zy_law_L.2.1 896 = .ok ((.iload 4), 2)) ∧ (decode zy_law_L.2.1 898 = .ok ((.iconst 2), 1)) ∧ (decode zy_law_L.2.1 899 = .ok ((.iadd), 1)) ∧ (decode zy_law_L.2.1 900 = .ok ((.iaload), 1)) ∧ (decode zy_law_L.2.1 901 = .ok ((.aload_n 0), 1)) := by decide +kernel
theorem zd_L_law_890 : zz_D zy_law_L 890 (.iload 4) 2 892 := ⟨zg_L_law_890.1, rfl⟩
theorem zd_L_law_892 : zz_D zy_law_L 892 (.iconst 1) 1 893 := ⟨zg_L_law_890.2.1, rfl⟩
theorem zd_L_law_893 : zz_D zy_law_L 893 (.iadd) 1 894 := ⟨zg_L_law_890.2.2.1, rfl⟩
theorem zd_L_law_894 : zz_D zy_law_L 894 (.iaload) 1 895 := ⟨zg_L_law_890.2.2.2.1, rfl⟩
theorem zd_L_law_895 : zz_D zy_law_L 895 (.aload_n 0) 1 896 := ⟨zg_L_law_890.2.2.2.2.1, rfl⟩
theorem zd_L_law_896 : zz_D zy_law_L 896 (.iload 4) 2 898 := ⟨zg_L_law_890.2.2.2.2.2.1, rfl⟩
theorem zd_L_law_898 : zz_D zy_law_L 898 (.iconst 2) 1 899 := ⟨zg_L_law_890.2.2.2.2.2.2.1, rfl⟩
theorem zd_L_law_899 : zz_D zy_law_L 899 (.iadd) 1 900 := ⟨zg_L_law_890.2.2.2.2.2.2.2.1, rfl⟩
theorem zd_L_law_900 : zz_D zy_law_L 900 (.iaload) 1 901 := ⟨zg_L_law_890.2.2.2.2.2.2.2.2.1, rfl⟩
theorem zd_L_law_901 : zz_D zy_law_L 901 (.aload_n 0) 1 902 := ⟨zg_L_law_890.2.2.2.2.2.2.2.2.2, rfl⟩
theorem zg_L_law_902 : (decode zy_law_L.2.1 902 = .ok ((.iload 4), 2)) ∧ (decode zy_law_L.2.1 904 = .ok ((.iconst 3), 1)) ∧ (decode zy_law_L.2.1 905 = .ok ((.iadd), 1)) ∧ (decode zy_law_L.2.1 906 = .ok ((.iaload), 1)) ∧ (decode zy_law_L.2.1 907 = .ok ((.aload_n 3), 1)) ∧ (decode zy_law_L.2.1 908 = .ok ((.invokestatic 172), 3)) ∧ (decode zy_law_L.2.1 911 = .ok ((.istore 5), 2)) ∧ (decode zy_law_L.2.1 913 = .ok ((.aload_n 2), 1)) ∧ (decode zy_law_L.2.1 914 = .ok ((.aload_n 0), 1)) ∧ (decode zy_law_L.2.1 915 = .ok ((.iload 4), 2)) := by decide +kernel
theorem zd_L_law_902 : zz_D zy_law_L 902 (.iload 4) 2 904 := ⟨zg_L_law_902.1, rfl⟩
theorem zd_L_law_904 : zz_D zy_law_L 904 (.iconst 3) 1 905 := ⟨zg_L_law_902.2.1, rfl⟩
theorem zd_L_law_905 : zz_D zy_law_L 905 (.iadd) 1 906 := ⟨zg_L_law_902.2.2.1, rfl⟩
theorem zd_L_law_906 : zz_D zy_law_L 906 (.iaload) 1 907 := ⟨zg_L_law_902.2.2.2.1, rfl⟩
theorem zd_L_law_907 : zz_D zy_law_L 907 (.aload_n 3) 1 908 := ⟨zg_L_law_902.2.2.2.2.1, rfl⟩
theorem zd_L_law_908 : zz_D zy_law_L 908 (.invokestatic 172) 3 911 := ⟨zg_L_law_902.2.2.2.2.2.1, rfl⟩
theorem zd_L_law_911 : zz_D zy_law_L 911 (.istore 5) 2 913 := ⟨zg_L_law_902.2.2.2.2.2.2.1, rfl⟩
theorem zd_L_law_913 : zz_D zy_law_L 913 (.aload_n 2) 1 914 := ⟨zg_L_law_902.2.2.2.2.2.2.2.1, rfl⟩
theorem zd_L_law_914 : zz_D zy_law_L 914 (.aload_n 0) 1 915 := ⟨zg_L_law_902.2.2.2.2.2.2.2.2.1, rfl⟩
theorem zd_L_law_915 : zz_D zy_law_L 915 (.iload 4) 2 917 := ⟨zg_L_law_902.2.2.2.2.2.2.2.2.2, rfl⟩
theorem zg_L_law_917 : (decode zy_law_L.2.1 917 = .ok ((.iconst 1), 1)) ∧ (decode zy_law_L.2.1 918 = .ok ((.iadd), 1)) ∧ (decode zy_law_L.2.1 919 = .ok ((.iaload), 1)) ∧ (decode zy_law_L.2.1 920 = .ok ((.aload_n 0), 1)) ∧ (decode zy_law_L.2.1 921 = .ok ((.iload 4), 2)) ∧ (decode zy_law_L.2.1 923 = .ok ((.iconst 2), 1)) ∧ (decode zy_law_L.2.1 924 = .ok ((.iadd), 1)) ∧ (decode zy_law_L.2.1 925 = .ok ((.iaload), 1)) ∧ (decode zy_law_L.2.1 926 = .ok ((.aload_n 0), 1)) ∧ (decode zy_law_L.2.1 927 = .ok ((.iload 4), 2)) := by decide +kernel
theorem zd_L_law_917 : zz_D zy_law_L 917 (.iconst 1) 1 918 := ⟨zg_L_law_917.1, rfl⟩
theorem zd_L_law_918 : zz_D zy_law_L 918 (.iadd) 1 919 := ⟨zg_L_law_917.2.1, rfl⟩
theorem zd_L_law_919 : zz_D zy_law_L 919 (.iaload) 1 920 := ⟨zg_L_law_917.2.2.1, rfl⟩
theorem zd_L_law_920 : zz_D zy_law_L 920 (.aload_n 0) 1 921 := ⟨zg_L_law_917.2.2.2.1, rfl⟩
theorem zd_L_law_921 : zz_D zy_law_L 921 (.iload 4) 2 923 := ⟨zg_L_law_917.2.2.2.2.1, rfl⟩
theorem zd_L_law_923 : zz_D zy_law_L 923 (.iconst 2) 1 924 := ⟨zg_L_law_917.2.2.2.2.2.1, rfl⟩
theorem zd_L_law_924 : zz_D zy_law_L 924 (.iadd) 1 925 := ⟨zg_L_law_917.2.2.2.2.2.2.1, rfl⟩
theorem zd_L_law_925 : zz_D zy_law_L 925 (.iaload) 1 926 := ⟨zg_L_law_917.2.2.2.2.2.2.2.1, rfl⟩
theorem zd_L_law_926 : zz_D zy_law_L 926 (.aload_n 0) 1 927 := ⟨zg_L_law_917.2.2.2.2.2.2.2.2.1, rfl⟩
theorem zd_L_law_927 : zz_D zy_law_L 927 (.iload 4) 2 929 := ⟨zg_L_law_917.2.2.2.2.2.2.2.2.2, rfl⟩
theorem zg_L_law_929 : (decode zy_law_L.2.1 929 = .ok ((.iconst 3), 1)) ∧ (decode zy_law_L.2.1 930 = .ok ((.iadd), 1)) ∧ (decode zy_law_L.2.1 931 = .ok ((.iaload), 1)) ∧ (decode zy_law_L.2.1 932 = .ok ((.invokevirtual 175), 3)) ∧ (decode zy_law_L.2.1 935 = .ok ((.istore 6), 2)) ∧ (decode zy_law_L.2.1 937 = .ok (Instr.goto 271, 3)) ∧ (decode zy_law_L.2.1 940 = .ok ((.aload_n 1), 1)) ∧ (decode zy_law_L.2.1 941 = .ok ((.aload_n 0), 1)) ∧ (decode zy_law_L.2.1 942 = .ok ((.iload 4), 2)) ∧ (decode zy_law_L.2.1 944 = .ok ((.iconst 1), 1)) := by decide +kernel
theorem zd_L_law_929 : zz_D zy_law_L 929 (.iconst 3) 1 930 := ⟨zg_L_law_929.1, rfl⟩
theorem zd_L_law_930 : zz_D zy_law_L 930 (.iadd) 1 931 := ⟨zg_L_law_929.2.1, rfl⟩
theorem zd_L_law_931 : zz_D zy_law_L 931 (.iaload) 1 932 := ⟨zg_L_law_929.2.2.1, rfl⟩
theorem zd_L_law_932 : zz_D zy_law_L 932 (.invokevirtual 175) 3 935 := ⟨zg_L_law_929.2.2.2.1, rfl⟩
theorem zd_L_law_935 : zz_D zy_law_L 935 (.istore 6) 2 937 := ⟨zg_L_law_929.2.2.2.2.1, rfl⟩
theorem zd_L_law_937 : zz_B zy_law_L 937 Instr.goto 1208 940 := ⟨271, zg_L_law_929.2.2.2.2.2.1, rfl, rfl⟩
theorem zd_L_law_940 : zz_D zy_law_L 940 (.aload_n 1) 1 941 := ⟨zg_L_law_929.2.2.2.2.2.2.1, rfl⟩
theorem zd_L_law_941 : zz_D zy_law_L 941 (.aload_n 0) 1 942 := ⟨zg_L_law_929.2.2.2.2.2.2.2.1, rfl⟩
theorem zd_L_law_942 : zz_D zy_law_L 942 (.iload 4) 2 944 := ⟨zg_L_law_929.2.2.2.2.2.2.2.2.1, rfl⟩
theorem zd_L_law_944 : zz_D zy_law_L 944 (.iconst 1) 1 945 := ⟨zg_L_law_929.2.2.2.2.2.2.2.2.2, rfl⟩
theorem zg_L_law_945 : (decode zy_law_L.2.1 945 = .ok ((.iadd), 1)) ∧ (decode zy_law_L.2.1 946 = .ok ((.iaload), 1)) ∧ (decode zy_law_L.2.1 947 = .ok ((.aload_n 0), 1)) ∧ (decode zy_law_L.2.1 948 = .ok ((.iload 4), 2)) ∧ (decode zy_law_L.2.1 950 = .ok ((.iconst 2), 1)) ∧ (decode zy_law_L.2.1 951 = .ok ((.iadd), 1)) ∧ (decode zy_law_L.2.1 952 = .ok ((.iaload), 1)) ∧ (decode zy_law_L.2.1 953 = .ok ((.aload_n 0), 1)) ∧ (decode zy_law_L.2.1 954 = .ok ((.iload 4), 2)) ∧ (decode zy_law_L.2.1 956 = .ok ((.iconst 3), 1)) := by decide +kernel
theorem zd_L_law_945 : zz_D zy_law_L 945 (.iadd) 1 946 := ⟨zg_L_law_945.1, rfl⟩
theorem zd_L_law_946 : zz_D zy_law_L 946 (.iaload) 1 947 := ⟨zg_L_law_945.2.1, rfl⟩
theorem zd_L_law_947 : zz_D zy_law_L 947 (.aload_n 0) 1 948 := ⟨zg_L_law_945.2.2.1, rfl⟩
theorem zd_L_law_948 : zz_D zy_law_L 948 (.iload 4) 2 950 := ⟨zg_L_law_945.2.2.2.1, rfl⟩
theorem zd_L_law_950 : zz_D zy_law_L 950 (.iconst 2) 1 951 := ⟨zg_L_law_945.2.2.2.2.1, rfl⟩
theorem zd_L_law_951 : zz_D zy_law_L 951 (.iadd) 1 952 := ⟨zg_L_law_945.2.2.2.2.2.1, rfl⟩
theorem zd_L_law_952 : zz_D zy_law_L 952 (.iaload) 1 953 := ⟨zg_L_law_945.2.2.2.2.2.2.1, rfl⟩
theorem zd_L_law_953 : zz_D zy_law_L 953 (.aload_n 0) 1 954 := ⟨zg_L_law_945.2.2.2.2.2.2.2.1, rfl⟩
theorem zd_L_law_954 : zz_D zy_law_L 954 (.iload 4) 2 956 := ⟨zg_L_law_945.2.2.2.2.2.2.2.2.1, rfl⟩
theorem zd_L_law_956 : zz_D zy_law_L 956 (.iconst 3) 1 957 := ⟨zg_L_law_945.2.2.2.2.2.2.2.2.2, rfl⟩
theorem zg_L_law_957 : (decode zy_law_L.2.1 957 = .ok ((.iadd), 1)) ∧ (decode zy_law_L.2.1 958 = .ok ((.iaload), 1)) ∧ (decode zy_law_L.2.1 959 = .ok ((.aload_n 3), 1)) ∧ (decode zy_law_L.2.1 960 = .ok ((.invokestatic 176), 3)) ∧ (decode zy_law_L.2.1 963 = .ok ((.istore 5), 2)) ∧ (decode zy_law_L.2.1 965 = .ok ((.aload_n 2), 1)) ∧ (decode zy_law_L.2.1 966 = .ok ((.aload_n 0), 1)) ∧ (decode zy_law_L.2.1 967 = .ok ((.iload 4), 2)) ∧ (decode zy_law_L.2.1 969 = .ok ((.iconst 1), 1)) ∧ (decode zy_law_L.2.1 970 = .ok ((.iadd), 1)) := by decide +kernel
theorem zd_L_law_957 : zz_D zy_law_L 957 (.iadd) 1 958 := ⟨zg_L_law_957.1, rfl⟩
theorem zd_L_law_958 : zz_D zy_law_L 958 (.iaload) 1 959 := ⟨zg_L_law_957.2.1, rfl⟩
theorem zd_L_law_959 : zz_D zy_law_L 959 (.aload_n 3) 1 960 := ⟨zg_L_law_957.2.2.1, rfl⟩
theorem zd_L_law_960 : zz_D zy_law_L 960 (.invokestatic 176) 3 963 := ⟨zg_L_law_957.2.2.2.1, rfl⟩
theorem zd_L_law_963 : zz_D zy_law_L 963 (.istore 5) 2 965 := ⟨zg_L_law_957.2.2.2.2.1, rfl⟩
theorem zd_L_law_965 : zz_D zy_law_L 965 (.aload_n 2) 1 966 := ⟨zg_L_law_957.2.2.2.2.2.1, rfl⟩
theorem zd_L_law_966 : zz_D zy_law_L 966 (.aload_n 0) 1 967 := ⟨zg_L_law_957.2.2.2.2.2.2.1, rfl⟩
theorem zd_L_law_967 : zz_D zy_law_L 967 (.iload 4) 2 969 := ⟨zg_L_law_957.2.2.2.2.2.2.2.1, rfl⟩
theorem zd_L_law_969 : zz_D zy_law_L 969 (.iconst 1) 1 970 := ⟨zg_L_law_957.2.2.2.2.2.2.2.2.1, rfl⟩
theorem zd_L_law_970 : zz_D zy_law_L 970 (.iadd) 1 971 := ⟨zg_L_law_957.2.2.2.2.2.2.2.2.2, rfl⟩
theorem zg_L_law_971 : (decode zy_law_L.2.1 971 = .ok ((.iaload), 1)) ∧ (decode zy_law_L.2.1 972 = .ok ((.aload_n 0), 1)) ∧ (decode zy_law_L.2.1 973 = .ok ((.iload 4), 2)) ∧ (decode zy_law_L.2.1 975 = .ok ((.iconst 2), 1)) ∧ (decode zy_law_L.2.1 976 = .ok ((.iadd), 1)) ∧ (decode zy_law_L.2.1 977 = .ok ((.iaload), 1)) ∧ (decode zy_law_L.2.1 978 = .ok ((.aload_n 0), 1)) ∧ (decode zy_law_L.2.1 979 = .ok ((.iload 4), 2)) ∧ (decode zy_law_L.2.1 981 = .ok ((.iconst 3), 1)) ∧ (decode zy_law_L.2.1 982 = .ok ((.iadd), 1)) := by decide +kernel
theorem zd_L_law_971 : zz_D zy_law_L 971 (.iaload) 1 972 := ⟨zg_L_law_971.1, rfl⟩
theorem zd_L_law_972 : zz_D zy_law_L 972 (.aload_n 0) 1 973 := ⟨zg_L_law_971.2.1, rfl⟩
theorem zd_L_law_973 : zz_D zy_law_L 973 (.iload 4) 2 975 := ⟨zg_L_law_971.2.2.1, rfl⟩
theorem zd_L_law_975 : zz_D zy_law_L 975 (.iconst 2) 1 976 := ⟨zg_L_law_971.2.2.2.1, rfl⟩
theorem zd_L_law_976 : zz_D zy_law_L 976 (.iadd) 1 977 := ⟨zg_L_law_971.2.2.2.2.1, rfl⟩
theorem zd_L_law_977 : zz_D zy_law_L 977 (.iaload) 1 978 := ⟨zg_L_law_971.2.2.2.2.2.1, rfl⟩
theorem zd_L_law_978 : zz_D zy_law_L 978 (.aload_n 0) 1 979 := ⟨zg_L_law_971.2.2.2.2.2.2.1, rfl⟩
theorem zd_L_law_979 : zz_D zy_law_L 979 (.iload 4) 2 981 := ⟨zg_L_law_971.2.2.2.2.2.2.2.1, rfl⟩
theorem zd_L_law_981 : zz_D zy_law_L 981 (.iconst 3) 1 982 := ⟨zg_L_law_971.2.2.2.2.2.2.2.2.1, rfl⟩
theorem zd_L_law_982 : zz_D zy_law_L 982 (.iadd) 1 983 := ⟨zg_L_law_971.2.2.2.2.2.2.2.2.2, rfl⟩
theorem zg_L_law_983 : (decode zy_law_L.2.1 983 = .ok ((.iaload), 1)) ∧ (decode zy_law_L.2.1 984 = .ok ((.invokevirtual 178), 3)) ∧ (decode zy_law_L.2.1 987 = .ok ((.istore 6), 2)) ∧ (decode zy_law_L.2.1 989 = .ok (Instr.goto 219, 3)) ∧ (decode zy_law_L.2.1 992 = .ok ((.aload_n 1), 1)) ∧ (decode zy_law_L.2.1 993 = .ok ((.aload_n 0), 1)) ∧ (decode zy_law_L.2.1 994 = .ok ((.iload 4), 2)) ∧ (decode zy_law_L.2.1 996 = .ok ((.iconst 1), 1)) ∧ (decode zy_law_L.2.1 997 = .ok ((.iadd), 1)) ∧ (decode zy_law_L.2.1 998 = .ok ((.iaload), 1)) := by decide +kernel
theorem zd_L_law_983 : zz_D zy_law_L 983 (.iaload) 1 984 := ⟨zg_L_law_983.1, rfl⟩
theorem zd_L_law_984 : zz_D zy_law_L 984 (.invokevirtual 178) 3 987 := ⟨zg_L_law_983.2.1, rfl⟩
theorem zd_L_law_987 : zz_D zy_law_L 987 (.istore 6) 2 989 := ⟨zg_L_law_983.2.2.1, rfl⟩
theorem zd_L_law_989 : zz_B zy_law_L 989 Instr.goto 1208 992 := ⟨219, zg_L_law_983.2.2.2.1, rfl, rfl⟩
theorem zd_L_law_992 : zz_D zy_law_L 992 (.aload_n 1) 1 993 := ⟨zg_L_law_983.2.2.2.2.1, rfl⟩
theorem zd_L_law_993 : zz_D zy_law_L 993 (.aload_n 0) 1 994 := ⟨zg_L_law_983.2.2.2.2.2.1, rfl⟩
theorem zd_L_law_994 : zz_D zy_law_L 994 (.iload 4) 2 996 := ⟨zg_L_law_983.2.2.2.2.2.2.1, rfl⟩
theorem zd_L_law_996 : zz_D zy_law_L 996 (.iconst 1) 1 997 := ⟨zg_L_law_983.2.2.2.2.2.2.2.1, rfl⟩
theorem zd_L_law_997 : zz_D zy_law_L 997 (.iadd) 1 998 := ⟨zg_L_law_983.2.2.2.2.2.2.2.2.1, rfl⟩
theorem zd_L_law_998 : zz_D zy_law_L 998 (.iaload) 1 999 := ⟨zg_L_law_983.2.2.2.2.2.2.2.2.2, rfl⟩
theorem zg_L_law_999 : (decode zy_law_L.2.1 999 = .ok ((.aload_n 0), 1)) ∧ (decode zy_law_L.2.1 1000 = .ok ((.iload 4), 2)) ∧ (decode zy_law_L.2.1 1002 = .ok ((.iconst 2), 1)) ∧ (decode zy_law_L.2.1 1003 = .ok ((.iadd), 1)) ∧ (decode zy_law_L.2.1 1004 = .ok ((.iaload), 1)) ∧ (decode zy_law_L.2.1 1005 = .ok ((.aload_n 3), 1)) ∧ (decode zy_law_L.2.1 1006 = .ok ((.invokestatic 179), 3)) ∧ (decode zy_law_L.2.1 1009 = .ok ((.istore 5), 2)) ∧ (decode zy_law_L.2.1 1011 = .ok ((.aload_n 2), 1)) ∧ (decode zy_law_L.2.1 1012 = .ok ((.aload_n 0), 1)) := by decide +kernel
theorem zd_L_law_999 : zz_D zy_law_L 999 (.aload_n 0) 1 1000 := ⟨zg_L_law_999.1, rfl⟩
theorem zd_L_law_1000 : zz_D zy_law_L 1000 (.iload 4) 2 1002 := ⟨zg_L_law_999.2.1, rfl⟩
theorem zd_L_law_1002 : zz_D zy_law_L 1002 (.iconst 2) 1 1003 := ⟨zg_L_law_999.2.2.1, rfl⟩
theorem zd_L_law_1003 : zz_D zy_law_L 1003 (.iadd) 1 1004 := ⟨zg_L_law_999.2.2.2.1, rfl⟩
theorem zd_L_law_1004 : zz_D zy_law_L 1004 (.iaload) 1 1005 := ⟨zg_L_law_999.2.2.2.2.1, rfl⟩
theorem zd_L_law_1005 : zz_D zy_law_L 1005 (.aload_n 3) 1 1006 := ⟨zg_L_law_999.2.2.2.2.2.1, rfl⟩
theorem zd_L_law_1006 : zz_D zy_law_L 1006 (.invokestatic 179) 3 1009 := ⟨zg_L_law_999.2.2.2.2.2.2.1, rfl⟩
theorem zd_L_law_1009 : zz_D zy_law_L 1009 (.istore 5) 2 1011 := ⟨zg_L_law_999.2.2.2.2.2.2.2.1, rfl⟩
theorem zd_L_law_1011 : zz_D zy_law_L 1011 (.aload_n 2) 1 1012 := ⟨zg_L_law_999.2.2.2.2.2.2.2.2.1, rfl⟩
theorem zd_L_law_1012 : zz_D zy_law_L 1012 (.aload_n 0) 1 1013 := ⟨zg_L_law_999.2.2.2.2.2.2.2.2.2, rfl⟩
theorem zg_L_law_1013 : (decode zy_law_L.2.1 1013 = .ok ((.iload 4), 2)) ∧ (decode zy_law_L.2.1 1015 = .ok ((.iconst 1), 1)) ∧ (decode zy_law_L.2.1 1016 = .ok ((.iadd), 1)) ∧ (decode zy_law_L.2.1 1017 = .ok ((.iaload), 1)) ∧ (decode zy_law_L.2.1 1018 = .ok ((.aload_n 0), 1)) ∧ (decode zy_law_L.2.1 1019 = .ok ((.iload 4), 2)) ∧ (decode zy_law_L.2.1 1021 = .ok ((.iconst 2), 1)) ∧ (decode zy_law_L.2.1 1022 = .ok ((.iadd), 1)) ∧ (decode zy_law_L.2.1 1023 = .ok ((.iaload), 1)) ∧ (decode zy_law_L.2.1 1024 = .ok ((.invokevirtual 181), 3)) := by decide +kernel
theorem zd_L_law_1013 : zz_D zy_law_L 1013 (.iload 4) 2 1015 := ⟨zg_L_law_1013.1, rfl⟩
theorem zd_L_law_1015 : zz_D zy_law_L 1015 (.iconst 1) 1 1016 := ⟨zg_L_law_1013.2.1, rfl⟩
theorem zd_L_law_1016 : zz_D zy_law_L 1016 (.iadd) 1 1017 := ⟨zg_L_law_1013.2.2.1, rfl⟩
theorem zd_L_law_1017 : zz_D zy_law_L 1017 (.iaload) 1 1018 := ⟨zg_L_law_1013.2.2.2.1, rfl⟩
theorem zd_L_law_1018 : zz_D zy_law_L 1018 (.aload_n 0) 1 1019 := ⟨zg_L_law_1013.2.2.2.2.1, rfl⟩
theorem zd_L_law_1019 : zz_D zy_law_L 1019 (.iload 4) 2 1021 := ⟨zg_L_law_1013.2.2.2.2.2.1, rfl⟩
theorem zd_L_law_1021 : zz_D zy_law_L 1021 (.iconst 2) 1 1022 := ⟨zg_L_law_1013.2.2.2.2.2.2.1, rfl⟩
theorem zd_L_law_1022 : zz_D zy_law_L 1022 (.iadd) 1 1023 := ⟨zg_L_law_1013.2.2.2.2.2.2.2.1, rfl⟩
theorem zd_L_law_1023 : zz_D zy_law_L 1023 (.iaload) 1 1024 := ⟨zg_L_law_1013.2.2.2.2.2.2.2.2.1, rfl⟩
theorem zd_L_law_1024 : zz_D zy_law_L 1024 (.invokevirtual 181) 3 1027 := ⟨zg_L_law_1013.2.2.2.2.2.2.2.2.2, rfl⟩
theorem zg_L_law_1027 : (decode zy_law_L.2.1 1027 = .ok ((.istore 6), 2)) ∧ (decode zy_law_L.2.1 1029 = .ok (Instr.goto 179, 3)) ∧ (decode zy_law_L.2.1 1032 = .ok ((.aload_n 1), 1)) ∧ (decode zy_law_L.2.1 1033 = .ok ((.aload_n 3), 1)) ∧ (decode zy_law_L.2.1 1034 = .ok ((.invokestatic 182), 3)) ∧ (decode zy_law_L.2.1 1037 = .ok ((.istore 5), 2)) ∧ (decode zy_law_L.2.1 1039 = .ok ((.aload_n 2), 1)) ∧ (decode zy_law_L.2.1 1040 = .ok ((.invokevirtual 185), 3)) ∧ (decode zy_law_L.2.1 1043 = .ok ((.istore 6), 2)) ∧ (decode zy_law_L.2.1 1045 = .ok (Instr.goto 163, 3)) := by decide +kernel
theorem zd_L_law_1027 : zz_D zy_law_L 1027 (.istore 6) 2 1029 := ⟨zg_L_law_1027.1, rfl⟩
theorem zd_L_law_1029 : zz_B zy_law_L 1029 Instr.goto 1208 1032 := ⟨179, zg_L_law_1027.2.1, rfl, rfl⟩
theorem zd_L_law_1032 : zz_D zy_law_L 1032 (.aload_n 1) 1 1033 := ⟨zg_L_law_1027.2.2.1, rfl⟩
theorem zd_L_law_1033 : zz_D zy_law_L 1033 (.aload_n 3) 1 1034 := ⟨zg_L_law_1027.2.2.2.1, rfl⟩
theorem zd_L_law_1034 : zz_D zy_law_L 1034 (.invokestatic 182) 3 1037 := ⟨zg_L_law_1027.2.2.2.2.1, rfl⟩
theorem zd_L_law_1037 : zz_D zy_law_L 1037 (.istore 5) 2 1039 := ⟨zg_L_law_1027.2.2.2.2.2.1, rfl⟩
theorem zd_L_law_1039 : zz_D zy_law_L 1039 (.aload_n 2) 1 1040 := ⟨zg_L_law_1027.2.2.2.2.2.2.1, rfl⟩
theorem zd_L_law_1040 : zz_D zy_law_L 1040 (.invokevirtual 185) 3 1043 := ⟨zg_L_law_1027.2.2.2.2.2.2.2.1, rfl⟩
theorem zd_L_law_1043 : zz_D zy_law_L 1043 (.istore 6) 2 1045 := ⟨zg_L_law_1027.2.2.2.2.2.2.2.2.1, rfl⟩
theorem zd_L_law_1045 : zz_B zy_law_L 1045 Instr.goto 1208 1048 := ⟨163, zg_L_law_1027.2.2.2.2.2.2.2.2.2, rfl, rfl⟩
theorem zg_L_law_1048 : (decode zy_law_L.2.1 1048 = .ok ((.aload_n 1), 1)) ∧ (decode zy_law_L.2.1 1049 = .ok ((.invokevirtual 186), 3)) ∧ (decode zy_law_L.2.1 1052 = .ok ((.aload_n 2), 1)) ∧ (decode zy_law_L.2.1 1053 = .ok ((.invokevirtual 189), 3)) ∧ (decode zy_law_L.2.1 1056 = .ok (Instr.goto 152, 3)) ∧ (decode zy_law_L.2.1 1059 = .ok ((.aload_n 1), 1)) ∧ (decode zy_law_L.2.1 1060 = .ok ((.invokevirtual 190), 3)) ∧ (decode zy_law_L.2.1 1063 = .ok ((.pop), 1)) ∧ (decode zy_law_L.2.1 1064 = .ok ((.aload_n 2), 1)) ∧ (decode zy_law_L.2.1 1065 = .ok ((.invokevirtual 193), 3)) := by decide +kernel
theorem zd_L_law_1048 : zz_D zy_law_L 1048 (.aload_n 1) 1 1049 := ⟨zg_L_law_1048.1, rfl⟩
theorem zd_L_law_1049 : zz_D zy_law_L 1049 (.invokevirtual 186) 3 1052 := ⟨zg_L_law_1048.2.1, rfl⟩
theorem zd_L_law_1052 : zz_D zy_law_L 1052 (.aload_n 2) 1 1053 := ⟨zg_L_law_1048.2.2.1, rfl⟩
theorem zd_L_law_1053 : zz_D zy_law_L 1053 (.invokevirtual 189) 3 1056 := ⟨zg_L_law_1048.2.2.2.1, rfl⟩
theorem zd_L_law_1056 : zz_B zy_law_L 1056 Instr.goto 1208 1059 := ⟨152, zg_L_law_1048.2.2.2.2.1, rfl, rfl⟩
theorem zd_L_law_1059 : zz_D zy_law_L 1059 (.aload_n 1) 1 1060 := ⟨zg_L_law_1048.2.2.2.2.2.1, rfl⟩
theorem zd_L_law_1060 : zz_D zy_law_L 1060 (.invokevirtual 190) 3 1063 := ⟨zg_L_law_1048.2.2.2.2.2.2.1, rfl⟩
theorem zd_L_law_1063 : zz_D zy_law_L 1063 (.pop) 1 1064 := ⟨zg_L_law_1048.2.2.2.2.2.2.2.1, rfl⟩
theorem zd_L_law_1064 : zz_D zy_law_L 1064 (.aload_n 2) 1 1065 := ⟨zg_L_law_1048.2.2.2.2.2.2.2.2.1, rfl⟩
theorem zd_L_law_1065 : zz_D zy_law_L 1065 (.invokevirtual 193) 3 1068 := ⟨zg_L_law_1048.2.2.2.2.2.2.2.2.2, rfl⟩
theorem zg_L_law_1068 : (decode zy_law_L.2.1 1068 = .ok ((.pop), 1)) ∧ (decode zy_law_L.2.1 1069 = .ok (Instr.goto 139, 3)) ∧ (decode zy_law_L.2.1 1072 = .ok ((.aload_n 1), 1)) ∧ (decode zy_law_L.2.1 1073 = .ok ((.aload_n 0), 1)) ∧ (decode zy_law_L.2.1 1074 = .ok ((.iload 4), 2)) ∧ (decode zy_law_L.2.1 1076 = .ok ((.iconst 1), 1)) ∧ (decode zy_law_L.2.1 1077 = .ok ((.iadd), 1)) ∧ (decode zy_law_L.2.1 1078 = .ok ((.iaload), 1)) ∧ (decode zy_law_L.2.1 1079 = .ok ((.aload_n 0), 1)) ∧ (decode zy_law_L.2.1 1080 = .ok ((.iload 4), 2)) := by decide +kernel
theorem zd_L_law_1068 : zz_D zy_law_L 1068 (.pop) 1 1069 := ⟨zg_L_law_1068.1, rfl⟩
theorem zd_L_law_1069 : zz_B zy_law_L 1069 Instr.goto 1208 1072 := ⟨139, zg_L_law_1068.2.1, rfl, rfl⟩
theorem zd_L_law_1072 : zz_D zy_law_L 1072 (.aload_n 1) 1 1073 := ⟨zg_L_law_1068.2.2.1, rfl⟩
theorem zd_L_law_1073 : zz_D zy_law_L 1073 (.aload_n 0) 1 1074 := ⟨zg_L_law_1068.2.2.2.1, rfl⟩
theorem zd_L_law_1074 : zz_D zy_law_L 1074 (.iload 4) 2 1076 := ⟨zg_L_law_1068.2.2.2.2.1, rfl⟩
theorem zd_L_law_1076 : zz_D zy_law_L 1076 (.iconst 1) 1 1077 := ⟨zg_L_law_1068.2.2.2.2.2.1, rfl⟩
theorem zd_L_law_1077 : zz_D zy_law_L 1077 (.iadd) 1 1078 := ⟨zg_L_law_1068.2.2.2.2.2.2.1, rfl⟩
theorem zd_L_law_1078 : zz_D zy_law_L 1078 (.iaload) 1 1079 := ⟨zg_L_law_1068.2.2.2.2.2.2.2.1, rfl⟩
theorem zd_L_law_1079 : zz_D zy_law_L 1079 (.aload_n 0) 1 1080 := ⟨zg_L_law_1068.2.2.2.2.2.2.2.2.1, rfl⟩
theorem zd_L_law_1080 : zz_D zy_law_L 1080 (.iload 4) 2 1082 := ⟨zg_L_law_1068.2.2.2.2.2.2.2.2.2, rfl⟩
theorem zg_L_law_1082 : (decode zy_law_L.2.1 1082 = .ok ((.iconst 2), 1)) ∧ (decode zy_law_L.2.1 1083 = .ok ((.iadd), 1)) ∧ (decode zy_law_L.2.1 1084 = .ok ((.iaload), 1)) ∧ (decode zy_law_L.2.1 1085 = .ok ((.aload_n 3), 1)) ∧ (decode zy_law_L.2.1 1086 = .ok ((.invokestatic 194), 3)) ∧ (decode zy_law_L.2.1 1089 = .ok ((.istore 5), 2)) ∧ (decode zy_law_L.2.1 1091 = .ok ((.aload_n 2), 1)) ∧ (decode zy_law_L.2.1 1092 = .ok ((.aload_n 0), 1)) ∧ (decode zy_law_L.2.1 1093 = .ok ((.iload 4), 2)) ∧ (decode zy_law_L.2.1 1095 = .ok ((.iconst 1), 1)) := by decide +kernel
theorem zd_L_law_1082 : zz_D zy_law_L 1082 (.iconst 2) 1 1083 := ⟨zg_L_law_1082.1, rfl⟩
theorem zd_L_law_1083 : zz_D zy_law_L 1083 (.iadd) 1 1084 := ⟨zg_L_law_1082.2.1, rfl⟩
theorem zd_L_law_1084 : zz_D zy_law_L 1084 (.iaload) 1 1085 := ⟨zg_L_law_1082.2.2.1, rfl⟩
theorem zd_L_law_1085 : zz_D zy_law_L 1085 (.aload_n 3) 1 1086 := ⟨zg_L_law_1082.2.2.2.1, rfl⟩
theorem zd_L_law_1086 : zz_D zy_law_L 1086 (.invokestatic 194) 3 1089 := ⟨zg_L_law_1082.2.2.2.2.1, rfl⟩
theorem zd_L_law_1089 : zz_D zy_law_L 1089 (.istore 5) 2 1091 := ⟨zg_L_law_1082.2.2.2.2.2.1, rfl⟩
theorem zd_L_law_1091 : zz_D zy_law_L 1091 (.aload_n 2) 1 1092 := ⟨zg_L_law_1082.2.2.2.2.2.2.1, rfl⟩
theorem zd_L_law_1092 : zz_D zy_law_L 1092 (.aload_n 0) 1 1093 := ⟨zg_L_law_1082.2.2.2.2.2.2.2.1, rfl⟩
theorem zd_L_law_1093 : zz_D zy_law_L 1093 (.iload 4) 2 1095 := ⟨zg_L_law_1082.2.2.2.2.2.2.2.2.1, rfl⟩
theorem zd_L_law_1095 : zz_D zy_law_L 1095 (.iconst 1) 1 1096 := ⟨zg_L_law_1082.2.2.2.2.2.2.2.2.2, rfl⟩
theorem zg_L_law_1096 : (decode zy_law_L.2.1 1096 = .ok ((.iadd), 1)) ∧ (decode zy_law_L.2.1 1097 = .ok ((.iaload), 1)) ∧ (decode zy_law_L.2.1 1098 = .ok ((.aload_n 0), 1)) ∧ (decode zy_law_L.2.1 1099 = .ok ((.iload 4), 2)) ∧ (decode zy_law_L.2.1 1101 = .ok ((.iconst 2), 1)) ∧ (decode zy_law_L.2.1 1102 = .ok ((.iadd), 1)) ∧ (decode zy_law_L.2.1 1103 = .ok ((.iaload), 1)) ∧ (decode zy_law_L.2.1 1104 = .ok ((.invokevirtual 196), 3)) ∧ (decode zy_law_L.2.1 1107 = .ok ((.istore 6), 2)) ∧ (decode zy_law_L.2.1 1109 = .ok (Instr.goto 99, 3)) := by decide +kernel
theorem zd_L_law_1096 : zz_D zy_law_L 1096 (.iadd) 1 1097 := ⟨zg_L_law_1096.1, rfl⟩
theorem zd_L_law_1097 : zz_D zy_law_L 1097 (.iaload) 1 1098 := ⟨zg_L_law_1096.2.1, rfl⟩
theorem zd_L_law_1098 : zz_D zy_law_L 1098 (.aload_n 0) 1 1099 := ⟨zg_L_law_1096.2.2.1, rfl⟩
theorem zd_L_law_1099 : zz_D zy_law_L 1099 (.iload 4) 2 1101 := ⟨zg_L_law_1096.2.2.2.1, rfl⟩
theorem zd_L_law_1101 : zz_D zy_law_L 1101 (.iconst 2) 1 1102 := ⟨zg_L_law_1096.2.2.2.2.1, rfl⟩
theorem zd_L_law_1102 : zz_D zy_law_L 1102 (.iadd) 1 1103 := ⟨zg_L_law_1096.2.2.2.2.2.1, rfl⟩
theorem zd_L_law_1103 : zz_D zy_law_L 1103 (.iaload) 1 1104 := ⟨zg_L_law_1096.2.2.2.2.2.2.1, rfl⟩
theorem zd_L_law_1104 : zz_D zy_law_L 1104 (.invokevirtual 196) 3 1107 := ⟨zg_L_law_1096.2.2.2.2.2.2.2.1, rfl⟩
theorem zd_L_law_1107 : zz_D zy_law_L 1107 (.istore 6) 2 1109 := ⟨zg_L_law_1096.2.2.2.2.2.2.2.2.1, rfl⟩
theorem zd_L_law_1109 : zz_B zy_law_L 1109 Instr.goto 1208 1112 := ⟨99, zg_L_law_1096.2.2.2.2.2.2.2.2.2, rfl, rfl⟩
theorem zg_L_law_1112 : (decode zy_law_L.2.1 1112 = .ok ((.aload_n 1), 1)) ∧ (decode zy_law_L.2.1 1113 = .ok ((.aload_n 3), 1)) ∧ (decode zy_law_L.2.1 1114 = .ok ((.invokestatic 197), 3)) ∧ (decode zy_law_L.2.1 1117 = .ok ((.istore 5), 2)) ∧ (decode zy_law_L.2.1 1119 = .ok ((.aload_n 2), 1)) ∧ (decode zy_law_L.2.1 1120 = .ok ((.invokevirtual 199), 3)) ∧ (decode zy_law_L.2.1 1123 = .ok ((.istore 6), 2)) ∧ (decode zy_law_L.2.1 1125 = .ok (Instr.goto 83, 3)) ∧ (decode zy_law_L.2.1 1128 = .ok ((.aload_n 1), 1)) ∧ (decode zy_law_L.2.1 1129 = .ok ((.aload_n 0), 1)) := by decide +kernel
theorem zd_L_law_1112 : zz_D zy_law_L 1112 (.aload_n 1) 1 1113 := ⟨zg_L_law_1112.1, rfl⟩
theorem zd_L_law_1113 : zz_D zy_law_L 1113 (.aload_n 3) 1 1114 := ⟨zg_L_law_1112.2.1, rfl⟩
theorem zd_L_law_1114 : zz_D zy_law_L 1114 (.invokestatic 197) 3 1117 := ⟨zg_L_law_1112.2.2.1, rfl⟩
theorem zd_L_law_1117 : zz_D zy_law_L 1117 (.istore 5) 2 1119 := ⟨zg_L_law_1112.2.2.2.1, rfl⟩
theorem zd_L_law_1119 : zz_D zy_law_L 1119 (.aload_n 2) 1 1120 := ⟨zg_L_law_1112.2.2.2.2.1, rfl⟩
theorem zd_L_law_1120 : zz_D zy_law_L 1120 (.invokevirtual 199) 3 1123 := ⟨zg_L_law_1112.2.2.2.2.2.1, rfl⟩
theorem zd_L_law_1123 : zz_D zy_law_L 1123 (.istore 6) 2 1125 := ⟨zg_L_law_1112.2.2.2.2.2.2.1, rfl⟩
theorem zd_L_law_1125 : zz_B zy_law_L 1125 Instr.goto 1208 1128 := ⟨83, zg_L_law_1112.2.2.2.2.2.2.2.1, rfl, rfl⟩
theorem zd_L_law_1128 : zz_D zy_law_L 1128 (.aload_n 1) 1 1129 := ⟨zg_L_law_1112.2.2.2.2.2.2.2.2.1, rfl⟩
theorem zd_L_law_1129 : zz_D zy_law_L 1129 (.aload_n 0) 1 1130 := ⟨zg_L_law_1112.2.2.2.2.2.2.2.2.2, rfl⟩
theorem zg_L_law_1130 : (decode zy_law_L.2.1 1130 = .ok ((.iload 4), 2)) ∧ (decode zy_law_L.2.1 1132 = .ok ((.iconst 1), 1)) ∧ (decode zy_law_L.2.1 1133 = .ok ((.iadd), 1)) ∧ (decode zy_law_L.2.1 1134 = .ok ((.iaload), 1)) ∧ (decode zy_law_L.2.1 1135 = .ok ((.aload_n 0), 1)) ∧ (decode zy_law_L.2.1 1136 = .ok ((.iload 4), 2)) ∧ (decode zy_law_L.2.1 1138 = .ok ((.iconst 2), 1)) ∧ (decode zy_law_L.2.1 1139 = .ok ((.iadd), 1)) ∧ (decode zy_law_L.2.1 1140 = .ok ((.iaload), 1)) ∧ (decode zy_law_L.2.1 1141 = .ok ((.aload_n 3), 1)) := by decide +kernel
theorem zd_L_law_1130 : zz_D zy_law_L 1130 (.iload 4) 2 1132 := ⟨zg_L_law_1130.1, rfl⟩
theorem zd_L_law_1132 : zz_D zy_law_L 1132 (.iconst 1) 1 1133 := ⟨zg_L_law_1130.2.1, rfl⟩
theorem zd_L_law_1133 : zz_D zy_law_L 1133 (.iadd) 1 1134 := ⟨zg_L_law_1130.2.2.1, rfl⟩
theorem zd_L_law_1134 : zz_D zy_law_L 1134 (.iaload) 1 1135 := ⟨zg_L_law_1130.2.2.2.1, rfl⟩
theorem zd_L_law_1135 : zz_D zy_law_L 1135 (.aload_n 0) 1 1136 := ⟨zg_L_law_1130.2.2.2.2.1, rfl⟩
theorem zd_L_law_1136 : zz_D zy_law_L 1136 (.iload 4) 2 1138 := ⟨zg_L_law_1130.2.2.2.2.2.1, rfl⟩
theorem zd_L_law_1138 : zz_D zy_law_L 1138 (.iconst 2) 1 1139 := ⟨zg_L_law_1130.2.2.2.2.2.2.1, rfl⟩
theorem zd_L_law_1139 : zz_D zy_law_L 1139 (.iadd) 1 1140 := ⟨zg_L_law_1130.2.2.2.2.2.2.2.1, rfl⟩
theorem zd_L_law_1140 : zz_D zy_law_L 1140 (.iaload) 1 1141 := ⟨zg_L_law_1130.2.2.2.2.2.2.2.2.1, rfl⟩
theorem zd_L_law_1141 : zz_D zy_law_L 1141 (.aload_n 3) 1 1142 := ⟨zg_L_law_1130.2.2.2.2.2.2.2.2.2, rfl⟩
theorem zg_L_law_1142 : (decode zy_law_L.2.1 1142 = .ok ((.invokestatic 200), 3)) ∧ (decode zy_law_L.2.1 1145 = .ok ((.istore 5), 2)) ∧ (decode zy_law_L.2.1 1147 = .ok ((.aload_n 2), 1)) ∧ (decode zy_law_L.2.1 1148 = .ok ((.aload_n 0), 1)) ∧ (decode zy_law_L.2.1 1149 = .ok ((.iload 4), 2)) ∧ (decode zy_law_L.2.1 1151 = .ok ((.iconst 1), 1)) ∧ (decode zy_law_L.2.1 1152 = .ok ((.iadd), 1)) ∧ (decode zy_law_L.2.1 1153 = .ok ((.iaload), 1)) ∧ (decode zy_law_L.2.1 1154 = .ok ((.aload_n 0), 1)) ∧ (decode zy_law_L.2.1 1155 = .ok ((.iload 4), 2)) := by decide +kernel
theorem zd_L_law_1142 : zz_D zy_law_L 1142 (.invokestatic 200) 3 1145 := ⟨zg_L_law_1142.1, rfl⟩
theorem zd_L_law_1145 : zz_D zy_law_L 1145 (.istore 5) 2 1147 := ⟨zg_L_law_1142.2.1, rfl⟩
theorem zd_L_law_1147 : zz_D zy_law_L 1147 (.aload_n 2) 1 1148 := ⟨zg_L_law_1142.2.2.1, rfl⟩
theorem zd_L_law_1148 : zz_D zy_law_L 1148 (.aload_n 0) 1 1149 := ⟨zg_L_law_1142.2.2.2.1, rfl⟩
theorem zd_L_law_1149 : zz_D zy_law_L 1149 (.iload 4) 2 1151 := ⟨zg_L_law_1142.2.2.2.2.1, rfl⟩
theorem zd_L_law_1151 : zz_D zy_law_L 1151 (.iconst 1) 1 1152 := ⟨zg_L_law_1142.2.2.2.2.2.1, rfl⟩
theorem zd_L_law_1152 : zz_D zy_law_L 1152 (.iadd) 1 1153 := ⟨zg_L_law_1142.2.2.2.2.2.2.1, rfl⟩
theorem zd_L_law_1153 : zz_D zy_law_L 1153 (.iaload) 1 1154 := ⟨zg_L_law_1142.2.2.2.2.2.2.2.1, rfl⟩
theorem zd_L_law_1154 : zz_D zy_law_L 1154 (.aload_n 0) 1 1155 := ⟨zg_L_law_1142.2.2.2.2.2.2.2.2.1, rfl⟩
theorem zd_L_law_1155 : zz_D zy_law_L 1155 (.iload 4) 2 1157 := ⟨zg_L_law_1142.2.2.2.2.2.2.2.2.2, rfl⟩
theorem zg_L_law_1157 : (decode zy_law_L.2.1 1157 = .ok ((.iconst 2), 1)) ∧ (decode zy_law_L.2.1 1158 = .ok ((.iadd), 1)) ∧ (decode zy_law_L.2.1 1159 = .ok ((.iaload), 1)) ∧ (decode zy_law_L.2.1 1160 = .ok ((.invokevirtual 202), 3)) ∧ (decode zy_law_L.2.1 1163 = .ok ((.istore 6), 2)) ∧ (decode zy_law_L.2.1 1165 = .ok (Instr.goto 43, 3)) ∧ (decode zy_law_L.2.1 1168 = .ok ((.aload_n 1), 1)) ∧ (decode zy_law_L.2.1 1169 = .ok ((.aload_n 0), 1)) ∧ (decode zy_law_L.2.1 1170 = .ok ((.iload 4), 2)) ∧ (decode zy_law_L.2.1 1172 = .ok ((.iconst 1), 1)) := by decide +kernel
theorem zd_L_law_1157 : zz_D zy_law_L 1157 (.iconst 2) 1 1158 := ⟨zg_L_law_1157.1, rfl⟩
theorem zd_L_law_1158 : zz_D zy_law_L 1158 (.iadd) 1 1159 := ⟨zg_L_law_1157.2.1, rfl⟩
theorem zd_L_law_1159 : zz_D zy_law_L 1159 (.iaload) 1 1160 := ⟨zg_L_law_1157.2.2.1, rfl⟩
theorem zd_L_law_1160 : zz_D zy_law_L 1160 (.invokevirtual 202) 3 1163 := ⟨zg_L_law_1157.2.2.2.1, rfl⟩
theorem zd_L_law_1163 : zz_D zy_law_L 1163 (.istore 6) 2 1165 := ⟨zg_L_law_1157.2.2.2.2.1, rfl⟩
theorem zd_L_law_1165 : zz_B zy_law_L 1165 Instr.goto 1208 1168 := ⟨43, zg_L_law_1157.2.2.2.2.2.1, rfl, rfl⟩
theorem zd_L_law_1168 : zz_D zy_law_L 1168 (.aload_n 1) 1 1169 := ⟨zg_L_law_1157.2.2.2.2.2.2.1, rfl⟩
theorem zd_L_law_1169 : zz_D zy_law_L 1169 (.aload_n 0) 1 1170 := ⟨zg_L_law_1157.2.2.2.2.2.2.2.1, rfl⟩
theorem zd_L_law_1170 : zz_D zy_law_L 1170 (.iload 4) 2 1172 := ⟨zg_L_law_1157.2.2.2.2.2.2.2.2.1, rfl⟩
theorem zd_L_law_1172 : zz_D zy_law_L 1172 (.iconst 1) 1 1173 := ⟨zg_L_law_1157.2.2.2.2.2.2.2.2.2, rfl⟩
theorem zg_L_law_1173 : (decode zy_law_L.2.1 1173 = .ok ((.iadd), 1)) ∧ (decode zy_law_L.2.1 1174 = .ok ((.iaload), 1)) ∧ (decode zy_law_L.2.1 1175 = .ok ((.aload_n 0), 1)) ∧ (decode zy_law_L.2.1 1176 = .ok ((.iload 4), 2)) ∧ (decode zy_law_L.2.1 1178 = .ok ((.iconst 2), 1)) ∧ (decode zy_law_L.2.1 1179 = .ok ((.iadd), 1)) ∧ (decode zy_law_L.2.1 1180 = .ok ((.iaload), 1)) ∧ (decode zy_law_L.2.1 1181 = .ok ((.aload_n 3), 1)) ∧ (decode zy_law_L.2.1 1182 = .ok ((.invokestatic 203), 3)) ∧ (decode zy_law_L.2.1 1185 = .ok ((.istore 5), 2)) := by decide +kernel
theorem zd_L_law_1173 : zz_D zy_law_L 1173 (.iadd) 1 1174 := ⟨zg_L_law_1173.1, rfl⟩
theorem zd_L_law_1174 : zz_D zy_law_L 1174 (.iaload) 1 1175 := ⟨zg_L_law_1173.2.1, rfl⟩
theorem zd_L_law_1175 : zz_D zy_law_L 1175 (.aload_n 0) 1 1176 := ⟨zg_L_law_1173.2.2.1, rfl⟩
theorem zd_L_law_1176 : zz_D zy_law_L 1176 (.iload 4) 2 1178 := ⟨zg_L_law_1173.2.2.2.1, rfl⟩
theorem zd_L_law_1178 : zz_D zy_law_L 1178 (.iconst 2) 1 1179 := ⟨zg_L_law_1173.2.2.2.2.1, rfl⟩
theorem zd_L_law_1179 : zz_D zy_law_L 1179 (.iadd) 1 1180 := ⟨zg_L_law_1173.2.2.2.2.2.1, rfl⟩
theorem zd_L_law_1180 : zz_D zy_law_L 1180 (.iaload) 1 1181 := ⟨zg_L_law_1173.2.2.2.2.2.2.1, rfl⟩
theorem zd_L_law_1181 : zz_D zy_law_L 1181 (.aload_n 3) 1 1182 := ⟨zg_L_law_1173.2.2.2.2.2.2.2.1, rfl⟩
theorem zd_L_law_1182 : zz_D zy_law_L 1182 (.invokestatic 203) 3 1185 := ⟨zg_L_law_1173.2.2.2.2.2.2.2.2.1, rfl⟩
theorem zd_L_law_1185 : zz_D zy_law_L 1185 (.istore 5) 2 1187 := ⟨zg_L_law_1173.2.2.2.2.2.2.2.2.2, rfl⟩
theorem zg_L_law_1187 : (decode zy_law_L.2.1 1187 = .ok ((.aload_n 2), 1)) ∧ (decode zy_law_L.2.1 1188 = .ok ((.aload_n 0), 1)) ∧ (decode zy_law_L.2.1 1189 = .ok ((.iload 4), 2)) ∧ (decode zy_law_L.2.1 1191 = .ok ((.iconst 1), 1)) ∧ (decode zy_law_L.2.1 1192 = .ok ((.iadd), 1)) ∧ (decode zy_law_L.2.1 1193 = .ok ((.iaload), 1)) ∧ (decode zy_law_L.2.1 1194 = .ok ((.aload_n 0), 1)) ∧ (decode zy_law_L.2.1 1195 = .ok ((.iload 4), 2)) ∧ (decode zy_law_L.2.1 1197 = .ok ((.iconst 2), 1)) ∧ (decode zy_law_L.2.1 1198 = .ok ((.iadd), 1)) := by decide +kernel
theorem zd_L_law_1187 : zz_D zy_law_L 1187 (.aload_n 2) 1 1188 := ⟨zg_L_law_1187.1, rfl⟩
theorem zd_L_law_1188 : zz_D zy_law_L 1188 (.aload_n 0) 1 1189 := ⟨zg_L_law_1187.2.1, rfl⟩
theorem zd_L_law_1189 : zz_D zy_law_L 1189 (.iload 4) 2 1191 := ⟨zg_L_law_1187.2.2.1, rfl⟩
theorem zd_L_law_1191 : zz_D zy_law_L 1191 (.iconst 1) 1 1192 := ⟨zg_L_law_1187.2.2.2.1, rfl⟩
theorem zd_L_law_1192 : zz_D zy_law_L 1192 (.iadd) 1 1193 := ⟨zg_L_law_1187.2.2.2.2.1, rfl⟩
theorem zd_L_law_1193 : zz_D zy_law_L 1193 (.iaload) 1 1194 := ⟨zg_L_law_1187.2.2.2.2.2.1, rfl⟩
theorem zd_L_law_1194 : zz_D zy_law_L 1194 (.aload_n 0) 1 1195 := ⟨zg_L_law_1187.2.2.2.2.2.2.1, rfl⟩
theorem zd_L_law_1195 : zz_D zy_law_L 1195 (.iload 4) 2 1197 := ⟨zg_L_law_1187.2.2.2.2.2.2.2.1, rfl⟩
theorem zd_L_law_1197 : zz_D zy_law_L 1197 (.iconst 2) 1 1198 := ⟨zg_L_law_1187.2.2.2.2.2.2.2.2.1, rfl⟩
theorem zd_L_law_1198 : zz_D zy_law_L 1198 (.iadd) 1 1199 := ⟨zg_L_law_1187.2.2.2.2.2.2.2.2.2, rfl⟩
theorem zg_L_law_1199 : (decode zy_law_L.2.1 1199 = .ok ((.iaload), 1)) ∧ (decode zy_law_L.2.1 1200 = .ok ((.invokevirtual 205), 3)) ∧ (decode zy_law_L.2.1 1203 = .ok ((.istore 6), 2)) ∧ (decode zy_law_L.2.1 1205 = .ok (Instr.goto 3, 3)) := by decide +kernel
theorem zd_L_law_1199 : zz_D zy_law_L 1199 (.iaload) 1 1200 := ⟨zg_L_law_1199.1, rfl⟩
theorem zd_L_law_1200 : zz_D zy_law_L 1200 (.invokevirtual 205) 3 1203 := ⟨zg_L_law_1199.2.1, rfl⟩
theorem zd_L_law_1203 : zz_D zy_law_L 1203 (.istore 6) 2 1205 := ⟨zg_L_law_1199.2.2.1, rfl⟩
theorem zd_L_law_1205 : zz_B zy_law_L 1205 Instr.goto 1208 1208 := ⟨3, zg_L_law_1199.2.2.2, rfl, rfl⟩
theorem zl_0 {g : mm_G} {l : Launch} (hfl : l.flags = flags0) (hlen : g.2.2.2 997 ≤ 3584) (N : Nat) (ih : ∀ (x4 : Int) (S : zz_S) (n k j : Nat), zz_G S → zz_Hc S → zz_Hr S → 1 ≤ S 1079 36 → S 1070 1 = S 1079 28 → S 1031 6 = S 1079 1 → zz_end ≤ n → (0 ≤ x4 ∧ x4 ≤ 3590) → (k : Int) ≤ 200 + x4 → (j : Int) ≤ 30000 + 6 * x4 → (3600 - x4).toNat < N → zz_E g l zy_law_L room_1 (fun u => ∃ M1 n1, u = (.inl (some (zi 1)), M1, n1)) S n 23 [some (.ref 998), some (.ref 1000), some (.ref 1079), some (.ref 1121), some (zi x4)] [] k j) (x4 : Int) (S : zz_S) (n k j : Nat) (G_S : zz_G S) (H_S : zz_Hc S) (R_S : zz_Hr S) (O_S : 1 ≤ S 1079 36) (T0_S : S 1070 1 = S 1079 28) (T1_S : S 1031 6 = S 1079 1) (hn : zz_end ≤ n) (hx : 0 ≤ x4 ∧ x4 ≤ 3590) (hkk : (k : Int) ≤ 200 + x4) (hjj : (j : Int) ≤ 30000 + 6 * x4) (hR : (3600 - x4).toNat < N + 1) (hc1 : x4 ≤ zz_ln g - 7) : zz_E g l zy_law_L room_1 (fun u => ∃ M1 n1, u = (.inl (some (zi 1)), M1, n1)) S n 168 [some (.ref 998), some (.ref 1000), some (.ref 1079), some (.ref 1121), some (zi x4)] [] k j := by
  have hln : 0 ≤ zz_ln g ∧ zz_ln g ≤ 3584 := ⟨Int.natCast_nonneg _, Int.ofNat_le.mpr hlen⟩
  have hk : k ≤ 601024 := by omega
  have hj : j ≤ 7293034 := by omega
  refine zz_aload_n (x := 1000) rfl zd_L_law_168 ?_
  refine zz_aload_n (x := 998) rfl zd_L_law_169 ?_
  refine zz_iload (x := x4) rfl zd_L_law_170 ?_
  refine zz_iconst zd_L_law_172 ?_
  refine zz_iadd zd_L_law_173 ?_
  refine zz_sld (by omega) zd_L_law_174 (by omega) ?_
  have g5 := zz_sc_r g (x4 + 1).toNat
  refine zz_callHW (rz := zr_side_L) [.ref 1000, zi (zz_sc g (x4 + 1).toNat)] zd_L_law_175 zhl_side_L rfl rfl ⟨Nat.le_of_ble_eq_true rfl, Nat.le_of_ble_eq_true rfl⟩ (by show k + 1 ≤ 601024; omega) (by show j + 6 ≤ 7293034; omega) (zc_side_L (zz_sc g (x4 + 1).toNat) S (n) hn hfl G_S (by omega) H_S) (fun v7 S6 d8 hd8 hP => ?_)
  obtain ⟨G_S6, fS6, rv7, o9, o10⟩ := hP
  have g11 := zz_G.r G_S 1000 7 0 1 rfl rfl
  have hn12 : zz_end ≤ n + d8 := by omega
  have hk13 : (k + zr_side_L.cells) ≤ 601024 := by show k + 1 ≤ 601024; omega
  have hj14 : (j + zr_side_L.slots) ≤ 7293034 := by show j + 6 ≤ 7293034; omega
  have b15 := zz_rf3 (z := (S 1000 7)) (by omega)
  have H_S6 : zz_Hc S6 := o10
  have R_S6 : zz_Hr S6 := zz_Hr.fr fS6 rfl rfl (fun b q h => by have h0_ := zz_rf3 (z := (S 1000 7)) (by omega); omega) R_S
  have O_S6 : 1 ≤ S6 1079 36 := by rw [show S6 1079 36 = S 1079 36 from zz_rc fS6 rfl rfl (by have h0_ := zz_rf3 (z := (S 1000 7)) (by omega); omega) rfl]; exact O_S
  refine zz_istore [some (.ref 998), some (.ref 1000), some (.ref 1079), some (.ref 1121), some (zi x4), some (zi v7)] zd_L_law_178 (by decide) rfl ?_
  refine zz_aload_n (x := 1079) rfl zd_L_law_180 ?_
  refine zz_aload_n (x := 998) rfl zd_L_law_181 ?_
  refine zz_iload (x := x4) rfl zd_L_law_182 ?_
  refine zz_iconst zd_L_law_184 ?_
  refine zz_iadd zd_L_law_185 ?_
  refine zz_sld (by omega) zd_L_law_186 (by omega) ?_
  have g16 := zz_G.r G_S 1079 36 0 11 rfl rfl
  have e17 : S6 1079 36 = S 1079 36 := (zz_rc fS6 rfl rfl (by omega) rfl)
  have g18 := zz_G.r G_S 1079 1 2 8 rfl rfl
  have e19 : S6 1079 1 = S 1079 1 := (zz_rc fS6 rfl rfl (by omega) rfl)
  refine zz_callVV [zi (zz_sc g (x4 + 1).toNat)] zd_L_law_187 zk_TFLaw_103 zT_1079 (zz_ltn hn12 rfl) rfl rfl ⟨Nat.le_of_ble_eq_true rfl, Nat.le_of_ble_eq_true rfl⟩ ⟨rfl, rfl⟩ hk13 hj14 (zc_side_14_6 (zz_sc g (x4 + 1).toNat) S6 (n + d8) hn12 G_S6 (by omega) R_S6 (by omega)) (fun S20 hP => ?_)
  obtain ⟨G_S20, fS20, o22, o23, o24⟩ := hP
  have H_S20 : zz_Hc S20 := zz_Hc.fr (q := 0) fS20 rfl rfl G_S6 (by decide) rfl (fun b q h => h.elim) H_S6
  have R_S20 : zz_Hr S20 := o24
  have O_S20 : 1 ≤ S20 1079 36 := by omega
  refine zz_goto zd_L_law_190 ?_
  refine zz_iinc [some (.ref 998), some (.ref 1000), some (.ref 1079), some (.ref 1121), some (zi (x4 + 7)), some (zi v7)] zd_L_law_1208 rfl rfl ?_
  refine zz_goto zd_L_law_1211 ?_
  refine zz_less (ls1 := [some (.ref 998), some (.ref 1000), some (.ref 1079), some (.ref 1121), some (zi (x4 + 7))]) ⟨rfl, ⟨rfl, ⟨rfl, ⟨rfl, ⟨rfl, trivial⟩⟩⟩⟩⟩ ?_
  have g25 := zz_G.r G_S 1070 1 0 1500 rfl rfl
  have e26 : S20 1070 1 = S 1070 1 := (zz_rc fS20 rfl rfl (fun h => h) (zz_rc fS6 rfl rfl (by omega) rfl))
  have g27 := zz_G.r G_S 1079 28 0 1500 rfl rfl
  have e28 : S20 1079 28 = S 1079 28 := (zz_rc fS20 rfl rfl (fun h => h) (zz_rc fS6 rfl rfl (by omega) rfl))
  have g29 := zz_G.r G_S6 1031 6 2 8 rfl rfl
  have e30 : S20 1031 6 = S6 1031 6 := (zz_rc fS20 rfl rfl (fun h => h) rfl)
  have g31 := zz_G.r G_S20 1079 1 2 8 rfl rfl
  exact ih (x4 + 7) S20 (n + d8) (k + zr_side_L.cells) (j + zr_side_L.slots) G_S20 H_S20 R_S20 O_S20 (by omega) (by omega) hn12 (by omega) (by show ((k + 1 : Nat) : Int) ≤ 200 + (x4 + 7); omega) (by show ((j + 6 : Nat) : Int) ≤ 30000 + 6 * (x4 + 7); omega) (by omega)
theorem zl_1 {g : mm_G} {l : Launch} (hfl : l.flags = flags0) (hlen : g.2.2.2 997 ≤ 3584) (N : Nat) (ih : ∀ (x4 : Int) (S : zz_S) (n k j : Nat), zz_G S → zz_Hc S → zz_Hr S → 1 ≤ S 1079 36 → S 1070 1 = S 1079 28 → S 1031 6 = S 1079 1 → zz_end ≤ n → (0 ≤ x4 ∧ x4 ≤ 3590) → (k : Int) ≤ 200 + x4 → (j : Int) ≤ 30000 + 6 * x4 → (3600 - x4).toNat < N → zz_E g l zy_law_L room_1 (fun u => ∃ M1 n1, u = (.inl (some (zi 1)), M1, n1)) S n 23 [some (.ref 998), some (.ref 1000), some (.ref 1079), some (.ref 1121), some (zi x4)] [] k j) (x4 : Int) (S : zz_S) (n k j : Nat) (G_S : zz_G S) (H_S : zz_Hc S) (R_S : zz_Hr S) (O_S : 1 ≤ S 1079 36) (T0_S : S 1070 1 = S 1079 28) (T1_S : S 1031 6 = S 1079 1) (hn : zz_end ≤ n) (hx : 0 ≤ x4 ∧ x4 ≤ 3590) (hkk : (k : Int) ≤ 200 + x4) (hjj : (j : Int) ≤ 30000 + 6 * x4) (hR : (3600 - x4).toNat < N + 1) (hc1 : x4 ≤ zz_ln g - 7) : zz_E g l zy_law_L room_1 (fun u => ∃ M1 n1, u = (.inl (some (zi 1)), M1, n1)) S n 193 [some (.ref 998), some (.ref 1000), some (.ref 1079), some (.ref 1121), some (zi x4)] [] k j := by
  have hln : 0 ≤ zz_ln g ∧ zz_ln g ≤ 3584 := ⟨Int.natCast_nonneg _, Int.ofNat_le.mpr hlen⟩
  have hk : k ≤ 601024 := by omega
  have hj : j ≤ 7293034 := by omega
  refine zz_aload_n (x := 1000) rfl zd_L_law_193 ?_
  refine zz_aload_n (x := 998) rfl zd_L_law_194 ?_
  refine zz_iload (x := x4) rfl zd_L_law_195 ?_
  refine zz_iconst zd_L_law_197 ?_
  refine zz_iadd zd_L_law_198 ?_
  refine zz_sld (by omega) zd_L_law_199 (by omega) ?_
  have g33 := zz_sc_r g (x4 + 1).toNat
  refine zz_aload_n (x := 998) rfl zd_L_law_200 ?_
  refine zz_iload (x := x4) rfl zd_L_law_201 ?_
  refine zz_iconst zd_L_law_203 ?_
  refine zz_iadd zd_L_law_204 ?_
  refine zz_sld (by omega) zd_L_law_205 (by omega) ?_
  have g34 := zz_sc_r g (x4 + 2).toNat
  refine zz_callHW (rz := zr_memory_L) [.ref 1000, zi (zz_sc g (x4 + 1).toNat), zi (zz_sc g (x4 + 2).toNat)] zd_L_law_206 zhl_memory_L rfl rfl ⟨Nat.le_of_ble_eq_true rfl, Nat.le_of_ble_eq_true rfl⟩ (by show k + 1 ≤ 601024; omega) (by show j + 6 ≤ 7293034; omega) (zc_memory_L (zz_sc g (x4 + 1).toNat) (zz_sc g (x4 + 2).toNat) S (n) hn hfl G_S (by omega) (by omega)) (fun v36 S35 d37 hd37 hP => ?_)
  obtain ⟨G_S35, fS35, rv36, o38⟩ := hP
  have hn39 : zz_end ≤ n + d37 := by omega
  have hk40 : (k + zr_memory_L.cells) ≤ 601024 := by show k + 1 ≤ 601024; omega
  have hj41 : (j + zr_memory_L.slots) ≤ 7293034 := by show j + 6 ≤ 7293034; omega
  have H_S35 : zz_Hc S35 := zz_Hc.fr (q := 0) fS35 rfl rfl G_S (by decide) rfl (fun b q h => h.elim) H_S
  have R_S35 : zz_Hr S35 := zz_Hr.fr fS35 rfl rfl (fun b q h => h.elim) R_S
  have O_S35 : 1 ≤ S35 1079 36 := by rw [show S35 1079 36 = S 1079 36 from zz_rc fS35 rfl rfl (fun h => h) rfl]; exact O_S
  refine zz_istore [some (.ref 998), some (.ref 1000), some (.ref 1079), some (.ref 1121), some (zi x4), some (zi v36)] zd_L_law_209 (by decide) rfl ?_
  refine zz_aload_n (x := 1079) rfl zd_L_law_211 ?_
  refine zz_aload_n (x := 998) rfl zd_L_law_212 ?_
  refine zz_iload (x := x4) rfl zd_L_law_213 ?_
  refine zz_iconst zd_L_law_215 ?_
  refine zz_iadd zd_L_law_216 ?_
  refine zz_sld (by omega) zd_L_law_217 (by omega) ?_
  refine zz_aload_n (x := 998) rfl zd_L_law_218 ?_
  refine zz_iload (x := x4) rfl zd_L_law_219 ?_
  refine zz_iconst zd_L_law_221 ?_
  refine zz_iadd zd_L_law_222 ?_
  refine zz_sld (by omega) zd_L_law_223 (by omega) ?_
  refine zz_callVV [zi (zz_sc g (x4 + 1).toNat), zi (zz_sc g (x4 + 2).toNat)] zd_L_law_224 zk_TFLaw_107 zT_1079 (zz_ltn hn39 rfl) rfl rfl ⟨Nat.le_of_ble_eq_true rfl, Nat.le_of_ble_eq_true rfl⟩ ⟨rfl, rfl⟩ hk40 hj41 (zc_memory_14_8 (zz_sc g (x4 + 1).toNat) (zz_sc g (x4 + 2).toNat) S35 (n + d37) hn39 G_S35 (by omega) (by omega)) (fun S42 hP => ?_)
  obtain ⟨G_S42, fS42, o44⟩ := hP
  have H_S42 : zz_Hc S42 := zz_Hc.fr (q := 0) fS42 rfl rfl G_S35 (by decide) rfl (fun b q h => h.elim) H_S35
  have R_S42 : zz_Hr S42 := zz_Hr.fr fS42 rfl rfl (fun b q h => h.elim) R_S35
  have O_S42 : 1 ≤ S42 1079 36 := by rw [show S42 1079 36 = S35 1079 36 from zz_rc fS42 rfl rfl (fun h => h) rfl]; exact O_S35
  refine zz_goto zd_L_law_227 ?_
  refine zz_iinc [some (.ref 998), some (.ref 1000), some (.ref 1079), some (.ref 1121), some (zi (x4 + 7)), some (zi v36)] zd_L_law_1208 rfl rfl ?_
  refine zz_goto zd_L_law_1211 ?_
  refine zz_less (ls1 := [some (.ref 998), some (.ref 1000), some (.ref 1079), some (.ref 1121), some (zi (x4 + 7))]) ⟨rfl, ⟨rfl, ⟨rfl, ⟨rfl, ⟨rfl, trivial⟩⟩⟩⟩⟩ ?_
  have g45 := zz_G.r G_S 1070 1 0 1500 rfl rfl
  have e46 : S42 1070 1 = S 1070 1 := (zz_rc fS42 rfl rfl (fun h => h) (zz_rc fS35 rfl rfl (fun h => h) rfl))
  have g47 := zz_G.r G_S 1079 28 0 1500 rfl rfl
  have e48 : S42 1079 28 = S 1079 28 := (zz_rc fS42 rfl rfl (fun h => h) (zz_rc fS35 rfl rfl (fun h => h) rfl))
  have g49 := zz_G.r G_S 1031 6 2 8 rfl rfl
  have e50 : S42 1031 6 = S 1031 6 := (zz_rc fS42 rfl rfl (fun h => h) (zz_rc fS35 rfl rfl (fun h => h) rfl))
  have g51 := zz_G.r G_S 1079 1 2 8 rfl rfl
  have e52 : S42 1079 1 = S 1079 1 := (zz_rc fS42 rfl rfl (fun h => h) (zz_rc fS35 rfl rfl (fun h => h) rfl))
  exact ih (x4 + 7) S42 (n + d37) (k + zr_memory_L.cells) (j + zr_memory_L.slots) G_S42 H_S42 R_S42 O_S42 (by omega) (by omega) hn39 (by omega) (by show ((k + 1 : Nat) : Int) ≤ 200 + (x4 + 7); omega) (by show ((j + 6 : Nat) : Int) ≤ 30000 + 6 * (x4 + 7); omega) (by omega)
theorem zl_2 {g : mm_G} {l : Launch} (hfl : l.flags = flags0) (hlen : g.2.2.2 997 ≤ 3584) (N : Nat) (ih : ∀ (x4 : Int) (S : zz_S) (n k j : Nat), zz_G S → zz_Hc S → zz_Hr S → 1 ≤ S 1079 36 → S 1070 1 = S 1079 28 → S 1031 6 = S 1079 1 → zz_end ≤ n → (0 ≤ x4 ∧ x4 ≤ 3590) → (k : Int) ≤ 200 + x4 → (j : Int) ≤ 30000 + 6 * x4 → (3600 - x4).toNat < N → zz_E g l zy_law_L room_1 (fun u => ∃ M1 n1, u = (.inl (some (zi 1)), M1, n1)) S n 23 [some (.ref 998), some (.ref 1000), some (.ref 1079), some (.ref 1121), some (zi x4)] [] k j) (x4 : Int) (S : zz_S) (n k j : Nat) (G_S : zz_G S) (H_S : zz_Hc S) (R_S : zz_Hr S) (O_S : 1 ≤ S 1079 36) (T0_S : S 1070 1 = S 1079 28) (T1_S : S 1031 6 = S 1079 1) (hn : zz_end ≤ n) (hx : 0 ≤ x4 ∧ x4 ≤ 3590) (hkk : (k : Int) ≤ 200 + x4) (hjj : (j : Int) ≤ 30000 + 6 * x4) (hR : (3600 - x4).toNat < N + 1) (hc1 : x4 ≤ zz_ln g - 7) : zz_E g l zy_law_L room_1 (fun u => ∃ M1 n1, u = (.inl (some (zi 1)), M1, n1)) S n 230 [some (.ref 998), some (.ref 1000), some (.ref 1079), some (.ref 1121), some (zi x4)] [] k j := by
  have hln : 0 ≤ zz_ln g ∧ zz_ln g ≤ 3584 := ⟨Int.natCast_nonneg _, Int.ofNat_le.mpr hlen⟩
  have hk : k ≤ 601024 := by omega
  have hj : j ≤ 7293034 := by omega
  refine zz_aload_n (x := 1000) rfl zd_L_law_230 ?_
  refine zz_aload_n (x := 998) rfl zd_L_law_231 ?_
  refine zz_iload (x := x4) rfl zd_L_law_232 ?_
  refine zz_iconst zd_L_law_234 ?_
  refine zz_iadd zd_L_law_235 ?_
  refine zz_sld (by omega) zd_L_law_236 (by omega) ?_
  have g54 := zz_sc_r g (x4 + 1).toNat
  refine zz_aload_n (x := 998) rfl zd_L_law_237 ?_
  refine zz_iload (x := x4) rfl zd_L_law_238 ?_
  refine zz_iconst zd_L_law_240 ?_
  refine zz_iadd zd_L_law_241 ?_
  refine zz_sld (by omega) zd_L_law_242 (by omega) ?_
  have g55 := zz_sc_r g (x4 + 2).toNat
  refine zz_aload_n (x := 1121) rfl zd_L_law_243 ?_
  refine zz_callHW (rz := zr_look_L) [.ref 1000, zi (zz_sc g (x4 + 1).toNat), zi (zz_sc g (x4 + 2).toNat), .ref 1121] zd_L_law_244 zhl_look_L rfl rfl ⟨Nat.le_of_ble_eq_true rfl, Nat.le_of_ble_eq_true rfl⟩ (by show k + 1 ≤ 601024; omega) (by show j + 6 ≤ 7293034; omega) (zc_look_L (zz_sc g (x4 + 1).toNat) (zz_sc g (x4 + 2).toNat) S (n) hn hfl G_S (by omega) (by omega)) (fun v57 S56 d58 hd58 hP => ?_)
  obtain ⟨G_S56, fS56, rv57⟩ := hP
  have hn59 : zz_end ≤ n + d58 := by omega
  have hk60 : (k + zr_look_L.cells) ≤ 601024 := by show k + 1 ≤ 601024; omega
  have hj61 : (j + zr_look_L.slots) ≤ 7293034 := by show j + 6 ≤ 7293034; omega
  have H_S56 : zz_Hc S56 := zz_Hc.fr (q := 0) fS56 rfl rfl G_S (by decide) rfl (fun b q h => h.elim) H_S
  have R_S56 : zz_Hr S56 := zz_Hr.fr fS56 rfl rfl (fun b q h => h.elim) R_S
  have O_S56 : 1 ≤ S56 1079 36 := by rw [show S56 1079 36 = S 1079 36 from zz_rc fS56 rfl rfl (fun h => h) rfl]; exact O_S
  refine zz_istore [some (.ref 998), some (.ref 1000), some (.ref 1079), some (.ref 1121), some (zi x4), some (zi v57)] zd_L_law_247 (by decide) rfl ?_
  refine zz_aload_n (x := 1079) rfl zd_L_law_249 ?_
  refine zz_aload_n (x := 998) rfl zd_L_law_250 ?_
  refine zz_iload (x := x4) rfl zd_L_law_251 ?_
  refine zz_iconst zd_L_law_253 ?_
  refine zz_iadd zd_L_law_254 ?_
  refine zz_sld (by omega) zd_L_law_255 (by omega) ?_
  refine zz_aload_n (x := 998) rfl zd_L_law_256 ?_
  refine zz_iload (x := x4) rfl zd_L_law_257 ?_
  refine zz_iconst zd_L_law_259 ?_
  refine zz_iadd zd_L_law_260 ?_
  refine zz_sld (by omega) zd_L_law_261 (by omega) ?_
  refine zz_callVI [zi (zz_sc g (x4 + 1).toNat), zi (zz_sc g (x4 + 2).toNat)] zd_L_law_262 zk_TFLaw_111 zT_1079 (zz_ltn hn59 rfl) rfl rfl ⟨Nat.le_of_ble_eq_true rfl, Nat.le_of_ble_eq_true rfl⟩ ⟨rfl, rfl⟩ hk60 hj61 (zc_look_14_10 (zz_sc g (x4 + 1).toNat) (zz_sc g (x4 + 2).toNat) S56 (n + d58) hn59 G_S56 (by omega) (by omega)) (fun v63 S62 hP => ?_)
  obtain ⟨G_S62, fS62, o64⟩ := hP
  have H_S62 : zz_Hc S62 := zz_Hc.fr (q := 0) fS62 rfl rfl G_S56 (by decide) rfl (fun b q h => h.elim) H_S56
  have R_S62 : zz_Hr S62 := zz_Hr.fr fS62 rfl rfl (fun b q h => h.elim) R_S56
  have O_S62 : 1 ≤ S62 1079 36 := by rw [show S62 1079 36 = S56 1079 36 from zz_rc fS62 rfl rfl (fun h => h) rfl]; exact O_S56
  refine zz_istore [some (.ref 998), some (.ref 1000), some (.ref 1079), some (.ref 1121), some (zi x4), some (zi v57), some (zi v63)] zd_L_law_265 (by decide) rfl ?_
  refine zz_goto zd_L_law_267 ?_
  refine zz_iinc [some (.ref 998), some (.ref 1000), some (.ref 1079), some (.ref 1121), some (zi (x4 + 7)), some (zi v57), some (zi v63)] zd_L_law_1208 rfl rfl ?_
  refine zz_goto zd_L_law_1211 ?_
  refine zz_less (ls1 := [some (.ref 998), some (.ref 1000), some (.ref 1079), some (.ref 1121), some (zi (x4 + 7))]) ⟨rfl, ⟨rfl, ⟨rfl, ⟨rfl, ⟨rfl, trivial⟩⟩⟩⟩⟩ ?_
  have g65 := zz_G.r G_S 1070 1 0 1500 rfl rfl
  have e66 : S62 1070 1 = S 1070 1 := (zz_rc fS62 rfl rfl (fun h => h) (zz_rc fS56 rfl rfl (fun h => h) rfl))
  have g67 := zz_G.r G_S 1079 28 0 1500 rfl rfl
  have e68 : S62 1079 28 = S 1079 28 := (zz_rc fS62 rfl rfl (fun h => h) (zz_rc fS56 rfl rfl (fun h => h) rfl))
  have g69 := zz_G.r G_S 1031 6 2 8 rfl rfl
  have e70 : S62 1031 6 = S 1031 6 := (zz_rc fS62 rfl rfl (fun h => h) (zz_rc fS56 rfl rfl (fun h => h) rfl))
  have g71 := zz_G.r G_S 1079 1 2 8 rfl rfl
  have e72 : S62 1079 1 = S 1079 1 := (zz_rc fS62 rfl rfl (fun h => h) (zz_rc fS56 rfl rfl (fun h => h) rfl))
  exact ih (x4 + 7) S62 (n + d58) (k + zr_look_L.cells) (j + zr_look_L.slots) G_S62 H_S62 R_S62 O_S62 (by omega) (by omega) hn59 (by omega) (by show ((k + 1 : Nat) : Int) ≤ 200 + (x4 + 7); omega) (by show ((j + 6 : Nat) : Int) ≤ 30000 + 6 * (x4 + 7); omega) (by omega)
theorem zl_3 {g : mm_G} {l : Launch} (hfl : l.flags = flags0) (hlen : g.2.2.2 997 ≤ 3584) (N : Nat) (ih : ∀ (x4 : Int) (S : zz_S) (n k j : Nat), zz_G S → zz_Hc S → zz_Hr S → 1 ≤ S 1079 36 → S 1070 1 = S 1079 28 → S 1031 6 = S 1079 1 → zz_end ≤ n → (0 ≤ x4 ∧ x4 ≤ 3590) → (k : Int) ≤ 200 + x4 → (j : Int) ≤ 30000 + 6 * x4 → (3600 - x4).toNat < N → zz_E g l zy_law_L room_1 (fun u => ∃ M1 n1, u = (.inl (some (zi 1)), M1, n1)) S n 23 [some (.ref 998), some (.ref 1000), some (.ref 1079), some (.ref 1121), some (zi x4)] [] k j) (x4 : Int) (S : zz_S) (n k j : Nat) (G_S : zz_G S) (H_S : zz_Hc S) (R_S : zz_Hr S) (O_S : 1 ≤ S 1079 36) (T0_S : S 1070 1 = S 1079 28) (T1_S : S 1031 6 = S 1079 1) (hn : zz_end ≤ n) (hx : 0 ≤ x4 ∧ x4 ≤ 3590) (hkk : (k : Int) ≤ 200 + x4) (hjj : (j : Int) ≤ 30000 + 6 * x4) (hR : (3600 - x4).toNat < N + 1) (hc1 : x4 ≤ zz_ln g - 7) : zz_E g l zy_law_L room_1 (fun u => ∃ M1 n1, u = (.inl (some (zi 1)), M1, n1)) S n 270 [some (.ref 998), some (.ref 1000), some (.ref 1079), some (.ref 1121), some (zi x4)] [] k j := by
  have hln : 0 ≤ zz_ln g ∧ zz_ln g ≤ 3584 := ⟨Int.natCast_nonneg _, Int.ofNat_le.mpr hlen⟩
  have hk : k ≤ 601024 := by omega
  have hj : j ≤ 7293034 := by omega
  refine zz_aload_n (x := 1000) rfl zd_L_law_270 ?_
  refine zz_aload_n (x := 998) rfl zd_L_law_271 ?_
  refine zz_iload (x := x4) rfl zd_L_law_272 ?_
  refine zz_iconst zd_L_law_274 ?_
  refine zz_iadd zd_L_law_275 ?_
  refine zz_sld (by omega) zd_L_law_276 (by omega) ?_
  have g74 := zz_sc_r g (x4 + 1).toNat
  refine zz_aload_n (x := 998) rfl zd_L_law_277 ?_
  refine zz_iload (x := x4) rfl zd_L_law_278 ?_
  refine zz_iconst zd_L_law_280 ?_
  refine zz_iadd zd_L_law_281 ?_
  refine zz_sld (by omega) zd_L_law_282 (by omega) ?_
  have g75 := zz_sc_r g (x4 + 2).toNat
  refine zz_i2l (by omega) zd_L_law_283 ?_
  refine zz_bipush (by decide) zd_L_law_284 ?_
  refine zz_lshl zd_L_law_286 (fun v76 hv76 ev76 => ?_)
  refine zz_aload_n (x := 998) rfl zd_L_law_287 ?_
  refine zz_iload (x := x4) rfl zd_L_law_288 ?_
  refine zz_iconst zd_L_law_290 ?_
  refine zz_iadd zd_L_law_291 ?_
  refine zz_sld (by omega) zd_L_law_292 (by omega) ?_
  have g77 := zz_sc_r g (x4 + 3).toNat
  refine zz_i2l (by omega) zd_L_law_293 ?_
  refine zz_ldc2 (z := 4294967295) zq_TFLaw_112 (by decide) zd_L_law_294 ?_
  refine zz_land zd_L_law_297 (fun v78 hv78 ev78 => ?_)
  have av78 := zz_band64 (by omega) (by omega) ev78
  refine zz_lor zd_L_law_298 (fun v79 hv79 ev79 => ?_)
  refine zz_callHW (rz := zr_word_L) [.ref 1000, zi (zz_sc g (x4 + 1).toNat), zl v79] zd_L_law_299 zhl_word_L rfl rfl ⟨Nat.le_of_ble_eq_true rfl, Nat.le_of_ble_eq_true rfl⟩ (by show k + 1 ≤ 601024; omega) (by show j + 6 ≤ 7293034; omega) (zc_word_L (zz_sc g (x4 + 1).toNat) v79 S (n) hn hfl G_S (by omega) (by omega)) (fun v81 S80 d82 hd82 hP => ?_)
  obtain ⟨G_S80, fS80, rv81⟩ := hP
  have g83 := zz_G.r G_S 1000 9 0 1 rfl rfl
  have hn84 : zz_end ≤ n + d82 := by omega
  have hk85 : (k + zr_word_L.cells) ≤ 601024 := by show k + 1 ≤ 601024; omega
  have hj86 : (j + zr_word_L.slots) ≤ 7293034 := by show j + 6 ≤ 7293034; omega
  have b87 := zz_rf4 (z := (S 1000 9)) (by omega)
  have H_S80 : zz_Hc S80 := zz_Hc.fr (q := 0) fS80 rfl rfl G_S (by decide) rfl (fun b q h => by have h0_ := zz_rf4 (z := (S 1000 9)) (by omega); omega) H_S
  have R_S80 : zz_Hr S80 := zz_Hr.fr fS80 rfl rfl (fun b q h => by have h0_ := zz_rf4 (z := (S 1000 9)) (by omega); omega) R_S
  have O_S80 : 1 ≤ S80 1079 36 := by rw [show S80 1079 36 = S 1079 36 from zz_rc fS80 rfl rfl (by have h0_ := zz_rf4 (z := (S 1000 9)) (by omega); omega) rfl]; exact O_S
  refine zz_istore [some (.ref 998), some (.ref 1000), some (.ref 1079), some (.ref 1121), some (zi x4), some (zi v81)] zd_L_law_302 (by decide) rfl ?_
  refine zz_aload_n (x := 1079) rfl zd_L_law_304 ?_
  refine zz_aload_n (x := 998) rfl zd_L_law_305 ?_
  refine zz_iload (x := x4) rfl zd_L_law_306 ?_
  refine zz_iconst zd_L_law_308 ?_
  refine zz_iadd zd_L_law_309 ?_
  refine zz_sld (by omega) zd_L_law_310 (by omega) ?_
  refine zz_aload_n (x := 998) rfl zd_L_law_311 ?_
  refine zz_iload (x := x4) rfl zd_L_law_312 ?_
  refine zz_iconst zd_L_law_314 ?_
  refine zz_iadd zd_L_law_315 ?_
  refine zz_sld (by omega) zd_L_law_316 (by omega) ?_
  refine zz_i2l (by omega) zd_L_law_317 ?_
  refine zz_bipush (by decide) zd_L_law_318 ?_
  refine zz_lshl zd_L_law_320 (fun v88 hv88 ev88 => ?_)
  refine zz_aload_n (x := 998) rfl zd_L_law_321 ?_
  refine zz_iload (x := x4) rfl zd_L_law_322 ?_
  refine zz_iconst zd_L_law_324 ?_
  refine zz_iadd zd_L_law_325 ?_
  refine zz_sld (by omega) zd_L_law_326 (by omega) ?_
  refine zz_i2l (by omega) zd_L_law_327 ?_
  refine zz_ldc2 (z := 4294967295) zq_TFLaw_112 (by decide) zd_L_law_328 ?_
  refine zz_land zd_L_law_331 (fun v89 hv89 ev89 => ?_)
  have av89 := zz_band64 (by omega) (by omega) ev89
  refine zz_lor zd_L_law_332 (fun v90 hv90 ev90 => ?_)
  refine zz_callVV [zi (zz_sc g (x4 + 1).toNat), zl v90] zd_L_law_333 zk_TFLaw_117 zT_1079 (zz_ltn hn84 rfl) rfl rfl ⟨Nat.le_of_ble_eq_true rfl, Nat.le_of_ble_eq_true rfl⟩ ⟨rfl, rfl⟩ hk85 hj86 (zc_word_14_14 (zz_sc g (x4 + 1).toNat) v90 S80 (n + d82) hn84 G_S80 (by omega) (by omega)) (fun S91 hP => ?_)
  obtain ⟨G_S91, fS91⟩ := hP
  have H_S91 : zz_Hc S91 := zz_Hc.fr (q := 0) fS91 rfl rfl G_S80 (by decide) rfl (fun b q h => h.elim) H_S80
  have R_S91 : zz_Hr S91 := zz_Hr.fr fS91 rfl rfl (fun b q h => h.elim) R_S80
  have O_S91 : 1 ≤ S91 1079 36 := by rw [show S91 1079 36 = S80 1079 36 from zz_rc fS91 rfl rfl (fun h => h) rfl]; exact O_S80
  refine zz_goto zd_L_law_336 ?_
  refine zz_iinc [some (.ref 998), some (.ref 1000), some (.ref 1079), some (.ref 1121), some (zi (x4 + 7)), some (zi v81)] zd_L_law_1208 rfl rfl ?_
  refine zz_goto zd_L_law_1211 ?_
  refine zz_less (ls1 := [some (.ref 998), some (.ref 1000), some (.ref 1079), some (.ref 1121), some (zi (x4 + 7))]) ⟨rfl, ⟨rfl, ⟨rfl, ⟨rfl, ⟨rfl, trivial⟩⟩⟩⟩⟩ ?_
  have g93 := zz_G.r G_S 1070 1 0 1500 rfl rfl
  have e94 : S91 1070 1 = S 1070 1 := (zz_rc fS91 rfl rfl (fun h => h) (zz_rc fS80 rfl rfl (by omega) rfl))
  have g95 := zz_G.r G_S 1079 28 0 1500 rfl rfl
  have e96 : S91 1079 28 = S 1079 28 := (zz_rc fS91 rfl rfl (fun h => h) (zz_rc fS80 rfl rfl (by omega) rfl))
  have g97 := zz_G.r G_S 1031 6 2 8 rfl rfl
  have e98 : S91 1031 6 = S 1031 6 := (zz_rc fS91 rfl rfl (fun h => h) (zz_rc fS80 rfl rfl (by omega) rfl))
  have g99 := zz_G.r G_S 1079 1 2 8 rfl rfl
  have e100 : S91 1079 1 = S 1079 1 := (zz_rc fS91 rfl rfl (fun h => h) (zz_rc fS80 rfl rfl (by omega) rfl))
  exact ih (x4 + 7) S91 (n + d82) (k + zr_word_L.cells) (j + zr_word_L.slots) G_S91 H_S91 R_S91 O_S91 (by omega) (by omega) hn84 (by omega) (by show ((k + 1 : Nat) : Int) ≤ 200 + (x4 + 7); omega) (by show ((j + 6 : Nat) : Int) ≤ 30000 + 6 * (x4 + 7); omega) (by omega)
theorem zl_4 {g : mm_G} {l : Launch} (hfl : l.flags = flags0) (hlen : g.2.2.2 997 ≤ 3584) (N : Nat) (ih : ∀ (x4 : Int) (S : zz_S) (n k j : Nat), zz_G S → zz_Hc S → zz_Hr S → 1 ≤ S 1079 36 → S 1070 1 = S 1079 28 → S 1031 6 = S 1079 1 → zz_end ≤ n → (0 ≤ x4 ∧ x4 ≤ 3590) → (k : Int) ≤ 200 + x4 → (j : Int) ≤ 30000 + 6 * x4 → (3600 - x4).toNat < N → zz_E g l zy_law_L room_1 (fun u => ∃ M1 n1, u = (.inl (some (zi 1)), M1, n1)) S n 23 [some (.ref 998), some (.ref 1000), some (.ref 1079), some (.ref 1121), some (zi x4)] [] k j) (x4 : Int) (S : zz_S) (n k j : Nat) (G_S : zz_G S) (H_S : zz_Hc S) (R_S : zz_Hr S) (O_S : 1 ≤ S 1079 36) (T0_S : S 1070 1 = S 1079 28) (T1_S : S 1031 6 = S 1079 1) (hn : zz_end ≤ n) (hx : 0 ≤ x4 ∧ x4 ≤ 3590) (hkk : (k : Int) ≤ 200 + x4) (hjj : (j : Int) ≤ 30000 + 6 * x4) (hR : (3600 - x4).toNat < N + 1) (hc1 : x4 ≤ zz_ln g - 7) : zz_E g l zy_law_L room_1 (fun u => ∃ M1 n1, u = (.inl (some (zi 1)), M1, n1)) S n 339 [some (.ref 998), some (.ref 1000), some (.ref 1079), some (.ref 1121), some (zi x4)] [] k j := by
  have hln : 0 ≤ zz_ln g ∧ zz_ln g ≤ 3584 := ⟨Int.natCast_nonneg _, Int.ofNat_le.mpr hlen⟩
  have hk : k ≤ 601024 := by omega
  have hj : j ≤ 7293034 := by omega
  refine zz_aload_n (x := 1000) rfl zd_L_law_339 ?_
  refine zz_aload_n (x := 998) rfl zd_L_law_340 ?_
  refine zz_iload (x := x4) rfl zd_L_law_341 ?_
  refine zz_iconst zd_L_law_343 ?_
  refine zz_iadd zd_L_law_344 ?_
  refine zz_sld (by omega) zd_L_law_345 (by omega) ?_
  have g102 := zz_sc_r g (x4 + 1).toNat
  refine zz_callHW (rz := zr_cut_L) [.ref 1000, zi (zz_sc g (x4 + 1).toNat)] zd_L_law_346 zhl_cut_L rfl rfl ⟨Nat.le_of_ble_eq_true rfl, Nat.le_of_ble_eq_true rfl⟩ (by show k + 1 ≤ 601024; omega) (by show j + 6 ≤ 7293034; omega) (zc_cut_L (zz_sc g (x4 + 1).toNat) S (n) hn hfl G_S (by omega)) (fun v104 S103 d105 hd105 hP => ?_)
  obtain ⟨G_S103, fS103, rv104⟩ := hP
  have hn106 : zz_end ≤ n + d105 := by omega
  have hk107 : (k + zr_cut_L.cells) ≤ 601024 := by show k + 1 ≤ 601024; omega
  have hj108 : (j + zr_cut_L.slots) ≤ 7293034 := by show j + 6 ≤ 7293034; omega
  have H_S103 : zz_Hc S103 := zz_Hc.fr (q := 0) fS103 rfl rfl G_S (by decide) rfl (fun b q h => h.elim) H_S
  have R_S103 : zz_Hr S103 := zz_Hr.fr fS103 rfl rfl (fun b q h => h.elim) R_S
  have O_S103 : 1 ≤ S103 1079 36 := by rw [show S103 1079 36 = S 1079 36 from zz_rc fS103 rfl rfl (fun h => h) rfl]; exact O_S
  refine zz_istore [some (.ref 998), some (.ref 1000), some (.ref 1079), some (.ref 1121), some (zi x4), some (zi v104)] zd_L_law_349 (by decide) rfl ?_
  refine zz_aload_n (x := 1079) rfl zd_L_law_351 ?_
  refine zz_aload_n (x := 998) rfl zd_L_law_352 ?_
  refine zz_iload (x := x4) rfl zd_L_law_353 ?_
  refine zz_iconst zd_L_law_355 ?_
  refine zz_iadd zd_L_law_356 ?_
  refine zz_sld (by omega) zd_L_law_357 (by omega) ?_
  refine zz_callVV [zi (zz_sc g (x4 + 1).toNat)] zd_L_law_358 zk_TFLaw_120 zT_1079 (zz_ltn hn106 rfl) rfl rfl ⟨Nat.le_of_ble_eq_true rfl, Nat.le_of_ble_eq_true rfl⟩ ⟨rfl, rfl⟩ hk107 hj108 (zc_cut_14_15 (zz_sc g (x4 + 1).toNat) S103 (n + d105) hn106 G_S103 (by omega)) (fun S109 hP => ?_)
  obtain ⟨G_S109, fS109⟩ := hP
  have H_S109 : zz_Hc S109 := zz_Hc.fr (q := 0) fS109 rfl rfl G_S103 (by decide) rfl (fun b q h => h.elim) H_S103
  have R_S109 : zz_Hr S109 := zz_Hr.fr fS109 rfl rfl (fun b q h => h.elim) R_S103
  have O_S109 : 1 ≤ S109 1079 36 := by rw [show S109 1079 36 = S103 1079 36 from zz_rc fS109 rfl rfl (fun h => h) rfl]; exact O_S103
  refine zz_goto zd_L_law_361 ?_
  refine zz_iinc [some (.ref 998), some (.ref 1000), some (.ref 1079), some (.ref 1121), some (zi (x4 + 7)), some (zi v104)] zd_L_law_1208 rfl rfl ?_
  refine zz_goto zd_L_law_1211 ?_
  refine zz_less (ls1 := [some (.ref 998), some (.ref 1000), some (.ref 1079), some (.ref 1121), some (zi (x4 + 7))]) ⟨rfl, ⟨rfl, ⟨rfl, ⟨rfl, ⟨rfl, trivial⟩⟩⟩⟩⟩ ?_
  have g111 := zz_G.r G_S 1070 1 0 1500 rfl rfl
  have e112 : S109 1070 1 = S 1070 1 := (zz_rc fS109 rfl rfl (fun h => h) (zz_rc fS103 rfl rfl (fun h => h) rfl))
  have g113 := zz_G.r G_S 1079 28 0 1500 rfl rfl
  have e114 : S109 1079 28 = S 1079 28 := (zz_rc fS109 rfl rfl (fun h => h) (zz_rc fS103 rfl rfl (fun h => h) rfl))
  have g115 := zz_G.r G_S 1031 6 2 8 rfl rfl
  have e116 : S109 1031 6 = S 1031 6 := (zz_rc fS109 rfl rfl (fun h => h) (zz_rc fS103 rfl rfl (fun h => h) rfl))
  have g117 := zz_G.r G_S 1079 1 2 8 rfl rfl
  have e118 : S109 1079 1 = S 1079 1 := (zz_rc fS109 rfl rfl (fun h => h) (zz_rc fS103 rfl rfl (fun h => h) rfl))
  exact ih (x4 + 7) S109 (n + d105) (k + zr_cut_L.cells) (j + zr_cut_L.slots) G_S109 H_S109 R_S109 O_S109 (by omega) (by omega) hn106 (by omega) (by show ((k + 1 : Nat) : Int) ≤ 200 + (x4 + 7); omega) (by show ((j + 6 : Nat) : Int) ≤ 30000 + 6 * (x4 + 7); omega) (by omega)
theorem zl_5 {g : mm_G} {l : Launch} (hfl : l.flags = flags0) (hlen : g.2.2.2 997 ≤ 3584) (N : Nat) (ih : ∀ (x4 : Int) (S : zz_S) (n k j : Nat), zz_G S → zz_Hc S → zz_Hr S → 1 ≤ S 1079 36 → S 1070 1 = S 1079 28 → S 1031 6 = S 1079 1 → zz_end ≤ n → (0 ≤ x4 ∧ x4 ≤ 3590) → (k : Int) ≤ 200 + x4 → (j : Int) ≤ 30000 + 6 * x4 → (3600 - x4).toNat < N → zz_E g l zy_law_L room_1 (fun u => ∃ M1 n1, u = (.inl (some (zi 1)), M1, n1)) S n 23 [some (.ref 998), some (.ref 1000), some (.ref 1079), some (.ref 1121), some (zi x4)] [] k j) (x4 : Int) (S : zz_S) (n k j : Nat) (G_S : zz_G S) (H_S : zz_Hc S) (R_S : zz_Hr S) (O_S : 1 ≤ S 1079 36) (T0_S : S 1070 1 = S 1079 28) (T1_S : S 1031 6 = S 1079 1) (hn : zz_end ≤ n) (hx : 0 ≤ x4 ∧ x4 ≤ 3590) (hkk : (k : Int) ≤ 200 + x4) (hjj : (j : Int) ≤ 30000 + 6 * x4) (hR : (3600 - x4).toNat < N + 1) (hc1 : x4 ≤ zz_ln g - 7) : zz_E g l zy_law_L room_1 (fun u => ∃ M1 n1, u = (.inl (some (zi 1)), M1, n1)) S n 364 [some (.ref 998), some (.ref 1000), some (.ref 1079), some (.ref 1121), some (zi x4)] [] k j := by
  have hln : 0 ≤ zz_ln g ∧ zz_ln g ≤ 3584 := ⟨Int.natCast_nonneg _, Int.ofNat_le.mpr hlen⟩
  have hk : k ≤ 601024 := by omega
  have hj : j ≤ 7293034 := by omega
  refine zz_aload_n (x := 1000) rfl zd_L_law_364 ?_
  refine zz_aload_n (x := 998) rfl zd_L_law_365 ?_
  refine zz_iload (x := x4) rfl zd_L_law_366 ?_
  refine zz_iconst zd_L_law_368 ?_
  refine zz_iadd zd_L_law_369 ?_
  refine zz_sld (by omega) zd_L_law_370 (by omega) ?_
  have g120 := zz_sc_r g (x4 + 1).toNat
  refine zz_aload_n (x := 1121) rfl zd_L_law_371 ?_
  refine zz_callHW (rz := zr_wordOf_L) [.ref 1000, zi (zz_sc g (x4 + 1).toNat), .ref 1121] zd_L_law_372 zhl_wordOf_L rfl rfl ⟨Nat.le_of_ble_eq_true rfl, Nat.le_of_ble_eq_true rfl⟩ (by show k + 1 ≤ 601024; omega) (by show j + 6 ≤ 7293034; omega) (zc_wordOf_L (zz_sc g (x4 + 1).toNat) S (n) hn hfl G_S (by omega)) (fun v122 S121 d123 hd123 hP => ?_)
  obtain ⟨G_S121, fS121, rv122⟩ := hP
  have hn124 : zz_end ≤ n + d123 := by omega
  have hk125 : (k + zr_wordOf_L.cells) ≤ 601024 := by show k + 1 ≤ 601024; omega
  have hj126 : (j + zr_wordOf_L.slots) ≤ 7293034 := by show j + 6 ≤ 7293034; omega
  have H_S121 : zz_Hc S121 := zz_Hc.fr (q := 0) fS121 rfl rfl G_S (by decide) rfl (fun b q h => h.elim) H_S
  have R_S121 : zz_Hr S121 := zz_Hr.fr fS121 rfl rfl (fun b q h => h.elim) R_S
  have O_S121 : 1 ≤ S121 1079 36 := by rw [show S121 1079 36 = S 1079 36 from zz_rc fS121 rfl rfl (fun h => h) rfl]; exact O_S
  refine zz_istore [some (.ref 998), some (.ref 1000), some (.ref 1079), some (.ref 1121), some (zi x4), some (zi v122)] zd_L_law_375 (by decide) rfl ?_
  refine zz_aload_n (x := 1079) rfl zd_L_law_377 ?_
  refine zz_aload_n (x := 998) rfl zd_L_law_378 ?_
  refine zz_iload (x := x4) rfl zd_L_law_379 ?_
  refine zz_iconst zd_L_law_381 ?_
  refine zz_iadd zd_L_law_382 ?_
  refine zz_sld (by omega) zd_L_law_383 (by omega) ?_
  refine zz_callVJ [zi (zz_sc g (x4 + 1).toNat)] zd_L_law_384 zk_TFLaw_124 zT_1079 (zz_ltn hn124 rfl) rfl rfl ⟨Nat.le_of_ble_eq_true rfl, Nat.le_of_ble_eq_true rfl⟩ ⟨rfl, rfl⟩ hk125 hj126 (zc_wordOf_14_16 (zz_sc g (x4 + 1).toNat) S121 (n + d123) hn124 G_S121 (by omega)) (fun v128 S127 hP => ?_)
  obtain ⟨G_S127, fS127, o129⟩ := hP
  have H_S127 : zz_Hc S127 := zz_Hc.fr (q := 0) fS127 rfl rfl G_S121 (by decide) rfl (fun b q h => h.elim) H_S121
  have R_S127 : zz_Hr S127 := zz_Hr.fr fS127 rfl rfl (fun b q h => h.elim) R_S121
  have O_S127 : 1 ≤ S127 1079 36 := by rw [show S127 1079 36 = S121 1079 36 from zz_rc fS127 rfl rfl (fun h => h) rfl]; exact O_S121
  refine zz_lstore [some (.ref 998), some (.ref 1000), some (.ref 1079), some (.ref 1121), some (zi x4), some (zi v122), some (zl v128), none] zd_L_law_387 (by decide) rfl ?_
  refine zz_goto zd_L_law_389 ?_
  refine zz_iinc [some (.ref 998), some (.ref 1000), some (.ref 1079), some (.ref 1121), some (zi (x4 + 7)), some (zi v122), some (zl v128), none] zd_L_law_1208 rfl rfl ?_
  refine zz_goto zd_L_law_1211 ?_
  refine zz_less (ls1 := [some (.ref 998), some (.ref 1000), some (.ref 1079), some (.ref 1121), some (zi (x4 + 7))]) ⟨rfl, ⟨rfl, ⟨rfl, ⟨rfl, ⟨rfl, trivial⟩⟩⟩⟩⟩ ?_
  have g130 := zz_G.r G_S 1070 1 0 1500 rfl rfl
  have e131 : S127 1070 1 = S 1070 1 := (zz_rc fS127 rfl rfl (fun h => h) (zz_rc fS121 rfl rfl (fun h => h) rfl))
  have g132 := zz_G.r G_S 1079 28 0 1500 rfl rfl
  have e133 : S127 1079 28 = S 1079 28 := (zz_rc fS127 rfl rfl (fun h => h) (zz_rc fS121 rfl rfl (fun h => h) rfl))
  have g134 := zz_G.r G_S 1031 6 2 8 rfl rfl
  have e135 : S127 1031 6 = S 1031 6 := (zz_rc fS127 rfl rfl (fun h => h) (zz_rc fS121 rfl rfl (fun h => h) rfl))
  have g136 := zz_G.r G_S 1079 1 2 8 rfl rfl
  have e137 : S127 1079 1 = S 1079 1 := (zz_rc fS127 rfl rfl (fun h => h) (zz_rc fS121 rfl rfl (fun h => h) rfl))
  exact ih (x4 + 7) S127 (n + d123) (k + zr_wordOf_L.cells) (j + zr_wordOf_L.slots) G_S127 H_S127 R_S127 O_S127 (by omega) (by omega) hn124 (by omega) (by show ((k + 1 : Nat) : Int) ≤ 200 + (x4 + 7); omega) (by show ((j + 6 : Nat) : Int) ≤ 30000 + 6 * (x4 + 7); omega) (by omega)
theorem zl_6 {g : mm_G} {l : Launch} (hfl : l.flags = flags0) (hlen : g.2.2.2 997 ≤ 3584) (N : Nat) (ih : ∀ (x4 : Int) (S : zz_S) (n k j : Nat), zz_G S → zz_Hc S → zz_Hr S → 1 ≤ S 1079 36 → S 1070 1 = S 1079 28 → S 1031 6 = S 1079 1 → zz_end ≤ n → (0 ≤ x4 ∧ x4 ≤ 3590) → (k : Int) ≤ 200 + x4 → (j : Int) ≤ 30000 + 6 * x4 → (3600 - x4).toNat < N → zz_E g l zy_law_L room_1 (fun u => ∃ M1 n1, u = (.inl (some (zi 1)), M1, n1)) S n 23 [some (.ref 998), some (.ref 1000), some (.ref 1079), some (.ref 1121), some (zi x4)] [] k j) (x4 : Int) (S : zz_S) (n k j : Nat) (G_S : zz_G S) (H_S : zz_Hc S) (R_S : zz_Hr S) (O_S : 1 ≤ S 1079 36) (T0_S : S 1070 1 = S 1079 28) (T1_S : S 1031 6 = S 1079 1) (hn : zz_end ≤ n) (hx : 0 ≤ x4 ∧ x4 ≤ 3590) (hkk : (k : Int) ≤ 200 + x4) (hjj : (j : Int) ≤ 30000 + 6 * x4) (hR : (3600 - x4).toNat < N + 1) (hc1 : x4 ≤ zz_ln g - 7) : zz_E g l zy_law_L room_1 (fun u => ∃ M1 n1, u = (.inl (some (zi 1)), M1, n1)) S n 392 [some (.ref 998), some (.ref 1000), some (.ref 1079), some (.ref 1121), some (zi x4)] [] k j := by
  have hln : 0 ≤ zz_ln g ∧ zz_ln g ≤ 3584 := ⟨Int.natCast_nonneg _, Int.ofNat_le.mpr hlen⟩
  have hk : k ≤ 601024 := by omega
  have hj : j ≤ 7293034 := by omega
  refine zz_aload_n (x := 1000) rfl zd_L_law_392 ?_
  refine zz_callVI [] zd_L_law_393 zk_TFLaw_125 zT_1000 (zz_ltn hn rfl) rfl rfl ⟨Nat.le_of_ble_eq_true rfl, Nat.le_of_ble_eq_true rfl⟩ ⟨rfl, rfl⟩ hk hj (zc_length_1_8  S (n) hn G_S ) (fun v140 S139 hP => ?_)
  obtain ⟨rfl, o141⟩ := hP
  refine zz_pop rfl zd_L_law_396 ?_
  refine zz_aload_n (x := 1079) rfl zd_L_law_397 ?_
  refine zz_callVI [] zd_L_law_398 zk_TFLaw_128 zT_1079 (zz_ltn hn rfl) rfl rfl ⟨Nat.le_of_ble_eq_true rfl, Nat.le_of_ble_eq_true rfl⟩ ⟨rfl, rfl⟩ hk hj (zc_length_14_17  S (n) hn G_S ) (fun v143 S142 hP => ?_)
  obtain ⟨G_S142, fS142, o144⟩ := hP
  have H_S142 : zz_Hc S142 := zz_Hc.fr (q := 0) fS142 rfl rfl G_S (by decide) rfl (fun b q h => h.elim) H_S
  have R_S142 : zz_Hr S142 := zz_Hr.fr fS142 rfl rfl (fun b q h => h.elim) R_S
  have O_S142 : 1 ≤ S142 1079 36 := by rw [show S142 1079 36 = S 1079 36 from zz_rc fS142 rfl rfl (fun h => h) rfl]; exact O_S
  refine zz_pop rfl zd_L_law_401 ?_
  refine zz_goto zd_L_law_402 ?_
  refine zz_iinc [some (.ref 998), some (.ref 1000), some (.ref 1079), some (.ref 1121), some (zi (x4 + 7))] zd_L_law_1208 rfl rfl ?_
  refine zz_goto zd_L_law_1211 ?_
  refine zz_less (ls1 := [some (.ref 998), some (.ref 1000), some (.ref 1079), some (.ref 1121), some (zi (x4 + 7))]) ⟨rfl, ⟨rfl, ⟨rfl, ⟨rfl, ⟨rfl, trivial⟩⟩⟩⟩⟩ ?_
  have g145 := zz_G.r G_S 1070 1 0 1500 rfl rfl
  have e146 : S142 1070 1 = S 1070 1 := (zz_rc fS142 rfl rfl (fun h => h) rfl)
  have g147 := zz_G.r G_S 1079 28 0 1500 rfl rfl
  have e148 : S142 1079 28 = S 1079 28 := (zz_rc fS142 rfl rfl (fun h => h) rfl)
  have g149 := zz_G.r G_S 1031 6 2 8 rfl rfl
  have e150 : S142 1031 6 = S 1031 6 := (zz_rc fS142 rfl rfl (fun h => h) rfl)
  have g151 := zz_G.r G_S 1079 1 2 8 rfl rfl
  have e152 : S142 1079 1 = S 1079 1 := (zz_rc fS142 rfl rfl (fun h => h) rfl)
  exact ih (x4 + 7) S142 (n) k j G_S142 H_S142 R_S142 O_S142 (by omega) (by omega) hn (by omega) (by show ((k : Nat) : Int) ≤ 200 + (x4 + 7); omega) (by show ((j : Nat) : Int) ≤ 30000 + 6 * (x4 + 7); omega) (by omega)
theorem zl_7 {g : mm_G} {l : Launch} (hfl : l.flags = flags0) (hlen : g.2.2.2 997 ≤ 3584) (N : Nat) (ih : ∀ (x4 : Int) (S : zz_S) (n k j : Nat), zz_G S → zz_Hc S → zz_Hr S → 1 ≤ S 1079 36 → S 1070 1 = S 1079 28 → S 1031 6 = S 1079 1 → zz_end ≤ n → (0 ≤ x4 ∧ x4 ≤ 3590) → (k : Int) ≤ 200 + x4 → (j : Int) ≤ 30000 + 6 * x4 → (3600 - x4).toNat < N → zz_E g l zy_law_L room_1 (fun u => ∃ M1 n1, u = (.inl (some (zi 1)), M1, n1)) S n 23 [some (.ref 998), some (.ref 1000), some (.ref 1079), some (.ref 1121), some (zi x4)] [] k j) (x4 : Int) (S : zz_S) (n k j : Nat) (G_S : zz_G S) (H_S : zz_Hc S) (R_S : zz_Hr S) (O_S : 1 ≤ S 1079 36) (T0_S : S 1070 1 = S 1079 28) (T1_S : S 1031 6 = S 1079 1) (hn : zz_end ≤ n) (hx : 0 ≤ x4 ∧ x4 ≤ 3590) (hkk : (k : Int) ≤ 200 + x4) (hjj : (j : Int) ≤ 30000 + 6 * x4) (hR : (3600 - x4).toNat < N + 1) (hc1 : x4 ≤ zz_ln g - 7) : zz_E g l zy_law_L room_1 (fun u => ∃ M1 n1, u = (.inl (some (zi 1)), M1, n1)) S n 405 [some (.ref 998), some (.ref 1000), some (.ref 1079), some (.ref 1121), some (zi x4)] [] k j := by
  have hln : 0 ≤ zz_ln g ∧ zz_ln g ≤ 3584 := ⟨Int.natCast_nonneg _, Int.ofNat_le.mpr hlen⟩
  have hk : k ≤ 601024 := by omega
  have hj : j ≤ 7293034 := by omega
  refine zz_aload_n (x := 1000) rfl zd_L_law_405 ?_
  refine zz_aload_n (x := 998) rfl zd_L_law_406 ?_
  refine zz_iload (x := x4) rfl zd_L_law_407 ?_
  refine zz_iconst zd_L_law_409 ?_
  refine zz_iadd zd_L_law_410 ?_
  refine zz_sld (by omega) zd_L_law_411 (by omega) ?_
  have g154 := zz_sc_r g (x4 + 1).toNat
  refine zz_i2l (by omega) zd_L_law_412 ?_
  refine zz_bipush (by decide) zd_L_law_413 ?_
  refine zz_lshl zd_L_law_415 (fun v155 hv155 ev155 => ?_)
  refine zz_aload_n (x := 998) rfl zd_L_law_416 ?_
  refine zz_iload (x := x4) rfl zd_L_law_417 ?_
  refine zz_iconst zd_L_law_419 ?_
  refine zz_iadd zd_L_law_420 ?_
  refine zz_sld (by omega) zd_L_law_421 (by omega) ?_
  have g156 := zz_sc_r g (x4 + 2).toNat
  refine zz_i2l (by omega) zd_L_law_422 ?_
  refine zz_ldc2 (z := 4294967295) zq_TFLaw_112 (by decide) zd_L_law_423 ?_
  refine zz_land zd_L_law_426 (fun v157 hv157 ev157 => ?_)
  have av157 := zz_band64 (by omega) (by omega) ev157
  refine zz_lor zd_L_law_427 (fun v158 hv158 ev158 => ?_)
  refine zz_aload_n (x := 998) rfl zd_L_law_428 ?_
  refine zz_iload (x := x4) rfl zd_L_law_429 ?_
  refine zz_iconst zd_L_law_431 ?_
  refine zz_iadd zd_L_law_432 ?_
  refine zz_sld (by omega) zd_L_law_433 (by omega) ?_
  have g159 := zz_sc_r g (x4 + 3).toNat
  refine zz_aload_n (x := 1121) rfl zd_L_law_434 ?_
  refine zz_callHW (rz := zr_field_L) [.ref 1000, zl v158, zi (zz_sc g (x4 + 3).toNat), .ref 1121] zd_L_law_435 zhl_field_L rfl rfl ⟨Nat.le_of_ble_eq_true rfl, Nat.le_of_ble_eq_true rfl⟩ (by show k + 1 ≤ 601024; omega) (by show j + 6 ≤ 7293034; omega) (zc_field_L v158 (zz_sc g (x4 + 3).toNat) S (n) hn hfl G_S (by omega) (by omega)) (fun v161 S160 d162 hd162 hP => ?_)
  obtain ⟨G_S160, fS160, rv161, o163, o164⟩ := hP
  have hn165 : zz_end ≤ n + d162 := by omega
  have hk166 : (k + zr_field_L.cells) ≤ 601024 := by show k + 1 ≤ 601024; omega
  have hj167 : (j + zr_field_L.slots) ≤ 7293034 := by show j + 6 ≤ 7293034; omega
  have H_S160 : zz_Hc S160 := zz_Hc.fr (q := 0) fS160 rfl rfl G_S (by decide) rfl (fun b q h => h.elim) H_S
  have R_S160 : zz_Hr S160 := zz_Hr.fr fS160 rfl rfl (fun b q h => h.elim) R_S
  have O_S160 : 1 ≤ S160 1079 36 := by rw [show S160 1079 36 = S 1079 36 from zz_rc fS160 rfl rfl (fun h => h) rfl]; exact O_S
  refine zz_istore [some (.ref 998), some (.ref 1000), some (.ref 1079), some (.ref 1121), some (zi x4), some (zi v161)] zd_L_law_438 (by decide) rfl ?_
  refine zz_aload_n (x := 1079) rfl zd_L_law_440 ?_
  refine zz_aload_n (x := 998) rfl zd_L_law_441 ?_
  refine zz_iload (x := x4) rfl zd_L_law_442 ?_
  refine zz_iconst zd_L_law_444 ?_
  refine zz_iadd zd_L_law_445 ?_
  refine zz_sld (by omega) zd_L_law_446 (by omega) ?_
  refine zz_i2l (by omega) zd_L_law_447 ?_
  refine zz_bipush (by decide) zd_L_law_448 ?_
  refine zz_lshl zd_L_law_450 (fun v168 hv168 ev168 => ?_)
  refine zz_aload_n (x := 998) rfl zd_L_law_451 ?_
  refine zz_iload (x := x4) rfl zd_L_law_452 ?_
  refine zz_iconst zd_L_law_454 ?_
  refine zz_iadd zd_L_law_455 ?_
  refine zz_sld (by omega) zd_L_law_456 (by omega) ?_
  refine zz_i2l (by omega) zd_L_law_457 ?_
  refine zz_ldc2 (z := 4294967295) zq_TFLaw_112 (by decide) zd_L_law_458 ?_
  refine zz_land zd_L_law_461 (fun v169 hv169 ev169 => ?_)
  have av169 := zz_band64 (by omega) (by omega) ev169
  refine zz_lor zd_L_law_462 (fun v170 hv170 ev170 => ?_)
  refine zz_aload_n (x := 998) rfl zd_L_law_463 ?_
  refine zz_iload (x := x4) rfl zd_L_law_464 ?_
  refine zz_iconst zd_L_law_466 ?_
  refine zz_iadd zd_L_law_467 ?_
  refine zz_sld (by omega) zd_L_law_468 (by omega) ?_
  refine zz_callVI [zl v170, zi (zz_sc g (x4 + 3).toNat)] zd_L_law_469 zk_TFLaw_132 zT_1079 (zz_ltn hn165 rfl) rfl rfl ⟨Nat.le_of_ble_eq_true rfl, Nat.le_of_ble_eq_true rfl⟩ ⟨rfl, rfl⟩ hk166 hj167 (zc_field_14_13 v170 (zz_sc g (x4 + 3).toNat) S160 (n + d162) hn165 G_S160 (by omega) (by omega)) (fun v172 S171 hP => ?_)
  obtain ⟨G_S171, fS171, o173, o174, o175⟩ := hP
  have H_S171 : zz_Hc S171 := zz_Hc.fr (q := 0) fS171 rfl rfl G_S160 (by decide) rfl (fun b q h => h.elim) H_S160
  have R_S171 : zz_Hr S171 := zz_Hr.fr fS171 rfl rfl (fun b q h => h.elim) R_S160
  have O_S171 : 1 ≤ S171 1079 36 := by rw [show S171 1079 36 = S160 1079 36 from zz_rc fS171 rfl rfl (fun h => h) rfl]; exact O_S160
  refine zz_istore [some (.ref 998), some (.ref 1000), some (.ref 1079), some (.ref 1121), some (zi x4), some (zi v161), some (zi v172)] zd_L_law_472 (by decide) rfl ?_
  refine zz_goto zd_L_law_474 ?_
  refine zz_iinc [some (.ref 998), some (.ref 1000), some (.ref 1079), some (.ref 1121), some (zi (x4 + 7)), some (zi v161), some (zi v172)] zd_L_law_1208 rfl rfl ?_
  refine zz_goto zd_L_law_1211 ?_
  refine zz_less (ls1 := [some (.ref 998), some (.ref 1000), some (.ref 1079), some (.ref 1121), some (zi (x4 + 7))]) ⟨rfl, ⟨rfl, ⟨rfl, ⟨rfl, ⟨rfl, trivial⟩⟩⟩⟩⟩ ?_
  have g176 := zz_G.r G_S 1070 1 0 1500 rfl rfl
  have e177 : S171 1070 1 = S 1070 1 := (zz_rc fS171 rfl rfl (fun h => h) (zz_rc fS160 rfl rfl (fun h => h) rfl))
  have g178 := zz_G.r G_S 1079 28 0 1500 rfl rfl
  have e179 : S171 1079 28 = S 1079 28 := (zz_rc fS171 rfl rfl (fun h => h) (zz_rc fS160 rfl rfl (fun h => h) rfl))
  have g180 := zz_G.r G_S 1031 6 2 8 rfl rfl
  have e181 : S171 1031 6 = S 1031 6 := (zz_rc fS171 rfl rfl (fun h => h) (zz_rc fS160 rfl rfl (fun h => h) rfl))
  have g182 := zz_G.r G_S 1079 1 2 8 rfl rfl
  have e183 : S171 1079 1 = S 1079 1 := (zz_rc fS171 rfl rfl (fun h => h) (zz_rc fS160 rfl rfl (fun h => h) rfl))
  exact ih (x4 + 7) S171 (n + d162) (k + zr_field_L.cells) (j + zr_field_L.slots) G_S171 H_S171 R_S171 O_S171 (by omega) (by omega) hn165 (by omega) (by show ((k + 1 : Nat) : Int) ≤ 200 + (x4 + 7); omega) (by show ((j + 6 : Nat) : Int) ≤ 30000 + 6 * (x4 + 7); omega) (by omega)
theorem zl_8 {g : mm_G} {l : Launch} (hfl : l.flags = flags0) (hlen : g.2.2.2 997 ≤ 3584) (N : Nat) (ih : ∀ (x4 : Int) (S : zz_S) (n k j : Nat), zz_G S → zz_Hc S → zz_Hr S → 1 ≤ S 1079 36 → S 1070 1 = S 1079 28 → S 1031 6 = S 1079 1 → zz_end ≤ n → (0 ≤ x4 ∧ x4 ≤ 3590) → (k : Int) ≤ 200 + x4 → (j : Int) ≤ 30000 + 6 * x4 → (3600 - x4).toNat < N → zz_E g l zy_law_L room_1 (fun u => ∃ M1 n1, u = (.inl (some (zi 1)), M1, n1)) S n 23 [some (.ref 998), some (.ref 1000), some (.ref 1079), some (.ref 1121), some (zi x4)] [] k j) (x4 : Int) (S : zz_S) (n k j : Nat) (G_S : zz_G S) (H_S : zz_Hc S) (R_S : zz_Hr S) (O_S : 1 ≤ S 1079 36) (T0_S : S 1070 1 = S 1079 28) (T1_S : S 1031 6 = S 1079 1) (hn : zz_end ≤ n) (hx : 0 ≤ x4 ∧ x4 ≤ 3590) (hkk : (k : Int) ≤ 200 + x4) (hjj : (j : Int) ≤ 30000 + 6 * x4) (hR : (3600 - x4).toNat < N + 1) (hc1 : x4 ≤ zz_ln g - 7) : zz_E g l zy_law_L room_1 (fun u => ∃ M1 n1, u = (.inl (some (zi 1)), M1, n1)) S n 477 [some (.ref 998), some (.ref 1000), some (.ref 1079), some (.ref 1121), some (zi x4)] [] k j := by
  have hln : 0 ≤ zz_ln g ∧ zz_ln g ≤ 3584 := ⟨Int.natCast_nonneg _, Int.ofNat_le.mpr hlen⟩
  have hk : k ≤ 601024 := by omega
  have hj : j ≤ 7293034 := by omega
  refine zz_aload_n (x := 1000) rfl zd_L_law_477 ?_
  refine zz_aload_n (x := 998) rfl zd_L_law_478 ?_
  refine zz_iload (x := x4) rfl zd_L_law_479 ?_
  refine zz_iconst zd_L_law_481 ?_
  refine zz_iadd zd_L_law_482 ?_
  refine zz_sld (by omega) zd_L_law_483 (by omega) ?_
  have g185 := zz_sc_r g (x4 + 1).toNat
  refine zz_i2l (by omega) zd_L_law_484 ?_
  refine zz_bipush (by decide) zd_L_law_485 ?_
  refine zz_lshl zd_L_law_487 (fun v186 hv186 ev186 => ?_)
  refine zz_aload_n (x := 998) rfl zd_L_law_488 ?_
  refine zz_iload (x := x4) rfl zd_L_law_489 ?_
  refine zz_iconst zd_L_law_491 ?_
  refine zz_iadd zd_L_law_492 ?_
  refine zz_sld (by omega) zd_L_law_493 (by omega) ?_
  have g187 := zz_sc_r g (x4 + 2).toNat
  refine zz_i2l (by omega) zd_L_law_494 ?_
  refine zz_ldc2 (z := 4294967295) zq_TFLaw_112 (by decide) zd_L_law_495 ?_
  refine zz_land zd_L_law_498 (fun v188 hv188 ev188 => ?_)
  have av188 := zz_band64 (by omega) (by omega) ev188
  refine zz_lor zd_L_law_499 (fun v189 hv189 ev189 => ?_)
  refine zz_callVI [zl v189] zd_L_law_500 zk_TFLaw_133 zT_1000 (zz_ltn hn rfl) rfl rfl ⟨Nat.le_of_ble_eq_true rfl, Nat.le_of_ble_eq_true rfl⟩ ⟨rfl, rfl⟩ hk hj (zc_illegal_1_10 v189 S (n) hn G_S (by omega)) (fun v191 S190 hP => ?_)
  obtain ⟨G_S190, fS190, o192⟩ := hP
  have H_S190 : zz_Hc S190 := zz_Hc.fr (q := 0) fS190 rfl rfl G_S (by decide) rfl (fun b q h => h.elim) H_S
  have R_S190 : zz_Hr S190 := zz_Hr.fr fS190 rfl rfl (fun b q h => h.elim) R_S
  have O_S190 : 1 ≤ S190 1079 36 := by rw [show S190 1079 36 = S 1079 36 from zz_rc fS190 rfl rfl (fun h => h) rfl]; exact O_S
  rcases (by omega : v191 = 0 ∨ v191 = 1) with rfl | rfl
  · refine zz_pop rfl zd_L_law_503 ?_
    refine zz_aload_n (x := 1079) rfl zd_L_law_504 ?_
    refine zz_aload_n (x := 998) rfl zd_L_law_505 ?_
    refine zz_iload (x := x4) rfl zd_L_law_506 ?_
    refine zz_iconst zd_L_law_508 ?_
    refine zz_iadd zd_L_law_509 ?_
    refine zz_sld (by omega) zd_L_law_510 (by omega) ?_
    refine zz_i2l (by omega) zd_L_law_511 ?_
    refine zz_bipush (by decide) zd_L_law_512 ?_
    refine zz_lshl zd_L_law_514 (fun v193 hv193 ev193 => ?_)
    refine zz_aload_n (x := 998) rfl zd_L_law_515 ?_
    refine zz_iload (x := x4) rfl zd_L_law_516 ?_
    refine zz_iconst zd_L_law_518 ?_
    refine zz_iadd zd_L_law_519 ?_
    refine zz_sld (by omega) zd_L_law_520 (by omega) ?_
    refine zz_i2l (by omega) zd_L_law_521 ?_
    refine zz_ldc2 (z := 4294967295) zq_TFLaw_112 (by decide) zd_L_law_522 ?_
    refine zz_land zd_L_law_525 (fun v194 hv194 ev194 => ?_)
    have av194 := zz_band64 (by omega) (by omega) ev194
    refine zz_lor zd_L_law_526 (fun v195 hv195 ev195 => ?_)
    refine zz_callVI [zl v195] zd_L_law_527 zk_TFLaw_137 zT_1079 (zz_ltn hn rfl) rfl rfl ⟨Nat.le_of_ble_eq_true rfl, Nat.le_of_ble_eq_true rfl⟩ ⟨rfl, rfl⟩ hk hj (zc_illegal_14_25 v195 S190 (n) hn G_S190 (by omega)) (fun v197 S196 hP => ?_)
    obtain ⟨G_S196, fS196, o198⟩ := hP
    have H_S196 : zz_Hc S196 := zz_Hc.fr (q := 0) fS196 rfl rfl G_S190 (by decide) rfl (fun b q h => h.elim) H_S190
    have R_S196 : zz_Hr S196 := zz_Hr.fr fS196 rfl rfl (fun b q h => h.elim) R_S190
    have O_S196 : 1 ≤ S196 1079 36 := by rw [show S196 1079 36 = S190 1079 36 from zz_rc fS196 rfl rfl (fun h => h) rfl]; exact O_S190
    rcases (by omega : v197 = 0 ∨ v197 = 1) with rfl | rfl
    · refine zz_pop rfl zd_L_law_530 ?_
      refine zz_goto zd_L_law_531 ?_
      refine zz_iinc [some (.ref 998), some (.ref 1000), some (.ref 1079), some (.ref 1121), some (zi (x4 + 7))] zd_L_law_1208 rfl rfl ?_
      refine zz_goto zd_L_law_1211 ?_
      refine zz_less (ls1 := [some (.ref 998), some (.ref 1000), some (.ref 1079), some (.ref 1121), some (zi (x4 + 7))]) ⟨rfl, ⟨rfl, ⟨rfl, ⟨rfl, ⟨rfl, trivial⟩⟩⟩⟩⟩ ?_
      have g199 := zz_G.r G_S 1070 1 0 1500 rfl rfl
      have e200 : S196 1070 1 = S 1070 1 := (zz_rc fS196 rfl rfl (fun h => h) (zz_rc fS190 rfl rfl (fun h => h) rfl))
      have g201 := zz_G.r G_S 1079 28 0 1500 rfl rfl
      have e202 : S196 1079 28 = S 1079 28 := (zz_rc fS196 rfl rfl (fun h => h) (zz_rc fS190 rfl rfl (fun h => h) rfl))
      have g203 := zz_G.r G_S 1031 6 2 8 rfl rfl
      have e204 : S196 1031 6 = S 1031 6 := (zz_rc fS196 rfl rfl (fun h => h) (zz_rc fS190 rfl rfl (fun h => h) rfl))
      have g205 := zz_G.r G_S 1079 1 2 8 rfl rfl
      have e206 : S196 1079 1 = S 1079 1 := (zz_rc fS196 rfl rfl (fun h => h) (zz_rc fS190 rfl rfl (fun h => h) rfl))
      exact ih (x4 + 7) S196 (n) k j G_S196 H_S196 R_S196 O_S196 (by omega) (by omega) hn (by omega) (by show ((k : Nat) : Int) ≤ 200 + (x4 + 7); omega) (by show ((j : Nat) : Int) ≤ 30000 + 6 * (x4 + 7); omega) (by omega)
    · refine zz_pop rfl zd_L_law_530 ?_
      refine zz_goto zd_L_law_531 ?_
      refine zz_iinc [some (.ref 998), some (.ref 1000), some (.ref 1079), some (.ref 1121), some (zi (x4 + 7))] zd_L_law_1208 rfl rfl ?_
      refine zz_goto zd_L_law_1211 ?_
      refine zz_less (ls1 := [some (.ref 998), some (.ref 1000), some (.ref 1079), some (.ref 1121), some (zi (x4 + 7))]) ⟨rfl, ⟨rfl, ⟨rfl, ⟨rfl, ⟨rfl, trivial⟩⟩⟩⟩⟩ ?_
      have g207 := zz_G.r G_S 1070 1 0 1500 rfl rfl
      have e208 : S196 1070 1 = S 1070 1 := (zz_rc fS196 rfl rfl (fun h => h) (zz_rc fS190 rfl rfl (fun h => h) rfl))
      have g209 := zz_G.r G_S 1079 28 0 1500 rfl rfl
      have e210 : S196 1079 28 = S 1079 28 := (zz_rc fS196 rfl rfl (fun h => h) (zz_rc fS190 rfl rfl (fun h => h) rfl))
      have g211 := zz_G.r G_S 1031 6 2 8 rfl rfl
      have e212 : S196 1031 6 = S 1031 6 := (zz_rc fS196 rfl rfl (fun h => h) (zz_rc fS190 rfl rfl (fun h => h) rfl))
      have g213 := zz_G.r G_S 1079 1 2 8 rfl rfl
      have e214 : S196 1079 1 = S 1079 1 := (zz_rc fS196 rfl rfl (fun h => h) (zz_rc fS190 rfl rfl (fun h => h) rfl))
      exact ih (x4 + 7) S196 (n) k j G_S196 H_S196 R_S196 O_S196 (by omega) (by omega) hn (by omega) (by show ((k : Nat) : Int) ≤ 200 + (x4 + 7); omega) (by show ((j : Nat) : Int) ≤ 30000 + 6 * (x4 + 7); omega) (by omega)
  · refine zz_pop rfl zd_L_law_503 ?_
    refine zz_aload_n (x := 1079) rfl zd_L_law_504 ?_
    refine zz_aload_n (x := 998) rfl zd_L_law_505 ?_
    refine zz_iload (x := x4) rfl zd_L_law_506 ?_
    refine zz_iconst zd_L_law_508 ?_
    refine zz_iadd zd_L_law_509 ?_
    refine zz_sld (by omega) zd_L_law_510 (by omega) ?_
    refine zz_i2l (by omega) zd_L_law_511 ?_
    refine zz_bipush (by decide) zd_L_law_512 ?_
    refine zz_lshl zd_L_law_514 (fun v215 hv215 ev215 => ?_)
    refine zz_aload_n (x := 998) rfl zd_L_law_515 ?_
    refine zz_iload (x := x4) rfl zd_L_law_516 ?_
    refine zz_iconst zd_L_law_518 ?_
    refine zz_iadd zd_L_law_519 ?_
    refine zz_sld (by omega) zd_L_law_520 (by omega) ?_
    refine zz_i2l (by omega) zd_L_law_521 ?_
    refine zz_ldc2 (z := 4294967295) zq_TFLaw_112 (by decide) zd_L_law_522 ?_
    refine zz_land zd_L_law_525 (fun v216 hv216 ev216 => ?_)
    have av216 := zz_band64 (by omega) (by omega) ev216
    refine zz_lor zd_L_law_526 (fun v217 hv217 ev217 => ?_)
    refine zz_callVI [zl v217] zd_L_law_527 zk_TFLaw_137 zT_1079 (zz_ltn hn rfl) rfl rfl ⟨Nat.le_of_ble_eq_true rfl, Nat.le_of_ble_eq_true rfl⟩ ⟨rfl, rfl⟩ hk hj (zc_illegal_14_25 v217 S190 (n) hn G_S190 (by omega)) (fun v219 S218 hP => ?_)
    obtain ⟨G_S218, fS218, o220⟩ := hP
    have H_S218 : zz_Hc S218 := zz_Hc.fr (q := 0) fS218 rfl rfl G_S190 (by decide) rfl (fun b q h => h.elim) H_S190
    have R_S218 : zz_Hr S218 := zz_Hr.fr fS218 rfl rfl (fun b q h => h.elim) R_S190
    have O_S218 : 1 ≤ S218 1079 36 := by rw [show S218 1079 36 = S190 1079 36 from zz_rc fS218 rfl rfl (fun h => h) rfl]; exact O_S190
    rcases (by omega : v219 = 0 ∨ v219 = 1) with rfl | rfl
    · refine zz_pop rfl zd_L_law_530 ?_
      refine zz_goto zd_L_law_531 ?_
      refine zz_iinc [some (.ref 998), some (.ref 1000), some (.ref 1079), some (.ref 1121), some (zi (x4 + 7))] zd_L_law_1208 rfl rfl ?_
      refine zz_goto zd_L_law_1211 ?_
      refine zz_less (ls1 := [some (.ref 998), some (.ref 1000), some (.ref 1079), some (.ref 1121), some (zi (x4 + 7))]) ⟨rfl, ⟨rfl, ⟨rfl, ⟨rfl, ⟨rfl, trivial⟩⟩⟩⟩⟩ ?_
      have g221 := zz_G.r G_S 1070 1 0 1500 rfl rfl
      have e222 : S218 1070 1 = S 1070 1 := (zz_rc fS218 rfl rfl (fun h => h) (zz_rc fS190 rfl rfl (fun h => h) rfl))
      have g223 := zz_G.r G_S 1079 28 0 1500 rfl rfl
      have e224 : S218 1079 28 = S 1079 28 := (zz_rc fS218 rfl rfl (fun h => h) (zz_rc fS190 rfl rfl (fun h => h) rfl))
      have g225 := zz_G.r G_S 1031 6 2 8 rfl rfl
      have e226 : S218 1031 6 = S 1031 6 := (zz_rc fS218 rfl rfl (fun h => h) (zz_rc fS190 rfl rfl (fun h => h) rfl))
      have g227 := zz_G.r G_S 1079 1 2 8 rfl rfl
      have e228 : S218 1079 1 = S 1079 1 := (zz_rc fS218 rfl rfl (fun h => h) (zz_rc fS190 rfl rfl (fun h => h) rfl))
      exact ih (x4 + 7) S218 (n) k j G_S218 H_S218 R_S218 O_S218 (by omega) (by omega) hn (by omega) (by show ((k : Nat) : Int) ≤ 200 + (x4 + 7); omega) (by show ((j : Nat) : Int) ≤ 30000 + 6 * (x4 + 7); omega) (by omega)
    · refine zz_pop rfl zd_L_law_530 ?_
      refine zz_goto zd_L_law_531 ?_
      refine zz_iinc [some (.ref 998), some (.ref 1000), some (.ref 1079), some (.ref 1121), some (zi (x4 + 7))] zd_L_law_1208 rfl rfl ?_
      refine zz_goto zd_L_law_1211 ?_
      refine zz_less (ls1 := [some (.ref 998), some (.ref 1000), some (.ref 1079), some (.ref 1121), some (zi (x4 + 7))]) ⟨rfl, ⟨rfl, ⟨rfl, ⟨rfl, ⟨rfl, trivial⟩⟩⟩⟩⟩ ?_
      have g229 := zz_G.r G_S 1070 1 0 1500 rfl rfl
      have e230 : S218 1070 1 = S 1070 1 := (zz_rc fS218 rfl rfl (fun h => h) (zz_rc fS190 rfl rfl (fun h => h) rfl))
      have g231 := zz_G.r G_S 1079 28 0 1500 rfl rfl
      have e232 : S218 1079 28 = S 1079 28 := (zz_rc fS218 rfl rfl (fun h => h) (zz_rc fS190 rfl rfl (fun h => h) rfl))
      have g233 := zz_G.r G_S 1031 6 2 8 rfl rfl
      have e234 : S218 1031 6 = S 1031 6 := (zz_rc fS218 rfl rfl (fun h => h) (zz_rc fS190 rfl rfl (fun h => h) rfl))
      have g235 := zz_G.r G_S 1079 1 2 8 rfl rfl
      have e236 : S218 1079 1 = S 1079 1 := (zz_rc fS218 rfl rfl (fun h => h) (zz_rc fS190 rfl rfl (fun h => h) rfl))
      exact ih (x4 + 7) S218 (n) k j G_S218 H_S218 R_S218 O_S218 (by omega) (by omega) hn (by omega) (by show ((k : Nat) : Int) ≤ 200 + (x4 + 7); omega) (by show ((j : Nat) : Int) ≤ 30000 + 6 * (x4 + 7); omega) (by omega)
theorem zl_9 {g : mm_G} {l : Launch} (hfl : l.flags = flags0) (hlen : g.2.2.2 997 ≤ 3584) (N : Nat) (ih : ∀ (x4 : Int) (S : zz_S) (n k j : Nat), zz_G S → zz_Hc S → zz_Hr S → 1 ≤ S 1079 36 → S 1070 1 = S 1079 28 → S 1031 6 = S 1079 1 → zz_end ≤ n → (0 ≤ x4 ∧ x4 ≤ 3590) → (k : Int) ≤ 200 + x4 → (j : Int) ≤ 30000 + 6 * x4 → (3600 - x4).toNat < N → zz_E g l zy_law_L room_1 (fun u => ∃ M1 n1, u = (.inl (some (zi 1)), M1, n1)) S n 23 [some (.ref 998), some (.ref 1000), some (.ref 1079), some (.ref 1121), some (zi x4)] [] k j) (x4 : Int) (S : zz_S) (n k j : Nat) (G_S : zz_G S) (H_S : zz_Hc S) (R_S : zz_Hr S) (O_S : 1 ≤ S 1079 36) (T0_S : S 1070 1 = S 1079 28) (T1_S : S 1031 6 = S 1079 1) (hn : zz_end ≤ n) (hx : 0 ≤ x4 ∧ x4 ≤ 3590) (hkk : (k : Int) ≤ 200 + x4) (hjj : (j : Int) ≤ 30000 + 6 * x4) (hR : (3600 - x4).toNat < N + 1) (hc1 : x4 ≤ zz_ln g - 7) : zz_E g l zy_law_L room_1 (fun u => ∃ M1 n1, u = (.inl (some (zi 1)), M1, n1)) S n 534 [some (.ref 998), some (.ref 1000), some (.ref 1079), some (.ref 1121), some (zi x4)] [] k j := by
  have hln : 0 ≤ zz_ln g ∧ zz_ln g ≤ 3584 := ⟨Int.natCast_nonneg _, Int.ofNat_le.mpr hlen⟩
  have hk : k ≤ 601024 := by omega
  have hj : j ≤ 7293034 := by omega
  refine zz_aload_n (x := 1000) rfl zd_L_law_534 ?_
  refine zz_aload_n (x := 998) rfl zd_L_law_535 ?_
  refine zz_iload (x := x4) rfl zd_L_law_536 ?_
  refine zz_iconst zd_L_law_538 ?_
  refine zz_iadd zd_L_law_539 ?_
  refine zz_sld (by omega) zd_L_law_540 (by omega) ?_
  have g238 := zz_sc_r g (x4 + 1).toNat
  refine zz_aload_n (x := 1121) rfl zd_L_law_541 ?_
  refine zz_callHW (rz := zr_put_L) [.ref 1000, zi (zz_sc g (x4 + 1).toNat), .ref 1121] zd_L_law_542 zhl_put_L rfl rfl ⟨Nat.le_of_ble_eq_true rfl, Nat.le_of_ble_eq_true rfl⟩ (by show k + 1 ≤ 601024; omega) (by show j + 6 ≤ 7293034; omega) (zc_put_L (zz_sc g (x4 + 1).toNat) S (n) hn hfl G_S (by omega)) (fun v240 S239 d241 hd241 hP => ?_)
  obtain ⟨G_S239, fS239, rv240, o242⟩ := hP
  have hn243 : zz_end ≤ n + d241 := by omega
  have hk244 : (k + zr_put_L.cells) ≤ 601024 := by show k + 1 ≤ 601024; omega
  have hj245 : (j + zr_put_L.slots) ≤ 7293034 := by show j + 6 ≤ 7293034; omega
  have H_S239 : zz_Hc S239 := zz_Hc.fr (q := 0) fS239 rfl rfl G_S (by decide) rfl (fun b q h => h.elim) H_S
  have R_S239 : zz_Hr S239 := zz_Hr.fr fS239 rfl rfl (fun b q h => h.elim) R_S
  have O_S239 : 1 ≤ S239 1079 36 := by rw [show S239 1079 36 = S 1079 36 from zz_rc fS239 rfl rfl (fun h => h) rfl]; exact O_S
  refine zz_istore [some (.ref 998), some (.ref 1000), some (.ref 1079), some (.ref 1121), some (zi x4), some (zi v240)] zd_L_law_545 (by decide) rfl ?_
  refine zz_aload_n (x := 1079) rfl zd_L_law_547 ?_
  refine zz_aload_n (x := 998) rfl zd_L_law_548 ?_
  refine zz_iload (x := x4) rfl zd_L_law_549 ?_
  refine zz_iconst zd_L_law_551 ?_
  refine zz_iadd zd_L_law_552 ?_
  refine zz_sld (by omega) zd_L_law_553 (by omega) ?_
  have g246 := zz_G.r G_S 1079 28 0 1500 rfl rfl
  have e247 : S239 1079 28 = S 1079 28 := (zz_rc fS239 rfl rfl (fun h => h) rfl)
  refine zz_callVI [zi (zz_sc g (x4 + 1).toNat)] zd_L_law_554 zk_TFLaw_140 zT_1079 (zz_ltn hn243 rfl) rfl rfl ⟨Nat.le_of_ble_eq_true rfl, Nat.le_of_ble_eq_true rfl⟩ ⟨rfl, rfl⟩ hk244 hj245 (zc_put_14_47 (zz_sc g (x4 + 1).toNat) S239 (n + d241) hn243 G_S239 (by omega)) (fun v249 S248 hP => ?_)
  obtain ⟨G_S248, fS248, o250, o251⟩ := hP
  have H_S248 : zz_Hc S248 := zz_Hc.fr (q := 0) fS248 rfl rfl G_S239 (by decide) rfl (fun b q h => h.elim) H_S239
  have R_S248 : zz_Hr S248 := zz_Hr.fr fS248 rfl rfl (fun b q h => h.elim) R_S239
  have O_S248 : 1 ≤ S248 1079 36 := by rw [show S248 1079 36 = S239 1079 36 from zz_rc fS248 rfl rfl (fun h => h) rfl]; exact O_S239
  refine zz_istore [some (.ref 998), some (.ref 1000), some (.ref 1079), some (.ref 1121), some (zi x4), some (zi v240), some (zi v249)] zd_L_law_557 (by decide) rfl ?_
  refine zz_aload_n (x := 1079) rfl zd_L_law_559 ?_
  have g252 := zz_G.r G_S248 1079 0 0 3 rfl rfl
  refine zz_callVI [] zd_L_law_560 zk_TFLaw_141 zT_1079 (zz_ltn hn243 rfl) rfl rfl ⟨Nat.le_of_ble_eq_true rfl, Nat.le_of_ble_eq_true rfl⟩ ⟨rfl, rfl⟩ hk244 hj245 (zc_thrown_14_2  S248 (n + d241) hn243 G_S248 ) (fun v254 S253 hP => ?_)
  obtain ⟨rfl, o255, o256⟩ := hP
  refine zz_iload (x := v240) rfl zd_L_law_563 ?_
  refine zz_icmp_eq (by omega) (by omega) zd_L_law_565 (fun c257 => ?_) (fun c257 => ?_)
  · refine zz_iload (x := v240) rfl zd_L_law_570 ?_
    refine zz_if_ne (by omega) zd_L_law_572 (fun c258 => ?_) (fun c258 => ?_)
    · refine zz_goto zd_L_law_587 ?_
      refine zz_iinc [some (.ref 998), some (.ref 1000), some (.ref 1079), some (.ref 1121), some (zi (x4 + 7)), some (zi v240), some (zi v249)] zd_L_law_1208 rfl rfl ?_
      refine zz_goto zd_L_law_1211 ?_
      refine zz_less (ls1 := [some (.ref 998), some (.ref 1000), some (.ref 1079), some (.ref 1121), some (zi (x4 + 7))]) ⟨rfl, ⟨rfl, ⟨rfl, ⟨rfl, ⟨rfl, trivial⟩⟩⟩⟩⟩ ?_
      have g259 := zz_G.r G_S239 1070 1 0 1500 rfl rfl
      have e260 : S248 1070 1 = S239 1070 1 := (zz_rc fS248 rfl rfl (fun h => h) rfl)
      have g261 := zz_G.r G_S248 1079 28 0 1500 rfl rfl
      have g262 := zz_G.r G_S 1031 6 2 8 rfl rfl
      have e263 : S248 1031 6 = S 1031 6 := (zz_rc fS248 rfl rfl (fun h => h) (zz_rc fS239 rfl rfl (fun h => h) rfl))
      have g264 := zz_G.r G_S 1079 1 2 8 rfl rfl
      have e265 : S248 1079 1 = S 1079 1 := (zz_rc fS248 rfl rfl (fun h => h) (zz_rc fS239 rfl rfl (fun h => h) rfl))
      exact ih (x4 + 7) S248 (n + d241) (k + zr_put_L.cells) (j + zr_put_L.slots) G_S248 H_S248 R_S248 O_S248 (by omega) (by omega) hn243 (by omega) (by show ((k + 1 : Nat) : Int) ≤ 200 + (x4 + 7); omega) (by show ((j + 6 : Nat) : Int) ≤ 30000 + 6 * (x4 + 7); omega) (by omega)
    · refine zz_aload_n (x := 1121) rfl zd_L_law_575 ?_
      refine zz_iconst zd_L_law_576 ?_
      have g266 := zz_G.r G_S239 1121 0 (-9223372036854775808) 9223372036854775807 rfl rfl
      refine zz_lald (z := S239 1121 0) zd_L_law_577 zT_1121 rfl (zz_ltn hn243 rfl) (by decide) (by decide) (zz_rc fS248 rfl rfl (fun h => h) rfl) ?_
      refine zz_iload (x := v249) rfl zd_L_law_578 ?_
      refine zz_i2l (by omega) zd_L_law_580 ?_
      refine zz_lcmp (by omega) (by omega) zd_L_law_581 (fun v267 hv267 => ?_)
      refine zz_if_eq (by omega) zd_L_law_582 (fun c268 => ?_) (fun c268 => ?_)
      · refine zz_goto zd_L_law_587 ?_
        refine zz_iinc [some (.ref 998), some (.ref 1000), some (.ref 1079), some (.ref 1121), some (zi (x4 + 7)), some (zi v240), some (zi v249)] zd_L_law_1208 rfl rfl ?_
        refine zz_goto zd_L_law_1211 ?_
        refine zz_less (ls1 := [some (.ref 998), some (.ref 1000), some (.ref 1079), some (.ref 1121), some (zi (x4 + 7))]) ⟨rfl, ⟨rfl, ⟨rfl, ⟨rfl, ⟨rfl, trivial⟩⟩⟩⟩⟩ ?_
        have g269 := zz_G.r G_S239 1070 1 0 1500 rfl rfl
        have e270 : S248 1070 1 = S239 1070 1 := (zz_rc fS248 rfl rfl (fun h => h) rfl)
        have g271 := zz_G.r G_S248 1079 28 0 1500 rfl rfl
        have g272 := zz_G.r G_S 1031 6 2 8 rfl rfl
        have e273 : S248 1031 6 = S 1031 6 := (zz_rc fS248 rfl rfl (fun h => h) (zz_rc fS239 rfl rfl (fun h => h) rfl))
        have g274 := zz_G.r G_S 1079 1 2 8 rfl rfl
        have e275 : S248 1079 1 = S 1079 1 := (zz_rc fS248 rfl rfl (fun h => h) (zz_rc fS239 rfl rfl (fun h => h) rfl))
        exact ih (x4 + 7) S248 (n + d241) (k + zr_put_L.cells) (j + zr_put_L.slots) G_S248 H_S248 R_S248 O_S248 (by omega) (by omega) hn243 (by omega) (by show ((k + 1 : Nat) : Int) ≤ 200 + (x4 + 7); omega) (by show ((j + 6 : Nat) : Int) ≤ 30000 + 6 * (x4 + 7); omega) (by omega)
      · exfalso; omega
  · exfalso; omega
theorem zl_10 {g : mm_G} {l : Launch} (hfl : l.flags = flags0) (hlen : g.2.2.2 997 ≤ 3584) (N : Nat) (ih : ∀ (x4 : Int) (S : zz_S) (n k j : Nat), zz_G S → zz_Hc S → zz_Hr S → 1 ≤ S 1079 36 → S 1070 1 = S 1079 28 → S 1031 6 = S 1079 1 → zz_end ≤ n → (0 ≤ x4 ∧ x4 ≤ 3590) → (k : Int) ≤ 200 + x4 → (j : Int) ≤ 30000 + 6 * x4 → (3600 - x4).toNat < N → zz_E g l zy_law_L room_1 (fun u => ∃ M1 n1, u = (.inl (some (zi 1)), M1, n1)) S n 23 [some (.ref 998), some (.ref 1000), some (.ref 1079), some (.ref 1121), some (zi x4)] [] k j) (x4 : Int) (S : zz_S) (n k j : Nat) (G_S : zz_G S) (H_S : zz_Hc S) (R_S : zz_Hr S) (O_S : 1 ≤ S 1079 36) (T0_S : S 1070 1 = S 1079 28) (T1_S : S 1031 6 = S 1079 1) (hn : zz_end ≤ n) (hx : 0 ≤ x4 ∧ x4 ≤ 3590) (hkk : (k : Int) ≤ 200 + x4) (hjj : (j : Int) ≤ 30000 + 6 * x4) (hR : (3600 - x4).toNat < N + 1) (hc1 : x4 ≤ zz_ln g - 7) : zz_E g l zy_law_L room_1 (fun u => ∃ M1 n1, u = (.inl (some (zi 1)), M1, n1)) S n 590 [some (.ref 998), some (.ref 1000), some (.ref 1079), some (.ref 1121), some (zi x4)] [] k j := by
  have hln : 0 ≤ zz_ln g ∧ zz_ln g ≤ 3584 := ⟨Int.natCast_nonneg _, Int.ofNat_le.mpr hlen⟩
  have hk : k ≤ 601024 := by omega
  have hj : j ≤ 7293034 := by omega
  refine zz_aload_n (x := 1000) rfl zd_L_law_590 ?_
  refine zz_aload_n (x := 998) rfl zd_L_law_591 ?_
  refine zz_iload (x := x4) rfl zd_L_law_592 ?_
  refine zz_iconst zd_L_law_594 ?_
  refine zz_iadd zd_L_law_595 ?_
  refine zz_sld (by omega) zd_L_law_596 (by omega) ?_
  have g277 := zz_sc_r g (x4 + 1).toNat
  refine zz_callHW (rz := zr_end_L) [.ref 1000, zi (zz_sc g (x4 + 1).toNat)] zd_L_law_597 zhl_end_L rfl rfl ⟨Nat.le_of_ble_eq_true rfl, Nat.le_of_ble_eq_true rfl⟩ (by show k + 1 ≤ 601024; omega) (by show j + 6 ≤ 7293034; omega) (zc_end_L (zz_sc g (x4 + 1).toNat) S (n) hn hfl G_S (by omega)) (fun v279 S278 d280 hd280 hP => ?_)
  obtain ⟨G_S278, fS278, rv279, o281⟩ := hP
  have hn282 : zz_end ≤ n + d280 := by omega
  have hk283 : (k + zr_end_L.cells) ≤ 601024 := by show k + 1 ≤ 601024; omega
  have hj284 : (j + zr_end_L.slots) ≤ 7293034 := by show j + 6 ≤ 7293034; omega
  have H_S278 : zz_Hc S278 := zz_Hc.fr (q := 0) fS278 rfl rfl G_S (by decide) rfl (fun b q h => h.elim) H_S
  have R_S278 : zz_Hr S278 := zz_Hr.fr fS278 rfl rfl (fun b q h => h.elim) R_S
  have O_S278 : 1 ≤ S278 1079 36 := by rw [show S278 1079 36 = S 1079 36 from zz_rc fS278 rfl rfl (fun h => h) rfl]; exact O_S
  refine zz_istore [some (.ref 998), some (.ref 1000), some (.ref 1079), some (.ref 1121), some (zi x4), some (zi v279)] zd_L_law_600 (by decide) rfl ?_
  refine zz_aload_n (x := 1079) rfl zd_L_law_602 ?_
  refine zz_aload_n (x := 998) rfl zd_L_law_603 ?_
  refine zz_iload (x := x4) rfl zd_L_law_604 ?_
  refine zz_iconst zd_L_law_606 ?_
  refine zz_iadd zd_L_law_607 ?_
  refine zz_sld (by omega) zd_L_law_608 (by omega) ?_
  have g285 := zz_G.r G_S 1079 28 0 1500 rfl rfl
  have e286 : S278 1079 28 = S 1079 28 := (zz_rc fS278 rfl rfl (fun h => h) rfl)
  refine zz_callVV [zi (zz_sc g (x4 + 1).toNat)] zd_L_law_609 zk_TFLaw_146 zT_1079 (zz_ltn hn282 rfl) rfl rfl ⟨Nat.le_of_ble_eq_true rfl, Nat.le_of_ble_eq_true rfl⟩ ⟨rfl, rfl⟩ hk283 hj284 (zc_end_14_48 (zz_sc g (x4 + 1).toNat) S278 (n + d280) hn282 G_S278 (by omega)) (fun S287 hP => ?_)
  obtain ⟨G_S287, fS287, o289⟩ := hP
  have H_S287 : zz_Hc S287 := zz_Hc.fr (q := 0) fS287 rfl rfl G_S278 (by decide) rfl (fun b q h => h.elim) H_S278
  have R_S287 : zz_Hr S287 := zz_Hr.fr fS287 rfl rfl (fun b q h => h.elim) R_S278
  have O_S287 : 1 ≤ S287 1079 36 := by rw [show S287 1079 36 = S278 1079 36 from zz_rc fS287 rfl rfl (fun h => h) rfl]; exact O_S278
  refine zz_goto zd_L_law_612 ?_
  refine zz_iinc [some (.ref 998), some (.ref 1000), some (.ref 1079), some (.ref 1121), some (zi (x4 + 7)), some (zi v279)] zd_L_law_1208 rfl rfl ?_
  refine zz_goto zd_L_law_1211 ?_
  refine zz_less (ls1 := [some (.ref 998), some (.ref 1000), some (.ref 1079), some (.ref 1121), some (zi (x4 + 7))]) ⟨rfl, ⟨rfl, ⟨rfl, ⟨rfl, ⟨rfl, trivial⟩⟩⟩⟩⟩ ?_
  have g290 := zz_G.r G_S278 1070 1 0 1500 rfl rfl
  have e291 : S287 1070 1 = S278 1070 1 := (zz_rc fS287 rfl rfl (fun h => h) rfl)
  have g292 := zz_G.r G_S287 1079 28 0 1500 rfl rfl
  have g293 := zz_G.r G_S 1031 6 2 8 rfl rfl
  have e294 : S287 1031 6 = S 1031 6 := (zz_rc fS287 rfl rfl (fun h => h) (zz_rc fS278 rfl rfl (fun h => h) rfl))
  have g295 := zz_G.r G_S 1079 1 2 8 rfl rfl
  have e296 : S287 1079 1 = S 1079 1 := (zz_rc fS287 rfl rfl (fun h => h) (zz_rc fS278 rfl rfl (fun h => h) rfl))
  exact ih (x4 + 7) S287 (n + d280) (k + zr_end_L.cells) (j + zr_end_L.slots) G_S287 H_S287 R_S287 O_S287 (by omega) (by omega) hn282 (by omega) (by show ((k + 1 : Nat) : Int) ≤ 200 + (x4 + 7); omega) (by show ((j + 6 : Nat) : Int) ≤ 30000 + 6 * (x4 + 7); omega) (by omega)
theorem zl_11 {g : mm_G} {l : Launch} (hfl : l.flags = flags0) (hlen : g.2.2.2 997 ≤ 3584) (N : Nat) (ih : ∀ (x4 : Int) (S : zz_S) (n k j : Nat), zz_G S → zz_Hc S → zz_Hr S → 1 ≤ S 1079 36 → S 1070 1 = S 1079 28 → S 1031 6 = S 1079 1 → zz_end ≤ n → (0 ≤ x4 ∧ x4 ≤ 3590) → (k : Int) ≤ 200 + x4 → (j : Int) ≤ 30000 + 6 * x4 → (3600 - x4).toNat < N → zz_E g l zy_law_L room_1 (fun u => ∃ M1 n1, u = (.inl (some (zi 1)), M1, n1)) S n 23 [some (.ref 998), some (.ref 1000), some (.ref 1079), some (.ref 1121), some (zi x4)] [] k j) (x4 : Int) (S : zz_S) (n k j : Nat) (G_S : zz_G S) (H_S : zz_Hc S) (R_S : zz_Hr S) (O_S : 1 ≤ S 1079 36) (T0_S : S 1070 1 = S 1079 28) (T1_S : S 1031 6 = S 1079 1) (hn : zz_end ≤ n) (hx : 0 ≤ x4 ∧ x4 ≤ 3590) (hkk : (k : Int) ≤ 200 + x4) (hjj : (j : Int) ≤ 30000 + 6 * x4) (hR : (3600 - x4).toNat < N + 1) (hc1 : x4 ≤ zz_ln g - 7) : zz_E g l zy_law_L room_1 (fun u => ∃ M1 n1, u = (.inl (some (zi 1)), M1, n1)) S n 615 [some (.ref 998), some (.ref 1000), some (.ref 1079), some (.ref 1121), some (zi x4)] [] k j := by
  have hln : 0 ≤ zz_ln g ∧ zz_ln g ≤ 3584 := ⟨Int.natCast_nonneg _, Int.ofNat_le.mpr hlen⟩
  have hk : k ≤ 601024 := by omega
  have hj : j ≤ 7293034 := by omega
  refine zz_aload_n (x := 1000) rfl zd_L_law_615 ?_
  refine zz_callVI [] zd_L_law_616 zk_TFLaw_147 zT_1000 (zz_ltn hn rfl) rfl rfl ⟨Nat.le_of_ble_eq_true rfl, Nat.le_of_ble_eq_true rfl⟩ ⟨rfl, rfl⟩ hk hj (zc_assemble_1_13  S (n) hn G_S ) (fun v299 S298 hP => ?_)
  obtain ⟨G_S298, fS298, o300⟩ := hP
  have g301 := zz_G.r G_S 1000 10 0 1 rfl rfl
  have b302 := zz_rf4 (z := (S 1000 10)) (by omega)
  have H_S298 : zz_Hc S298 := zz_Hc.fr (q := 0) fS298 rfl rfl G_S (by decide) rfl (fun b q h => by have h0_ := zz_rf4 (z := (S 1000 10)) (by omega); omega) H_S
  have R_S298 : zz_Hr S298 := zz_Hr.fr fS298 rfl rfl (fun b q h => by have h0_ := zz_rf4 (z := (S 1000 10)) (by omega); omega) R_S
  have O_S298 : 1 ≤ S298 1079 36 := by rw [show S298 1079 36 = S 1079 36 from zz_rc fS298 rfl rfl (by have h0_ := zz_rf4 (z := (S 1000 10)) (by omega); omega) rfl]; exact O_S
  refine zz_pop rfl zd_L_law_619 ?_
  refine zz_aload_n (x := 1079) rfl zd_L_law_620 ?_
  refine zz_callVI [] zd_L_law_621 zk_TFLaw_150 zT_1079 (zz_ltn hn rfl) rfl rfl ⟨Nat.le_of_ble_eq_true rfl, Nat.le_of_ble_eq_true rfl⟩ ⟨rfl, rfl⟩ hk hj (zc_assemble_14_55  S298 (n) hn G_S298 ) (fun v304 S303 hP => ?_)
  obtain ⟨G_S303, fS303, o305⟩ := hP
  have H_S303 : zz_Hc S303 := zz_Hc.fr (q := 0) fS303 rfl rfl G_S298 (by decide) rfl (fun b q h => h.elim) H_S298
  have R_S303 : zz_Hr S303 := zz_Hr.fr fS303 rfl rfl (fun b q h => h.elim) R_S298
  have O_S303 : 1 ≤ S303 1079 36 := by rw [show S303 1079 36 = S298 1079 36 from zz_rc fS303 rfl rfl (fun h => h) rfl]; exact O_S298
  refine zz_pop rfl zd_L_law_624 ?_
  refine zz_goto zd_L_law_625 ?_
  refine zz_iinc [some (.ref 998), some (.ref 1000), some (.ref 1079), some (.ref 1121), some (zi (x4 + 7))] zd_L_law_1208 rfl rfl ?_
  refine zz_goto zd_L_law_1211 ?_
  refine zz_less (ls1 := [some (.ref 998), some (.ref 1000), some (.ref 1079), some (.ref 1121), some (zi (x4 + 7))]) ⟨rfl, ⟨rfl, ⟨rfl, ⟨rfl, ⟨rfl, trivial⟩⟩⟩⟩⟩ ?_
  have g306 := zz_G.r G_S 1070 1 0 1500 rfl rfl
  have e307 : S303 1070 1 = S 1070 1 := (zz_rc fS303 rfl rfl (fun h => h) (zz_rc fS298 rfl rfl (by omega) rfl))
  have g308 := zz_G.r G_S 1079 28 0 1500 rfl rfl
  have e309 : S303 1079 28 = S 1079 28 := (zz_rc fS303 rfl rfl (fun h => h) (zz_rc fS298 rfl rfl (by omega) rfl))
  have g310 := zz_G.r G_S 1031 6 2 8 rfl rfl
  have e311 : S303 1031 6 = S 1031 6 := (zz_rc fS303 rfl rfl (fun h => h) (zz_rc fS298 rfl rfl (by omega) rfl))
  have g312 := zz_G.r G_S 1079 1 2 8 rfl rfl
  have e313 : S303 1079 1 = S 1079 1 := (zz_rc fS303 rfl rfl (fun h => h) (zz_rc fS298 rfl rfl (by omega) rfl))
  exact ih (x4 + 7) S303 (n) k j G_S303 H_S303 R_S303 O_S303 (by omega) (by omega) hn (by omega) (by show ((k : Nat) : Int) ≤ 200 + (x4 + 7); omega) (by show ((j : Nat) : Int) ≤ 30000 + 6 * (x4 + 7); omega) (by omega)
theorem zl_12 {g : mm_G} {l : Launch} (hfl : l.flags = flags0) (hlen : g.2.2.2 997 ≤ 3584) (N : Nat) (ih : ∀ (x4 : Int) (S : zz_S) (n k j : Nat), zz_G S → zz_Hc S → zz_Hr S → 1 ≤ S 1079 36 → S 1070 1 = S 1079 28 → S 1031 6 = S 1079 1 → zz_end ≤ n → (0 ≤ x4 ∧ x4 ≤ 3590) → (k : Int) ≤ 200 + x4 → (j : Int) ≤ 30000 + 6 * x4 → (3600 - x4).toNat < N → zz_E g l zy_law_L room_1 (fun u => ∃ M1 n1, u = (.inl (some (zi 1)), M1, n1)) S n 23 [some (.ref 998), some (.ref 1000), some (.ref 1079), some (.ref 1121), some (zi x4)] [] k j) (x4 : Int) (S : zz_S) (n k j : Nat) (G_S : zz_G S) (H_S : zz_Hc S) (R_S : zz_Hr S) (O_S : 1 ≤ S 1079 36) (T0_S : S 1070 1 = S 1079 28) (T1_S : S 1031 6 = S 1079 1) (hn : zz_end ≤ n) (hx : 0 ≤ x4 ∧ x4 ≤ 3590) (hkk : (k : Int) ≤ 200 + x4) (hjj : (j : Int) ≤ 30000 + 6 * x4) (hR : (3600 - x4).toNat < N + 1) (hc1 : x4 ≤ zz_ln g - 7) : zz_E g l zy_law_L room_1 (fun u => ∃ M1 n1, u = (.inl (some (zi 1)), M1, n1)) S n 628 [some (.ref 998), some (.ref 1000), some (.ref 1079), some (.ref 1121), some (zi x4)] [] k j := by
  have hln : 0 ≤ zz_ln g ∧ zz_ln g ≤ 3584 := ⟨Int.natCast_nonneg _, Int.ofNat_le.mpr hlen⟩
  have hk : k ≤ 601024 := by omega
  have hj : j ≤ 7293034 := by omega
  refine zz_aload_n (x := 1000) rfl zd_L_law_628 ?_
  refine zz_aload_n (x := 998) rfl zd_L_law_629 ?_
  refine zz_iload (x := x4) rfl zd_L_law_630 ?_
  refine zz_iconst zd_L_law_632 ?_
  refine zz_iadd zd_L_law_633 ?_
  refine zz_sld (by omega) zd_L_law_634 (by omega) ?_
  have g315 := zz_sc_r g (x4 + 1).toNat
  refine zz_aload_n (x := 998) rfl zd_L_law_635 ?_
  refine zz_iload (x := x4) rfl zd_L_law_636 ?_
  refine zz_iconst zd_L_law_638 ?_
  refine zz_iadd zd_L_law_639 ?_
  refine zz_sld (by omega) zd_L_law_640 (by omega) ?_
  have g316 := zz_sc_r g (x4 + 2).toNat
  refine zz_aload_n (x := 1121) rfl zd_L_law_641 ?_
  refine zz_callHW (rz := zr_listing_L) [.ref 1000, zi (zz_sc g (x4 + 1).toNat), zi (zz_sc g (x4 + 2).toNat), .ref 1121] zd_L_law_642 zhl_listing_L rfl rfl ⟨Nat.le_of_ble_eq_true rfl, Nat.le_of_ble_eq_true rfl⟩ (by show k + 1 ≤ 601024; omega) (by show j + 6 ≤ 7293034; omega) (zc_listing_L (zz_sc g (x4 + 1).toNat) (zz_sc g (x4 + 2).toNat) S (n) hn hfl G_S (by omega) (by omega)) (fun v318 S317 d319 hd319 hP => ?_)
  obtain ⟨G_S317, fS317, rv318⟩ := hP
  have hn320 : zz_end ≤ n + d319 := by omega
  have hk321 : (k + zr_listing_L.cells) ≤ 601024 := by show k + 1 ≤ 601024; omega
  have hj322 : (j + zr_listing_L.slots) ≤ 7293034 := by show j + 6 ≤ 7293034; omega
  have H_S317 : zz_Hc S317 := zz_Hc.fr (q := 0) fS317 rfl rfl G_S (by decide) rfl (fun b q h => h.elim) H_S
  have R_S317 : zz_Hr S317 := zz_Hr.fr fS317 rfl rfl (fun b q h => h.elim) R_S
  have O_S317 : 1 ≤ S317 1079 36 := by rw [show S317 1079 36 = S 1079 36 from zz_rc fS317 rfl rfl (fun h => h) rfl]; exact O_S
  refine zz_istore [some (.ref 998), some (.ref 1000), some (.ref 1079), some (.ref 1121), some (zi x4), some (zi v318)] zd_L_law_645 (by decide) rfl ?_
  refine zz_aload_n (x := 1079) rfl zd_L_law_647 ?_
  refine zz_aload_n (x := 998) rfl zd_L_law_648 ?_
  refine zz_iload (x := x4) rfl zd_L_law_649 ?_
  refine zz_iconst zd_L_law_651 ?_
  refine zz_iadd zd_L_law_652 ?_
  refine zz_sld (by omega) zd_L_law_653 (by omega) ?_
  refine zz_aload_n (x := 998) rfl zd_L_law_654 ?_
  refine zz_iload (x := x4) rfl zd_L_law_655 ?_
  refine zz_iconst zd_L_law_657 ?_
  refine zz_iadd zd_L_law_658 ?_
  refine zz_sld (by omega) zd_L_law_659 (by omega) ?_
  refine zz_callVI [zi (zz_sc g (x4 + 1).toNat), zi (zz_sc g (x4 + 2).toNat)] zd_L_law_660 zk_TFLaw_153 zT_1079 (zz_ltn hn320 rfl) rfl rfl ⟨Nat.le_of_ble_eq_true rfl, Nat.le_of_ble_eq_true rfl⟩ ⟨rfl, rfl⟩ hk321 hj322 (zc_listing_14_62 (zz_sc g (x4 + 1).toNat) (zz_sc g (x4 + 2).toNat) S317 (n + d319) hn320 G_S317 (by omega) (by omega)) (fun v324 S323 hP => ?_)
  obtain ⟨G_S323, fS323, o325⟩ := hP
  have H_S323 : zz_Hc S323 := zz_Hc.fr (q := 0) fS323 rfl rfl G_S317 (by decide) rfl (fun b q h => h.elim) H_S317
  have R_S323 : zz_Hr S323 := zz_Hr.fr fS323 rfl rfl (fun b q h => h.elim) R_S317
  have O_S323 : 1 ≤ S323 1079 36 := by rw [show S323 1079 36 = S317 1079 36 from zz_rc fS323 rfl rfl (fun h => h) rfl]; exact O_S317
  refine zz_istore [some (.ref 998), some (.ref 1000), some (.ref 1079), some (.ref 1121), some (zi x4), some (zi v318), some (zi v324)] zd_L_law_663 (by decide) rfl ?_
  refine zz_goto zd_L_law_665 ?_
  refine zz_iinc [some (.ref 998), some (.ref 1000), some (.ref 1079), some (.ref 1121), some (zi (x4 + 7)), some (zi v318), some (zi v324)] zd_L_law_1208 rfl rfl ?_
  refine zz_goto zd_L_law_1211 ?_
  refine zz_less (ls1 := [some (.ref 998), some (.ref 1000), some (.ref 1079), some (.ref 1121), some (zi (x4 + 7))]) ⟨rfl, ⟨rfl, ⟨rfl, ⟨rfl, ⟨rfl, trivial⟩⟩⟩⟩⟩ ?_
  have g326 := zz_G.r G_S 1070 1 0 1500 rfl rfl
  have e327 : S323 1070 1 = S 1070 1 := (zz_rc fS323 rfl rfl (fun h => h) (zz_rc fS317 rfl rfl (fun h => h) rfl))
  have g328 := zz_G.r G_S 1079 28 0 1500 rfl rfl
  have e329 : S323 1079 28 = S 1079 28 := (zz_rc fS323 rfl rfl (fun h => h) (zz_rc fS317 rfl rfl (fun h => h) rfl))
  have g330 := zz_G.r G_S 1031 6 2 8 rfl rfl
  have e331 : S323 1031 6 = S 1031 6 := (zz_rc fS323 rfl rfl (fun h => h) (zz_rc fS317 rfl rfl (fun h => h) rfl))
  have g332 := zz_G.r G_S 1079 1 2 8 rfl rfl
  have e333 : S323 1079 1 = S 1079 1 := (zz_rc fS323 rfl rfl (fun h => h) (zz_rc fS317 rfl rfl (fun h => h) rfl))
  exact ih (x4 + 7) S323 (n + d319) (k + zr_listing_L.cells) (j + zr_listing_L.slots) G_S323 H_S323 R_S323 O_S323 (by omega) (by omega) hn320 (by omega) (by show ((k + 1 : Nat) : Int) ≤ 200 + (x4 + 7); omega) (by show ((j + 6 : Nat) : Int) ≤ 30000 + 6 * (x4 + 7); omega) (by omega)
theorem zl_13 {g : mm_G} {l : Launch} (hfl : l.flags = flags0) (hlen : g.2.2.2 997 ≤ 3584) (N : Nat) (ih : ∀ (x4 : Int) (S : zz_S) (n k j : Nat), zz_G S → zz_Hc S → zz_Hr S → 1 ≤ S 1079 36 → S 1070 1 = S 1079 28 → S 1031 6 = S 1079 1 → zz_end ≤ n → (0 ≤ x4 ∧ x4 ≤ 3590) → (k : Int) ≤ 200 + x4 → (j : Int) ≤ 30000 + 6 * x4 → (3600 - x4).toNat < N → zz_E g l zy_law_L room_1 (fun u => ∃ M1 n1, u = (.inl (some (zi 1)), M1, n1)) S n 23 [some (.ref 998), some (.ref 1000), some (.ref 1079), some (.ref 1121), some (zi x4)] [] k j) (x4 : Int) (S : zz_S) (n k j : Nat) (G_S : zz_G S) (H_S : zz_Hc S) (R_S : zz_Hr S) (O_S : 1 ≤ S 1079 36) (T0_S : S 1070 1 = S 1079 28) (T1_S : S 1031 6 = S 1079 1) (hn : zz_end ≤ n) (hx : 0 ≤ x4 ∧ x4 ≤ 3590) (hkk : (k : Int) ≤ 200 + x4) (hjj : (j : Int) ≤ 30000 + 6 * x4) (hR : (3600 - x4).toNat < N + 1) (hc1 : x4 ≤ zz_ln g - 7) : zz_E g l zy_law_L room_1 (fun u => ∃ M1 n1, u = (.inl (some (zi 1)), M1, n1)) S n 668 [some (.ref 998), some (.ref 1000), some (.ref 1079), some (.ref 1121), some (zi x4)] [] k j := by
  have hln : 0 ≤ zz_ln g ∧ zz_ln g ≤ 3584 := ⟨Int.natCast_nonneg _, Int.ofNat_le.mpr hlen⟩
  have hk : k ≤ 601024 := by omega
  have hj : j ≤ 7293034 := by omega
  refine zz_aload_n (x := 1000) rfl zd_L_law_668 ?_
  refine zz_callVI [] zd_L_law_669 zk_TFLaw_154 zT_1000 (zz_ltn hn rfl) rfl rfl ⟨Nat.le_of_ble_eq_true rfl, Nat.le_of_ble_eq_true rfl⟩ ⟨rfl, rfl⟩ hk hj (zc_run_1_15  S (n) hn G_S ) (fun v336 S335 hP => ?_)
  obtain ⟨G_S335, fS335, o337⟩ := hP
  have H_S335 : zz_Hc S335 := zz_Hc.fr (q := 0) fS335 rfl rfl G_S (by decide) rfl (fun b q h => h.elim) H_S
  have R_S335 : zz_Hr S335 := zz_Hr.fr fS335 rfl rfl (fun b q h => h.elim) R_S
  have O_S335 : 1 ≤ S335 1079 36 := by rw [show S335 1079 36 = S 1079 36 from zz_rc fS335 rfl rfl (fun h => h) rfl]; exact O_S
  refine zz_pop rfl zd_L_law_672 ?_
  refine zz_aload_n (x := 1079) rfl zd_L_law_673 ?_
  refine zz_callVI [] zd_L_law_674 zk_TFLaw_157 zT_1079 (zz_ltn hn rfl) rfl rfl ⟨Nat.le_of_ble_eq_true rfl, Nat.le_of_ble_eq_true rfl⟩ ⟨rfl, rfl⟩ hk hj (zc_run_14_44  S335 (n) hn G_S335 ) (fun v339 S338 hP => ?_)
  obtain ⟨G_S338, fS338, o340⟩ := hP
  have H_S338 : zz_Hc S338 := zz_Hc.fr (q := 0) fS338 rfl rfl G_S335 (by decide) rfl (fun b q h => h.elim) H_S335
  have R_S338 : zz_Hr S338 := zz_Hr.fr fS338 rfl rfl (fun b q h => h.elim) R_S335
  have O_S338 : 1 ≤ S338 1079 36 := by rw [show S338 1079 36 = S335 1079 36 from zz_rc fS338 rfl rfl (fun h => h) rfl]; exact O_S335
  refine zz_pop rfl zd_L_law_677 ?_
  refine zz_goto zd_L_law_678 ?_
  refine zz_iinc [some (.ref 998), some (.ref 1000), some (.ref 1079), some (.ref 1121), some (zi (x4 + 7))] zd_L_law_1208 rfl rfl ?_
  refine zz_goto zd_L_law_1211 ?_
  refine zz_less (ls1 := [some (.ref 998), some (.ref 1000), some (.ref 1079), some (.ref 1121), some (zi (x4 + 7))]) ⟨rfl, ⟨rfl, ⟨rfl, ⟨rfl, ⟨rfl, trivial⟩⟩⟩⟩⟩ ?_
  have g341 := zz_G.r G_S 1070 1 0 1500 rfl rfl
  have e342 : S338 1070 1 = S 1070 1 := (zz_rc fS338 rfl rfl (fun h => h) (zz_rc fS335 rfl rfl (fun h => h) rfl))
  have g343 := zz_G.r G_S 1079 28 0 1500 rfl rfl
  have e344 : S338 1079 28 = S 1079 28 := (zz_rc fS338 rfl rfl (fun h => h) (zz_rc fS335 rfl rfl (fun h => h) rfl))
  have g345 := zz_G.r G_S 1031 6 2 8 rfl rfl
  have e346 : S338 1031 6 = S 1031 6 := (zz_rc fS338 rfl rfl (fun h => h) (zz_rc fS335 rfl rfl (fun h => h) rfl))
  have g347 := zz_G.r G_S 1079 1 2 8 rfl rfl
  have e348 : S338 1079 1 = S 1079 1 := (zz_rc fS338 rfl rfl (fun h => h) (zz_rc fS335 rfl rfl (fun h => h) rfl))
  exact ih (x4 + 7) S338 (n) k j G_S338 H_S338 R_S338 O_S338 (by omega) (by omega) hn (by omega) (by show ((k : Nat) : Int) ≤ 200 + (x4 + 7); omega) (by show ((j : Nat) : Int) ≤ 30000 + 6 * (x4 + 7); omega) (by omega)
theorem zl_14 {g : mm_G} {l : Launch} (hfl : l.flags = flags0) (hlen : g.2.2.2 997 ≤ 3584) (N : Nat) (ih : ∀ (x4 : Int) (S : zz_S) (n k j : Nat), zz_G S → zz_Hc S → zz_Hr S → 1 ≤ S 1079 36 → S 1070 1 = S 1079 28 → S 1031 6 = S 1079 1 → zz_end ≤ n → (0 ≤ x4 ∧ x4 ≤ 3590) → (k : Int) ≤ 200 + x4 → (j : Int) ≤ 30000 + 6 * x4 → (3600 - x4).toNat < N → zz_E g l zy_law_L room_1 (fun u => ∃ M1 n1, u = (.inl (some (zi 1)), M1, n1)) S n 23 [some (.ref 998), some (.ref 1000), some (.ref 1079), some (.ref 1121), some (zi x4)] [] k j) (x4 : Int) (S : zz_S) (n k j : Nat) (G_S : zz_G S) (H_S : zz_Hc S) (R_S : zz_Hr S) (O_S : 1 ≤ S 1079 36) (T0_S : S 1070 1 = S 1079 28) (T1_S : S 1031 6 = S 1079 1) (hn : zz_end ≤ n) (hx : 0 ≤ x4 ∧ x4 ≤ 3590) (hkk : (k : Int) ≤ 200 + x4) (hjj : (j : Int) ≤ 30000 + 6 * x4) (hR : (3600 - x4).toNat < N + 1) (hc1 : x4 ≤ zz_ln g - 7) : zz_E g l zy_law_L room_1 (fun u => ∃ M1 n1, u = (.inl (some (zi 1)), M1, n1)) S n 681 [some (.ref 998), some (.ref 1000), some (.ref 1079), some (.ref 1121), some (zi x4)] [] k j := by
  have hln : 0 ≤ zz_ln g ∧ zz_ln g ≤ 3584 := ⟨Int.natCast_nonneg _, Int.ofNat_le.mpr hlen⟩
  have hk : k ≤ 601024 := by omega
  have hj : j ≤ 7293034 := by omega
  refine zz_aload_n (x := 1000) rfl zd_L_law_681 ?_
  refine zz_aload_n (x := 998) rfl zd_L_law_682 ?_
  refine zz_iload (x := x4) rfl zd_L_law_683 ?_
  refine zz_iconst zd_L_law_685 ?_
  refine zz_iadd zd_L_law_686 ?_
  refine zz_sld (by omega) zd_L_law_687 (by omega) ?_
  have g350 := zz_sc_r g (x4 + 1).toNat
  refine zz_aload_n (x := 1121) rfl zd_L_law_688 ?_
  refine zz_callHW (rz := zr_stopped_L) [.ref 1000, zi (zz_sc g (x4 + 1).toNat), .ref 1121] zd_L_law_689 zhl_stopped_L rfl rfl ⟨Nat.le_of_ble_eq_true rfl, Nat.le_of_ble_eq_true rfl⟩ (by show k + 1 ≤ 601024; omega) (by show j + 6 ≤ 7293034; omega) (zc_stopped_L (zz_sc g (x4 + 1).toNat) S (n) hn hfl G_S (by omega)) (fun v352 S351 d353 hd353 hP => ?_)
  obtain ⟨G_S351, fS351, rv352⟩ := hP
  have hn354 : zz_end ≤ n + d353 := by omega
  have hk355 : (k + zr_stopped_L.cells) ≤ 601024 := by show k + 1 ≤ 601024; omega
  have hj356 : (j + zr_stopped_L.slots) ≤ 7293034 := by show j + 6 ≤ 7293034; omega
  have H_S351 : zz_Hc S351 := zz_Hc.fr (q := 0) fS351 rfl rfl G_S (by decide) rfl (fun b q h => h.elim) H_S
  have R_S351 : zz_Hr S351 := zz_Hr.fr fS351 rfl rfl (fun b q h => h.elim) R_S
  have O_S351 : 1 ≤ S351 1079 36 := by rw [show S351 1079 36 = S 1079 36 from zz_rc fS351 rfl rfl (fun h => h) rfl]; exact O_S
  refine zz_istore [some (.ref 998), some (.ref 1000), some (.ref 1079), some (.ref 1121), some (zi x4), some (zi v352)] zd_L_law_692 (by decide) rfl ?_
  refine zz_aload_n (x := 1079) rfl zd_L_law_694 ?_
  refine zz_aload_n (x := 998) rfl zd_L_law_695 ?_
  refine zz_iload (x := x4) rfl zd_L_law_696 ?_
  refine zz_iconst zd_L_law_698 ?_
  refine zz_iadd zd_L_law_699 ?_
  refine zz_sld (by omega) zd_L_law_700 (by omega) ?_
  refine zz_callVI [zi (zz_sc g (x4 + 1).toNat)] zd_L_law_701 zk_TFLaw_160 zT_1079 (zz_ltn hn354 rfl) rfl rfl ⟨Nat.le_of_ble_eq_true rfl, Nat.le_of_ble_eq_true rfl⟩ ⟨rfl, rfl⟩ hk355 hj356 (zc_stopped_14_45 (zz_sc g (x4 + 1).toNat) S351 (n + d353) hn354 G_S351 (by omega)) (fun v358 S357 hP => ?_)
  obtain ⟨G_S357, fS357, o359⟩ := hP
  have H_S357 : zz_Hc S357 := zz_Hc.fr (q := 0) fS357 rfl rfl G_S351 (by decide) rfl (fun b q h => h.elim) H_S351
  have R_S357 : zz_Hr S357 := zz_Hr.fr fS357 rfl rfl (fun b q h => h.elim) R_S351
  have O_S357 : 1 ≤ S357 1079 36 := by rw [show S357 1079 36 = S351 1079 36 from zz_rc fS357 rfl rfl (fun h => h) rfl]; exact O_S351
  refine zz_istore [some (.ref 998), some (.ref 1000), some (.ref 1079), some (.ref 1121), some (zi x4), some (zi v352), some (zi v358)] zd_L_law_704 (by decide) rfl ?_
  refine zz_goto zd_L_law_706 ?_
  refine zz_iinc [some (.ref 998), some (.ref 1000), some (.ref 1079), some (.ref 1121), some (zi (x4 + 7)), some (zi v352), some (zi v358)] zd_L_law_1208 rfl rfl ?_
  refine zz_goto zd_L_law_1211 ?_
  refine zz_less (ls1 := [some (.ref 998), some (.ref 1000), some (.ref 1079), some (.ref 1121), some (zi (x4 + 7))]) ⟨rfl, ⟨rfl, ⟨rfl, ⟨rfl, ⟨rfl, trivial⟩⟩⟩⟩⟩ ?_
  have g360 := zz_G.r G_S 1070 1 0 1500 rfl rfl
  have e361 : S357 1070 1 = S 1070 1 := (zz_rc fS357 rfl rfl (fun h => h) (zz_rc fS351 rfl rfl (fun h => h) rfl))
  have g362 := zz_G.r G_S 1079 28 0 1500 rfl rfl
  have e363 : S357 1079 28 = S 1079 28 := (zz_rc fS357 rfl rfl (fun h => h) (zz_rc fS351 rfl rfl (fun h => h) rfl))
  have g364 := zz_G.r G_S 1031 6 2 8 rfl rfl
  have e365 : S357 1031 6 = S 1031 6 := (zz_rc fS357 rfl rfl (fun h => h) (zz_rc fS351 rfl rfl (fun h => h) rfl))
  have g366 := zz_G.r G_S 1079 1 2 8 rfl rfl
  have e367 : S357 1079 1 = S 1079 1 := (zz_rc fS357 rfl rfl (fun h => h) (zz_rc fS351 rfl rfl (fun h => h) rfl))
  exact ih (x4 + 7) S357 (n + d353) (k + zr_stopped_L.cells) (j + zr_stopped_L.slots) G_S357 H_S357 R_S357 O_S357 (by omega) (by omega) hn354 (by omega) (by show ((k + 1 : Nat) : Int) ≤ 200 + (x4 + 7); omega) (by show ((j + 6 : Nat) : Int) ≤ 30000 + 6 * (x4 + 7); omega) (by omega)
theorem zl_15 {g : mm_G} {l : Launch} (hfl : l.flags = flags0) (hlen : g.2.2.2 997 ≤ 3584) (N : Nat) (ih : ∀ (x4 : Int) (S : zz_S) (n k j : Nat), zz_G S → zz_Hc S → zz_Hr S → 1 ≤ S 1079 36 → S 1070 1 = S 1079 28 → S 1031 6 = S 1079 1 → zz_end ≤ n → (0 ≤ x4 ∧ x4 ≤ 3590) → (k : Int) ≤ 200 + x4 → (j : Int) ≤ 30000 + 6 * x4 → (3600 - x4).toNat < N → zz_E g l zy_law_L room_1 (fun u => ∃ M1 n1, u = (.inl (some (zi 1)), M1, n1)) S n 23 [some (.ref 998), some (.ref 1000), some (.ref 1079), some (.ref 1121), some (zi x4)] [] k j) (x4 : Int) (S : zz_S) (n k j : Nat) (G_S : zz_G S) (H_S : zz_Hc S) (R_S : zz_Hr S) (O_S : 1 ≤ S 1079 36) (T0_S : S 1070 1 = S 1079 28) (T1_S : S 1031 6 = S 1079 1) (hn : zz_end ≤ n) (hx : 0 ≤ x4 ∧ x4 ≤ 3590) (hkk : (k : Int) ≤ 200 + x4) (hjj : (j : Int) ≤ 30000 + 6 * x4) (hR : (3600 - x4).toNat < N + 1) (hc1 : x4 ≤ zz_ln g - 7) : zz_E g l zy_law_L room_1 (fun u => ∃ M1 n1, u = (.inl (some (zi 1)), M1, n1)) S n 709 [some (.ref 998), some (.ref 1000), some (.ref 1079), some (.ref 1121), some (zi x4)] [] k j := by
  have hln : 0 ≤ zz_ln g ∧ zz_ln g ≤ 3584 := ⟨Int.natCast_nonneg _, Int.ofNat_le.mpr hlen⟩
  have hk : k ≤ 601024 := by omega
  have hj : j ≤ 7293034 := by omega
  refine zz_aload_n (x := 1000) rfl zd_L_law_709 ?_
  refine zz_aload_n (x := 998) rfl zd_L_law_710 ?_
  refine zz_iload (x := x4) rfl zd_L_law_711 ?_
  refine zz_iconst zd_L_law_713 ?_
  refine zz_iadd zd_L_law_714 ?_
  refine zz_sld (by omega) zd_L_law_715 (by omega) ?_
  have g369 := zz_sc_r g (x4 + 1).toNat
  refine zz_aload_n (x := 998) rfl zd_L_law_716 ?_
  refine zz_iload (x := x4) rfl zd_L_law_717 ?_
  refine zz_iconst zd_L_law_719 ?_
  refine zz_iadd zd_L_law_720 ?_
  refine zz_sld (by omega) zd_L_law_721 (by omega) ?_
  have g370 := zz_sc_r g (x4 + 2).toNat
  refine zz_aload_n (x := 1121) rfl zd_L_law_722 ?_
  refine zz_callHW (rz := zr_instruction_L) [.ref 1000, zi (zz_sc g (x4 + 1).toNat), zi (zz_sc g (x4 + 2).toNat), .ref 1121] zd_L_law_723 zhl_instruction_L rfl rfl ⟨Nat.le_of_ble_eq_true rfl, Nat.le_of_ble_eq_true rfl⟩ (by show k + 2 ≤ 601024; omega) (by show j + 12 ≤ 7293034; omega) (zc_instruction_L (zz_sc g (x4 + 1).toNat) (zz_sc g (x4 + 2).toNat) S (n) hn hfl G_S (by omega) (by omega)) (fun v372 S371 d373 hd373 hP => ?_)
  obtain ⟨G_S371, fS371, rv372⟩ := hP
  have hn374 : zz_end ≤ n + d373 := by omega
  have hk375 : (k + zr_instruction_L.cells) ≤ 601024 := by show k + 2 ≤ 601024; omega
  have hj376 : (j + zr_instruction_L.slots) ≤ 7293034 := by show j + 12 ≤ 7293034; omega
  have H_S371 : zz_Hc S371 := zz_Hc.fr (q := 0) fS371 rfl rfl G_S (by decide) rfl (fun b q h => h.elim) H_S
  have R_S371 : zz_Hr S371 := zz_Hr.fr fS371 rfl rfl (fun b q h => h.elim) R_S
  have O_S371 : 1 ≤ S371 1079 36 := by rw [show S371 1079 36 = S 1079 36 from zz_rc fS371 rfl rfl (fun h => h) rfl]; exact O_S
  refine zz_istore [some (.ref 998), some (.ref 1000), some (.ref 1079), some (.ref 1121), some (zi x4), some (zi v372)] zd_L_law_726 (by decide) rfl ?_
  refine zz_aload_n (x := 1079) rfl zd_L_law_728 ?_
  refine zz_aload_n (x := 998) rfl zd_L_law_729 ?_
  refine zz_iload (x := x4) rfl zd_L_law_730 ?_
  refine zz_iconst zd_L_law_732 ?_
  refine zz_iadd zd_L_law_733 ?_
  refine zz_sld (by omega) zd_L_law_734 (by omega) ?_
  refine zz_aload_n (x := 998) rfl zd_L_law_735 ?_
  refine zz_iload (x := x4) rfl zd_L_law_736 ?_
  refine zz_iconst zd_L_law_738 ?_
  refine zz_iadd zd_L_law_739 ?_
  refine zz_sld (by omega) zd_L_law_740 (by omega) ?_
  refine zz_callVI [zi (zz_sc g (x4 + 1).toNat), zi (zz_sc g (x4 + 2).toNat)] zd_L_law_741 zk_TFLaw_163 zT_1079 (zz_ltn hn374 rfl) rfl rfl ⟨Nat.le_of_ble_eq_true rfl, Nat.le_of_ble_eq_true rfl⟩ ⟨rfl, rfl⟩ hk375 hj376 (zc_instruction_14_46 (zz_sc g (x4 + 1).toNat) (zz_sc g (x4 + 2).toNat) S371 (n + d373) hn374 G_S371 (by omega) (by omega)) (fun v378 S377 hP => ?_)
  obtain ⟨G_S377, fS377, o379⟩ := hP
  have H_S377 : zz_Hc S377 := zz_Hc.fr (q := 0) fS377 rfl rfl G_S371 (by decide) rfl (fun b q h => h.elim) H_S371
  have R_S377 : zz_Hr S377 := zz_Hr.fr fS377 rfl rfl (fun b q h => h.elim) R_S371
  have O_S377 : 1 ≤ S377 1079 36 := by rw [show S377 1079 36 = S371 1079 36 from zz_rc fS377 rfl rfl (fun h => h) rfl]; exact O_S371
  refine zz_istore [some (.ref 998), some (.ref 1000), some (.ref 1079), some (.ref 1121), some (zi x4), some (zi v372), some (zi v378)] zd_L_law_744 (by decide) rfl ?_
  refine zz_goto zd_L_law_746 ?_
  refine zz_iinc [some (.ref 998), some (.ref 1000), some (.ref 1079), some (.ref 1121), some (zi (x4 + 7)), some (zi v372), some (zi v378)] zd_L_law_1208 rfl rfl ?_
  refine zz_goto zd_L_law_1211 ?_
  refine zz_less (ls1 := [some (.ref 998), some (.ref 1000), some (.ref 1079), some (.ref 1121), some (zi (x4 + 7))]) ⟨rfl, ⟨rfl, ⟨rfl, ⟨rfl, ⟨rfl, trivial⟩⟩⟩⟩⟩ ?_
  have g380 := zz_G.r G_S 1070 1 0 1500 rfl rfl
  have e381 : S377 1070 1 = S 1070 1 := (zz_rc fS377 rfl rfl (fun h => h) (zz_rc fS371 rfl rfl (fun h => h) rfl))
  have g382 := zz_G.r G_S 1079 28 0 1500 rfl rfl
  have e383 : S377 1079 28 = S 1079 28 := (zz_rc fS377 rfl rfl (fun h => h) (zz_rc fS371 rfl rfl (fun h => h) rfl))
  have g384 := zz_G.r G_S 1031 6 2 8 rfl rfl
  have e385 : S377 1031 6 = S 1031 6 := (zz_rc fS377 rfl rfl (fun h => h) (zz_rc fS371 rfl rfl (fun h => h) rfl))
  have g386 := zz_G.r G_S 1079 1 2 8 rfl rfl
  have e387 : S377 1079 1 = S 1079 1 := (zz_rc fS377 rfl rfl (fun h => h) (zz_rc fS371 rfl rfl (fun h => h) rfl))
  exact ih (x4 + 7) S377 (n + d373) (k + zr_instruction_L.cells) (j + zr_instruction_L.slots) G_S377 H_S377 R_S377 O_S377 (by omega) (by omega) hn374 (by omega) (by show ((k + 2 : Nat) : Int) ≤ 200 + (x4 + 7); omega) (by show ((j + 12 : Nat) : Int) ≤ 30000 + 6 * (x4 + 7); omega) (by omega)
theorem zl_16 {g : mm_G} {l : Launch} (hfl : l.flags = flags0) (hlen : g.2.2.2 997 ≤ 3584) (N : Nat) (ih : ∀ (x4 : Int) (S : zz_S) (n k j : Nat), zz_G S → zz_Hc S → zz_Hr S → 1 ≤ S 1079 36 → S 1070 1 = S 1079 28 → S 1031 6 = S 1079 1 → zz_end ≤ n → (0 ≤ x4 ∧ x4 ≤ 3590) → (k : Int) ≤ 200 + x4 → (j : Int) ≤ 30000 + 6 * x4 → (3600 - x4).toNat < N → zz_E g l zy_law_L room_1 (fun u => ∃ M1 n1, u = (.inl (some (zi 1)), M1, n1)) S n 23 [some (.ref 998), some (.ref 1000), some (.ref 1079), some (.ref 1121), some (zi x4)] [] k j) (x4 : Int) (S : zz_S) (n k j : Nat) (G_S : zz_G S) (H_S : zz_Hc S) (R_S : zz_Hr S) (O_S : 1 ≤ S 1079 36) (T0_S : S 1070 1 = S 1079 28) (T1_S : S 1031 6 = S 1079 1) (hn : zz_end ≤ n) (hx : 0 ≤ x4 ∧ x4 ≤ 3590) (hkk : (k : Int) ≤ 200 + x4) (hjj : (j : Int) ≤ 30000 + 6 * x4) (hR : (3600 - x4).toNat < N + 1) (hc1 : x4 ≤ zz_ln g - 7) : zz_E g l zy_law_L room_1 (fun u => ∃ M1 n1, u = (.inl (some (zi 1)), M1, n1)) S n 749 [some (.ref 998), some (.ref 1000), some (.ref 1079), some (.ref 1121), some (zi x4)] [] k j := by
  have hln : 0 ≤ zz_ln g ∧ zz_ln g ≤ 3584 := ⟨Int.natCast_nonneg _, Int.ofNat_le.mpr hlen⟩
  have hk : k ≤ 601024 := by omega
  have hj : j ≤ 7293034 := by omega
  refine zz_aload_n (x := 1000) rfl zd_L_law_749 ?_
  refine zz_aload_n (x := 998) rfl zd_L_law_750 ?_
  refine zz_iload (x := x4) rfl zd_L_law_751 ?_
  refine zz_iconst zd_L_law_753 ?_
  refine zz_iadd zd_L_law_754 ?_
  refine zz_sld (by omega) zd_L_law_755 (by omega) ?_
  have g389 := zz_sc_r g (x4 + 1).toNat
  refine zz_aload_n (x := 998) rfl zd_L_law_756 ?_
  refine zz_iload (x := x4) rfl zd_L_law_757 ?_
  refine zz_iconst zd_L_law_759 ?_
  refine zz_iadd zd_L_law_760 ?_
  refine zz_sld (by omega) zd_L_law_761 (by omega) ?_
  have g390 := zz_sc_r g (x4 + 2).toNat
  refine zz_aload_n (x := 998) rfl zd_L_law_762 ?_
  refine zz_iload (x := x4) rfl zd_L_law_763 ?_
  refine zz_iconst zd_L_law_765 ?_
  refine zz_iadd zd_L_law_766 ?_
  refine zz_sld (by omega) zd_L_law_767 (by omega) ?_
  have g391 := zz_sc_r g (x4 + 3).toNat
  refine zz_callHW (rz := zr_input_L) [.ref 1000, zi (zz_sc g (x4 + 1).toNat), zi (zz_sc g (x4 + 2).toNat), zi (zz_sc g (x4 + 3).toNat)] zd_L_law_768 zhl_input_L rfl rfl ⟨Nat.le_of_ble_eq_true rfl, Nat.le_of_ble_eq_true rfl⟩ (by show k + 1 ≤ 601024; omega) (by show j + 6 ≤ 7293034; omega) (zc_input_L (zz_sc g (x4 + 1).toNat) (zz_sc g (x4 + 2).toNat) (zz_sc g (x4 + 3).toNat) S (n) hn hfl G_S (by omega) (by omega) (by omega) H_S) (fun v393 S392 d394 hd394 hP => ?_)
  obtain ⟨G_S392, fS392, rv393, o395, o396⟩ := hP
  have g397 := zz_G.r G_S 1000 7 0 1 rfl rfl
  have hn398 : zz_end ≤ n + d394 := by omega
  have hk399 : (k + zr_input_L.cells) ≤ 601024 := by show k + 1 ≤ 601024; omega
  have hj400 : (j + zr_input_L.slots) ≤ 7293034 := by show j + 6 ≤ 7293034; omega
  have b401 := zz_rf3 (z := (S 1000 7)) (by omega)
  have b402 := zz_rf6 (z := (12 * (S 1000 7) + 0)) (by omega)
  have H_S392 : zz_Hc S392 := o396
  have R_S392 : zz_Hr S392 := zz_Hr.fr fS392 rfl rfl (fun b q h => by have h0_ := zz_rf3 (z := (S 1000 7)) (by omega); have h10_ := zz_rf6 (z := (12 * (S 1000 7) + 0)) (by omega); have h11_ := zz_rf6 (z := (12 * (S 1000 7) + 0)) (by omega); have h12_ := zz_rf6 (z := (12 * (S 1000 7) + 0)) (by omega); have h13_ := zz_rf6 (z := (12 * (S 1000 7) + 0)) (by omega); have h14_ := zz_rf6 (z := (12 * (S 1000 7) + 0)) (by omega); have h15_ := zz_rf6 (z := (12 * (S 1000 7) + 0)) (by omega); have h1_ := zz_rf6 (z := (12 * (S 1000 7) + 0)) (by omega); have h2_ := zz_rf6 (z := (12 * (S 1000 7) + 0)) (by omega); have h3_ := zz_rf6 (z := (12 * (S 1000 7) + 0)) (by omega); have h4_ := zz_rf6 (z := (12 * (S 1000 7) + 0)) (by omega); have h5_ := zz_rf6 (z := (12 * (S 1000 7) + 0)) (by omega); have h6_ := zz_rf6 (z := (12 * (S 1000 7) + 0)) (by omega); have h7_ := zz_rf6 (z := (12 * (S 1000 7) + 0)) (by omega); have h8_ := zz_rf6 (z := (12 * (S 1000 7) + 0)) (by omega); have h9_ := zz_rf6 (z := (12 * (S 1000 7) + 0)) (by omega); omega) R_S
  have O_S392 : 1 ≤ S392 1079 36 := by rw [show S392 1079 36 = S 1079 36 from zz_rc fS392 rfl rfl (by have h0_ := zz_rf3 (z := (S 1000 7)) (by omega); have h10_ := zz_rf6 (z := (12 * (S 1000 7) + 0)) (by omega); have h11_ := zz_rf6 (z := (12 * (S 1000 7) + 0)) (by omega); have h12_ := zz_rf6 (z := (12 * (S 1000 7) + 0)) (by omega); have h13_ := zz_rf6 (z := (12 * (S 1000 7) + 0)) (by omega); have h14_ := zz_rf6 (z := (12 * (S 1000 7) + 0)) (by omega); have h15_ := zz_rf6 (z := (12 * (S 1000 7) + 0)) (by omega); have h1_ := zz_rf6 (z := (12 * (S 1000 7) + 0)) (by omega); have h2_ := zz_rf6 (z := (12 * (S 1000 7) + 0)) (by omega); have h3_ := zz_rf6 (z := (12 * (S 1000 7) + 0)) (by omega); have h4_ := zz_rf6 (z := (12 * (S 1000 7) + 0)) (by omega); have h5_ := zz_rf6 (z := (12 * (S 1000 7) + 0)) (by omega); have h6_ := zz_rf6 (z := (12 * (S 1000 7) + 0)) (by omega); have h7_ := zz_rf6 (z := (12 * (S 1000 7) + 0)) (by omega); have h8_ := zz_rf6 (z := (12 * (S 1000 7) + 0)) (by omega); have h9_ := zz_rf6 (z := (12 * (S 1000 7) + 0)) (by omega); omega) rfl]; exact O_S
  refine zz_istore [some (.ref 998), some (.ref 1000), some (.ref 1079), some (.ref 1121), some (zi x4), some (zi v393)] zd_L_law_771 (by decide) rfl ?_
  refine zz_aload_n (x := 1079) rfl zd_L_law_773 ?_
  refine zz_aload_n (x := 998) rfl zd_L_law_774 ?_
  refine zz_iload (x := x4) rfl zd_L_law_775 ?_
  refine zz_iconst zd_L_law_777 ?_
  refine zz_iadd zd_L_law_778 ?_
  refine zz_sld (by omega) zd_L_law_779 (by omega) ?_
  refine zz_aload_n (x := 998) rfl zd_L_law_780 ?_
  refine zz_iload (x := x4) rfl zd_L_law_781 ?_
  refine zz_iconst zd_L_law_783 ?_
  refine zz_iadd zd_L_law_784 ?_
  refine zz_sld (by omega) zd_L_law_785 (by omega) ?_
  refine zz_aload_n (x := 998) rfl zd_L_law_786 ?_
  refine zz_iload (x := x4) rfl zd_L_law_787 ?_
  refine zz_iconst zd_L_law_789 ?_
  refine zz_iadd zd_L_law_790 ?_
  refine zz_sld (by omega) zd_L_law_791 (by omega) ?_
  have g403 := zz_G.r G_S 1079 36 0 11 rfl rfl
  have e404 : S392 1079 36 = S 1079 36 := (zz_rc fS392 rfl rfl (by omega) rfl)
  refine zz_callVV [zi (zz_sc g (x4 + 1).toNat), zi (zz_sc g (x4 + 2).toNat), zi (zz_sc g (x4 + 3).toNat)] zd_L_law_792 zk_TFLaw_167 zT_1079 (zz_ltn hn398 rfl) rfl rfl ⟨Nat.le_of_ble_eq_true rfl, Nat.le_of_ble_eq_true rfl⟩ ⟨rfl, rfl⟩ hk399 hj400 (zc_input_14_63 (zz_sc g (x4 + 1).toNat) (zz_sc g (x4 + 2).toNat) (zz_sc g (x4 + 3).toNat) S392 (n + d394) hn398 G_S392 (by omega) (by omega) (by omega) R_S392) (fun S405 hP => ?_)
  obtain ⟨G_S405, fS405, o407, o408, o409, o410⟩ := hP
  have H_S405 : zz_Hc S405 := zz_Hc.fr (q := 0) fS405 rfl rfl G_S392 (by decide) rfl (fun b q h => h.elim) H_S392
  have R_S405 : zz_Hr S405 := o410
  have O_S405 : 1 ≤ S405 1079 36 := by omega
  refine zz_goto zd_L_law_795 ?_
  refine zz_iinc [some (.ref 998), some (.ref 1000), some (.ref 1079), some (.ref 1121), some (zi (x4 + 7)), some (zi v393)] zd_L_law_1208 rfl rfl ?_
  refine zz_goto zd_L_law_1211 ?_
  refine zz_less (ls1 := [some (.ref 998), some (.ref 1000), some (.ref 1079), some (.ref 1121), some (zi (x4 + 7))]) ⟨rfl, ⟨rfl, ⟨rfl, ⟨rfl, ⟨rfl, trivial⟩⟩⟩⟩⟩ ?_
  have g411 := zz_G.r G_S 1070 1 0 1500 rfl rfl
  have e412 : S405 1070 1 = S 1070 1 := (zz_rc fS405 rfl rfl (fun h => h) (zz_rc fS392 rfl rfl (by omega) rfl))
  have g413 := zz_G.r G_S 1079 28 0 1500 rfl rfl
  have e414 : S405 1079 28 = S 1079 28 := (zz_rc fS405 rfl rfl (fun h => h) (zz_rc fS392 rfl rfl (by omega) rfl))
  have g415 := zz_G.r G_S 1031 6 2 8 rfl rfl
  have e416 : S405 1031 6 = S 1031 6 := (zz_rc fS405 rfl rfl (fun h => h) (zz_rc fS392 rfl rfl (by omega) rfl))
  have g417 := zz_G.r G_S 1079 1 2 8 rfl rfl
  have e418 : S405 1079 1 = S 1079 1 := (zz_rc fS405 rfl rfl (fun h => h) (zz_rc fS392 rfl rfl (by omega) rfl))
  exact ih (x4 + 7) S405 (n + d394) (k + zr_input_L.cells) (j + zr_input_L.slots) G_S405 H_S405 R_S405 O_S405 (by omega) (by omega) hn398 (by omega) (by show ((k + 1 : Nat) : Int) ≤ 200 + (x4 + 7); omega) (by show ((j + 6 : Nat) : Int) ≤ 30000 + 6 * (x4 + 7); omega) (by omega)
theorem zl_17 {g : mm_G} {l : Launch} (hfl : l.flags = flags0) (hlen : g.2.2.2 997 ≤ 3584) (N : Nat) (ih : ∀ (x4 : Int) (S : zz_S) (n k j : Nat), zz_G S → zz_Hc S → zz_Hr S → 1 ≤ S 1079 36 → S 1070 1 = S 1079 28 → S 1031 6 = S 1079 1 → zz_end ≤ n → (0 ≤ x4 ∧ x4 ≤ 3590) → (k : Int) ≤ 200 + x4 → (j : Int) ≤ 30000 + 6 * x4 → (3600 - x4).toNat < N → zz_E g l zy_law_L room_1 (fun u => ∃ M1 n1, u = (.inl (some (zi 1)), M1, n1)) S n 23 [some (.ref 998), some (.ref 1000), some (.ref 1079), some (.ref 1121), some (zi x4)] [] k j) (x4 : Int) (S : zz_S) (n k j : Nat) (G_S : zz_G S) (H_S : zz_Hc S) (R_S : zz_Hr S) (O_S : 1 ≤ S 1079 36) (T0_S : S 1070 1 = S 1079 28) (T1_S : S 1031 6 = S 1079 1) (hn : zz_end ≤ n) (hx : 0 ≤ x4 ∧ x4 ≤ 3590) (hkk : (k : Int) ≤ 200 + x4) (hjj : (j : Int) ≤ 30000 + 6 * x4) (hR : (3600 - x4).toNat < N + 1) (hc1 : x4 ≤ zz_ln g - 7) : zz_E g l zy_law_L room_1 (fun u => ∃ M1 n1, u = (.inl (some (zi 1)), M1, n1)) S n 798 [some (.ref 998), some (.ref 1000), some (.ref 1079), some (.ref 1121), some (zi x4)] [] k j := by
  have hln : 0 ≤ zz_ln g ∧ zz_ln g ≤ 3584 := ⟨Int.natCast_nonneg _, Int.ofNat_le.mpr hlen⟩
  have hk : k ≤ 601024 := by omega
  have hj : j ≤ 7293034 := by omega
  refine zz_aload_n (x := 1000) rfl zd_L_law_798 ?_
  refine zz_aload_n (x := 998) rfl zd_L_law_799 ?_
  refine zz_iload (x := x4) rfl zd_L_law_800 ?_
  refine zz_iconst zd_L_law_802 ?_
  refine zz_iadd zd_L_law_803 ?_
  refine zz_sld (by omega) zd_L_law_804 (by omega) ?_
  have g420 := zz_sc_r g (x4 + 1).toNat
  refine zz_aload_n (x := 998) rfl zd_L_law_805 ?_
  refine zz_iload (x := x4) rfl zd_L_law_806 ?_
  refine zz_iconst zd_L_law_808 ?_
  refine zz_iadd zd_L_law_809 ?_
  refine zz_sld (by omega) zd_L_law_810 (by omega) ?_
  have g421 := zz_sc_r g (x4 + 2).toNat
  refine zz_aload_n (x := 998) rfl zd_L_law_811 ?_
  refine zz_iload (x := x4) rfl zd_L_law_812 ?_
  refine zz_iconst zd_L_law_814 ?_
  refine zz_iadd zd_L_law_815 ?_
  refine zz_sld (by omega) zd_L_law_816 (by omega) ?_
  have g422 := zz_sc_r g (x4 + 3).toNat
  refine zz_aload_n (x := 998) rfl zd_L_law_817 ?_
  refine zz_iload (x := x4) rfl zd_L_law_818 ?_
  refine zz_iconst zd_L_law_820 ?_
  refine zz_iadd zd_L_law_821 ?_
  refine zz_sld (by omega) zd_L_law_822 (by omega) ?_
  have g423 := zz_sc_r g (x4 + 4).toNat
  refine zz_aload_n (x := 998) rfl zd_L_law_823 ?_
  refine zz_iload (x := x4) rfl zd_L_law_824 ?_
  refine zz_iconst zd_L_law_826 ?_
  refine zz_iadd zd_L_law_827 ?_
  refine zz_sld (by omega) zd_L_law_828 (by omega) ?_
  have g424 := zz_sc_r g (x4 + 5).toNat
  refine zz_aload_n (x := 998) rfl zd_L_law_829 ?_
  refine zz_iload (x := x4) rfl zd_L_law_830 ?_
  refine zz_bipush (by decide) zd_L_law_832 ?_
  refine zz_iadd zd_L_law_834 ?_
  refine zz_sld (by omega) zd_L_law_835 (by omega) ?_
  have g425 := zz_sc_r g (x4 + 6).toNat
  refine zz_aload_n (x := 1121) rfl zd_L_law_836 ?_
  refine zz_callHW (rz := zr_convolution_L) [.ref 1000, zi (zz_sc g (x4 + 1).toNat), zi (zz_sc g (x4 + 2).toNat), zi (zz_sc g (x4 + 3).toNat), zi (zz_sc g (x4 + 4).toNat), zi (zz_sc g (x4 + 5).toNat), zi (zz_sc g (x4 + 6).toNat), .ref 1121] zd_L_law_837 zhl_convolution_L rfl rfl ⟨Nat.le_of_ble_eq_true rfl, Nat.le_of_ble_eq_true rfl⟩ (by show k + 1 ≤ 601024; omega) (by show j + 6 ≤ 7293034; omega) (zc_convolution_L (zz_sc g (x4 + 1).toNat) (zz_sc g (x4 + 2).toNat) (zz_sc g (x4 + 3).toNat) (zz_sc g (x4 + 4).toNat) (zz_sc g (x4 + 5).toNat) (zz_sc g (x4 + 6).toNat) S (n) hn hfl G_S (by omega) (by omega) (by omega) (by omega) (by omega) (by omega) H_S) (fun v427 S426 d428 hd428 hP => ?_)
  obtain ⟨G_S426, fS426, rv427, o429⟩ := hP
  have hn430 : zz_end ≤ n + d428 := by omega
  have hk431 : (k + zr_convolution_L.cells) ≤ 601024 := by show k + 1 ≤ 601024; omega
  have hj432 : (j + zr_convolution_L.slots) ≤ 7293034 := by show j + 6 ≤ 7293034; omega
  have H_S426 : zz_Hc S426 := o429
  have R_S426 : zz_Hr S426 := zz_Hr.fr fS426 rfl rfl (fun b q h => h.elim) R_S
  have O_S426 : 1 ≤ S426 1079 36 := by rw [show S426 1079 36 = S 1079 36 from zz_rc fS426 rfl rfl (fun h => h) rfl]; exact O_S
  refine zz_istore [some (.ref 998), some (.ref 1000), some (.ref 1079), some (.ref 1121), some (zi x4), some (zi v427)] zd_L_law_840 (by decide) rfl ?_
  refine zz_aload_n (x := 1079) rfl zd_L_law_842 ?_
  refine zz_aload_n (x := 998) rfl zd_L_law_843 ?_
  refine zz_iload (x := x4) rfl zd_L_law_844 ?_
  refine zz_iconst zd_L_law_846 ?_
  refine zz_iadd zd_L_law_847 ?_
  refine zz_sld (by omega) zd_L_law_848 (by omega) ?_
  refine zz_aload_n (x := 998) rfl zd_L_law_849 ?_
  refine zz_iload (x := x4) rfl zd_L_law_850 ?_
  refine zz_iconst zd_L_law_852 ?_
  refine zz_iadd zd_L_law_853 ?_
  refine zz_sld (by omega) zd_L_law_854 (by omega) ?_
  refine zz_aload_n (x := 998) rfl zd_L_law_855 ?_
  refine zz_iload (x := x4) rfl zd_L_law_856 ?_
  refine zz_iconst zd_L_law_858 ?_
  refine zz_iadd zd_L_law_859 ?_
  refine zz_sld (by omega) zd_L_law_860 (by omega) ?_
  refine zz_aload_n (x := 998) rfl zd_L_law_861 ?_
  refine zz_iload (x := x4) rfl zd_L_law_862 ?_
  refine zz_iconst zd_L_law_864 ?_
  refine zz_iadd zd_L_law_865 ?_
  refine zz_sld (by omega) zd_L_law_866 (by omega) ?_
  refine zz_aload_n (x := 998) rfl zd_L_law_867 ?_
  refine zz_iload (x := x4) rfl zd_L_law_868 ?_
  refine zz_iconst zd_L_law_870 ?_
  refine zz_iadd zd_L_law_871 ?_
  refine zz_sld (by omega) zd_L_law_872 (by omega) ?_
  refine zz_aload_n (x := 998) rfl zd_L_law_873 ?_
  refine zz_iload (x := x4) rfl zd_L_law_874 ?_
  refine zz_bipush (by decide) zd_L_law_876 ?_
  refine zz_iadd zd_L_law_878 ?_
  refine zz_sld (by omega) zd_L_law_879 (by omega) ?_
  have g433 := zz_G.r G_S 1079 36 0 11 rfl rfl
  have e434 : S426 1079 36 = S 1079 36 := (zz_rc fS426 rfl rfl (fun h => h) rfl)
  refine zz_callVI [zi (zz_sc g (x4 + 1).toNat), zi (zz_sc g (x4 + 2).toNat), zi (zz_sc g (x4 + 3).toNat), zi (zz_sc g (x4 + 4).toNat), zi (zz_sc g (x4 + 5).toNat), zi (zz_sc g (x4 + 6).toNat)] zd_L_law_880 zk_TFLaw_171 zT_1079 (zz_ltn hn430 rfl) rfl rfl ⟨Nat.le_of_ble_eq_true rfl, Nat.le_of_ble_eq_true rfl⟩ ⟨rfl, rfl⟩ hk431 hj432 (zc_convolution_14_67 (zz_sc g (x4 + 1).toNat) (zz_sc g (x4 + 2).toNat) (zz_sc g (x4 + 3).toNat) (zz_sc g (x4 + 4).toNat) (zz_sc g (x4 + 5).toNat) (zz_sc g (x4 + 6).toNat) S426 (n + d428) hn430 G_S426 (by omega) (by omega) (by omega) (by omega) (by omega) (by omega) R_S426) (fun v436 S435 hP => ?_)
  obtain ⟨G_S435, fS435, o437, o438, o439⟩ := hP
  have H_S435 : zz_Hc S435 := zz_Hc.fr (q := 0) fS435 rfl rfl G_S426 (by decide) rfl (fun b q h => by omega) H_S426
  have R_S435 : zz_Hr S435 := o439
  have O_S435 : 1 ≤ S435 1079 36 := by omega
  refine zz_istore [some (.ref 998), some (.ref 1000), some (.ref 1079), some (.ref 1121), some (zi x4), some (zi v427), some (zi v436)] zd_L_law_883 (by decide) rfl ?_
  refine zz_goto zd_L_law_885 ?_
  refine zz_iinc [some (.ref 998), some (.ref 1000), some (.ref 1079), some (.ref 1121), some (zi (x4 + 7)), some (zi v427), some (zi v436)] zd_L_law_1208 rfl rfl ?_
  refine zz_goto zd_L_law_1211 ?_
  refine zz_less (ls1 := [some (.ref 998), some (.ref 1000), some (.ref 1079), some (.ref 1121), some (zi (x4 + 7))]) ⟨rfl, ⟨rfl, ⟨rfl, ⟨rfl, ⟨rfl, trivial⟩⟩⟩⟩⟩ ?_
  have g440 := zz_G.r G_S 1070 1 0 1500 rfl rfl
  have e441 : S435 1070 1 = S 1070 1 := (zz_rc fS435 rfl rfl (by omega) (zz_rc fS426 rfl rfl (fun h => h) rfl))
  have g442 := zz_G.r G_S 1079 28 0 1500 rfl rfl
  have e443 : S435 1079 28 = S 1079 28 := (zz_rc fS435 rfl rfl (by omega) (zz_rc fS426 rfl rfl (fun h => h) rfl))
  have g444 := zz_G.r G_S 1031 6 2 8 rfl rfl
  have e445 : S435 1031 6 = S 1031 6 := (zz_rc fS435 rfl rfl (by omega) (zz_rc fS426 rfl rfl (fun h => h) rfl))
  have g446 := zz_G.r G_S 1079 1 2 8 rfl rfl
  have e447 : S435 1079 1 = S 1079 1 := (zz_rc fS435 rfl rfl (by omega) (zz_rc fS426 rfl rfl (fun h => h) rfl))
  exact ih (x4 + 7) S435 (n + d428) (k + zr_convolution_L.cells) (j + zr_convolution_L.slots) G_S435 H_S435 R_S435 O_S435 (by omega) (by omega) hn430 (by omega) (by show ((k + 1 : Nat) : Int) ≤ 200 + (x4 + 7); omega) (by show ((j + 6 : Nat) : Int) ≤ 30000 + 6 * (x4 + 7); omega) (by omega)
theorem zl_18 {g : mm_G} {l : Launch} (hfl : l.flags = flags0) (hlen : g.2.2.2 997 ≤ 3584) (N : Nat) (ih : ∀ (x4 : Int) (S : zz_S) (n k j : Nat), zz_G S → zz_Hc S → zz_Hr S → 1 ≤ S 1079 36 → S 1070 1 = S 1079 28 → S 1031 6 = S 1079 1 → zz_end ≤ n → (0 ≤ x4 ∧ x4 ≤ 3590) → (k : Int) ≤ 200 + x4 → (j : Int) ≤ 30000 + 6 * x4 → (3600 - x4).toNat < N → zz_E g l zy_law_L room_1 (fun u => ∃ M1 n1, u = (.inl (some (zi 1)), M1, n1)) S n 23 [some (.ref 998), some (.ref 1000), some (.ref 1079), some (.ref 1121), some (zi x4)] [] k j) (x4 : Int) (S : zz_S) (n k j : Nat) (G_S : zz_G S) (H_S : zz_Hc S) (R_S : zz_Hr S) (O_S : 1 ≤ S 1079 36) (T0_S : S 1070 1 = S 1079 28) (T1_S : S 1031 6 = S 1079 1) (hn : zz_end ≤ n) (hx : 0 ≤ x4 ∧ x4 ≤ 3590) (hkk : (k : Int) ≤ 200 + x4) (hjj : (j : Int) ≤ 30000 + 6 * x4) (hR : (3600 - x4).toNat < N + 1) (hc1 : x4 ≤ zz_ln g - 7) : zz_E g l zy_law_L room_1 (fun u => ∃ M1 n1, u = (.inl (some (zi 1)), M1, n1)) S n 888 [some (.ref 998), some (.ref 1000), some (.ref 1079), some (.ref 1121), some (zi x4)] [] k j := by
  have hln : 0 ≤ zz_ln g ∧ zz_ln g ≤ 3584 := ⟨Int.natCast_nonneg _, Int.ofNat_le.mpr hlen⟩
  have hk : k ≤ 601024 := by omega
  have hj : j ≤ 7293034 := by omega
  refine zz_aload_n (x := 1000) rfl zd_L_law_888 ?_
  refine zz_aload_n (x := 998) rfl zd_L_law_889 ?_
  refine zz_iload (x := x4) rfl zd_L_law_890 ?_
  refine zz_iconst zd_L_law_892 ?_
  refine zz_iadd zd_L_law_893 ?_
  refine zz_sld (by omega) zd_L_law_894 (by omega) ?_
  have g449 := zz_sc_r g (x4 + 1).toNat
  refine zz_aload_n (x := 998) rfl zd_L_law_895 ?_
  refine zz_iload (x := x4) rfl zd_L_law_896 ?_
  refine zz_iconst zd_L_law_898 ?_
  refine zz_iadd zd_L_law_899 ?_
  refine zz_sld (by omega) zd_L_law_900 (by omega) ?_
  have g450 := zz_sc_r g (x4 + 2).toNat
  refine zz_aload_n (x := 998) rfl zd_L_law_901 ?_
  refine zz_iload (x := x4) rfl zd_L_law_902 ?_
  refine zz_iconst zd_L_law_904 ?_
  refine zz_iadd zd_L_law_905 ?_
  refine zz_sld (by omega) zd_L_law_906 (by omega) ?_
  have g451 := zz_sc_r g (x4 + 3).toNat
  refine zz_aload_n (x := 1121) rfl zd_L_law_907 ?_
  refine zz_callHW (rz := zr_pool_L) [.ref 1000, zi (zz_sc g (x4 + 1).toNat), zi (zz_sc g (x4 + 2).toNat), zi (zz_sc g (x4 + 3).toNat), .ref 1121] zd_L_law_908 zhl_pool_L rfl rfl ⟨Nat.le_of_ble_eq_true rfl, Nat.le_of_ble_eq_true rfl⟩ (by show k + 1 ≤ 601024; omega) (by show j + 6 ≤ 7293034; omega) (zc_pool_L (zz_sc g (x4 + 1).toNat) (zz_sc g (x4 + 2).toNat) (zz_sc g (x4 + 3).toNat) S (n) hn hfl G_S (by omega) (by omega) (by omega) H_S) (fun v453 S452 d454 hd454 hP => ?_)
  obtain ⟨G_S452, fS452, rv453, o455⟩ := hP
  have hn456 : zz_end ≤ n + d454 := by omega
  have hk457 : (k + zr_pool_L.cells) ≤ 601024 := by show k + 1 ≤ 601024; omega
  have hj458 : (j + zr_pool_L.slots) ≤ 7293034 := by show j + 6 ≤ 7293034; omega
  have H_S452 : zz_Hc S452 := o455
  have R_S452 : zz_Hr S452 := zz_Hr.fr fS452 rfl rfl (fun b q h => h.elim) R_S
  have O_S452 : 1 ≤ S452 1079 36 := by rw [show S452 1079 36 = S 1079 36 from zz_rc fS452 rfl rfl (fun h => h) rfl]; exact O_S
  refine zz_istore [some (.ref 998), some (.ref 1000), some (.ref 1079), some (.ref 1121), some (zi x4), some (zi v453)] zd_L_law_911 (by decide) rfl ?_
  refine zz_aload_n (x := 1079) rfl zd_L_law_913 ?_
  refine zz_aload_n (x := 998) rfl zd_L_law_914 ?_
  refine zz_iload (x := x4) rfl zd_L_law_915 ?_
  refine zz_iconst zd_L_law_917 ?_
  refine zz_iadd zd_L_law_918 ?_
  refine zz_sld (by omega) zd_L_law_919 (by omega) ?_
  refine zz_aload_n (x := 998) rfl zd_L_law_920 ?_
  refine zz_iload (x := x4) rfl zd_L_law_921 ?_
  refine zz_iconst zd_L_law_923 ?_
  refine zz_iadd zd_L_law_924 ?_
  refine zz_sld (by omega) zd_L_law_925 (by omega) ?_
  refine zz_aload_n (x := 998) rfl zd_L_law_926 ?_
  refine zz_iload (x := x4) rfl zd_L_law_927 ?_
  refine zz_iconst zd_L_law_929 ?_
  refine zz_iadd zd_L_law_930 ?_
  refine zz_sld (by omega) zd_L_law_931 (by omega) ?_
  have g459 := zz_G.r G_S 1079 36 0 11 rfl rfl
  have e460 : S452 1079 36 = S 1079 36 := (zz_rc fS452 rfl rfl (fun h => h) rfl)
  refine zz_callVI [zi (zz_sc g (x4 + 1).toNat), zi (zz_sc g (x4 + 2).toNat), zi (zz_sc g (x4 + 3).toNat)] zd_L_law_932 zk_TFLaw_175 zT_1079 (zz_ltn hn456 rfl) rfl rfl ⟨Nat.le_of_ble_eq_true rfl, Nat.le_of_ble_eq_true rfl⟩ ⟨rfl, rfl⟩ hk457 hj458 (zc_pool_14_69 (zz_sc g (x4 + 1).toNat) (zz_sc g (x4 + 2).toNat) (zz_sc g (x4 + 3).toNat) S452 (n + d454) hn456 G_S452 (by omega) (by omega) (by omega) R_S452) (fun v462 S461 hP => ?_)
  obtain ⟨G_S461, fS461, o463, o464, o465⟩ := hP
  have H_S461 : zz_Hc S461 := zz_Hc.fr (q := 0) fS461 rfl rfl G_S452 (by decide) rfl (fun b q h => by omega) H_S452
  have R_S461 : zz_Hr S461 := o465
  have O_S461 : 1 ≤ S461 1079 36 := by omega
  refine zz_istore [some (.ref 998), some (.ref 1000), some (.ref 1079), some (.ref 1121), some (zi x4), some (zi v453), some (zi v462)] zd_L_law_935 (by decide) rfl ?_
  refine zz_goto zd_L_law_937 ?_
  refine zz_iinc [some (.ref 998), some (.ref 1000), some (.ref 1079), some (.ref 1121), some (zi (x4 + 7)), some (zi v453), some (zi v462)] zd_L_law_1208 rfl rfl ?_
  refine zz_goto zd_L_law_1211 ?_
  refine zz_less (ls1 := [some (.ref 998), some (.ref 1000), some (.ref 1079), some (.ref 1121), some (zi (x4 + 7))]) ⟨rfl, ⟨rfl, ⟨rfl, ⟨rfl, ⟨rfl, trivial⟩⟩⟩⟩⟩ ?_
  have g466 := zz_G.r G_S 1070 1 0 1500 rfl rfl
  have e467 : S461 1070 1 = S 1070 1 := (zz_rc fS461 rfl rfl (by omega) (zz_rc fS452 rfl rfl (fun h => h) rfl))
  have g468 := zz_G.r G_S 1079 28 0 1500 rfl rfl
  have e469 : S461 1079 28 = S 1079 28 := (zz_rc fS461 rfl rfl (by omega) (zz_rc fS452 rfl rfl (fun h => h) rfl))
  have g470 := zz_G.r G_S 1031 6 2 8 rfl rfl
  have e471 : S461 1031 6 = S 1031 6 := (zz_rc fS461 rfl rfl (by omega) (zz_rc fS452 rfl rfl (fun h => h) rfl))
  have g472 := zz_G.r G_S 1079 1 2 8 rfl rfl
  have e473 : S461 1079 1 = S 1079 1 := (zz_rc fS461 rfl rfl (by omega) (zz_rc fS452 rfl rfl (fun h => h) rfl))
  exact ih (x4 + 7) S461 (n + d454) (k + zr_pool_L.cells) (j + zr_pool_L.slots) G_S461 H_S461 R_S461 O_S461 (by omega) (by omega) hn456 (by omega) (by show ((k + 1 : Nat) : Int) ≤ 200 + (x4 + 7); omega) (by show ((j + 6 : Nat) : Int) ≤ 30000 + 6 * (x4 + 7); omega) (by omega)
theorem zl_19 {g : mm_G} {l : Launch} (hfl : l.flags = flags0) (hlen : g.2.2.2 997 ≤ 3584) (N : Nat) (ih : ∀ (x4 : Int) (S : zz_S) (n k j : Nat), zz_G S → zz_Hc S → zz_Hr S → 1 ≤ S 1079 36 → S 1070 1 = S 1079 28 → S 1031 6 = S 1079 1 → zz_end ≤ n → (0 ≤ x4 ∧ x4 ≤ 3590) → (k : Int) ≤ 200 + x4 → (j : Int) ≤ 30000 + 6 * x4 → (3600 - x4).toNat < N → zz_E g l zy_law_L room_1 (fun u => ∃ M1 n1, u = (.inl (some (zi 1)), M1, n1)) S n 23 [some (.ref 998), some (.ref 1000), some (.ref 1079), some (.ref 1121), some (zi x4)] [] k j) (x4 : Int) (S : zz_S) (n k j : Nat) (G_S : zz_G S) (H_S : zz_Hc S) (R_S : zz_Hr S) (O_S : 1 ≤ S 1079 36) (T0_S : S 1070 1 = S 1079 28) (T1_S : S 1031 6 = S 1079 1) (hn : zz_end ≤ n) (hx : 0 ≤ x4 ∧ x4 ≤ 3590) (hkk : (k : Int) ≤ 200 + x4) (hjj : (j : Int) ≤ 30000 + 6 * x4) (hR : (3600 - x4).toNat < N + 1) (hc1 : x4 ≤ zz_ln g - 7) : zz_E g l zy_law_L room_1 (fun u => ∃ M1 n1, u = (.inl (some (zi 1)), M1, n1)) S n 940 [some (.ref 998), some (.ref 1000), some (.ref 1079), some (.ref 1121), some (zi x4)] [] k j := by
  have hln : 0 ≤ zz_ln g ∧ zz_ln g ≤ 3584 := ⟨Int.natCast_nonneg _, Int.ofNat_le.mpr hlen⟩
  have hk : k ≤ 601024 := by omega
  have hj : j ≤ 7293034 := by omega
  refine zz_aload_n (x := 1000) rfl zd_L_law_940 ?_
  refine zz_aload_n (x := 998) rfl zd_L_law_941 ?_
  refine zz_iload (x := x4) rfl zd_L_law_942 ?_
  refine zz_iconst zd_L_law_944 ?_
  refine zz_iadd zd_L_law_945 ?_
  refine zz_sld (by omega) zd_L_law_946 (by omega) ?_
  have g475 := zz_sc_r g (x4 + 1).toNat
  refine zz_aload_n (x := 998) rfl zd_L_law_947 ?_
  refine zz_iload (x := x4) rfl zd_L_law_948 ?_
  refine zz_iconst zd_L_law_950 ?_
  refine zz_iadd zd_L_law_951 ?_
  refine zz_sld (by omega) zd_L_law_952 (by omega) ?_
  have g476 := zz_sc_r g (x4 + 2).toNat
  refine zz_aload_n (x := 998) rfl zd_L_law_953 ?_
  refine zz_iload (x := x4) rfl zd_L_law_954 ?_
  refine zz_iconst zd_L_law_956 ?_
  refine zz_iadd zd_L_law_957 ?_
  refine zz_sld (by omega) zd_L_law_958 (by omega) ?_
  have g477 := zz_sc_r g (x4 + 3).toNat
  refine zz_aload_n (x := 1121) rfl zd_L_law_959 ?_
  refine zz_callHW (rz := zr_addition_L) [.ref 1000, zi (zz_sc g (x4 + 1).toNat), zi (zz_sc g (x4 + 2).toNat), zi (zz_sc g (x4 + 3).toNat), .ref 1121] zd_L_law_960 zhl_addition_L rfl rfl ⟨Nat.le_of_ble_eq_true rfl, Nat.le_of_ble_eq_true rfl⟩ (by show k + 1 ≤ 601024; omega) (by show j + 6 ≤ 7293034; omega) (zc_addition_L (zz_sc g (x4 + 1).toNat) (zz_sc g (x4 + 2).toNat) (zz_sc g (x4 + 3).toNat) S (n) hn hfl G_S (by omega) (by omega) (by omega) H_S) (fun v479 S478 d480 hd480 hP => ?_)
  obtain ⟨G_S478, fS478, rv479, o481⟩ := hP
  have hn482 : zz_end ≤ n + d480 := by omega
  have hk483 : (k + zr_addition_L.cells) ≤ 601024 := by show k + 1 ≤ 601024; omega
  have hj484 : (j + zr_addition_L.slots) ≤ 7293034 := by show j + 6 ≤ 7293034; omega
  have H_S478 : zz_Hc S478 := o481
  have R_S478 : zz_Hr S478 := zz_Hr.fr fS478 rfl rfl (fun b q h => h.elim) R_S
  have O_S478 : 1 ≤ S478 1079 36 := by rw [show S478 1079 36 = S 1079 36 from zz_rc fS478 rfl rfl (fun h => h) rfl]; exact O_S
  refine zz_istore [some (.ref 998), some (.ref 1000), some (.ref 1079), some (.ref 1121), some (zi x4), some (zi v479)] zd_L_law_963 (by decide) rfl ?_
  refine zz_aload_n (x := 1079) rfl zd_L_law_965 ?_
  refine zz_aload_n (x := 998) rfl zd_L_law_966 ?_
  refine zz_iload (x := x4) rfl zd_L_law_967 ?_
  refine zz_iconst zd_L_law_969 ?_
  refine zz_iadd zd_L_law_970 ?_
  refine zz_sld (by omega) zd_L_law_971 (by omega) ?_
  refine zz_aload_n (x := 998) rfl zd_L_law_972 ?_
  refine zz_iload (x := x4) rfl zd_L_law_973 ?_
  refine zz_iconst zd_L_law_975 ?_
  refine zz_iadd zd_L_law_976 ?_
  refine zz_sld (by omega) zd_L_law_977 (by omega) ?_
  refine zz_aload_n (x := 998) rfl zd_L_law_978 ?_
  refine zz_iload (x := x4) rfl zd_L_law_979 ?_
  refine zz_iconst zd_L_law_981 ?_
  refine zz_iadd zd_L_law_982 ?_
  refine zz_sld (by omega) zd_L_law_983 (by omega) ?_
  have g485 := zz_G.r G_S 1079 36 0 11 rfl rfl
  have e486 : S478 1079 36 = S 1079 36 := (zz_rc fS478 rfl rfl (fun h => h) rfl)
  refine zz_callVI [zi (zz_sc g (x4 + 1).toNat), zi (zz_sc g (x4 + 2).toNat), zi (zz_sc g (x4 + 3).toNat)] zd_L_law_984 zk_TFLaw_178 zT_1079 (zz_ltn hn482 rfl) rfl rfl ⟨Nat.le_of_ble_eq_true rfl, Nat.le_of_ble_eq_true rfl⟩ ⟨rfl, rfl⟩ hk483 hj484 (zc_addition_14_70 (zz_sc g (x4 + 1).toNat) (zz_sc g (x4 + 2).toNat) (zz_sc g (x4 + 3).toNat) S478 (n + d480) hn482 G_S478 (by omega) (by omega) (by omega) R_S478) (fun v488 S487 hP => ?_)
  obtain ⟨G_S487, fS487, o489, o490, o491⟩ := hP
  have H_S487 : zz_Hc S487 := zz_Hc.fr (q := 0) fS487 rfl rfl G_S478 (by decide) rfl (fun b q h => by omega) H_S478
  have R_S487 : zz_Hr S487 := o491
  have O_S487 : 1 ≤ S487 1079 36 := by omega
  refine zz_istore [some (.ref 998), some (.ref 1000), some (.ref 1079), some (.ref 1121), some (zi x4), some (zi v479), some (zi v488)] zd_L_law_987 (by decide) rfl ?_
  refine zz_goto zd_L_law_989 ?_
  refine zz_iinc [some (.ref 998), some (.ref 1000), some (.ref 1079), some (.ref 1121), some (zi (x4 + 7)), some (zi v479), some (zi v488)] zd_L_law_1208 rfl rfl ?_
  refine zz_goto zd_L_law_1211 ?_
  refine zz_less (ls1 := [some (.ref 998), some (.ref 1000), some (.ref 1079), some (.ref 1121), some (zi (x4 + 7))]) ⟨rfl, ⟨rfl, ⟨rfl, ⟨rfl, ⟨rfl, trivial⟩⟩⟩⟩⟩ ?_
  have g492 := zz_G.r G_S 1070 1 0 1500 rfl rfl
  have e493 : S487 1070 1 = S 1070 1 := (zz_rc fS487 rfl rfl (by omega) (zz_rc fS478 rfl rfl (fun h => h) rfl))
  have g494 := zz_G.r G_S 1079 28 0 1500 rfl rfl
  have e495 : S487 1079 28 = S 1079 28 := (zz_rc fS487 rfl rfl (by omega) (zz_rc fS478 rfl rfl (fun h => h) rfl))
  have g496 := zz_G.r G_S 1031 6 2 8 rfl rfl
  have e497 : S487 1031 6 = S 1031 6 := (zz_rc fS487 rfl rfl (by omega) (zz_rc fS478 rfl rfl (fun h => h) rfl))
  have g498 := zz_G.r G_S 1079 1 2 8 rfl rfl
  have e499 : S487 1079 1 = S 1079 1 := (zz_rc fS487 rfl rfl (by omega) (zz_rc fS478 rfl rfl (fun h => h) rfl))
  exact ih (x4 + 7) S487 (n + d480) (k + zr_addition_L.cells) (j + zr_addition_L.slots) G_S487 H_S487 R_S487 O_S487 (by omega) (by omega) hn482 (by omega) (by show ((k + 1 : Nat) : Int) ≤ 200 + (x4 + 7); omega) (by show ((j + 6 : Nat) : Int) ≤ 30000 + 6 * (x4 + 7); omega) (by omega)
theorem zl_20 {g : mm_G} {l : Launch} (hfl : l.flags = flags0) (hlen : g.2.2.2 997 ≤ 3584) (N : Nat) (ih : ∀ (x4 : Int) (S : zz_S) (n k j : Nat), zz_G S → zz_Hc S → zz_Hr S → 1 ≤ S 1079 36 → S 1070 1 = S 1079 28 → S 1031 6 = S 1079 1 → zz_end ≤ n → (0 ≤ x4 ∧ x4 ≤ 3590) → (k : Int) ≤ 200 + x4 → (j : Int) ≤ 30000 + 6 * x4 → (3600 - x4).toNat < N → zz_E g l zy_law_L room_1 (fun u => ∃ M1 n1, u = (.inl (some (zi 1)), M1, n1)) S n 23 [some (.ref 998), some (.ref 1000), some (.ref 1079), some (.ref 1121), some (zi x4)] [] k j) (x4 : Int) (S : zz_S) (n k j : Nat) (G_S : zz_G S) (H_S : zz_Hc S) (R_S : zz_Hr S) (O_S : 1 ≤ S 1079 36) (T0_S : S 1070 1 = S 1079 28) (T1_S : S 1031 6 = S 1079 1) (hn : zz_end ≤ n) (hx : 0 ≤ x4 ∧ x4 ≤ 3590) (hkk : (k : Int) ≤ 200 + x4) (hjj : (j : Int) ≤ 30000 + 6 * x4) (hR : (3600 - x4).toNat < N + 1) (hc1 : x4 ≤ zz_ln g - 7) : zz_E g l zy_law_L room_1 (fun u => ∃ M1 n1, u = (.inl (some (zi 1)), M1, n1)) S n 992 [some (.ref 998), some (.ref 1000), some (.ref 1079), some (.ref 1121), some (zi x4)] [] k j := by
  have hln : 0 ≤ zz_ln g ∧ zz_ln g ≤ 3584 := ⟨Int.natCast_nonneg _, Int.ofNat_le.mpr hlen⟩
  have hk : k ≤ 601024 := by omega
  have hj : j ≤ 7293034 := by omega
  refine zz_aload_n (x := 1000) rfl zd_L_law_992 ?_
  refine zz_aload_n (x := 998) rfl zd_L_law_993 ?_
  refine zz_iload (x := x4) rfl zd_L_law_994 ?_
  refine zz_iconst zd_L_law_996 ?_
  refine zz_iadd zd_L_law_997 ?_
  refine zz_sld (by omega) zd_L_law_998 (by omega) ?_
  have g501 := zz_sc_r g (x4 + 1).toNat
  refine zz_aload_n (x := 998) rfl zd_L_law_999 ?_
  refine zz_iload (x := x4) rfl zd_L_law_1000 ?_
  refine zz_iconst zd_L_law_1002 ?_
  refine zz_iadd zd_L_law_1003 ?_
  refine zz_sld (by omega) zd_L_law_1004 (by omega) ?_
  have g502 := zz_sc_r g (x4 + 2).toNat
  refine zz_aload_n (x := 1121) rfl zd_L_law_1005 ?_
  refine zz_callHW (rz := zr_form_L) [.ref 1000, zi (zz_sc g (x4 + 1).toNat), zi (zz_sc g (x4 + 2).toNat), .ref 1121] zd_L_law_1006 zhl_form_L rfl rfl ⟨Nat.le_of_ble_eq_true rfl, Nat.le_of_ble_eq_true rfl⟩ (by show k + 1 ≤ 601024; omega) (by show j + 6 ≤ 7293034; omega) (zc_form_L (zz_sc g (x4 + 1).toNat) (zz_sc g (x4 + 2).toNat) S (n) hn hfl G_S (by omega) (by omega)) (fun v504 S503 d505 hd505 hP => ?_)
  obtain ⟨G_S503, fS503, rv504⟩ := hP
  have hn506 : zz_end ≤ n + d505 := by omega
  have hk507 : (k + zr_form_L.cells) ≤ 601024 := by show k + 1 ≤ 601024; omega
  have hj508 : (j + zr_form_L.slots) ≤ 7293034 := by show j + 6 ≤ 7293034; omega
  have H_S503 : zz_Hc S503 := zz_Hc.fr (q := 0) fS503 rfl rfl G_S (by decide) rfl (fun b q h => h.elim) H_S
  have R_S503 : zz_Hr S503 := zz_Hr.fr fS503 rfl rfl (fun b q h => h.elim) R_S
  have O_S503 : 1 ≤ S503 1079 36 := by rw [show S503 1079 36 = S 1079 36 from zz_rc fS503 rfl rfl (fun h => h) rfl]; exact O_S
  refine zz_istore [some (.ref 998), some (.ref 1000), some (.ref 1079), some (.ref 1121), some (zi x4), some (zi v504)] zd_L_law_1009 (by decide) rfl ?_
  refine zz_aload_n (x := 1079) rfl zd_L_law_1011 ?_
  refine zz_aload_n (x := 998) rfl zd_L_law_1012 ?_
  refine zz_iload (x := x4) rfl zd_L_law_1013 ?_
  refine zz_iconst zd_L_law_1015 ?_
  refine zz_iadd zd_L_law_1016 ?_
  refine zz_sld (by omega) zd_L_law_1017 (by omega) ?_
  refine zz_aload_n (x := 998) rfl zd_L_law_1018 ?_
  refine zz_iload (x := x4) rfl zd_L_law_1019 ?_
  refine zz_iconst zd_L_law_1021 ?_
  refine zz_iadd zd_L_law_1022 ?_
  refine zz_sld (by omega) zd_L_law_1023 (by omega) ?_
  refine zz_callVI [zi (zz_sc g (x4 + 1).toNat), zi (zz_sc g (x4 + 2).toNat)] zd_L_law_1024 zk_TFLaw_181 zT_1079 (zz_ltn hn506 rfl) rfl rfl ⟨Nat.le_of_ble_eq_true rfl, Nat.le_of_ble_eq_true rfl⟩ ⟨rfl, rfl⟩ hk507 hj508 (zc_form_14_71 (zz_sc g (x4 + 1).toNat) (zz_sc g (x4 + 2).toNat) S503 (n + d505) hn506 G_S503 (by omega) (by omega)) (fun v510 S509 hP => ?_)
  obtain ⟨G_S509, fS509, o511⟩ := hP
  have H_S509 : zz_Hc S509 := zz_Hc.fr (q := 0) fS509 rfl rfl G_S503 (by decide) rfl (fun b q h => h.elim) H_S503
  have R_S509 : zz_Hr S509 := zz_Hr.fr fS509 rfl rfl (fun b q h => h.elim) R_S503
  have O_S509 : 1 ≤ S509 1079 36 := by rw [show S509 1079 36 = S503 1079 36 from zz_rc fS509 rfl rfl (fun h => h) rfl]; exact O_S503
  refine zz_istore [some (.ref 998), some (.ref 1000), some (.ref 1079), some (.ref 1121), some (zi x4), some (zi v504), some (zi v510)] zd_L_law_1027 (by decide) rfl ?_
  refine zz_goto zd_L_law_1029 ?_
  refine zz_iinc [some (.ref 998), some (.ref 1000), some (.ref 1079), some (.ref 1121), some (zi (x4 + 7)), some (zi v504), some (zi v510)] zd_L_law_1208 rfl rfl ?_
  refine zz_goto zd_L_law_1211 ?_
  refine zz_less (ls1 := [some (.ref 998), some (.ref 1000), some (.ref 1079), some (.ref 1121), some (zi (x4 + 7))]) ⟨rfl, ⟨rfl, ⟨rfl, ⟨rfl, ⟨rfl, trivial⟩⟩⟩⟩⟩ ?_
  have g512 := zz_G.r G_S 1070 1 0 1500 rfl rfl
  have e513 : S509 1070 1 = S 1070 1 := (zz_rc fS509 rfl rfl (fun h => h) (zz_rc fS503 rfl rfl (fun h => h) rfl))
  have g514 := zz_G.r G_S 1079 28 0 1500 rfl rfl
  have e515 : S509 1079 28 = S 1079 28 := (zz_rc fS509 rfl rfl (fun h => h) (zz_rc fS503 rfl rfl (fun h => h) rfl))
  have g516 := zz_G.r G_S 1031 6 2 8 rfl rfl
  have e517 : S509 1031 6 = S 1031 6 := (zz_rc fS509 rfl rfl (fun h => h) (zz_rc fS503 rfl rfl (fun h => h) rfl))
  have g518 := zz_G.r G_S 1079 1 2 8 rfl rfl
  have e519 : S509 1079 1 = S 1079 1 := (zz_rc fS509 rfl rfl (fun h => h) (zz_rc fS503 rfl rfl (fun h => h) rfl))
  exact ih (x4 + 7) S509 (n + d505) (k + zr_form_L.cells) (j + zr_form_L.slots) G_S509 H_S509 R_S509 O_S509 (by omega) (by omega) hn506 (by omega) (by show ((k + 1 : Nat) : Int) ≤ 200 + (x4 + 7); omega) (by show ((j + 6 : Nat) : Int) ≤ 30000 + 6 * (x4 + 7); omega) (by omega)
theorem zl_21 {g : mm_G} {l : Launch} (hfl : l.flags = flags0) (hlen : g.2.2.2 997 ≤ 3584) (N : Nat) (ih : ∀ (x4 : Int) (S : zz_S) (n k j : Nat), zz_G S → zz_Hc S → zz_Hr S → 1 ≤ S 1079 36 → S 1070 1 = S 1079 28 → S 1031 6 = S 1079 1 → zz_end ≤ n → (0 ≤ x4 ∧ x4 ≤ 3590) → (k : Int) ≤ 200 + x4 → (j : Int) ≤ 30000 + 6 * x4 → (3600 - x4).toNat < N → zz_E g l zy_law_L room_1 (fun u => ∃ M1 n1, u = (.inl (some (zi 1)), M1, n1)) S n 23 [some (.ref 998), some (.ref 1000), some (.ref 1079), some (.ref 1121), some (zi x4)] [] k j) (x4 : Int) (S : zz_S) (n k j : Nat) (G_S : zz_G S) (H_S : zz_Hc S) (R_S : zz_Hr S) (O_S : 1 ≤ S 1079 36) (T0_S : S 1070 1 = S 1079 28) (T1_S : S 1031 6 = S 1079 1) (hn : zz_end ≤ n) (hx : 0 ≤ x4 ∧ x4 ≤ 3590) (hkk : (k : Int) ≤ 200 + x4) (hjj : (j : Int) ≤ 30000 + 6 * x4) (hR : (3600 - x4).toNat < N + 1) (hc1 : x4 ≤ zz_ln g - 7) : zz_E g l zy_law_L room_1 (fun u => ∃ M1 n1, u = (.inl (some (zi 1)), M1, n1)) S n 1032 [some (.ref 998), some (.ref 1000), some (.ref 1079), some (.ref 1121), some (zi x4)] [] k j := by
  have hln : 0 ≤ zz_ln g ∧ zz_ln g ≤ 3584 := ⟨Int.natCast_nonneg _, Int.ofNat_le.mpr hlen⟩
  have hk : k ≤ 601024 := by omega
  have hj : j ≤ 7293034 := by omega
  refine zz_aload_n (x := 1000) rfl zd_L_law_1032 ?_
  refine zz_aload_n (x := 1121) rfl zd_L_law_1033 ?_
  refine zz_callHW (rz := zr_compile_L) [.ref 1000, .ref 1121] zd_L_law_1034 zhl_compile_L rfl rfl ⟨Nat.le_of_ble_eq_true rfl, Nat.le_of_ble_eq_true rfl⟩ (by show k + 1 ≤ 601024; omega) (by show j + 6 ≤ 7293034; omega) (zc_compile_L  S (n) hn hfl G_S H_S) (fun v522 S521 d523 hd523 hP => ?_)
  obtain ⟨G_S521, fS521, rv522, o524⟩ := hP
  have hn525 : zz_end ≤ n + d523 := by omega
  have hk526 : (k + zr_compile_L.cells) ≤ 601024 := by show k + 1 ≤ 601024; omega
  have hj527 : (j + zr_compile_L.slots) ≤ 7293034 := by show j + 6 ≤ 7293034; omega
  have H_S521 : zz_Hc S521 := o524
  have R_S521 : zz_Hr S521 := zz_Hr.fr fS521 rfl rfl (fun b q h => h.elim) R_S
  have O_S521 : 1 ≤ S521 1079 36 := by rw [show S521 1079 36 = S 1079 36 from zz_rc fS521 rfl rfl (fun h => h) rfl]; exact O_S
  refine zz_istore [some (.ref 998), some (.ref 1000), some (.ref 1079), some (.ref 1121), some (zi x4), some (zi v522)] zd_L_law_1037 (by decide) rfl ?_
  refine zz_aload_n (x := 1079) rfl zd_L_law_1039 ?_
  refine zz_callVI [] zd_L_law_1040 zk_TFLaw_185 zT_1079 (zz_ltn hn525 rfl) rfl rfl ⟨Nat.le_of_ble_eq_true rfl, Nat.le_of_ble_eq_true rfl⟩ ⟨rfl, rfl⟩ hk526 hj527 (zc_compile_14_89  S521 (n + d523) hn525 G_S521 ) (fun v529 S528 hP => ?_)
  obtain ⟨G_S528, fS528, o530⟩ := hP
  have H_S528 : zz_Hc S528 := zz_Hc.fr (q := 0) fS528 rfl rfl G_S521 (by decide) rfl (fun b q h => h.elim) H_S521
  have R_S528 : zz_Hr S528 := zz_Hr.fr fS528 rfl rfl (fun b q h => h.elim) R_S521
  have O_S528 : 1 ≤ S528 1079 36 := by rw [show S528 1079 36 = S521 1079 36 from zz_rc fS528 rfl rfl (fun h => h) rfl]; exact O_S521
  refine zz_istore [some (.ref 998), some (.ref 1000), some (.ref 1079), some (.ref 1121), some (zi x4), some (zi v522), some (zi v529)] zd_L_law_1043 (by decide) rfl ?_
  refine zz_goto zd_L_law_1045 ?_
  refine zz_iinc [some (.ref 998), some (.ref 1000), some (.ref 1079), some (.ref 1121), some (zi (x4 + 7)), some (zi v522), some (zi v529)] zd_L_law_1208 rfl rfl ?_
  refine zz_goto zd_L_law_1211 ?_
  refine zz_less (ls1 := [some (.ref 998), some (.ref 1000), some (.ref 1079), some (.ref 1121), some (zi (x4 + 7))]) ⟨rfl, ⟨rfl, ⟨rfl, ⟨rfl, ⟨rfl, trivial⟩⟩⟩⟩⟩ ?_
  have g531 := zz_G.r G_S 1070 1 0 1500 rfl rfl
  have e532 : S528 1070 1 = S 1070 1 := (zz_rc fS528 rfl rfl (fun h => h) (zz_rc fS521 rfl rfl (fun h => h) rfl))
  have g533 := zz_G.r G_S 1079 28 0 1500 rfl rfl
  have e534 : S528 1079 28 = S 1079 28 := (zz_rc fS528 rfl rfl (fun h => h) (zz_rc fS521 rfl rfl (fun h => h) rfl))
  have g535 := zz_G.r G_S 1031 6 2 8 rfl rfl
  have e536 : S528 1031 6 = S 1031 6 := (zz_rc fS528 rfl rfl (fun h => h) (zz_rc fS521 rfl rfl (fun h => h) rfl))
  have g537 := zz_G.r G_S 1079 1 2 8 rfl rfl
  have e538 : S528 1079 1 = S 1079 1 := (zz_rc fS528 rfl rfl (fun h => h) (zz_rc fS521 rfl rfl (fun h => h) rfl))
  exact ih (x4 + 7) S528 (n + d523) (k + zr_compile_L.cells) (j + zr_compile_L.slots) G_S528 H_S528 R_S528 O_S528 (by omega) (by omega) hn525 (by omega) (by show ((k + 1 : Nat) : Int) ≤ 200 + (x4 + 7); omega) (by show ((j + 6 : Nat) : Int) ≤ 30000 + 6 * (x4 + 7); omega) (by omega)
theorem zl_22 {g : mm_G} {l : Launch} (hfl : l.flags = flags0) (hlen : g.2.2.2 997 ≤ 3584) (N : Nat) (ih : ∀ (x4 : Int) (S : zz_S) (n k j : Nat), zz_G S → zz_Hc S → zz_Hr S → 1 ≤ S 1079 36 → S 1070 1 = S 1079 28 → S 1031 6 = S 1079 1 → zz_end ≤ n → (0 ≤ x4 ∧ x4 ≤ 3590) → (k : Int) ≤ 200 + x4 → (j : Int) ≤ 30000 + 6 * x4 → (3600 - x4).toNat < N → zz_E g l zy_law_L room_1 (fun u => ∃ M1 n1, u = (.inl (some (zi 1)), M1, n1)) S n 23 [some (.ref 998), some (.ref 1000), some (.ref 1079), some (.ref 1121), some (zi x4)] [] k j) (x4 : Int) (S : zz_S) (n k j : Nat) (G_S : zz_G S) (H_S : zz_Hc S) (R_S : zz_Hr S) (O_S : 1 ≤ S 1079 36) (T0_S : S 1070 1 = S 1079 28) (T1_S : S 1031 6 = S 1079 1) (hn : zz_end ≤ n) (hx : 0 ≤ x4 ∧ x4 ≤ 3590) (hkk : (k : Int) ≤ 200 + x4) (hjj : (j : Int) ≤ 30000 + 6 * x4) (hR : (3600 - x4).toNat < N + 1) (hc1 : x4 ≤ zz_ln g - 7) : zz_E g l zy_law_L room_1 (fun u => ∃ M1 n1, u = (.inl (some (zi 1)), M1, n1)) S n 1048 [some (.ref 998), some (.ref 1000), some (.ref 1079), some (.ref 1121), some (zi x4)] [] k j := by
  have hln : 0 ≤ zz_ln g ∧ zz_ln g ≤ 3584 := ⟨Int.natCast_nonneg _, Int.ofNat_le.mpr hlen⟩
  have hk : k ≤ 601024 := by omega
  have hj : j ≤ 7293034 := by omega
  refine zz_aload_n (x := 1000) rfl zd_L_law_1048 ?_
  refine zz_callVV [] zd_L_law_1049 zk_TFLaw_186 zT_1000 (zz_ltn hn rfl) rfl rfl ⟨Nat.le_of_ble_eq_true rfl, Nat.le_of_ble_eq_true rfl⟩ ⟨rfl, rfl⟩ hk hj (zc_reckon_1_24  S (n) hn G_S ) (fun S540 hP => ?_)
  obtain ⟨G_S540, fS540⟩ := hP
  have H_S540 : zz_Hc S540 := zz_Hc.fr (q := 0) fS540 rfl rfl G_S (by decide) rfl (fun b q h => h.elim) H_S
  have R_S540 : zz_Hr S540 := zz_Hr.fr fS540 rfl rfl (fun b q h => h.elim) R_S
  have O_S540 : 1 ≤ S540 1079 36 := by rw [show S540 1079 36 = S 1079 36 from zz_rc fS540 rfl rfl (fun h => h) rfl]; exact O_S
  refine zz_aload_n (x := 1079) rfl zd_L_law_1052 ?_
  refine zz_callVV [] zd_L_law_1053 zk_TFLaw_189 zT_1079 (zz_ltn hn rfl) rfl rfl ⟨Nat.le_of_ble_eq_true rfl, Nat.le_of_ble_eq_true rfl⟩ ⟨rfl, rfl⟩ hk hj (zc_reckon_14_76  S540 (n) hn G_S540 R_S540) (fun S542 hP => ?_)
  obtain ⟨G_S542, fS542, o544⟩ := hP
  have H_S542 : zz_Hc S542 := zz_Hc.fr (q := 0) fS542 rfl rfl G_S540 (by decide) rfl (fun b q h => h.elim) H_S540
  have R_S542 : zz_Hr S542 := o544
  have O_S542 : 1 ≤ S542 1079 36 := by rw [show S542 1079 36 = S540 1079 36 from zz_rc fS542 rfl rfl (fun h => h) rfl]; exact O_S540
  refine zz_goto zd_L_law_1056 ?_
  refine zz_iinc [some (.ref 998), some (.ref 1000), some (.ref 1079), some (.ref 1121), some (zi (x4 + 7))] zd_L_law_1208 rfl rfl ?_
  refine zz_goto zd_L_law_1211 ?_
  refine zz_less (ls1 := [some (.ref 998), some (.ref 1000), some (.ref 1079), some (.ref 1121), some (zi (x4 + 7))]) ⟨rfl, ⟨rfl, ⟨rfl, ⟨rfl, ⟨rfl, trivial⟩⟩⟩⟩⟩ ?_
  have g545 := zz_G.r G_S 1070 1 0 1500 rfl rfl
  have e546 : S542 1070 1 = S 1070 1 := (zz_rc fS542 rfl rfl (fun h => h) (zz_rc fS540 rfl rfl (fun h => h) rfl))
  have g547 := zz_G.r G_S 1079 28 0 1500 rfl rfl
  have e548 : S542 1079 28 = S 1079 28 := (zz_rc fS542 rfl rfl (fun h => h) (zz_rc fS540 rfl rfl (fun h => h) rfl))
  have g549 := zz_G.r G_S 1031 6 2 8 rfl rfl
  have e550 : S542 1031 6 = S 1031 6 := (zz_rc fS542 rfl rfl (fun h => h) (zz_rc fS540 rfl rfl (fun h => h) rfl))
  have g551 := zz_G.r G_S 1079 1 2 8 rfl rfl
  have e552 : S542 1079 1 = S 1079 1 := (zz_rc fS542 rfl rfl (fun h => h) (zz_rc fS540 rfl rfl (fun h => h) rfl))
  exact ih (x4 + 7) S542 (n) k j G_S542 H_S542 R_S542 O_S542 (by omega) (by omega) hn (by omega) (by show ((k : Nat) : Int) ≤ 200 + (x4 + 7); omega) (by show ((j : Nat) : Int) ≤ 30000 + 6 * (x4 + 7); omega) (by omega)
theorem zl_23 {g : mm_G} {l : Launch} (hfl : l.flags = flags0) (hlen : g.2.2.2 997 ≤ 3584) (N : Nat) (ih : ∀ (x4 : Int) (S : zz_S) (n k j : Nat), zz_G S → zz_Hc S → zz_Hr S → 1 ≤ S 1079 36 → S 1070 1 = S 1079 28 → S 1031 6 = S 1079 1 → zz_end ≤ n → (0 ≤ x4 ∧ x4 ≤ 3590) → (k : Int) ≤ 200 + x4 → (j : Int) ≤ 30000 + 6 * x4 → (3600 - x4).toNat < N → zz_E g l zy_law_L room_1 (fun u => ∃ M1 n1, u = (.inl (some (zi 1)), M1, n1)) S n 23 [some (.ref 998), some (.ref 1000), some (.ref 1079), some (.ref 1121), some (zi x4)] [] k j) (x4 : Int) (S : zz_S) (n k j : Nat) (G_S : zz_G S) (H_S : zz_Hc S) (R_S : zz_Hr S) (O_S : 1 ≤ S 1079 36) (T0_S : S 1070 1 = S 1079 28) (T1_S : S 1031 6 = S 1079 1) (hn : zz_end ≤ n) (hx : 0 ≤ x4 ∧ x4 ≤ 3590) (hkk : (k : Int) ≤ 200 + x4) (hjj : (j : Int) ≤ 30000 + 6 * x4) (hR : (3600 - x4).toNat < N + 1) (hc1 : x4 ≤ zz_ln g - 7) : zz_E g l zy_law_L room_1 (fun u => ∃ M1 n1, u = (.inl (some (zi 1)), M1, n1)) S n 1059 [some (.ref 998), some (.ref 1000), some (.ref 1079), some (.ref 1121), some (zi x4)] [] k j := by
  have hln : 0 ≤ zz_ln g ∧ zz_ln g ≤ 3584 := ⟨Int.natCast_nonneg _, Int.ofNat_le.mpr hlen⟩
  have hk : k ≤ 601024 := by omega
  have hj : j ≤ 7293034 := by omega
  refine zz_aload_n (x := 1000) rfl zd_L_law_1059 ?_
  refine zz_callVI [] zd_L_law_1060 zk_TFLaw_190 zT_1000 (zz_ltn hn rfl) rfl rfl ⟨Nat.le_of_ble_eq_true rfl, Nat.le_of_ble_eq_true rfl⟩ ⟨rfl, rfl⟩ hk hj (zc_network_1_25  S (n) hn G_S H_S) (fun v555 S554 hP => ?_)
  obtain ⟨G_S554, fS554, o556, o557⟩ := hP
  have H_S554 : zz_Hc S554 := o557
  have R_S554 : zz_Hr S554 := zz_Hr.fr fS554 rfl rfl (fun b q h => h.elim) R_S
  have O_S554 : 1 ≤ S554 1079 36 := by rw [show S554 1079 36 = S 1079 36 from zz_rc fS554 rfl rfl (fun h => h) rfl]; exact O_S
  refine zz_pop rfl zd_L_law_1063 ?_
  refine zz_aload_n (x := 1079) rfl zd_L_law_1064 ?_
  have g558 := zz_G.r G_S 1079 36 0 11 rfl rfl
  have e559 : S554 1079 36 = S 1079 36 := (zz_rc fS554 rfl rfl (fun h => h) rfl)
  refine zz_callVI [] zd_L_law_1065 zk_TFLaw_193 zT_1079 (zz_ltn hn rfl) rfl rfl ⟨Nat.le_of_ble_eq_true rfl, Nat.le_of_ble_eq_true rfl⟩ ⟨rfl, rfl⟩ hk hj (zc_network_14_105  S554 (n) hn G_S554 R_S554 (by omega)) (fun v561 S560 hP => ?_)
  obtain ⟨G_S560, fS560, o562, o563, o564⟩ := hP
  have H_S560 : zz_Hc S560 := zz_Hc.fr (q := 0) fS560 rfl rfl G_S554 (by decide) rfl (fun b q h => h.elim) H_S554
  have R_S560 : zz_Hr S560 := o564
  have O_S560 : 1 ≤ S560 1079 36 := by omega
  refine zz_pop rfl zd_L_law_1068 ?_
  refine zz_goto zd_L_law_1069 ?_
  refine zz_iinc [some (.ref 998), some (.ref 1000), some (.ref 1079), some (.ref 1121), some (zi (x4 + 7))] zd_L_law_1208 rfl rfl ?_
  refine zz_goto zd_L_law_1211 ?_
  refine zz_less (ls1 := [some (.ref 998), some (.ref 1000), some (.ref 1079), some (.ref 1121), some (zi (x4 + 7))]) ⟨rfl, ⟨rfl, ⟨rfl, ⟨rfl, ⟨rfl, trivial⟩⟩⟩⟩⟩ ?_
  have g565 := zz_G.r G_S 1070 1 0 1500 rfl rfl
  have e566 : S560 1070 1 = S 1070 1 := (zz_rc fS560 rfl rfl (fun h => h) (zz_rc fS554 rfl rfl (fun h => h) rfl))
  have g567 := zz_G.r G_S 1079 28 0 1500 rfl rfl
  have e568 : S560 1079 28 = S 1079 28 := (zz_rc fS560 rfl rfl (fun h => h) (zz_rc fS554 rfl rfl (fun h => h) rfl))
  have g569 := zz_G.r G_S 1031 6 2 8 rfl rfl
  have e570 : S560 1031 6 = S 1031 6 := (zz_rc fS560 rfl rfl (fun h => h) (zz_rc fS554 rfl rfl (fun h => h) rfl))
  have g571 := zz_G.r G_S 1079 1 2 8 rfl rfl
  have e572 : S560 1079 1 = S 1079 1 := (zz_rc fS560 rfl rfl (fun h => h) (zz_rc fS554 rfl rfl (fun h => h) rfl))
  exact ih (x4 + 7) S560 (n) k j G_S560 H_S560 R_S560 O_S560 (by omega) (by omega) hn (by omega) (by show ((k : Nat) : Int) ≤ 200 + (x4 + 7); omega) (by show ((j : Nat) : Int) ≤ 30000 + 6 * (x4 + 7); omega) (by omega)
theorem zl_24 {g : mm_G} {l : Launch} (hfl : l.flags = flags0) (hlen : g.2.2.2 997 ≤ 3584) (N : Nat) (ih : ∀ (x4 : Int) (S : zz_S) (n k j : Nat), zz_G S → zz_Hc S → zz_Hr S → 1 ≤ S 1079 36 → S 1070 1 = S 1079 28 → S 1031 6 = S 1079 1 → zz_end ≤ n → (0 ≤ x4 ∧ x4 ≤ 3590) → (k : Int) ≤ 200 + x4 → (j : Int) ≤ 30000 + 6 * x4 → (3600 - x4).toNat < N → zz_E g l zy_law_L room_1 (fun u => ∃ M1 n1, u = (.inl (some (zi 1)), M1, n1)) S n 23 [some (.ref 998), some (.ref 1000), some (.ref 1079), some (.ref 1121), some (zi x4)] [] k j) (x4 : Int) (S : zz_S) (n k j : Nat) (G_S : zz_G S) (H_S : zz_Hc S) (R_S : zz_Hr S) (O_S : 1 ≤ S 1079 36) (T0_S : S 1070 1 = S 1079 28) (T1_S : S 1031 6 = S 1079 1) (hn : zz_end ≤ n) (hx : 0 ≤ x4 ∧ x4 ≤ 3590) (hkk : (k : Int) ≤ 200 + x4) (hjj : (j : Int) ≤ 30000 + 6 * x4) (hR : (3600 - x4).toNat < N + 1) (hc1 : x4 ≤ zz_ln g - 7) : zz_E g l zy_law_L room_1 (fun u => ∃ M1 n1, u = (.inl (some (zi 1)), M1, n1)) S n 1072 [some (.ref 998), some (.ref 1000), some (.ref 1079), some (.ref 1121), some (zi x4)] [] k j := by
  have hln : 0 ≤ zz_ln g ∧ zz_ln g ≤ 3584 := ⟨Int.natCast_nonneg _, Int.ofNat_le.mpr hlen⟩
  have hk : k ≤ 601024 := by omega
  have hj : j ≤ 7293034 := by omega
  refine zz_aload_n (x := 1000) rfl zd_L_law_1072 ?_
  refine zz_aload_n (x := 998) rfl zd_L_law_1073 ?_
  refine zz_iload (x := x4) rfl zd_L_law_1074 ?_
  refine zz_iconst zd_L_law_1076 ?_
  refine zz_iadd zd_L_law_1077 ?_
  refine zz_sld (by omega) zd_L_law_1078 (by omega) ?_
  have g574 := zz_sc_r g (x4 + 1).toNat
  refine zz_aload_n (x := 998) rfl zd_L_law_1079 ?_
  refine zz_iload (x := x4) rfl zd_L_law_1080 ?_
  refine zz_iconst zd_L_law_1082 ?_
  refine zz_iadd zd_L_law_1083 ?_
  refine zz_sld (by omega) zd_L_law_1084 (by omega) ?_
  have g575 := zz_sc_r g (x4 + 2).toNat
  refine zz_aload_n (x := 1121) rfl zd_L_law_1085 ?_
  refine zz_callHW (rz := zr_networkSign_L) [.ref 1000, zi (zz_sc g (x4 + 1).toNat), zi (zz_sc g (x4 + 2).toNat), .ref 1121] zd_L_law_1086 zhl_networkSign_L rfl rfl ⟨Nat.le_of_ble_eq_true rfl, Nat.le_of_ble_eq_true rfl⟩ (by show k + 1 ≤ 601024; omega) (by show j + 6 ≤ 7293034; omega) (zc_networkSign_L (zz_sc g (x4 + 1).toNat) (zz_sc g (x4 + 2).toNat) S (n) hn hfl G_S (by omega) (by omega)) (fun v577 S576 d578 hd578 hP => ?_)
  obtain ⟨G_S576, fS576, rv577⟩ := hP
  have hn579 : zz_end ≤ n + d578 := by omega
  have hk580 : (k + zr_networkSign_L.cells) ≤ 601024 := by show k + 1 ≤ 601024; omega
  have hj581 : (j + zr_networkSign_L.slots) ≤ 7293034 := by show j + 6 ≤ 7293034; omega
  have H_S576 : zz_Hc S576 := zz_Hc.fr (q := 0) fS576 rfl rfl G_S (by decide) rfl (fun b q h => h.elim) H_S
  have R_S576 : zz_Hr S576 := zz_Hr.fr fS576 rfl rfl (fun b q h => h.elim) R_S
  have O_S576 : 1 ≤ S576 1079 36 := by rw [show S576 1079 36 = S 1079 36 from zz_rc fS576 rfl rfl (fun h => h) rfl]; exact O_S
  refine zz_istore [some (.ref 998), some (.ref 1000), some (.ref 1079), some (.ref 1121), some (zi x4), some (zi v577)] zd_L_law_1089 (by decide) rfl ?_
  refine zz_aload_n (x := 1079) rfl zd_L_law_1091 ?_
  refine zz_aload_n (x := 998) rfl zd_L_law_1092 ?_
  refine zz_iload (x := x4) rfl zd_L_law_1093 ?_
  refine zz_iconst zd_L_law_1095 ?_
  refine zz_iadd zd_L_law_1096 ?_
  refine zz_sld (by omega) zd_L_law_1097 (by omega) ?_
  refine zz_aload_n (x := 998) rfl zd_L_law_1098 ?_
  refine zz_iload (x := x4) rfl zd_L_law_1099 ?_
  refine zz_iconst zd_L_law_1101 ?_
  refine zz_iadd zd_L_law_1102 ?_
  refine zz_sld (by omega) zd_L_law_1103 (by omega) ?_
  refine zz_callVI [zi (zz_sc g (x4 + 1).toNat), zi (zz_sc g (x4 + 2).toNat)] zd_L_law_1104 zk_TFLaw_196 zT_1079 (zz_ltn hn579 rfl) rfl rfl ⟨Nat.le_of_ble_eq_true rfl, Nat.le_of_ble_eq_true rfl⟩ ⟨rfl, rfl⟩ hk580 hj581 (zc_networkSign_14_109 (zz_sc g (x4 + 1).toNat) (zz_sc g (x4 + 2).toNat) S576 (n + d578) hn579 G_S576 (by omega) (by omega)) (fun v583 S582 hP => ?_)
  obtain ⟨G_S582, fS582, o584⟩ := hP
  have H_S582 : zz_Hc S582 := zz_Hc.fr (q := 0) fS582 rfl rfl G_S576 (by decide) rfl (fun b q h => h.elim) H_S576
  have R_S582 : zz_Hr S582 := zz_Hr.fr fS582 rfl rfl (fun b q h => h.elim) R_S576
  have O_S582 : 1 ≤ S582 1079 36 := by rw [show S582 1079 36 = S576 1079 36 from zz_rc fS582 rfl rfl (fun h => h) rfl]; exact O_S576
  refine zz_istore [some (.ref 998), some (.ref 1000), some (.ref 1079), some (.ref 1121), some (zi x4), some (zi v577), some (zi v583)] zd_L_law_1107 (by decide) rfl ?_
  refine zz_goto zd_L_law_1109 ?_
  refine zz_iinc [some (.ref 998), some (.ref 1000), some (.ref 1079), some (.ref 1121), some (zi (x4 + 7)), some (zi v577), some (zi v583)] zd_L_law_1208 rfl rfl ?_
  refine zz_goto zd_L_law_1211 ?_
  refine zz_less (ls1 := [some (.ref 998), some (.ref 1000), some (.ref 1079), some (.ref 1121), some (zi (x4 + 7))]) ⟨rfl, ⟨rfl, ⟨rfl, ⟨rfl, ⟨rfl, trivial⟩⟩⟩⟩⟩ ?_
  have g585 := zz_G.r G_S 1070 1 0 1500 rfl rfl
  have e586 : S582 1070 1 = S 1070 1 := (zz_rc fS582 rfl rfl (fun h => h) (zz_rc fS576 rfl rfl (fun h => h) rfl))
  have g587 := zz_G.r G_S 1079 28 0 1500 rfl rfl
  have e588 : S582 1079 28 = S 1079 28 := (zz_rc fS582 rfl rfl (fun h => h) (zz_rc fS576 rfl rfl (fun h => h) rfl))
  have g589 := zz_G.r G_S 1031 6 2 8 rfl rfl
  have e590 : S582 1031 6 = S 1031 6 := (zz_rc fS582 rfl rfl (fun h => h) (zz_rc fS576 rfl rfl (fun h => h) rfl))
  have g591 := zz_G.r G_S 1079 1 2 8 rfl rfl
  have e592 : S582 1079 1 = S 1079 1 := (zz_rc fS582 rfl rfl (fun h => h) (zz_rc fS576 rfl rfl (fun h => h) rfl))
  exact ih (x4 + 7) S582 (n + d578) (k + zr_networkSign_L.cells) (j + zr_networkSign_L.slots) G_S582 H_S582 R_S582 O_S582 (by omega) (by omega) hn579 (by omega) (by show ((k + 1 : Nat) : Int) ≤ 200 + (x4 + 7); omega) (by show ((j + 6 : Nat) : Int) ≤ 30000 + 6 * (x4 + 7); omega) (by omega)
theorem zl_25 {g : mm_G} {l : Launch} (hfl : l.flags = flags0) (hlen : g.2.2.2 997 ≤ 3584) (N : Nat) (ih : ∀ (x4 : Int) (S : zz_S) (n k j : Nat), zz_G S → zz_Hc S → zz_Hr S → 1 ≤ S 1079 36 → S 1070 1 = S 1079 28 → S 1031 6 = S 1079 1 → zz_end ≤ n → (0 ≤ x4 ∧ x4 ≤ 3590) → (k : Int) ≤ 200 + x4 → (j : Int) ≤ 30000 + 6 * x4 → (3600 - x4).toNat < N → zz_E g l zy_law_L room_1 (fun u => ∃ M1 n1, u = (.inl (some (zi 1)), M1, n1)) S n 23 [some (.ref 998), some (.ref 1000), some (.ref 1079), some (.ref 1121), some (zi x4)] [] k j) (x4 : Int) (S : zz_S) (n k j : Nat) (G_S : zz_G S) (H_S : zz_Hc S) (R_S : zz_Hr S) (O_S : 1 ≤ S 1079 36) (T0_S : S 1070 1 = S 1079 28) (T1_S : S 1031 6 = S 1079 1) (hn : zz_end ≤ n) (hx : 0 ≤ x4 ∧ x4 ≤ 3590) (hkk : (k : Int) ≤ 200 + x4) (hjj : (j : Int) ≤ 30000 + 6 * x4) (hR : (3600 - x4).toNat < N + 1) (hc1 : x4 ≤ zz_ln g - 7) : zz_E g l zy_law_L room_1 (fun u => ∃ M1 n1, u = (.inl (some (zi 1)), M1, n1)) S n 1112 [some (.ref 998), some (.ref 1000), some (.ref 1079), some (.ref 1121), some (zi x4)] [] k j := by
  have hln : 0 ≤ zz_ln g ∧ zz_ln g ≤ 3584 := ⟨Int.natCast_nonneg _, Int.ofNat_le.mpr hlen⟩
  have hk : k ≤ 601024 := by omega
  have hj : j ≤ 7293034 := by omega
  refine zz_aload_n (x := 1000) rfl zd_L_law_1112 ?_
  refine zz_aload_n (x := 1121) rfl zd_L_law_1113 ?_
  refine zz_callHW (rz := zr_place_L) [.ref 1000, .ref 1121] zd_L_law_1114 zhl_place_L rfl rfl ⟨Nat.le_of_ble_eq_true rfl, Nat.le_of_ble_eq_true rfl⟩ (by show k + 1 ≤ 601024; omega) (by show j + 6 ≤ 7293034; omega) (zc_place_L  S (n) hn hfl G_S ) (fun v595 S594 d596 hd596 hP => ?_)
  obtain ⟨G_S594, fS594, rv595⟩ := hP
  have g597 := zz_G.r G_S 1000 7 0 1 rfl rfl
  have hn598 : zz_end ≤ n + d596 := by omega
  have hk599 : (k + zr_place_L.cells) ≤ 601024 := by show k + 1 ≤ 601024; omega
  have hj600 : (j + zr_place_L.slots) ≤ 7293034 := by show j + 6 ≤ 7293034; omega
  have b601 := zz_rf6 (z := (12 * (S 1000 7) + 0)) (by omega)
  have H_S594 : zz_Hc S594 := zz_Hc.sp fS594 rfl rfl G_S (fun b q h => by have h0_ := zz_rf6 (z := (12 * (S 1000 7) + 0)) (by omega); omega) H_S
  have R_S594 : zz_Hr S594 := zz_Hr.fr fS594 rfl rfl (fun b q h => by have h0_ := zz_rf6 (z := (12 * (S 1000 7) + 0)) (by omega); omega) R_S
  have O_S594 : 1 ≤ S594 1079 36 := by rw [show S594 1079 36 = S 1079 36 from zz_rc fS594 rfl rfl (by have h0_ := zz_rf6 (z := (12 * (S 1000 7) + 0)) (by omega); omega) rfl]; exact O_S
  refine zz_istore [some (.ref 998), some (.ref 1000), some (.ref 1079), some (.ref 1121), some (zi x4), some (zi v595)] zd_L_law_1117 (by decide) rfl ?_
  refine zz_aload_n (x := 1079) rfl zd_L_law_1119 ?_
  have g602 := zz_G.r G_S 1079 36 0 11 rfl rfl
  have e603 : S594 1079 36 = S 1079 36 := (zz_rc fS594 rfl rfl (by omega) rfl)
  refine zz_callVI [] zd_L_law_1120 zk_TFLaw_199 zT_1079 (zz_ltn hn598 rfl) rfl rfl ⟨Nat.le_of_ble_eq_true rfl, Nat.le_of_ble_eq_true rfl⟩ ⟨rfl, rfl⟩ hk599 hj600 (zc_place_14_113  S594 (n + d596) hn598 G_S594 R_S594 (by omega)) (fun v605 S604 hP => ?_)
  obtain ⟨G_S604, fS604, o606, o607⟩ := hP
  have H_S604 : zz_Hc S604 := zz_Hc.fr (q := 0) fS604 rfl rfl G_S594 (by decide) rfl (fun b q h => h.elim) H_S594
  have R_S604 : zz_Hr S604 := o607
  have O_S604 : 1 ≤ S604 1079 36 := by rw [show S604 1079 36 = S594 1079 36 from zz_rc fS604 rfl rfl (fun h => h) rfl]; exact O_S594
  refine zz_istore [some (.ref 998), some (.ref 1000), some (.ref 1079), some (.ref 1121), some (zi x4), some (zi v595), some (zi v605)] zd_L_law_1123 (by decide) rfl ?_
  refine zz_goto zd_L_law_1125 ?_
  refine zz_iinc [some (.ref 998), some (.ref 1000), some (.ref 1079), some (.ref 1121), some (zi (x4 + 7)), some (zi v595), some (zi v605)] zd_L_law_1208 rfl rfl ?_
  refine zz_goto zd_L_law_1211 ?_
  refine zz_less (ls1 := [some (.ref 998), some (.ref 1000), some (.ref 1079), some (.ref 1121), some (zi (x4 + 7))]) ⟨rfl, ⟨rfl, ⟨rfl, ⟨rfl, ⟨rfl, trivial⟩⟩⟩⟩⟩ ?_
  have g608 := zz_G.r G_S 1070 1 0 1500 rfl rfl
  have e609 : S604 1070 1 = S 1070 1 := (zz_rc fS604 rfl rfl (fun h => h) (zz_rc fS594 rfl rfl (by omega) rfl))
  have g610 := zz_G.r G_S 1079 28 0 1500 rfl rfl
  have e611 : S604 1079 28 = S 1079 28 := (zz_rc fS604 rfl rfl (fun h => h) (zz_rc fS594 rfl rfl (by omega) rfl))
  have g612 := zz_G.r G_S 1031 6 2 8 rfl rfl
  have e613 : S604 1031 6 = S 1031 6 := (zz_rc fS604 rfl rfl (fun h => h) (zz_rc fS594 rfl rfl (by omega) rfl))
  have g614 := zz_G.r G_S 1079 1 2 8 rfl rfl
  have e615 : S604 1079 1 = S 1079 1 := (zz_rc fS604 rfl rfl (fun h => h) (zz_rc fS594 rfl rfl (by omega) rfl))
  exact ih (x4 + 7) S604 (n + d596) (k + zr_place_L.cells) (j + zr_place_L.slots) G_S604 H_S604 R_S604 O_S604 (by omega) (by omega) hn598 (by omega) (by show ((k + 1 : Nat) : Int) ≤ 200 + (x4 + 7); omega) (by show ((j + 6 : Nat) : Int) ≤ 30000 + 6 * (x4 + 7); omega) (by omega)
theorem zl_26 {g : mm_G} {l : Launch} (hfl : l.flags = flags0) (hlen : g.2.2.2 997 ≤ 3584) (N : Nat) (ih : ∀ (x4 : Int) (S : zz_S) (n k j : Nat), zz_G S → zz_Hc S → zz_Hr S → 1 ≤ S 1079 36 → S 1070 1 = S 1079 28 → S 1031 6 = S 1079 1 → zz_end ≤ n → (0 ≤ x4 ∧ x4 ≤ 3590) → (k : Int) ≤ 200 + x4 → (j : Int) ≤ 30000 + 6 * x4 → (3600 - x4).toNat < N → zz_E g l zy_law_L room_1 (fun u => ∃ M1 n1, u = (.inl (some (zi 1)), M1, n1)) S n 23 [some (.ref 998), some (.ref 1000), some (.ref 1079), some (.ref 1121), some (zi x4)] [] k j) (x4 : Int) (S : zz_S) (n k j : Nat) (G_S : zz_G S) (H_S : zz_Hc S) (R_S : zz_Hr S) (O_S : 1 ≤ S 1079 36) (T0_S : S 1070 1 = S 1079 28) (T1_S : S 1031 6 = S 1079 1) (hn : zz_end ≤ n) (hx : 0 ≤ x4 ∧ x4 ≤ 3590) (hkk : (k : Int) ≤ 200 + x4) (hjj : (j : Int) ≤ 30000 + 6 * x4) (hR : (3600 - x4).toNat < N + 1) (hc1 : x4 ≤ zz_ln g - 7) : zz_E g l zy_law_L room_1 (fun u => ∃ M1 n1, u = (.inl (some (zi 1)), M1, n1)) S n 1128 [some (.ref 998), some (.ref 1000), some (.ref 1079), some (.ref 1121), some (zi x4)] [] k j := by
  have hln : 0 ≤ zz_ln g ∧ zz_ln g ≤ 3584 := ⟨Int.natCast_nonneg _, Int.ofNat_le.mpr hlen⟩
  have hk : k ≤ 601024 := by omega
  have hj : j ≤ 7293034 := by omega
  refine zz_aload_n (x := 1000) rfl zd_L_law_1128 ?_
  refine zz_aload_n (x := 998) rfl zd_L_law_1129 ?_
  refine zz_iload (x := x4) rfl zd_L_law_1130 ?_
  refine zz_iconst zd_L_law_1132 ?_
  refine zz_iadd zd_L_law_1133 ?_
  refine zz_sld (by omega) zd_L_law_1134 (by omega) ?_
  have g617 := zz_sc_r g (x4 + 1).toNat
  refine zz_aload_n (x := 998) rfl zd_L_law_1135 ?_
  refine zz_iload (x := x4) rfl zd_L_law_1136 ?_
  refine zz_iconst zd_L_law_1138 ?_
  refine zz_iadd zd_L_law_1139 ?_
  refine zz_sld (by omega) zd_L_law_1140 (by omega) ?_
  have g618 := zz_sc_r g (x4 + 2).toNat
  refine zz_aload_n (x := 1121) rfl zd_L_law_1141 ?_
  refine zz_callHW (rz := zr_under_L) [.ref 1000, zi (zz_sc g (x4 + 1).toNat), zi (zz_sc g (x4 + 2).toNat), .ref 1121] zd_L_law_1142 zhl_under_L rfl rfl ⟨Nat.le_of_ble_eq_true rfl, Nat.le_of_ble_eq_true rfl⟩ (by show k + 2 ≤ 601024; omega) (by show j + 12 ≤ 7293034; omega) (zc_under_L (zz_sc g (x4 + 1).toNat) (zz_sc g (x4 + 2).toNat) S (n) hn hfl G_S (by omega) (by omega)) (fun v620 S619 d621 hd621 hP => ?_)
  obtain ⟨G_S619, fS619, rv620⟩ := hP
  have hn622 : zz_end ≤ n + d621 := by omega
  have hk623 : (k + zr_under_L.cells) ≤ 601024 := by show k + 2 ≤ 601024; omega
  have hj624 : (j + zr_under_L.slots) ≤ 7293034 := by show j + 12 ≤ 7293034; omega
  have H_S619 : zz_Hc S619 := zz_Hc.fr (q := 0) fS619 rfl rfl G_S (by decide) rfl (fun b q h => h.elim) H_S
  have R_S619 : zz_Hr S619 := zz_Hr.fr fS619 rfl rfl (fun b q h => h.elim) R_S
  have O_S619 : 1 ≤ S619 1079 36 := by rw [show S619 1079 36 = S 1079 36 from zz_rc fS619 rfl rfl (fun h => h) rfl]; exact O_S
  refine zz_istore [some (.ref 998), some (.ref 1000), some (.ref 1079), some (.ref 1121), some (zi x4), some (zi v620)] zd_L_law_1145 (by decide) rfl ?_
  refine zz_aload_n (x := 1079) rfl zd_L_law_1147 ?_
  refine zz_aload_n (x := 998) rfl zd_L_law_1148 ?_
  refine zz_iload (x := x4) rfl zd_L_law_1149 ?_
  refine zz_iconst zd_L_law_1151 ?_
  refine zz_iadd zd_L_law_1152 ?_
  refine zz_sld (by omega) zd_L_law_1153 (by omega) ?_
  refine zz_aload_n (x := 998) rfl zd_L_law_1154 ?_
  refine zz_iload (x := x4) rfl zd_L_law_1155 ?_
  refine zz_iconst zd_L_law_1157 ?_
  refine zz_iadd zd_L_law_1158 ?_
  refine zz_sld (by omega) zd_L_law_1159 (by omega) ?_
  refine zz_callVI [zi (zz_sc g (x4 + 1).toNat), zi (zz_sc g (x4 + 2).toNat)] zd_L_law_1160 zk_TFLaw_202 zT_1079 (zz_ltn hn622 rfl) rfl rfl ⟨Nat.le_of_ble_eq_true rfl, Nat.le_of_ble_eq_true rfl⟩ ⟨rfl, rfl⟩ hk623 hj624 (zc_under_14_117 (zz_sc g (x4 + 1).toNat) (zz_sc g (x4 + 2).toNat) S619 (n + d621) hn622 G_S619 (by omega) (by omega)) (fun v626 S625 hP => ?_)
  obtain ⟨G_S625, fS625, o627⟩ := hP
  have H_S625 : zz_Hc S625 := zz_Hc.fr (q := 0) fS625 rfl rfl G_S619 (by decide) rfl (fun b q h => h.elim) H_S619
  have R_S625 : zz_Hr S625 := zz_Hr.fr fS625 rfl rfl (fun b q h => h.elim) R_S619
  have O_S625 : 1 ≤ S625 1079 36 := by rw [show S625 1079 36 = S619 1079 36 from zz_rc fS625 rfl rfl (fun h => h) rfl]; exact O_S619
  refine zz_istore [some (.ref 998), some (.ref 1000), some (.ref 1079), some (.ref 1121), some (zi x4), some (zi v620), some (zi v626)] zd_L_law_1163 (by decide) rfl ?_
  refine zz_goto zd_L_law_1165 ?_
  refine zz_iinc [some (.ref 998), some (.ref 1000), some (.ref 1079), some (.ref 1121), some (zi (x4 + 7)), some (zi v620), some (zi v626)] zd_L_law_1208 rfl rfl ?_
  refine zz_goto zd_L_law_1211 ?_
  refine zz_less (ls1 := [some (.ref 998), some (.ref 1000), some (.ref 1079), some (.ref 1121), some (zi (x4 + 7))]) ⟨rfl, ⟨rfl, ⟨rfl, ⟨rfl, ⟨rfl, trivial⟩⟩⟩⟩⟩ ?_
  have g628 := zz_G.r G_S 1070 1 0 1500 rfl rfl
  have e629 : S625 1070 1 = S 1070 1 := (zz_rc fS625 rfl rfl (fun h => h) (zz_rc fS619 rfl rfl (fun h => h) rfl))
  have g630 := zz_G.r G_S 1079 28 0 1500 rfl rfl
  have e631 : S625 1079 28 = S 1079 28 := (zz_rc fS625 rfl rfl (fun h => h) (zz_rc fS619 rfl rfl (fun h => h) rfl))
  have g632 := zz_G.r G_S 1031 6 2 8 rfl rfl
  have e633 : S625 1031 6 = S 1031 6 := (zz_rc fS625 rfl rfl (fun h => h) (zz_rc fS619 rfl rfl (fun h => h) rfl))
  have g634 := zz_G.r G_S 1079 1 2 8 rfl rfl
  have e635 : S625 1079 1 = S 1079 1 := (zz_rc fS625 rfl rfl (fun h => h) (zz_rc fS619 rfl rfl (fun h => h) rfl))
  exact ih (x4 + 7) S625 (n + d621) (k + zr_under_L.cells) (j + zr_under_L.slots) G_S625 H_S625 R_S625 O_S625 (by omega) (by omega) hn622 (by omega) (by show ((k + 2 : Nat) : Int) ≤ 200 + (x4 + 7); omega) (by show ((j + 12 : Nat) : Int) ≤ 30000 + 6 * (x4 + 7); omega) (by omega)
theorem zl_27 {g : mm_G} {l : Launch} (hfl : l.flags = flags0) (hlen : g.2.2.2 997 ≤ 3584) (N : Nat) (ih : ∀ (x4 : Int) (S : zz_S) (n k j : Nat), zz_G S → zz_Hc S → zz_Hr S → 1 ≤ S 1079 36 → S 1070 1 = S 1079 28 → S 1031 6 = S 1079 1 → zz_end ≤ n → (0 ≤ x4 ∧ x4 ≤ 3590) → (k : Int) ≤ 200 + x4 → (j : Int) ≤ 30000 + 6 * x4 → (3600 - x4).toNat < N → zz_E g l zy_law_L room_1 (fun u => ∃ M1 n1, u = (.inl (some (zi 1)), M1, n1)) S n 23 [some (.ref 998), some (.ref 1000), some (.ref 1079), some (.ref 1121), some (zi x4)] [] k j) (x4 : Int) (S : zz_S) (n k j : Nat) (G_S : zz_G S) (H_S : zz_Hc S) (R_S : zz_Hr S) (O_S : 1 ≤ S 1079 36) (T0_S : S 1070 1 = S 1079 28) (T1_S : S 1031 6 = S 1079 1) (hn : zz_end ≤ n) (hx : 0 ≤ x4 ∧ x4 ≤ 3590) (hkk : (k : Int) ≤ 200 + x4) (hjj : (j : Int) ≤ 30000 + 6 * x4) (hR : (3600 - x4).toNat < N + 1) (hc1 : x4 ≤ zz_ln g - 7) : zz_E g l zy_law_L room_1 (fun u => ∃ M1 n1, u = (.inl (some (zi 1)), M1, n1)) S n 1168 [some (.ref 998), some (.ref 1000), some (.ref 1079), some (.ref 1121), some (zi x4)] [] k j := by
  have hln : 0 ≤ zz_ln g ∧ zz_ln g ≤ 3584 := ⟨Int.natCast_nonneg _, Int.ofNat_le.mpr hlen⟩
  have hk : k ≤ 601024 := by omega
  have hj : j ≤ 7293034 := by omega
  refine zz_aload_n (x := 1000) rfl zd_L_law_1168 ?_
  refine zz_aload_n (x := 998) rfl zd_L_law_1169 ?_
  refine zz_iload (x := x4) rfl zd_L_law_1170 ?_
  refine zz_iconst zd_L_law_1172 ?_
  refine zz_iadd zd_L_law_1173 ?_
  refine zz_sld (by omega) zd_L_law_1174 (by omega) ?_
  have g637 := zz_sc_r g (x4 + 1).toNat
  refine zz_aload_n (x := 998) rfl zd_L_law_1175 ?_
  refine zz_iload (x := x4) rfl zd_L_law_1176 ?_
  refine zz_iconst zd_L_law_1178 ?_
  refine zz_iadd zd_L_law_1179 ?_
  refine zz_sld (by omega) zd_L_law_1180 (by omega) ?_
  have g638 := zz_sc_r g (x4 + 2).toNat
  refine zz_aload_n (x := 1121) rfl zd_L_law_1181 ?_
  refine zz_callHW (rz := zr_waits_L) [.ref 1000, zi (zz_sc g (x4 + 1).toNat), zi (zz_sc g (x4 + 2).toNat), .ref 1121] zd_L_law_1182 zhl_waits_L rfl rfl ⟨Nat.le_of_ble_eq_true rfl, Nat.le_of_ble_eq_true rfl⟩ (by show k + 2 ≤ 601024; omega) (by show j + 12 ≤ 7293034; omega) (zc_waits_L (zz_sc g (x4 + 1).toNat) (zz_sc g (x4 + 2).toNat) S (n) hn hfl G_S (by omega) (by omega)) (fun v640 S639 d641 hd641 hP => ?_)
  obtain ⟨G_S639, fS639, rv640⟩ := hP
  have hn642 : zz_end ≤ n + d641 := by omega
  have hk643 : (k + zr_waits_L.cells) ≤ 601024 := by show k + 2 ≤ 601024; omega
  have hj644 : (j + zr_waits_L.slots) ≤ 7293034 := by show j + 12 ≤ 7293034; omega
  have H_S639 : zz_Hc S639 := zz_Hc.fr (q := 0) fS639 rfl rfl G_S (by decide) rfl (fun b q h => h.elim) H_S
  have R_S639 : zz_Hr S639 := zz_Hr.fr fS639 rfl rfl (fun b q h => h.elim) R_S
  have O_S639 : 1 ≤ S639 1079 36 := by rw [show S639 1079 36 = S 1079 36 from zz_rc fS639 rfl rfl (fun h => h) rfl]; exact O_S
  refine zz_istore [some (.ref 998), some (.ref 1000), some (.ref 1079), some (.ref 1121), some (zi x4), some (zi v640)] zd_L_law_1185 (by decide) rfl ?_
  refine zz_aload_n (x := 1079) rfl zd_L_law_1187 ?_
  refine zz_aload_n (x := 998) rfl zd_L_law_1188 ?_
  refine zz_iload (x := x4) rfl zd_L_law_1189 ?_
  refine zz_iconst zd_L_law_1191 ?_
  refine zz_iadd zd_L_law_1192 ?_
  refine zz_sld (by omega) zd_L_law_1193 (by omega) ?_
  refine zz_aload_n (x := 998) rfl zd_L_law_1194 ?_
  refine zz_iload (x := x4) rfl zd_L_law_1195 ?_
  refine zz_iconst zd_L_law_1197 ?_
  refine zz_iadd zd_L_law_1198 ?_
  refine zz_sld (by omega) zd_L_law_1199 (by omega) ?_
  refine zz_callVI [zi (zz_sc g (x4 + 1).toNat), zi (zz_sc g (x4 + 2).toNat)] zd_L_law_1200 zk_TFLaw_205 zT_1079 (zz_ltn hn642 rfl) rfl rfl ⟨Nat.le_of_ble_eq_true rfl, Nat.le_of_ble_eq_true rfl⟩ ⟨rfl, rfl⟩ hk643 hj644 (zc_waits_14_119 (zz_sc g (x4 + 1).toNat) (zz_sc g (x4 + 2).toNat) S639 (n + d641) hn642 G_S639 (by omega) (by omega)) (fun v646 S645 hP => ?_)
  obtain ⟨G_S645, fS645, o647⟩ := hP
  have H_S645 : zz_Hc S645 := zz_Hc.fr (q := 0) fS645 rfl rfl G_S639 (by decide) rfl (fun b q h => h.elim) H_S639
  have R_S645 : zz_Hr S645 := zz_Hr.fr fS645 rfl rfl (fun b q h => h.elim) R_S639
  have O_S645 : 1 ≤ S645 1079 36 := by rw [show S645 1079 36 = S639 1079 36 from zz_rc fS645 rfl rfl (fun h => h) rfl]; exact O_S639
  refine zz_istore [some (.ref 998), some (.ref 1000), some (.ref 1079), some (.ref 1121), some (zi x4), some (zi v640), some (zi v646)] zd_L_law_1203 (by decide) rfl ?_
  refine zz_goto zd_L_law_1205 ?_
  refine zz_iinc [some (.ref 998), some (.ref 1000), some (.ref 1079), some (.ref 1121), some (zi (x4 + 7)), some (zi v640), some (zi v646)] zd_L_law_1208 rfl rfl ?_
  refine zz_goto zd_L_law_1211 ?_
  refine zz_less (ls1 := [some (.ref 998), some (.ref 1000), some (.ref 1079), some (.ref 1121), some (zi (x4 + 7))]) ⟨rfl, ⟨rfl, ⟨rfl, ⟨rfl, ⟨rfl, trivial⟩⟩⟩⟩⟩ ?_
  have g648 := zz_G.r G_S 1070 1 0 1500 rfl rfl
  have e649 : S645 1070 1 = S 1070 1 := (zz_rc fS645 rfl rfl (fun h => h) (zz_rc fS639 rfl rfl (fun h => h) rfl))
  have g650 := zz_G.r G_S 1079 28 0 1500 rfl rfl
  have e651 : S645 1079 28 = S 1079 28 := (zz_rc fS645 rfl rfl (fun h => h) (zz_rc fS639 rfl rfl (fun h => h) rfl))
  have g652 := zz_G.r G_S 1031 6 2 8 rfl rfl
  have e653 : S645 1031 6 = S 1031 6 := (zz_rc fS645 rfl rfl (fun h => h) (zz_rc fS639 rfl rfl (fun h => h) rfl))
  have g654 := zz_G.r G_S 1079 1 2 8 rfl rfl
  have e655 : S645 1079 1 = S 1079 1 := (zz_rc fS645 rfl rfl (fun h => h) (zz_rc fS639 rfl rfl (fun h => h) rfl))
  exact ih (x4 + 7) S645 (n + d641) (k + zr_waits_L.cells) (j + zr_waits_L.slots) G_S645 H_S645 R_S645 O_S645 (by omega) (by omega) hn642 (by omega) (by show ((k + 2 : Nat) : Int) ≤ 200 + (x4 + 7); omega) (by show ((j + 12 : Nat) : Int) ≤ 30000 + 6 * (x4 + 7); omega) (by omega)
theorem zi_law_L {g : mm_G} {l : Launch} (hfl : l.flags = flags0) (hlen : g.2.2.2 997 ≤ 3584) : ∀ N : Nat, ∀ (x4 : Int) (S : zz_S) (n k j : Nat), zz_G S → zz_Hc S → zz_Hr S → 1 ≤ S 1079 36 → S 1070 1 = S 1079 28 → S 1031 6 = S 1079 1 → zz_end ≤ n → (0 ≤ x4 ∧ x4 ≤ 3590) → (k : Int) ≤ 200 + x4 → (j : Int) ≤ 30000 + 6 * x4 → (3600 - x4).toNat < N → zz_E g l zy_law_L room_1 (fun u => ∃ M1 n1, u = (.inl (some (zi 1)), M1, n1)) S n 23 [some (.ref 998), some (.ref 1000), some (.ref 1079), some (.ref 1121), some (zi x4)] [] k j := by
  intro N
  induction N with
  | zero => exact fun x4 S n k j _ _ _ _ _ _ _ _ _ _ h => absurd h (Nat.not_lt_zero _)
  | succ N ih =>
    intro x4 S n k j G_S H_S R_S O_S T0_S T1_S hn hx hkk hjj hR
    have hln : 0 ≤ zz_ln g ∧ zz_ln g ≤ 3584 := ⟨Int.natCast_nonneg _, Int.ofNat_le.mpr hlen⟩
    have hk : k ≤ 601024 := by omega
    have hj : j ≤ 7293034 := by omega
    refine zz_iload (x := x4) rfl zd_L_law_23 ?_
    refine zz_aload_n (x := 998) rfl zd_L_law_25 ?_
    refine zz_sln zd_L_law_26 ?_
    refine zz_bipush (by decide) zd_L_law_27 ?_
    refine zz_isub zd_L_law_29 ?_
    refine zz_icmp_gt (by omega) (by omega) zd_L_law_30 (fun c1 => ?_) (fun hc1 => ?_)
    · refine zz_iconst zd_L_law_1214 ?_
      exact zz_zret zd_L_law_1215 rfl (by decide) hk hj ⟨_, _, rfl⟩
    · refine zz_aload_n (x := 998) rfl zd_L_law_33 ?_
      refine zz_iload (x := x4) rfl zd_L_law_34 ?_
      refine zz_sld (by omega) zd_L_law_36 (by omega) ?_
      have g2 := zz_sc_r g x4.toNat
      refine zz_bipush (by decide) zd_L_law_37 ?_
      refine zz_iand (by omega) (by omega) zd_L_law_39 (fun v3 hv3 av3 bv3 ev3 => ?_)
      by_cases c4 : v3 = 0
      · refine zz_swIn 0 128 c4 (by decide) zd_L_law_40 rfl rfl ?_
        exact zl_0 hfl hlen N ih x4 S n k j G_S H_S R_S O_S T0_S T1_S hn hx hkk hjj hR hc1
      by_cases c32 : v3 = 1
      · refine zz_swIn 1 153 c32 (by decide) zd_L_law_40 rfl rfl ?_
        exact zl_1 hfl hlen N ih x4 S n k j G_S H_S R_S O_S T0_S T1_S hn hx hkk hjj hR hc1
      by_cases c53 : v3 = 2
      · refine zz_swIn 2 190 c53 (by decide) zd_L_law_40 rfl rfl ?_
        exact zl_2 hfl hlen N ih x4 S n k j G_S H_S R_S O_S T0_S T1_S hn hx hkk hjj hR hc1
      by_cases c73 : v3 = 3
      · refine zz_swIn 3 230 c73 (by decide) zd_L_law_40 rfl rfl ?_
        exact zl_3 hfl hlen N ih x4 S n k j G_S H_S R_S O_S T0_S T1_S hn hx hkk hjj hR hc1
      by_cases c101 : v3 = 4
      · refine zz_swIn 4 299 c101 (by decide) zd_L_law_40 rfl rfl ?_
        exact zl_4 hfl hlen N ih x4 S n k j G_S H_S R_S O_S T0_S T1_S hn hx hkk hjj hR hc1
      by_cases c119 : v3 = 5
      · refine zz_swIn 5 324 c119 (by decide) zd_L_law_40 rfl rfl ?_
        exact zl_5 hfl hlen N ih x4 S n k j G_S H_S R_S O_S T0_S T1_S hn hx hkk hjj hR hc1
      by_cases c138 : v3 = 6
      · refine zz_swIn 6 352 c138 (by decide) zd_L_law_40 rfl rfl ?_
        exact zl_6 hfl hlen N ih x4 S n k j G_S H_S R_S O_S T0_S T1_S hn hx hkk hjj hR hc1
      by_cases c153 : v3 = 7
      · refine zz_swIn 7 365 c153 (by decide) zd_L_law_40 rfl rfl ?_
        exact zl_7 hfl hlen N ih x4 S n k j G_S H_S R_S O_S T0_S T1_S hn hx hkk hjj hR hc1
      by_cases c184 : v3 = 8
      · refine zz_swIn 8 437 c184 (by decide) zd_L_law_40 rfl rfl ?_
        exact zl_8 hfl hlen N ih x4 S n k j G_S H_S R_S O_S T0_S T1_S hn hx hkk hjj hR hc1
      by_cases c237 : v3 = 9
      · refine zz_swIn 9 494 c237 (by decide) zd_L_law_40 rfl rfl ?_
        exact zl_9 hfl hlen N ih x4 S n k j G_S H_S R_S O_S T0_S T1_S hn hx hkk hjj hR hc1
      by_cases c276 : v3 = 10
      · refine zz_swIn 10 550 c276 (by decide) zd_L_law_40 rfl rfl ?_
        exact zl_10 hfl hlen N ih x4 S n k j G_S H_S R_S O_S T0_S T1_S hn hx hkk hjj hR hc1
      by_cases c297 : v3 = 11
      · refine zz_swIn 11 575 c297 (by decide) zd_L_law_40 rfl rfl ?_
        exact zl_11 hfl hlen N ih x4 S n k j G_S H_S R_S O_S T0_S T1_S hn hx hkk hjj hR hc1
      by_cases c314 : v3 = 12
      · refine zz_swIn 12 588 c314 (by decide) zd_L_law_40 rfl rfl ?_
        exact zl_12 hfl hlen N ih x4 S n k j G_S H_S R_S O_S T0_S T1_S hn hx hkk hjj hR hc1
      by_cases c334 : v3 = 13
      · refine zz_swIn 13 628 c334 (by decide) zd_L_law_40 rfl rfl ?_
        exact zl_13 hfl hlen N ih x4 S n k j G_S H_S R_S O_S T0_S T1_S hn hx hkk hjj hR hc1
      by_cases c349 : v3 = 14
      · refine zz_swIn 14 641 c349 (by decide) zd_L_law_40 rfl rfl ?_
        exact zl_14 hfl hlen N ih x4 S n k j G_S H_S R_S O_S T0_S T1_S hn hx hkk hjj hR hc1
      by_cases c368 : v3 = 15
      · refine zz_swIn 15 669 c368 (by decide) zd_L_law_40 rfl rfl ?_
        exact zl_15 hfl hlen N ih x4 S n k j G_S H_S R_S O_S T0_S T1_S hn hx hkk hjj hR hc1
      by_cases c388 : v3 = 16
      · refine zz_swIn 16 709 c388 (by decide) zd_L_law_40 rfl rfl ?_
        exact zl_16 hfl hlen N ih x4 S n k j G_S H_S R_S O_S T0_S T1_S hn hx hkk hjj hR hc1
      by_cases c419 : v3 = 17
      · refine zz_swIn 17 758 c419 (by decide) zd_L_law_40 rfl rfl ?_
        exact zl_17 hfl hlen N ih x4 S n k j G_S H_S R_S O_S T0_S T1_S hn hx hkk hjj hR hc1
      by_cases c448 : v3 = 18
      · refine zz_swIn 18 848 c448 (by decide) zd_L_law_40 rfl rfl ?_
        exact zl_18 hfl hlen N ih x4 S n k j G_S H_S R_S O_S T0_S T1_S hn hx hkk hjj hR hc1
      by_cases c474 : v3 = 19
      · refine zz_swIn 19 900 c474 (by decide) zd_L_law_40 rfl rfl ?_
        exact zl_19 hfl hlen N ih x4 S n k j G_S H_S R_S O_S T0_S T1_S hn hx hkk hjj hR hc1
      by_cases c500 : v3 = 20
      · refine zz_swIn 20 952 c500 (by decide) zd_L_law_40 rfl rfl ?_
        exact zl_20 hfl hlen N ih x4 S n k j G_S H_S R_S O_S T0_S T1_S hn hx hkk hjj hR hc1
      by_cases c520 : v3 = 21
      · refine zz_swIn 21 992 c520 (by decide) zd_L_law_40 rfl rfl ?_
        exact zl_21 hfl hlen N ih x4 S n k j G_S H_S R_S O_S T0_S T1_S hn hx hkk hjj hR hc1
      by_cases c539 : v3 = 22
      · refine zz_swIn 22 1008 c539 (by decide) zd_L_law_40 rfl rfl ?_
        exact zl_22 hfl hlen N ih x4 S n k j G_S H_S R_S O_S T0_S T1_S hn hx hkk hjj hR hc1
      by_cases c553 : v3 = 23
      · refine zz_swIn 23 1019 c553 (by decide) zd_L_law_40 rfl rfl ?_
        exact zl_23 hfl hlen N ih x4 S n k j G_S H_S R_S O_S T0_S T1_S hn hx hkk hjj hR hc1
      by_cases c573 : v3 = 24
      · refine zz_swIn 24 1032 c573 (by decide) zd_L_law_40 rfl rfl ?_
        exact zl_24 hfl hlen N ih x4 S n k j G_S H_S R_S O_S T0_S T1_S hn hx hkk hjj hR hc1
      by_cases c593 : v3 = 25
      · refine zz_swIn 25 1072 c593 (by decide) zd_L_law_40 rfl rfl ?_
        exact zl_25 hfl hlen N ih x4 S n k j G_S H_S R_S O_S T0_S T1_S hn hx hkk hjj hR hc1
      by_cases c616 : v3 = 26
      · refine zz_swIn 26 1088 c616 (by decide) zd_L_law_40 rfl rfl ?_
        exact zl_26 hfl hlen N ih x4 S n k j G_S H_S R_S O_S T0_S T1_S hn hx hkk hjj hR hc1
      by_cases c636 : v3 = 27
      · refine zz_swIn 27 1128 c636 (by decide) zd_L_law_40 rfl rfl ?_
        exact zl_27 hfl hlen N ih x4 S n k j G_S H_S R_S O_S T0_S T1_S hn hx hkk hjj hR hc1
      refine zz_swOut (by omega) (by omega) zd_L_law_40 rfl ?_
      refine zz_iinc [some (.ref 998), some (.ref 1000), some (.ref 1079), some (.ref 1121), some (zi (x4 + 7))] zd_L_law_1208 rfl rfl ?_
      refine zz_goto zd_L_law_1211 ?_
      refine zz_less (ls1 := [some (.ref 998), some (.ref 1000), some (.ref 1079), some (.ref 1121), some (zi (x4 + 7))]) ⟨rfl, ⟨rfl, ⟨rfl, ⟨rfl, ⟨rfl, trivial⟩⟩⟩⟩⟩ ?_
      have g656 := zz_G.r G_S 1070 1 0 1500 rfl rfl
      have g657 := zz_G.r G_S 1079 28 0 1500 rfl rfl
      have g658 := zz_G.r G_S 1031 6 2 8 rfl rfl
      have g659 := zz_G.r G_S 1079 1 2 8 rfl rfl
      exact ih (x4 + 7) S (n) k j G_S H_S R_S O_S (by omega) (by omega) hn (by omega) (by show ((k : Nat) : Int) ≤ 200 + (x4 + 7); omega) (by show ((j : Nat) : Int) ≤ 30000 + 6 * (x4 + 7); omega) (by omega)
theorem zn_TFLaw_8 : mm_Nl "TensorForgeLaw" 8 0 12 [.null, .null, .null, .null, .null, .null, .null, .null, .null, .null, .null, .int 0] := ⟨R_TF, F_TF, t_TF, rfl, i_TF, t_TF_ok, mm_tb_1 28 (by decide +kernel) rfl, mm_tb_1 29 (by decide +kernel) rfl, mm_tb_1 1 (by decide +kernel) rfl, fun q hq => by rcases (by omega : q = 0 ∨ q = 1 ∨ q = 2 ∨ q = 3 ∨ q = 4 ∨ q = 5 ∨ q = 6 ∨ q = 7 ∨ q = 8 ∨ q = 9 ∨ q = 10 ∨ q = 11) with rfl | rfl | rfl | rfl | rfl | rfl | rfl | rfl | rfl | rfl | rfl | rfl <;> rfl, fun _ => rfl⟩
theorem zk_TFLaw_94 : mm_Il "TensorForgeLaw" 94 0 zy_init_1_1 := ⟨zyw_init_1_1, mm_tb_1 30 (by decide +kernel) rfl, mm_tb_1 31 (by decide +kernel) rfl, rfl, rfl⟩
theorem zn_TFLaw_95 : mm_Nl "TensorForgeLaw" 95 11 69 [.int 0, .int 0, .null, .null, .null, .null, .null, .int 0, .null, .null, .int 0, .null, .null, .null, .int 0, .int 0, .int 0, .null, .null, .int 0, .null, .null, .null, .null, .null, .null, .null, .null, .int 0, .null, .int 0, .int 0, .int 0, .int 0, .int 0, .null, .int 0, .null, .null, .null, .null, .null, .null, .null, .null, .null, .null, .null, .null, .null, .int 0, .int 0, .int 0, .int 0, .int 0, .int 0, .int 0, .int 0, .null, .null, .int 0, .long 0, .null, .null, .long 0, .int 0, .int 0, .null, .null] := ⟨R_Md, F_Md, t_Md, rfl, i_Md, t_Md_ok, mm_tb_1 1582 (by decide +kernel) rfl, mm_tb_1 1583 (by decide +kernel) rfl, mm_tb_1 12 (by decide +kernel) rfl, fun q hq => by rcases (by omega : q = 0 ∨ q = 1 ∨ q = 2 ∨ q = 3 ∨ q = 4 ∨ q = 5 ∨ q = 6 ∨ q = 7 ∨ q = 8 ∨ q = 9 ∨ q = 10 ∨ q = 11 ∨ q = 12 ∨ q = 13 ∨ q = 14 ∨ q = 15 ∨ q = 16 ∨ q = 17 ∨ q = 18 ∨ q = 19 ∨ q = 20 ∨ q = 21 ∨ q = 22 ∨ q = 23 ∨ q = 24 ∨ q = 25 ∨ q = 26 ∨ q = 27 ∨ q = 28 ∨ q = 29 ∨ q = 30 ∨ q = 31 ∨ q = 32 ∨ q = 33 ∨ q = 34 ∨ q = 35 ∨ q = 36 ∨ q = 37 ∨ q = 38 ∨ q = 39 ∨ q = 40 ∨ q = 41 ∨ q = 42 ∨ q = 43 ∨ q = 44 ∨ q = 45 ∨ q = 46 ∨ q = 47 ∨ q = 48 ∨ q = 49 ∨ q = 50 ∨ q = 51 ∨ q = 52 ∨ q = 53 ∨ q = 54 ∨ q = 55 ∨ q = 56 ∨ q = 57 ∨ q = 58 ∨ q = 59 ∨ q = 60 ∨ q = 61 ∨ q = 62 ∨ q = 63 ∨ q = 64 ∨ q = 65 ∨ q = 66 ∨ q = 67 ∨ q = 68) with rfl | rfl | rfl | rfl | rfl | rfl | rfl | rfl | rfl | rfl | rfl | rfl | rfl | rfl | rfl | rfl | rfl | rfl | rfl | rfl | rfl | rfl | rfl | rfl | rfl | rfl | rfl | rfl | rfl | rfl | rfl | rfl | rfl | rfl | rfl | rfl | rfl | rfl | rfl | rfl | rfl | rfl | rfl | rfl | rfl | rfl | rfl | rfl | rfl | rfl | rfl | rfl | rfl | rfl | rfl | rfl | rfl | rfl | rfl | rfl | rfl | rfl | rfl | rfl | rfl | rfl | rfl | rfl | rfl <;> rfl, fun _ => rfl⟩
theorem zk_TFLaw_97 : mm_Il "TensorForgeLaw" 97 0 zy_init_14_1 := ⟨zyw_init_14_1, mm_tb_1 1584 (by decide +kernel) rfl, mm_tb_1 1585 (by decide +kernel) rfl, rfl, rfl⟩
theorem zz_hi {cl : List Nat} {a : Nat} (h : cl.all (fun c => Nat.blt c 1122) = true) (ha : 1122 ≤ a) : cl.contains a = false := by
  cases hc : cl.contains a with
  | false => rfl
  | true =>
    have h1 := (List.all_eq_true.mp h) a (List.contains_iff_mem.mp hc)
    simp only [Nat.blt_eq] at h1
    omega
theorem zz_hi2 {sl : List (Nat × Nat)} {a i : Nat} (h : sl.all (fun c => Nat.blt c.1 1122) = true) (ha : 1122 ≤ a) : sl.contains (a, i) = false := by
  cases hc : sl.contains (a, i) with
  | false => rfl
  | true =>
    have h1 := (List.all_eq_true.mp h) (a, i) (List.contains_iff_mem.mp hc)
    simp only [Nat.blt_eq] at h1
    omega
set_option maxHeartbeats 4000000 in
theorem zg_L_law_0 : (decode zy_law_L.2.1 0 = .ok ((.new 8), 3)) ∧ (decode zy_law_L.2.1 3 = .ok ((.dup), 1)) ∧ (decode zy_law_L.2.1 4 = .ok ((.invokespecial 94), 3)) ∧ (decode zy_law_L.2.1 7 = .ok ((.astore_n 1), 1)) ∧ (decode zy_law_L.2.1 8 = .ok ((.new 95), 3)) ∧ (decode zy_law_L.2.1 11 = .ok ((.dup), 1)) ∧ (decode zy_law_L.2.1 12 = .ok ((.invokespecial 97), 3)) ∧ (decode zy_law_L.2.1 15 = .ok ((.astore_n 2), 1)) ∧ (decode zy_law_L.2.1 16 = .ok ((.iconst 1), 1)) ∧ (decode zy_law_L.2.1 17 = .ok ((.newarray .long), 2)) := by decide +kernel
theorem zd_L_law_0 : zz_D zy_law_L 0 (.new 8) 3 3 := ⟨zg_L_law_0.1, rfl⟩
theorem zd_L_law_3 : zz_D zy_law_L 3 (.dup) 1 4 := ⟨zg_L_law_0.2.1, rfl⟩
theorem zd_L_law_4 : zz_D zy_law_L 4 (.invokespecial 94) 3 7 := ⟨zg_L_law_0.2.2.1, rfl⟩
theorem zd_L_law_7 : zz_D zy_law_L 7 (.astore_n 1) 1 8 := ⟨zg_L_law_0.2.2.2.1, rfl⟩
theorem zd_L_law_8 : zz_D zy_law_L 8 (.new 95) 3 11 := ⟨zg_L_law_0.2.2.2.2.1, rfl⟩
theorem zd_L_law_11 : zz_D zy_law_L 11 (.dup) 1 12 := ⟨zg_L_law_0.2.2.2.2.2.1, rfl⟩
theorem zd_L_law_12 : zz_D zy_law_L 12 (.invokespecial 97) 3 15 := ⟨zg_L_law_0.2.2.2.2.2.2.1, rfl⟩
theorem zd_L_law_15 : zz_D zy_law_L 15 (.astore_n 2) 1 16 := ⟨zg_L_law_0.2.2.2.2.2.2.2.1, rfl⟩
theorem zd_L_law_16 : zz_D zy_law_L 16 (.iconst 1) 1 17 := ⟨zg_L_law_0.2.2.2.2.2.2.2.2.1, rfl⟩
theorem zd_L_law_17 : zz_D zy_law_L 17 (.newarray .long) 2 19 := ⟨zg_L_law_0.2.2.2.2.2.2.2.2.2, rfl⟩
theorem zg_L_law_19 : (decode zy_law_L.2.1 19 = .ok ((.astore_n 3), 1)) ∧ (decode zy_law_L.2.1 20 = .ok ((.iconst 0), 1)) ∧ (decode zy_law_L.2.1 21 = .ok ((.istore 4), 2)) := by decide +kernel
theorem zd_L_law_19 : zz_D zy_law_L 19 (.astore_n 3) 1 20 := ⟨zg_L_law_19.1, rfl⟩
theorem zd_L_law_20 : zz_D zy_law_L 20 (.iconst 0) 1 21 := ⟨zg_L_law_19.2.1, rfl⟩
theorem zd_L_law_21 : zz_D zy_law_L 21 (.istore 4) 2 23 := ⟨zg_L_law_19.2.2, rfl⟩
theorem zs_law_L {g : mm_G} {l : Launch} (hfl : l.flags = flags0) (hlen : g.2.2.2 997 ≤ 3584) (S0 : zz_S) (h0 : ∀ a i, S0 a i = 0) : zz_E g l zy_law_L room_1 (fun u => ∃ M1 n1, u = (.inl (some (zi 1)), M1, n1)) S0 1000 0 [some (.ref 998)] [] 0 0 := by
  have G_S0 : zz_Gm [] [] S0 := fun a i h => by cases h
  have F_S0 : zz_fr [] [1000, 1001, 1002, 1003, 1004, 1005, 1006, 1007, 1008, 1009, 1010, 1011, 1012, 1013, 1014, 1015, 1016, 1017, 1018, 1019, 1020, 1021, 1022, 1023, 1024, 1025, 1026, 1027, 1028, 1029, 1030, 1031, 1032, 1033, 1034, 1035, 1036, 1037, 1038, 1039, 1040, 1041, 1042, 1043, 1044, 1045, 1046, 1047, 1048, 1049, 1050, 1051, 1052, 1053, 1054, 1055, 1056, 1057, 1058, 1059, 1060, 1061, 1062, 1063, 1064, 1065, 1066, 1067, 1068, 1069, 1070, 1071, 1072, 1073, 1074, 1075, 1076, 1077, 1078, 1079, 1080, 1081, 1082, 1083, 1084, 1085, 1086, 1087, 1088, 1089, 1090, 1091, 1092, 1093, 1094, 1095, 1096, 1097, 1098, 1099, 1100, 1101, 1102, 1103, 1104, 1105, 1106, 1107, 1108, 1109, 1110, 1111, 1112, 1113, 1114, 1115, 1116, 1117, 1118, 1119, 1120, 1121] (fun _ _ => False) S0 S0 := zz_fr.refl
  refine zz_new (zz_ov [(-1), (-1), (-1), (-1), (-1), (-1), (-1), (-1), (-1), (-1), (-1), 0]) zd_L_law_0 zn_TFLaw_8 zT_1000 rfl (Nat.le_of_ble_eq_true rfl) (Nat.le_of_ble_eq_true rfl) (fun S1 qS1 => ?_)
  have G_S1 := zz_Gm.nwo G_S0 qS1 (by decide +kernel)
  have F_S1 := zz_fr.nw F_S0 qS1 (by decide +kernel)
  refine zz_setn (n1 := 1001) (k1 := 1) (j1 := 12) rfl rfl rfl ?_
  refine zz_dup rfl zd_L_law_3 ?_
  refine zz_callN (n1 := 1079) [] zd_L_law_4 zk_TFLaw_94 rfl rfl ⟨Nat.le_of_ble_eq_true rfl, Nat.le_of_ble_eq_true rfl⟩ (Nat.le_of_ble_eq_true rfl) (Nat.le_of_ble_eq_true rfl) (zc_init_1_1_c1000_1001 S1 (zz_Gm.own qS1 (zz_ovG (rs := [(1031, 1031), (1042, 1042), (1070, 1070), (1072, 1072), (1073, 1073), (1076, 1076), (1077, 1077), (0, 1), (0, 1), (0, 1), (0, 1), (0, 600)]) (fun _ => rfl) rfl (by decide +kernel)))) (fun S2 hP => ?_)
  obtain ⟨gS2, fS2, o3, o4, o5, o6⟩ := hP
  have F_S2 := zz_fr.trans F_S1 fS2 (by decide +kernel) zz_nv
  have G_S2 := zz_Gm.call [] G_S1 fS2 gS2 (by decide +kernel) (by decide +kernel) (by decide +kernel) (by decide +kernel)
  refine zz_setn (n1 := 1079) (k1 := 79) (j1 := 10884) rfl rfl rfl ?_
  refine zz_astore_n [some (.ref 998), some (.ref 1000)] zd_L_law_7 (by decide) rfl ?_
  refine zz_new (zz_ov [0, 0, (-1), (-1), (-1), (-1), (-1), 0, (-1), (-1), 0, (-1), (-1), (-1), 0, 0, 0, (-1), (-1), 0, (-1), (-1), (-1), (-1), (-1), (-1), (-1), (-1), 0, (-1), 0, 0, 0, 0, 0, (-1), 0, (-1), (-1), (-1), (-1), (-1), (-1), (-1), (-1), (-1), (-1), (-1), (-1), (-1), 0, 0, 0, 0, 0, 0, 0, 0, (-1), (-1), 0, 0, (-1), (-1), 0, 0, 0, (-1), (-1)]) zd_L_law_8 zn_TFLaw_95 zT_1079 (by decide +kernel) (Nat.le_of_ble_eq_true rfl) (Nat.le_of_ble_eq_true rfl) (fun S7 qS7 => ?_)
  have G_S7 := zz_Gm.nwo G_S2 qS7 (by decide +kernel)
  have F_S7 := zz_fr.nw F_S2 qS7 (by decide +kernel)
  refine zz_setn (n1 := 1080) (k1 := 80) (j1 := 10953) rfl rfl rfl ?_
  refine zz_dup rfl zd_L_law_11 ?_
  refine zz_callN (n1 := 1121) [] zd_L_law_12 zk_TFLaw_97 rfl rfl ⟨Nat.le_of_ble_eq_true rfl, Nat.le_of_ble_eq_true rfl⟩ (Nat.le_of_ble_eq_true rfl) (Nat.le_of_ble_eq_true rfl) (zc_init_14_1_c1079_1080 S7 (zz_Gm.own qS7 (zz_ovG (rs := [(0, 3), (2, 8), (1080, 1080), (1081, 1081), (1082, 1082), (1083, 1083), (1084, 1084), (0, 600), (1085, 1085), (1086, 1086), (0, 1000000), (1087, 1087), (1088, 1088), (1089, 1089), (0, 4), ((-1), 600), ((-2147483648), 2147483647), (1090, 1090), (1091, 1091), ((-1), 600), (1092, 1092), (1093, 1093), (1094, 1094), (1095, 1095), (1096, 1096), (1097, 1097), (1098, 1098), (1099, 1099), (0, 1500), (1100, 1100), (0, 102), (0, 9999), (0, 1500), (0, 1500), (0, 200), (1101, 1101), (0, 11), (1102, 1102), (1103, 1103), (1104, 1104), (1105, 1105), (1106, 1106), (1107, 1107), (1108, 1108), (1109, 1109), (1110, 1110), (1111, 1111), (1112, 1112), (1113, 1113), (1114, 1114), ((-2147483648), 2147483647), ((-2147483648), 2147483647), ((-2147483648), 2147483647), ((-2147483648), 2147483647), ((-2147483648), 2147483647), ((-2147483648), 2147483647), ((-2147483648), 2147483647), ((-2147483648), 2147483647), (1115, 1115), (1116, 1116), ((-2147483648), 2147483647), ((-9223372036854775808), 9223372036854775807), (1117, 1117), (1118, 1118), ((-9223372036854775808), 9223372036854775807), (0, 255), (0, 11), (1119, 1119), (1120, 1120)]) (fun _ => rfl) rfl (by decide +kernel)))) (fun S8 hP => ?_)
  obtain ⟨gS8, fS8, o9, o10, o11⟩ := hP
  have F_S8 := zz_fr.trans F_S7 fS8 (by decide +kernel) zz_nv
  have G_S8 := zz_Gm.call [] G_S7 fS8 gS8 (by decide +kernel) (by decide +kernel) (by decide +kernel) (by decide +kernel)
  refine zz_setn (n1 := 1121) (k1 := 121) (j1 := 22894) rfl rfl rfl ?_
  have z12 : S8 1079 28 = 0 := o11.trans ((zz_nws qS7 28).trans (by decide +kernel))
  refine zz_astore_n [some (.ref 998), some (.ref 1000), some (.ref 1079)] zd_L_law_15 (by decide) rfl ?_
  refine zz_iconst zd_L_law_16 ?_
  refine zz_newa (z := 1) (fun _ => 0) zd_L_law_17 zT_1121 rfl (mm_tb_1 181 (by decide +kernel) rfl) rfl (by decide) (by decide) (fun _ => rfl) (fun _ => rfl) (fun _ h => by cases h) (Nat.le_of_ble_eq_true rfl) (Nat.le_of_ble_eq_true rfl) (fun S13 qS13 => ?_)
  have G_S13 := zz_Gm.nwa [] G_S8 qS13 (by decide +kernel) (fun i _ => ⟨(by decide : ((-9223372036854775808) : Int) ≤ 0), (by decide : (0 : Int) ≤ 9223372036854775807)⟩)
  have F_S13 := zz_fr.nw F_S8 qS13 (by decide +kernel)
  refine zz_setn (n1 := 1122) (k1 := 122) (j1 := 22895) rfl rfl rfl ?_
  refine zz_astore_n [some (.ref 998), some (.ref 1000), some (.ref 1079), some (.ref 1121)] zd_L_law_19 (by decide) rfl ?_
  refine zz_iconst zd_L_law_20 ?_
  refine zz_istore [some (.ref 998), some (.ref 1000), some (.ref 1079), some (.ref 1121), some (zi 0)] zd_L_law_21 (by decide) rfl ?_
  have g14 := trivial
  have e15 : S13 1001 1 = S2 1001 1 := (zz_nwo qS13 (by decide) (zz_rc fS8 (by decide +kernel) (by decide +kernel) (fun h => h) (zz_nwo qS7 (by decide) rfl)))
  have g16 := trivial
  have e17 : S13 1003 0 = S2 1003 0 := (zz_nwo qS13 (by decide) (zz_rc fS8 (by decide +kernel) (by decide +kernel) (fun h => h) (zz_nwo qS7 (by decide) rfl)))
  have g18 := trivial
  have e19 : S13 1003 12 = S2 1003 12 := (zz_nwo qS13 (by decide) (zz_rc fS8 (by decide +kernel) (by decide +kernel) (fun h => h) (zz_nwo qS7 (by decide) rfl)))
  have g20 := trivial
  have e21 : S13 1003 3 = S2 1003 3 := (zz_nwo qS13 (by decide) (zz_rc fS8 (by decide +kernel) (by decide +kernel) (fun h => h) (zz_nwo qS7 (by decide) rfl)))
  have g22 := trivial
  have e23 : S13 1003 4 = S2 1003 4 := (zz_nwo qS13 (by decide) (zz_rc fS8 (by decide +kernel) (by decide +kernel) (fun h => h) (zz_nwo qS7 (by decide) rfl)))
  have g24 := trivial
  have e25 : S13 1015 1 = S2 1015 1 := (zz_nwo qS13 (by decide) (zz_rc fS8 (by decide +kernel) (by decide +kernel) (fun h => h) (zz_nwo qS7 (by decide) rfl)))
  have g26 := trivial
  have e27 : S13 1017 0 = S2 1017 0 := (zz_nwo qS13 (by decide) (zz_rc fS8 (by decide +kernel) (by decide +kernel) (fun h => h) (zz_nwo qS7 (by decide) rfl)))
  have g28 := trivial
  have e29 : S13 1017 12 = S2 1017 12 := (zz_nwo qS13 (by decide) (zz_rc fS8 (by decide +kernel) (by decide +kernel) (fun h => h) (zz_nwo qS7 (by decide) rfl)))
  have g30 := trivial
  have e31 : S13 1017 3 = S2 1017 3 := (zz_nwo qS13 (by decide) (zz_rc fS8 (by decide +kernel) (by decide +kernel) (fun h => h) (zz_nwo qS7 (by decide) rfl)))
  have g32 := trivial
  have e33 : S13 1017 4 = S2 1017 4 := (zz_nwo qS13 (by decide) (zz_rc fS8 (by decide +kernel) (by decide +kernel) (fun h => h) (zz_nwo qS7 (by decide) rfl)))
  have g34 := trivial
  have e35 : S13 1079 36 = S8 1079 36 := (zz_nwo qS13 (by decide) rfl)
  have g36 := trivial
  have e37 : S13 1102 0 = S8 1102 0 := (zz_nwo qS13 (by decide) rfl)
  have g38 := trivial
  have e39 : S13 1103 0 = S8 1103 0 := (zz_nwo qS13 (by decide) rfl)
  have g40 := trivial
  have e41 : S13 1104 0 = S8 1104 0 := (zz_nwo qS13 (by decide) rfl)
  have g42 := trivial
  have e43 : S13 1105 0 = S8 1105 0 := (zz_nwo qS13 (by decide) rfl)
  have GG : zz_G S13 := zz_Gm.full G_S13 (by decide +kernel) (fun a i ha => (F_S13 a i (zz_hi2 (by decide +kernel) ha) (zz_hi (by decide +kernel) ha) (fun h => h)).trans (h0 a i))
  have HH : zz_Hc S13 := by
    intro q hq k hk hkt
    rcases (by omega : q = 0 ∨ q = 1) with rfl | rfl
    · have hkt : k < S13 1001 1 := hkt
      have hk0 : k = 0 := by omega
      subst hk0
      show (S13 1003 0 = 3 ∨ (S13 1003 3 ≤ 3 ∧ S13 1003 4 ≤ 3)) ∧ S13 1003 12 ≤ 63
      omega
    · have hkt : k < S13 1015 1 := hkt
      have hk0 : k = 0 := by omega
      subst hk0
      show (S13 1017 0 = 3 ∨ (S13 1017 3 ≤ 3 ∧ S13 1017 4 ≤ 3)) ∧ S13 1017 12 ≤ 63
      omega
  have RR : zz_Hr S13 := zz_Hr.one (by omega) (by unfold zz_tn zz_sz; rw [show S13 1102 0 = 1 by omega, show S13 1103 0 = 1 by omega, show S13 1104 0 = 1 by omega, show S13 1105 0 = 0 by omega]; decide)
  refine zz_less (ls1 := [some (.ref 998), some (.ref 1000), some (.ref 1079), some (.ref 1121), some (zi 0)]) ⟨rfl, ⟨rfl, ⟨rfl, ⟨rfl, ⟨rfl, trivial⟩⟩⟩⟩⟩ ?_
  have e44 : S13 1070 1 = 0 := (zz_nwo qS13 (by decide) (zz_rc fS8 (by decide +kernel) (by decide +kernel) (fun h => h) (zz_nwo qS7 (by decide) o6)))
  have e45 : S13 1079 28 = 0 := (zz_nwo qS13 (by decide) z12)
  have e46 : S13 1031 6 = 2 := (zz_nwo qS13 (by decide) (zz_rc fS8 (by decide +kernel) (by decide +kernel) (fun h => h) (zz_nwo qS7 (by decide) o5)))
  have e47 : S13 1079 1 = 2 := (zz_nwo qS13 (by decide) o10)
  exact zi_law_L hfl hlen _ 0 S13 1122 122 22895 GG HH RR (by omega) (by omega) (by omega) (Nat.le_refl _) (by decide) (by show ((122 : Nat) : Int) ≤ 200 + 0; decide) (by show ((22895 : Nat) : Int) ≤ 30000 + 6 * 0; decide) (Nat.lt_succ_self _)

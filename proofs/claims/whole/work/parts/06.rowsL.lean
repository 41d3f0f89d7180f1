theorem dL_window_0 : decode cL_window 0 = .ok (.aload_n 3, 1) := by decide +kernel
theorem dL_window_1 : decode cL_window 1 = .ok (.iconst 0, 1) := by decide +kernel
theorem dL_window_2 : decode cL_window 2 = .ok (.aload_n 0, 1) := by decide +kernel
theorem dL_window_3 : decode cL_window 3 = .ok (.iload_n 1, 1) := by decide +kernel
theorem dL_window_4 : decode cL_window 4 = .ok (.iload_n 2, 1) := by decide +kernel
theorem dL_window_5 : decode cL_window 5 = .ok (.invokevirtual 7, 3) := by decide +kernel
theorem dL_window_8 : decode cL_window 8 = .ok (.i2l, 1) := by decide +kernel
theorem dL_window_9 : decode cL_window 9 = .ok (.lastore, 1) := by decide +kernel
theorem dL_window_10 : decode cL_window 10 = .ok (.goto 11, 3) := by decide +kernel
theorem dL_window_13 : decode cL_window 13 = .ok (.astore 4, 2) := by decide +kernel
theorem dL_window_15 : decode cL_window 15 = .ok (.iconst 1, 1) := by decide +kernel
theorem dL_window_16 : decode cL_window 16 = .ok (.ireturn, 1) := by decide +kernel
theorem dL_window_17 : decode cL_window 17 = .ok (.astore 4, 2) := by decide +kernel
theorem dL_window_19 : decode cL_window 19 = .ok (.iconst 2, 1) := by decide +kernel
theorem dL_window_20 : decode cL_window 20 = .ok (.ireturn, 1) := by decide +kernel
theorem dL_window_21 : decode cL_window 21 = .ok (.iconst 0, 1) := by decide +kernel
theorem dL_window_22 : decode cL_window 22 = .ok (.ireturn, 1) := by decide +kernel
theorem dL_tuple_0 : decode cL_tuple 0 = .ok (.aload 4, 2) := by decide +kernel
theorem dL_tuple_2 : decode cL_tuple 2 = .ok (.iconst 0, 1) := by decide +kernel
theorem dL_tuple_3 : decode cL_tuple 3 = .ok (.aload_n 0, 1) := by decide +kernel
theorem dL_tuple_4 : decode cL_tuple 4 = .ok (.iload_n 1, 1) := by decide +kernel
theorem dL_tuple_5 : decode cL_tuple 5 = .ok (.iload_n 2, 1) := by decide +kernel
theorem dL_tuple_6 : decode cL_tuple 6 = .ok (.iload_n 3, 1) := by decide +kernel
theorem dL_tuple_7 : decode cL_tuple 7 = .ok (.invokevirtual 17, 3) := by decide +kernel
theorem dL_tuple_10 : decode cL_tuple 10 = .ok (.i2l, 1) := by decide +kernel
theorem dL_tuple_11 : decode cL_tuple 11 = .ok (.lastore, 1) := by decide +kernel
theorem dL_tuple_12 : decode cL_tuple 12 = .ok (.goto 11, 3) := by decide +kernel
theorem dL_tuple_15 : decode cL_tuple 15 = .ok (.astore 5, 2) := by decide +kernel
theorem dL_tuple_17 : decode cL_tuple 17 = .ok (.iconst 1, 1) := by decide +kernel
theorem dL_tuple_18 : decode cL_tuple 18 = .ok (.ireturn, 1) := by decide +kernel
theorem dL_tuple_19 : decode cL_tuple 19 = .ok (.astore 5, 2) := by decide +kernel
theorem dL_tuple_21 : decode cL_tuple 21 = .ok (.iconst 2, 1) := by decide +kernel
theorem dL_tuple_22 : decode cL_tuple 22 = .ok (.ireturn, 1) := by decide +kernel
theorem dL_tuple_23 : decode cL_tuple 23 = .ok (.iconst 0, 1) := by decide +kernel
theorem dL_tuple_24 : decode cL_tuple 24 = .ok (.ireturn, 1) := by decide +kernel
theorem dL_tick_0 : decode cL_tick 0 = .ok (.aload_n 0, 1) := by decide +kernel
theorem dL_tick_1 : decode cL_tick 1 = .ok (.iload_n 1, 1) := by decide +kernel
theorem dL_tick_2 : decode cL_tick 2 = .ok (.invokevirtual 21, 3) := by decide +kernel
theorem dL_tick_5 : decode cL_tick 5 = .ok (.goto 6, 3) := by decide +kernel
theorem dL_tick_8 : decode cL_tick 8 = .ok (.astore_n 2, 1) := by decide +kernel
theorem dL_tick_9 : decode cL_tick 9 = .ok (.iconst 1, 1) := by decide +kernel
theorem dL_tick_10 : decode cL_tick 10 = .ok (.ireturn, 1) := by decide +kernel
theorem dL_tick_11 : decode cL_tick 11 = .ok (.iconst 0, 1) := by decide +kernel
theorem dL_tick_12 : decode cL_tick 12 = .ok (.ireturn, 1) := by decide +kernel
theorem dL_meter_0 : decode cL_meter 0 = .ok (.aload_n 3, 1) := by decide +kernel
theorem dL_meter_1 : decode cL_meter 1 = .ok (.iconst 0, 1) := by decide +kernel
theorem dL_meter_2 : decode cL_meter 2 = .ok (.aload_n 0, 1) := by decide +kernel
theorem dL_meter_3 : decode cL_meter 3 = .ok (.iload_n 1, 1) := by decide +kernel
theorem dL_meter_4 : decode cL_meter 4 = .ok (.iload_n 2, 1) := by decide +kernel
theorem dL_meter_5 : decode cL_meter 5 = .ok (.invokevirtual 25, 3) := by decide +kernel
theorem dL_meter_8 : decode cL_meter 8 = .ok (.i2l, 1) := by decide +kernel
theorem dL_meter_9 : decode cL_meter 9 = .ok (.lastore, 1) := by decide +kernel
theorem dL_meter_10 : decode cL_meter 10 = .ok (.goto 11, 3) := by decide +kernel
theorem dL_meter_13 : decode cL_meter 13 = .ok (.astore 4, 2) := by decide +kernel
theorem dL_meter_15 : decode cL_meter 15 = .ok (.iconst 1, 1) := by decide +kernel
theorem dL_meter_16 : decode cL_meter 16 = .ok (.ireturn, 1) := by decide +kernel
theorem dL_meter_17 : decode cL_meter 17 = .ok (.astore 4, 2) := by decide +kernel
theorem dL_meter_19 : decode cL_meter 19 = .ok (.iconst 2, 1) := by decide +kernel
theorem dL_meter_20 : decode cL_meter 20 = .ok (.ireturn, 1) := by decide +kernel
theorem dL_meter_21 : decode cL_meter 21 = .ok (.iconst 0, 1) := by decide +kernel
theorem dL_meter_22 : decode cL_meter 22 = .ok (.ireturn, 1) := by decide +kernel
theorem dL_kth_0 : decode cL_kth 0 = .ok (.aload_n 3, 1) := by decide +kernel
theorem dL_kth_1 : decode cL_kth 1 = .ok (.iconst 0, 1) := by decide +kernel
theorem dL_kth_2 : decode cL_kth 2 = .ok (.aload_n 0, 1) := by decide +kernel
theorem dL_kth_3 : decode cL_kth 3 = .ok (.iload_n 1, 1) := by decide +kernel
theorem dL_kth_4 : decode cL_kth 4 = .ok (.iload_n 2, 1) := by decide +kernel
theorem dL_kth_5 : decode cL_kth 5 = .ok (.invokevirtual 30, 3) := by decide +kernel
theorem dL_kth_8 : decode cL_kth 8 = .ok (.i2l, 1) := by decide +kernel
theorem dL_kth_9 : decode cL_kth 9 = .ok (.lastore, 1) := by decide +kernel
theorem dL_kth_10 : decode cL_kth 10 = .ok (.goto 11, 3) := by decide +kernel
theorem dL_kth_13 : decode cL_kth 13 = .ok (.astore 4, 2) := by decide +kernel
theorem dL_kth_15 : decode cL_kth 15 = .ok (.iconst 1, 1) := by decide +kernel
theorem dL_kth_16 : decode cL_kth 16 = .ok (.ireturn, 1) := by decide +kernel
theorem dL_kth_17 : decode cL_kth 17 = .ok (.astore 4, 2) := by decide +kernel
theorem dL_kth_19 : decode cL_kth 19 = .ok (.iconst 2, 1) := by decide +kernel
theorem dL_kth_20 : decode cL_kth 20 = .ok (.ireturn, 1) := by decide +kernel
theorem dL_kth_21 : decode cL_kth 21 = .ok (.iconst 0, 1) := by decide +kernel
theorem dL_kth_22 : decode cL_kth 22 = .ok (.ireturn, 1) := by decide +kernel
theorem dL_frequent_0 : decode cL_frequent 0 = .ok (.aload_n 2, 1) := by decide +kernel
theorem dL_frequent_1 : decode cL_frequent 1 = .ok (.iconst 0, 1) := by decide +kernel
theorem dL_frequent_2 : decode cL_frequent 2 = .ok (.aload_n 0, 1) := by decide +kernel
theorem dL_frequent_3 : decode cL_frequent 3 = .ok (.iload_n 1, 1) := by decide +kernel
theorem dL_frequent_4 : decode cL_frequent 4 = .ok (.invokevirtual 35, 3) := by decide +kernel
theorem dL_frequent_7 : decode cL_frequent 7 = .ok (.i2l, 1) := by decide +kernel
theorem dL_frequent_8 : decode cL_frequent 8 = .ok (.lastore, 1) := by decide +kernel
theorem dL_frequent_9 : decode cL_frequent 9 = .ok (.goto 9, 3) := by decide +kernel
theorem dL_frequent_12 : decode cL_frequent 12 = .ok (.astore_n 3, 1) := by decide +kernel
theorem dL_frequent_13 : decode cL_frequent 13 = .ok (.iconst 1, 1) := by decide +kernel
theorem dL_frequent_14 : decode cL_frequent 14 = .ok (.ireturn, 1) := by decide +kernel
theorem dL_frequent_15 : decode cL_frequent 15 = .ok (.astore_n 3, 1) := by decide +kernel
theorem dL_frequent_16 : decode cL_frequent 16 = .ok (.iconst 2, 1) := by decide +kernel
theorem dL_frequent_17 : decode cL_frequent 17 = .ok (.ireturn, 1) := by decide +kernel
theorem dL_frequent_18 : decode cL_frequent 18 = .ok (.iconst 0, 1) := by decide +kernel
theorem dL_frequent_19 : decode cL_frequent 19 = .ok (.ireturn, 1) := by decide +kernel
theorem dL_below_0 : decode cL_below 0 = .ok (.aload_n 3, 1) := by decide +kernel
theorem dL_below_1 : decode cL_below 1 = .ok (.iconst 0, 1) := by decide +kernel
theorem dL_below_2 : decode cL_below 2 = .ok (.aload_n 0, 1) := by decide +kernel
theorem dL_below_3 : decode cL_below 3 = .ok (.iload_n 1, 1) := by decide +kernel
theorem dL_below_4 : decode cL_below 4 = .ok (.iload_n 2, 1) := by decide +kernel
theorem dL_below_5 : decode cL_below 5 = .ok (.invokevirtual 39, 3) := by decide +kernel
theorem dL_below_8 : decode cL_below 8 = .ok (.i2l, 1) := by decide +kernel
theorem dL_below_9 : decode cL_below 9 = .ok (.lastore, 1) := by decide +kernel
theorem dL_below_10 : decode cL_below 10 = .ok (.goto 7, 3) := by decide +kernel
theorem dL_below_13 : decode cL_below 13 = .ok (.astore 4, 2) := by decide +kernel
theorem dL_below_15 : decode cL_below 15 = .ok (.iconst 1, 1) := by decide +kernel
theorem dL_below_16 : decode cL_below 16 = .ok (.ireturn, 1) := by decide +kernel
theorem dL_below_17 : decode cL_below 17 = .ok (.iconst 0, 1) := by decide +kernel
theorem dL_below_18 : decode cL_below 18 = .ok (.ireturn, 1) := by decide +kernel
theorem dL_has_0 : decode cL_has 0 = .ok (.aload_n 3, 1) := by decide +kernel
theorem dL_has_1 : decode cL_has 1 = .ok (.iconst 0, 1) := by decide +kernel
theorem dL_has_2 : decode cL_has 2 = .ok (.aload_n 0, 1) := by decide +kernel
theorem dL_has_3 : decode cL_has 3 = .ok (.iload_n 1, 1) := by decide +kernel
theorem dL_has_4 : decode cL_has 4 = .ok (.iload_n 2, 1) := by decide +kernel
theorem dL_has_5 : decode cL_has 5 = .ok (.invokevirtual 42, 3) := by decide +kernel
theorem dL_has_8 : decode cL_has 8 = .ok (.ifCond .eq 7, 3) := by decide +kernel
theorem dL_has_11 : decode cL_has 11 = .ok (.lconst 1, 1) := by decide +kernel
theorem dL_has_12 : decode cL_has 12 = .ok (.goto 4, 3) := by decide +kernel
theorem dL_has_15 : decode cL_has 15 = .ok (.lconst 0, 1) := by decide +kernel
theorem dL_has_16 : decode cL_has 16 = .ok (.lastore, 1) := by decide +kernel
theorem dL_has_17 : decode cL_has 17 = .ok (.goto 7, 3) := by decide +kernel
theorem dL_has_20 : decode cL_has 20 = .ok (.astore 4, 2) := by decide +kernel
theorem dL_has_22 : decode cL_has 22 = .ok (.iconst 1, 1) := by decide +kernel
theorem dL_has_23 : decode cL_has 23 = .ok (.ireturn, 1) := by decide +kernel
theorem dL_has_24 : decode cL_has 24 = .ok (.iconst 0, 1) := by decide +kernel
theorem dL_has_25 : decode cL_has 25 = .ok (.ireturn, 1) := by decide +kernel
theorem dL_law_0 : decode code 0 = .ok (.new 8, 3) := by decide +kernel
theorem dL_law_3 : decode code 3 = .ok (.dup, 1) := by decide +kernel
theorem dL_law_4 : decode code 4 = .ok (.invokespecial 46, 3) := by decide +kernel
theorem dL_law_7 : decode code 7 = .ok (.astore_n 1, 1) := by decide +kernel
theorem dL_law_8 : decode code 8 = .ok (.new 47, 3) := by decide +kernel
theorem dL_law_11 : decode code 11 = .ok (.dup, 1) := by decide +kernel
theorem dL_law_12 : decode code 12 = .ok (.invokespecial 49, 3) := by decide +kernel
theorem dL_law_15 : decode code 15 = .ok (.astore_n 2, 1) := by decide +kernel
theorem dL_law_16 : decode code 16 = .ok (.iconst 1, 1) := by decide +kernel
theorem dL_law_17 : decode code 17 = .ok (.newarray .long, 2) := by decide +kernel
theorem dL_law_19 : decode code 19 = .ok (.astore_n 3, 1) := by decide +kernel
theorem dL_law_20 : decode code 20 = .ok (.iconst 0, 1) := by decide +kernel
theorem dL_law_21 : decode code 21 = .ok (.istore 4, 2) := by decide +kernel
theorem dL_law_23 : decode code 23 = .ok (.iload 4, 2) := by decide +kernel
theorem dL_law_25 : decode code 25 = .ok (.aload_n 0, 1) := by decide +kernel
theorem dL_law_26 : decode code 26 = .ok (.arraylength, 1) := by decide +kernel
theorem dL_law_27 : decode code 27 = .ok (.iconst 4, 1) := by decide +kernel
theorem dL_law_28 : decode code 28 = .ok (.isub, 1) := by decide +kernel
theorem dL_law_29 : decode code 29 = .ok (.if_icmp .gt 612, 3) := by decide +kernel
theorem dL_law_32 : decode code 32 = .ok (.aload_n 0, 1) := by decide +kernel
theorem dL_law_33 : decode code 33 = .ok (.iload 4, 2) := by decide +kernel
theorem dL_law_35 : decode code 35 = .ok (.iaload, 1) := by decide +kernel
theorem dL_law_36 : decode code 36 = .ok (.bipush 15, 2) := by decide +kernel
theorem dL_law_38 : decode code 38 = .ok (.iand, 1) := by decide +kernel
theorem dL_law_39 : decode code 39 = .ok (.tableswitch 596 0 9 #[53, 64, 132, 212, 248, 316, 384, 440, 508, 583], 53) := by decide +kernel
theorem dL_law_92 : decode code 92 = .ok (.aload_n 1, 1) := by decide +kernel
theorem dL_law_93 : decode code 93 = .ok (.invokevirtual 50, 3) := by decide +kernel
theorem dL_law_96 : decode code 96 = .ok (.aload_n 2, 1) := by decide +kernel
theorem dL_law_97 : decode code 97 = .ok (.invokevirtual 53, 3) := by decide +kernel
theorem dL_law_100 : decode code 100 = .ok (.goto 535, 3) := by decide +kernel
theorem dL_law_103 : decode code 103 = .ok (.aload_n 1, 1) := by decide +kernel
theorem dL_law_104 : decode code 104 = .ok (.aload_n 0, 1) := by decide +kernel
theorem dL_law_105 : decode code 105 = .ok (.iload 4, 2) := by decide +kernel
theorem dL_law_107 : decode code 107 = .ok (.iconst 1, 1) := by decide +kernel
theorem dL_law_108 : decode code 108 = .ok (.iadd, 1) := by decide +kernel
theorem dL_law_109 : decode code 109 = .ok (.iaload, 1) := by decide +kernel
theorem dL_law_110 : decode code 110 = .ok (.aload_n 0, 1) := by decide +kernel
theorem dL_law_111 : decode code 111 = .ok (.iload 4, 2) := by decide +kernel
theorem dL_law_113 : decode code 113 = .ok (.iconst 2, 1) := by decide +kernel
theorem dL_law_114 : decode code 114 = .ok (.iadd, 1) := by decide +kernel
theorem dL_law_115 : decode code 115 = .ok (.iaload, 1) := by decide +kernel
theorem dL_law_116 : decode code 116 = .ok (.aload_n 3, 1) := by decide +kernel
theorem dL_law_117 : decode code 117 = .ok (.invokestatic 54, 3) := by decide +kernel
theorem dL_law_120 : decode code 120 = .ok (.istore 5, 2) := by decide +kernel
theorem dL_law_122 : decode code 122 = .ok (.aload_n 2, 1) := by decide +kernel
theorem dL_law_123 : decode code 123 = .ok (.aload_n 0, 1) := by decide +kernel
theorem dL_law_124 : decode code 124 = .ok (.iload 4, 2) := by decide +kernel
theorem dL_law_126 : decode code 126 = .ok (.iconst 1, 1) := by decide +kernel
theorem dL_law_127 : decode code 127 = .ok (.iadd, 1) := by decide +kernel
theorem dL_law_128 : decode code 128 = .ok (.iaload, 1) := by decide +kernel
theorem dL_law_129 : decode code 129 = .ok (.aload_n 0, 1) := by decide +kernel
theorem dL_law_130 : decode code 130 = .ok (.iload 4, 2) := by decide +kernel
theorem dL_law_132 : decode code 132 = .ok (.iconst 2, 1) := by decide +kernel
theorem dL_law_133 : decode code 133 = .ok (.iadd, 1) := by decide +kernel
theorem dL_law_134 : decode code 134 = .ok (.iaload, 1) := by decide +kernel
theorem dL_law_135 : decode code 135 = .ok (.invokevirtual 59, 3) := by decide +kernel
theorem dL_law_138 : decode code 138 = .ok (.istore 6, 2) := by decide +kernel
theorem dL_law_140 : decode code 140 = .ok (.aload_n 2, 1) := by decide +kernel
theorem dL_law_141 : decode code 141 = .ok (.invokevirtual 60, 3) := by decide +kernel
theorem dL_law_144 : decode code 144 = .ok (.iload 5, 2) := by decide +kernel
theorem dL_law_146 : decode code 146 = .ok (.if_icmp .eq 5, 3) := by decide +kernel
theorem dL_law_149 : decode code 149 = .ok (.iconst 0, 1) := by decide +kernel
theorem dL_law_150 : decode code 150 = .ok (.ireturn, 1) := by decide +kernel
theorem dL_law_151 : decode code 151 = .ok (.iload 5, 2) := by decide +kernel
theorem dL_law_153 : decode code 153 = .ok (.ifCond .ne 15, 3) := by decide +kernel
theorem dL_law_156 : decode code 156 = .ok (.aload_n 3, 1) := by decide +kernel
theorem dL_law_157 : decode code 157 = .ok (.iconst 0, 1) := by decide +kernel
theorem dL_law_158 : decode code 158 = .ok (.laload, 1) := by decide +kernel
theorem dL_law_159 : decode code 159 = .ok (.iload 6, 2) := by decide +kernel
theorem dL_law_161 : decode code 161 = .ok (.i2l, 1) := by decide +kernel
theorem dL_law_162 : decode code 162 = .ok (.lcmp, 1) := by decide +kernel
theorem dL_law_163 : decode code 163 = .ok (.ifCond .eq 5, 3) := by decide +kernel
theorem dL_law_166 : decode code 166 = .ok (.iconst 0, 1) := by decide +kernel
theorem dL_law_167 : decode code 167 = .ok (.ireturn, 1) := by decide +kernel
theorem dL_law_168 : decode code 168 = .ok (.goto 467, 3) := by decide +kernel
theorem dL_law_171 : decode code 171 = .ok (.aload_n 1, 1) := by decide +kernel
theorem dL_law_172 : decode code 172 = .ok (.aload_n 0, 1) := by decide +kernel
theorem dL_law_173 : decode code 173 = .ok (.iload 4, 2) := by decide +kernel
theorem dL_law_175 : decode code 175 = .ok (.iconst 1, 1) := by decide +kernel
theorem dL_law_176 : decode code 176 = .ok (.iadd, 1) := by decide +kernel
theorem dL_law_177 : decode code 177 = .ok (.iaload, 1) := by decide +kernel
theorem dL_law_178 : decode code 178 = .ok (.aload_n 0, 1) := by decide +kernel
theorem dL_law_179 : decode code 179 = .ok (.iload 4, 2) := by decide +kernel
theorem dL_law_181 : decode code 181 = .ok (.iconst 2, 1) := by decide +kernel
theorem dL_law_182 : decode code 182 = .ok (.iadd, 1) := by decide +kernel
theorem dL_law_183 : decode code 183 = .ok (.iaload, 1) := by decide +kernel
theorem dL_law_184 : decode code 184 = .ok (.aload_n 0, 1) := by decide +kernel
theorem dL_law_185 : decode code 185 = .ok (.iload 4, 2) := by decide +kernel
theorem dL_law_187 : decode code 187 = .ok (.iconst 3, 1) := by decide +kernel
theorem dL_law_188 : decode code 188 = .ok (.iadd, 1) := by decide +kernel
theorem dL_law_189 : decode code 189 = .ok (.iaload, 1) := by decide +kernel
theorem dL_law_190 : decode code 190 = .ok (.aload_n 3, 1) := by decide +kernel
theorem dL_law_191 : decode code 191 = .ok (.invokestatic 64, 3) := by decide +kernel
theorem dL_law_194 : decode code 194 = .ok (.istore 5, 2) := by decide +kernel
theorem dL_law_196 : decode code 196 = .ok (.aload_n 2, 1) := by decide +kernel
theorem dL_law_197 : decode code 197 = .ok (.aload_n 0, 1) := by decide +kernel
theorem dL_law_198 : decode code 198 = .ok (.iload 4, 2) := by decide +kernel
theorem dL_law_200 : decode code 200 = .ok (.iconst 1, 1) := by decide +kernel
theorem dL_law_201 : decode code 201 = .ok (.iadd, 1) := by decide +kernel
theorem dL_law_202 : decode code 202 = .ok (.iaload, 1) := by decide +kernel
theorem dL_law_203 : decode code 203 = .ok (.aload_n 0, 1) := by decide +kernel
theorem dL_law_204 : decode code 204 = .ok (.iload 4, 2) := by decide +kernel
theorem dL_law_206 : decode code 206 = .ok (.iconst 2, 1) := by decide +kernel
theorem dL_law_207 : decode code 207 = .ok (.iadd, 1) := by decide +kernel
theorem dL_law_208 : decode code 208 = .ok (.iaload, 1) := by decide +kernel
theorem dL_law_209 : decode code 209 = .ok (.aload_n 0, 1) := by decide +kernel
theorem dL_law_210 : decode code 210 = .ok (.iload 4, 2) := by decide +kernel
theorem dL_law_212 : decode code 212 = .ok (.iconst 3, 1) := by decide +kernel
theorem dL_law_213 : decode code 213 = .ok (.iadd, 1) := by decide +kernel
theorem dL_law_214 : decode code 214 = .ok (.iaload, 1) := by decide +kernel
theorem dL_law_215 : decode code 215 = .ok (.invokevirtual 67, 3) := by decide +kernel
theorem dL_law_218 : decode code 218 = .ok (.istore 6, 2) := by decide +kernel
theorem dL_law_220 : decode code 220 = .ok (.aload_n 2, 1) := by decide +kernel
theorem dL_law_221 : decode code 221 = .ok (.invokevirtual 60, 3) := by decide +kernel
theorem dL_law_224 : decode code 224 = .ok (.iload 5, 2) := by decide +kernel
theorem dL_law_226 : decode code 226 = .ok (.if_icmp .eq 5, 3) := by decide +kernel
theorem dL_law_229 : decode code 229 = .ok (.iconst 0, 1) := by decide +kernel
theorem dL_law_230 : decode code 230 = .ok (.ireturn, 1) := by decide +kernel
theorem dL_law_231 : decode code 231 = .ok (.iload 5, 2) := by decide +kernel
theorem dL_law_233 : decode code 233 = .ok (.ifCond .ne 15, 3) := by decide +kernel
theorem dL_law_236 : decode code 236 = .ok (.aload_n 3, 1) := by decide +kernel
theorem dL_law_237 : decode code 237 = .ok (.iconst 0, 1) := by decide +kernel
theorem dL_law_238 : decode code 238 = .ok (.laload, 1) := by decide +kernel
theorem dL_law_239 : decode code 239 = .ok (.iload 6, 2) := by decide +kernel
theorem dL_law_241 : decode code 241 = .ok (.i2l, 1) := by decide +kernel
theorem dL_law_242 : decode code 242 = .ok (.lcmp, 1) := by decide +kernel
theorem dL_law_243 : decode code 243 = .ok (.ifCond .eq 5, 3) := by decide +kernel
theorem dL_law_246 : decode code 246 = .ok (.iconst 0, 1) := by decide +kernel
theorem dL_law_247 : decode code 247 = .ok (.ireturn, 1) := by decide +kernel
theorem dL_law_248 : decode code 248 = .ok (.goto 387, 3) := by decide +kernel
theorem dL_law_251 : decode code 251 = .ok (.aload_n 1, 1) := by decide +kernel
theorem dL_law_252 : decode code 252 = .ok (.aload_n 0, 1) := by decide +kernel
theorem dL_law_253 : decode code 253 = .ok (.iload 4, 2) := by decide +kernel
theorem dL_law_255 : decode code 255 = .ok (.iconst 1, 1) := by decide +kernel
theorem dL_law_256 : decode code 256 = .ok (.iadd, 1) := by decide +kernel
theorem dL_law_257 : decode code 257 = .ok (.iaload, 1) := by decide +kernel
theorem dL_law_258 : decode code 258 = .ok (.invokestatic 68, 3) := by decide +kernel
theorem dL_law_261 : decode code 261 = .ok (.istore 5, 2) := by decide +kernel
theorem dL_law_263 : decode code 263 = .ok (.aload_n 2, 1) := by decide +kernel
theorem dL_law_264 : decode code 264 = .ok (.aload_n 0, 1) := by decide +kernel
theorem dL_law_265 : decode code 265 = .ok (.iload 4, 2) := by decide +kernel
theorem dL_law_267 : decode code 267 = .ok (.iconst 1, 1) := by decide +kernel
theorem dL_law_268 : decode code 268 = .ok (.iadd, 1) := by decide +kernel
theorem dL_law_269 : decode code 269 = .ok (.iaload, 1) := by decide +kernel
theorem dL_law_270 : decode code 270 = .ok (.invokevirtual 71, 3) := by decide +kernel
theorem dL_law_273 : decode code 273 = .ok (.aload_n 2, 1) := by decide +kernel
theorem dL_law_274 : decode code 274 = .ok (.invokevirtual 60, 3) := by decide +kernel
theorem dL_law_277 : decode code 277 = .ok (.iload 5, 2) := by decide +kernel
theorem dL_law_279 : decode code 279 = .ok (.if_icmp .eq 5, 3) := by decide +kernel
theorem dL_law_282 : decode code 282 = .ok (.iconst 0, 1) := by decide +kernel
theorem dL_law_283 : decode code 283 = .ok (.ireturn, 1) := by decide +kernel
theorem dL_law_284 : decode code 284 = .ok (.goto 351, 3) := by decide +kernel
theorem dL_law_287 : decode code 287 = .ok (.aload_n 1, 1) := by decide +kernel
theorem dL_law_288 : decode code 288 = .ok (.aload_n 0, 1) := by decide +kernel
theorem dL_law_289 : decode code 289 = .ok (.iload 4, 2) := by decide +kernel
theorem dL_law_291 : decode code 291 = .ok (.iconst 1, 1) := by decide +kernel
theorem dL_law_292 : decode code 292 = .ok (.iadd, 1) := by decide +kernel
theorem dL_law_293 : decode code 293 = .ok (.iaload, 1) := by decide +kernel
theorem dL_law_294 : decode code 294 = .ok (.aload_n 0, 1) := by decide +kernel
theorem dL_law_295 : decode code 295 = .ok (.iload 4, 2) := by decide +kernel
theorem dL_law_297 : decode code 297 = .ok (.iconst 2, 1) := by decide +kernel
theorem dL_law_298 : decode code 298 = .ok (.iadd, 1) := by decide +kernel
theorem dL_law_299 : decode code 299 = .ok (.iaload, 1) := by decide +kernel
theorem dL_law_300 : decode code 300 = .ok (.aload_n 3, 1) := by decide +kernel
theorem dL_law_301 : decode code 301 = .ok (.invokestatic 72, 3) := by decide +kernel
theorem dL_law_304 : decode code 304 = .ok (.istore 5, 2) := by decide +kernel
theorem dL_law_306 : decode code 306 = .ok (.aload_n 2, 1) := by decide +kernel
theorem dL_law_307 : decode code 307 = .ok (.aload_n 0, 1) := by decide +kernel
theorem dL_law_308 : decode code 308 = .ok (.iload 4, 2) := by decide +kernel
theorem dL_law_310 : decode code 310 = .ok (.iconst 1, 1) := by decide +kernel
theorem dL_law_311 : decode code 311 = .ok (.iadd, 1) := by decide +kernel
theorem dL_law_312 : decode code 312 = .ok (.iaload, 1) := by decide +kernel
theorem dL_law_313 : decode code 313 = .ok (.aload_n 0, 1) := by decide +kernel
theorem dL_law_314 : decode code 314 = .ok (.iload 4, 2) := by decide +kernel
theorem dL_law_316 : decode code 316 = .ok (.iconst 2, 1) := by decide +kernel
theorem dL_law_317 : decode code 317 = .ok (.iadd, 1) := by decide +kernel
theorem dL_law_318 : decode code 318 = .ok (.iaload, 1) := by decide +kernel
theorem dL_law_319 : decode code 319 = .ok (.invokevirtual 74, 3) := by decide +kernel
theorem dL_law_322 : decode code 322 = .ok (.istore 6, 2) := by decide +kernel
theorem dL_law_324 : decode code 324 = .ok (.aload_n 2, 1) := by decide +kernel
theorem dL_law_325 : decode code 325 = .ok (.invokevirtual 60, 3) := by decide +kernel
theorem dL_law_328 : decode code 328 = .ok (.iload 5, 2) := by decide +kernel
theorem dL_law_330 : decode code 330 = .ok (.if_icmp .eq 5, 3) := by decide +kernel
theorem dL_law_333 : decode code 333 = .ok (.iconst 0, 1) := by decide +kernel
theorem dL_law_334 : decode code 334 = .ok (.ireturn, 1) := by decide +kernel
theorem dL_law_335 : decode code 335 = .ok (.iload 5, 2) := by decide +kernel
theorem dL_law_337 : decode code 337 = .ok (.ifCond .ne 15, 3) := by decide +kernel
theorem dL_law_340 : decode code 340 = .ok (.aload_n 3, 1) := by decide +kernel
theorem dL_law_341 : decode code 341 = .ok (.iconst 0, 1) := by decide +kernel
theorem dL_law_342 : decode code 342 = .ok (.laload, 1) := by decide +kernel
theorem dL_law_343 : decode code 343 = .ok (.iload 6, 2) := by decide +kernel
theorem dL_law_345 : decode code 345 = .ok (.i2l, 1) := by decide +kernel
theorem dL_law_346 : decode code 346 = .ok (.lcmp, 1) := by decide +kernel
theorem dL_law_347 : decode code 347 = .ok (.ifCond .eq 5, 3) := by decide +kernel
theorem dL_law_350 : decode code 350 = .ok (.iconst 0, 1) := by decide +kernel
theorem dL_law_351 : decode code 351 = .ok (.ireturn, 1) := by decide +kernel
theorem dL_law_352 : decode code 352 = .ok (.goto 283, 3) := by decide +kernel
theorem dL_law_355 : decode code 355 = .ok (.aload_n 1, 1) := by decide +kernel
theorem dL_law_356 : decode code 356 = .ok (.aload_n 0, 1) := by decide +kernel
theorem dL_law_357 : decode code 357 = .ok (.iload 4, 2) := by decide +kernel
theorem dL_law_359 : decode code 359 = .ok (.iconst 1, 1) := by decide +kernel
theorem dL_law_360 : decode code 360 = .ok (.iadd, 1) := by decide +kernel
theorem dL_law_361 : decode code 361 = .ok (.iaload, 1) := by decide +kernel
theorem dL_law_362 : decode code 362 = .ok (.aload_n 0, 1) := by decide +kernel
theorem dL_law_363 : decode code 363 = .ok (.iload 4, 2) := by decide +kernel
theorem dL_law_365 : decode code 365 = .ok (.iconst 2, 1) := by decide +kernel
theorem dL_law_366 : decode code 366 = .ok (.iadd, 1) := by decide +kernel
theorem dL_law_367 : decode code 367 = .ok (.iaload, 1) := by decide +kernel
theorem dL_law_368 : decode code 368 = .ok (.aload_n 3, 1) := by decide +kernel
theorem dL_law_369 : decode code 369 = .ok (.invokestatic 75, 3) := by decide +kernel
theorem dL_law_372 : decode code 372 = .ok (.istore 5, 2) := by decide +kernel
theorem dL_law_374 : decode code 374 = .ok (.aload_n 2, 1) := by decide +kernel
theorem dL_law_375 : decode code 375 = .ok (.aload_n 0, 1) := by decide +kernel
theorem dL_law_376 : decode code 376 = .ok (.iload 4, 2) := by decide +kernel
theorem dL_law_378 : decode code 378 = .ok (.iconst 1, 1) := by decide +kernel
theorem dL_law_379 : decode code 379 = .ok (.iadd, 1) := by decide +kernel
theorem dL_law_380 : decode code 380 = .ok (.iaload, 1) := by decide +kernel
theorem dL_law_381 : decode code 381 = .ok (.aload_n 0, 1) := by decide +kernel
theorem dL_law_382 : decode code 382 = .ok (.iload 4, 2) := by decide +kernel
theorem dL_law_384 : decode code 384 = .ok (.iconst 2, 1) := by decide +kernel
theorem dL_law_385 : decode code 385 = .ok (.iadd, 1) := by decide +kernel
theorem dL_law_386 : decode code 386 = .ok (.iaload, 1) := by decide +kernel
theorem dL_law_387 : decode code 387 = .ok (.invokevirtual 77, 3) := by decide +kernel
theorem dL_law_390 : decode code 390 = .ok (.istore 6, 2) := by decide +kernel
theorem dL_law_392 : decode code 392 = .ok (.aload_n 2, 1) := by decide +kernel
theorem dL_law_393 : decode code 393 = .ok (.invokevirtual 60, 3) := by decide +kernel
theorem dL_law_396 : decode code 396 = .ok (.iload 5, 2) := by decide +kernel
theorem dL_law_398 : decode code 398 = .ok (.if_icmp .eq 5, 3) := by decide +kernel
theorem dL_law_401 : decode code 401 = .ok (.iconst 0, 1) := by decide +kernel
theorem dL_law_402 : decode code 402 = .ok (.ireturn, 1) := by decide +kernel
theorem dL_law_403 : decode code 403 = .ok (.iload 5, 2) := by decide +kernel
theorem dL_law_405 : decode code 405 = .ok (.ifCond .ne 15, 3) := by decide +kernel
theorem dL_law_408 : decode code 408 = .ok (.aload_n 3, 1) := by decide +kernel
theorem dL_law_409 : decode code 409 = .ok (.iconst 0, 1) := by decide +kernel
theorem dL_law_410 : decode code 410 = .ok (.laload, 1) := by decide +kernel
theorem dL_law_411 : decode code 411 = .ok (.iload 6, 2) := by decide +kernel
theorem dL_law_413 : decode code 413 = .ok (.i2l, 1) := by decide +kernel
theorem dL_law_414 : decode code 414 = .ok (.lcmp, 1) := by decide +kernel
theorem dL_law_415 : decode code 415 = .ok (.ifCond .eq 5, 3) := by decide +kernel
theorem dL_law_418 : decode code 418 = .ok (.iconst 0, 1) := by decide +kernel
theorem dL_law_419 : decode code 419 = .ok (.ireturn, 1) := by decide +kernel
theorem dL_law_420 : decode code 420 = .ok (.goto 215, 3) := by decide +kernel
theorem dL_law_423 : decode code 423 = .ok (.aload_n 1, 1) := by decide +kernel
theorem dL_law_424 : decode code 424 = .ok (.aload_n 0, 1) := by decide +kernel
theorem dL_law_425 : decode code 425 = .ok (.iload 4, 2) := by decide +kernel
theorem dL_law_427 : decode code 427 = .ok (.iconst 1, 1) := by decide +kernel
theorem dL_law_428 : decode code 428 = .ok (.iadd, 1) := by decide +kernel
theorem dL_law_429 : decode code 429 = .ok (.iaload, 1) := by decide +kernel
theorem dL_law_430 : decode code 430 = .ok (.aload_n 3, 1) := by decide +kernel
theorem dL_law_431 : decode code 431 = .ok (.invokestatic 78, 3) := by decide +kernel
theorem dL_law_434 : decode code 434 = .ok (.istore 5, 2) := by decide +kernel
theorem dL_law_436 : decode code 436 = .ok (.aload_n 2, 1) := by decide +kernel
theorem dL_law_437 : decode code 437 = .ok (.aload_n 0, 1) := by decide +kernel
theorem dL_law_438 : decode code 438 = .ok (.iload 4, 2) := by decide +kernel
theorem dL_law_440 : decode code 440 = .ok (.iconst 1, 1) := by decide +kernel
theorem dL_law_441 : decode code 441 = .ok (.iadd, 1) := by decide +kernel
theorem dL_law_442 : decode code 442 = .ok (.iaload, 1) := by decide +kernel
theorem dL_law_443 : decode code 443 = .ok (.invokevirtual 81, 3) := by decide +kernel
theorem dL_law_446 : decode code 446 = .ok (.istore 6, 2) := by decide +kernel
theorem dL_law_448 : decode code 448 = .ok (.aload_n 2, 1) := by decide +kernel
theorem dL_law_449 : decode code 449 = .ok (.invokevirtual 60, 3) := by decide +kernel
theorem dL_law_452 : decode code 452 = .ok (.iload 5, 2) := by decide +kernel
theorem dL_law_454 : decode code 454 = .ok (.if_icmp .eq 5, 3) := by decide +kernel
theorem dL_law_457 : decode code 457 = .ok (.iconst 0, 1) := by decide +kernel
theorem dL_law_458 : decode code 458 = .ok (.ireturn, 1) := by decide +kernel
theorem dL_law_459 : decode code 459 = .ok (.iload 5, 2) := by decide +kernel
theorem dL_law_461 : decode code 461 = .ok (.ifCond .ne 15, 3) := by decide +kernel
theorem dL_law_464 : decode code 464 = .ok (.aload_n 3, 1) := by decide +kernel
theorem dL_law_465 : decode code 465 = .ok (.iconst 0, 1) := by decide +kernel
theorem dL_law_466 : decode code 466 = .ok (.laload, 1) := by decide +kernel
theorem dL_law_467 : decode code 467 = .ok (.iload 6, 2) := by decide +kernel
theorem dL_law_469 : decode code 469 = .ok (.i2l, 1) := by decide +kernel
theorem dL_law_470 : decode code 470 = .ok (.lcmp, 1) := by decide +kernel
theorem dL_law_471 : decode code 471 = .ok (.ifCond .eq 5, 3) := by decide +kernel
theorem dL_law_474 : decode code 474 = .ok (.iconst 0, 1) := by decide +kernel
theorem dL_law_475 : decode code 475 = .ok (.ireturn, 1) := by decide +kernel
theorem dL_law_476 : decode code 476 = .ok (.goto 159, 3) := by decide +kernel
theorem dL_law_479 : decode code 479 = .ok (.aload_n 1, 1) := by decide +kernel
theorem dL_law_480 : decode code 480 = .ok (.aload_n 0, 1) := by decide +kernel
theorem dL_law_481 : decode code 481 = .ok (.iload 4, 2) := by decide +kernel
theorem dL_law_483 : decode code 483 = .ok (.iconst 1, 1) := by decide +kernel
theorem dL_law_484 : decode code 484 = .ok (.iadd, 1) := by decide +kernel
theorem dL_law_485 : decode code 485 = .ok (.iaload, 1) := by decide +kernel
theorem dL_law_486 : decode code 486 = .ok (.aload_n 0, 1) := by decide +kernel
theorem dL_law_487 : decode code 487 = .ok (.iload 4, 2) := by decide +kernel
theorem dL_law_489 : decode code 489 = .ok (.iconst 2, 1) := by decide +kernel
theorem dL_law_490 : decode code 490 = .ok (.iadd, 1) := by decide +kernel
theorem dL_law_491 : decode code 491 = .ok (.iaload, 1) := by decide +kernel
theorem dL_law_492 : decode code 492 = .ok (.aload_n 3, 1) := by decide +kernel
theorem dL_law_493 : decode code 493 = .ok (.invokestatic 82, 3) := by decide +kernel
theorem dL_law_496 : decode code 496 = .ok (.istore 5, 2) := by decide +kernel
theorem dL_law_498 : decode code 498 = .ok (.aload_n 2, 1) := by decide +kernel
theorem dL_law_499 : decode code 499 = .ok (.aload_n 0, 1) := by decide +kernel
theorem dL_law_500 : decode code 500 = .ok (.iload 4, 2) := by decide +kernel
theorem dL_law_502 : decode code 502 = .ok (.iconst 1, 1) := by decide +kernel
theorem dL_law_503 : decode code 503 = .ok (.iadd, 1) := by decide +kernel
theorem dL_law_504 : decode code 504 = .ok (.iaload, 1) := by decide +kernel
theorem dL_law_505 : decode code 505 = .ok (.aload_n 0, 1) := by decide +kernel
theorem dL_law_506 : decode code 506 = .ok (.iload 4, 2) := by decide +kernel
theorem dL_law_508 : decode code 508 = .ok (.iconst 2, 1) := by decide +kernel
theorem dL_law_509 : decode code 509 = .ok (.iadd, 1) := by decide +kernel
theorem dL_law_510 : decode code 510 = .ok (.iaload, 1) := by decide +kernel
theorem dL_law_511 : decode code 511 = .ok (.invokevirtual 84, 3) := by decide +kernel
theorem dL_law_514 : decode code 514 = .ok (.istore 6, 2) := by decide +kernel
theorem dL_law_516 : decode code 516 = .ok (.aload_n 2, 1) := by decide +kernel
theorem dL_law_517 : decode code 517 = .ok (.invokevirtual 60, 3) := by decide +kernel
theorem dL_law_520 : decode code 520 = .ok (.iload 5, 2) := by decide +kernel
theorem dL_law_522 : decode code 522 = .ok (.if_icmp .eq 5, 3) := by decide +kernel
theorem dL_law_525 : decode code 525 = .ok (.iconst 0, 1) := by decide +kernel
theorem dL_law_526 : decode code 526 = .ok (.ireturn, 1) := by decide +kernel
theorem dL_law_527 : decode code 527 = .ok (.iload 5, 2) := by decide +kernel
theorem dL_law_529 : decode code 529 = .ok (.ifCond .ne 15, 3) := by decide +kernel
theorem dL_law_532 : decode code 532 = .ok (.aload_n 3, 1) := by decide +kernel
theorem dL_law_533 : decode code 533 = .ok (.iconst 0, 1) := by decide +kernel
theorem dL_law_534 : decode code 534 = .ok (.laload, 1) := by decide +kernel
theorem dL_law_535 : decode code 535 = .ok (.iload 6, 2) := by decide +kernel
theorem dL_law_537 : decode code 537 = .ok (.i2l, 1) := by decide +kernel
theorem dL_law_538 : decode code 538 = .ok (.lcmp, 1) := by decide +kernel
theorem dL_law_539 : decode code 539 = .ok (.ifCond .eq 5, 3) := by decide +kernel
theorem dL_law_542 : decode code 542 = .ok (.iconst 0, 1) := by decide +kernel
theorem dL_law_543 : decode code 543 = .ok (.ireturn, 1) := by decide +kernel
theorem dL_law_544 : decode code 544 = .ok (.goto 91, 3) := by decide +kernel
theorem dL_law_547 : decode code 547 = .ok (.aload_n 1, 1) := by decide +kernel
theorem dL_law_548 : decode code 548 = .ok (.aload_n 0, 1) := by decide +kernel
theorem dL_law_549 : decode code 549 = .ok (.iload 4, 2) := by decide +kernel
theorem dL_law_551 : decode code 551 = .ok (.iconst 1, 1) := by decide +kernel
theorem dL_law_552 : decode code 552 = .ok (.iadd, 1) := by decide +kernel
theorem dL_law_553 : decode code 553 = .ok (.iaload, 1) := by decide +kernel
theorem dL_law_554 : decode code 554 = .ok (.aload_n 0, 1) := by decide +kernel
theorem dL_law_555 : decode code 555 = .ok (.iload 4, 2) := by decide +kernel
theorem dL_law_557 : decode code 557 = .ok (.iconst 2, 1) := by decide +kernel
theorem dL_law_558 : decode code 558 = .ok (.iadd, 1) := by decide +kernel
theorem dL_law_559 : decode code 559 = .ok (.iaload, 1) := by decide +kernel
theorem dL_law_560 : decode code 560 = .ok (.aload_n 3, 1) := by decide +kernel
theorem dL_law_561 : decode code 561 = .ok (.invokestatic 85, 3) := by decide +kernel
theorem dL_law_564 : decode code 564 = .ok (.istore 5, 2) := by decide +kernel
theorem dL_law_566 : decode code 566 = .ok (.aload_n 2, 1) := by decide +kernel
theorem dL_law_567 : decode code 567 = .ok (.aload_n 0, 1) := by decide +kernel
theorem dL_law_568 : decode code 568 = .ok (.iload 4, 2) := by decide +kernel
theorem dL_law_570 : decode code 570 = .ok (.iconst 1, 1) := by decide +kernel
theorem dL_law_571 : decode code 571 = .ok (.iadd, 1) := by decide +kernel
theorem dL_law_572 : decode code 572 = .ok (.iaload, 1) := by decide +kernel
theorem dL_law_573 : decode code 573 = .ok (.aload_n 0, 1) := by decide +kernel
theorem dL_law_574 : decode code 574 = .ok (.iload 4, 2) := by decide +kernel
theorem dL_law_576 : decode code 576 = .ok (.iconst 2, 1) := by decide +kernel
theorem dL_law_577 : decode code 577 = .ok (.iadd, 1) := by decide +kernel
theorem dL_law_578 : decode code 578 = .ok (.iaload, 1) := by decide +kernel
theorem dL_law_579 : decode code 579 = .ok (.invokevirtual 87, 3) := by decide +kernel
theorem dL_law_582 : decode code 582 = .ok (.istore 6, 2) := by decide +kernel
theorem dL_law_584 : decode code 584 = .ok (.aload_n 2, 1) := by decide +kernel
theorem dL_law_585 : decode code 585 = .ok (.invokevirtual 60, 3) := by decide +kernel
theorem dL_law_588 : decode code 588 = .ok (.iload 5, 2) := by decide +kernel
theorem dL_law_590 : decode code 590 = .ok (.if_icmp .eq 5, 3) := by decide +kernel
theorem dL_law_593 : decode code 593 = .ok (.iconst 0, 1) := by decide +kernel
theorem dL_law_594 : decode code 594 = .ok (.ireturn, 1) := by decide +kernel
theorem dL_law_595 : decode code 595 = .ok (.iload 5, 2) := by decide +kernel
theorem dL_law_597 : decode code 597 = .ok (.ifCond .ne 22, 3) := by decide +kernel
theorem dL_law_600 : decode code 600 = .ok (.aload_n 3, 1) := by decide +kernel
theorem dL_law_601 : decode code 601 = .ok (.iconst 0, 1) := by decide +kernel
theorem dL_law_602 : decode code 602 = .ok (.laload, 1) := by decide +kernel
theorem dL_law_603 : decode code 603 = .ok (.iload 6, 2) := by decide +kernel
theorem dL_law_605 : decode code 605 = .ok (.ifCond .eq 7, 3) := by decide +kernel
theorem dL_law_608 : decode code 608 = .ok (.lconst 1, 1) := by decide +kernel
theorem dL_law_609 : decode code 609 = .ok (.goto 4, 3) := by decide +kernel
theorem dL_law_612 : decode code 612 = .ok (.lconst 0, 1) := by decide +kernel
theorem dL_law_613 : decode code 613 = .ok (.lcmp, 1) := by decide +kernel
theorem dL_law_614 : decode code 614 = .ok (.ifCond .eq 5, 3) := by decide +kernel
theorem dL_law_617 : decode code 617 = .ok (.iconst 0, 1) := by decide +kernel
theorem dL_law_618 : decode code 618 = .ok (.ireturn, 1) := by decide +kernel
theorem dL_law_619 : decode code 619 = .ok (.goto 16, 3) := by decide +kernel
theorem dL_law_622 : decode code 622 = .ok (.aload_n 1, 1) := by decide +kernel
theorem dL_law_623 : decode code 623 = .ok (.invokevirtual 88, 3) := by decide +kernel
theorem dL_law_626 : decode code 626 = .ok (.aload_n 2, 1) := by decide +kernel
theorem dL_law_627 : decode code 627 = .ok (.invokevirtual 91, 3) := by decide +kernel
theorem dL_law_630 : decode code 630 = .ok (.if_icmp .eq 5, 3) := by decide +kernel
theorem dL_law_633 : decode code 633 = .ok (.iconst 0, 1) := by decide +kernel
theorem dL_law_634 : decode code 634 = .ok (.ireturn, 1) := by decide +kernel
theorem dL_law_635 : decode code 635 = .ok (.iinc 4 4, 3) := by decide +kernel
theorem dL_law_638 : decode code 638 = .ok (.goto (-615), 3) := by decide +kernel
theorem dL_law_641 : decode code 641 = .ok (.iconst 1, 1) := by decide +kernel
theorem dL_law_642 : decode code 642 = .ok (.ireturn, 1) := by decide +kernel

theorem dc_La_line_0 : decode cd_La_line 0 = .ok (.aload 4, 2) := by decide +kernel
theorem dc_La_line_2 : decode cd_La_line 2 = .ok (.iconst 0, 1) := by decide +kernel
theorem dc_La_line_3 : decode cd_La_line 3 = .ok (.aload_n 0, 1) := by decide +kernel
theorem dc_La_line_4 : decode cd_La_line 4 = .ok (.iload_n 1, 1) := by decide +kernel
theorem dc_La_line_5 : decode cd_La_line 5 = .ok (.iload_n 2, 1) := by decide +kernel
theorem dc_La_line_6 : decode cd_La_line 6 = .ok (.iload_n 3, 1) := by decide +kernel
theorem dc_La_line_7 : decode cd_La_line 7 = .ok (.invokevirtual 44, 3) := by decide +kernel
theorem dc_La_line_10 : decode cd_La_line 10 = .ok (.i2l, 1) := by decide +kernel
theorem dc_La_line_11 : decode cd_La_line 11 = .ok (.lastore, 1) := by decide +kernel
theorem dc_La_line_12 : decode cd_La_line 12 = .ok (.goto 11, 3) := by decide +kernel
theorem dc_La_line_15 : decode cd_La_line 15 = .ok (.astore 5, 2) := by decide +kernel
theorem dc_La_line_17 : decode cd_La_line 17 = .ok (.iconst 1, 1) := by decide +kernel
theorem dc_La_line_18 : decode cd_La_line 18 = .ok (.ireturn, 1) := by decide +kernel
theorem dc_La_line_19 : decode cd_La_line 19 = .ok (.astore 5, 2) := by decide +kernel
theorem dc_La_line_21 : decode cd_La_line 21 = .ok (.iconst 2, 1) := by decide +kernel
theorem dc_La_line_22 : decode cd_La_line 22 = .ok (.ireturn, 1) := by decide +kernel
theorem dc_La_line_23 : decode cd_La_line 23 = .ok (.iconst 0, 1) := by decide +kernel
theorem dc_La_line_24 : decode cd_La_line 24 = .ok (.ireturn, 1) := by decide +kernel
theorem dc_La_interval_0 : decode cd_La_interval 0 = .ok (.aload 4, 2) := by decide +kernel
theorem dc_La_interval_2 : decode cd_La_interval 2 = .ok (.iconst 0, 1) := by decide +kernel
theorem dc_La_interval_3 : decode cd_La_interval 3 = .ok (.aload_n 0, 1) := by decide +kernel
theorem dc_La_interval_4 : decode cd_La_interval 4 = .ok (.iload_n 1, 1) := by decide +kernel
theorem dc_La_interval_5 : decode cd_La_interval 5 = .ok (.iload_n 2, 1) := by decide +kernel
theorem dc_La_interval_6 : decode cd_La_interval 6 = .ok (.iload_n 3, 1) := by decide +kernel
theorem dc_La_interval_7 : decode cd_La_interval 7 = .ok (.invokevirtual 47, 3) := by decide +kernel
theorem dc_La_interval_10 : decode cd_La_interval 10 = .ok (.i2l, 1) := by decide +kernel
theorem dc_La_interval_11 : decode cd_La_interval 11 = .ok (.lastore, 1) := by decide +kernel
theorem dc_La_interval_12 : decode cd_La_interval 12 = .ok (.goto 7, 3) := by decide +kernel
theorem dc_La_interval_15 : decode cd_La_interval 15 = .ok (.astore 5, 2) := by decide +kernel
theorem dc_La_interval_17 : decode cd_La_interval 17 = .ok (.iconst 1, 1) := by decide +kernel
theorem dc_La_interval_18 : decode cd_La_interval 18 = .ok (.ireturn, 1) := by decide +kernel
theorem dc_La_interval_19 : decode cd_La_interval 19 = .ok (.iconst 0, 1) := by decide +kernel
theorem dc_La_interval_20 : decode cd_La_interval 20 = .ok (.ireturn, 1) := by decide +kernel
theorem dc_La_scenario_0 : decode cd_La_scenario 0 = .ok (.aload_n 3, 1) := by decide +kernel
theorem dc_La_scenario_1 : decode cd_La_scenario 1 = .ok (.iconst 0, 1) := by decide +kernel
theorem dc_La_scenario_2 : decode cd_La_scenario 2 = .ok (.aload_n 0, 1) := by decide +kernel
theorem dc_La_scenario_3 : decode cd_La_scenario 3 = .ok (.iload_n 1, 1) := by decide +kernel
theorem dc_La_scenario_4 : decode cd_La_scenario 4 = .ok (.iload_n 2, 1) := by decide +kernel
theorem dc_La_scenario_5 : decode cd_La_scenario 5 = .ok (.invokevirtual 50, 3) := by decide +kernel
theorem dc_La_scenario_8 : decode cd_La_scenario 8 = .ok (.i2l, 1) := by decide +kernel
theorem dc_La_scenario_9 : decode cd_La_scenario 9 = .ok (.lastore, 1) := by decide +kernel
theorem dc_La_scenario_10 : decode cd_La_scenario 10 = .ok (.goto 7, 3) := by decide +kernel
theorem dc_La_scenario_13 : decode cd_La_scenario 13 = .ok (.astore 4, 2) := by decide +kernel
theorem dc_La_scenario_15 : decode cd_La_scenario 15 = .ok (.iconst 1, 1) := by decide +kernel
theorem dc_La_scenario_16 : decode cd_La_scenario 16 = .ok (.ireturn, 1) := by decide +kernel
theorem dc_La_scenario_17 : decode cd_La_scenario 17 = .ok (.iconst 0, 1) := by decide +kernel
theorem dc_La_scenario_18 : decode cd_La_scenario 18 = .ok (.ireturn, 1) := by decide +kernel
theorem dc_La_step_0 : decode cd_La_step 0 = .ok (.aload_n 2, 1) := by decide +kernel
theorem dc_La_step_1 : decode cd_La_step 1 = .ok (.iconst 0, 1) := by decide +kernel
theorem dc_La_step_2 : decode cd_La_step 2 = .ok (.aload_n 0, 1) := by decide +kernel
theorem dc_La_step_3 : decode cd_La_step 3 = .ok (.iload_n 1, 1) := by decide +kernel
theorem dc_La_step_4 : decode cd_La_step 4 = .ok (.invokevirtual 53, 3) := by decide +kernel
theorem dc_La_step_7 : decode cd_La_step 7 = .ok (.i2l, 1) := by decide +kernel
theorem dc_La_step_8 : decode cd_La_step 8 = .ok (.lastore, 1) := by decide +kernel
theorem dc_La_step_9 : decode cd_La_step 9 = .ok (.goto 9, 3) := by decide +kernel
theorem dc_La_step_12 : decode cd_La_step 12 = .ok (.astore_n 3, 1) := by decide +kernel
theorem dc_La_step_13 : decode cd_La_step 13 = .ok (.iconst 1, 1) := by decide +kernel
theorem dc_La_step_14 : decode cd_La_step 14 = .ok (.ireturn, 1) := by decide +kernel
theorem dc_La_step_15 : decode cd_La_step 15 = .ok (.astore_n 3, 1) := by decide +kernel
theorem dc_La_step_16 : decode cd_La_step 16 = .ok (.iconst 2, 1) := by decide +kernel
theorem dc_La_step_17 : decode cd_La_step 17 = .ok (.ireturn, 1) := by decide +kernel
theorem dc_La_step_18 : decode cd_La_step 18 = .ok (.iconst 0, 1) := by decide +kernel
theorem dc_La_step_19 : decode cd_La_step 19 = .ok (.ireturn, 1) := by decide +kernel
theorem dc_La_ways_0 : decode cd_La_ways 0 = .ok (.aload_n 3, 1) := by decide +kernel
theorem dc_La_ways_1 : decode cd_La_ways 1 = .ok (.iconst 0, 1) := by decide +kernel
theorem dc_La_ways_2 : decode cd_La_ways 2 = .ok (.aload_n 0, 1) := by decide +kernel
theorem dc_La_ways_3 : decode cd_La_ways 3 = .ok (.iload_n 1, 1) := by decide +kernel
theorem dc_La_ways_4 : decode cd_La_ways 4 = .ok (.iload_n 2, 1) := by decide +kernel
theorem dc_La_ways_5 : decode cd_La_ways 5 = .ok (.invokevirtual 58, 3) := by decide +kernel
theorem dc_La_ways_8 : decode cd_La_ways 8 = .ok (.lastore, 1) := by decide +kernel
theorem dc_La_ways_9 : decode cd_La_ways 9 = .ok (.goto 11, 3) := by decide +kernel
theorem dc_La_ways_12 : decode cd_La_ways 12 = .ok (.astore 4, 2) := by decide +kernel
theorem dc_La_ways_14 : decode cd_La_ways 14 = .ok (.iconst 1, 1) := by decide +kernel
theorem dc_La_ways_15 : decode cd_La_ways 15 = .ok (.ireturn, 1) := by decide +kernel
theorem dc_La_ways_16 : decode cd_La_ways 16 = .ok (.astore 4, 2) := by decide +kernel
theorem dc_La_ways_18 : decode cd_La_ways 18 = .ok (.iconst 2, 1) := by decide +kernel
theorem dc_La_ways_19 : decode cd_La_ways 19 = .ok (.ireturn, 1) := by decide +kernel
theorem dc_La_ways_20 : decode cd_La_ways 20 = .ok (.iconst 0, 1) := by decide +kernel
theorem dc_La_ways_21 : decode cd_La_ways 21 = .ok (.ireturn, 1) := by decide +kernel
theorem dc_La_circle_0 : decode cd_La_circle 0 = .ok (.aload_n 3, 1) := by decide +kernel
theorem dc_La_circle_1 : decode cd_La_circle 1 = .ok (.iconst 0, 1) := by decide +kernel
theorem dc_La_circle_2 : decode cd_La_circle 2 = .ok (.aload_n 0, 1) := by decide +kernel
theorem dc_La_circle_3 : decode cd_La_circle 3 = .ok (.iload_n 1, 1) := by decide +kernel
theorem dc_La_circle_4 : decode cd_La_circle 4 = .ok (.iload_n 2, 1) := by decide +kernel
theorem dc_La_circle_5 : decode cd_La_circle 5 = .ok (.invokevirtual 64, 3) := by decide +kernel
theorem dc_La_circle_8 : decode cd_La_circle 8 = .ok (.i2l, 1) := by decide +kernel
theorem dc_La_circle_9 : decode cd_La_circle 9 = .ok (.lastore, 1) := by decide +kernel
theorem dc_La_circle_10 : decode cd_La_circle 10 = .ok (.goto 11, 3) := by decide +kernel
theorem dc_La_circle_13 : decode cd_La_circle 13 = .ok (.astore 4, 2) := by decide +kernel
theorem dc_La_circle_15 : decode cd_La_circle 15 = .ok (.iconst 1, 1) := by decide +kernel
theorem dc_La_circle_16 : decode cd_La_circle 16 = .ok (.ireturn, 1) := by decide +kernel
theorem dc_La_circle_17 : decode cd_La_circle 17 = .ok (.astore 4, 2) := by decide +kernel
theorem dc_La_circle_19 : decode cd_La_circle 19 = .ok (.iconst 2, 1) := by decide +kernel
theorem dc_La_circle_20 : decode cd_La_circle 20 = .ok (.ireturn, 1) := by decide +kernel
theorem dc_La_circle_21 : decode cd_La_circle 21 = .ok (.iconst 0, 1) := by decide +kernel
theorem dc_La_circle_22 : decode cd_La_circle 22 = .ok (.ireturn, 1) := by decide +kernel
theorem dc_La_median_0 : decode cd_La_median 0 = .ok (.aload 4, 2) := by decide +kernel
theorem dc_La_median_2 : decode cd_La_median 2 = .ok (.iconst 0, 1) := by decide +kernel
theorem dc_La_median_3 : decode cd_La_median 3 = .ok (.aload_n 0, 1) := by decide +kernel
theorem dc_La_median_4 : decode cd_La_median 4 = .ok (.iload_n 1, 1) := by decide +kernel
theorem dc_La_median_5 : decode cd_La_median 5 = .ok (.iload_n 2, 1) := by decide +kernel
theorem dc_La_median_6 : decode cd_La_median 6 = .ok (.iload_n 3, 1) := by decide +kernel
theorem dc_La_median_7 : decode cd_La_median 7 = .ok (.invokevirtual 67, 3) := by decide +kernel
theorem dc_La_median_10 : decode cd_La_median 10 = .ok (.i2l, 1) := by decide +kernel
theorem dc_La_median_11 : decode cd_La_median 11 = .ok (.lastore, 1) := by decide +kernel
theorem dc_La_median_12 : decode cd_La_median 12 = .ok (.goto 11, 3) := by decide +kernel
theorem dc_La_median_15 : decode cd_La_median 15 = .ok (.astore 5, 2) := by decide +kernel
theorem dc_La_median_17 : decode cd_La_median 17 = .ok (.iconst 1, 1) := by decide +kernel
theorem dc_La_median_18 : decode cd_La_median 18 = .ok (.ireturn, 1) := by decide +kernel
theorem dc_La_median_19 : decode cd_La_median 19 = .ok (.astore 5, 2) := by decide +kernel
theorem dc_La_median_21 : decode cd_La_median 21 = .ok (.iconst 2, 1) := by decide +kernel
theorem dc_La_median_22 : decode cd_La_median 22 = .ok (.ireturn, 1) := by decide +kernel
theorem dc_La_median_23 : decode cd_La_median 23 = .ok (.iconst 0, 1) := by decide +kernel
theorem dc_La_median_24 : decode cd_La_median 24 = .ok (.ireturn, 1) := by decide +kernel
theorem dc_La_law_0 : decode code 0 = .ok (.new 8, 3) := by decide +kernel
theorem dc_La_law_3 : decode code 3 = .ok (.dup, 1) := by decide +kernel
theorem dc_La_law_4 : decode code 4 = .ok (.invokespecial 70, 3) := by decide +kernel
theorem dc_La_law_7 : decode code 7 = .ok (.astore_n 1, 1) := by decide +kernel
theorem dc_La_law_8 : decode code 8 = .ok (.new 71, 3) := by decide +kernel
theorem dc_La_law_11 : decode code 11 = .ok (.dup, 1) := by decide +kernel
theorem dc_La_law_12 : decode code 12 = .ok (.invokespecial 73, 3) := by decide +kernel
theorem dc_La_law_15 : decode code 15 = .ok (.astore_n 2, 1) := by decide +kernel
theorem dc_La_law_16 : decode code 16 = .ok (.iconst 1, 1) := by decide +kernel
theorem dc_La_law_17 : decode code 17 = .ok (.newarray .long, 2) := by decide +kernel
theorem dc_La_law_19 : decode code 19 = .ok (.astore_n 3, 1) := by decide +kernel
theorem dc_La_law_20 : decode code 20 = .ok (.iconst 0, 1) := by decide +kernel
theorem dc_La_law_21 : decode code 21 = .ok (.istore 4, 2) := by decide +kernel
theorem dc_La_law_23 : decode code 23 = .ok (.iload 4, 2) := by decide +kernel
theorem dc_La_law_25 : decode code 25 = .ok (.aload_n 0, 1) := by decide +kernel
theorem dc_La_law_26 : decode code 26 = .ok (.arraylength, 1) := by decide +kernel
theorem dc_La_law_27 : decode code 27 = .ok (.iconst 4, 1) := by decide +kernel
theorem dc_La_law_28 : decode code 28 = .ok (.isub, 1) := by decide +kernel
theorem dc_La_law_29 : decode code 29 = .ok (.if_icmp .gt 1145, 3) := by decide +kernel
theorem dc_La_law_32 : decode code 32 = .ok (.aload_n 0, 1) := by decide +kernel
theorem dc_La_law_33 : decode code 33 = .ok (.iload 4, 2) := by decide +kernel
theorem dc_La_law_35 : decode code 35 = .ok (.iaload, 1) := by decide +kernel
theorem dc_La_law_36 : decode code 36 = .ok (.bipush 31, 2) := by decide +kernel
theorem dc_La_law_38 : decode code 38 = .ok (.iand, 1) := by decide +kernel
theorem dc_La_law_39 : decode code 39 = .ok (.tableswitch 1129 0 16 #[81, 117, 174, 187, 243, 311, 359, 419, 482, 550, 630, 710, 790, 858, 914, 981, 1049], 81) := by decide +kernel
theorem dc_La_law_120 : decode code 120 = .ok (.aload_n 1, 1) := by decide +kernel
theorem dc_La_law_121 : decode code 121 = .ok (.aload_n 0, 1) := by decide +kernel
theorem dc_La_law_122 : decode code 122 = .ok (.iload 4, 2) := by decide +kernel
theorem dc_La_law_124 : decode code 124 = .ok (.iconst 1, 1) := by decide +kernel
theorem dc_La_law_125 : decode code 125 = .ok (.iadd, 1) := by decide +kernel
theorem dc_La_law_126 : decode code 126 = .ok (.iaload, 1) := by decide +kernel
theorem dc_La_law_127 : decode code 127 = .ok (.invokestatic 74, 3) := by decide +kernel
theorem dc_La_law_130 : decode code 130 = .ok (.istore 5, 2) := by decide +kernel
theorem dc_La_law_132 : decode code 132 = .ok (.aload_n 2, 1) := by decide +kernel
theorem dc_La_law_133 : decode code 133 = .ok (.aload_n 0, 1) := by decide +kernel
theorem dc_La_law_134 : decode code 134 = .ok (.iload 4, 2) := by decide +kernel
theorem dc_La_law_136 : decode code 136 = .ok (.iconst 1, 1) := by decide +kernel
theorem dc_La_law_137 : decode code 137 = .ok (.iadd, 1) := by decide +kernel
theorem dc_La_law_138 : decode code 138 = .ok (.iaload, 1) := by decide +kernel
theorem dc_La_law_139 : decode code 139 = .ok (.invokevirtual 79, 3) := by decide +kernel
theorem dc_La_law_142 : decode code 142 = .ok (.aload_n 2, 1) := by decide +kernel
theorem dc_La_law_143 : decode code 143 = .ok (.invokevirtual 80, 3) := by decide +kernel
theorem dc_La_law_146 : decode code 146 = .ok (.iload 5, 2) := by decide +kernel
theorem dc_La_law_148 : decode code 148 = .ok (.if_icmp .eq 5, 3) := by decide +kernel
theorem dc_La_law_151 : decode code 151 = .ok (.iconst 0, 1) := by decide +kernel
theorem dc_La_law_152 : decode code 152 = .ok (.ireturn, 1) := by decide +kernel
theorem dc_La_law_153 : decode code 153 = .ok (.goto 1015, 3) := by decide +kernel
theorem dc_La_law_156 : decode code 156 = .ok (.aload_n 1, 1) := by decide +kernel
theorem dc_La_law_157 : decode code 157 = .ok (.aload_n 0, 1) := by decide +kernel
theorem dc_La_law_158 : decode code 158 = .ok (.iload 4, 2) := by decide +kernel
theorem dc_La_law_160 : decode code 160 = .ok (.iconst 1, 1) := by decide +kernel
theorem dc_La_law_161 : decode code 161 = .ok (.iadd, 1) := by decide +kernel
theorem dc_La_law_162 : decode code 162 = .ok (.iaload, 1) := by decide +kernel
theorem dc_La_law_163 : decode code 163 = .ok (.i2l, 1) := by decide +kernel
theorem dc_La_law_164 : decode code 164 = .ok (.bipush 32, 2) := by decide +kernel
theorem dc_La_law_166 : decode code 166 = .ok (.lshl, 1) := by decide +kernel
theorem dc_La_law_167 : decode code 167 = .ok (.aload_n 0, 1) := by decide +kernel
theorem dc_La_law_168 : decode code 168 = .ok (.iload 4, 2) := by decide +kernel
theorem dc_La_law_170 : decode code 170 = .ok (.iconst 2, 1) := by decide +kernel
theorem dc_La_law_171 : decode code 171 = .ok (.iadd, 1) := by decide +kernel
theorem dc_La_law_172 : decode code 172 = .ok (.iaload, 1) := by decide +kernel
theorem dc_La_law_173 : decode code 173 = .ok (.i2l, 1) := by decide +kernel
theorem dc_La_law_174 : decode code 174 = .ok (.ldc2_w 84, 3) := by decide +kernel
theorem dc_La_law_177 : decode code 177 = .ok (.land, 1) := by decide +kernel
theorem dc_La_law_178 : decode code 178 = .ok (.lor, 1) := by decide +kernel
theorem dc_La_law_179 : decode code 179 = .ok (.invokevirtual 86, 3) := by decide +kernel
theorem dc_La_law_182 : decode code 182 = .ok (.aload_n 2, 1) := by decide +kernel
theorem dc_La_law_183 : decode code 183 = .ok (.aload_n 0, 1) := by decide +kernel
theorem dc_La_law_184 : decode code 184 = .ok (.iload 4, 2) := by decide +kernel
theorem dc_La_law_186 : decode code 186 = .ok (.iconst 1, 1) := by decide +kernel
theorem dc_La_law_187 : decode code 187 = .ok (.iadd, 1) := by decide +kernel
theorem dc_La_law_188 : decode code 188 = .ok (.iaload, 1) := by decide +kernel
theorem dc_La_law_189 : decode code 189 = .ok (.i2l, 1) := by decide +kernel
theorem dc_La_law_190 : decode code 190 = .ok (.bipush 32, 2) := by decide +kernel
theorem dc_La_law_192 : decode code 192 = .ok (.lshl, 1) := by decide +kernel
theorem dc_La_law_193 : decode code 193 = .ok (.aload_n 0, 1) := by decide +kernel
theorem dc_La_law_194 : decode code 194 = .ok (.iload 4, 2) := by decide +kernel
theorem dc_La_law_196 : decode code 196 = .ok (.iconst 2, 1) := by decide +kernel
theorem dc_La_law_197 : decode code 197 = .ok (.iadd, 1) := by decide +kernel
theorem dc_La_law_198 : decode code 198 = .ok (.iaload, 1) := by decide +kernel
theorem dc_La_law_199 : decode code 199 = .ok (.i2l, 1) := by decide +kernel
theorem dc_La_law_200 : decode code 200 = .ok (.ldc2_w 84, 3) := by decide +kernel
theorem dc_La_law_203 : decode code 203 = .ok (.land, 1) := by decide +kernel
theorem dc_La_law_204 : decode code 204 = .ok (.lor, 1) := by decide +kernel
theorem dc_La_law_205 : decode code 205 = .ok (.invokevirtual 90, 3) := by decide +kernel
theorem dc_La_law_208 : decode code 208 = .ok (.if_icmp .eq 960, 3) := by decide +kernel
theorem dc_La_law_211 : decode code 211 = .ok (.iconst 0, 1) := by decide +kernel
theorem dc_La_law_212 : decode code 212 = .ok (.ireturn, 1) := by decide +kernel
theorem dc_La_law_213 : decode code 213 = .ok (.aload_n 1, 1) := by decide +kernel
theorem dc_La_law_214 : decode code 214 = .ok (.invokevirtual 91, 3) := by decide +kernel
theorem dc_La_law_217 : decode code 217 = .ok (.aload_n 2, 1) := by decide +kernel
theorem dc_La_law_218 : decode code 218 = .ok (.invokevirtual 94, 3) := by decide +kernel
theorem dc_La_law_221 : decode code 221 = .ok (.if_icmp .eq 947, 3) := by decide +kernel
theorem dc_La_law_224 : decode code 224 = .ok (.iconst 0, 1) := by decide +kernel
theorem dc_La_law_225 : decode code 225 = .ok (.ireturn, 1) := by decide +kernel
theorem dc_La_law_226 : decode code 226 = .ok (.aload_n 1, 1) := by decide +kernel
theorem dc_La_law_227 : decode code 227 = .ok (.aload_n 0, 1) := by decide +kernel
theorem dc_La_law_228 : decode code 228 = .ok (.iload 4, 2) := by decide +kernel
theorem dc_La_law_230 : decode code 230 = .ok (.iconst 1, 1) := by decide +kernel
theorem dc_La_law_231 : decode code 231 = .ok (.iadd, 1) := by decide +kernel
theorem dc_La_law_232 : decode code 232 = .ok (.iaload, 1) := by decide +kernel
theorem dc_La_law_233 : decode code 233 = .ok (.aload_n 3, 1) := by decide +kernel
theorem dc_La_law_234 : decode code 234 = .ok (.invokestatic 95, 3) := by decide +kernel
theorem dc_La_law_237 : decode code 237 = .ok (.istore 5, 2) := by decide +kernel
theorem dc_La_law_239 : decode code 239 = .ok (.aload_n 2, 1) := by decide +kernel
theorem dc_La_law_240 : decode code 240 = .ok (.aload_n 0, 1) := by decide +kernel
theorem dc_La_law_241 : decode code 241 = .ok (.iload 4, 2) := by decide +kernel
theorem dc_La_law_243 : decode code 243 = .ok (.iconst 1, 1) := by decide +kernel
theorem dc_La_law_244 : decode code 244 = .ok (.iadd, 1) := by decide +kernel
theorem dc_La_law_245 : decode code 245 = .ok (.iaload, 1) := by decide +kernel
theorem dc_La_law_246 : decode code 246 = .ok (.invokevirtual 98, 3) := by decide +kernel
theorem dc_La_law_249 : decode code 249 = .ok (.istore 6, 2) := by decide +kernel
theorem dc_La_law_251 : decode code 251 = .ok (.aload_n 2, 1) := by decide +kernel
theorem dc_La_law_252 : decode code 252 = .ok (.invokevirtual 80, 3) := by decide +kernel
theorem dc_La_law_255 : decode code 255 = .ok (.iload 5, 2) := by decide +kernel
theorem dc_La_law_257 : decode code 257 = .ok (.if_icmp .eq 5, 3) := by decide +kernel
theorem dc_La_law_260 : decode code 260 = .ok (.iconst 0, 1) := by decide +kernel
theorem dc_La_law_261 : decode code 261 = .ok (.ireturn, 1) := by decide +kernel
theorem dc_La_law_262 : decode code 262 = .ok (.iload 5, 2) := by decide +kernel
theorem dc_La_law_264 : decode code 264 = .ok (.ifCond .ne 15, 3) := by decide +kernel
theorem dc_La_law_267 : decode code 267 = .ok (.aload_n 3, 1) := by decide +kernel
theorem dc_La_law_268 : decode code 268 = .ok (.iconst 0, 1) := by decide +kernel
theorem dc_La_law_269 : decode code 269 = .ok (.laload, 1) := by decide +kernel
theorem dc_La_law_270 : decode code 270 = .ok (.iload 6, 2) := by decide +kernel
theorem dc_La_law_272 : decode code 272 = .ok (.i2l, 1) := by decide +kernel
theorem dc_La_law_273 : decode code 273 = .ok (.lcmp, 1) := by decide +kernel
theorem dc_La_law_274 : decode code 274 = .ok (.ifCond .eq 5, 3) := by decide +kernel
theorem dc_La_law_277 : decode code 277 = .ok (.iconst 0, 1) := by decide +kernel
theorem dc_La_law_278 : decode code 278 = .ok (.ireturn, 1) := by decide +kernel
theorem dc_La_law_279 : decode code 279 = .ok (.goto 889, 3) := by decide +kernel
theorem dc_La_law_282 : decode code 282 = .ok (.aload_n 1, 1) := by decide +kernel
theorem dc_La_law_283 : decode code 283 = .ok (.aload_n 0, 1) := by decide +kernel
theorem dc_La_law_284 : decode code 284 = .ok (.iload 4, 2) := by decide +kernel
theorem dc_La_law_286 : decode code 286 = .ok (.iconst 1, 1) := by decide +kernel
theorem dc_La_law_287 : decode code 287 = .ok (.iadd, 1) := by decide +kernel
theorem dc_La_law_288 : decode code 288 = .ok (.iaload, 1) := by decide +kernel
theorem dc_La_law_289 : decode code 289 = .ok (.aload_n 0, 1) := by decide +kernel
theorem dc_La_law_290 : decode code 290 = .ok (.iload 4, 2) := by decide +kernel
theorem dc_La_law_292 : decode code 292 = .ok (.iconst 2, 1) := by decide +kernel
theorem dc_La_law_293 : decode code 293 = .ok (.iadd, 1) := by decide +kernel
theorem dc_La_law_294 : decode code 294 = .ok (.iaload, 1) := by decide +kernel
theorem dc_La_law_295 : decode code 295 = .ok (.aload_n 3, 1) := by decide +kernel
theorem dc_La_law_296 : decode code 296 = .ok (.invokestatic 99, 3) := by decide +kernel
theorem dc_La_law_299 : decode code 299 = .ok (.istore 5, 2) := by decide +kernel
theorem dc_La_law_301 : decode code 301 = .ok (.aload_n 2, 1) := by decide +kernel
theorem dc_La_law_302 : decode code 302 = .ok (.aload_n 0, 1) := by decide +kernel
theorem dc_La_law_303 : decode code 303 = .ok (.iload 4, 2) := by decide +kernel
theorem dc_La_law_305 : decode code 305 = .ok (.iconst 1, 1) := by decide +kernel
theorem dc_La_law_306 : decode code 306 = .ok (.iadd, 1) := by decide +kernel
theorem dc_La_law_307 : decode code 307 = .ok (.iaload, 1) := by decide +kernel
theorem dc_La_law_308 : decode code 308 = .ok (.aload_n 0, 1) := by decide +kernel
theorem dc_La_law_309 : decode code 309 = .ok (.iload 4, 2) := by decide +kernel
theorem dc_La_law_311 : decode code 311 = .ok (.iconst 2, 1) := by decide +kernel
theorem dc_La_law_312 : decode code 312 = .ok (.iadd, 1) := by decide +kernel
theorem dc_La_law_313 : decode code 313 = .ok (.iaload, 1) := by decide +kernel
theorem dc_La_law_314 : decode code 314 = .ok (.invokevirtual 102, 3) := by decide +kernel
theorem dc_La_law_317 : decode code 317 = .ok (.istore 6, 2) := by decide +kernel
theorem dc_La_law_319 : decode code 319 = .ok (.aload_n 2, 1) := by decide +kernel
theorem dc_La_law_320 : decode code 320 = .ok (.invokevirtual 80, 3) := by decide +kernel
theorem dc_La_law_323 : decode code 323 = .ok (.iload 5, 2) := by decide +kernel
theorem dc_La_law_325 : decode code 325 = .ok (.if_icmp .eq 5, 3) := by decide +kernel
theorem dc_La_law_328 : decode code 328 = .ok (.iconst 0, 1) := by decide +kernel
theorem dc_La_law_329 : decode code 329 = .ok (.ireturn, 1) := by decide +kernel
theorem dc_La_law_330 : decode code 330 = .ok (.iload 5, 2) := by decide +kernel
theorem dc_La_law_332 : decode code 332 = .ok (.ifCond .ne 15, 3) := by decide +kernel
theorem dc_La_law_335 : decode code 335 = .ok (.aload_n 3, 1) := by decide +kernel
theorem dc_La_law_336 : decode code 336 = .ok (.iconst 0, 1) := by decide +kernel
theorem dc_La_law_337 : decode code 337 = .ok (.laload, 1) := by decide +kernel
theorem dc_La_law_338 : decode code 338 = .ok (.iload 6, 2) := by decide +kernel
theorem dc_La_law_340 : decode code 340 = .ok (.i2l, 1) := by decide +kernel
theorem dc_La_law_341 : decode code 341 = .ok (.lcmp, 1) := by decide +kernel
theorem dc_La_law_342 : decode code 342 = .ok (.ifCond .eq 5, 3) := by decide +kernel
theorem dc_La_law_345 : decode code 345 = .ok (.iconst 0, 1) := by decide +kernel
theorem dc_La_law_346 : decode code 346 = .ok (.ireturn, 1) := by decide +kernel
theorem dc_La_law_347 : decode code 347 = .ok (.goto 821, 3) := by decide +kernel
theorem dc_La_law_350 : decode code 350 = .ok (.aload_n 1, 1) := by decide +kernel
theorem dc_La_law_351 : decode code 351 = .ok (.aload_n 0, 1) := by decide +kernel
theorem dc_La_law_352 : decode code 352 = .ok (.iload 4, 2) := by decide +kernel
theorem dc_La_law_354 : decode code 354 = .ok (.iconst 1, 1) := by decide +kernel
theorem dc_La_law_355 : decode code 355 = .ok (.iadd, 1) := by decide +kernel
theorem dc_La_law_356 : decode code 356 = .ok (.iaload, 1) := by decide +kernel
theorem dc_La_law_357 : decode code 357 = .ok (.aload_n 0, 1) := by decide +kernel
theorem dc_La_law_358 : decode code 358 = .ok (.iload 4, 2) := by decide +kernel
theorem dc_La_law_360 : decode code 360 = .ok (.iconst 2, 1) := by decide +kernel
theorem dc_La_law_361 : decode code 361 = .ok (.iadd, 1) := by decide +kernel
theorem dc_La_law_362 : decode code 362 = .ok (.iaload, 1) := by decide +kernel
theorem dc_La_law_363 : decode code 363 = .ok (.invokestatic 103, 3) := by decide +kernel
theorem dc_La_law_366 : decode code 366 = .ok (.istore 5, 2) := by decide +kernel
theorem dc_La_law_368 : decode code 368 = .ok (.aload_n 2, 1) := by decide +kernel
theorem dc_La_law_369 : decode code 369 = .ok (.aload_n 0, 1) := by decide +kernel
theorem dc_La_law_370 : decode code 370 = .ok (.iload 4, 2) := by decide +kernel
theorem dc_La_law_372 : decode code 372 = .ok (.iconst 1, 1) := by decide +kernel
theorem dc_La_law_373 : decode code 373 = .ok (.iadd, 1) := by decide +kernel
theorem dc_La_law_374 : decode code 374 = .ok (.iaload, 1) := by decide +kernel
theorem dc_La_law_375 : decode code 375 = .ok (.aload_n 0, 1) := by decide +kernel
theorem dc_La_law_376 : decode code 376 = .ok (.iload 4, 2) := by decide +kernel
theorem dc_La_law_378 : decode code 378 = .ok (.iconst 2, 1) := by decide +kernel
theorem dc_La_law_379 : decode code 379 = .ok (.iadd, 1) := by decide +kernel
theorem dc_La_law_380 : decode code 380 = .ok (.iaload, 1) := by decide +kernel
theorem dc_La_law_381 : decode code 381 = .ok (.invokevirtual 106, 3) := by decide +kernel
theorem dc_La_law_384 : decode code 384 = .ok (.aload_n 2, 1) := by decide +kernel
theorem dc_La_law_385 : decode code 385 = .ok (.invokevirtual 80, 3) := by decide +kernel
theorem dc_La_law_388 : decode code 388 = .ok (.iload 5, 2) := by decide +kernel
theorem dc_La_law_390 : decode code 390 = .ok (.if_icmp .eq 5, 3) := by decide +kernel
theorem dc_La_law_393 : decode code 393 = .ok (.iconst 0, 1) := by decide +kernel
theorem dc_La_law_394 : decode code 394 = .ok (.ireturn, 1) := by decide +kernel
theorem dc_La_law_395 : decode code 395 = .ok (.goto 773, 3) := by decide +kernel
theorem dc_La_law_398 : decode code 398 = .ok (.aload_n 1, 1) := by decide +kernel
theorem dc_La_law_399 : decode code 399 = .ok (.aload_n 0, 1) := by decide +kernel
theorem dc_La_law_400 : decode code 400 = .ok (.iload 4, 2) := by decide +kernel
theorem dc_La_law_402 : decode code 402 = .ok (.iconst 1, 1) := by decide +kernel
theorem dc_La_law_403 : decode code 403 = .ok (.iadd, 1) := by decide +kernel
theorem dc_La_law_404 : decode code 404 = .ok (.iaload, 1) := by decide +kernel
theorem dc_La_law_405 : decode code 405 = .ok (.aload_n 0, 1) := by decide +kernel
theorem dc_La_law_406 : decode code 406 = .ok (.iload 4, 2) := by decide +kernel
theorem dc_La_law_408 : decode code 408 = .ok (.iconst 2, 1) := by decide +kernel
theorem dc_La_law_409 : decode code 409 = .ok (.iadd, 1) := by decide +kernel
theorem dc_La_law_410 : decode code 410 = .ok (.iaload, 1) := by decide +kernel
theorem dc_La_law_411 : decode code 411 = .ok (.aload_n 0, 1) := by decide +kernel
theorem dc_La_law_412 : decode code 412 = .ok (.iload 4, 2) := by decide +kernel
theorem dc_La_law_414 : decode code 414 = .ok (.iconst 3, 1) := by decide +kernel
theorem dc_La_law_415 : decode code 415 = .ok (.iadd, 1) := by decide +kernel
theorem dc_La_law_416 : decode code 416 = .ok (.iaload, 1) := by decide +kernel
theorem dc_La_law_417 : decode code 417 = .ok (.invokestatic 107, 3) := by decide +kernel
theorem dc_La_law_420 : decode code 420 = .ok (.istore 5, 2) := by decide +kernel
theorem dc_La_law_422 : decode code 422 = .ok (.aload_n 2, 1) := by decide +kernel
theorem dc_La_law_423 : decode code 423 = .ok (.aload_n 0, 1) := by decide +kernel
theorem dc_La_law_424 : decode code 424 = .ok (.iload 4, 2) := by decide +kernel
theorem dc_La_law_426 : decode code 426 = .ok (.iconst 1, 1) := by decide +kernel
theorem dc_La_law_427 : decode code 427 = .ok (.iadd, 1) := by decide +kernel
theorem dc_La_law_428 : decode code 428 = .ok (.iaload, 1) := by decide +kernel
theorem dc_La_law_429 : decode code 429 = .ok (.aload_n 0, 1) := by decide +kernel
theorem dc_La_law_430 : decode code 430 = .ok (.iload 4, 2) := by decide +kernel
theorem dc_La_law_432 : decode code 432 = .ok (.iconst 2, 1) := by decide +kernel
theorem dc_La_law_433 : decode code 433 = .ok (.iadd, 1) := by decide +kernel
theorem dc_La_law_434 : decode code 434 = .ok (.iaload, 1) := by decide +kernel
theorem dc_La_law_435 : decode code 435 = .ok (.aload_n 0, 1) := by decide +kernel
theorem dc_La_law_436 : decode code 436 = .ok (.iload 4, 2) := by decide +kernel
theorem dc_La_law_438 : decode code 438 = .ok (.iconst 3, 1) := by decide +kernel
theorem dc_La_law_439 : decode code 439 = .ok (.iadd, 1) := by decide +kernel
theorem dc_La_law_440 : decode code 440 = .ok (.iaload, 1) := by decide +kernel
theorem dc_La_law_441 : decode code 441 = .ok (.invokevirtual 110, 3) := by decide +kernel
theorem dc_La_law_444 : decode code 444 = .ok (.aload_n 2, 1) := by decide +kernel
theorem dc_La_law_445 : decode code 445 = .ok (.invokevirtual 80, 3) := by decide +kernel
theorem dc_La_law_448 : decode code 448 = .ok (.iload 5, 2) := by decide +kernel
theorem dc_La_law_450 : decode code 450 = .ok (.if_icmp .eq 5, 3) := by decide +kernel
theorem dc_La_law_453 : decode code 453 = .ok (.iconst 0, 1) := by decide +kernel
theorem dc_La_law_454 : decode code 454 = .ok (.ireturn, 1) := by decide +kernel
theorem dc_La_law_455 : decode code 455 = .ok (.goto 713, 3) := by decide +kernel
theorem dc_La_law_458 : decode code 458 = .ok (.aload_n 1, 1) := by decide +kernel
theorem dc_La_law_459 : decode code 459 = .ok (.aload_n 0, 1) := by decide +kernel
theorem dc_La_law_460 : decode code 460 = .ok (.iload 4, 2) := by decide +kernel
theorem dc_La_law_462 : decode code 462 = .ok (.iconst 1, 1) := by decide +kernel
theorem dc_La_law_463 : decode code 463 = .ok (.iadd, 1) := by decide +kernel
theorem dc_La_law_464 : decode code 464 = .ok (.iaload, 1) := by decide +kernel
theorem dc_La_law_465 : decode code 465 = .ok (.aload_n 3, 1) := by decide +kernel
theorem dc_La_law_466 : decode code 466 = .ok (.invokestatic 111, 3) := by decide +kernel
theorem dc_La_law_469 : decode code 469 = .ok (.istore 5, 2) := by decide +kernel
theorem dc_La_law_471 : decode code 471 = .ok (.aload_n 2, 1) := by decide +kernel
theorem dc_La_law_472 : decode code 472 = .ok (.aload_n 0, 1) := by decide +kernel
theorem dc_La_law_473 : decode code 473 = .ok (.iload 4, 2) := by decide +kernel
theorem dc_La_law_475 : decode code 475 = .ok (.iconst 1, 1) := by decide +kernel
theorem dc_La_law_476 : decode code 476 = .ok (.iadd, 1) := by decide +kernel
theorem dc_La_law_477 : decode code 477 = .ok (.iaload, 1) := by decide +kernel
theorem dc_La_law_478 : decode code 478 = .ok (.invokevirtual 113, 3) := by decide +kernel
theorem dc_La_law_481 : decode code 481 = .ok (.istore 6, 2) := by decide +kernel
theorem dc_La_law_483 : decode code 483 = .ok (.aload_n 2, 1) := by decide +kernel
theorem dc_La_law_484 : decode code 484 = .ok (.invokevirtual 80, 3) := by decide +kernel
theorem dc_La_law_487 : decode code 487 = .ok (.iload 5, 2) := by decide +kernel
theorem dc_La_law_489 : decode code 489 = .ok (.if_icmp .eq 5, 3) := by decide +kernel
theorem dc_La_law_492 : decode code 492 = .ok (.iconst 0, 1) := by decide +kernel
theorem dc_La_law_493 : decode code 493 = .ok (.ireturn, 1) := by decide +kernel
theorem dc_La_law_494 : decode code 494 = .ok (.iload 5, 2) := by decide +kernel
theorem dc_La_law_496 : decode code 496 = .ok (.ifCond .ne 22, 3) := by decide +kernel
theorem dc_La_law_499 : decode code 499 = .ok (.aload_n 3, 1) := by decide +kernel
theorem dc_La_law_500 : decode code 500 = .ok (.iconst 0, 1) := by decide +kernel
theorem dc_La_law_501 : decode code 501 = .ok (.laload, 1) := by decide +kernel
theorem dc_La_law_502 : decode code 502 = .ok (.iload 6, 2) := by decide +kernel
theorem dc_La_law_504 : decode code 504 = .ok (.ifCond .eq 7, 3) := by decide +kernel
theorem dc_La_law_507 : decode code 507 = .ok (.lconst 1, 1) := by decide +kernel
theorem dc_La_law_508 : decode code 508 = .ok (.goto 4, 3) := by decide +kernel
theorem dc_La_law_511 : decode code 511 = .ok (.lconst 0, 1) := by decide +kernel
theorem dc_La_law_512 : decode code 512 = .ok (.lcmp, 1) := by decide +kernel
theorem dc_La_law_513 : decode code 513 = .ok (.ifCond .eq 5, 3) := by decide +kernel
theorem dc_La_law_516 : decode code 516 = .ok (.iconst 0, 1) := by decide +kernel
theorem dc_La_law_517 : decode code 517 = .ok (.ireturn, 1) := by decide +kernel
theorem dc_La_law_518 : decode code 518 = .ok (.goto 650, 3) := by decide +kernel
theorem dc_La_law_521 : decode code 521 = .ok (.aload_n 1, 1) := by decide +kernel
theorem dc_La_law_522 : decode code 522 = .ok (.aload_n 0, 1) := by decide +kernel
theorem dc_La_law_523 : decode code 523 = .ok (.iload 4, 2) := by decide +kernel
theorem dc_La_law_525 : decode code 525 = .ok (.iconst 1, 1) := by decide +kernel
theorem dc_La_law_526 : decode code 526 = .ok (.iadd, 1) := by decide +kernel
theorem dc_La_law_527 : decode code 527 = .ok (.iaload, 1) := by decide +kernel
theorem dc_La_law_528 : decode code 528 = .ok (.aload_n 0, 1) := by decide +kernel
theorem dc_La_law_529 : decode code 529 = .ok (.iload 4, 2) := by decide +kernel
theorem dc_La_law_531 : decode code 531 = .ok (.iconst 2, 1) := by decide +kernel
theorem dc_La_law_532 : decode code 532 = .ok (.iadd, 1) := by decide +kernel
theorem dc_La_law_533 : decode code 533 = .ok (.iaload, 1) := by decide +kernel
theorem dc_La_law_534 : decode code 534 = .ok (.aload_n 3, 1) := by decide +kernel
theorem dc_La_law_535 : decode code 535 = .ok (.invokestatic 114, 3) := by decide +kernel
theorem dc_La_law_538 : decode code 538 = .ok (.istore 5, 2) := by decide +kernel
theorem dc_La_law_540 : decode code 540 = .ok (.aload_n 2, 1) := by decide +kernel
theorem dc_La_law_541 : decode code 541 = .ok (.aload_n 0, 1) := by decide +kernel
theorem dc_La_law_542 : decode code 542 = .ok (.iload 4, 2) := by decide +kernel
theorem dc_La_law_544 : decode code 544 = .ok (.iconst 1, 1) := by decide +kernel
theorem dc_La_law_545 : decode code 545 = .ok (.iadd, 1) := by decide +kernel
theorem dc_La_law_546 : decode code 546 = .ok (.iaload, 1) := by decide +kernel
theorem dc_La_law_547 : decode code 547 = .ok (.aload_n 0, 1) := by decide +kernel
theorem dc_La_law_548 : decode code 548 = .ok (.iload 4, 2) := by decide +kernel
theorem dc_La_law_550 : decode code 550 = .ok (.iconst 2, 1) := by decide +kernel
theorem dc_La_law_551 : decode code 551 = .ok (.iadd, 1) := by decide +kernel
theorem dc_La_law_552 : decode code 552 = .ok (.iaload, 1) := by decide +kernel
theorem dc_La_law_553 : decode code 553 = .ok (.invokevirtual 116, 3) := by decide +kernel
theorem dc_La_law_556 : decode code 556 = .ok (.istore 6, 2) := by decide +kernel
theorem dc_La_law_558 : decode code 558 = .ok (.aload_n 2, 1) := by decide +kernel
theorem dc_La_law_559 : decode code 559 = .ok (.invokevirtual 80, 3) := by decide +kernel
theorem dc_La_law_562 : decode code 562 = .ok (.iload 5, 2) := by decide +kernel
theorem dc_La_law_564 : decode code 564 = .ok (.if_icmp .eq 5, 3) := by decide +kernel
theorem dc_La_law_567 : decode code 567 = .ok (.iconst 0, 1) := by decide +kernel
theorem dc_La_law_568 : decode code 568 = .ok (.ireturn, 1) := by decide +kernel
theorem dc_La_law_569 : decode code 569 = .ok (.iload 5, 2) := by decide +kernel
theorem dc_La_law_571 : decode code 571 = .ok (.ifCond .ne 15, 3) := by decide +kernel
theorem dc_La_law_574 : decode code 574 = .ok (.aload_n 3, 1) := by decide +kernel
theorem dc_La_law_575 : decode code 575 = .ok (.iconst 0, 1) := by decide +kernel
theorem dc_La_law_576 : decode code 576 = .ok (.laload, 1) := by decide +kernel
theorem dc_La_law_577 : decode code 577 = .ok (.iload 6, 2) := by decide +kernel
theorem dc_La_law_579 : decode code 579 = .ok (.i2l, 1) := by decide +kernel
theorem dc_La_law_580 : decode code 580 = .ok (.lcmp, 1) := by decide +kernel
theorem dc_La_law_581 : decode code 581 = .ok (.ifCond .eq 5, 3) := by decide +kernel
theorem dc_La_law_584 : decode code 584 = .ok (.iconst 0, 1) := by decide +kernel
theorem dc_La_law_585 : decode code 585 = .ok (.ireturn, 1) := by decide +kernel
theorem dc_La_law_586 : decode code 586 = .ok (.goto 582, 3) := by decide +kernel
theorem dc_La_law_589 : decode code 589 = .ok (.aload_n 1, 1) := by decide +kernel
theorem dc_La_law_590 : decode code 590 = .ok (.aload_n 0, 1) := by decide +kernel
theorem dc_La_law_591 : decode code 591 = .ok (.iload 4, 2) := by decide +kernel
theorem dc_La_law_593 : decode code 593 = .ok (.iconst 1, 1) := by decide +kernel
theorem dc_La_law_594 : decode code 594 = .ok (.iadd, 1) := by decide +kernel
theorem dc_La_law_595 : decode code 595 = .ok (.iaload, 1) := by decide +kernel
theorem dc_La_law_596 : decode code 596 = .ok (.aload_n 0, 1) := by decide +kernel
theorem dc_La_law_597 : decode code 597 = .ok (.iload 4, 2) := by decide +kernel
theorem dc_La_law_599 : decode code 599 = .ok (.iconst 2, 1) := by decide +kernel
theorem dc_La_law_600 : decode code 600 = .ok (.iadd, 1) := by decide +kernel
theorem dc_La_law_601 : decode code 601 = .ok (.iaload, 1) := by decide +kernel
theorem dc_La_law_602 : decode code 602 = .ok (.aload_n 0, 1) := by decide +kernel
theorem dc_La_law_603 : decode code 603 = .ok (.iload 4, 2) := by decide +kernel
theorem dc_La_law_605 : decode code 605 = .ok (.iconst 3, 1) := by decide +kernel
theorem dc_La_law_606 : decode code 606 = .ok (.iadd, 1) := by decide +kernel
theorem dc_La_law_607 : decode code 607 = .ok (.iaload, 1) := by decide +kernel
theorem dc_La_law_608 : decode code 608 = .ok (.aload_n 3, 1) := by decide +kernel
theorem dc_La_law_609 : decode code 609 = .ok (.invokestatic 117, 3) := by decide +kernel
theorem dc_La_law_612 : decode code 612 = .ok (.istore 5, 2) := by decide +kernel
theorem dc_La_law_614 : decode code 614 = .ok (.aload_n 2, 1) := by decide +kernel
theorem dc_La_law_615 : decode code 615 = .ok (.aload_n 0, 1) := by decide +kernel
theorem dc_La_law_616 : decode code 616 = .ok (.iload 4, 2) := by decide +kernel
theorem dc_La_law_618 : decode code 618 = .ok (.iconst 1, 1) := by decide +kernel
theorem dc_La_law_619 : decode code 619 = .ok (.iadd, 1) := by decide +kernel
theorem dc_La_law_620 : decode code 620 = .ok (.iaload, 1) := by decide +kernel
theorem dc_La_law_621 : decode code 621 = .ok (.aload_n 0, 1) := by decide +kernel
theorem dc_La_law_622 : decode code 622 = .ok (.iload 4, 2) := by decide +kernel
theorem dc_La_law_624 : decode code 624 = .ok (.iconst 2, 1) := by decide +kernel
theorem dc_La_law_625 : decode code 625 = .ok (.iadd, 1) := by decide +kernel
theorem dc_La_law_626 : decode code 626 = .ok (.iaload, 1) := by decide +kernel
theorem dc_La_law_627 : decode code 627 = .ok (.aload_n 0, 1) := by decide +kernel
theorem dc_La_law_628 : decode code 628 = .ok (.iload 4, 2) := by decide +kernel
theorem dc_La_law_630 : decode code 630 = .ok (.iconst 3, 1) := by decide +kernel
theorem dc_La_law_631 : decode code 631 = .ok (.iadd, 1) := by decide +kernel
theorem dc_La_law_632 : decode code 632 = .ok (.iaload, 1) := by decide +kernel
theorem dc_La_law_633 : decode code 633 = .ok (.invokevirtual 120, 3) := by decide +kernel
theorem dc_La_law_636 : decode code 636 = .ok (.istore 6, 2) := by decide +kernel
theorem dc_La_law_638 : decode code 638 = .ok (.aload_n 2, 1) := by decide +kernel
theorem dc_La_law_639 : decode code 639 = .ok (.invokevirtual 80, 3) := by decide +kernel
theorem dc_La_law_642 : decode code 642 = .ok (.iload 5, 2) := by decide +kernel
theorem dc_La_law_644 : decode code 644 = .ok (.if_icmp .eq 5, 3) := by decide +kernel
theorem dc_La_law_647 : decode code 647 = .ok (.iconst 0, 1) := by decide +kernel
theorem dc_La_law_648 : decode code 648 = .ok (.ireturn, 1) := by decide +kernel
theorem dc_La_law_649 : decode code 649 = .ok (.iload 5, 2) := by decide +kernel
theorem dc_La_law_651 : decode code 651 = .ok (.ifCond .ne 15, 3) := by decide +kernel
theorem dc_La_law_654 : decode code 654 = .ok (.aload_n 3, 1) := by decide +kernel
theorem dc_La_law_655 : decode code 655 = .ok (.iconst 0, 1) := by decide +kernel
theorem dc_La_law_656 : decode code 656 = .ok (.laload, 1) := by decide +kernel
theorem dc_La_law_657 : decode code 657 = .ok (.iload 6, 2) := by decide +kernel
theorem dc_La_law_659 : decode code 659 = .ok (.i2l, 1) := by decide +kernel
theorem dc_La_law_660 : decode code 660 = .ok (.lcmp, 1) := by decide +kernel
theorem dc_La_law_661 : decode code 661 = .ok (.ifCond .eq 5, 3) := by decide +kernel
theorem dc_La_law_664 : decode code 664 = .ok (.iconst 0, 1) := by decide +kernel
theorem dc_La_law_665 : decode code 665 = .ok (.ireturn, 1) := by decide +kernel
theorem dc_La_law_666 : decode code 666 = .ok (.goto 502, 3) := by decide +kernel
theorem dc_La_law_669 : decode code 669 = .ok (.aload_n 1, 1) := by decide +kernel
theorem dc_La_law_670 : decode code 670 = .ok (.aload_n 0, 1) := by decide +kernel
theorem dc_La_law_671 : decode code 671 = .ok (.iload 4, 2) := by decide +kernel
theorem dc_La_law_673 : decode code 673 = .ok (.iconst 1, 1) := by decide +kernel
theorem dc_La_law_674 : decode code 674 = .ok (.iadd, 1) := by decide +kernel
theorem dc_La_law_675 : decode code 675 = .ok (.iaload, 1) := by decide +kernel
theorem dc_La_law_676 : decode code 676 = .ok (.aload_n 0, 1) := by decide +kernel
theorem dc_La_law_677 : decode code 677 = .ok (.iload 4, 2) := by decide +kernel
theorem dc_La_law_679 : decode code 679 = .ok (.iconst 2, 1) := by decide +kernel
theorem dc_La_law_680 : decode code 680 = .ok (.iadd, 1) := by decide +kernel
theorem dc_La_law_681 : decode code 681 = .ok (.iaload, 1) := by decide +kernel
theorem dc_La_law_682 : decode code 682 = .ok (.aload_n 0, 1) := by decide +kernel
theorem dc_La_law_683 : decode code 683 = .ok (.iload 4, 2) := by decide +kernel
theorem dc_La_law_685 : decode code 685 = .ok (.iconst 3, 1) := by decide +kernel
theorem dc_La_law_686 : decode code 686 = .ok (.iadd, 1) := by decide +kernel
theorem dc_La_law_687 : decode code 687 = .ok (.iaload, 1) := by decide +kernel
theorem dc_La_law_688 : decode code 688 = .ok (.aload_n 3, 1) := by decide +kernel
theorem dc_La_law_689 : decode code 689 = .ok (.invokestatic 121, 3) := by decide +kernel
theorem dc_La_law_692 : decode code 692 = .ok (.istore 5, 2) := by decide +kernel
theorem dc_La_law_694 : decode code 694 = .ok (.aload_n 2, 1) := by decide +kernel
theorem dc_La_law_695 : decode code 695 = .ok (.aload_n 0, 1) := by decide +kernel
theorem dc_La_law_696 : decode code 696 = .ok (.iload 4, 2) := by decide +kernel
theorem dc_La_law_698 : decode code 698 = .ok (.iconst 1, 1) := by decide +kernel
theorem dc_La_law_699 : decode code 699 = .ok (.iadd, 1) := by decide +kernel
theorem dc_La_law_700 : decode code 700 = .ok (.iaload, 1) := by decide +kernel
theorem dc_La_law_701 : decode code 701 = .ok (.aload_n 0, 1) := by decide +kernel
theorem dc_La_law_702 : decode code 702 = .ok (.iload 4, 2) := by decide +kernel
theorem dc_La_law_704 : decode code 704 = .ok (.iconst 2, 1) := by decide +kernel
theorem dc_La_law_705 : decode code 705 = .ok (.iadd, 1) := by decide +kernel
theorem dc_La_law_706 : decode code 706 = .ok (.iaload, 1) := by decide +kernel
theorem dc_La_law_707 : decode code 707 = .ok (.aload_n 0, 1) := by decide +kernel
theorem dc_La_law_708 : decode code 708 = .ok (.iload 4, 2) := by decide +kernel
theorem dc_La_law_710 : decode code 710 = .ok (.iconst 3, 1) := by decide +kernel
theorem dc_La_law_711 : decode code 711 = .ok (.iadd, 1) := by decide +kernel
theorem dc_La_law_712 : decode code 712 = .ok (.iaload, 1) := by decide +kernel
theorem dc_La_law_713 : decode code 713 = .ok (.invokevirtual 123, 3) := by decide +kernel
theorem dc_La_law_716 : decode code 716 = .ok (.istore 6, 2) := by decide +kernel
theorem dc_La_law_718 : decode code 718 = .ok (.aload_n 2, 1) := by decide +kernel
theorem dc_La_law_719 : decode code 719 = .ok (.invokevirtual 80, 3) := by decide +kernel
theorem dc_La_law_722 : decode code 722 = .ok (.iload 5, 2) := by decide +kernel
theorem dc_La_law_724 : decode code 724 = .ok (.if_icmp .eq 5, 3) := by decide +kernel
theorem dc_La_law_727 : decode code 727 = .ok (.iconst 0, 1) := by decide +kernel
theorem dc_La_law_728 : decode code 728 = .ok (.ireturn, 1) := by decide +kernel
theorem dc_La_law_729 : decode code 729 = .ok (.iload 5, 2) := by decide +kernel
theorem dc_La_law_731 : decode code 731 = .ok (.ifCond .ne 15, 3) := by decide +kernel
theorem dc_La_law_734 : decode code 734 = .ok (.aload_n 3, 1) := by decide +kernel
theorem dc_La_law_735 : decode code 735 = .ok (.iconst 0, 1) := by decide +kernel
theorem dc_La_law_736 : decode code 736 = .ok (.laload, 1) := by decide +kernel
theorem dc_La_law_737 : decode code 737 = .ok (.iload 6, 2) := by decide +kernel
theorem dc_La_law_739 : decode code 739 = .ok (.i2l, 1) := by decide +kernel
theorem dc_La_law_740 : decode code 740 = .ok (.lcmp, 1) := by decide +kernel
theorem dc_La_law_741 : decode code 741 = .ok (.ifCond .eq 5, 3) := by decide +kernel
theorem dc_La_law_744 : decode code 744 = .ok (.iconst 0, 1) := by decide +kernel
theorem dc_La_law_745 : decode code 745 = .ok (.ireturn, 1) := by decide +kernel
theorem dc_La_law_746 : decode code 746 = .ok (.goto 422, 3) := by decide +kernel
theorem dc_La_law_749 : decode code 749 = .ok (.aload_n 1, 1) := by decide +kernel
theorem dc_La_law_750 : decode code 750 = .ok (.aload_n 0, 1) := by decide +kernel
theorem dc_La_law_751 : decode code 751 = .ok (.iload 4, 2) := by decide +kernel
theorem dc_La_law_753 : decode code 753 = .ok (.iconst 1, 1) := by decide +kernel
theorem dc_La_law_754 : decode code 754 = .ok (.iadd, 1) := by decide +kernel
theorem dc_La_law_755 : decode code 755 = .ok (.iaload, 1) := by decide +kernel
theorem dc_La_law_756 : decode code 756 = .ok (.aload_n 0, 1) := by decide +kernel
theorem dc_La_law_757 : decode code 757 = .ok (.iload 4, 2) := by decide +kernel
theorem dc_La_law_759 : decode code 759 = .ok (.iconst 2, 1) := by decide +kernel
theorem dc_La_law_760 : decode code 760 = .ok (.iadd, 1) := by decide +kernel
theorem dc_La_law_761 : decode code 761 = .ok (.iaload, 1) := by decide +kernel
theorem dc_La_law_762 : decode code 762 = .ok (.aload_n 0, 1) := by decide +kernel
theorem dc_La_law_763 : decode code 763 = .ok (.iload 4, 2) := by decide +kernel
theorem dc_La_law_765 : decode code 765 = .ok (.iconst 3, 1) := by decide +kernel
theorem dc_La_law_766 : decode code 766 = .ok (.iadd, 1) := by decide +kernel
theorem dc_La_law_767 : decode code 767 = .ok (.iaload, 1) := by decide +kernel
theorem dc_La_law_768 : decode code 768 = .ok (.aload_n 3, 1) := by decide +kernel
theorem dc_La_law_769 : decode code 769 = .ok (.invokestatic 124, 3) := by decide +kernel
theorem dc_La_law_772 : decode code 772 = .ok (.istore 5, 2) := by decide +kernel
theorem dc_La_law_774 : decode code 774 = .ok (.aload_n 2, 1) := by decide +kernel
theorem dc_La_law_775 : decode code 775 = .ok (.aload_n 0, 1) := by decide +kernel
theorem dc_La_law_776 : decode code 776 = .ok (.iload 4, 2) := by decide +kernel
theorem dc_La_law_778 : decode code 778 = .ok (.iconst 1, 1) := by decide +kernel
theorem dc_La_law_779 : decode code 779 = .ok (.iadd, 1) := by decide +kernel
theorem dc_La_law_780 : decode code 780 = .ok (.iaload, 1) := by decide +kernel
theorem dc_La_law_781 : decode code 781 = .ok (.aload_n 0, 1) := by decide +kernel
theorem dc_La_law_782 : decode code 782 = .ok (.iload 4, 2) := by decide +kernel
theorem dc_La_law_784 : decode code 784 = .ok (.iconst 2, 1) := by decide +kernel
theorem dc_La_law_785 : decode code 785 = .ok (.iadd, 1) := by decide +kernel
theorem dc_La_law_786 : decode code 786 = .ok (.iaload, 1) := by decide +kernel
theorem dc_La_law_787 : decode code 787 = .ok (.aload_n 0, 1) := by decide +kernel
theorem dc_La_law_788 : decode code 788 = .ok (.iload 4, 2) := by decide +kernel
theorem dc_La_law_790 : decode code 790 = .ok (.iconst 3, 1) := by decide +kernel
theorem dc_La_law_791 : decode code 791 = .ok (.iadd, 1) := by decide +kernel
theorem dc_La_law_792 : decode code 792 = .ok (.iaload, 1) := by decide +kernel
theorem dc_La_law_793 : decode code 793 = .ok (.invokevirtual 126, 3) := by decide +kernel
theorem dc_La_law_796 : decode code 796 = .ok (.istore 6, 2) := by decide +kernel
theorem dc_La_law_798 : decode code 798 = .ok (.aload_n 2, 1) := by decide +kernel
theorem dc_La_law_799 : decode code 799 = .ok (.invokevirtual 80, 3) := by decide +kernel
theorem dc_La_law_802 : decode code 802 = .ok (.iload 5, 2) := by decide +kernel
theorem dc_La_law_804 : decode code 804 = .ok (.if_icmp .eq 5, 3) := by decide +kernel
theorem dc_La_law_807 : decode code 807 = .ok (.iconst 0, 1) := by decide +kernel
theorem dc_La_law_808 : decode code 808 = .ok (.ireturn, 1) := by decide +kernel
theorem dc_La_law_809 : decode code 809 = .ok (.iload 5, 2) := by decide +kernel
theorem dc_La_law_811 : decode code 811 = .ok (.ifCond .ne 15, 3) := by decide +kernel
theorem dc_La_law_814 : decode code 814 = .ok (.aload_n 3, 1) := by decide +kernel
theorem dc_La_law_815 : decode code 815 = .ok (.iconst 0, 1) := by decide +kernel
theorem dc_La_law_816 : decode code 816 = .ok (.laload, 1) := by decide +kernel
theorem dc_La_law_817 : decode code 817 = .ok (.iload 6, 2) := by decide +kernel
theorem dc_La_law_819 : decode code 819 = .ok (.i2l, 1) := by decide +kernel
theorem dc_La_law_820 : decode code 820 = .ok (.lcmp, 1) := by decide +kernel
theorem dc_La_law_821 : decode code 821 = .ok (.ifCond .eq 5, 3) := by decide +kernel
theorem dc_La_law_824 : decode code 824 = .ok (.iconst 0, 1) := by decide +kernel
theorem dc_La_law_825 : decode code 825 = .ok (.ireturn, 1) := by decide +kernel
theorem dc_La_law_826 : decode code 826 = .ok (.goto 342, 3) := by decide +kernel
theorem dc_La_law_829 : decode code 829 = .ok (.aload_n 1, 1) := by decide +kernel
theorem dc_La_law_830 : decode code 830 = .ok (.aload_n 0, 1) := by decide +kernel
theorem dc_La_law_831 : decode code 831 = .ok (.iload 4, 2) := by decide +kernel
theorem dc_La_law_833 : decode code 833 = .ok (.iconst 1, 1) := by decide +kernel
theorem dc_La_law_834 : decode code 834 = .ok (.iadd, 1) := by decide +kernel
theorem dc_La_law_835 : decode code 835 = .ok (.iaload, 1) := by decide +kernel
theorem dc_La_law_836 : decode code 836 = .ok (.aload_n 0, 1) := by decide +kernel
theorem dc_La_law_837 : decode code 837 = .ok (.iload 4, 2) := by decide +kernel
theorem dc_La_law_839 : decode code 839 = .ok (.iconst 2, 1) := by decide +kernel
theorem dc_La_law_840 : decode code 840 = .ok (.iadd, 1) := by decide +kernel
theorem dc_La_law_841 : decode code 841 = .ok (.iaload, 1) := by decide +kernel
theorem dc_La_law_842 : decode code 842 = .ok (.aload_n 3, 1) := by decide +kernel
theorem dc_La_law_843 : decode code 843 = .ok (.invokestatic 127, 3) := by decide +kernel
theorem dc_La_law_846 : decode code 846 = .ok (.istore 5, 2) := by decide +kernel
theorem dc_La_law_848 : decode code 848 = .ok (.aload_n 2, 1) := by decide +kernel
theorem dc_La_law_849 : decode code 849 = .ok (.aload_n 0, 1) := by decide +kernel
theorem dc_La_law_850 : decode code 850 = .ok (.iload 4, 2) := by decide +kernel
theorem dc_La_law_852 : decode code 852 = .ok (.iconst 1, 1) := by decide +kernel
theorem dc_La_law_853 : decode code 853 = .ok (.iadd, 1) := by decide +kernel
theorem dc_La_law_854 : decode code 854 = .ok (.iaload, 1) := by decide +kernel
theorem dc_La_law_855 : decode code 855 = .ok (.aload_n 0, 1) := by decide +kernel
theorem dc_La_law_856 : decode code 856 = .ok (.iload 4, 2) := by decide +kernel
theorem dc_La_law_858 : decode code 858 = .ok (.iconst 2, 1) := by decide +kernel
theorem dc_La_law_859 : decode code 859 = .ok (.iadd, 1) := by decide +kernel
theorem dc_La_law_860 : decode code 860 = .ok (.iaload, 1) := by decide +kernel
theorem dc_La_law_861 : decode code 861 = .ok (.invokevirtual 129, 3) := by decide +kernel
theorem dc_La_law_864 : decode code 864 = .ok (.istore 6, 2) := by decide +kernel
theorem dc_La_law_866 : decode code 866 = .ok (.aload_n 2, 1) := by decide +kernel
theorem dc_La_law_867 : decode code 867 = .ok (.invokevirtual 80, 3) := by decide +kernel
theorem dc_La_law_870 : decode code 870 = .ok (.iload 5, 2) := by decide +kernel
theorem dc_La_law_872 : decode code 872 = .ok (.if_icmp .eq 5, 3) := by decide +kernel
theorem dc_La_law_875 : decode code 875 = .ok (.iconst 0, 1) := by decide +kernel
theorem dc_La_law_876 : decode code 876 = .ok (.ireturn, 1) := by decide +kernel
theorem dc_La_law_877 : decode code 877 = .ok (.iload 5, 2) := by decide +kernel
theorem dc_La_law_879 : decode code 879 = .ok (.ifCond .ne 15, 3) := by decide +kernel
theorem dc_La_law_882 : decode code 882 = .ok (.aload_n 3, 1) := by decide +kernel
theorem dc_La_law_883 : decode code 883 = .ok (.iconst 0, 1) := by decide +kernel
theorem dc_La_law_884 : decode code 884 = .ok (.laload, 1) := by decide +kernel
theorem dc_La_law_885 : decode code 885 = .ok (.iload 6, 2) := by decide +kernel
theorem dc_La_law_887 : decode code 887 = .ok (.i2l, 1) := by decide +kernel
theorem dc_La_law_888 : decode code 888 = .ok (.lcmp, 1) := by decide +kernel
theorem dc_La_law_889 : decode code 889 = .ok (.ifCond .eq 5, 3) := by decide +kernel
theorem dc_La_law_892 : decode code 892 = .ok (.iconst 0, 1) := by decide +kernel
theorem dc_La_law_893 : decode code 893 = .ok (.ireturn, 1) := by decide +kernel
theorem dc_La_law_894 : decode code 894 = .ok (.goto 274, 3) := by decide +kernel
theorem dc_La_law_897 : decode code 897 = .ok (.aload_n 1, 1) := by decide +kernel
theorem dc_La_law_898 : decode code 898 = .ok (.aload_n 0, 1) := by decide +kernel
theorem dc_La_law_899 : decode code 899 = .ok (.iload 4, 2) := by decide +kernel
theorem dc_La_law_901 : decode code 901 = .ok (.iconst 1, 1) := by decide +kernel
theorem dc_La_law_902 : decode code 902 = .ok (.iadd, 1) := by decide +kernel
theorem dc_La_law_903 : decode code 903 = .ok (.iaload, 1) := by decide +kernel
theorem dc_La_law_904 : decode code 904 = .ok (.aload_n 3, 1) := by decide +kernel
theorem dc_La_law_905 : decode code 905 = .ok (.invokestatic 130, 3) := by decide +kernel
theorem dc_La_law_908 : decode code 908 = .ok (.istore 5, 2) := by decide +kernel
theorem dc_La_law_910 : decode code 910 = .ok (.aload_n 2, 1) := by decide +kernel
theorem dc_La_law_911 : decode code 911 = .ok (.aload_n 0, 1) := by decide +kernel
theorem dc_La_law_912 : decode code 912 = .ok (.iload 4, 2) := by decide +kernel
theorem dc_La_law_914 : decode code 914 = .ok (.iconst 1, 1) := by decide +kernel
theorem dc_La_law_915 : decode code 915 = .ok (.iadd, 1) := by decide +kernel
theorem dc_La_law_916 : decode code 916 = .ok (.iaload, 1) := by decide +kernel
theorem dc_La_law_917 : decode code 917 = .ok (.invokevirtual 132, 3) := by decide +kernel
theorem dc_La_law_920 : decode code 920 = .ok (.istore 6, 2) := by decide +kernel
theorem dc_La_law_922 : decode code 922 = .ok (.aload_n 2, 1) := by decide +kernel
theorem dc_La_law_923 : decode code 923 = .ok (.invokevirtual 80, 3) := by decide +kernel
theorem dc_La_law_926 : decode code 926 = .ok (.iload 5, 2) := by decide +kernel
theorem dc_La_law_928 : decode code 928 = .ok (.if_icmp .eq 5, 3) := by decide +kernel
theorem dc_La_law_931 : decode code 931 = .ok (.iconst 0, 1) := by decide +kernel
theorem dc_La_law_932 : decode code 932 = .ok (.ireturn, 1) := by decide +kernel
theorem dc_La_law_933 : decode code 933 = .ok (.iload 5, 2) := by decide +kernel
theorem dc_La_law_935 : decode code 935 = .ok (.ifCond .ne 15, 3) := by decide +kernel
theorem dc_La_law_938 : decode code 938 = .ok (.aload_n 3, 1) := by decide +kernel
theorem dc_La_law_939 : decode code 939 = .ok (.iconst 0, 1) := by decide +kernel
theorem dc_La_law_940 : decode code 940 = .ok (.laload, 1) := by decide +kernel
theorem dc_La_law_941 : decode code 941 = .ok (.iload 6, 2) := by decide +kernel
theorem dc_La_law_943 : decode code 943 = .ok (.i2l, 1) := by decide +kernel
theorem dc_La_law_944 : decode code 944 = .ok (.lcmp, 1) := by decide +kernel
theorem dc_La_law_945 : decode code 945 = .ok (.ifCond .eq 5, 3) := by decide +kernel
theorem dc_La_law_948 : decode code 948 = .ok (.iconst 0, 1) := by decide +kernel
theorem dc_La_law_949 : decode code 949 = .ok (.ireturn, 1) := by decide +kernel
theorem dc_La_law_950 : decode code 950 = .ok (.goto 218, 3) := by decide +kernel
theorem dc_La_law_953 : decode code 953 = .ok (.aload_n 1, 1) := by decide +kernel
theorem dc_La_law_954 : decode code 954 = .ok (.aload_n 0, 1) := by decide +kernel
theorem dc_La_law_955 : decode code 955 = .ok (.iload 4, 2) := by decide +kernel
theorem dc_La_law_957 : decode code 957 = .ok (.iconst 1, 1) := by decide +kernel
theorem dc_La_law_958 : decode code 958 = .ok (.iadd, 1) := by decide +kernel
theorem dc_La_law_959 : decode code 959 = .ok (.iaload, 1) := by decide +kernel
theorem dc_La_law_960 : decode code 960 = .ok (.aload_n 0, 1) := by decide +kernel
theorem dc_La_law_961 : decode code 961 = .ok (.iload 4, 2) := by decide +kernel
theorem dc_La_law_963 : decode code 963 = .ok (.iconst 2, 1) := by decide +kernel
theorem dc_La_law_964 : decode code 964 = .ok (.iadd, 1) := by decide +kernel
theorem dc_La_law_965 : decode code 965 = .ok (.iaload, 1) := by decide +kernel
theorem dc_La_law_966 : decode code 966 = .ok (.aload_n 3, 1) := by decide +kernel
theorem dc_La_law_967 : decode code 967 = .ok (.invokestatic 133, 3) := by decide +kernel
theorem dc_La_law_970 : decode code 970 = .ok (.istore 5, 2) := by decide +kernel
theorem dc_La_law_972 : decode code 972 = .ok (.aload_n 2, 1) := by decide +kernel
theorem dc_La_law_973 : decode code 973 = .ok (.aload_n 0, 1) := by decide +kernel
theorem dc_La_law_974 : decode code 974 = .ok (.iload 4, 2) := by decide +kernel
theorem dc_La_law_976 : decode code 976 = .ok (.iconst 1, 1) := by decide +kernel
theorem dc_La_law_977 : decode code 977 = .ok (.iadd, 1) := by decide +kernel
theorem dc_La_law_978 : decode code 978 = .ok (.iaload, 1) := by decide +kernel
theorem dc_La_law_979 : decode code 979 = .ok (.aload_n 0, 1) := by decide +kernel
theorem dc_La_law_980 : decode code 980 = .ok (.iload 4, 2) := by decide +kernel
theorem dc_La_law_982 : decode code 982 = .ok (.iconst 2, 1) := by decide +kernel
theorem dc_La_law_983 : decode code 983 = .ok (.iadd, 1) := by decide +kernel
theorem dc_La_law_984 : decode code 984 = .ok (.iaload, 1) := by decide +kernel
theorem dc_La_law_985 : decode code 985 = .ok (.invokevirtual 135, 3) := by decide +kernel
theorem dc_La_law_988 : decode code 988 = .ok (.lstore 6, 2) := by decide +kernel
theorem dc_La_law_990 : decode code 990 = .ok (.aload_n 2, 1) := by decide +kernel
theorem dc_La_law_991 : decode code 991 = .ok (.invokevirtual 80, 3) := by decide +kernel
theorem dc_La_law_994 : decode code 994 = .ok (.iload 5, 2) := by decide +kernel
theorem dc_La_law_996 : decode code 996 = .ok (.if_icmp .eq 5, 3) := by decide +kernel
theorem dc_La_law_999 : decode code 999 = .ok (.iconst 0, 1) := by decide +kernel
theorem dc_La_law_1000 : decode code 1000 = .ok (.ireturn, 1) := by decide +kernel
theorem dc_La_law_1001 : decode code 1001 = .ok (.iload 5, 2) := by decide +kernel
theorem dc_La_law_1003 : decode code 1003 = .ok (.ifCond .ne 14, 3) := by decide +kernel
theorem dc_La_law_1006 : decode code 1006 = .ok (.aload_n 3, 1) := by decide +kernel
theorem dc_La_law_1007 : decode code 1007 = .ok (.iconst 0, 1) := by decide +kernel
theorem dc_La_law_1008 : decode code 1008 = .ok (.laload, 1) := by decide +kernel
theorem dc_La_law_1009 : decode code 1009 = .ok (.lload 6, 2) := by decide +kernel
theorem dc_La_law_1011 : decode code 1011 = .ok (.lcmp, 1) := by decide +kernel
theorem dc_La_law_1012 : decode code 1012 = .ok (.ifCond .eq 5, 3) := by decide +kernel
theorem dc_La_law_1015 : decode code 1015 = .ok (.iconst 0, 1) := by decide +kernel
theorem dc_La_law_1016 : decode code 1016 = .ok (.ireturn, 1) := by decide +kernel
theorem dc_La_law_1017 : decode code 1017 = .ok (.goto 151, 3) := by decide +kernel
theorem dc_La_law_1020 : decode code 1020 = .ok (.aload_n 1, 1) := by decide +kernel
theorem dc_La_law_1021 : decode code 1021 = .ok (.aload_n 0, 1) := by decide +kernel
theorem dc_La_law_1022 : decode code 1022 = .ok (.iload 4, 2) := by decide +kernel
theorem dc_La_law_1024 : decode code 1024 = .ok (.iconst 1, 1) := by decide +kernel
theorem dc_La_law_1025 : decode code 1025 = .ok (.iadd, 1) := by decide +kernel
theorem dc_La_law_1026 : decode code 1026 = .ok (.iaload, 1) := by decide +kernel
theorem dc_La_law_1027 : decode code 1027 = .ok (.aload_n 0, 1) := by decide +kernel
theorem dc_La_law_1028 : decode code 1028 = .ok (.iload 4, 2) := by decide +kernel
theorem dc_La_law_1030 : decode code 1030 = .ok (.iconst 2, 1) := by decide +kernel
theorem dc_La_law_1031 : decode code 1031 = .ok (.iadd, 1) := by decide +kernel
theorem dc_La_law_1032 : decode code 1032 = .ok (.iaload, 1) := by decide +kernel
theorem dc_La_law_1033 : decode code 1033 = .ok (.aload_n 3, 1) := by decide +kernel
theorem dc_La_law_1034 : decode code 1034 = .ok (.invokestatic 136, 3) := by decide +kernel
theorem dc_La_law_1037 : decode code 1037 = .ok (.istore 5, 2) := by decide +kernel
theorem dc_La_law_1039 : decode code 1039 = .ok (.aload_n 2, 1) := by decide +kernel
theorem dc_La_law_1040 : decode code 1040 = .ok (.aload_n 0, 1) := by decide +kernel
theorem dc_La_law_1041 : decode code 1041 = .ok (.iload 4, 2) := by decide +kernel
theorem dc_La_law_1043 : decode code 1043 = .ok (.iconst 1, 1) := by decide +kernel
theorem dc_La_law_1044 : decode code 1044 = .ok (.iadd, 1) := by decide +kernel
theorem dc_La_law_1045 : decode code 1045 = .ok (.iaload, 1) := by decide +kernel
theorem dc_La_law_1046 : decode code 1046 = .ok (.aload_n 0, 1) := by decide +kernel
theorem dc_La_law_1047 : decode code 1047 = .ok (.iload 4, 2) := by decide +kernel
theorem dc_La_law_1049 : decode code 1049 = .ok (.iconst 2, 1) := by decide +kernel
theorem dc_La_law_1050 : decode code 1050 = .ok (.iadd, 1) := by decide +kernel
theorem dc_La_law_1051 : decode code 1051 = .ok (.iaload, 1) := by decide +kernel
theorem dc_La_law_1052 : decode code 1052 = .ok (.invokevirtual 138, 3) := by decide +kernel
theorem dc_La_law_1055 : decode code 1055 = .ok (.istore 6, 2) := by decide +kernel
theorem dc_La_law_1057 : decode code 1057 = .ok (.aload_n 2, 1) := by decide +kernel
theorem dc_La_law_1058 : decode code 1058 = .ok (.invokevirtual 80, 3) := by decide +kernel
theorem dc_La_law_1061 : decode code 1061 = .ok (.iload 5, 2) := by decide +kernel
theorem dc_La_law_1063 : decode code 1063 = .ok (.if_icmp .eq 5, 3) := by decide +kernel
theorem dc_La_law_1066 : decode code 1066 = .ok (.iconst 0, 1) := by decide +kernel
theorem dc_La_law_1067 : decode code 1067 = .ok (.ireturn, 1) := by decide +kernel
theorem dc_La_law_1068 : decode code 1068 = .ok (.iload 5, 2) := by decide +kernel
theorem dc_La_law_1070 : decode code 1070 = .ok (.ifCond .ne 15, 3) := by decide +kernel
theorem dc_La_law_1073 : decode code 1073 = .ok (.aload_n 3, 1) := by decide +kernel
theorem dc_La_law_1074 : decode code 1074 = .ok (.iconst 0, 1) := by decide +kernel
theorem dc_La_law_1075 : decode code 1075 = .ok (.laload, 1) := by decide +kernel
theorem dc_La_law_1076 : decode code 1076 = .ok (.iload 6, 2) := by decide +kernel
theorem dc_La_law_1078 : decode code 1078 = .ok (.i2l, 1) := by decide +kernel
theorem dc_La_law_1079 : decode code 1079 = .ok (.lcmp, 1) := by decide +kernel
theorem dc_La_law_1080 : decode code 1080 = .ok (.ifCond .eq 5, 3) := by decide +kernel
theorem dc_La_law_1083 : decode code 1083 = .ok (.iconst 0, 1) := by decide +kernel
theorem dc_La_law_1084 : decode code 1084 = .ok (.ireturn, 1) := by decide +kernel
theorem dc_La_law_1085 : decode code 1085 = .ok (.goto 83, 3) := by decide +kernel
theorem dc_La_law_1088 : decode code 1088 = .ok (.aload_n 1, 1) := by decide +kernel
theorem dc_La_law_1089 : decode code 1089 = .ok (.aload_n 0, 1) := by decide +kernel
theorem dc_La_law_1090 : decode code 1090 = .ok (.iload 4, 2) := by decide +kernel
theorem dc_La_law_1092 : decode code 1092 = .ok (.iconst 1, 1) := by decide +kernel
theorem dc_La_law_1093 : decode code 1093 = .ok (.iadd, 1) := by decide +kernel
theorem dc_La_law_1094 : decode code 1094 = .ok (.iaload, 1) := by decide +kernel
theorem dc_La_law_1095 : decode code 1095 = .ok (.aload_n 0, 1) := by decide +kernel
theorem dc_La_law_1096 : decode code 1096 = .ok (.iload 4, 2) := by decide +kernel
theorem dc_La_law_1098 : decode code 1098 = .ok (.iconst 2, 1) := by decide +kernel
theorem dc_La_law_1099 : decode code 1099 = .ok (.iadd, 1) := by decide +kernel
theorem dc_La_law_1100 : decode code 1100 = .ok (.iaload, 1) := by decide +kernel
theorem dc_La_law_1101 : decode code 1101 = .ok (.aload_n 0, 1) := by decide +kernel
theorem dc_La_law_1102 : decode code 1102 = .ok (.iload 4, 2) := by decide +kernel
theorem dc_La_law_1104 : decode code 1104 = .ok (.iconst 3, 1) := by decide +kernel
theorem dc_La_law_1105 : decode code 1105 = .ok (.iadd, 1) := by decide +kernel
theorem dc_La_law_1106 : decode code 1106 = .ok (.iaload, 1) := by decide +kernel
theorem dc_La_law_1107 : decode code 1107 = .ok (.aload_n 3, 1) := by decide +kernel
theorem dc_La_law_1108 : decode code 1108 = .ok (.invokestatic 139, 3) := by decide +kernel
theorem dc_La_law_1111 : decode code 1111 = .ok (.istore 5, 2) := by decide +kernel
theorem dc_La_law_1113 : decode code 1113 = .ok (.aload_n 2, 1) := by decide +kernel
theorem dc_La_law_1114 : decode code 1114 = .ok (.aload_n 0, 1) := by decide +kernel
theorem dc_La_law_1115 : decode code 1115 = .ok (.iload 4, 2) := by decide +kernel
theorem dc_La_law_1117 : decode code 1117 = .ok (.iconst 1, 1) := by decide +kernel
theorem dc_La_law_1118 : decode code 1118 = .ok (.iadd, 1) := by decide +kernel
theorem dc_La_law_1119 : decode code 1119 = .ok (.iaload, 1) := by decide +kernel
theorem dc_La_law_1120 : decode code 1120 = .ok (.aload_n 0, 1) := by decide +kernel
theorem dc_La_law_1121 : decode code 1121 = .ok (.iload 4, 2) := by decide +kernel
theorem dc_La_law_1123 : decode code 1123 = .ok (.iconst 2, 1) := by decide +kernel
theorem dc_La_law_1124 : decode code 1124 = .ok (.iadd, 1) := by decide +kernel
theorem dc_La_law_1125 : decode code 1125 = .ok (.iaload, 1) := by decide +kernel
theorem dc_La_law_1126 : decode code 1126 = .ok (.aload_n 0, 1) := by decide +kernel
theorem dc_La_law_1127 : decode code 1127 = .ok (.iload 4, 2) := by decide +kernel
theorem dc_La_law_1129 : decode code 1129 = .ok (.iconst 3, 1) := by decide +kernel
theorem dc_La_law_1130 : decode code 1130 = .ok (.iadd, 1) := by decide +kernel
theorem dc_La_law_1131 : decode code 1131 = .ok (.iaload, 1) := by decide +kernel
theorem dc_La_law_1132 : decode code 1132 = .ok (.invokevirtual 141, 3) := by decide +kernel
theorem dc_La_law_1135 : decode code 1135 = .ok (.istore 6, 2) := by decide +kernel
theorem dc_La_law_1137 : decode code 1137 = .ok (.aload_n 2, 1) := by decide +kernel
theorem dc_La_law_1138 : decode code 1138 = .ok (.invokevirtual 80, 3) := by decide +kernel
theorem dc_La_law_1141 : decode code 1141 = .ok (.iload 5, 2) := by decide +kernel
theorem dc_La_law_1143 : decode code 1143 = .ok (.if_icmp .eq 5, 3) := by decide +kernel
theorem dc_La_law_1146 : decode code 1146 = .ok (.iconst 0, 1) := by decide +kernel
theorem dc_La_law_1147 : decode code 1147 = .ok (.ireturn, 1) := by decide +kernel
theorem dc_La_law_1148 : decode code 1148 = .ok (.iload 5, 2) := by decide +kernel
theorem dc_La_law_1150 : decode code 1150 = .ok (.ifCond .ne 15, 3) := by decide +kernel
theorem dc_La_law_1153 : decode code 1153 = .ok (.aload_n 3, 1) := by decide +kernel
theorem dc_La_law_1154 : decode code 1154 = .ok (.iconst 0, 1) := by decide +kernel
theorem dc_La_law_1155 : decode code 1155 = .ok (.laload, 1) := by decide +kernel
theorem dc_La_law_1156 : decode code 1156 = .ok (.iload 6, 2) := by decide +kernel
theorem dc_La_law_1158 : decode code 1158 = .ok (.i2l, 1) := by decide +kernel
theorem dc_La_law_1159 : decode code 1159 = .ok (.lcmp, 1) := by decide +kernel
theorem dc_La_law_1160 : decode code 1160 = .ok (.ifCond .eq 5, 3) := by decide +kernel
theorem dc_La_law_1163 : decode code 1163 = .ok (.iconst 0, 1) := by decide +kernel
theorem dc_La_law_1164 : decode code 1164 = .ok (.ireturn, 1) := by decide +kernel
theorem dc_La_law_1165 : decode code 1165 = .ok (.goto 3, 3) := by decide +kernel
theorem dc_La_law_1168 : decode code 1168 = .ok (.iinc 4 4, 3) := by decide +kernel
theorem dc_La_law_1171 : decode code 1171 = .ok (.goto (-1148), 3) := by decide +kernel
theorem dc_La_law_1174 : decode code 1174 = .ok (.iconst 1, 1) := by decide +kernel
theorem dc_La_law_1175 : decode code 1175 = .ok (.ireturn, 1) := by decide +kernel

theorem dX8_goDay_135 : decode cX8_goDay 135 = .ok (.aload_n 0, 1) := by decide +kernel
theorem dX8_goDay_136 : decode cX8_goDay 136 = .ok (.iload_n 2, 1) := by decide +kernel
theorem dX8_goDay_137 : decode cX8_goDay 137 = .ok (.iconst 3, 1) := by decide +kernel
theorem dX8_goDay_138 : decode cX8_goDay 138 = .ok (.iconst 0, 1) := by decide +kernel
theorem dX8_goDay_139 : decode cX8_goDay 139 = .ok (.aload_n 0, 1) := by decide +kernel
theorem dX8_goDay_140 : decode cX8_goDay 140 = .ok (.iload_n 2, 1) := by decide +kernel
theorem dX8_goDay_141 : decode cX8_goDay 141 = .ok (.iconst 3, 1) := by decide +kernel
theorem dX8_goDay_142 : decode cX8_goDay 142 = .ok (.invokevirtual 111, 3) := by decide +kernel
theorem dX8_goDay_145 : decode cX8_goDay 145 = .ok (.bipush 10, 2) := by decide +kernel
theorem dX8_goDay_147 : decode cX8_goDay 147 = .ok (.isub, 1) := by decide +kernel
theorem dX8_goDay_148 : decode cX8_goDay 148 = .ok (.invokestatic 86, 3) := by decide +kernel
theorem dX8_goDay_151 : decode cX8_goDay 151 = .ok (.invokevirtual 107, 3) := by decide +kernel
theorem dX8_goDay_154 : decode cX8_goDay 154 = .ok (.aload_n 0, 1) := by decide +kernel
theorem dX8_goDay_155 : decode cX8_goDay 155 = .ok (.iload_n 2, 1) := by decide +kernel
theorem dX8_goDay_156 : decode cX8_goDay 156 = .ok (.iconst 4, 1) := by decide +kernel
theorem dX8_goDay_157 : decode cX8_goDay 157 = .ok (.bipush 99, 2) := by decide +kernel
theorem dX8_goDay_159 : decode cX8_goDay 159 = .ok (.aload_n 0, 1) := by decide +kernel
theorem dX8_goDay_160 : decode cX8_goDay 160 = .ok (.iload_n 2, 1) := by decide +kernel
theorem dX8_goDay_161 : decode cX8_goDay 161 = .ok (.iconst 4, 1) := by decide +kernel
theorem dX8_goDay_162 : decode cX8_goDay 162 = .ok (.invokevirtual 111, 3) := by decide +kernel
theorem dX8_goDay_165 : decode cX8_goDay 165 = .ok (.iconst 1, 1) := by decide +kernel
theorem dX8_goDay_166 : decode cX8_goDay 166 = .ok (.iadd, 1) := by decide +kernel
theorem dX8_goDay_167 : decode cX8_goDay 167 = .ok (.invokestatic 80, 3) := by decide +kernel
theorem dX8_goDay_170 : decode cX8_goDay 170 = .ok (.invokevirtual 107, 3) := by decide +kernel
theorem dX8_goDay_173 : decode cX8_goDay 173 = .ok (.goto 113, 3) := by decide +kernel
theorem dX8_goDay_176 : decode cX8_goDay 176 = .ok (.aload_n 0, 1) := by decide +kernel
theorem dX8_goDay_177 : decode cX8_goDay 177 = .ok (.iload_n 2, 1) := by decide +kernel
theorem dX8_goDay_178 : decode cX8_goDay 178 = .ok (.iconst 3, 1) := by decide +kernel
theorem dX8_goDay_179 : decode cX8_goDay 179 = .ok (.aload_n 0, 1) := by decide +kernel
theorem dX8_goDay_180 : decode cX8_goDay 180 = .ok (.iload_n 2, 1) := by decide +kernel
theorem dX8_goDay_181 : decode cX8_goDay 181 = .ok (.iconst 3, 1) := by decide +kernel
theorem dX8_goDay_182 : decode cX8_goDay 182 = .ok (.invokevirtual 111, 3) := by decide +kernel
theorem dX8_goDay_185 : decode cX8_goDay 185 = .ok (.aload_n 0, 1) := by decide +kernel
theorem dX8_goDay_186 : decode cX8_goDay 186 = .ok (.getfield 55, 3) := by decide +kernel
theorem dX8_goDay_189 : decode cX8_goDay 189 = .ok (.iload_n 2, 1) := by decide +kernel
theorem dX8_goDay_190 : decode cX8_goDay 190 = .ok (.iaload, 1) := by decide +kernel
theorem dX8_goDay_191 : decode cX8_goDay 191 = .ok (.iadd, 1) := by decide +kernel
theorem dX8_goDay_192 : decode cX8_goDay 192 = .ok (.iconst 0, 1) := by decide +kernel
theorem dX8_goDay_193 : decode cX8_goDay 193 = .ok (.bipush 99, 2) := by decide +kernel
theorem dX8_goDay_195 : decode cX8_goDay 195 = .ok (.invokestatic 210, 3) := by decide +kernel
theorem dX8_goDay_198 : decode cX8_goDay 198 = .ok (.invokevirtual 107, 3) := by decide +kernel
theorem dX8_goDay_201 : decode cX8_goDay 201 = .ok (.aload_n 0, 1) := by decide +kernel
theorem dX8_goDay_202 : decode cX8_goDay 202 = .ok (.iload_n 2, 1) := by decide +kernel
theorem dX8_goDay_203 : decode cX8_goDay 203 = .ok (.iconst 5, 1) := by decide +kernel
theorem dX8_goDay_204 : decode cX8_goDay 204 = .ok (.sipush 9999, 3) := by decide +kernel
theorem dX8_goDay_207 : decode cX8_goDay 207 = .ok (.aload_n 0, 1) := by decide +kernel
theorem dX8_goDay_208 : decode cX8_goDay 208 = .ok (.iload_n 2, 1) := by decide +kernel
theorem dX8_goDay_209 : decode cX8_goDay 209 = .ok (.iconst 5, 1) := by decide +kernel
theorem dX8_goDay_210 : decode cX8_goDay 210 = .ok (.invokevirtual 111, 3) := by decide +kernel
theorem dX8_goDay_213 : decode cX8_goDay 213 = .ok (.aload_n 0, 1) := by decide +kernel
theorem dX8_goDay_214 : decode cX8_goDay 214 = .ok (.getfield 52, 3) := by decide +kernel
theorem dX8_goDay_217 : decode cX8_goDay 217 = .ok (.iload_n 2, 1) := by decide +kernel
theorem dX8_goDay_218 : decode cX8_goDay 218 = .ok (.iaload, 1) := by decide +kernel
theorem dX8_goDay_219 : decode cX8_goDay 219 = .ok (.iadd, 1) := by decide +kernel
theorem dX8_goDay_220 : decode cX8_goDay 220 = .ok (.invokestatic 80, 3) := by decide +kernel
theorem dX8_goDay_223 : decode cX8_goDay 223 = .ok (.invokevirtual 107, 3) := by decide +kernel
theorem dX8_goDay_226 : decode cX8_goDay 226 = .ok (.aload_n 0, 1) := by decide +kernel
theorem dX8_goDay_227 : decode cX8_goDay 227 = .ok (.aload_n 0, 1) := by decide +kernel
theorem dX8_goDay_228 : decode cX8_goDay 228 = .ok (.getfield 49, 3) := by decide +kernel
theorem dX8_goDay_231 : decode cX8_goDay 231 = .ok (.iload_n 2, 1) := by decide +kernel
theorem dX8_goDay_232 : decode cX8_goDay 232 = .ok (.iaload, 1) := by decide +kernel
theorem dX8_goDay_233 : decode cX8_goDay 233 = .ok (.bipush 6, 2) := by decide +kernel
theorem dX8_goDay_235 : decode cX8_goDay 235 = .ok (.iload_n 2, 1) := by decide +kernel
theorem dX8_goDay_236 : decode cX8_goDay 236 = .ok (.iadd, 1) := by decide +kernel
theorem dX8_goDay_237 : decode cX8_goDay 237 = .ok (.aload_n 0, 1) := by decide +kernel
theorem dX8_goDay_238 : decode cX8_goDay 238 = .ok (.aload_n 0, 1) := by decide +kernel
theorem dX8_goDay_239 : decode cX8_goDay 239 = .ok (.getfield 49, 3) := by decide +kernel
theorem dX8_goDay_242 : decode cX8_goDay 242 = .ok (.iload_n 2, 1) := by decide +kernel
theorem dX8_goDay_243 : decode cX8_goDay 243 = .ok (.iaload, 1) := by decide +kernel
theorem dX8_goDay_244 : decode cX8_goDay 244 = .ok (.bipush 6, 2) := by decide +kernel
theorem dX8_goDay_246 : decode cX8_goDay 246 = .ok (.iload_n 2, 1) := by decide +kernel
theorem dX8_goDay_247 : decode cX8_goDay 247 = .ok (.iadd, 1) := by decide +kernel
theorem dX8_goDay_248 : decode cX8_goDay 248 = .ok (.invokevirtual 111, 3) := by decide +kernel
theorem dX8_goDay_251 : decode cX8_goDay 251 = .ok (.aload_n 0, 1) := by decide +kernel
theorem dX8_goDay_252 : decode cX8_goDay 252 = .ok (.getfield 58, 3) := by decide +kernel
theorem dX8_goDay_255 : decode cX8_goDay 255 = .ok (.iload_n 2, 1) := by decide +kernel
theorem dX8_goDay_256 : decode cX8_goDay 256 = .ok (.iaload, 1) := by decide +kernel
theorem dX8_goDay_257 : decode cX8_goDay 257 = .ok (.iadd, 1) := by decide +kernel
theorem dX8_goDay_258 : decode cX8_goDay 258 = .ok (.iconst 0, 1) := by decide +kernel
theorem dX8_goDay_259 : decode cX8_goDay 259 = .ok (.bipush 9, 2) := by decide +kernel
theorem dX8_goDay_261 : decode cX8_goDay 261 = .ok (.invokestatic 210, 3) := by decide +kernel
theorem dX8_goDay_264 : decode cX8_goDay 264 = .ok (.invokevirtual 107, 3) := by decide +kernel
theorem dX8_goDay_267 : decode cX8_goDay 267 = .ok (.iload_n 1, 1) := by decide +kernel
theorem dX8_goDay_268 : decode cX8_goDay 268 = .ok (.aload_n 0, 1) := by decide +kernel
theorem dX8_goDay_269 : decode cX8_goDay 269 = .ok (.getfield 52, 3) := by decide +kernel
theorem dX8_goDay_272 : decode cX8_goDay 272 = .ok (.iload_n 2, 1) := by decide +kernel
theorem dX8_goDay_273 : decode cX8_goDay 273 = .ok (.iaload, 1) := by decide +kernel
theorem dX8_goDay_274 : decode cX8_goDay 274 = .ok (.ifCond .le 9, 3) := by decide +kernel
theorem dX8_goDay_277 : decode cX8_goDay 277 = .ok (.iconst 1, 1) := by decide +kernel
theorem dX8_goDay_278 : decode cX8_goDay 278 = .ok (.iload_n 2, 1) := by decide +kernel
theorem dX8_goDay_279 : decode cX8_goDay 279 = .ok (.ishl, 1) := by decide +kernel
theorem dX8_goDay_280 : decode cX8_goDay 280 = .ok (.goto 4, 3) := by decide +kernel
theorem dX8_goDay_283 : decode cX8_goDay 283 = .ok (.iconst 0, 1) := by decide +kernel
theorem dX8_goDay_284 : decode cX8_goDay 284 = .ok (.ior, 1) := by decide +kernel
theorem dX8_goDay_285 : decode cX8_goDay 285 = .ok (.istore_n 1, 1) := by decide +kernel
theorem dX8_goDay_286 : decode cX8_goDay 286 = .ok (.iinc 2 1, 3) := by decide +kernel
theorem dX8_goDay_289 : decode cX8_goDay 289 = .ok (.goto (-172), 3) := by decide +kernel
theorem dX8_goDay_292 : decode cX8_goDay 292 = .ok (.aload_n 0, 1) := by decide +kernel
theorem dX8_goDay_293 : decode cX8_goDay 293 = .ok (.getfield 7, 3) := by decide +kernel
theorem dX8_goDay_296 : decode cX8_goDay 296 = .ok (.bipush 56, 2) := by decide +kernel
theorem dX8_goDay_298 : decode cX8_goDay 298 = .ok (.dup2, 1) := by decide +kernel
theorem dX8_goDay_299 : decode cX8_goDay 299 = .ok (.iaload, 1) := by decide +kernel
theorem dX8_goDay_300 : decode cX8_goDay 300 = .ok (.iconst 1, 1) := by decide +kernel
theorem dX8_goDay_301 : decode cX8_goDay 301 = .ok (.iadd, 1) := by decide +kernel
theorem dX8_goDay_302 : decode cX8_goDay 302 = .ok (.iastore, 1) := by decide +kernel
theorem dX8_goDay_303 : decode cX8_goDay 303 = .ok (.iload_n 1, 1) := by decide +kernel
theorem dX8_goDay_304 : decode cX8_goDay 304 = .ok (.ireturn, 1) := by decide +kernel
theorem dX8_goDays_0 : decode cX8_goDays 0 = .ok (.iconst 0, 1) := by decide +kernel
theorem dX8_goDays_1 : decode cX8_goDays 1 = .ok (.istore_n 2, 1) := by decide +kernel
theorem dX8_goDays_2 : decode cX8_goDays 2 = .ok (.iload_n 2, 1) := by decide +kernel
theorem dX8_goDays_3 : decode cX8_goDays 3 = .ok (.iload_n 1, 1) := by decide +kernel
theorem dX8_goDays_4 : decode cX8_goDays 4 = .ok (.if_icmp .ge 14, 3) := by decide +kernel
theorem dX8_goDays_7 : decode cX8_goDays 7 = .ok (.aload_n 0, 1) := by decide +kernel
theorem dX8_goDays_8 : decode cX8_goDays 8 = .ok (.invokevirtual 213, 3) := by decide +kernel
theorem dX8_goDays_11 : decode cX8_goDays 11 = .ok (.pop, 1) := by decide +kernel
theorem dX8_goDays_12 : decode cX8_goDays 12 = .ok (.iinc 2 1, 3) := by decide +kernel
theorem dX8_goDays_15 : decode cX8_goDays 15 = .ok (.goto (-13), 3) := by decide +kernel
theorem dX8_goDays_18 : decode cX8_goDays 18 = .ok (.return_, 1) := by decide +kernel
theorem dX8_all_0 : decode cX8_all 0 = .ok (.iconst 0, 1) := by decide +kernel
theorem dX8_all_1 : decode cX8_all 1 = .ok (.istore_n 2, 1) := by decide +kernel
theorem dX8_all_2 : decode cX8_all 2 = .ok (.iconst 0, 1) := by decide +kernel
theorem dX8_all_3 : decode cX8_all 3 = .ok (.istore_n 3, 1) := by decide +kernel
theorem dX8_all_4 : decode cX8_all 4 = .ok (.iload_n 3, 1) := by decide +kernel
theorem dX8_all_5 : decode cX8_all 5 = .ok (.aload_n 0, 1) := by decide +kernel
theorem dX8_all_6 : decode cX8_all 6 = .ok (.invokevirtual 104, 3) := by decide +kernel
theorem dX8_all_9 : decode cX8_all 9 = .ok (.if_icmp .ge 18, 3) := by decide +kernel
theorem dX8_all_12 : decode cX8_all 12 = .ok (.iload_n 2, 1) := by decide +kernel
theorem dX8_all_13 : decode cX8_all 13 = .ok (.aload_n 0, 1) := by decide +kernel
theorem dX8_all_14 : decode cX8_all 14 = .ok (.iload_n 3, 1) := by decide +kernel
theorem dX8_all_15 : decode cX8_all 15 = .ok (.iload_n 1, 1) := by decide +kernel
theorem dX8_all_16 : decode cX8_all 16 = .ok (.invokevirtual 111, 3) := by decide +kernel
theorem dX8_all_19 : decode cX8_all 19 = .ok (.iadd, 1) := by decide +kernel
theorem dX8_all_20 : decode cX8_all 20 = .ok (.istore_n 2, 1) := by decide +kernel
theorem dX8_all_21 : decode cX8_all 21 = .ok (.iinc 3 1, 3) := by decide +kernel
theorem dX8_all_24 : decode cX8_all 24 = .ok (.goto (-20), 3) := by decide +kernel
theorem dX8_all_27 : decode cX8_all 27 = .ok (.iload_n 2, 1) := by decide +kernel
theorem dX8_all_28 : decode cX8_all 28 = .ok (.ireturn, 1) := by decide +kernel
theorem dX8_lates_0 : decode cX8_lates 0 = .ok (.iconst 0, 1) := by decide +kernel
theorem dX8_lates_1 : decode cX8_lates 1 = .ok (.istore_n 1, 1) := by decide +kernel
theorem dX8_lates_2 : decode cX8_lates 2 = .ok (.iconst 0, 1) := by decide +kernel
theorem dX8_lates_3 : decode cX8_lates 3 = .ok (.istore_n 2, 1) := by decide +kernel
theorem dX8_lates_4 : decode cX8_lates 4 = .ok (.iload_n 2, 1) := by decide +kernel
theorem dX8_lates_5 : decode cX8_lates 5 = .ok (.aload_n 0, 1) := by decide +kernel
theorem dX8_lates_6 : decode cX8_lates 6 = .ok (.invokevirtual 104, 3) := by decide +kernel
theorem dX8_lates_9 : decode cX8_lates 9 = .ok (.if_icmp .ge 25, 3) := by decide +kernel
theorem dX8_lates_12 : decode cX8_lates 12 = .ok (.iload_n 1, 1) := by decide +kernel
theorem dX8_lates_13 : decode cX8_lates 13 = .ok (.aload_n 0, 1) := by decide +kernel
theorem dX8_lates_14 : decode cX8_lates 14 = .ok (.iload_n 2, 1) := by decide +kernel
theorem dX8_lates_15 : decode cX8_lates 15 = .ok (.invokevirtual 121, 3) := by decide +kernel
theorem dX8_lates_18 : decode cX8_lates 18 = .ok (.ifCond .le 7, 3) := by decide +kernel
theorem dX8_lates_21 : decode cX8_lates 21 = .ok (.iconst 1, 1) := by decide +kernel
theorem dX8_lates_22 : decode cX8_lates 22 = .ok (.goto 4, 3) := by decide +kernel
theorem dX8_lates_25 : decode cX8_lates 25 = .ok (.iconst 0, 1) := by decide +kernel
theorem dX8_lates_26 : decode cX8_lates 26 = .ok (.iadd, 1) := by decide +kernel
theorem dX8_lates_27 : decode cX8_lates 27 = .ok (.istore_n 1, 1) := by decide +kernel
theorem dX8_lates_28 : decode cX8_lates 28 = .ok (.iinc 2 1, 3) := by decide +kernel
theorem dX8_lates_31 : decode cX8_lates 31 = .ok (.goto (-27), 3) := by decide +kernel
theorem dX8_lates_34 : decode cX8_lates 34 = .ok (.iload_n 1, 1) := by decide +kernel
theorem dX8_lates_35 : decode cX8_lates 35 = .ok (.ireturn, 1) := by decide +kernel
theorem dX8_day_0 : decode cX8_day 0 = .ok (.aload_n 0, 1) := by decide +kernel
theorem dX8_day_1 : decode cX8_day 1 = .ok (.getfield 7, 3) := by decide +kernel
theorem dX8_day_4 : decode cX8_day 4 = .ok (.bipush 56, 2) := by decide +kernel
theorem dX8_day_6 : decode cX8_day 6 = .ok (.iaload, 1) := by decide +kernel
theorem dX8_day_7 : decode cX8_day 7 = .ok (.sipush 999, 3) := by decide +kernel
theorem dX8_day_10 : decode cX8_day 10 = .ok (.if_icmp .ne 8, 3) := by decide +kernel
theorem dX8_day_13 : decode cX8_day 13 = .ok (.bipush (-3), 2) := by decide +kernel
theorem dX8_day_15 : decode cX8_day 15 = .ok (.goto 7, 3) := by decide +kernel
theorem dX8_day_18 : decode cX8_day 18 = .ok (.aload_n 0, 1) := by decide +kernel
theorem dX8_day_19 : decode cX8_day 19 = .ok (.invokevirtual 213, 3) := by decide +kernel
theorem dX8_day_22 : decode cX8_day 22 = .ok (.ireturn, 1) := by decide +kernel
theorem dX8_run_0 : decode cX8_run 0 = .ok (.aload_n 0, 1) := by decide +kernel
theorem dX8_run_1 : decode cX8_run 1 = .ok (.iload_n 1, 1) := by decide +kernel
theorem dX8_run_2 : decode cX8_run 2 = .ok (.invokevirtual 93, 3) := by decide +kernel
theorem dX8_run_5 : decode cX8_run 5 = .ok (.ifCond .eq 22, 3) := by decide +kernel
theorem dX8_run_8 : decode cX8_run 8 = .ok (.iload_n 2, 1) := by decide +kernel
theorem dX8_run_9 : decode cX8_run 9 = .ok (.iconst 0, 1) := by decide +kernel
theorem dX8_run_10 : decode cX8_run 10 = .ok (.bipush 40, 2) := by decide +kernel
theorem dX8_run_12 : decode cX8_run 12 = .ok (.invokestatic 89, 3) := by decide +kernel
theorem dX8_run_15 : decode cX8_run 15 = .ok (.ifCond .eq 12, 3) := by decide +kernel
theorem dX8_run_18 : decode cX8_run 18 = .ok (.iload_n 3, 1) := by decide +kernel
theorem dX8_run_19 : decode cX8_run 19 = .ok (.iconst 0, 1) := by decide +kernel
theorem dX8_run_20 : decode cX8_run 20 = .ok (.iconst 4, 1) := by decide +kernel
theorem dX8_run_21 : decode cX8_run 21 = .ok (.invokestatic 89, 3) := by decide +kernel
theorem dX8_run_24 : decode cX8_run 24 = .ok (.ifCond .ne 6, 3) := by decide +kernel
theorem dX8_run_27 : decode cX8_run 27 = .ok (.bipush (-2), 2) := by decide +kernel
theorem dX8_run_29 : decode cX8_run 29 = .ok (.ireturn, 1) := by decide +kernel
theorem dX8_run_30 : decode cX8_run 30 = .ok (.aload_n 0, 1) := by decide +kernel
theorem dX8_run_31 : decode cX8_run 31 = .ok (.aload_n 0, 1) := by decide +kernel
theorem dX8_run_32 : decode cX8_run 32 = .ok (.getfield 16, 3) := by decide +kernel
theorem dX8_run_35 : decode cX8_run 35 = .ok (.invokevirtual 216, 3) := by decide +kernel
theorem dX8_run_38 : decode cX8_run 38 = .ok (.aload_n 0, 1) := by decide +kernel
theorem dX8_run_39 : decode cX8_run 39 = .ok (.iload_n 2, 1) := by decide +kernel
theorem dX8_run_40 : decode cX8_run 40 = .ok (.invokevirtual 220, 3) := by decide +kernel
theorem dX8_run_43 : decode cX8_run 43 = .ok (.iload_n 3, 1) := by decide +kernel
theorem dX8_run_44 : decode cX8_run 44 = .ok (.ifCond .ne 11, 3) := by decide +kernel
theorem dX8_run_47 : decode cX8_run 47 = .ok (.aload_n 0, 1) := by decide +kernel
theorem dX8_run_48 : decode cX8_run 48 = .ok (.iload_n 1, 1) := by decide +kernel
theorem dX8_run_49 : decode cX8_run 49 = .ok (.invokevirtual 118, 3) := by decide +kernel
theorem dX8_run_52 : decode cX8_run 52 = .ok (.goto 48, 3) := by decide +kernel
theorem dX8_run_55 : decode cX8_run 55 = .ok (.iload_n 3, 1) := by decide +kernel
theorem dX8_run_56 : decode cX8_run 56 = .ok (.iconst 1, 1) := by decide +kernel
theorem dX8_run_57 : decode cX8_run 57 = .ok (.if_icmp .ne 12, 3) := by decide +kernel
theorem dX8_run_60 : decode cX8_run 60 = .ok (.aload_n 0, 1) := by decide +kernel
theorem dX8_run_61 : decode cX8_run 61 = .ok (.iload_n 1, 1) := by decide +kernel
theorem dX8_run_62 : decode cX8_run 62 = .ok (.iconst 3, 1) := by decide +kernel
theorem dX8_run_63 : decode cX8_run 63 = .ok (.invokevirtual 111, 3) := by decide +kernel
theorem dX8_run_66 : decode cX8_run 66 = .ok (.goto 34, 3) := by decide +kernel
theorem dX8_run_69 : decode cX8_run 69 = .ok (.iload_n 3, 1) := by decide +kernel
theorem dX8_run_70 : decode cX8_run 70 = .ok (.iconst 2, 1) := by decide +kernel
theorem dX8_run_71 : decode cX8_run 71 = .ok (.if_icmp .ne 12, 3) := by decide +kernel
theorem dX8_run_74 : decode cX8_run 74 = .ok (.aload_n 0, 1) := by decide +kernel
theorem dX8_run_75 : decode cX8_run 75 = .ok (.iload_n 1, 1) := by decide +kernel
theorem dX8_run_76 : decode cX8_run 76 = .ok (.iconst 5, 1) := by decide +kernel
theorem dX8_run_77 : decode cX8_run 77 = .ok (.invokevirtual 111, 3) := by decide +kernel
theorem dX8_run_80 : decode cX8_run 80 = .ok (.goto 20, 3) := by decide +kernel
theorem dX8_run_83 : decode cX8_run 83 = .ok (.iload_n 3, 1) := by decide +kernel
theorem dX8_run_84 : decode cX8_run 84 = .ok (.iconst 3, 1) := by decide +kernel
theorem dX8_run_85 : decode cX8_run 85 = .ok (.if_icmp .ne 10, 3) := by decide +kernel
theorem dX8_run_88 : decode cX8_run 88 = .ok (.aload_n 0, 1) := by decide +kernel
theorem dX8_run_89 : decode cX8_run 89 = .ok (.invokevirtual 223, 3) := by decide +kernel
theorem dX8_run_92 : decode cX8_run 92 = .ok (.goto 8, 3) := by decide +kernel
theorem dX8_run_95 : decode cX8_run 95 = .ok (.aload_n 0, 1) := by decide +kernel
theorem dX8_run_96 : decode cX8_run 96 = .ok (.iconst 4, 1) := by decide +kernel
theorem dX8_run_97 : decode cX8_run 97 = .ok (.invokevirtual 226, 3) := by decide +kernel
theorem dX8_run_100 : decode cX8_run 100 = .ok (.istore 4, 2) := by decide +kernel
theorem dX8_run_102 : decode cX8_run 102 = .ok (.aload_n 0, 1) := by decide +kernel
theorem dX8_run_103 : decode cX8_run 103 = .ok (.aload_n 0, 1) := by decide +kernel
theorem dX8_run_104 : decode cX8_run 104 = .ok (.getfield 16, 3) := by decide +kernel
theorem dX8_run_107 : decode cX8_run 107 = .ok (.invokevirtual 229, 3) := by decide +kernel
theorem dX8_run_110 : decode cX8_run 110 = .ok (.iload 4, 2) := by decide +kernel
theorem dX8_run_112 : decode cX8_run 112 = .ok (.ireturn, 1) := by decide +kernel
theorem dX8_round_0 : decode cX8_round 0 = .ok (.aload_n 0, 1) := by decide +kernel
theorem dX8_round_1 : decode cX8_round 1 = .ok (.iload_n 1, 1) := by decide +kernel
theorem dX8_round_2 : decode cX8_round 2 = .ok (.invokevirtual 93, 3) := by decide +kernel
theorem dX8_round_5 : decode cX8_round 5 = .ok (.ifCond .ne 6, 3) := by decide +kernel
theorem dX8_round_8 : decode cX8_round 8 = .ok (.bipush (-2), 2) := by decide +kernel
theorem dX8_round_10 : decode cX8_round 10 = .ok (.ireturn, 1) := by decide +kernel
theorem dX8_round_11 : decode cX8_round 11 = .ok (.iconst 1, 1) := by decide +kernel
theorem dX8_round_12 : decode cX8_round 12 = .ok (.iload_n 1, 1) := by decide +kernel
theorem dX8_round_13 : decode cX8_round 13 = .ok (.ishl, 1) := by decide +kernel
theorem dX8_round_14 : decode cX8_round 14 = .ok (.istore_n 2, 1) := by decide +kernel
theorem dX8_round_15 : decode cX8_round 15 = .ok (.aload_n 0, 1) := by decide +kernel
theorem dX8_round_16 : decode cX8_round 16 = .ok (.iload_n 1, 1) := by decide +kernel
theorem dX8_round_17 : decode cX8_round 17 = .ok (.invokevirtual 114, 3) := by decide +kernel
theorem dX8_round_20 : decode cX8_round 20 = .ok (.istore_n 3, 1) := by decide +kernel
theorem dX8_round_21 : decode cX8_round 21 = .ok (.iconst 1, 1) := by decide +kernel
theorem dX8_round_22 : decode cX8_round 22 = .ok (.istore 4, 2) := by decide +kernel
theorem dX8_round_24 : decode cX8_round 24 = .ok (.iload_n 3, 1) := by decide +kernel
theorem dX8_round_25 : decode cX8_round 25 = .ok (.iconst (-1), 1) := by decide +kernel
theorem dX8_round_26 : decode cX8_round 26 = .ok (.if_icmp .eq 29, 3) := by decide +kernel
theorem dX8_round_29 : decode cX8_round 29 = .ok (.iload_n 2, 1) := by decide +kernel
theorem dX8_round_30 : decode cX8_round 30 = .ok (.iload_n 3, 1) := by decide +kernel
theorem dX8_round_31 : decode cX8_round 31 = .ok (.ishr, 1) := by decide +kernel
theorem dX8_round_32 : decode cX8_round 32 = .ok (.iconst 1, 1) := by decide +kernel
theorem dX8_round_33 : decode cX8_round 33 = .ok (.iand, 1) := by decide +kernel
theorem dX8_round_34 : decode cX8_round 34 = .ok (.ifCond .ne 21, 3) := by decide +kernel
theorem dX8_round_37 : decode cX8_round 37 = .ok (.iload_n 2, 1) := by decide +kernel
theorem dX8_round_38 : decode cX8_round 38 = .ok (.iconst 1, 1) := by decide +kernel
theorem dX8_round_39 : decode cX8_round 39 = .ok (.iload_n 3, 1) := by decide +kernel
theorem dX8_round_40 : decode cX8_round 40 = .ok (.ishl, 1) := by decide +kernel
theorem dX8_round_41 : decode cX8_round 41 = .ok (.ior, 1) := by decide +kernel
theorem dX8_round_42 : decode cX8_round 42 = .ok (.istore_n 2, 1) := by decide +kernel
theorem dX8_round_43 : decode cX8_round 43 = .ok (.aload_n 0, 1) := by decide +kernel
theorem dX8_round_44 : decode cX8_round 44 = .ok (.iload_n 3, 1) := by decide +kernel
theorem dX8_round_45 : decode cX8_round 45 = .ok (.invokevirtual 114, 3) := by decide +kernel
theorem dX8_round_48 : decode cX8_round 48 = .ok (.istore_n 3, 1) := by decide +kernel
theorem dX8_round_49 : decode cX8_round 49 = .ok (.iinc 4 1, 3) := by decide +kernel
theorem dX8_round_52 : decode cX8_round 52 = .ok (.goto (-28), 3) := by decide +kernel
theorem dX8_round_55 : decode cX8_round 55 = .ok (.iload_n 3, 1) := by decide +kernel
theorem dX8_round_56 : decode cX8_round 56 = .ok (.iconst (-1), 1) := by decide +kernel
theorem dX8_round_57 : decode cX8_round 57 = .ok (.if_icmp .ne 7, 3) := by decide +kernel
theorem dX8_round_60 : decode cX8_round 60 = .ok (.iconst (-1), 1) := by decide +kernel
theorem dX8_round_61 : decode cX8_round 61 = .ok (.goto 5, 3) := by decide +kernel
theorem dX8_round_64 : decode cX8_round 64 = .ok (.iload 4, 2) := by decide +kernel
theorem dX8_round_66 : decode cX8_round 66 = .ok (.ireturn, 1) := by decide +kernel
theorem dX8_arrange_0 : decode cX8_arrange 0 = .ok (.iload_n 1, 1) := by decide +kernel
theorem dX8_arrange_1 : decode cX8_arrange 1 = .ok (.aload_n 0, 1) := by decide +kernel
theorem dX8_arrange_2 : decode cX8_arrange 2 = .ok (.invokevirtual 104, 3) := by decide +kernel
theorem dX8_arrange_5 : decode cX8_arrange 5 = .ok (.if_icmp .ne 31, 3) := by decide +kernel
theorem dX8_arrange_8 : decode cX8_arrange 8 = .ok (.aload_n 0, 1) := by decide +kernel
theorem dX8_arrange_9 : decode cX8_arrange 9 = .ok (.getfield 232, 3) := by decide +kernel
theorem dX8_arrange_12 : decode cX8_arrange 12 = .ok (.iconst (-1), 1) := by decide +kernel
theorem dX8_arrange_13 : decode cX8_arrange 13 = .ok (.if_icmp .eq 11, 3) := by decide +kernel
theorem dX8_arrange_16 : decode cX8_arrange 16 = .ok (.iload_n 3, 1) := by decide +kernel
theorem dX8_arrange_17 : decode cX8_arrange 17 = .ok (.aload_n 0, 1) := by decide +kernel
theorem dX8_arrange_18 : decode cX8_arrange 18 = .ok (.getfield 232, 3) := by decide +kernel
theorem dX8_arrange_21 : decode cX8_arrange 21 = .ok (.if_icmp .ge 14, 3) := by decide +kernel
theorem dX8_arrange_24 : decode cX8_arrange 24 = .ok (.aload_n 0, 1) := by decide +kernel
theorem dX8_arrange_25 : decode cX8_arrange 25 = .ok (.iload_n 3, 1) := by decide +kernel
theorem dX8_arrange_26 : decode cX8_arrange 26 = .ok (.putfield 232, 3) := by decide +kernel
theorem dX8_arrange_29 : decode cX8_arrange 29 = .ok (.aload_n 0, 1) := by decide +kernel
theorem dX8_arrange_30 : decode cX8_arrange 30 = .ok (.iload 4, 2) := by decide +kernel
theorem dX8_arrange_32 : decode cX8_arrange 32 = .ok (.putfield 235, 3) := by decide +kernel
theorem dX8_arrange_35 : decode cX8_arrange 35 = .ok (.return_, 1) := by decide +kernel
theorem dX8_arrange_36 : decode cX8_arrange 36 = .ok (.iconst 0, 1) := by decide +kernel
theorem dX8_arrange_37 : decode cX8_arrange 37 = .ok (.istore 5, 2) := by decide +kernel
theorem dX8_arrange_39 : decode cX8_arrange 39 = .ok (.iload 5, 2) := by decide +kernel
theorem dX8_arrange_41 : decode cX8_arrange 41 = .ok (.aload_n 0, 1) := by decide +kernel
theorem dX8_arrange_42 : decode cX8_arrange 42 = .ok (.invokevirtual 104, 3) := by decide +kernel
theorem dX8_arrange_45 : decode cX8_arrange 45 = .ok (.if_icmp .ge 68, 3) := by decide +kernel
theorem dX8_arrange_48 : decode cX8_arrange 48 = .ok (.iload 5, 2) := by decide +kernel
theorem dX8_arrange_50 : decode cX8_arrange 50 = .ok (.iload_n 1, 1) := by decide +kernel
theorem dX8_arrange_51 : decode cX8_arrange 51 = .ok (.if_icmp .eq 56, 3) := by decide +kernel
theorem dX8_arrange_54 : decode cX8_arrange 54 = .ok (.iload_n 2, 1) := by decide +kernel
theorem dX8_arrange_55 : decode cX8_arrange 55 = .ok (.iload 5, 2) := by decide +kernel
theorem dX8_arrange_57 : decode cX8_arrange 57 = .ok (.ishr, 1) := by decide +kernel
theorem dX8_arrange_58 : decode cX8_arrange 58 = .ok (.iconst 1, 1) := by decide +kernel
theorem dX8_arrange_59 : decode cX8_arrange 59 = .ok (.iand, 1) := by decide +kernel
theorem dX8_arrange_60 : decode cX8_arrange 60 = .ok (.ifCond .ne 47, 3) := by decide +kernel
theorem dX8_arrange_63 : decode cX8_arrange 63 = .ok (.aload_n 0, 1) := by decide +kernel
theorem dX8_arrange_64 : decode cX8_arrange 64 = .ok (.iload_n 1, 1) := by decide +kernel
theorem dX8_arrange_65 : decode cX8_arrange 65 = .ok (.iconst 1, 1) := by decide +kernel
theorem dX8_arrange_66 : decode cX8_arrange 66 = .ok (.iadd, 1) := by decide +kernel
theorem dX8_arrange_67 : decode cX8_arrange 67 = .ok (.iload_n 2, 1) := by decide +kernel
theorem dX8_arrange_68 : decode cX8_arrange 68 = .ok (.iconst 1, 1) := by decide +kernel
theorem dX8_arrange_69 : decode cX8_arrange 69 = .ok (.iload 5, 2) := by decide +kernel
theorem dX8_arrange_71 : decode cX8_arrange 71 = .ok (.ishl, 1) := by decide +kernel
theorem dX8_arrange_72 : decode cX8_arrange 72 = .ok (.ior, 1) := by decide +kernel
theorem dX8_arrange_73 : decode cX8_arrange 73 = .ok (.iload_n 3, 1) := by decide +kernel
theorem dX8_arrange_74 : decode cX8_arrange 74 = .ok (.iconst 0, 1) := by decide +kernel
theorem dX8_arrange_75 : decode cX8_arrange 75 = .ok (.aload_n 0, 1) := by decide +kernel
theorem dX8_arrange_76 : decode cX8_arrange 76 = .ok (.iload_n 1, 1) := by decide +kernel
theorem dX8_arrange_77 : decode cX8_arrange 77 = .ok (.iload 5, 2) := by decide +kernel
theorem dX8_arrange_79 : decode cX8_arrange 79 = .ok (.invokevirtual 124, 3) := by decide +kernel
theorem dX8_arrange_82 : decode cX8_arrange 82 = .ok (.aload_n 0, 1) := by decide +kernel
theorem dX8_arrange_83 : decode cX8_arrange 83 = .ok (.iload 5, 2) := by decide +kernel
theorem dX8_arrange_85 : decode cX8_arrange 85 = .ok (.iconst 2, 1) := by decide +kernel
theorem dX8_arrange_86 : decode cX8_arrange 86 = .ok (.invokevirtual 111, 3) := by decide +kernel
theorem dX8_arrange_89 : decode cX8_arrange 89 = .ok (.isub, 1) := by decide +kernel
theorem dX8_arrange_90 : decode cX8_arrange 90 = .ok (.invokestatic 86, 3) := by decide +kernel
theorem dX8_arrange_93 : decode cX8_arrange 93 = .ok (.iadd, 1) := by decide +kernel
theorem dX8_arrange_94 : decode cX8_arrange 94 = .ok (.bipush 10, 2) := by decide +kernel
theorem dX8_arrange_96 : decode cX8_arrange 96 = .ok (.iload 4, 2) := by decide +kernel
theorem dX8_arrange_98 : decode cX8_arrange 98 = .ok (.imul, 1) := by decide +kernel
theorem dX8_arrange_99 : decode cX8_arrange 99 = .ok (.iload 5, 2) := by decide +kernel
theorem dX8_arrange_101 : decode cX8_arrange 101 = .ok (.iadd, 1) := by decide +kernel
theorem dX8_arrange_102 : decode cX8_arrange 102 = .ok (.iconst 1, 1) := by decide +kernel
theorem dX8_arrange_103 : decode cX8_arrange 103 = .ok (.iadd, 1) := by decide +kernel
theorem dX8_arrange_104 : decode cX8_arrange 104 = .ok (.invokevirtual 238, 3) := by decide +kernel
theorem dX8_arrange_107 : decode cX8_arrange 107 = .ok (.iinc 5 1, 3) := by decide +kernel
theorem dX8_arrange_110 : decode cX8_arrange 110 = .ok (.goto (-71), 3) := by decide +kernel
theorem dX8_arrange_113 : decode cX8_arrange 113 = .ok (.return_, 1) := by decide +kernel
theorem dX8_others_0 : decode cX8_others 0 = .ok (.iload_n 1, 1) := by decide +kernel
theorem dX8_others_1 : decode cX8_others 1 = .ok (.iconst 0, 1) := by decide +kernel
theorem dX8_others_2 : decode cX8_others 2 = .ok (.iconst 1, 1) := by decide +kernel
theorem dX8_others_3 : decode cX8_others 3 = .ok (.invokestatic 89, 3) := by decide +kernel
theorem dX8_others_6 : decode cX8_others 6 = .ok (.ifCond .ne 6, 3) := by decide +kernel
theorem dX8_others_9 : decode cX8_others 9 = .ok (.bipush (-2), 2) := by decide +kernel
theorem dX8_others_11 : decode cX8_others 11 = .ok (.ireturn, 1) := by decide +kernel
theorem dX8_others_12 : decode cX8_others 12 = .ok (.aload_n 0, 1) := by decide +kernel
theorem dX8_others_13 : decode cX8_others 13 = .ok (.iconst (-1), 1) := by decide +kernel
theorem dX8_others_14 : decode cX8_others 14 = .ok (.putfield 232, 3) := by decide +kernel
theorem dX8_others_17 : decode cX8_others 17 = .ok (.aload_n 0, 1) := by decide +kernel
theorem dX8_others_18 : decode cX8_others 18 = .ok (.iconst (-1), 1) := by decide +kernel
theorem dX8_others_19 : decode cX8_others 19 = .ok (.putfield 235, 3) := by decide +kernel
theorem dX8_others_22 : decode cX8_others 22 = .ok (.aload_n 0, 1) := by decide +kernel
theorem dX8_others_23 : decode cX8_others 23 = .ok (.invokevirtual 104, 3) := by decide +kernel
theorem dX8_others_26 : decode cX8_others 26 = .ok (.iconst 1, 1) := by decide +kernel
theorem dX8_others_27 : decode cX8_others 27 = .ok (.if_icmp .le 11, 3) := by decide +kernel
theorem dX8_others_30 : decode cX8_others 30 = .ok (.aload_n 0, 1) := by decide +kernel
theorem dX8_others_31 : decode cX8_others 31 = .ok (.iconst 0, 1) := by decide +kernel
theorem dX8_others_32 : decode cX8_others 32 = .ok (.iconst 0, 1) := by decide +kernel
theorem dX8_others_33 : decode cX8_others 33 = .ok (.iconst 0, 1) := by decide +kernel
theorem dX8_others_34 : decode cX8_others 34 = .ok (.iconst 0, 1) := by decide +kernel
theorem dX8_others_35 : decode cX8_others 35 = .ok (.invokevirtual 238, 3) := by decide +kernel
theorem dX8_others_38 : decode cX8_others 38 = .ok (.iload_n 1, 1) := by decide +kernel
theorem dX8_others_39 : decode cX8_others 39 = .ok (.ifCond .ne 10, 3) := by decide +kernel
theorem dX8_others_42 : decode cX8_others 42 = .ok (.aload_n 0, 1) := by decide +kernel
theorem dX8_others_43 : decode cX8_others 43 = .ok (.getfield 235, 3) := by decide +kernel
theorem dX8_others_46 : decode cX8_others 46 = .ok (.goto 7, 3) := by decide +kernel
theorem dX8_others_49 : decode cX8_others 49 = .ok (.aload_n 0, 1) := by decide +kernel
theorem dX8_others_50 : decode cX8_others 50 = .ok (.getfield 232, 3) := by decide +kernel
theorem dX8_others_53 : decode cX8_others 53 = .ok (.ireturn, 1) := by decide +kernel
theorem dX8_lateBehind_0 : decode cX8_lateBehind 0 = .ok (.aload_n 0, 1) := by decide +kernel
theorem dX8_lateBehind_1 : decode cX8_lateBehind 1 = .ok (.aload_n 0, 1) := by decide +kernel
theorem dX8_lateBehind_2 : decode cX8_lateBehind 2 = .ok (.getfield 16, 3) := by decide +kernel
theorem dX8_lateBehind_5 : decode cX8_lateBehind 5 = .ok (.invokevirtual 216, 3) := by decide +kernel
theorem dX8_lateBehind_8 : decode cX8_lateBehind 8 = .ok (.aload_n 0, 1) := by decide +kernel
theorem dX8_lateBehind_9 : decode cX8_lateBehind 9 = .ok (.iload_n 1, 1) := by decide +kernel
theorem dX8_lateBehind_10 : decode cX8_lateBehind 10 = .ok (.invokevirtual 220, 3) := by decide +kernel
theorem dX8_lateBehind_13 : decode cX8_lateBehind 13 = .ok (.aload_n 0, 1) := by decide +kernel
theorem dX8_lateBehind_14 : decode cX8_lateBehind 14 = .ok (.iconst 5, 1) := by decide +kernel
theorem dX8_lateBehind_15 : decode cX8_lateBehind 15 = .ok (.invokevirtual 226, 3) := by decide +kernel
theorem dX8_lateBehind_18 : decode cX8_lateBehind 18 = .ok (.istore_n 2, 1) := by decide +kernel
theorem dX8_lateBehind_19 : decode cX8_lateBehind 19 = .ok (.aload_n 0, 1) := by decide +kernel
theorem dX8_lateBehind_20 : decode cX8_lateBehind 20 = .ok (.aload_n 0, 1) := by decide +kernel
theorem dX8_lateBehind_21 : decode cX8_lateBehind 21 = .ok (.getfield 16, 3) := by decide +kernel
theorem dX8_lateBehind_24 : decode cX8_lateBehind 24 = .ok (.invokevirtual 229, 3) := by decide +kernel
theorem dX8_lateBehind_27 : decode cX8_lateBehind 27 = .ok (.iload_n 2, 1) := by decide +kernel
theorem dX8_lateBehind_28 : decode cX8_lateBehind 28 = .ok (.ireturn, 1) := by decide +kernel
theorem dX8_duty_0 : decode cX8_duty 0 = .ok (.aload_n 0, 1) := by decide +kernel
theorem dX8_duty_1 : decode cX8_duty 1 = .ok (.iload_n 1, 1) := by decide +kernel
theorem dX8_duty_2 : decode cX8_duty 2 = .ok (.invokevirtual 93, 3) := by decide +kernel
theorem dX8_duty_5 : decode cX8_duty 5 = .ok (.ifCond .eq 22, 3) := by decide +kernel
theorem dX8_duty_8 : decode cX8_duty 8 = .ok (.iload_n 2, 1) := by decide +kernel
theorem dX8_duty_9 : decode cX8_duty 9 = .ok (.iconst 0, 1) := by decide +kernel
theorem dX8_duty_10 : decode cX8_duty 10 = .ok (.bipush 20, 2) := by decide +kernel
theorem dX8_duty_12 : decode cX8_duty 12 = .ok (.invokestatic 89, 3) := by decide +kernel
theorem dX8_duty_15 : decode cX8_duty 15 = .ok (.ifCond .eq 12, 3) := by decide +kernel
theorem dX8_duty_18 : decode cX8_duty 18 = .ok (.iload_n 3, 1) := by decide +kernel
theorem dX8_duty_19 : decode cX8_duty 19 = .ok (.iconst 0, 1) := by decide +kernel
theorem dX8_duty_20 : decode cX8_duty 20 = .ok (.iconst 1, 1) := by decide +kernel
theorem dX8_duty_21 : decode cX8_duty 21 = .ok (.invokestatic 89, 3) := by decide +kernel
theorem dX8_duty_24 : decode cX8_duty 24 = .ok (.ifCond .ne 6, 3) := by decide +kernel
theorem dX8_duty_27 : decode cX8_duty 27 = .ok (.bipush (-2), 2) := by decide +kernel
theorem dX8_duty_29 : decode cX8_duty 29 = .ok (.ireturn, 1) := by decide +kernel
theorem dX8_duty_30 : decode cX8_duty 30 = .ok (.aload_n 0, 1) := by decide +kernel
theorem dX8_duty_31 : decode cX8_duty 31 = .ok (.iload_n 1, 1) := by decide +kernel
theorem dX8_duty_32 : decode cX8_duty 32 = .ok (.iconst 2, 1) := by decide +kernel
theorem dX8_duty_33 : decode cX8_duty 33 = .ok (.invokevirtual 111, 3) := by decide +kernel
theorem dX8_duty_36 : decode cX8_duty 36 = .ok (.istore 4, 2) := by decide +kernel
theorem dX8_duty_38 : decode cX8_duty 38 = .ok (.iconst 0, 1) := by decide +kernel
theorem dX8_duty_39 : decode cX8_duty 39 = .ok (.istore 5, 2) := by decide +kernel
theorem dX8_duty_41 : decode cX8_duty 41 = .ok (.ldc 244, 2) := by decide +kernel
theorem dX8_duty_43 : decode cX8_duty 43 = .ok (.istore 6, 2) := by decide +kernel
theorem dX8_duty_45 : decode cX8_duty 45 = .ok (.iconst 0, 1) := by decide +kernel
theorem dX8_duty_46 : decode cX8_duty 46 = .ok (.istore 7, 2) := by decide +kernel
theorem dX8_duty_48 : decode cX8_duty 48 = .ok (.iload 7, 2) := by decide +kernel
theorem dX8_duty_50 : decode cX8_duty 50 = .ok (.bipush 24, 2) := by decide +kernel
theorem dX8_duty_52 : decode cX8_duty 52 = .ok (.if_icmp .ge 49, 3) := by decide +kernel
theorem dX8_duty_55 : decode cX8_duty 55 = .ok (.aload_n 0, 1) := by decide +kernel
theorem dX8_duty_56 : decode cX8_duty 56 = .ok (.iload_n 1, 1) := by decide +kernel
theorem dX8_duty_57 : decode cX8_duty 57 = .ok (.iconst 2, 1) := by decide +kernel
theorem dX8_duty_58 : decode cX8_duty 58 = .ok (.iload 7, 2) := by decide +kernel
theorem dX8_duty_60 : decode cX8_duty 60 = .ok (.invokevirtual 107, 3) := by decide +kernel
theorem dX8_duty_63 : decode cX8_duty 63 = .ok (.aload_n 0, 1) := by decide +kernel
theorem dX8_duty_64 : decode cX8_duty 64 = .ok (.iload_n 2, 1) := by decide +kernel
theorem dX8_duty_65 : decode cX8_duty 65 = .ok (.invokevirtual 245, 3) := by decide +kernel
theorem dX8_duty_68 : decode cX8_duty 68 = .ok (.istore 8, 2) := by decide +kernel
theorem dX8_duty_70 : decode cX8_duty 70 = .ok (.iload 8, 2) := by decide +kernel
theorem dX8_duty_72 : decode cX8_duty 72 = .ok (.iload 6, 2) := by decide +kernel
theorem dX8_duty_74 : decode cX8_duty 74 = .ok (.if_icmp .ge 8, 3) := by decide +kernel
theorem dX8_duty_77 : decode cX8_duty 77 = .ok (.iload 7, 2) := by decide +kernel
theorem dX8_duty_79 : decode cX8_duty 79 = .ok (.goto 5, 3) := by decide +kernel
theorem dX8_duty_82 : decode cX8_duty 82 = .ok (.iload 5, 2) := by decide +kernel
theorem dX8_duty_84 : decode cX8_duty 84 = .ok (.istore 5, 2) := by decide +kernel
theorem dX8_duty_86 : decode cX8_duty 86 = .ok (.iload 8, 2) := by decide +kernel
theorem dX8_duty_88 : decode cX8_duty 88 = .ok (.iload 6, 2) := by decide +kernel
theorem dX8_duty_90 : decode cX8_duty 90 = .ok (.invokestatic 80, 3) := by decide +kernel
theorem dX8_duty_93 : decode cX8_duty 93 = .ok (.istore 6, 2) := by decide +kernel
theorem dX8_duty_95 : decode cX8_duty 95 = .ok (.iinc 7 1, 3) := by decide +kernel
theorem dX8_duty_98 : decode cX8_duty 98 = .ok (.goto (-50), 3) := by decide +kernel
theorem dX8_duty_101 : decode cX8_duty 101 = .ok (.aload_n 0, 1) := by decide +kernel
theorem dX8_duty_102 : decode cX8_duty 102 = .ok (.iload_n 1, 1) := by decide +kernel
theorem dX8_duty_103 : decode cX8_duty 103 = .ok (.iconst 2, 1) := by decide +kernel
theorem dX8_duty_104 : decode cX8_duty 104 = .ok (.iload 4, 2) := by decide +kernel
theorem dX8_duty_106 : decode cX8_duty 106 = .ok (.invokevirtual 107, 3) := by decide +kernel
theorem dX8_duty_109 : decode cX8_duty 109 = .ok (.iload_n 3, 1) := by decide +kernel
theorem dX8_duty_110 : decode cX8_duty 110 = .ok (.ifCond .ne 8, 3) := by decide +kernel
theorem dX8_duty_113 : decode cX8_duty 113 = .ok (.iload 5, 2) := by decide +kernel
theorem dX8_duty_115 : decode cX8_duty 115 = .ok (.goto 5, 3) := by decide +kernel
theorem dX8_duty_118 : decode cX8_duty 118 = .ok (.iload 6, 2) := by decide +kernel
theorem dX8_duty_120 : decode cX8_duty 120 = .ok (.ireturn, 1) := by decide +kernel
theorem dX8_fonder_0 : decode cX8_fonder 0 = .ok (.aload_n 0, 1) := by decide +kernel
theorem dX8_fonder_1 : decode cX8_fonder 1 = .ok (.iload_n 1, 1) := by decide +kernel
theorem dX8_fonder_2 : decode cX8_fonder 2 = .ok (.invokevirtual 93, 3) := by decide +kernel
theorem dX8_fonder_5 : decode cX8_fonder 5 = .ok (.ifCond .eq 22, 3) := by decide +kernel
theorem dX8_fonder_8 : decode cX8_fonder 8 = .ok (.iload_n 2, 1) := by decide +kernel
theorem dX8_fonder_9 : decode cX8_fonder 9 = .ok (.iconst 0, 1) := by decide +kernel
theorem dX8_fonder_10 : decode cX8_fonder 10 = .ok (.bipush 20, 2) := by decide +kernel
theorem dX8_fonder_12 : decode cX8_fonder 12 = .ok (.invokestatic 89, 3) := by decide +kernel
theorem dX8_fonder_15 : decode cX8_fonder 15 = .ok (.ifCond .eq 12, 3) := by decide +kernel
theorem dX8_fonder_18 : decode cX8_fonder 18 = .ok (.iload_n 3, 1) := by decide +kernel
theorem dX8_fonder_19 : decode cX8_fonder 19 = .ok (.iconst 0, 1) := by decide +kernel
theorem dX8_fonder_20 : decode cX8_fonder 20 = .ok (.iconst 1, 1) := by decide +kernel
theorem dX8_fonder_21 : decode cX8_fonder 21 = .ok (.invokestatic 89, 3) := by decide +kernel
theorem dX8_fonder_24 : decode cX8_fonder 24 = .ok (.ifCond .ne 6, 3) := by decide +kernel
theorem dX8_fonder_27 : decode cX8_fonder 27 = .ok (.bipush (-2), 2) := by decide +kernel
theorem dX8_fonder_29 : decode cX8_fonder 29 = .ok (.ireturn, 1) := by decide +kernel
theorem dX8_fonder_30 : decode cX8_fonder 30 = .ok (.iconst (-1), 1) := by decide +kernel
theorem dX8_fonder_31 : decode cX8_fonder 31 = .ok (.istore 4, 2) := by decide +kernel
theorem dX8_fonder_33 : decode cX8_fonder 33 = .ok (.aload_n 0, 1) := by decide +kernel
theorem dX8_fonder_34 : decode cX8_fonder 34 = .ok (.iload_n 2, 1) := by decide +kernel
theorem dX8_fonder_35 : decode cX8_fonder 35 = .ok (.invokevirtual 245, 3) := by decide +kernel
theorem dX8_fonder_38 : decode cX8_fonder 38 = .ok (.istore 5, 2) := by decide +kernel
theorem dX8_fonder_40 : decode cX8_fonder 40 = .ok (.iconst 0, 1) := by decide +kernel
theorem dX8_fonder_41 : decode cX8_fonder 41 = .ok (.istore 6, 2) := by decide +kernel
theorem dX8_fonder_43 : decode cX8_fonder 43 = .ok (.iload 6, 2) := by decide +kernel
theorem dX8_fonder_45 : decode cX8_fonder 45 = .ok (.aload_n 0, 1) := by decide +kernel
theorem dX8_fonder_46 : decode cX8_fonder 46 = .ok (.invokevirtual 104, 3) := by decide +kernel
theorem dX8_fonder_49 : decode cX8_fonder 49 = .ok (.if_icmp .ge 83, 3) := by decide +kernel
theorem dX8_fonder_52 : decode cX8_fonder 52 = .ok (.iload 6, 2) := by decide +kernel
theorem dX8_fonder_54 : decode cX8_fonder 54 = .ok (.iload_n 1, 1) := by decide +kernel
theorem dX8_fonder_55 : decode cX8_fonder 55 = .ok (.if_icmp .eq 71, 3) := by decide +kernel
theorem dX8_fonder_58 : decode cX8_fonder 58 = .ok (.aload_n 0, 1) := by decide +kernel
theorem dX8_fonder_59 : decode cX8_fonder 59 = .ok (.iload_n 1, 1) := by decide +kernel
theorem dX8_fonder_60 : decode cX8_fonder 60 = .ok (.bipush 6, 2) := by decide +kernel
theorem dX8_fonder_62 : decode cX8_fonder 62 = .ok (.iload 6, 2) := by decide +kernel
theorem dX8_fonder_64 : decode cX8_fonder 64 = .ok (.iadd, 1) := by decide +kernel
theorem dX8_fonder_65 : decode cX8_fonder 65 = .ok (.invokevirtual 111, 3) := by decide +kernel
theorem dX8_fonder_68 : decode cX8_fonder 68 = .ok (.istore 7, 2) := by decide +kernel
theorem dX8_fonder_70 : decode cX8_fonder 70 = .ok (.aload_n 0, 1) := by decide +kernel
theorem dX8_fonder_71 : decode cX8_fonder 71 = .ok (.iload_n 1, 1) := by decide +kernel
theorem dX8_fonder_72 : decode cX8_fonder 72 = .ok (.bipush 6, 2) := by decide +kernel
theorem dX8_fonder_74 : decode cX8_fonder 74 = .ok (.iload 6, 2) := by decide +kernel
theorem dX8_fonder_76 : decode cX8_fonder 76 = .ok (.iadd, 1) := by decide +kernel
theorem dX8_fonder_77 : decode cX8_fonder 77 = .ok (.bipush 9, 2) := by decide +kernel
theorem dX8_fonder_79 : decode cX8_fonder 79 = .ok (.invokevirtual 107, 3) := by decide +kernel
theorem dX8_fonder_82 : decode cX8_fonder 82 = .ok (.aload_n 0, 1) := by decide +kernel
theorem dX8_fonder_83 : decode cX8_fonder 83 = .ok (.iload_n 2, 1) := by decide +kernel
theorem dX8_fonder_84 : decode cX8_fonder 84 = .ok (.invokevirtual 245, 3) := by decide +kernel
theorem dX8_fonder_87 : decode cX8_fonder 87 = .ok (.istore 8, 2) := by decide +kernel
theorem dX8_fonder_89 : decode cX8_fonder 89 = .ok (.aload_n 0, 1) := by decide +kernel
theorem dX8_fonder_90 : decode cX8_fonder 90 = .ok (.iload_n 1, 1) := by decide +kernel
theorem dX8_fonder_91 : decode cX8_fonder 91 = .ok (.bipush 6, 2) := by decide +kernel
theorem dX8_fonder_93 : decode cX8_fonder 93 = .ok (.iload 6, 2) := by decide +kernel
theorem dX8_fonder_95 : decode cX8_fonder 95 = .ok (.iadd, 1) := by decide +kernel
theorem dX8_fonder_96 : decode cX8_fonder 96 = .ok (.iload 7, 2) := by decide +kernel
theorem dX8_fonder_98 : decode cX8_fonder 98 = .ok (.invokevirtual 107, 3) := by decide +kernel
theorem dX8_fonder_101 : decode cX8_fonder 101 = .ok (.iload 8, 2) := by decide +kernel
theorem dX8_fonder_103 : decode cX8_fonder 103 = .ok (.iload 5, 2) := by decide +kernel
theorem dX8_fonder_105 : decode cX8_fonder 105 = .ok (.if_icmp .ge 8, 3) := by decide +kernel
theorem dX8_fonder_108 : decode cX8_fonder 108 = .ok (.iload 6, 2) := by decide +kernel
theorem dX8_fonder_110 : decode cX8_fonder 110 = .ok (.goto 5, 3) := by decide +kernel
theorem dX8_fonder_113 : decode cX8_fonder 113 = .ok (.iload 4, 2) := by decide +kernel
theorem dX8_fonder_115 : decode cX8_fonder 115 = .ok (.istore 4, 2) := by decide +kernel
theorem dX8_fonder_117 : decode cX8_fonder 117 = .ok (.iload 8, 2) := by decide +kernel
theorem dX8_fonder_119 : decode cX8_fonder 119 = .ok (.iload 5, 2) := by decide +kernel
theorem dX8_fonder_121 : decode cX8_fonder 121 = .ok (.invokestatic 80, 3) := by decide +kernel
theorem dX8_fonder_124 : decode cX8_fonder 124 = .ok (.istore 5, 2) := by decide +kernel
theorem dX8_fonder_126 : decode cX8_fonder 126 = .ok (.iinc 6 1, 3) := by decide +kernel
theorem dX8_fonder_129 : decode cX8_fonder 129 = .ok (.goto (-86), 3) := by decide +kernel
theorem dX8_fonder_132 : decode cX8_fonder 132 = .ok (.iload_n 3, 1) := by decide +kernel
theorem dX8_fonder_133 : decode cX8_fonder 133 = .ok (.ifCond .ne 8, 3) := by decide +kernel
theorem dX8_fonder_136 : decode cX8_fonder 136 = .ok (.iload 4, 2) := by decide +kernel
theorem dX8_fonder_138 : decode cX8_fonder 138 = .ok (.goto 5, 3) := by decide +kernel
theorem dX8_fonder_141 : decode cX8_fonder 141 = .ok (.iload 5, 2) := by decide +kernel
theorem dX8_fonder_143 : decode cX8_fonder 143 = .ok (.ireturn, 1) := by decide +kernel
theorem dX8_gcd_0 : decode cX8_gcd 0 = .ok (.lload_n 2, 1) := by decide +kernel
theorem dX8_gcd_1 : decode cX8_gcd 1 = .ok (.lconst 0, 1) := by decide +kernel
theorem dX8_gcd_2 : decode cX8_gcd 2 = .ok (.lcmp, 1) := by decide +kernel
theorem dX8_gcd_3 : decode cX8_gcd 3 = .ok (.ifCond .ne 7, 3) := by decide +kernel
theorem dX8_gcd_6 : decode cX8_gcd 6 = .ok (.lload_n 0, 1) := by decide +kernel
theorem dX8_gcd_7 : decode cX8_gcd 7 = .ok (.goto 10, 3) := by decide +kernel
theorem dX8_gcd_10 : decode cX8_gcd 10 = .ok (.lload_n 2, 1) := by decide +kernel
theorem dX8_gcd_11 : decode cX8_gcd 11 = .ok (.lload_n 0, 1) := by decide +kernel
theorem dX8_gcd_12 : decode cX8_gcd 12 = .ok (.lload_n 2, 1) := by decide +kernel
theorem dX8_gcd_13 : decode cX8_gcd 13 = .ok (.lrem, 1) := by decide +kernel
theorem dX8_gcd_14 : decode cX8_gcd 14 = .ok (.invokestatic 248, 3) := by decide +kernel
theorem dX8_gcd_17 : decode cX8_gcd 17 = .ok (.lreturn, 1) := by decide +kernel
theorem dX8_mean_0 : decode cX8_mean 0 = .ok (.iload_n 1, 1) := by decide +kernel
theorem dX8_mean_1 : decode cX8_mean 1 = .ok (.iconst 0, 1) := by decide +kernel
theorem dX8_mean_2 : decode cX8_mean 2 = .ok (.iconst 1, 1) := by decide +kernel
theorem dX8_mean_3 : decode cX8_mean 3 = .ok (.invokestatic 89, 3) := by decide +kernel
theorem dX8_mean_6 : decode cX8_mean 6 = .ok (.ifCond .eq 10, 3) := by decide +kernel
theorem dX8_mean_9 : decode cX8_mean 9 = .ok (.aload_n 0, 1) := by decide +kernel
theorem dX8_mean_10 : decode cX8_mean 10 = .ok (.invokevirtual 104, 3) := by decide +kernel
theorem dX8_mean_13 : decode cX8_mean 13 = .ok (.ifCond .ne 7, 3) := by decide +kernel
theorem dX8_mean_16 : decode cX8_mean 16 = .ok (.ldc2_w 252, 3) := by decide +kernel
theorem dX8_mean_19 : decode cX8_mean 19 = .ok (.lreturn, 1) := by decide +kernel
theorem dX8_mean_20 : decode cX8_mean 20 = .ok (.aload_n 0, 1) := by decide +kernel
theorem dX8_mean_21 : decode cX8_mean 21 = .ok (.invokevirtual 104, 3) := by decide +kernel
theorem dX8_mean_24 : decode cX8_mean 24 = .ok (.i2l, 1) := by decide +kernel
theorem dX8_mean_25 : decode cX8_mean 25 = .ok (.aload_n 0, 1) := by decide +kernel
theorem dX8_mean_26 : decode cX8_mean 26 = .ok (.iconst 5, 1) := by decide +kernel
theorem dX8_mean_27 : decode cX8_mean 27 = .ok (.invokevirtual 226, 3) := by decide +kernel
theorem dX8_mean_30 : decode cX8_mean 30 = .ok (.i2l, 1) := by decide +kernel
theorem dX8_mean_31 : decode cX8_mean 31 = .ok (.invokestatic 248, 3) := by decide +kernel
theorem dX8_mean_34 : decode cX8_mean 34 = .ok (.lstore_n 2, 1) := by decide +kernel
theorem dX8_mean_35 : decode cX8_mean 35 = .ok (.iload_n 1, 1) := by decide +kernel
theorem dX8_mean_36 : decode cX8_mean 36 = .ok (.ifCond .ne 14, 3) := by decide +kernel
theorem dX8_mean_39 : decode cX8_mean 39 = .ok (.aload_n 0, 1) := by decide +kernel
theorem dX8_mean_40 : decode cX8_mean 40 = .ok (.iconst 5, 1) := by decide +kernel
theorem dX8_mean_41 : decode cX8_mean 41 = .ok (.invokevirtual 226, 3) := by decide +kernel
theorem dX8_mean_44 : decode cX8_mean 44 = .ok (.i2l, 1) := by decide +kernel
theorem dX8_mean_45 : decode cX8_mean 45 = .ok (.lload_n 2, 1) := by decide +kernel
theorem dX8_mean_46 : decode cX8_mean 46 = .ok (.ldiv, 1) := by decide +kernel
theorem dX8_mean_47 : decode cX8_mean 47 = .ok (.goto 10, 3) := by decide +kernel
theorem dX8_mean_50 : decode cX8_mean 50 = .ok (.aload_n 0, 1) := by decide +kernel
theorem dX8_mean_51 : decode cX8_mean 51 = .ok (.invokevirtual 104, 3) := by decide +kernel
theorem dX8_mean_54 : decode cX8_mean 54 = .ok (.i2l, 1) := by decide +kernel
theorem dX8_mean_55 : decode cX8_mean 55 = .ok (.lload_n 2, 1) := by decide +kernel
theorem dX8_mean_56 : decode cX8_mean 56 = .ok (.ldiv, 1) := by decide +kernel
theorem dX8_mean_57 : decode cX8_mean 57 = .ok (.lreturn, 1) := by decide +kernel
theorem dX8_isSheet_0 : decode cX8_isSheet 0 = .ok (.iload_n 0, 1) := by decide +kernel
theorem dX8_isSheet_1 : decode cX8_isSheet 1 = .ok (.iconst 0, 1) := by decide +kernel
theorem dX8_isSheet_2 : decode cX8_isSheet 2 = .ok (.iconst 3, 1) := by decide +kernel
theorem dX8_isSheet_3 : decode cX8_isSheet 3 = .ok (.invokestatic 89, 3) := by decide +kernel
theorem dX8_isSheet_6 : decode cX8_isSheet 6 = .ok (.ireturn, 1) := by decide +kernel
theorem dX8_sheet_0 : decode cX8_sheet 0 = .ok (.iload_n 1, 1) := by decide +kernel
theorem dX8_sheet_1 : decode cX8_sheet 1 = .ok (.invokestatic 254, 3) := by decide +kernel
theorem dX8_sheet_4 : decode cX8_sheet 4 = .ok (.ifCond .eq 23, 3) := by decide +kernel
theorem dX8_sheet_7 : decode cX8_sheet 7 = .ok (.iload_n 2, 1) := by decide +kernel
theorem dX8_sheet_8 : decode cX8_sheet 8 = .ok (.iconst (-1), 1) := by decide +kernel
theorem dX8_sheet_9 : decode cX8_sheet 9 = .ok (.iconst 2, 1) := by decide +kernel
theorem dX8_sheet_10 : decode cX8_sheet 10 = .ok (.invokestatic 89, 3) := by decide +kernel
theorem dX8_sheet_13 : decode cX8_sheet 13 = .ok (.ifCond .eq 14, 3) := by decide +kernel
theorem dX8_sheet_16 : decode cX8_sheet 16 = .ok (.iload_n 2, 1) := by decide +kernel
theorem dX8_sheet_17 : decode cX8_sheet 17 = .ok (.iconst (-1), 1) := by decide +kernel
theorem dX8_sheet_18 : decode cX8_sheet 18 = .ok (.if_icmp .eq 12, 3) := by decide +kernel
theorem dX8_sheet_21 : decode cX8_sheet 21 = .ok (.iload_n 3, 1) := by decide +kernel
theorem dX8_sheet_22 : decode cX8_sheet 22 = .ok (.bipush 40, 2) := by decide +kernel
theorem dX8_sheet_24 : decode cX8_sheet 24 = .ok (.if_icmp .le 6, 3) := by decide +kernel
theorem dX8_sheet_27 : decode cX8_sheet 27 = .ok (.bipush (-2), 2) := by decide +kernel
theorem dX8_sheet_29 : decode cX8_sheet 29 = .ok (.ireturn, 1) := by decide +kernel
theorem dX8_sheet_30 : decode cX8_sheet 30 = .ok (.iload_n 2, 1) := by decide +kernel
theorem dX8_sheet_31 : decode cX8_sheet 31 = .ok (.iconst (-1), 1) := by decide +kernel
theorem dX8_sheet_32 : decode cX8_sheet 32 = .ok (.if_icmp .eq 10, 3) := by decide +kernel
theorem dX8_sheet_35 : decode cX8_sheet 35 = .ok (.iload_n 3, 1) := by decide +kernel
theorem dX8_sheet_36 : decode cX8_sheet 36 = .ok (.ifCond .ge 6, 3) := by decide +kernel
theorem dX8_sheet_39 : decode cX8_sheet 39 = .ok (.bipush (-14), 2) := by decide +kernel
theorem dX8_sheet_41 : decode cX8_sheet 41 = .ok (.ireturn, 1) := by decide +kernel
theorem dX8_sheet_42 : decode cX8_sheet 42 = .ok (.aload_n 0, 1) := by decide +kernel
theorem dX8_sheet_43 : decode cX8_sheet 43 = .ok (.getfield 61, 3) := by decide +kernel
theorem dX8_sheet_46 : decode cX8_sheet 46 = .ok (.iload_n 1, 1) := by decide +kernel
theorem dX8_sheet_47 : decode cX8_sheet 47 = .ok (.iload_n 2, 1) := by decide +kernel
theorem dX8_sheet_48 : decode cX8_sheet 48 = .ok (.iastore, 1) := by decide +kernel
theorem dX8_sheet_49 : decode cX8_sheet 49 = .ok (.aload_n 0, 1) := by decide +kernel
theorem dX8_sheet_50 : decode cX8_sheet 50 = .ok (.getfield 64, 3) := by decide +kernel
theorem dX8_sheet_53 : decode cX8_sheet 53 = .ok (.iload_n 1, 1) := by decide +kernel
theorem dX8_sheet_54 : decode cX8_sheet 54 = .ok (.iload_n 2, 1) := by decide +kernel
theorem dX8_sheet_55 : decode cX8_sheet 55 = .ok (.iconst (-1), 1) := by decide +kernel
theorem dX8_sheet_56 : decode cX8_sheet 56 = .ok (.if_icmp .ne 7, 3) := by decide +kernel
theorem dX8_sheet_59 : decode cX8_sheet 59 = .ok (.iconst 0, 1) := by decide +kernel
theorem dX8_sheet_60 : decode cX8_sheet 60 = .ok (.goto 4, 3) := by decide +kernel
theorem dX8_sheet_63 : decode cX8_sheet 63 = .ok (.iload_n 3, 1) := by decide +kernel
theorem dX8_sheet_64 : decode cX8_sheet 64 = .ok (.iastore, 1) := by decide +kernel
theorem dX8_sheet_65 : decode cX8_sheet 65 = .ok (.iconst 0, 1) := by decide +kernel
theorem dX8_sheet_66 : decode cX8_sheet 66 = .ok (.istore 4, 2) := by decide +kernel
theorem dX8_sheet_68 : decode cX8_sheet 68 = .ok (.iload 4, 2) := by decide +kernel
theorem dX8_sheet_70 : decode cX8_sheet 70 = .ok (.bipush 40, 2) := by decide +kernel
theorem dX8_sheet_72 : decode cX8_sheet 72 = .ok (.if_icmp .ge 22, 3) := by decide +kernel
theorem dX8_sheet_75 : decode cX8_sheet 75 = .ok (.aload_n 0, 1) := by decide +kernel
theorem dX8_sheet_76 : decode cX8_sheet 76 = .ok (.getfield 67, 3) := by decide +kernel
theorem dX8_sheet_79 : decode cX8_sheet 79 = .ok (.bipush 40, 2) := by decide +kernel
theorem dX8_sheet_81 : decode cX8_sheet 81 = .ok (.iload_n 1, 1) := by decide +kernel
theorem dX8_sheet_82 : decode cX8_sheet 82 = .ok (.imul, 1) := by decide +kernel
theorem dX8_sheet_83 : decode cX8_sheet 83 = .ok (.iload 4, 2) := by decide +kernel
theorem dX8_sheet_85 : decode cX8_sheet 85 = .ok (.iadd, 1) := by decide +kernel
theorem dX8_sheet_86 : decode cX8_sheet 86 = .ok (.iconst 0, 1) := by decide +kernel
theorem dX8_sheet_87 : decode cX8_sheet 87 = .ok (.iastore, 1) := by decide +kernel
theorem dX8_sheet_88 : decode cX8_sheet 88 = .ok (.iinc 4 1, 3) := by decide +kernel
theorem dX8_sheet_91 : decode cX8_sheet 91 = .ok (.goto (-23), 3) := by decide +kernel
theorem dX8_sheet_94 : decode cX8_sheet 94 = .ok (.iconst 1, 1) := by decide +kernel
theorem dX8_sheet_95 : decode cX8_sheet 95 = .ok (.ireturn, 1) := by decide +kernel
theorem dX8_cell_0 : decode cX8_cell 0 = .ok (.iload_n 1, 1) := by decide +kernel
theorem dX8_cell_1 : decode cX8_cell 1 = .ok (.invokestatic 254, 3) := by decide +kernel
theorem dX8_cell_4 : decode cX8_cell 4 = .ok (.ifCond .ne 6, 3) := by decide +kernel
theorem dX8_cell_7 : decode cX8_cell 7 = .ok (.bipush (-2), 2) := by decide +kernel
theorem dX8_cell_9 : decode cX8_cell 9 = .ok (.ireturn, 1) := by decide +kernel
theorem dX8_cell_10 : decode cX8_cell 10 = .ok (.aload_n 0, 1) := by decide +kernel
theorem dX8_cell_11 : decode cX8_cell 11 = .ok (.getfield 61, 3) := by decide +kernel
theorem dX8_cell_14 : decode cX8_cell 14 = .ok (.iload_n 1, 1) := by decide +kernel
theorem dX8_cell_15 : decode cX8_cell 15 = .ok (.iaload, 1) := by decide +kernel
theorem dX8_cell_16 : decode cX8_cell 16 = .ok (.iconst (-1), 1) := by decide +kernel
theorem dX8_cell_17 : decode cX8_cell 17 = .ok (.if_icmp .ne 6, 3) := by decide +kernel
theorem dX8_cell_20 : decode cX8_cell 20 = .ok (.bipush (-11), 2) := by decide +kernel
theorem dX8_cell_22 : decode cX8_cell 22 = .ok (.ireturn, 1) := by decide +kernel
theorem dX8_cell_23 : decode cX8_cell 23 = .ok (.iload_n 2, 1) := by decide +kernel
theorem dX8_cell_24 : decode cX8_cell 24 = .ok (.iconst 0, 1) := by decide +kernel
theorem dX8_cell_25 : decode cX8_cell 25 = .ok (.aload_n 0, 1) := by decide +kernel
theorem dX8_cell_26 : decode cX8_cell 26 = .ok (.getfield 64, 3) := by decide +kernel
theorem dX8_cell_29 : decode cX8_cell 29 = .ok (.iload_n 1, 1) := by decide +kernel
theorem dX8_cell_30 : decode cX8_cell 30 = .ok (.iaload, 1) := by decide +kernel
theorem dX8_cell_31 : decode cX8_cell 31 = .ok (.iconst 1, 1) := by decide +kernel
theorem dX8_cell_32 : decode cX8_cell 32 = .ok (.isub, 1) := by decide +kernel
theorem dX8_cell_33 : decode cX8_cell 33 = .ok (.invokestatic 89, 3) := by decide +kernel
theorem dX8_cell_36 : decode cX8_cell 36 = .ok (.ifCond .ne 6, 3) := by decide +kernel
theorem dX8_cell_39 : decode cX8_cell 39 = .ok (.bipush (-12), 2) := by decide +kernel
theorem dX8_cell_41 : decode cX8_cell 41 = .ok (.ireturn, 1) := by decide +kernel
theorem dX8_cell_42 : decode cX8_cell 42 = .ok (.aload_n 0, 1) := by decide +kernel
theorem dX8_cell_43 : decode cX8_cell 43 = .ok (.getfield 67, 3) := by decide +kernel
theorem dX8_cell_46 : decode cX8_cell 46 = .ok (.bipush 40, 2) := by decide +kernel
theorem dX8_cell_48 : decode cX8_cell 48 = .ok (.iload_n 1, 1) := by decide +kernel
theorem dX8_cell_49 : decode cX8_cell 49 = .ok (.imul, 1) := by decide +kernel
theorem dX8_cell_50 : decode cX8_cell 50 = .ok (.iload_n 2, 1) := by decide +kernel
theorem dX8_cell_51 : decode cX8_cell 51 = .ok (.iadd, 1) := by decide +kernel
theorem dX8_cell_52 : decode cX8_cell 52 = .ok (.aload_n 0, 1) := by decide +kernel
theorem dX8_cell_53 : decode cX8_cell 53 = .ok (.getfield 61, 3) := by decide +kernel
theorem dX8_cell_56 : decode cX8_cell 56 = .ok (.iload_n 1, 1) := by decide +kernel
theorem dX8_cell_57 : decode cX8_cell 57 = .ok (.iaload, 1) := by decide +kernel
theorem dX8_cell_58 : decode cX8_cell 58 = .ok (.ifCond .ne 8, 3) := by decide +kernel
theorem dX8_cell_61 : decode cX8_cell 61 = .ok (.iload_n 3, 1) := by decide +kernel
theorem dX8_cell_62 : decode cX8_cell 62 = .ok (.i2b, 1) := by decide +kernel
theorem dX8_cell_63 : decode cX8_cell 63 = .ok (.goto 19, 3) := by decide +kernel
theorem dX8_cell_66 : decode cX8_cell 66 = .ok (.aload_n 0, 1) := by decide +kernel
theorem dX8_cell_67 : decode cX8_cell 67 = .ok (.getfield 61, 3) := by decide +kernel
theorem dX8_cell_70 : decode cX8_cell 70 = .ok (.iload_n 1, 1) := by decide +kernel
theorem dX8_cell_71 : decode cX8_cell 71 = .ok (.iaload, 1) := by decide +kernel
theorem dX8_cell_72 : decode cX8_cell 72 = .ok (.iconst 1, 1) := by decide +kernel
theorem dX8_cell_73 : decode cX8_cell 73 = .ok (.if_icmp .ne 8, 3) := by decide +kernel
theorem dX8_cell_76 : decode cX8_cell 76 = .ok (.iload_n 3, 1) := by decide +kernel
theorem dX8_cell_77 : decode cX8_cell 77 = .ok (.i2s, 1) := by decide +kernel
theorem dX8_cell_78 : decode cX8_cell 78 = .ok (.goto 4, 3) := by decide +kernel
theorem dX8_cell_81 : decode cX8_cell 81 = .ok (.iload_n 3, 1) := by decide +kernel
theorem dX8_cell_82 : decode cX8_cell 82 = .ok (.iastore, 1) := by decide +kernel
theorem dX8_cell_83 : decode cX8_cell 83 = .ok (.iconst 1, 1) := by decide +kernel
theorem dX8_cell_84 : decode cX8_cell 84 = .ok (.ireturn, 1) := by decide +kernel
theorem dX8_copy_0 : decode cX8_copy 0 = .ok (.iload_n 1, 1) := by decide +kernel
theorem dX8_copy_1 : decode cX8_copy 1 = .ok (.invokestatic 254, 3) := by decide +kernel
theorem dX8_copy_4 : decode cX8_copy 4 = .ok (.ifCond .eq 10, 3) := by decide +kernel
theorem dX8_copy_7 : decode cX8_copy 7 = .ok (.iload_n 3, 1) := by decide +kernel
theorem dX8_copy_8 : decode cX8_copy 8 = .ok (.invokestatic 254, 3) := by decide +kernel
theorem dX8_copy_11 : decode cX8_copy 11 = .ok (.ifCond .ne 6, 3) := by decide +kernel
theorem dX8_copy_14 : decode cX8_copy 14 = .ok (.bipush (-2), 2) := by decide +kernel
theorem dX8_copy_16 : decode cX8_copy 16 = .ok (.ireturn, 1) := by decide +kernel
theorem dX8_copy_17 : decode cX8_copy 17 = .ok (.aload_n 0, 1) := by decide +kernel
theorem dX8_copy_18 : decode cX8_copy 18 = .ok (.getfield 61, 3) := by decide +kernel
theorem dX8_copy_21 : decode cX8_copy 21 = .ok (.iload_n 1, 1) := by decide +kernel
theorem dX8_copy_22 : decode cX8_copy 22 = .ok (.iaload, 1) := by decide +kernel

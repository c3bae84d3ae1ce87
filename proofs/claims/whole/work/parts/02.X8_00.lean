theorem dX8_init_0 : decode cX8_init 0 = .ok (.aload_n 0, 1) := by decide +kernel
theorem dX8_init_1 : decode cX8_init 1 = .ok (.invokespecial 1, 3) := by decide +kernel
theorem dX8_init_4 : decode cX8_init 4 = .ok (.aload_n 0, 1) := by decide +kernel
theorem dX8_init_5 : decode cX8_init 5 = .ok (.bipush 58, 2) := by decide +kernel
theorem dX8_init_7 : decode cX8_init 7 = .ok (.newarray .int, 2) := by decide +kernel
theorem dX8_init_9 : decode cX8_init 9 = .ok (.putfield 7, 3) := by decide +kernel
theorem dX8_init_12 : decode cX8_init 12 = .ok (.aload_n 0, 1) := by decide +kernel
theorem dX8_init_13 : decode cX8_init 13 = .ok (.bipush 58, 2) := by decide +kernel
theorem dX8_init_15 : decode cX8_init 15 = .ok (.newarray .int, 2) := by decide +kernel
theorem dX8_init_17 : decode cX8_init 17 = .ok (.putfield 13, 3) := by decide +kernel
theorem dX8_init_20 : decode cX8_init 20 = .ok (.aload_n 0, 1) := by decide +kernel
theorem dX8_init_21 : decode cX8_init 21 = .ok (.bipush 58, 2) := by decide +kernel
theorem dX8_init_23 : decode cX8_init 23 = .ok (.newarray .int, 2) := by decide +kernel
theorem dX8_init_25 : decode cX8_init 25 = .ok (.putfield 16, 3) := by decide +kernel
theorem dX8_init_28 : decode cX8_init 28 = .ok (.aload_n 0, 1) := by decide +kernel
theorem dX8_init_29 : decode cX8_init 29 = .ok (.bipush 7, 2) := by decide +kernel
theorem dX8_init_31 : decode cX8_init 31 = .ok (.newarray .int, 2) := by decide +kernel
theorem dX8_init_33 : decode cX8_init 33 = .ok (.dup, 1) := by decide +kernel
theorem dX8_init_34 : decode cX8_init 34 = .ok (.iconst 0, 1) := by decide +kernel
theorem dX8_init_35 : decode cX8_init 35 = .ok (.sipush 999, 3) := by decide +kernel
theorem dX8_init_38 : decode cX8_init 38 = .ok (.iastore, 1) := by decide +kernel
theorem dX8_init_39 : decode cX8_init 39 = .ok (.dup, 1) := by decide +kernel
theorem dX8_init_40 : decode cX8_init 40 = .ok (.iconst 1, 1) := by decide +kernel
theorem dX8_init_41 : decode cX8_init 41 = .ok (.bipush 9, 2) := by decide +kernel
theorem dX8_init_43 : decode cX8_init 43 = .ok (.iastore, 1) := by decide +kernel
theorem dX8_init_44 : decode cX8_init 44 = .ok (.dup, 1) := by decide +kernel
theorem dX8_init_45 : decode cX8_init 45 = .ok (.iconst 2, 1) := by decide +kernel
theorem dX8_init_46 : decode cX8_init 46 = .ok (.bipush 23, 2) := by decide +kernel
theorem dX8_init_48 : decode cX8_init 48 = .ok (.iastore, 1) := by decide +kernel
theorem dX8_init_49 : decode cX8_init 49 = .ok (.dup, 1) := by decide +kernel
theorem dX8_init_50 : decode cX8_init 50 = .ok (.iconst 3, 1) := by decide +kernel
theorem dX8_init_51 : decode cX8_init 51 = .ok (.bipush 99, 2) := by decide +kernel
theorem dX8_init_53 : decode cX8_init 53 = .ok (.iastore, 1) := by decide +kernel
theorem dX8_init_54 : decode cX8_init 54 = .ok (.dup, 1) := by decide +kernel
theorem dX8_init_55 : decode cX8_init 55 = .ok (.iconst 4, 1) := by decide +kernel
theorem dX8_init_56 : decode cX8_init 56 = .ok (.bipush 99, 2) := by decide +kernel
theorem dX8_init_58 : decode cX8_init 58 = .ok (.iastore, 1) := by decide +kernel
theorem dX8_init_59 : decode cX8_init 59 = .ok (.dup, 1) := by decide +kernel
theorem dX8_init_60 : decode cX8_init 60 = .ok (.iconst 5, 1) := by decide +kernel
theorem dX8_init_61 : decode cX8_init 61 = .ok (.sipush 9999, 3) := by decide +kernel
theorem dX8_init_64 : decode cX8_init 64 = .ok (.iastore, 1) := by decide +kernel
theorem dX8_init_65 : decode cX8_init 65 = .ok (.dup, 1) := by decide +kernel
theorem dX8_init_66 : decode cX8_init 66 = .ok (.bipush 6, 2) := by decide +kernel
theorem dX8_init_68 : decode cX8_init 68 = .ok (.bipush 9, 2) := by decide +kernel
theorem dX8_init_70 : decode cX8_init 70 = .ok (.iastore, 1) := by decide +kernel
theorem dX8_init_71 : decode cX8_init 71 = .ok (.putfield 19, 3) := by decide +kernel
theorem dX8_init_74 : decode cX8_init 74 = .ok (.aload_n 0, 1) := by decide +kernel
theorem dX8_init_75 : decode cX8_init 75 = .ok (.sipush 160, 3) := by decide +kernel
theorem dX8_init_78 : decode cX8_init 78 = .ok (.newarray .int, 2) := by decide +kernel
theorem dX8_init_80 : decode cX8_init 80 = .ok (.putfield 22, 3) := by decide +kernel
theorem dX8_init_83 : decode cX8_init 83 = .ok (.aload_n 0, 1) := by decide +kernel
theorem dX8_init_84 : decode cX8_init 84 = .ok (.sipush 960, 3) := by decide +kernel
theorem dX8_init_87 : decode cX8_init 87 = .ok (.newarray .int, 2) := by decide +kernel
theorem dX8_init_89 : decode cX8_init 89 = .ok (.putfield 25, 3) := by decide +kernel
theorem dX8_init_92 : decode cX8_init 92 = .ok (.aload_n 0, 1) := by decide +kernel
theorem dX8_init_93 : decode cX8_init 93 = .ok (.bipush 18, 2) := by decide +kernel
theorem dX8_init_95 : decode cX8_init 95 = .ok (.newarray .int, 2) := by decide +kernel
theorem dX8_init_97 : decode cX8_init 97 = .ok (.putfield 28, 3) := by decide +kernel
theorem dX8_init_100 : decode cX8_init 100 = .ok (.aload_n 0, 1) := by decide +kernel
theorem dX8_init_101 : decode cX8_init 101 = .ok (.aload_n 0, 1) := by decide +kernel
theorem dX8_init_102 : decode cX8_init 102 = .ok (.invokevirtual 31, 3) := by decide +kernel
theorem dX8_init_105 : decode cX8_init 105 = .ok (.putfield 35, 3) := by decide +kernel
theorem dX8_init_108 : decode cX8_init 108 = .ok (.aload_n 0, 1) := by decide +kernel
theorem dX8_init_109 : decode cX8_init 109 = .ok (.bipush 72, 2) := by decide +kernel
theorem dX8_init_111 : decode cX8_init 111 = .ok (.newarray .char, 2) := by decide +kernel
theorem dX8_init_113 : decode cX8_init 113 = .ok (.dup, 1) := by decide +kernel
theorem dX8_init_114 : decode cX8_init 114 = .ok (.iconst 0, 1) := by decide +kernel
theorem dX8_init_115 : decode cX8_init 115 = .ok (.bipush 102, 2) := by decide +kernel
theorem dX8_init_117 : decode cX8_init 117 = .ok (.castore, 1) := by decide +kernel
theorem dX8_init_118 : decode cX8_init 118 = .ok (.dup, 1) := by decide +kernel
theorem dX8_init_119 : decode cX8_init 119 = .ok (.iconst 1, 1) := by decide +kernel
theorem dX8_init_120 : decode cX8_init 120 = .ok (.bipush 111, 2) := by decide +kernel
theorem dX8_init_122 : decode cX8_init 122 = .ok (.castore, 1) := by decide +kernel
theorem dX8_init_123 : decode cX8_init 123 = .ok (.dup, 1) := by decide +kernel
theorem dX8_init_124 : decode cX8_init 124 = .ok (.iconst 2, 1) := by decide +kernel
theorem dX8_init_125 : decode cX8_init 125 = .ok (.bipush 110, 2) := by decide +kernel
theorem dX8_init_127 : decode cX8_init 127 = .ok (.castore, 1) := by decide +kernel
theorem dX8_init_128 : decode cX8_init 128 = .ok (.dup, 1) := by decide +kernel
theorem dX8_init_129 : decode cX8_init 129 = .ok (.iconst 3, 1) := by decide +kernel
theorem dX8_init_130 : decode cX8_init 130 = .ok (.bipush 100, 2) := by decide +kernel
theorem dX8_init_132 : decode cX8_init 132 = .ok (.castore, 1) := by decide +kernel
theorem dX8_init_133 : decode cX8_init 133 = .ok (.dup, 1) := by decide +kernel
theorem dX8_init_134 : decode cX8_init 134 = .ok (.iconst 4, 1) := by decide +kernel
theorem dX8_init_135 : decode cX8_init 135 = .ok (.iconst 0, 1) := by decide +kernel
theorem dX8_init_136 : decode cX8_init 136 = .ok (.castore, 1) := by decide +kernel
theorem dX8_init_137 : decode cX8_init 137 = .ok (.dup, 1) := by decide +kernel
theorem dX8_init_138 : decode cX8_init 138 = .ok (.iconst 5, 1) := by decide +kernel
theorem dX8_init_139 : decode cX8_init 139 = .ok (.iconst 0, 1) := by decide +kernel
theorem dX8_init_140 : decode cX8_init 140 = .ok (.castore, 1) := by decide +kernel
theorem dX8_init_141 : decode cX8_init 141 = .ok (.dup, 1) := by decide +kernel
theorem dX8_init_142 : decode cX8_init 142 = .ok (.bipush 6, 2) := by decide +kernel
theorem dX8_init_144 : decode cX8_init 144 = .ok (.bipush 100, 2) := by decide +kernel
theorem dX8_init_146 : decode cX8_init 146 = .ok (.castore, 1) := by decide +kernel
theorem dX8_init_147 : decode cX8_init 147 = .ok (.dup, 1) := by decide +kernel
theorem dX8_init_148 : decode cX8_init 148 = .ok (.bipush 7, 2) := by decide +kernel
theorem dX8_init_150 : decode cX8_init 150 = .ok (.bipush 117, 2) := by decide +kernel
theorem dX8_init_152 : decode cX8_init 152 = .ok (.castore, 1) := by decide +kernel
theorem dX8_init_153 : decode cX8_init 153 = .ok (.dup, 1) := by decide +kernel
theorem dX8_init_154 : decode cX8_init 154 = .ok (.bipush 8, 2) := by decide +kernel
theorem dX8_init_156 : decode cX8_init 156 = .ok (.bipush 116, 2) := by decide +kernel
theorem dX8_init_158 : decode cX8_init 158 = .ok (.castore, 1) := by decide +kernel
theorem dX8_init_159 : decode cX8_init 159 = .ok (.dup, 1) := by decide +kernel
theorem dX8_init_160 : decode cX8_init 160 = .ok (.bipush 9, 2) := by decide +kernel
theorem dX8_init_162 : decode cX8_init 162 = .ok (.bipush 121, 2) := by decide +kernel
theorem dX8_init_164 : decode cX8_init 164 = .ok (.castore, 1) := by decide +kernel
theorem dX8_init_165 : decode cX8_init 165 = .ok (.dup, 1) := by decide +kernel
theorem dX8_init_166 : decode cX8_init 166 = .ok (.bipush 10, 2) := by decide +kernel
theorem dX8_init_168 : decode cX8_init 168 = .ok (.iconst 0, 1) := by decide +kernel
theorem dX8_init_169 : decode cX8_init 169 = .ok (.castore, 1) := by decide +kernel
theorem dX8_init_170 : decode cX8_init 170 = .ok (.dup, 1) := by decide +kernel
theorem dX8_init_171 : decode cX8_init 171 = .ok (.bipush 11, 2) := by decide +kernel
theorem dX8_init_173 : decode cX8_init 173 = .ok (.iconst 0, 1) := by decide +kernel
theorem dX8_init_174 : decode cX8_init 174 = .ok (.castore, 1) := by decide +kernel
theorem dX8_init_175 : decode cX8_init 175 = .ok (.dup, 1) := by decide +kernel
theorem dX8_init_176 : decode cX8_init 176 = .ok (.bipush 12, 2) := by decide +kernel
theorem dX8_init_178 : decode cX8_init 178 = .ok (.bipush 110, 2) := by decide +kernel
theorem dX8_init_180 : decode cX8_init 180 = .ok (.castore, 1) := by decide +kernel
theorem dX8_init_181 : decode cX8_init 181 = .ok (.dup, 1) := by decide +kernel
theorem dX8_init_182 : decode cX8_init 182 = .ok (.bipush 13, 2) := by decide +kernel
theorem dX8_init_184 : decode cX8_init 184 = .ok (.bipush 117, 2) := by decide +kernel
theorem dX8_init_186 : decode cX8_init 186 = .ok (.castore, 1) := by decide +kernel
theorem dX8_init_187 : decode cX8_init 187 = .ok (.dup, 1) := by decide +kernel
theorem dX8_init_188 : decode cX8_init 188 = .ok (.bipush 14, 2) := by decide +kernel
theorem dX8_init_190 : decode cX8_init 190 = .ok (.bipush 109, 2) := by decide +kernel
theorem dX8_init_192 : decode cX8_init 192 = .ok (.castore, 1) := by decide +kernel
theorem dX8_init_193 : decode cX8_init 193 = .ok (.dup, 1) := by decide +kernel
theorem dX8_init_194 : decode cX8_init 194 = .ok (.bipush 15, 2) := by decide +kernel
theorem dX8_init_196 : decode cX8_init 196 = .ok (.bipush 98, 2) := by decide +kernel
theorem dX8_init_198 : decode cX8_init 198 = .ok (.castore, 1) := by decide +kernel
theorem dX8_init_199 : decode cX8_init 199 = .ok (.dup, 1) := by decide +kernel
theorem dX8_init_200 : decode cX8_init 200 = .ok (.bipush 16, 2) := by decide +kernel
theorem dX8_init_202 : decode cX8_init 202 = .ok (.bipush 101, 2) := by decide +kernel
theorem dX8_init_204 : decode cX8_init 204 = .ok (.castore, 1) := by decide +kernel
theorem dX8_init_205 : decode cX8_init 205 = .ok (.dup, 1) := by decide +kernel
theorem dX8_init_206 : decode cX8_init 206 = .ok (.bipush 17, 2) := by decide +kernel
theorem dX8_init_208 : decode cX8_init 208 = .ok (.bipush 114, 2) := by decide +kernel
theorem dX8_init_210 : decode cX8_init 210 = .ok (.castore, 1) := by decide +kernel
theorem dX8_init_211 : decode cX8_init 211 = .ok (.dup, 1) := by decide +kernel
theorem dX8_init_212 : decode cX8_init 212 = .ok (.bipush 18, 2) := by decide +kernel
theorem dX8_init_214 : decode cX8_init 214 = .ok (.bipush 100, 2) := by decide +kernel
theorem dX8_init_216 : decode cX8_init 216 = .ok (.castore, 1) := by decide +kernel
theorem dX8_init_217 : decode cX8_init 217 = .ok (.dup, 1) := by decide +kernel
theorem dX8_init_218 : decode cX8_init 218 = .ok (.bipush 19, 2) := by decide +kernel
theorem dX8_init_220 : decode cX8_init 220 = .ok (.bipush 97, 2) := by decide +kernel
theorem dX8_init_222 : decode cX8_init 222 = .ok (.castore, 1) := by decide +kernel
theorem dX8_init_223 : decode cX8_init 223 = .ok (.dup, 1) := by decide +kernel
theorem dX8_init_224 : decode cX8_init 224 = .ok (.bipush 20, 2) := by decide +kernel
theorem dX8_init_226 : decode cX8_init 226 = .ok (.bipush 121, 2) := by decide +kernel
theorem dX8_init_228 : decode cX8_init 228 = .ok (.castore, 1) := by decide +kernel
theorem dX8_init_229 : decode cX8_init 229 = .ok (.dup, 1) := by decide +kernel
theorem dX8_init_230 : decode cX8_init 230 = .ok (.bipush 21, 2) := by decide +kernel
theorem dX8_init_232 : decode cX8_init 232 = .ok (.iconst 0, 1) := by decide +kernel
theorem dX8_init_233 : decode cX8_init 233 = .ok (.castore, 1) := by decide +kernel
theorem dX8_init_234 : decode cX8_init 234 = .ok (.dup, 1) := by decide +kernel
theorem dX8_init_235 : decode cX8_init 235 = .ok (.bipush 22, 2) := by decide +kernel
theorem dX8_init_237 : decode cX8_init 237 = .ok (.iconst 0, 1) := by decide +kernel
theorem dX8_init_238 : decode cX8_init 238 = .ok (.castore, 1) := by decide +kernel
theorem dX8_init_239 : decode cX8_init 239 = .ok (.dup, 1) := by decide +kernel
theorem dX8_init_240 : decode cX8_init 240 = .ok (.bipush 23, 2) := by decide +kernel
theorem dX8_init_242 : decode cX8_init 242 = .ok (.iconst 0, 1) := by decide +kernel
theorem dX8_init_243 : decode cX8_init 243 = .ok (.castore, 1) := by decide +kernel
theorem dX8_init_244 : decode cX8_init 244 = .ok (.dup, 1) := by decide +kernel
theorem dX8_init_245 : decode cX8_init 245 = .ok (.bipush 24, 2) := by decide +kernel
theorem dX8_init_247 : decode cX8_init 247 = .ok (.bipush 116, 2) := by decide +kernel
theorem dX8_init_249 : decode cX8_init 249 = .ok (.castore, 1) := by decide +kernel
theorem dX8_init_250 : decode cX8_init 250 = .ok (.dup, 1) := by decide +kernel
theorem dX8_init_251 : decode cX8_init 251 = .ok (.bipush 25, 2) := by decide +kernel
theorem dX8_init_253 : decode cX8_init 253 = .ok (.bipush 105, 2) := by decide +kernel
theorem dX8_init_255 : decode cX8_init 255 = .ok (.castore, 1) := by decide +kernel
theorem dX8_init_256 : decode cX8_init 256 = .ok (.dup, 1) := by decide +kernel
theorem dX8_init_257 : decode cX8_init 257 = .ok (.bipush 26, 2) := by decide +kernel
theorem dX8_init_259 : decode cX8_init 259 = .ok (.bipush 114, 2) := by decide +kernel
theorem dX8_init_261 : decode cX8_init 261 = .ok (.castore, 1) := by decide +kernel
theorem dX8_init_262 : decode cX8_init 262 = .ok (.dup, 1) := by decide +kernel
theorem dX8_init_263 : decode cX8_init 263 = .ok (.bipush 27, 2) := by decide +kernel
theorem dX8_init_265 : decode cX8_init 265 = .ok (.bipush 101, 2) := by decide +kernel
theorem dX8_init_267 : decode cX8_init 267 = .ok (.castore, 1) := by decide +kernel
theorem dX8_init_268 : decode cX8_init 268 = .ok (.dup, 1) := by decide +kernel
theorem dX8_init_269 : decode cX8_init 269 = .ok (.bipush 28, 2) := by decide +kernel
theorem dX8_init_271 : decode cX8_init 271 = .ok (.bipush 100, 2) := by decide +kernel
theorem dX8_init_273 : decode cX8_init 273 = .ok (.castore, 1) := by decide +kernel
theorem dX8_init_274 : decode cX8_init 274 = .ok (.dup, 1) := by decide +kernel
theorem dX8_init_275 : decode cX8_init 275 = .ok (.bipush 29, 2) := by decide +kernel
theorem dX8_init_277 : decode cX8_init 277 = .ok (.iconst 0, 1) := by decide +kernel
theorem dX8_init_278 : decode cX8_init 278 = .ok (.castore, 1) := by decide +kernel
theorem dX8_init_279 : decode cX8_init 279 = .ok (.dup, 1) := by decide +kernel
theorem dX8_init_280 : decode cX8_init 280 = .ok (.bipush 30, 2) := by decide +kernel
theorem dX8_init_282 : decode cX8_init 282 = .ok (.bipush 109, 2) := by decide +kernel
theorem dX8_init_284 : decode cX8_init 284 = .ok (.castore, 1) := by decide +kernel
theorem dX8_init_285 : decode cX8_init 285 = .ok (.dup, 1) := by decide +kernel
theorem dX8_init_286 : decode cX8_init 286 = .ok (.bipush 31, 2) := by decide +kernel
theorem dX8_init_288 : decode cX8_init 288 = .ok (.bipush 105, 2) := by decide +kernel
theorem dX8_init_290 : decode cX8_init 290 = .ok (.castore, 1) := by decide +kernel
theorem dX8_init_291 : decode cX8_init 291 = .ok (.dup, 1) := by decide +kernel
theorem dX8_init_292 : decode cX8_init 292 = .ok (.bipush 32, 2) := by decide +kernel
theorem dX8_init_294 : decode cX8_init 294 = .ok (.bipush 115, 2) := by decide +kernel
theorem dX8_init_296 : decode cX8_init 296 = .ok (.castore, 1) := by decide +kernel
theorem dX8_init_297 : decode cX8_init 297 = .ok (.dup, 1) := by decide +kernel
theorem dX8_init_298 : decode cX8_init 298 = .ok (.bipush 33, 2) := by decide +kernel
theorem dX8_init_300 : decode cX8_init 300 = .ok (.bipush 115, 2) := by decide +kernel
theorem dX8_init_302 : decode cX8_init 302 = .ok (.castore, 1) := by decide +kernel
theorem dX8_init_303 : decode cX8_init 303 = .ok (.dup, 1) := by decide +kernel
theorem dX8_init_304 : decode cX8_init 304 = .ok (.bipush 34, 2) := by decide +kernel
theorem dX8_init_306 : decode cX8_init 306 = .ok (.bipush 101, 2) := by decide +kernel
theorem dX8_init_308 : decode cX8_init 308 = .ok (.castore, 1) := by decide +kernel
theorem dX8_init_309 : decode cX8_init 309 = .ok (.dup, 1) := by decide +kernel
theorem dX8_init_310 : decode cX8_init 310 = .ok (.bipush 35, 2) := by decide +kernel
theorem dX8_init_312 : decode cX8_init 312 = .ok (.bipush 100, 2) := by decide +kernel
theorem dX8_init_314 : decode cX8_init 314 = .ok (.castore, 1) := by decide +kernel
theorem dX8_init_315 : decode cX8_init 315 = .ok (.dup, 1) := by decide +kernel
theorem dX8_init_316 : decode cX8_init 316 = .ok (.bipush 36, 2) := by decide +kernel
theorem dX8_init_318 : decode cX8_init 318 = .ok (.bipush 115, 2) := by decide +kernel
theorem dX8_init_320 : decode cX8_init 320 = .ok (.castore, 1) := by decide +kernel
theorem dX8_init_321 : decode cX8_init 321 = .ok (.dup, 1) := by decide +kernel
theorem dX8_init_322 : decode cX8_init 322 = .ok (.bipush 37, 2) := by decide +kernel
theorem dX8_init_324 : decode cX8_init 324 = .ok (.bipush 101, 2) := by decide +kernel
theorem dX8_init_326 : decode cX8_init 326 = .ok (.castore, 1) := by decide +kernel
theorem dX8_init_327 : decode cX8_init 327 = .ok (.dup, 1) := by decide +kernel
theorem dX8_init_328 : decode cX8_init 328 = .ok (.bipush 38, 2) := by decide +kernel
theorem dX8_init_330 : decode cX8_init 330 = .ok (.bipush 116, 2) := by decide +kernel
theorem dX8_init_332 : decode cX8_init 332 = .ok (.castore, 1) := by decide +kernel
theorem dX8_init_333 : decode cX8_init 333 = .ok (.dup, 1) := by decide +kernel
theorem dX8_init_334 : decode cX8_init 334 = .ok (.bipush 39, 2) := by decide +kernel
theorem dX8_init_336 : decode cX8_init 336 = .ok (.bipush 115, 2) := by decide +kernel
theorem dX8_init_338 : decode cX8_init 338 = .ok (.castore, 1) := by decide +kernel
theorem dX8_init_339 : decode cX8_init 339 = .ok (.dup, 1) := by decide +kernel
theorem dX8_init_340 : decode cX8_init 340 = .ok (.bipush 40, 2) := by decide +kernel
theorem dX8_init_342 : decode cX8_init 342 = .ok (.iconst 0, 1) := by decide +kernel
theorem dX8_init_343 : decode cX8_init 343 = .ok (.castore, 1) := by decide +kernel
theorem dX8_init_344 : decode cX8_init 344 = .ok (.dup, 1) := by decide +kernel
theorem dX8_init_345 : decode cX8_init 345 = .ok (.bipush 41, 2) := by decide +kernel
theorem dX8_init_347 : decode cX8_init 347 = .ok (.iconst 0, 1) := by decide +kernel
theorem dX8_init_348 : decode cX8_init 348 = .ok (.castore, 1) := by decide +kernel
theorem dX8_init_349 : decode cX8_init 349 = .ok (.dup, 1) := by decide +kernel
theorem dX8_init_350 : decode cX8_init 350 = .ok (.bipush 42, 2) := by decide +kernel
theorem dX8_init_352 : decode cX8_init 352 = .ok (.bipush 116, 2) := by decide +kernel
theorem dX8_init_354 : decode cX8_init 354 = .ok (.castore, 1) := by decide +kernel
theorem dX8_init_355 : decode cX8_init 355 = .ok (.dup, 1) := by decide +kernel
theorem dX8_init_356 : decode cX8_init 356 = .ok (.bipush 43, 2) := by decide +kernel
theorem dX8_init_358 : decode cX8_init 358 = .ok (.bipush 105, 2) := by decide +kernel
theorem dX8_init_360 : decode cX8_init 360 = .ok (.castore, 1) := by decide +kernel
theorem dX8_init_361 : decode cX8_init 361 = .ok (.dup, 1) := by decide +kernel
theorem dX8_init_362 : decode cX8_init 362 = .ok (.bipush 44, 2) := by decide +kernel
theorem dX8_init_364 : decode cX8_init 364 = .ok (.bipush 114, 2) := by decide +kernel
theorem dX8_init_366 : decode cX8_init 366 = .ok (.castore, 1) := by decide +kernel
theorem dX8_init_367 : decode cX8_init 367 = .ok (.dup, 1) := by decide +kernel
theorem dX8_init_368 : decode cX8_init 368 = .ok (.bipush 45, 2) := by decide +kernel
theorem dX8_init_370 : decode cX8_init 370 = .ok (.bipush 101, 2) := by decide +kernel
theorem dX8_init_372 : decode cX8_init 372 = .ok (.castore, 1) := by decide +kernel
theorem dX8_init_373 : decode cX8_init 373 = .ok (.dup, 1) := by decide +kernel
theorem dX8_init_374 : decode cX8_init 374 = .ok (.bipush 46, 2) := by decide +kernel
theorem dX8_init_376 : decode cX8_init 376 = .ok (.bipush 115, 2) := by decide +kernel
theorem dX8_init_378 : decode cX8_init 378 = .ok (.castore, 1) := by decide +kernel
theorem dX8_init_379 : decode cX8_init 379 = .ok (.dup, 1) := by decide +kernel
theorem dX8_init_380 : decode cX8_init 380 = .ok (.bipush 47, 2) := by decide +kernel
theorem dX8_init_382 : decode cX8_init 382 = .ok (.iconst 0, 1) := by decide +kernel
theorem dX8_init_383 : decode cX8_init 383 = .ok (.castore, 1) := by decide +kernel
theorem dX8_init_384 : decode cX8_init 384 = .ok (.dup, 1) := by decide +kernel
theorem dX8_init_385 : decode cX8_init 385 = .ok (.bipush 48, 2) := by decide +kernel
theorem dX8_init_387 : decode cX8_init 387 = .ok (.bipush 103, 2) := by decide +kernel
theorem dX8_init_389 : decode cX8_init 389 = .ok (.castore, 1) := by decide +kernel
theorem dX8_init_390 : decode cX8_init 390 = .ok (.dup, 1) := by decide +kernel
theorem dX8_init_391 : decode cX8_init 391 = .ok (.bipush 49, 2) := by decide +kernel
theorem dX8_init_393 : decode cX8_init 393 = .ok (.bipush 114, 2) := by decide +kernel
theorem dX8_init_395 : decode cX8_init 395 = .ok (.castore, 1) := by decide +kernel
theorem dX8_init_396 : decode cX8_init 396 = .ok (.dup, 1) := by decide +kernel
theorem dX8_init_397 : decode cX8_init 397 = .ok (.bipush 50, 2) := by decide +kernel
theorem dX8_init_399 : decode cX8_init 399 = .ok (.bipush 111, 2) := by decide +kernel
theorem dX8_init_401 : decode cX8_init 401 = .ok (.castore, 1) := by decide +kernel
theorem dX8_init_402 : decode cX8_init 402 = .ok (.dup, 1) := by decide +kernel
theorem dX8_init_403 : decode cX8_init 403 = .ok (.bipush 51, 2) := by decide +kernel
theorem dX8_init_405 : decode cX8_init 405 = .ok (.bipush 119, 2) := by decide +kernel
theorem dX8_init_407 : decode cX8_init 407 = .ok (.castore, 1) := by decide +kernel
theorem dX8_init_408 : decode cX8_init 408 = .ok (.dup, 1) := by decide +kernel
theorem dX8_init_409 : decode cX8_init 409 = .ok (.bipush 52, 2) := by decide +kernel
theorem dX8_init_411 : decode cX8_init 411 = .ok (.bipush 115, 2) := by decide +kernel
theorem dX8_init_413 : decode cX8_init 413 = .ok (.castore, 1) := by decide +kernel
theorem dX8_init_414 : decode cX8_init 414 = .ok (.dup, 1) := by decide +kernel
theorem dX8_init_415 : decode cX8_init 415 = .ok (.bipush 53, 2) := by decide +kernel
theorem dX8_init_417 : decode cX8_init 417 = .ok (.iconst 0, 1) := by decide +kernel
theorem dX8_init_418 : decode cX8_init 418 = .ok (.castore, 1) := by decide +kernel
theorem dX8_init_419 : decode cX8_init 419 = .ok (.dup, 1) := by decide +kernel
theorem dX8_init_420 : decode cX8_init 420 = .ok (.bipush 54, 2) := by decide +kernel
theorem dX8_init_422 : decode cX8_init 422 = .ok (.bipush 111, 2) := by decide +kernel
theorem dX8_init_424 : decode cX8_init 424 = .ok (.castore, 1) := by decide +kernel
theorem dX8_init_425 : decode cX8_init 425 = .ok (.dup, 1) := by decide +kernel
theorem dX8_init_426 : decode cX8_init 426 = .ok (.bipush 55, 2) := by decide +kernel
theorem dX8_init_428 : decode cX8_init 428 = .ok (.bipush 114, 2) := by decide +kernel
theorem dX8_init_430 : decode cX8_init 430 = .ok (.castore, 1) := by decide +kernel
theorem dX8_init_431 : decode cX8_init 431 = .ok (.dup, 1) := by decide +kernel
theorem dX8_init_432 : decode cX8_init 432 = .ok (.bipush 56, 2) := by decide +kernel
theorem dX8_init_434 : decode cX8_init 434 = .ok (.iconst 0, 1) := by decide +kernel
theorem dX8_init_435 : decode cX8_init 435 = .ok (.castore, 1) := by decide +kernel
theorem dX8_init_436 : decode cX8_init 436 = .ok (.dup, 1) := by decide +kernel
theorem dX8_init_437 : decode cX8_init 437 = .ok (.bipush 57, 2) := by decide +kernel
theorem dX8_init_439 : decode cX8_init 439 = .ok (.iconst 0, 1) := by decide +kernel
theorem dX8_init_440 : decode cX8_init 440 = .ok (.castore, 1) := by decide +kernel
theorem dX8_init_441 : decode cX8_init 441 = .ok (.dup, 1) := by decide +kernel
theorem dX8_init_442 : decode cX8_init 442 = .ok (.bipush 58, 2) := by decide +kernel
theorem dX8_init_444 : decode cX8_init 444 = .ok (.iconst 0, 1) := by decide +kernel
theorem dX8_init_445 : decode cX8_init 445 = .ok (.castore, 1) := by decide +kernel
theorem dX8_init_446 : decode cX8_init 446 = .ok (.dup, 1) := by decide +kernel
theorem dX8_init_447 : decode cX8_init 447 = .ok (.bipush 59, 2) := by decide +kernel
theorem dX8_init_449 : decode cX8_init 449 = .ok (.iconst 0, 1) := by decide +kernel
theorem dX8_init_450 : decode cX8_init 450 = .ok (.castore, 1) := by decide +kernel
theorem dX8_init_451 : decode cX8_init 451 = .ok (.dup, 1) := by decide +kernel
theorem dX8_init_452 : decode cX8_init 452 = .ok (.bipush 60, 2) := by decide +kernel
theorem dX8_init_454 : decode cX8_init 454 = .ok (.bipush 97, 2) := by decide +kernel
theorem dX8_init_456 : decode cX8_init 456 = .ok (.castore, 1) := by decide +kernel
theorem dX8_init_457 : decode cX8_init 457 = .ok (.dup, 1) := by decide +kernel
theorem dX8_init_458 : decode cX8_init 458 = .ok (.bipush 61, 2) := by decide +kernel
theorem dX8_init_460 : decode cX8_init 460 = .ok (.bipush 110, 2) := by decide +kernel
theorem dX8_init_462 : decode cX8_init 462 = .ok (.castore, 1) := by decide +kernel
theorem dX8_init_463 : decode cX8_init 463 = .ok (.dup, 1) := by decide +kernel
theorem dX8_init_464 : decode cX8_init 464 = .ok (.bipush 62, 2) := by decide +kernel
theorem dX8_init_466 : decode cX8_init 466 = .ok (.bipush 100, 2) := by decide +kernel
theorem dX8_init_468 : decode cX8_init 468 = .ok (.castore, 1) := by decide +kernel
theorem dX8_init_469 : decode cX8_init 469 = .ok (.dup, 1) := by decide +kernel
theorem dX8_init_470 : decode cX8_init 470 = .ok (.bipush 63, 2) := by decide +kernel
theorem dX8_init_472 : decode cX8_init 472 = .ok (.iconst 0, 1) := by decide +kernel
theorem dX8_init_473 : decode cX8_init 473 = .ok (.castore, 1) := by decide +kernel
theorem dX8_init_474 : decode cX8_init 474 = .ok (.dup, 1) := by decide +kernel
theorem dX8_init_475 : decode cX8_init 475 = .ok (.bipush 64, 2) := by decide +kernel
theorem dX8_init_477 : decode cX8_init 477 = .ok (.iconst 0, 1) := by decide +kernel
theorem dX8_init_478 : decode cX8_init 478 = .ok (.castore, 1) := by decide +kernel
theorem dX8_init_479 : decode cX8_init 479 = .ok (.dup, 1) := by decide +kernel
theorem dX8_init_480 : decode cX8_init 480 = .ok (.bipush 65, 2) := by decide +kernel
theorem dX8_init_482 : decode cX8_init 482 = .ok (.iconst 0, 1) := by decide +kernel
theorem dX8_init_483 : decode cX8_init 483 = .ok (.castore, 1) := by decide +kernel
theorem dX8_init_484 : decode cX8_init 484 = .ok (.dup, 1) := by decide +kernel
theorem dX8_init_485 : decode cX8_init 485 = .ok (.bipush 66, 2) := by decide +kernel
theorem dX8_init_487 : decode cX8_init 487 = .ok (.bipush 110, 2) := by decide +kernel
theorem dX8_init_489 : decode cX8_init 489 = .ok (.castore, 1) := by decide +kernel
theorem dX8_init_490 : decode cX8_init 490 = .ok (.dup, 1) := by decide +kernel
theorem dX8_init_491 : decode cX8_init 491 = .ok (.bipush 67, 2) := by decide +kernel
theorem dX8_init_493 : decode cX8_init 493 = .ok (.bipush 111, 2) := by decide +kernel
theorem dX8_init_495 : decode cX8_init 495 = .ok (.castore, 1) := by decide +kernel
theorem dX8_init_496 : decode cX8_init 496 = .ok (.dup, 1) := by decide +kernel
theorem dX8_init_497 : decode cX8_init 497 = .ok (.bipush 68, 2) := by decide +kernel
theorem dX8_init_499 : decode cX8_init 499 = .ok (.bipush 116, 2) := by decide +kernel
theorem dX8_init_501 : decode cX8_init 501 = .ok (.castore, 1) := by decide +kernel
theorem dX8_init_502 : decode cX8_init 502 = .ok (.dup, 1) := by decide +kernel
theorem dX8_init_503 : decode cX8_init 503 = .ok (.bipush 69, 2) := by decide +kernel
theorem dX8_init_505 : decode cX8_init 505 = .ok (.iconst 0, 1) := by decide +kernel
theorem dX8_init_506 : decode cX8_init 506 = .ok (.castore, 1) := by decide +kernel
theorem dX8_init_507 : decode cX8_init 507 = .ok (.dup, 1) := by decide +kernel
theorem dX8_init_508 : decode cX8_init 508 = .ok (.bipush 70, 2) := by decide +kernel
theorem dX8_init_510 : decode cX8_init 510 = .ok (.iconst 0, 1) := by decide +kernel
theorem dX8_init_511 : decode cX8_init 511 = .ok (.castore, 1) := by decide +kernel
theorem dX8_init_512 : decode cX8_init 512 = .ok (.dup, 1) := by decide +kernel
theorem dX8_init_513 : decode cX8_init 513 = .ok (.bipush 71, 2) := by decide +kernel
theorem dX8_init_515 : decode cX8_init 515 = .ok (.iconst 0, 1) := by decide +kernel
theorem dX8_init_516 : decode cX8_init 516 = .ok (.castore, 1) := by decide +kernel
theorem dX8_init_517 : decode cX8_init 517 = .ok (.putfield 39, 3) := by decide +kernel
theorem dX8_init_520 : decode cX8_init 520 = .ok (.aload_n 0, 1) := by decide +kernel
theorem dX8_init_521 : decode cX8_init 521 = .ok (.sipush 160, 3) := by decide +kernel
theorem dX8_init_524 : decode cX8_init 524 = .ok (.newarray .int, 2) := by decide +kernel
theorem dX8_init_526 : decode cX8_init 526 = .ok (.putfield 43, 3) := by decide +kernel
theorem dX8_init_529 : decode cX8_init 529 = .ok (.aload_n 0, 1) := by decide +kernel
theorem dX8_init_530 : decode cX8_init 530 = .ok (.sipush 160, 3) := by decide +kernel
theorem dX8_init_533 : decode cX8_init 533 = .ok (.newarray .int, 2) := by decide +kernel
theorem dX8_init_535 : decode cX8_init 535 = .ok (.putfield 46, 3) := by decide +kernel
theorem dX8_init_538 : decode cX8_init 538 = .ok (.aload_n 0, 1) := by decide +kernel
theorem dX8_init_539 : decode cX8_init 539 = .ok (.iconst 5, 1) := by decide +kernel
theorem dX8_init_540 : decode cX8_init 540 = .ok (.newarray .int, 2) := by decide +kernel
theorem dX8_init_542 : decode cX8_init 542 = .ok (.putfield 49, 3) := by decide +kernel
theorem dX8_init_545 : decode cX8_init 545 = .ok (.aload_n 0, 1) := by decide +kernel
theorem dX8_init_546 : decode cX8_init 546 = .ok (.iconst 5, 1) := by decide +kernel
theorem dX8_init_547 : decode cX8_init 547 = .ok (.newarray .int, 2) := by decide +kernel
theorem dX8_init_549 : decode cX8_init 549 = .ok (.putfield 52, 3) := by decide +kernel
theorem dX8_init_552 : decode cX8_init 552 = .ok (.aload_n 0, 1) := by decide +kernel
theorem dX8_init_553 : decode cX8_init 553 = .ok (.iconst 5, 1) := by decide +kernel
theorem dX8_init_554 : decode cX8_init 554 = .ok (.newarray .int, 2) := by decide +kernel
theorem dX8_init_556 : decode cX8_init 556 = .ok (.putfield 55, 3) := by decide +kernel
theorem dX8_init_559 : decode cX8_init 559 = .ok (.aload_n 0, 1) := by decide +kernel
theorem dX8_init_560 : decode cX8_init 560 = .ok (.iconst 5, 1) := by decide +kernel
theorem dX8_init_561 : decode cX8_init 561 = .ok (.newarray .int, 2) := by decide +kernel
theorem dX8_init_563 : decode cX8_init 563 = .ok (.putfield 58, 3) := by decide +kernel
theorem dX8_init_566 : decode cX8_init 566 = .ok (.aload_n 0, 1) := by decide +kernel
theorem dX8_init_567 : decode cX8_init 567 = .ok (.iconst 4, 1) := by decide +kernel
theorem dX8_init_568 : decode cX8_init 568 = .ok (.newarray .int, 2) := by decide +kernel
theorem dX8_init_570 : decode cX8_init 570 = .ok (.dup, 1) := by decide +kernel
theorem dX8_init_571 : decode cX8_init 571 = .ok (.iconst 0, 1) := by decide +kernel
theorem dX8_init_572 : decode cX8_init 572 = .ok (.iconst (-1), 1) := by decide +kernel
theorem dX8_init_573 : decode cX8_init 573 = .ok (.iastore, 1) := by decide +kernel
theorem dX8_init_574 : decode cX8_init 574 = .ok (.dup, 1) := by decide +kernel
theorem dX8_init_575 : decode cX8_init 575 = .ok (.iconst 1, 1) := by decide +kernel
theorem dX8_init_576 : decode cX8_init 576 = .ok (.iconst (-1), 1) := by decide +kernel
theorem dX8_init_577 : decode cX8_init 577 = .ok (.iastore, 1) := by decide +kernel
theorem dX8_init_578 : decode cX8_init 578 = .ok (.dup, 1) := by decide +kernel
theorem dX8_init_579 : decode cX8_init 579 = .ok (.iconst 2, 1) := by decide +kernel
theorem dX8_init_580 : decode cX8_init 580 = .ok (.iconst (-1), 1) := by decide +kernel
theorem dX8_init_581 : decode cX8_init 581 = .ok (.iastore, 1) := by decide +kernel
theorem dX8_init_582 : decode cX8_init 582 = .ok (.dup, 1) := by decide +kernel
theorem dX8_init_583 : decode cX8_init 583 = .ok (.iconst 3, 1) := by decide +kernel
theorem dX8_init_584 : decode cX8_init 584 = .ok (.iconst (-1), 1) := by decide +kernel
theorem dX8_init_585 : decode cX8_init 585 = .ok (.iastore, 1) := by decide +kernel
theorem dX8_init_586 : decode cX8_init 586 = .ok (.putfield 61, 3) := by decide +kernel
theorem dX8_init_589 : decode cX8_init 589 = .ok (.aload_n 0, 1) := by decide +kernel
theorem dX8_init_590 : decode cX8_init 590 = .ok (.iconst 4, 1) := by decide +kernel
theorem dX8_init_591 : decode cX8_init 591 = .ok (.newarray .int, 2) := by decide +kernel
theorem dX8_init_593 : decode cX8_init 593 = .ok (.putfield 64, 3) := by decide +kernel
theorem dX8_init_596 : decode cX8_init 596 = .ok (.aload_n 0, 1) := by decide +kernel
theorem dX8_init_597 : decode cX8_init 597 = .ok (.sipush 160, 3) := by decide +kernel
theorem dX8_init_600 : decode cX8_init 600 = .ok (.newarray .int, 2) := by decide +kernel
theorem dX8_init_602 : decode cX8_init 602 = .ok (.putfield 67, 3) := by decide +kernel
theorem dX8_init_605 : decode cX8_init 605 = .ok (.aload_n 0, 1) := by decide +kernel
theorem dX8_init_606 : decode cX8_init 606 = .ok (.bipush 40, 2) := by decide +kernel
theorem dX8_init_608 : decode cX8_init 608 = .ok (.newarray .int, 2) := by decide +kernel
theorem dX8_init_610 : decode cX8_init 610 = .ok (.putfield 70, 3) := by decide +kernel
theorem dX8_init_613 : decode cX8_init 613 = .ok (.aload_n 0, 1) := by decide +kernel
theorem dX8_init_614 : decode cX8_init 614 = .ok (.bipush 6, 2) := by decide +kernel
theorem dX8_init_616 : decode cX8_init 616 = .ok (.newarray .int, 2) := by decide +kernel
theorem dX8_init_618 : decode cX8_init 618 = .ok (.dup, 1) := by decide +kernel
theorem dX8_init_619 : decode cX8_init 619 = .ok (.iconst 0, 1) := by decide +kernel
theorem dX8_init_620 : decode cX8_init 620 = .ok (.iconst (-1), 1) := by decide +kernel
theorem dX8_init_621 : decode cX8_init 621 = .ok (.iastore, 1) := by decide +kernel
theorem dX8_init_622 : decode cX8_init 622 = .ok (.dup, 1) := by decide +kernel
theorem dX8_init_623 : decode cX8_init 623 = .ok (.iconst 1, 1) := by decide +kernel
theorem dX8_init_624 : decode cX8_init 624 = .ok (.iconst 0, 1) := by decide +kernel
theorem dX8_init_625 : decode cX8_init 625 = .ok (.iastore, 1) := by decide +kernel
theorem dX8_init_626 : decode cX8_init 626 = .ok (.dup, 1) := by decide +kernel
theorem dX8_init_627 : decode cX8_init 627 = .ok (.iconst 2, 1) := by decide +kernel
theorem dX8_init_628 : decode cX8_init 628 = .ok (.iconst 0, 1) := by decide +kernel
theorem dX8_init_629 : decode cX8_init 629 = .ok (.iastore, 1) := by decide +kernel
theorem dX8_init_630 : decode cX8_init 630 = .ok (.dup, 1) := by decide +kernel
theorem dX8_init_631 : decode cX8_init 631 = .ok (.iconst 3, 1) := by decide +kernel
theorem dX8_init_632 : decode cX8_init 632 = .ok (.iconst 1, 1) := by decide +kernel
theorem dX8_init_633 : decode cX8_init 633 = .ok (.iastore, 1) := by decide +kernel
theorem dX8_init_634 : decode cX8_init 634 = .ok (.dup, 1) := by decide +kernel
theorem dX8_init_635 : decode cX8_init 635 = .ok (.iconst 4, 1) := by decide +kernel
theorem dX8_init_636 : decode cX8_init 636 = .ok (.iconst 2, 1) := by decide +kernel
theorem dX8_init_637 : decode cX8_init 637 = .ok (.iastore, 1) := by decide +kernel
theorem dX8_init_638 : decode cX8_init 638 = .ok (.dup, 1) := by decide +kernel
theorem dX8_init_639 : decode cX8_init 639 = .ok (.iconst 5, 1) := by decide +kernel
theorem dX8_init_640 : decode cX8_init 640 = .ok (.iconst 0, 1) := by decide +kernel
theorem dX8_init_641 : decode cX8_init 641 = .ok (.iastore, 1) := by decide +kernel
theorem dX8_init_642 : decode cX8_init 642 = .ok (.putfield 73, 3) := by decide +kernel
theorem dX8_init_645 : decode cX8_init 645 = .ok (.aload_n 0, 1) := by decide +kernel
theorem dX8_init_646 : decode cX8_init 646 = .ok (.bipush 100, 2) := by decide +kernel
theorem dX8_init_648 : decode cX8_init 648 = .ok (.newarray .boolean, 2) := by decide +kernel
theorem dX8_init_650 : decode cX8_init 650 = .ok (.putfield 76, 3) := by decide +kernel
theorem dX8_init_653 : decode cX8_init 653 = .ok (.return_, 1) := by decide +kernel
theorem dX8_isIn_0 : decode cX8_isIn 0 = .ok (.iload_n 0, 1) := by decide +kernel
theorem dX8_isIn_1 : decode cX8_isIn 1 = .ok (.iload_n 1, 1) := by decide +kernel
theorem dX8_isIn_2 : decode cX8_isIn 2 = .ok (.if_icmp .lt 12, 3) := by decide +kernel
theorem dX8_isIn_5 : decode cX8_isIn 5 = .ok (.iload_n 0, 1) := by decide +kernel
theorem dX8_isIn_6 : decode cX8_isIn 6 = .ok (.iload_n 2, 1) := by decide +kernel
theorem dX8_isIn_7 : decode cX8_isIn 7 = .ok (.if_icmp .gt 7, 3) := by decide +kernel
theorem dX8_isIn_10 : decode cX8_isIn 10 = .ok (.iconst 1, 1) := by decide +kernel
theorem dX8_isIn_11 : decode cX8_isIn 11 = .ok (.goto 4, 3) := by decide +kernel
theorem dX8_isIn_14 : decode cX8_isIn 14 = .ok (.iconst 0, 1) := by decide +kernel
theorem dX8_isIn_15 : decode cX8_isIn 15 = .ok (.ireturn, 1) := by decide +kernel
theorem dX8_bound_0 : decode cX8_bound 0 = .ok (.iload_n 1, 1) := by decide +kernel
theorem dX8_bound_1 : decode cX8_bound 1 = .ok (.iload_n 2, 1) := by decide +kernel
theorem dX8_bound_2 : decode cX8_bound 2 = .ok (.iload_n 0, 1) := by decide +kernel
theorem dX8_bound_3 : decode cX8_bound 3 = .ok (.invokestatic 80, 3) := by decide +kernel
theorem dX8_bound_6 : decode cX8_bound 6 = .ok (.invokestatic 86, 3) := by decide +kernel
theorem dX8_bound_9 : decode cX8_bound 9 = .ok (.ireturn, 1) := by decide +kernel
theorem dX8_keep_0 : decode cX8_keep 0 = .ok (.iconst 0, 1) := by decide +kernel
theorem dX8_keep_1 : decode cX8_keep 1 = .ok (.istore_n 2, 1) := by decide +kernel
theorem dX8_keep_2 : decode cX8_keep 2 = .ok (.iload_n 2, 1) := by decide +kernel
theorem dX8_keep_3 : decode cX8_keep 3 = .ok (.bipush 58, 2) := by decide +kernel
theorem dX8_keep_5 : decode cX8_keep 5 = .ok (.if_icmp .ge 18, 3) := by decide +kernel
theorem dX8_keep_8 : decode cX8_keep 8 = .ok (.aload_n 1, 1) := by decide +kernel
theorem dX8_keep_9 : decode cX8_keep 9 = .ok (.iload_n 2, 1) := by decide +kernel
theorem dX8_keep_10 : decode cX8_keep 10 = .ok (.aload_n 0, 1) := by decide +kernel
theorem dX8_keep_11 : decode cX8_keep 11 = .ok (.getfield 7, 3) := by decide +kernel
theorem dX8_keep_14 : decode cX8_keep 14 = .ok (.iload_n 2, 1) := by decide +kernel
theorem dX8_keep_15 : decode cX8_keep 15 = .ok (.iaload, 1) := by decide +kernel
theorem dX8_keep_16 : decode cX8_keep 16 = .ok (.iastore, 1) := by decide +kernel
theorem dX8_keep_17 : decode cX8_keep 17 = .ok (.iinc 2 1, 3) := by decide +kernel
theorem dX8_keep_20 : decode cX8_keep 20 = .ok (.goto (-18), 3) := by decide +kernel
theorem dX8_keep_23 : decode cX8_keep 23 = .ok (.return_, 1) := by decide +kernel
theorem dX8_lay_0 : decode cX8_lay 0 = .ok (.iconst 0, 1) := by decide +kernel
theorem dX8_lay_1 : decode cX8_lay 1 = .ok (.istore_n 2, 1) := by decide +kernel
theorem dX8_lay_2 : decode cX8_lay 2 = .ok (.iload_n 2, 1) := by decide +kernel
theorem dX8_lay_3 : decode cX8_lay 3 = .ok (.bipush 58, 2) := by decide +kernel
theorem dX8_lay_5 : decode cX8_lay 5 = .ok (.if_icmp .ge 18, 3) := by decide +kernel
theorem dX8_lay_8 : decode cX8_lay 8 = .ok (.aload_n 0, 1) := by decide +kernel
theorem dX8_lay_9 : decode cX8_lay 9 = .ok (.getfield 7, 3) := by decide +kernel
theorem dX8_lay_12 : decode cX8_lay 12 = .ok (.iload_n 2, 1) := by decide +kernel
theorem dX8_lay_13 : decode cX8_lay 13 = .ok (.aload_n 1, 1) := by decide +kernel
theorem dX8_lay_14 : decode cX8_lay 14 = .ok (.iload_n 2, 1) := by decide +kernel
theorem dX8_lay_15 : decode cX8_lay 15 = .ok (.iaload, 1) := by decide +kernel
theorem dX8_lay_16 : decode cX8_lay 16 = .ok (.iastore, 1) := by decide +kernel
theorem dX8_lay_17 : decode cX8_lay 17 = .ok (.iinc 2 1, 3) := by decide +kernel
theorem dX8_lay_20 : decode cX8_lay 20 = .ok (.goto (-18), 3) := by decide +kernel
theorem dX8_lay_23 : decode cX8_lay 23 = .ok (.return_, 1) := by decide +kernel
theorem dX8_many_0 : decode cX8_many 0 = .ok (.aload_n 0, 1) := by decide +kernel
theorem dX8_many_1 : decode cX8_many 1 = .ok (.getfield 7, 3) := by decide +kernel
theorem dX8_many_4 : decode cX8_many 4 = .ok (.bipush 55, 2) := by decide +kernel
theorem dX8_many_6 : decode cX8_many 6 = .ok (.iaload, 1) := by decide +kernel
theorem dX8_many_7 : decode cX8_many 7 = .ok (.ireturn, 1) := by decide +kernel
theorem dX8_isOne_0 : decode cX8_isOne 0 = .ok (.iload_n 1, 1) := by decide +kernel
theorem dX8_isOne_1 : decode cX8_isOne 1 = .ok (.iconst 0, 1) := by decide +kernel
theorem dX8_isOne_2 : decode cX8_isOne 2 = .ok (.aload_n 0, 1) := by decide +kernel
theorem dX8_isOne_3 : decode cX8_isOne 3 = .ok (.getfield 7, 3) := by decide +kernel
theorem dX8_isOne_6 : decode cX8_isOne 6 = .ok (.bipush 55, 2) := by decide +kernel
theorem dX8_isOne_8 : decode cX8_isOne 8 = .ok (.iaload, 1) := by decide +kernel
theorem dX8_isOne_9 : decode cX8_isOne 9 = .ok (.iconst 1, 1) := by decide +kernel
theorem dX8_isOne_10 : decode cX8_isOne 10 = .ok (.isub, 1) := by decide +kernel
theorem dX8_isOne_11 : decode cX8_isOne 11 = .ok (.invokestatic 89, 3) := by decide +kernel
theorem dX8_isOne_14 : decode cX8_isOne 14 = .ok (.ireturn, 1) := by decide +kernel
theorem dX8_isTwo_0 : decode cX8_isTwo 0 = .ok (.aload_n 0, 1) := by decide +kernel
theorem dX8_isTwo_1 : decode cX8_isTwo 1 = .ok (.iload_n 1, 1) := by decide +kernel
theorem dX8_isTwo_2 : decode cX8_isTwo 2 = .ok (.invokevirtual 93, 3) := by decide +kernel
theorem dX8_isTwo_5 : decode cX8_isTwo 5 = .ok (.ifCond .eq 20, 3) := by decide +kernel
theorem dX8_isTwo_8 : decode cX8_isTwo 8 = .ok (.aload_n 0, 1) := by decide +kernel
theorem dX8_isTwo_9 : decode cX8_isTwo 9 = .ok (.iload_n 2, 1) := by decide +kernel
theorem dX8_isTwo_10 : decode cX8_isTwo 10 = .ok (.invokevirtual 93, 3) := by decide +kernel
theorem dX8_isTwo_13 : decode cX8_isTwo 13 = .ok (.ifCond .eq 12, 3) := by decide +kernel
theorem dX8_isTwo_16 : decode cX8_isTwo 16 = .ok (.iload_n 1, 1) := by decide +kernel
theorem dX8_isTwo_17 : decode cX8_isTwo 17 = .ok (.iload_n 2, 1) := by decide +kernel
theorem dX8_isTwo_18 : decode cX8_isTwo 18 = .ok (.if_icmp .eq 7, 3) := by decide +kernel
theorem dX8_isTwo_21 : decode cX8_isTwo 21 = .ok (.iconst 1, 1) := by decide +kernel
theorem dX8_isTwo_22 : decode cX8_isTwo 22 = .ok (.goto 4, 3) := by decide +kernel
theorem dX8_isTwo_25 : decode cX8_isTwo 25 = .ok (.iconst 0, 1) := by decide +kernel
theorem dX8_isTwo_26 : decode cX8_isTwo 26 = .ok (.ireturn, 1) := by decide +kernel
theorem dX8_of_0 : decode cX8_of 0 = .ok (.aload_n 0, 1) := by decide +kernel
theorem dX8_of_1 : decode cX8_of 1 = .ok (.getfield 7, 3) := by decide +kernel
theorem dX8_of_4 : decode cX8_of 4 = .ok (.bipush 11, 2) := by decide +kernel
theorem dX8_of_6 : decode cX8_of 6 = .ok (.iload_n 1, 1) := by decide +kernel
theorem dX8_of_7 : decode cX8_of 7 = .ok (.imul, 1) := by decide +kernel
theorem dX8_of_8 : decode cX8_of 8 = .ok (.iload_n 2, 1) := by decide +kernel
theorem dX8_of_9 : decode cX8_of 9 = .ok (.iadd, 1) := by decide +kernel
theorem dX8_of_10 : decode cX8_of 10 = .ok (.iaload, 1) := by decide +kernel
theorem dX8_of_11 : decode cX8_of 11 = .ok (.ireturn, 1) := by decide +kernel
theorem dX8_change_0 : decode cX8_change 0 = .ok (.aload_n 0, 1) := by decide +kernel
theorem dX8_change_1 : decode cX8_change 1 = .ok (.getfield 7, 3) := by decide +kernel
theorem dX8_change_4 : decode cX8_change 4 = .ok (.bipush 11, 2) := by decide +kernel
theorem dX8_change_6 : decode cX8_change 6 = .ok (.iload_n 1, 1) := by decide +kernel
theorem dX8_change_7 : decode cX8_change 7 = .ok (.imul, 1) := by decide +kernel
theorem dX8_change_8 : decode cX8_change 8 = .ok (.iload_n 2, 1) := by decide +kernel
theorem dX8_change_9 : decode cX8_change 9 = .ok (.iadd, 1) := by decide +kernel
theorem dX8_change_10 : decode cX8_change 10 = .ok (.iload_n 3, 1) := by decide +kernel
theorem dX8_change_11 : decode cX8_change 11 = .ok (.iastore, 1) := by decide +kernel
theorem dX8_change_12 : decode cX8_change 12 = .ok (.return_, 1) := by decide +kernel
theorem dX8_place_0 : decode cX8_place 0 = .ok (.iload_n 1, 1) := by decide +kernel
theorem dX8_place_1 : decode cX8_place 1 = .ok (.bipush 6, 2) := by decide +kernel
theorem dX8_place_3 : decode cX8_place 3 = .ok (.if_icmp .ne 42, 3) := by decide +kernel
theorem dX8_place_6 : decode cX8_place 6 = .ok (.iload_n 2, 1) := by decide +kernel
theorem dX8_place_7 : decode cX8_place 7 = .ok (.ifCond .lt 36, 3) := by decide +kernel
theorem dX8_place_10 : decode cX8_place 10 = .ok (.aload_n 0, 1) := by decide +kernel
theorem dX8_place_11 : decode cX8_place 11 = .ok (.iload_n 2, 1) := by decide +kernel
theorem dX8_place_12 : decode cX8_place 12 = .ok (.bipush 10, 2) := by decide +kernel
theorem dX8_place_14 : decode cX8_place 14 = .ok (.idiv, 1) := by decide +kernel
theorem dX8_place_15 : decode cX8_place 15 = .ok (.iload_n 2, 1) := by decide +kernel
theorem dX8_place_16 : decode cX8_place 16 = .ok (.bipush 10, 2) := by decide +kernel
theorem dX8_place_18 : decode cX8_place 18 = .ok (.irem, 1) := by decide +kernel
theorem dX8_place_19 : decode cX8_place 19 = .ok (.invokevirtual 97, 3) := by decide +kernel
theorem dX8_place_22 : decode cX8_place 22 = .ok (.ifCond .eq 21, 3) := by decide +kernel
theorem dX8_place_25 : decode cX8_place 25 = .ok (.bipush 11, 2) := by decide +kernel
theorem dX8_place_27 : decode cX8_place 27 = .ok (.iload_n 2, 1) := by decide +kernel
theorem dX8_place_28 : decode cX8_place 28 = .ok (.bipush 10, 2) := by decide +kernel
theorem dX8_place_30 : decode cX8_place 30 = .ok (.idiv, 1) := by decide +kernel
theorem dX8_place_31 : decode cX8_place 31 = .ok (.imul, 1) := by decide +kernel
theorem dX8_place_32 : decode cX8_place 32 = .ok (.bipush 6, 2) := by decide +kernel
theorem dX8_place_34 : decode cX8_place 34 = .ok (.iadd, 1) := by decide +kernel
theorem dX8_place_35 : decode cX8_place 35 = .ok (.iload_n 2, 1) := by decide +kernel
theorem dX8_place_36 : decode cX8_place 36 = .ok (.bipush 10, 2) := by decide +kernel
theorem dX8_place_38 : decode cX8_place 38 = .ok (.irem, 1) := by decide +kernel
theorem dX8_place_39 : decode cX8_place 39 = .ok (.iadd, 1) := by decide +kernel
theorem dX8_place_40 : decode cX8_place 40 = .ok (.goto 4, 3) := by decide +kernel
theorem dX8_place_43 : decode cX8_place 43 = .ok (.iconst (-1), 1) := by decide +kernel
theorem dX8_place_44 : decode cX8_place 44 = .ok (.ireturn, 1) := by decide +kernel
theorem dX8_place_45 : decode cX8_place 45 = .ok (.iload_n 1, 1) := by decide +kernel
theorem dX8_place_46 : decode cX8_place 46 = .ok (.ifCond .ne 8, 3) := by decide +kernel
theorem dX8_place_49 : decode cX8_place 49 = .ok (.bipush 56, 2) := by decide +kernel
theorem dX8_place_51 : decode cX8_place 51 = .ok (.goto 21, 3) := by decide +kernel
theorem dX8_place_54 : decode cX8_place 54 = .ok (.aload_n 0, 1) := by decide +kernel
theorem dX8_place_55 : decode cX8_place 55 = .ok (.iload_n 2, 1) := by decide +kernel
theorem dX8_place_56 : decode cX8_place 56 = .ok (.invokevirtual 93, 3) := by decide +kernel
theorem dX8_place_59 : decode cX8_place 59 = .ok (.ifCond .eq 12, 3) := by decide +kernel
theorem dX8_place_62 : decode cX8_place 62 = .ok (.bipush 11, 2) := by decide +kernel
theorem dX8_place_64 : decode cX8_place 64 = .ok (.iload_n 2, 1) := by decide +kernel
theorem dX8_place_65 : decode cX8_place 65 = .ok (.imul, 1) := by decide +kernel
theorem dX8_place_66 : decode cX8_place 66 = .ok (.iload_n 1, 1) := by decide +kernel
theorem dX8_place_67 : decode cX8_place 67 = .ok (.iadd, 1) := by decide +kernel
theorem dX8_place_68 : decode cX8_place 68 = .ok (.goto 4, 3) := by decide +kernel
theorem dX8_place_71 : decode cX8_place 71 = .ok (.iconst (-1), 1) := by decide +kernel
theorem dX8_place_72 : decode cX8_place 72 = .ok (.ireturn, 1) := by decide +kernel
theorem dX8_set_0 : decode cX8_set 0 = .ok (.iload_n 1, 1) := by decide +kernel
theorem dX8_set_1 : decode cX8_set 1 = .ok (.iconst 0, 1) := by decide +kernel
theorem dX8_set_2 : decode cX8_set 2 = .ok (.bipush 6, 2) := by decide +kernel
theorem dX8_set_4 : decode cX8_set 4 = .ok (.invokestatic 89, 3) := by decide +kernel
theorem dX8_set_7 : decode cX8_set 7 = .ok (.ifCond .eq 27, 3) := by decide +kernel
theorem dX8_set_10 : decode cX8_set 10 = .ok (.iload_n 3, 1) := by decide +kernel
theorem dX8_set_11 : decode cX8_set 11 = .ok (.iconst 0, 1) := by decide +kernel
theorem dX8_set_12 : decode cX8_set 12 = .ok (.aload_n 0, 1) := by decide +kernel
theorem dX8_set_13 : decode cX8_set 13 = .ok (.getfield 19, 3) := by decide +kernel
theorem dX8_set_16 : decode cX8_set 16 = .ok (.iload_n 1, 1) := by decide +kernel
theorem dX8_set_17 : decode cX8_set 17 = .ok (.iaload, 1) := by decide +kernel
theorem dX8_set_18 : decode cX8_set 18 = .ok (.invokestatic 89, 3) := by decide +kernel
theorem dX8_set_21 : decode cX8_set 21 = .ok (.ifCond .eq 13, 3) := by decide +kernel
theorem dX8_set_24 : decode cX8_set 24 = .ok (.aload_n 0, 1) := by decide +kernel
theorem dX8_set_25 : decode cX8_set 25 = .ok (.iload_n 1, 1) := by decide +kernel
theorem dX8_set_26 : decode cX8_set 26 = .ok (.iload_n 2, 1) := by decide +kernel
theorem dX8_set_27 : decode cX8_set 27 = .ok (.invokevirtual 101, 3) := by decide +kernel
theorem dX8_set_30 : decode cX8_set 30 = .ok (.iconst (-1), 1) := by decide +kernel
theorem dX8_set_31 : decode cX8_set 31 = .ok (.if_icmp .ne 6, 3) := by decide +kernel
theorem dX8_set_34 : decode cX8_set 34 = .ok (.bipush (-2), 2) := by decide +kernel
theorem dX8_set_36 : decode cX8_set 36 = .ok (.ireturn, 1) := by decide +kernel
theorem dX8_set_37 : decode cX8_set 37 = .ok (.aload_n 0, 1) := by decide +kernel
theorem dX8_set_38 : decode cX8_set 38 = .ok (.getfield 7, 3) := by decide +kernel
theorem dX8_set_41 : decode cX8_set 41 = .ok (.aload_n 0, 1) := by decide +kernel
theorem dX8_set_42 : decode cX8_set 42 = .ok (.iload_n 1, 1) := by decide +kernel
theorem dX8_set_43 : decode cX8_set 43 = .ok (.iload_n 2, 1) := by decide +kernel
theorem dX8_set_44 : decode cX8_set 44 = .ok (.invokevirtual 101, 3) := by decide +kernel
theorem dX8_set_47 : decode cX8_set 47 = .ok (.iaload, 1) := by decide +kernel
theorem dX8_set_48 : decode cX8_set 48 = .ok (.istore 4, 2) := by decide +kernel
theorem dX8_set_50 : decode cX8_set 50 = .ok (.aload_n 0, 1) := by decide +kernel
theorem dX8_set_51 : decode cX8_set 51 = .ok (.getfield 7, 3) := by decide +kernel
theorem dX8_set_54 : decode cX8_set 54 = .ok (.aload_n 0, 1) := by decide +kernel
theorem dX8_set_55 : decode cX8_set 55 = .ok (.iload_n 1, 1) := by decide +kernel
theorem dX8_set_56 : decode cX8_set 56 = .ok (.iload_n 2, 1) := by decide +kernel
theorem dX8_set_57 : decode cX8_set 57 = .ok (.invokevirtual 101, 3) := by decide +kernel
theorem dX8_set_60 : decode cX8_set 60 = .ok (.iload_n 3, 1) := by decide +kernel
theorem dX8_set_61 : decode cX8_set 61 = .ok (.iastore, 1) := by decide +kernel
theorem dX8_set_62 : decode cX8_set 62 = .ok (.iload 4, 2) := by decide +kernel
theorem dX8_set_64 : decode cX8_set 64 = .ok (.ireturn, 1) := by decide +kernel
theorem dX8_person_0 : decode cX8_person 0 = .ok (.iload_n 1, 1) := by decide +kernel
theorem dX8_person_1 : decode cX8_person 1 = .ok (.iconst 0, 1) := by decide +kernel
theorem dX8_person_2 : decode cX8_person 2 = .ok (.iconst 5, 1) := by decide +kernel
theorem dX8_person_3 : decode cX8_person 3 = .ok (.invokestatic 89, 3) := by decide +kernel
theorem dX8_person_6 : decode cX8_person 6 = .ok (.ifCond .eq 23, 3) := by decide +kernel
theorem dX8_person_9 : decode cX8_person 9 = .ok (.iload_n 2, 1) := by decide +kernel
theorem dX8_person_10 : decode cX8_person 10 = .ok (.iconst 0, 1) := by decide +kernel
theorem dX8_person_11 : decode cX8_person 11 = .ok (.bipush 9, 2) := by decide +kernel
theorem dX8_person_13 : decode cX8_person 13 = .ok (.invokestatic 89, 3) := by decide +kernel
theorem dX8_person_16 : decode cX8_person 16 = .ok (.ifCond .eq 13, 3) := by decide +kernel
theorem dX8_person_19 : decode cX8_person 19 = .ok (.iload_n 3, 1) := by decide +kernel
theorem dX8_person_20 : decode cX8_person 20 = .ok (.iconst 0, 1) := by decide +kernel
theorem dX8_person_21 : decode cX8_person 21 = .ok (.bipush 23, 2) := by decide +kernel
theorem dX8_person_23 : decode cX8_person 23 = .ok (.invokestatic 89, 3) := by decide +kernel
theorem dX8_person_26 : decode cX8_person 26 = .ok (.ifCond .ne 6, 3) := by decide +kernel
theorem dX8_person_29 : decode cX8_person 29 = .ok (.bipush (-2), 2) := by decide +kernel
theorem dX8_person_31 : decode cX8_person 31 = .ok (.ireturn, 1) := by decide +kernel
theorem dX8_person_32 : decode cX8_person 32 = .ok (.aload_n 0, 1) := by decide +kernel
theorem dX8_person_33 : decode cX8_person 33 = .ok (.invokevirtual 104, 3) := by decide +kernel
theorem dX8_person_36 : decode cX8_person 36 = .ok (.iconst 5, 1) := by decide +kernel
theorem dX8_person_37 : decode cX8_person 37 = .ok (.if_icmp .ne 6, 3) := by decide +kernel
theorem dX8_person_40 : decode cX8_person 40 = .ok (.bipush (-4), 2) := by decide +kernel
theorem dX8_person_42 : decode cX8_person 42 = .ok (.ireturn, 1) := by decide +kernel
theorem dX8_person_43 : decode cX8_person 43 = .ok (.aload_n 0, 1) := by decide +kernel
theorem dX8_person_44 : decode cX8_person 44 = .ok (.invokevirtual 104, 3) := by decide +kernel
theorem dX8_person_47 : decode cX8_person 47 = .ok (.istore 4, 2) := by decide +kernel
theorem dX8_person_49 : decode cX8_person 49 = .ok (.iconst 0, 1) := by decide +kernel
theorem dX8_person_50 : decode cX8_person 50 = .ok (.istore 5, 2) := by decide +kernel
theorem dX8_person_52 : decode cX8_person 52 = .ok (.iload 5, 2) := by decide +kernel
theorem dX8_person_54 : decode cX8_person 54 = .ok (.bipush 11, 2) := by decide +kernel
theorem dX8_person_56 : decode cX8_person 56 = .ok (.if_icmp .ge 29, 3) := by decide +kernel
theorem dX8_person_59 : decode cX8_person 59 = .ok (.aload_n 0, 1) := by decide +kernel
theorem dX8_person_60 : decode cX8_person 60 = .ok (.iload 4, 2) := by decide +kernel
theorem dX8_person_62 : decode cX8_person 62 = .ok (.iload 5, 2) := by decide +kernel
theorem dX8_person_64 : decode cX8_person 64 = .ok (.iload 5, 2) := by decide +kernel
theorem dX8_person_66 : decode cX8_person 66 = .ok (.bipush 6, 2) := by decide +kernel
theorem dX8_person_68 : decode cX8_person 68 = .ok (.if_icmp .ge 7, 3) := by decide +kernel
theorem dX8_person_71 : decode cX8_person 71 = .ok (.iconst 0, 1) := by decide +kernel
theorem dX8_person_72 : decode cX8_person 72 = .ok (.goto 4, 3) := by decide +kernel
theorem dX8_person_75 : decode cX8_person 75 = .ok (.iconst 1, 1) := by decide +kernel
theorem dX8_person_76 : decode cX8_person 76 = .ok (.invokevirtual 107, 3) := by decide +kernel
theorem dX8_person_79 : decode cX8_person 79 = .ok (.iinc 5 1, 3) := by decide +kernel
theorem dX8_person_82 : decode cX8_person 82 = .ok (.goto (-30), 3) := by decide +kernel
theorem dX8_person_85 : decode cX8_person 85 = .ok (.aload_n 0, 1) := by decide +kernel
theorem dX8_person_86 : decode cX8_person 86 = .ok (.iload 4, 2) := by decide +kernel
theorem dX8_person_88 : decode cX8_person 88 = .ok (.iconst 0, 1) := by decide +kernel
theorem dX8_person_89 : decode cX8_person 89 = .ok (.iload_n 1, 1) := by decide +kernel
theorem dX8_person_90 : decode cX8_person 90 = .ok (.invokevirtual 107, 3) := by decide +kernel
theorem dX8_person_93 : decode cX8_person 93 = .ok (.aload_n 0, 1) := by decide +kernel
theorem dX8_person_94 : decode cX8_person 94 = .ok (.iload 4, 2) := by decide +kernel
theorem dX8_person_96 : decode cX8_person 96 = .ok (.iconst 1, 1) := by decide +kernel
theorem dX8_person_97 : decode cX8_person 97 = .ok (.iload_n 2, 1) := by decide +kernel
theorem dX8_person_98 : decode cX8_person 98 = .ok (.invokevirtual 107, 3) := by decide +kernel
theorem dX8_person_101 : decode cX8_person 101 = .ok (.aload_n 0, 1) := by decide +kernel
theorem dX8_person_102 : decode cX8_person 102 = .ok (.iload 4, 2) := by decide +kernel
theorem dX8_person_104 : decode cX8_person 104 = .ok (.iconst 2, 1) := by decide +kernel
theorem dX8_person_105 : decode cX8_person 105 = .ok (.iload_n 3, 1) := by decide +kernel
theorem dX8_person_106 : decode cX8_person 106 = .ok (.invokevirtual 107, 3) := by decide +kernel
theorem dX8_person_109 : decode cX8_person 109 = .ok (.iconst 0, 1) := by decide +kernel
theorem dX8_person_110 : decode cX8_person 110 = .ok (.istore 5, 2) := by decide +kernel
theorem dX8_person_112 : decode cX8_person 112 = .ok (.iload 5, 2) := by decide +kernel
theorem dX8_person_114 : decode cX8_person 114 = .ok (.iload 4, 2) := by decide +kernel
theorem dX8_person_116 : decode cX8_person 116 = .ok (.if_icmp .ge 21, 3) := by decide +kernel
theorem dX8_person_119 : decode cX8_person 119 = .ok (.aload_n 0, 1) := by decide +kernel
theorem dX8_person_120 : decode cX8_person 120 = .ok (.iload 5, 2) := by decide +kernel
theorem dX8_person_122 : decode cX8_person 122 = .ok (.bipush 6, 2) := by decide +kernel
theorem dX8_person_124 : decode cX8_person 124 = .ok (.iload 4, 2) := by decide +kernel
theorem dX8_person_126 : decode cX8_person 126 = .ok (.iadd, 1) := by decide +kernel
theorem dX8_person_127 : decode cX8_person 127 = .ok (.iconst 1, 1) := by decide +kernel
theorem dX8_person_128 : decode cX8_person 128 = .ok (.invokevirtual 107, 3) := by decide +kernel
theorem dX8_person_131 : decode cX8_person 131 = .ok (.iinc 5 1, 3) := by decide +kernel
theorem dX8_person_134 : decode cX8_person 134 = .ok (.goto (-22), 3) := by decide +kernel
theorem dX8_person_137 : decode cX8_person 137 = .ok (.aload_n 0, 1) := by decide +kernel
theorem dX8_person_138 : decode cX8_person 138 = .ok (.getfield 7, 3) := by decide +kernel
theorem dX8_person_141 : decode cX8_person 141 = .ok (.bipush 55, 2) := by decide +kernel
theorem dX8_person_143 : decode cX8_person 143 = .ok (.dup2, 1) := by decide +kernel
theorem dX8_person_144 : decode cX8_person 144 = .ok (.iaload, 1) := by decide +kernel
theorem dX8_person_145 : decode cX8_person 145 = .ok (.iconst 1, 1) := by decide +kernel
theorem dX8_person_146 : decode cX8_person 146 = .ok (.iadd, 1) := by decide +kernel

theorem d_M_init_0 : decode k_M_init 0 = .ok (.aload_n 0, 1) := by decide +kernel
theorem d_M_init_1 : decode k_M_init 1 = .ok (.invokespecial 1, 3) := by decide +kernel
theorem d_M_init_4 : decode k_M_init 4 = .ok (.aload_n 0, 1) := by decide +kernel
theorem d_M_init_5 : decode k_M_init 5 = .ok (.bipush 82, 2) := by decide +kernel
theorem d_M_init_7 : decode k_M_init 7 = .ok (.newarray .int, 2) := by decide +kernel
theorem d_M_init_9 : decode k_M_init 9 = .ok (.dup, 1) := by decide +kernel
theorem d_M_init_10 : decode k_M_init 10 = .ok (.iconst 0, 1) := by decide +kernel
theorem d_M_init_11 : decode k_M_init 11 = .ok (.bipush 80, 2) := by decide +kernel
theorem d_M_init_13 : decode k_M_init 13 = .ok (.iastore, 1) := by decide +kernel
theorem d_M_init_14 : decode k_M_init 14 = .ok (.dup, 1) := by decide +kernel
theorem d_M_init_15 : decode k_M_init 15 = .ok (.iconst 1, 1) := by decide +kernel
theorem d_M_init_16 : decode k_M_init 16 = .ok (.bipush 79, 2) := by decide +kernel
theorem d_M_init_18 : decode k_M_init 18 = .ok (.iastore, 1) := by decide +kernel
theorem d_M_init_19 : decode k_M_init 19 = .ok (.dup, 1) := by decide +kernel
theorem d_M_init_20 : decode k_M_init 20 = .ok (.iconst 2, 1) := by decide +kernel
theorem d_M_init_21 : decode k_M_init 21 = .ok (.bipush 73, 2) := by decide +kernel
theorem d_M_init_23 : decode k_M_init 23 = .ok (.iastore, 1) := by decide +kernel
theorem d_M_init_24 : decode k_M_init 24 = .ok (.dup, 1) := by decide +kernel
theorem d_M_init_25 : decode k_M_init 25 = .ok (.iconst 3, 1) := by decide +kernel
theorem d_M_init_26 : decode k_M_init 26 = .ok (.bipush 78, 2) := by decide +kernel
theorem d_M_init_28 : decode k_M_init 28 = .ok (.iastore, 1) := by decide +kernel
theorem d_M_init_29 : decode k_M_init 29 = .ok (.dup, 1) := by decide +kernel
theorem d_M_init_30 : decode k_M_init 30 = .ok (.iconst 4, 1) := by decide +kernel
theorem d_M_init_31 : decode k_M_init 31 = .ok (.bipush 84, 2) := by decide +kernel
theorem d_M_init_33 : decode k_M_init 33 = .ok (.iastore, 1) := by decide +kernel
theorem d_M_init_34 : decode k_M_init 34 = .ok (.dup, 1) := by decide +kernel
theorem d_M_init_35 : decode k_M_init 35 = .ok (.iconst 5, 1) := by decide +kernel
theorem d_M_init_36 : decode k_M_init 36 = .ok (.bipush 76, 2) := by decide +kernel
theorem d_M_init_38 : decode k_M_init 38 = .ok (.iastore, 1) := by decide +kernel
theorem d_M_init_39 : decode k_M_init 39 = .ok (.dup, 1) := by decide +kernel
theorem d_M_init_40 : decode k_M_init 40 = .ok (.bipush 6, 2) := by decide +kernel
theorem d_M_init_42 : decode k_M_init 42 = .ok (.bipush 73, 2) := by decide +kernel
theorem d_M_init_44 : decode k_M_init 44 = .ok (.iastore, 1) := by decide +kernel
theorem d_M_init_45 : decode k_M_init 45 = .ok (.dup, 1) := by decide +kernel
theorem d_M_init_46 : decode k_M_init 46 = .ok (.bipush 7, 2) := by decide +kernel
theorem d_M_init_48 : decode k_M_init 48 = .ok (.bipush 78, 2) := by decide +kernel
theorem d_M_init_50 : decode k_M_init 50 = .ok (.iastore, 1) := by decide +kernel
theorem d_M_init_51 : decode k_M_init 51 = .ok (.dup, 1) := by decide +kernel
theorem d_M_init_52 : decode k_M_init 52 = .ok (.bipush 8, 2) := by decide +kernel
theorem d_M_init_54 : decode k_M_init 54 = .ok (.bipush 69, 2) := by decide +kernel
theorem d_M_init_56 : decode k_M_init 56 = .ok (.iastore, 1) := by decide +kernel
theorem d_M_init_57 : decode k_M_init 57 = .ok (.dup, 1) := by decide +kernel
theorem d_M_init_58 : decode k_M_init 58 = .ok (.bipush 9, 2) := by decide +kernel
theorem d_M_init_60 : decode k_M_init 60 = .ok (.bipush 83, 2) := by decide +kernel
theorem d_M_init_62 : decode k_M_init 62 = .ok (.iastore, 1) := by decide +kernel
theorem d_M_init_63 : decode k_M_init 63 = .ok (.dup, 1) := by decide +kernel
theorem d_M_init_64 : decode k_M_init 64 = .ok (.bipush 10, 2) := by decide +kernel
theorem d_M_init_66 : decode k_M_init 66 = .ok (.bipush 84, 2) := by decide +kernel
theorem d_M_init_68 : decode k_M_init 68 = .ok (.iastore, 1) := by decide +kernel
theorem d_M_init_69 : decode k_M_init 69 = .ok (.dup, 1) := by decide +kernel
theorem d_M_init_70 : decode k_M_init 70 = .ok (.bipush 11, 2) := by decide +kernel
theorem d_M_init_72 : decode k_M_init 72 = .ok (.bipush 82, 2) := by decide +kernel
theorem d_M_init_74 : decode k_M_init 74 = .ok (.iastore, 1) := by decide +kernel
theorem d_M_init_75 : decode k_M_init 75 = .ok (.dup, 1) := by decide +kernel
theorem d_M_init_76 : decode k_M_init 76 = .ok (.bipush 12, 2) := by decide +kernel
theorem d_M_init_78 : decode k_M_init 78 = .ok (.bipush 73, 2) := by decide +kernel
theorem d_M_init_80 : decode k_M_init 80 = .ok (.iastore, 1) := by decide +kernel
theorem d_M_init_81 : decode k_M_init 81 = .ok (.dup, 1) := by decide +kernel
theorem d_M_init_82 : decode k_M_init 82 = .ok (.bipush 13, 2) := by decide +kernel
theorem d_M_init_84 : decode k_M_init 84 = .ok (.bipush 78, 2) := by decide +kernel
theorem d_M_init_86 : decode k_M_init 86 = .ok (.iastore, 1) := by decide +kernel
theorem d_M_init_87 : decode k_M_init 87 = .ok (.dup, 1) := by decide +kernel
theorem d_M_init_88 : decode k_M_init 88 = .ok (.bipush 14, 2) := by decide +kernel
theorem d_M_init_90 : decode k_M_init 90 = .ok (.bipush 71, 2) := by decide +kernel
theorem d_M_init_92 : decode k_M_init 92 = .ok (.iastore, 1) := by decide +kernel
theorem d_M_init_93 : decode k_M_init 93 = .ok (.dup, 1) := by decide +kernel
theorem d_M_init_94 : decode k_M_init 94 = .ok (.bipush 15, 2) := by decide +kernel
theorem d_M_init_96 : decode k_M_init 96 = .ok (.bipush 80, 2) := by decide +kernel
theorem d_M_init_98 : decode k_M_init 98 = .ok (.iastore, 1) := by decide +kernel
theorem d_M_init_99 : decode k_M_init 99 = .ok (.dup, 1) := by decide +kernel
theorem d_M_init_100 : decode k_M_init 100 = .ok (.bipush 16, 2) := by decide +kernel
theorem d_M_init_102 : decode k_M_init 102 = .ok (.bipush 79, 2) := by decide +kernel
theorem d_M_init_104 : decode k_M_init 104 = .ok (.iastore, 1) := by decide +kernel
theorem d_M_init_105 : decode k_M_init 105 = .ok (.dup, 1) := by decide +kernel
theorem d_M_init_106 : decode k_M_init 106 = .ok (.bipush 17, 2) := by decide +kernel
theorem d_M_init_108 : decode k_M_init 108 = .ok (.bipush 76, 2) := by decide +kernel
theorem d_M_init_110 : decode k_M_init 110 = .ok (.iastore, 1) := by decide +kernel
theorem d_M_init_111 : decode k_M_init 111 = .ok (.dup, 1) := by decide +kernel
theorem d_M_init_112 : decode k_M_init 112 = .ok (.bipush 18, 2) := by decide +kernel
theorem d_M_init_114 : decode k_M_init 114 = .ok (.bipush 89, 2) := by decide +kernel
theorem d_M_init_116 : decode k_M_init 116 = .ok (.iastore, 1) := by decide +kernel
theorem d_M_init_117 : decode k_M_init 117 = .ok (.dup, 1) := by decide +kernel
theorem d_M_init_118 : decode k_M_init 118 = .ok (.bipush 19, 2) := by decide +kernel
theorem d_M_init_120 : decode k_M_init 120 = .ok (.bipush 71, 2) := by decide +kernel
theorem d_M_init_122 : decode k_M_init 122 = .ok (.iastore, 1) := by decide +kernel
theorem d_M_init_123 : decode k_M_init 123 = .ok (.dup, 1) := by decide +kernel
theorem d_M_init_124 : decode k_M_init 124 = .ok (.bipush 20, 2) := by decide +kernel
theorem d_M_init_126 : decode k_M_init 126 = .ok (.bipush 79, 2) := by decide +kernel
theorem d_M_init_128 : decode k_M_init 128 = .ok (.iastore, 1) := by decide +kernel
theorem d_M_init_129 : decode k_M_init 129 = .ok (.dup, 1) := by decide +kernel
theorem d_M_init_130 : decode k_M_init 130 = .ok (.bipush 21, 2) := by decide +kernel
theorem d_M_init_132 : decode k_M_init 132 = .ok (.bipush 78, 2) := by decide +kernel
theorem d_M_init_134 : decode k_M_init 134 = .ok (.iastore, 1) := by decide +kernel
theorem d_M_init_135 : decode k_M_init 135 = .ok (.dup, 1) := by decide +kernel
theorem d_M_init_136 : decode k_M_init 136 = .ok (.bipush 22, 2) := by decide +kernel
theorem d_M_init_138 : decode k_M_init 138 = .ok (.bipush 77, 2) := by decide +kernel
theorem d_M_init_140 : decode k_M_init 140 = .ok (.iastore, 1) := by decide +kernel
theorem d_M_init_141 : decode k_M_init 141 = .ok (.dup, 1) := by decide +kernel
theorem d_M_init_142 : decode k_M_init 142 = .ok (.bipush 23, 2) := by decide +kernel
theorem d_M_init_144 : decode k_M_init 144 = .ok (.bipush 85, 2) := by decide +kernel
theorem d_M_init_146 : decode k_M_init 146 = .ok (.iastore, 1) := by decide +kernel
theorem d_M_init_147 : decode k_M_init 147 = .ok (.dup, 1) := by decide +kernel
theorem d_M_init_148 : decode k_M_init 148 = .ok (.bipush 24, 2) := by decide +kernel
theorem d_M_init_150 : decode k_M_init 150 = .ok (.bipush 76, 2) := by decide +kernel
theorem d_M_init_152 : decode k_M_init 152 = .ok (.iastore, 1) := by decide +kernel
theorem d_M_init_153 : decode k_M_init 153 = .ok (.dup, 1) := by decide +kernel
theorem d_M_init_154 : decode k_M_init 154 = .ok (.bipush 25, 2) := by decide +kernel
theorem d_M_init_156 : decode k_M_init 156 = .ok (.bipush 84, 2) := by decide +kernel
theorem d_M_init_158 : decode k_M_init 158 = .ok (.iastore, 1) := by decide +kernel
theorem d_M_init_159 : decode k_M_init 159 = .ok (.dup, 1) := by decide +kernel
theorem d_M_init_160 : decode k_M_init 160 = .ok (.bipush 26, 2) := by decide +kernel
theorem d_M_init_162 : decode k_M_init 162 = .ok (.bipush 73, 2) := by decide +kernel
theorem d_M_init_164 : decode k_M_init 164 = .ok (.iastore, 1) := by decide +kernel
theorem d_M_init_165 : decode k_M_init 165 = .ok (.dup, 1) := by decide +kernel
theorem d_M_init_166 : decode k_M_init 166 = .ok (.bipush 27, 2) := by decide +kernel
theorem d_M_init_168 : decode k_M_init 168 = .ok (.bipush 80, 2) := by decide +kernel
theorem d_M_init_170 : decode k_M_init 170 = .ok (.iastore, 1) := by decide +kernel
theorem d_M_init_171 : decode k_M_init 171 = .ok (.dup, 1) := by decide +kernel
theorem d_M_init_172 : decode k_M_init 172 = .ok (.bipush 28, 2) := by decide +kernel
theorem d_M_init_174 : decode k_M_init 174 = .ok (.bipush 79, 2) := by decide +kernel
theorem d_M_init_176 : decode k_M_init 176 = .ok (.iastore, 1) := by decide +kernel
theorem d_M_init_177 : decode k_M_init 177 = .ok (.dup, 1) := by decide +kernel
theorem d_M_init_178 : decode k_M_init 178 = .ok (.bipush 29, 2) := by decide +kernel
theorem d_M_init_180 : decode k_M_init 180 = .ok (.bipush 73, 2) := by decide +kernel
theorem d_M_init_182 : decode k_M_init 182 = .ok (.iastore, 1) := by decide +kernel
theorem d_M_init_183 : decode k_M_init 183 = .ok (.dup, 1) := by decide +kernel
theorem d_M_init_184 : decode k_M_init 184 = .ok (.bipush 30, 2) := by decide +kernel
theorem d_M_init_186 : decode k_M_init 186 = .ok (.bipush 78, 2) := by decide +kernel
theorem d_M_init_188 : decode k_M_init 188 = .ok (.iastore, 1) := by decide +kernel
theorem d_M_init_189 : decode k_M_init 189 = .ok (.dup, 1) := by decide +kernel
theorem d_M_init_190 : decode k_M_init 190 = .ok (.bipush 31, 2) := by decide +kernel
theorem d_M_init_192 : decode k_M_init 192 = .ok (.bipush 84, 2) := by decide +kernel
theorem d_M_init_194 : decode k_M_init 194 = .ok (.iastore, 1) := by decide +kernel
theorem d_M_init_195 : decode k_M_init 195 = .ok (.dup, 1) := by decide +kernel
theorem d_M_init_196 : decode k_M_init 196 = .ok (.bipush 32, 2) := by decide +kernel
theorem d_M_init_198 : decode k_M_init 198 = .ok (.bipush 77, 2) := by decide +kernel
theorem d_M_init_200 : decode k_M_init 200 = .ok (.iastore, 1) := by decide +kernel
theorem d_M_init_201 : decode k_M_init 201 = .ok (.dup, 1) := by decide +kernel
theorem d_M_init_202 : decode k_M_init 202 = .ok (.bipush 33, 2) := by decide +kernel
theorem d_M_init_204 : decode k_M_init 204 = .ok (.bipush 85, 2) := by decide +kernel
theorem d_M_init_206 : decode k_M_init 206 = .ok (.iastore, 1) := by decide +kernel
theorem d_M_init_207 : decode k_M_init 207 = .ok (.dup, 1) := by decide +kernel
theorem d_M_init_208 : decode k_M_init 208 = .ok (.bipush 34, 2) := by decide +kernel
theorem d_M_init_210 : decode k_M_init 210 = .ok (.bipush 76, 2) := by decide +kernel
theorem d_M_init_212 : decode k_M_init 212 = .ok (.iastore, 1) := by decide +kernel
theorem d_M_init_213 : decode k_M_init 213 = .ok (.dup, 1) := by decide +kernel
theorem d_M_init_214 : decode k_M_init 214 = .ok (.bipush 35, 2) := by decide +kernel
theorem d_M_init_216 : decode k_M_init 216 = .ok (.bipush 84, 2) := by decide +kernel
theorem d_M_init_218 : decode k_M_init 218 = .ok (.iastore, 1) := by decide +kernel
theorem d_M_init_219 : decode k_M_init 219 = .ok (.dup, 1) := by decide +kernel
theorem d_M_init_220 : decode k_M_init 220 = .ok (.bipush 36, 2) := by decide +kernel
theorem d_M_init_222 : decode k_M_init 222 = .ok (.bipush 73, 2) := by decide +kernel
theorem d_M_init_224 : decode k_M_init 224 = .ok (.iastore, 1) := by decide +kernel
theorem d_M_init_225 : decode k_M_init 225 = .ok (.dup, 1) := by decide +kernel
theorem d_M_init_226 : decode k_M_init 226 = .ok (.bipush 37, 2) := by decide +kernel
theorem d_M_init_228 : decode k_M_init 228 = .ok (.bipush 76, 2) := by decide +kernel
theorem d_M_init_230 : decode k_M_init 230 = .ok (.iastore, 1) := by decide +kernel
theorem d_M_init_231 : decode k_M_init 231 = .ok (.dup, 1) := by decide +kernel
theorem d_M_init_232 : decode k_M_init 232 = .ok (.bipush 38, 2) := by decide +kernel
theorem d_M_init_234 : decode k_M_init 234 = .ok (.bipush 73, 2) := by decide +kernel
theorem d_M_init_236 : decode k_M_init 236 = .ok (.iastore, 1) := by decide +kernel
theorem d_M_init_237 : decode k_M_init 237 = .ok (.dup, 1) := by decide +kernel
theorem d_M_init_238 : decode k_M_init 238 = .ok (.bipush 39, 2) := by decide +kernel
theorem d_M_init_240 : decode k_M_init 240 = .ok (.bipush 78, 2) := by decide +kernel
theorem d_M_init_242 : decode k_M_init 242 = .ok (.iastore, 1) := by decide +kernel
theorem d_M_init_243 : decode k_M_init 243 = .ok (.dup, 1) := by decide +kernel
theorem d_M_init_244 : decode k_M_init 244 = .ok (.bipush 40, 2) := by decide +kernel
theorem d_M_init_246 : decode k_M_init 246 = .ok (.bipush 69, 2) := by decide +kernel
theorem d_M_init_248 : decode k_M_init 248 = .ok (.iastore, 1) := by decide +kernel
theorem d_M_init_249 : decode k_M_init 249 = .ok (.dup, 1) := by decide +kernel
theorem d_M_init_250 : decode k_M_init 250 = .ok (.bipush 41, 2) := by decide +kernel
theorem d_M_init_252 : decode k_M_init 252 = .ok (.bipush 83, 2) := by decide +kernel
theorem d_M_init_254 : decode k_M_init 254 = .ok (.iastore, 1) := by decide +kernel
theorem d_M_init_255 : decode k_M_init 255 = .ok (.dup, 1) := by decide +kernel
theorem d_M_init_256 : decode k_M_init 256 = .ok (.bipush 42, 2) := by decide +kernel
theorem d_M_init_258 : decode k_M_init 258 = .ok (.bipush 84, 2) := by decide +kernel
theorem d_M_init_260 : decode k_M_init 260 = .ok (.iastore, 1) := by decide +kernel
theorem d_M_init_261 : decode k_M_init 261 = .ok (.dup, 1) := by decide +kernel
theorem d_M_init_262 : decode k_M_init 262 = .ok (.bipush 43, 2) := by decide +kernel
theorem d_M_init_264 : decode k_M_init 264 = .ok (.bipush 82, 2) := by decide +kernel
theorem d_M_init_266 : decode k_M_init 266 = .ok (.iastore, 1) := by decide +kernel
theorem d_M_init_267 : decode k_M_init 267 = .ok (.dup, 1) := by decide +kernel
theorem d_M_init_268 : decode k_M_init 268 = .ok (.bipush 44, 2) := by decide +kernel
theorem d_M_init_270 : decode k_M_init 270 = .ok (.bipush 73, 2) := by decide +kernel
theorem d_M_init_272 : decode k_M_init 272 = .ok (.iastore, 1) := by decide +kernel
theorem d_M_init_273 : decode k_M_init 273 = .ok (.dup, 1) := by decide +kernel
theorem d_M_init_274 : decode k_M_init 274 = .ok (.bipush 45, 2) := by decide +kernel
theorem d_M_init_276 : decode k_M_init 276 = .ok (.bipush 78, 2) := by decide +kernel
theorem d_M_init_278 : decode k_M_init 278 = .ok (.iastore, 1) := by decide +kernel
theorem d_M_init_279 : decode k_M_init 279 = .ok (.dup, 1) := by decide +kernel
theorem d_M_init_280 : decode k_M_init 280 = .ok (.bipush 46, 2) := by decide +kernel
theorem d_M_init_282 : decode k_M_init 282 = .ok (.bipush 71, 2) := by decide +kernel
theorem d_M_init_284 : decode k_M_init 284 = .ok (.iastore, 1) := by decide +kernel
theorem d_M_init_285 : decode k_M_init 285 = .ok (.dup, 1) := by decide +kernel
theorem d_M_init_286 : decode k_M_init 286 = .ok (.bipush 47, 2) := by decide +kernel
theorem d_M_init_288 : decode k_M_init 288 = .ok (.bipush 77, 2) := by decide +kernel
theorem d_M_init_290 : decode k_M_init 290 = .ok (.iastore, 1) := by decide +kernel
theorem d_M_init_291 : decode k_M_init 291 = .ok (.dup, 1) := by decide +kernel
theorem d_M_init_292 : decode k_M_init 292 = .ok (.bipush 48, 2) := by decide +kernel
theorem d_M_init_294 : decode k_M_init 294 = .ok (.bipush 85, 2) := by decide +kernel
theorem d_M_init_296 : decode k_M_init 296 = .ok (.iastore, 1) := by decide +kernel
theorem d_M_init_297 : decode k_M_init 297 = .ok (.dup, 1) := by decide +kernel
theorem d_M_init_298 : decode k_M_init 298 = .ok (.bipush 49, 2) := by decide +kernel
theorem d_M_init_300 : decode k_M_init 300 = .ok (.bipush 76, 2) := by decide +kernel
theorem d_M_init_302 : decode k_M_init 302 = .ok (.iastore, 1) := by decide +kernel
theorem d_M_init_303 : decode k_M_init 303 = .ok (.dup, 1) := by decide +kernel
theorem d_M_init_304 : decode k_M_init 304 = .ok (.bipush 50, 2) := by decide +kernel
theorem d_M_init_306 : decode k_M_init 306 = .ok (.bipush 84, 2) := by decide +kernel
theorem d_M_init_308 : decode k_M_init 308 = .ok (.iastore, 1) := by decide +kernel
theorem d_M_init_309 : decode k_M_init 309 = .ok (.dup, 1) := by decide +kernel
theorem d_M_init_310 : decode k_M_init 310 = .ok (.bipush 51, 2) := by decide +kernel
theorem d_M_init_312 : decode k_M_init 312 = .ok (.bipush 73, 2) := by decide +kernel
theorem d_M_init_314 : decode k_M_init 314 = .ok (.iastore, 1) := by decide +kernel
theorem d_M_init_315 : decode k_M_init 315 = .ok (.dup, 1) := by decide +kernel
theorem d_M_init_316 : decode k_M_init 316 = .ok (.bipush 52, 2) := by decide +kernel
theorem d_M_init_318 : decode k_M_init 318 = .ok (.bipush 80, 2) := by decide +kernel
theorem d_M_init_320 : decode k_M_init 320 = .ok (.iastore, 1) := by decide +kernel
theorem d_M_init_321 : decode k_M_init 321 = .ok (.dup, 1) := by decide +kernel
theorem d_M_init_322 : decode k_M_init 322 = .ok (.bipush 53, 2) := by decide +kernel
theorem d_M_init_324 : decode k_M_init 324 = .ok (.bipush 79, 2) := by decide +kernel
theorem d_M_init_326 : decode k_M_init 326 = .ok (.iastore, 1) := by decide +kernel
theorem d_M_init_327 : decode k_M_init 327 = .ok (.dup, 1) := by decide +kernel
theorem d_M_init_328 : decode k_M_init 328 = .ok (.bipush 54, 2) := by decide +kernel
theorem d_M_init_330 : decode k_M_init 330 = .ok (.bipush 76, 2) := by decide +kernel
theorem d_M_init_332 : decode k_M_init 332 = .ok (.iastore, 1) := by decide +kernel
theorem d_M_init_333 : decode k_M_init 333 = .ok (.dup, 1) := by decide +kernel
theorem d_M_init_334 : decode k_M_init 334 = .ok (.bipush 55, 2) := by decide +kernel
theorem d_M_init_336 : decode k_M_init 336 = .ok (.bipush 89, 2) := by decide +kernel
theorem d_M_init_338 : decode k_M_init 338 = .ok (.iastore, 1) := by decide +kernel
theorem d_M_init_339 : decode k_M_init 339 = .ok (.dup, 1) := by decide +kernel
theorem d_M_init_340 : decode k_M_init 340 = .ok (.bipush 56, 2) := by decide +kernel
theorem d_M_init_342 : decode k_M_init 342 = .ok (.bipush 71, 2) := by decide +kernel
theorem d_M_init_344 : decode k_M_init 344 = .ok (.iastore, 1) := by decide +kernel
theorem d_M_init_345 : decode k_M_init 345 = .ok (.dup, 1) := by decide +kernel
theorem d_M_init_346 : decode k_M_init 346 = .ok (.bipush 57, 2) := by decide +kernel
theorem d_M_init_348 : decode k_M_init 348 = .ok (.bipush 79, 2) := by decide +kernel
theorem d_M_init_350 : decode k_M_init 350 = .ok (.iastore, 1) := by decide +kernel
theorem d_M_init_351 : decode k_M_init 351 = .ok (.dup, 1) := by decide +kernel
theorem d_M_init_352 : decode k_M_init 352 = .ok (.bipush 58, 2) := by decide +kernel
theorem d_M_init_354 : decode k_M_init 354 = .ok (.bipush 78, 2) := by decide +kernel
theorem d_M_init_356 : decode k_M_init 356 = .ok (.iastore, 1) := by decide +kernel
theorem d_M_init_357 : decode k_M_init 357 = .ok (.dup, 1) := by decide +kernel
theorem d_M_init_358 : decode k_M_init 358 = .ok (.bipush 59, 2) := by decide +kernel
theorem d_M_init_360 : decode k_M_init 360 = .ok (.bipush 71, 2) := by decide +kernel
theorem d_M_init_362 : decode k_M_init 362 = .ok (.iastore, 1) := by decide +kernel
theorem d_M_init_363 : decode k_M_init 363 = .ok (.dup, 1) := by decide +kernel
theorem d_M_init_364 : decode k_M_init 364 = .ok (.bipush 60, 2) := by decide +kernel
theorem d_M_init_366 : decode k_M_init 366 = .ok (.bipush 69, 2) := by decide +kernel
theorem d_M_init_368 : decode k_M_init 368 = .ok (.iastore, 1) := by decide +kernel
theorem d_M_init_369 : decode k_M_init 369 = .ok (.dup, 1) := by decide +kernel
theorem d_M_init_370 : decode k_M_init 370 = .ok (.bipush 61, 2) := by decide +kernel
theorem d_M_init_372 : decode k_M_init 372 = .ok (.bipush 79, 2) := by decide +kernel
theorem d_M_init_374 : decode k_M_init 374 = .ok (.iastore, 1) := by decide +kernel
theorem d_M_init_375 : decode k_M_init 375 = .ok (.dup, 1) := by decide +kernel
theorem d_M_init_376 : decode k_M_init 376 = .ok (.bipush 62, 2) := by decide +kernel
theorem d_M_init_378 : decode k_M_init 378 = .ok (.bipush 77, 2) := by decide +kernel
theorem d_M_init_380 : decode k_M_init 380 = .ok (.iastore, 1) := by decide +kernel
theorem d_M_init_381 : decode k_M_init 381 = .ok (.dup, 1) := by decide +kernel
theorem d_M_init_382 : decode k_M_init 382 = .ok (.bipush 63, 2) := by decide +kernel
theorem d_M_init_384 : decode k_M_init 384 = .ok (.bipush 69, 2) := by decide +kernel
theorem d_M_init_386 : decode k_M_init 386 = .ok (.iastore, 1) := by decide +kernel
theorem d_M_init_387 : decode k_M_init 387 = .ok (.dup, 1) := by decide +kernel
theorem d_M_init_388 : decode k_M_init 388 = .ok (.bipush 64, 2) := by decide +kernel
theorem d_M_init_390 : decode k_M_init 390 = .ok (.bipush 84, 2) := by decide +kernel
theorem d_M_init_392 : decode k_M_init 392 = .ok (.iastore, 1) := by decide +kernel
theorem d_M_init_393 : decode k_M_init 393 = .ok (.dup, 1) := by decide +kernel
theorem d_M_init_394 : decode k_M_init 394 = .ok (.bipush 65, 2) := by decide +kernel
theorem d_M_init_396 : decode k_M_init 396 = .ok (.bipush 82, 2) := by decide +kernel
theorem d_M_init_398 : decode k_M_init 398 = .ok (.iastore, 1) := by decide +kernel
theorem d_M_init_399 : decode k_M_init 399 = .ok (.dup, 1) := by decide +kernel
theorem d_M_init_400 : decode k_M_init 400 = .ok (.bipush 66, 2) := by decide +kernel
theorem d_M_init_402 : decode k_M_init 402 = .ok (.bipush 89, 2) := by decide +kernel
theorem d_M_init_404 : decode k_M_init 404 = .ok (.iastore, 1) := by decide +kernel
theorem d_M_init_405 : decode k_M_init 405 = .ok (.dup, 1) := by decide +kernel
theorem d_M_init_406 : decode k_M_init 406 = .ok (.bipush 67, 2) := by decide +kernel
theorem d_M_init_408 : decode k_M_init 408 = .ok (.bipush 67, 2) := by decide +kernel
theorem d_M_init_410 : decode k_M_init 410 = .ok (.iastore, 1) := by decide +kernel
theorem d_M_init_411 : decode k_M_init 411 = .ok (.dup, 1) := by decide +kernel
theorem d_M_init_412 : decode k_M_init 412 = .ok (.bipush 68, 2) := by decide +kernel
theorem d_M_init_414 : decode k_M_init 414 = .ok (.bipush 79, 2) := by decide +kernel
theorem d_M_init_416 : decode k_M_init 416 = .ok (.iastore, 1) := by decide +kernel
theorem d_M_init_417 : decode k_M_init 417 = .ok (.dup, 1) := by decide +kernel
theorem d_M_init_418 : decode k_M_init 418 = .ok (.bipush 69, 2) := by decide +kernel
theorem d_M_init_420 : decode k_M_init 420 = .ok (.bipush 76, 2) := by decide +kernel
theorem d_M_init_422 : decode k_M_init 422 = .ok (.iastore, 1) := by decide +kernel
theorem d_M_init_423 : decode k_M_init 423 = .ok (.dup, 1) := by decide +kernel
theorem d_M_init_424 : decode k_M_init 424 = .ok (.bipush 70, 2) := by decide +kernel
theorem d_M_init_426 : decode k_M_init 426 = .ok (.bipush 76, 2) := by decide +kernel
theorem d_M_init_428 : decode k_M_init 428 = .ok (.iastore, 1) := by decide +kernel
theorem d_M_init_429 : decode k_M_init 429 = .ok (.dup, 1) := by decide +kernel
theorem d_M_init_430 : decode k_M_init 430 = .ok (.bipush 71, 2) := by decide +kernel
theorem d_M_init_432 : decode k_M_init 432 = .ok (.bipush 69, 2) := by decide +kernel
theorem d_M_init_434 : decode k_M_init 434 = .ok (.iastore, 1) := by decide +kernel
theorem d_M_init_435 : decode k_M_init 435 = .ok (.dup, 1) := by decide +kernel
theorem d_M_init_436 : decode k_M_init 436 = .ok (.bipush 72, 2) := by decide +kernel
theorem d_M_init_438 : decode k_M_init 438 = .ok (.bipush 67, 2) := by decide +kernel
theorem d_M_init_440 : decode k_M_init 440 = .ok (.iastore, 1) := by decide +kernel
theorem d_M_init_441 : decode k_M_init 441 = .ok (.dup, 1) := by decide +kernel
theorem d_M_init_442 : decode k_M_init 442 = .ok (.bipush 73, 2) := by decide +kernel
theorem d_M_init_444 : decode k_M_init 444 = .ok (.bipush 84, 2) := by decide +kernel
theorem d_M_init_446 : decode k_M_init 446 = .ok (.iastore, 1) := by decide +kernel
theorem d_M_init_447 : decode k_M_init 447 = .ok (.dup, 1) := by decide +kernel
theorem d_M_init_448 : decode k_M_init 448 = .ok (.bipush 74, 2) := by decide +kernel
theorem d_M_init_450 : decode k_M_init 450 = .ok (.bipush 73, 2) := by decide +kernel
theorem d_M_init_452 : decode k_M_init 452 = .ok (.iastore, 1) := by decide +kernel
theorem d_M_init_453 : decode k_M_init 453 = .ok (.dup, 1) := by decide +kernel
theorem d_M_init_454 : decode k_M_init 454 = .ok (.bipush 75, 2) := by decide +kernel
theorem d_M_init_456 : decode k_M_init 456 = .ok (.bipush 79, 2) := by decide +kernel
theorem d_M_init_458 : decode k_M_init 458 = .ok (.iastore, 1) := by decide +kernel
theorem d_M_init_459 : decode k_M_init 459 = .ok (.dup, 1) := by decide +kernel
theorem d_M_init_460 : decode k_M_init 460 = .ok (.bipush 76, 2) := by decide +kernel
theorem d_M_init_462 : decode k_M_init 462 = .ok (.bipush 78, 2) := by decide +kernel
theorem d_M_init_464 : decode k_M_init 464 = .ok (.iastore, 1) := by decide +kernel
theorem d_M_init_465 : decode k_M_init 465 = .ok (.dup, 1) := by decide +kernel
theorem d_M_init_466 : decode k_M_init 466 = .ok (.bipush 77, 2) := by decide +kernel
theorem d_M_init_468 : decode k_M_init 468 = .ok (.bipush 69, 2) := by decide +kernel
theorem d_M_init_470 : decode k_M_init 470 = .ok (.iastore, 1) := by decide +kernel
theorem d_M_init_471 : decode k_M_init 471 = .ok (.dup, 1) := by decide +kernel
theorem d_M_init_472 : decode k_M_init 472 = .ok (.bipush 78, 2) := by decide +kernel
theorem d_M_init_474 : decode k_M_init 474 = .ok (.bipush 77, 2) := by decide +kernel
theorem d_M_init_476 : decode k_M_init 476 = .ok (.iastore, 1) := by decide +kernel
theorem d_M_init_477 : decode k_M_init 477 = .ok (.dup, 1) := by decide +kernel
theorem d_M_init_478 : decode k_M_init 478 = .ok (.bipush 79, 2) := by decide +kernel
theorem d_M_init_480 : decode k_M_init 480 = .ok (.bipush 80, 2) := by decide +kernel
theorem d_M_init_482 : decode k_M_init 482 = .ok (.iastore, 1) := by decide +kernel
theorem d_M_init_483 : decode k_M_init 483 = .ok (.dup, 1) := by decide +kernel
theorem d_M_init_484 : decode k_M_init 484 = .ok (.bipush 80, 2) := by decide +kernel
theorem d_M_init_486 : decode k_M_init 486 = .ok (.bipush 84, 2) := by decide +kernel
theorem d_M_init_488 : decode k_M_init 488 = .ok (.iastore, 1) := by decide +kernel
theorem d_M_init_489 : decode k_M_init 489 = .ok (.dup, 1) := by decide +kernel
theorem d_M_init_490 : decode k_M_init 490 = .ok (.bipush 81, 2) := by decide +kernel
theorem d_M_init_492 : decode k_M_init 492 = .ok (.bipush 89, 2) := by decide +kernel
theorem d_M_init_494 : decode k_M_init 494 = .ok (.iastore, 1) := by decide +kernel
theorem d_M_init_495 : decode k_M_init 495 = .ok (.putfield 7, 3) := by decide +kernel
theorem d_M_init_498 : decode k_M_init 498 = .ok (.aload_n 0, 1) := by decide +kernel
theorem d_M_init_499 : decode k_M_init 499 = .ok (.bipush 10, 2) := by decide +kernel
theorem d_M_init_501 : decode k_M_init 501 = .ok (.newarray .int, 2) := by decide +kernel
theorem d_M_init_503 : decode k_M_init 503 = .ok (.dup, 1) := by decide +kernel
theorem d_M_init_504 : decode k_M_init 504 = .ok (.iconst 0, 1) := by decide +kernel
theorem d_M_init_505 : decode k_M_init 505 = .ok (.iconst 0, 1) := by decide +kernel
theorem d_M_init_506 : decode k_M_init 506 = .ok (.iastore, 1) := by decide +kernel
theorem d_M_init_507 : decode k_M_init 507 = .ok (.dup, 1) := by decide +kernel
theorem d_M_init_508 : decode k_M_init 508 = .ok (.iconst 1, 1) := by decide +kernel
theorem d_M_init_509 : decode k_M_init 509 = .ok (.iconst 0, 1) := by decide +kernel
theorem d_M_init_510 : decode k_M_init 510 = .ok (.iastore, 1) := by decide +kernel
theorem d_M_init_511 : decode k_M_init 511 = .ok (.dup, 1) := by decide +kernel
theorem d_M_init_512 : decode k_M_init 512 = .ok (.iconst 2, 1) := by decide +kernel
theorem d_M_init_513 : decode k_M_init 513 = .ok (.iconst 5, 1) := by decide +kernel
theorem d_M_init_514 : decode k_M_init 514 = .ok (.iastore, 1) := by decide +kernel
theorem d_M_init_515 : decode k_M_init 515 = .ok (.dup, 1) := by decide +kernel
theorem d_M_init_516 : decode k_M_init 516 = .ok (.iconst 3, 1) := by decide +kernel
theorem d_M_init_517 : decode k_M_init 517 = .ok (.bipush 15, 2) := by decide +kernel
theorem d_M_init_519 : decode k_M_init 519 = .ok (.iastore, 1) := by decide +kernel
theorem d_M_init_520 : decode k_M_init 520 = .ok (.dup, 1) := by decide +kernel
theorem d_M_init_521 : decode k_M_init 521 = .ok (.iconst 4, 1) := by decide +kernel
theorem d_M_init_522 : decode k_M_init 522 = .ok (.bipush 22, 2) := by decide +kernel
theorem d_M_init_524 : decode k_M_init 524 = .ok (.iastore, 1) := by decide +kernel
theorem d_M_init_525 : decode k_M_init 525 = .ok (.dup, 1) := by decide +kernel
theorem d_M_init_526 : decode k_M_init 526 = .ok (.iconst 5, 1) := by decide +kernel
theorem d_M_init_527 : decode k_M_init 527 = .ok (.bipush 32, 2) := by decide +kernel
theorem d_M_init_529 : decode k_M_init 529 = .ok (.iastore, 1) := by decide +kernel
theorem d_M_init_530 : decode k_M_init 530 = .ok (.dup, 1) := by decide +kernel
theorem d_M_init_531 : decode k_M_init 531 = .ok (.bipush 6, 2) := by decide +kernel
theorem d_M_init_533 : decode k_M_init 533 = .ok (.bipush 47, 2) := by decide +kernel
theorem d_M_init_535 : decode k_M_init 535 = .ok (.iastore, 1) := by decide +kernel
theorem d_M_init_536 : decode k_M_init 536 = .ok (.dup, 1) := by decide +kernel
theorem d_M_init_537 : decode k_M_init 537 = .ok (.bipush 7, 2) := by decide +kernel
theorem d_M_init_539 : decode k_M_init 539 = .ok (.bipush 59, 2) := by decide +kernel
theorem d_M_init_541 : decode k_M_init 541 = .ok (.iastore, 1) := by decide +kernel
theorem d_M_init_542 : decode k_M_init 542 = .ok (.dup, 1) := by decide +kernel
theorem d_M_init_543 : decode k_M_init 543 = .ok (.bipush 8, 2) := by decide +kernel
theorem d_M_init_545 : decode k_M_init 545 = .ok (.bipush 77, 2) := by decide +kernel
theorem d_M_init_547 : decode k_M_init 547 = .ok (.iastore, 1) := by decide +kernel
theorem d_M_init_548 : decode k_M_init 548 = .ok (.dup, 1) := by decide +kernel
theorem d_M_init_549 : decode k_M_init 549 = .ok (.bipush 9, 2) := by decide +kernel
theorem d_M_init_551 : decode k_M_init 551 = .ok (.bipush 82, 2) := by decide +kernel
theorem d_M_init_553 : decode k_M_init 553 = .ok (.iastore, 1) := by decide +kernel
theorem d_M_init_554 : decode k_M_init 554 = .ok (.putfield 13, 3) := by decide +kernel
theorem d_M_init_557 : decode k_M_init 557 = .ok (.aload_n 0, 1) := by decide +kernel
theorem d_M_init_558 : decode k_M_init 558 = .ok (.ldc 16, 2) := by decide +kernel
theorem d_M_init_560 : decode k_M_init 560 = .ok (.newarray .int, 2) := by decide +kernel
theorem d_M_init_562 : decode k_M_init 562 = .ok (.putfield 17, 3) := by decide +kernel
theorem d_M_init_565 : decode k_M_init 565 = .ok (.aload_n 0, 1) := by decide +kernel
theorem d_M_init_566 : decode k_M_init 566 = .ok (.sipush 16384, 3) := by decide +kernel
theorem d_M_init_569 : decode k_M_init 569 = .ok (.newarray .int, 2) := by decide +kernel
theorem d_M_init_571 : decode k_M_init 571 = .ok (.putfield 20, 3) := by decide +kernel
theorem d_M_init_574 : decode k_M_init 574 = .ok (.aload_n 0, 1) := by decide +kernel
theorem d_M_init_575 : decode k_M_init 575 = .ok (.iconst 4, 1) := by decide +kernel
theorem d_M_init_576 : decode k_M_init 576 = .ok (.newarray .int, 2) := by decide +kernel
theorem d_M_init_578 : decode k_M_init 578 = .ok (.putfield 23, 3) := by decide +kernel
theorem d_M_init_581 : decode k_M_init 581 = .ok (.aload_n 0, 1) := by decide +kernel
theorem d_M_init_582 : decode k_M_init 582 = .ok (.ldc 26, 2) := by decide +kernel
theorem d_M_init_584 : decode k_M_init 584 = .ok (.newarray .int, 2) := by decide +kernel
theorem d_M_init_586 : decode k_M_init 586 = .ok (.putfield 27, 3) := by decide +kernel
theorem d_M_init_589 : decode k_M_init 589 = .ok (.aload_n 0, 1) := by decide +kernel
theorem d_M_init_590 : decode k_M_init 590 = .ok (.iconst 4, 1) := by decide +kernel
theorem d_M_init_591 : decode k_M_init 591 = .ok (.newarray .int, 2) := by decide +kernel
theorem d_M_init_593 : decode k_M_init 593 = .ok (.putfield 30, 3) := by decide +kernel
theorem d_M_init_596 : decode k_M_init 596 = .ok (.aload_n 0, 1) := by decide +kernel
theorem d_M_init_597 : decode k_M_init 597 = .ok (.ldc 33, 2) := by decide +kernel
theorem d_M_init_599 : decode k_M_init 599 = .ok (.newarray .int, 2) := by decide +kernel
theorem d_M_init_601 : decode k_M_init 601 = .ok (.putfield 34, 3) := by decide +kernel
theorem d_M_init_604 : decode k_M_init 604 = .ok (.aload_n 0, 1) := by decide +kernel
theorem d_M_init_605 : decode k_M_init 605 = .ok (.ldc 33, 2) := by decide +kernel
theorem d_M_init_607 : decode k_M_init 607 = .ok (.newarray .int, 2) := by decide +kernel
theorem d_M_init_609 : decode k_M_init 609 = .ok (.putfield 37, 3) := by decide +kernel
theorem d_M_init_612 : decode k_M_init 612 = .ok (.aload_n 0, 1) := by decide +kernel
theorem d_M_init_613 : decode k_M_init 613 = .ok (.bipush 52, 2) := by decide +kernel
theorem d_M_init_615 : decode k_M_init 615 = .ok (.newarray .int, 2) := by decide +kernel
theorem d_M_init_617 : decode k_M_init 617 = .ok (.putfield 40, 3) := by decide +kernel
theorem d_M_init_620 : decode k_M_init 620 = .ok (.aload_n 0, 1) := by decide +kernel
theorem d_M_init_621 : decode k_M_init 621 = .ok (.bipush 52, 2) := by decide +kernel
theorem d_M_init_623 : decode k_M_init 623 = .ok (.newarray .int, 2) := by decide +kernel
theorem d_M_init_625 : decode k_M_init 625 = .ok (.putfield 43, 3) := by decide +kernel
theorem d_M_init_628 : decode k_M_init 628 = .ok (.aload_n 0, 1) := by decide +kernel
theorem d_M_init_629 : decode k_M_init 629 = .ok (.bipush 52, 2) := by decide +kernel
theorem d_M_init_631 : decode k_M_init 631 = .ok (.newarray .int, 2) := by decide +kernel
theorem d_M_init_633 : decode k_M_init 633 = .ok (.putfield 46, 3) := by decide +kernel
theorem d_M_init_636 : decode k_M_init 636 = .ok (.aload_n 0, 1) := by decide +kernel
theorem d_M_init_637 : decode k_M_init 637 = .ok (.iload_n 1, 1) := by decide +kernel
theorem d_M_init_638 : decode k_M_init 638 = .ok (.iconst 3, 1) := by decide +kernel
theorem d_M_init_639 : decode k_M_init 639 = .ok (.iand, 1) := by decide +kernel
theorem d_M_init_640 : decode k_M_init 640 = .ok (.putfield 49, 3) := by decide +kernel
theorem d_M_init_643 : decode k_M_init 643 = .ok (.aload_n 0, 1) := by decide +kernel
theorem d_M_init_644 : decode k_M_init 644 = .ok (.iload_n 2, 1) := by decide +kernel
theorem d_M_init_645 : decode k_M_init 645 = .ok (.iconst 1, 1) := by decide +kernel
theorem d_M_init_646 : decode k_M_init 646 = .ok (.if_icmp .ge 7, 3) := by decide +kernel
theorem d_M_init_649 : decode k_M_init 649 = .ok (.iconst 1, 1) := by decide +kernel
theorem d_M_init_650 : decode k_M_init 650 = .ok (.goto 17, 3) := by decide +kernel
theorem d_M_init_653 : decode k_M_init 653 = .ok (.iload_n 2, 1) := by decide +kernel
theorem d_M_init_654 : decode k_M_init 654 = .ok (.sipush 4096, 3) := by decide +kernel
theorem d_M_init_657 : decode k_M_init 657 = .ok (.if_icmp .le 9, 3) := by decide +kernel
theorem d_M_init_660 : decode k_M_init 660 = .ok (.sipush 4096, 3) := by decide +kernel
theorem d_M_init_663 : decode k_M_init 663 = .ok (.goto 4, 3) := by decide +kernel
theorem d_M_init_666 : decode k_M_init 666 = .ok (.iload_n 2, 1) := by decide +kernel
theorem d_M_init_667 : decode k_M_init 667 = .ok (.putfield 53, 3) := by decide +kernel
theorem d_M_init_670 : decode k_M_init 670 = .ok (.aload_n 0, 1) := by decide +kernel
theorem d_M_init_671 : decode k_M_init 671 = .ok (.iload_n 3, 1) := by decide +kernel
theorem d_M_init_672 : decode k_M_init 672 = .ok (.iconst 2, 1) := by decide +kernel
theorem d_M_init_673 : decode k_M_init 673 = .ok (.if_icmp .ge 7, 3) := by decide +kernel
theorem d_M_init_676 : decode k_M_init 676 = .ok (.iconst 2, 1) := by decide +kernel
theorem d_M_init_677 : decode k_M_init 677 = .ok (.goto 17, 3) := by decide +kernel
theorem d_M_init_680 : decode k_M_init 680 = .ok (.iload_n 3, 1) := by decide +kernel
theorem d_M_init_681 : decode k_M_init 681 = .ok (.sipush 4096, 3) := by decide +kernel
theorem d_M_init_684 : decode k_M_init 684 = .ok (.if_icmp .le 9, 3) := by decide +kernel
theorem d_M_init_687 : decode k_M_init 687 = .ok (.sipush 4096, 3) := by decide +kernel
theorem d_M_init_690 : decode k_M_init 690 = .ok (.goto 4, 3) := by decide +kernel
theorem d_M_init_693 : decode k_M_init 693 = .ok (.iload_n 3, 1) := by decide +kernel
theorem d_M_init_694 : decode k_M_init 694 = .ok (.putfield 56, 3) := by decide +kernel
theorem d_M_init_697 : decode k_M_init 697 = .ok (.return_, 1) := by decide +kernel

theorem dX4_init_0 : decode cX4_init 0 = .ok (.aload_n 0, 1) := by decide +kernel
theorem dX4_init_1 : decode cX4_init 1 = .ok (.invokespecial 1, 3) := by decide +kernel
theorem dX4_init_4 : decode cX4_init 4 = .ok (.aload_n 0, 1) := by decide +kernel
theorem dX4_init_5 : decode cX4_init 5 = .ok (.bipush 80, 2) := by decide +kernel
theorem dX4_init_7 : decode cX4_init 7 = .ok (.newarray .int, 2) := by decide +kernel
theorem dX4_init_9 : decode cX4_init 9 = .ok (.dup, 1) := by decide +kernel
theorem dX4_init_10 : decode cX4_init 10 = .ok (.iconst 0, 1) := by decide +kernel
theorem dX4_init_11 : decode cX4_init 11 = .ok (.bipush 114, 2) := by decide +kernel
theorem dX4_init_13 : decode cX4_init 13 = .ok (.iastore, 1) := by decide +kernel
theorem dX4_init_14 : decode cX4_init 14 = .ok (.dup, 1) := by decide +kernel
theorem dX4_init_15 : decode cX4_init 15 = .ok (.iconst 1, 1) := by decide +kernel
theorem dX4_init_16 : decode cX4_init 16 = .ok (.bipush 101, 2) := by decide +kernel
theorem dX4_init_18 : decode cX4_init 18 = .ok (.iastore, 1) := by decide +kernel
theorem dX4_init_19 : decode cX4_init 19 = .ok (.dup, 1) := by decide +kernel
theorem dX4_init_20 : decode cX4_init 20 = .ok (.iconst 2, 1) := by decide +kernel
theorem dX4_init_21 : decode cX4_init 21 = .ok (.bipush 103, 2) := by decide +kernel
theorem dX4_init_23 : decode cX4_init 23 = .ok (.iastore, 1) := by decide +kernel
theorem dX4_init_24 : decode cX4_init 24 = .ok (.dup, 1) := by decide +kernel
theorem dX4_init_25 : decode cX4_init 25 = .ok (.iconst 3, 1) := by decide +kernel
theorem dX4_init_26 : decode cX4_init 26 = .ok (.bipush 105, 2) := by decide +kernel
theorem dX4_init_28 : decode cX4_init 28 = .ok (.iastore, 1) := by decide +kernel
theorem dX4_init_29 : decode cX4_init 29 = .ok (.dup, 1) := by decide +kernel
theorem dX4_init_30 : decode cX4_init 30 = .ok (.iconst 4, 1) := by decide +kernel
theorem dX4_init_31 : decode cX4_init 31 = .ok (.bipush 115, 2) := by decide +kernel
theorem dX4_init_33 : decode cX4_init 33 = .ok (.iastore, 1) := by decide +kernel
theorem dX4_init_34 : decode cX4_init 34 = .ok (.dup, 1) := by decide +kernel
theorem dX4_init_35 : decode cX4_init 35 = .ok (.iconst 5, 1) := by decide +kernel
theorem dX4_init_36 : decode cX4_init 36 = .ok (.bipush 116, 2) := by decide +kernel
theorem dX4_init_38 : decode cX4_init 38 = .ok (.iastore, 1) := by decide +kernel
theorem dX4_init_39 : decode cX4_init 39 = .ok (.dup, 1) := by decide +kernel
theorem dX4_init_40 : decode cX4_init 40 = .ok (.bipush 6, 2) := by decide +kernel
theorem dX4_init_42 : decode cX4_init 42 = .ok (.bipush 114, 2) := by decide +kernel
theorem dX4_init_44 : decode cX4_init 44 = .ok (.iastore, 1) := by decide +kernel
theorem dX4_init_45 : decode cX4_init 45 = .ok (.dup, 1) := by decide +kernel
theorem dX4_init_46 : decode cX4_init 46 = .ok (.bipush 7, 2) := by decide +kernel
theorem dX4_init_48 : decode cX4_init 48 = .ok (.bipush 121, 2) := by decide +kernel
theorem dX4_init_50 : decode cX4_init 50 = .ok (.iastore, 1) := by decide +kernel
theorem dX4_init_51 : decode cX4_init 51 = .ok (.dup, 1) := by decide +kernel
theorem dX4_init_52 : decode cX4_init 52 = .ok (.bipush 8, 2) := by decide +kernel
theorem dX4_init_54 : decode cX4_init 54 = .ok (.bipush 103, 2) := by decide +kernel
theorem dX4_init_56 : decode cX4_init 56 = .ok (.iastore, 1) := by decide +kernel
theorem dX4_init_57 : decode cX4_init 57 = .ok (.dup, 1) := by decide +kernel
theorem dX4_init_58 : decode cX4_init 58 = .ok (.bipush 9, 2) := by decide +kernel
theorem dX4_init_60 : decode cX4_init 60 = .ok (.bipush 97, 2) := by decide +kernel
theorem dX4_init_62 : decode cX4_init 62 = .ok (.iastore, 1) := by decide +kernel
theorem dX4_init_63 : decode cX4_init 63 = .ok (.dup, 1) := by decide +kernel
theorem dX4_init_64 : decode cX4_init 64 = .ok (.bipush 10, 2) := by decide +kernel
theorem dX4_init_66 : decode cX4_init 66 = .ok (.bipush 114, 2) := by decide +kernel
theorem dX4_init_68 : decode cX4_init 68 = .ok (.iastore, 1) := by decide +kernel
theorem dX4_init_69 : decode cX4_init 69 = .ok (.dup, 1) := by decide +kernel
theorem dX4_init_70 : decode cX4_init 70 = .ok (.bipush 11, 2) := by decide +kernel
theorem dX4_init_72 : decode cX4_init 72 = .ok (.bipush 100, 2) := by decide +kernel
theorem dX4_init_74 : decode cX4_init 74 = .ok (.iastore, 1) := by decide +kernel
theorem dX4_init_75 : decode cX4_init 75 = .ok (.dup, 1) := by decide +kernel
theorem dX4_init_76 : decode cX4_init 76 = .ok (.bipush 12, 2) := by decide +kernel
theorem dX4_init_78 : decode cX4_init 78 = .ok (.bipush 101, 2) := by decide +kernel
theorem dX4_init_80 : decode cX4_init 80 = .ok (.iastore, 1) := by decide +kernel
theorem dX4_init_81 : decode cX4_init 81 = .ok (.dup, 1) := by decide +kernel
theorem dX4_init_82 : decode cX4_init 82 = .ok (.bipush 13, 2) := by decide +kernel
theorem dX4_init_84 : decode cX4_init 84 = .ok (.bipush 110, 2) := by decide +kernel
theorem dX4_init_86 : decode cX4_init 86 = .ok (.iastore, 1) := by decide +kernel
theorem dX4_init_87 : decode cX4_init 87 = .ok (.dup, 1) := by decide +kernel
theorem dX4_init_88 : decode cX4_init 88 = .ok (.bipush 14, 2) := by decide +kernel
theorem dX4_init_90 : decode cX4_init 90 = .ok (.iconst 0, 1) := by decide +kernel
theorem dX4_init_91 : decode cX4_init 91 = .ok (.iastore, 1) := by decide +kernel
theorem dX4_init_92 : decode cX4_init 92 = .ok (.dup, 1) := by decide +kernel
theorem dX4_init_93 : decode cX4_init 93 = .ok (.bipush 15, 2) := by decide +kernel
theorem dX4_init_95 : decode cX4_init 95 = .ok (.iconst 0, 1) := by decide +kernel
theorem dX4_init_96 : decode cX4_init 96 = .ok (.iastore, 1) := by decide +kernel
theorem dX4_init_97 : decode cX4_init 97 = .ok (.dup, 1) := by decide +kernel
theorem dX4_init_98 : decode cX4_init 98 = .ok (.bipush 16, 2) := by decide +kernel
theorem dX4_init_100 : decode cX4_init 100 = .ok (.bipush 99, 2) := by decide +kernel
theorem dX4_init_102 : decode cX4_init 102 = .ok (.iastore, 1) := by decide +kernel
theorem dX4_init_103 : decode cX4_init 103 = .ok (.dup, 1) := by decide +kernel
theorem dX4_init_104 : decode cX4_init 104 = .ok (.bipush 17, 2) := by decide +kernel
theorem dX4_init_106 : decode cX4_init 106 = .ok (.bipush 104, 2) := by decide +kernel
theorem dX4_init_108 : decode cX4_init 108 = .ok (.iastore, 1) := by decide +kernel
theorem dX4_init_109 : decode cX4_init 109 = .ok (.dup, 1) := by decide +kernel
theorem dX4_init_110 : decode cX4_init 110 = .ok (.bipush 18, 2) := by decide +kernel
theorem dX4_init_112 : decode cX4_init 112 = .ok (.bipush 105, 2) := by decide +kernel
theorem dX4_init_114 : decode cX4_init 114 = .ok (.iastore, 1) := by decide +kernel
theorem dX4_init_115 : decode cX4_init 115 = .ok (.dup, 1) := by decide +kernel
theorem dX4_init_116 : decode cX4_init 116 = .ok (.bipush 19, 2) := by decide +kernel
theorem dX4_init_118 : decode cX4_init 118 = .ok (.bipush 108, 2) := by decide +kernel
theorem dX4_init_120 : decode cX4_init 120 = .ok (.iastore, 1) := by decide +kernel
theorem dX4_init_121 : decode cX4_init 121 = .ok (.dup, 1) := by decide +kernel
theorem dX4_init_122 : decode cX4_init 122 = .ok (.bipush 20, 2) := by decide +kernel
theorem dX4_init_124 : decode cX4_init 124 = .ok (.bipush 100, 2) := by decide +kernel
theorem dX4_init_126 : decode cX4_init 126 = .ok (.iastore, 1) := by decide +kernel
theorem dX4_init_127 : decode cX4_init 127 = .ok (.dup, 1) := by decide +kernel
theorem dX4_init_128 : decode cX4_init 128 = .ok (.bipush 21, 2) := by decide +kernel
theorem dX4_init_130 : decode cX4_init 130 = .ok (.iconst 0, 1) := by decide +kernel
theorem dX4_init_131 : decode cX4_init 131 = .ok (.iastore, 1) := by decide +kernel
theorem dX4_init_132 : decode cX4_init 132 = .ok (.dup, 1) := by decide +kernel
theorem dX4_init_133 : decode cX4_init 133 = .ok (.bipush 22, 2) := by decide +kernel
theorem dX4_init_135 : decode cX4_init 135 = .ok (.iconst 0, 1) := by decide +kernel
theorem dX4_init_136 : decode cX4_init 136 = .ok (.iastore, 1) := by decide +kernel
theorem dX4_init_137 : decode cX4_init 137 = .ok (.dup, 1) := by decide +kernel
theorem dX4_init_138 : decode cX4_init 138 = .ok (.bipush 23, 2) := by decide +kernel
theorem dX4_init_140 : decode cX4_init 140 = .ok (.iconst 0, 1) := by decide +kernel
theorem dX4_init_141 : decode cX4_init 141 = .ok (.iastore, 1) := by decide +kernel
theorem dX4_init_142 : decode cX4_init 142 = .ok (.dup, 1) := by decide +kernel
theorem dX4_init_143 : decode cX4_init 143 = .ok (.bipush 24, 2) := by decide +kernel
theorem dX4_init_145 : decode cX4_init 145 = .ok (.bipush 98, 2) := by decide +kernel
theorem dX4_init_147 : decode cX4_init 147 = .ok (.iastore, 1) := by decide +kernel
theorem dX4_init_148 : decode cX4_init 148 = .ok (.dup, 1) := by decide +kernel
theorem dX4_init_149 : decode cX4_init 149 = .ok (.bipush 25, 2) := by decide +kernel
theorem dX4_init_151 : decode cX4_init 151 = .ok (.bipush 105, 2) := by decide +kernel
theorem dX4_init_153 : decode cX4_init 153 = .ok (.iastore, 1) := by decide +kernel
theorem dX4_init_154 : decode cX4_init 154 = .ok (.dup, 1) := by decide +kernel
theorem dX4_init_155 : decode cX4_init 155 = .ok (.bipush 26, 2) := by decide +kernel
theorem dX4_init_157 : decode cX4_init 157 = .ok (.bipush 114, 2) := by decide +kernel
theorem dX4_init_159 : decode cX4_init 159 = .ok (.iastore, 1) := by decide +kernel
theorem dX4_init_160 : decode cX4_init 160 = .ok (.dup, 1) := by decide +kernel
theorem dX4_init_161 : decode cX4_init 161 = .ok (.bipush 27, 2) := by decide +kernel
theorem dX4_init_163 : decode cX4_init 163 = .ok (.bipush 116, 2) := by decide +kernel
theorem dX4_init_165 : decode cX4_init 165 = .ok (.iastore, 1) := by decide +kernel
theorem dX4_init_166 : decode cX4_init 166 = .ok (.dup, 1) := by decide +kernel
theorem dX4_init_167 : decode cX4_init 167 = .ok (.bipush 28, 2) := by decide +kernel
theorem dX4_init_169 : decode cX4_init 169 = .ok (.bipush 104, 2) := by decide +kernel
theorem dX4_init_171 : decode cX4_init 171 = .ok (.iastore, 1) := by decide +kernel
theorem dX4_init_172 : decode cX4_init 172 = .ok (.dup, 1) := by decide +kernel
theorem dX4_init_173 : decode cX4_init 173 = .ok (.bipush 29, 2) := by decide +kernel
theorem dX4_init_175 : decode cX4_init 175 = .ok (.bipush 100, 2) := by decide +kernel
theorem dX4_init_177 : decode cX4_init 177 = .ok (.iastore, 1) := by decide +kernel
theorem dX4_init_178 : decode cX4_init 178 = .ok (.dup, 1) := by decide +kernel
theorem dX4_init_179 : decode cX4_init 179 = .ok (.bipush 30, 2) := by decide +kernel
theorem dX4_init_181 : decode cX4_init 181 = .ok (.bipush 97, 2) := by decide +kernel
theorem dX4_init_183 : decode cX4_init 183 = .ok (.iastore, 1) := by decide +kernel
theorem dX4_init_184 : decode cX4_init 184 = .ok (.dup, 1) := by decide +kernel
theorem dX4_init_185 : decode cX4_init 185 = .ok (.bipush 31, 2) := by decide +kernel
theorem dX4_init_187 : decode cX4_init 187 = .ok (.bipush 121, 2) := by decide +kernel
theorem dX4_init_189 : decode cX4_init 189 = .ok (.iastore, 1) := by decide +kernel
theorem dX4_init_190 : decode cX4_init 190 = .ok (.dup, 1) := by decide +kernel
theorem dX4_init_191 : decode cX4_init 191 = .ok (.bipush 32, 2) := by decide +kernel
theorem dX4_init_193 : decode cX4_init 193 = .ok (.bipush 100, 2) := by decide +kernel
theorem dX4_init_195 : decode cX4_init 195 = .ok (.iastore, 1) := by decide +kernel
theorem dX4_init_196 : decode cX4_init 196 = .ok (.dup, 1) := by decide +kernel
theorem dX4_init_197 : decode cX4_init 197 = .ok (.bipush 33, 2) := by decide +kernel
theorem dX4_init_199 : decode cX4_init 199 = .ok (.bipush 114, 2) := by decide +kernel
theorem dX4_init_201 : decode cX4_init 201 = .ok (.iastore, 1) := by decide +kernel
theorem dX4_init_202 : decode cX4_init 202 = .ok (.dup, 1) := by decide +kernel
theorem dX4_init_203 : decode cX4_init 203 = .ok (.bipush 34, 2) := by decide +kernel
theorem dX4_init_205 : decode cX4_init 205 = .ok (.bipush 97, 2) := by decide +kernel
theorem dX4_init_207 : decode cX4_init 207 = .ok (.iastore, 1) := by decide +kernel
theorem dX4_init_208 : decode cX4_init 208 = .ok (.dup, 1) := by decide +kernel
theorem dX4_init_209 : decode cX4_init 209 = .ok (.bipush 35, 2) := by decide +kernel
theorem dX4_init_211 : decode cX4_init 211 = .ok (.bipush 119, 2) := by decide +kernel
theorem dX4_init_213 : decode cX4_init 213 = .ok (.iastore, 1) := by decide +kernel
theorem dX4_init_214 : decode cX4_init 214 = .ok (.dup, 1) := by decide +kernel
theorem dX4_init_215 : decode cX4_init 215 = .ok (.bipush 36, 2) := by decide +kernel
theorem dX4_init_217 : decode cX4_init 217 = .ok (.iconst 0, 1) := by decide +kernel
theorem dX4_init_218 : decode cX4_init 218 = .ok (.iastore, 1) := by decide +kernel
theorem dX4_init_219 : decode cX4_init 219 = .ok (.dup, 1) := by decide +kernel
theorem dX4_init_220 : decode cX4_init 220 = .ok (.bipush 37, 2) := by decide +kernel
theorem dX4_init_222 : decode cX4_init 222 = .ok (.iconst 0, 1) := by decide +kernel
theorem dX4_init_223 : decode cX4_init 223 = .ok (.iastore, 1) := by decide +kernel
theorem dX4_init_224 : decode cX4_init 224 = .ok (.dup, 1) := by decide +kernel
theorem dX4_init_225 : decode cX4_init 225 = .ok (.bipush 38, 2) := by decide +kernel
theorem dX4_init_227 : decode cX4_init 227 = .ok (.iconst 0, 1) := by decide +kernel
theorem dX4_init_228 : decode cX4_init 228 = .ok (.iastore, 1) := by decide +kernel
theorem dX4_init_229 : decode cX4_init 229 = .ok (.dup, 1) := by decide +kernel
theorem dX4_init_230 : decode cX4_init 230 = .ok (.bipush 39, 2) := by decide +kernel
theorem dX4_init_232 : decode cX4_init 232 = .ok (.iconst 0, 1) := by decide +kernel
theorem dX4_init_233 : decode cX4_init 233 = .ok (.iastore, 1) := by decide +kernel
theorem dX4_init_234 : decode cX4_init 234 = .ok (.dup, 1) := by decide +kernel
theorem dX4_init_235 : decode cX4_init 235 = .ok (.bipush 40, 2) := by decide +kernel
theorem dX4_init_237 : decode cX4_init 237 = .ok (.bipush 99, 2) := by decide +kernel
theorem dX4_init_239 : decode cX4_init 239 = .ok (.iastore, 1) := by decide +kernel
theorem dX4_init_240 : decode cX4_init 240 = .ok (.dup, 1) := by decide +kernel
theorem dX4_init_241 : decode cX4_init 241 = .ok (.bipush 41, 2) := by decide +kernel
theorem dX4_init_243 : decode cX4_init 243 = .ok (.bipush 97, 2) := by decide +kernel
theorem dX4_init_245 : decode cX4_init 245 = .ok (.iastore, 1) := by decide +kernel
theorem dX4_init_246 : decode cX4_init 246 = .ok (.dup, 1) := by decide +kernel
theorem dX4_init_247 : decode cX4_init 247 = .ok (.bipush 42, 2) := by decide +kernel
theorem dX4_init_249 : decode cX4_init 249 = .ok (.bipush 107, 2) := by decide +kernel
theorem dX4_init_251 : decode cX4_init 251 = .ok (.iastore, 1) := by decide +kernel
theorem dX4_init_252 : decode cX4_init 252 = .ok (.dup, 1) := by decide +kernel
theorem dX4_init_253 : decode cX4_init 253 = .ok (.bipush 43, 2) := by decide +kernel
theorem dX4_init_255 : decode cX4_init 255 = .ok (.bipush 101, 2) := by decide +kernel
theorem dX4_init_257 : decode cX4_init 257 = .ok (.iastore, 1) := by decide +kernel
theorem dX4_init_258 : decode cX4_init 258 = .ok (.dup, 1) := by decide +kernel
theorem dX4_init_259 : decode cX4_init 259 = .ok (.bipush 44, 2) := by decide +kernel
theorem dX4_init_261 : decode cX4_init 261 = .ok (.bipush 115, 2) := by decide +kernel
theorem dX4_init_263 : decode cX4_init 263 = .ok (.iastore, 1) := by decide +kernel
theorem dX4_init_264 : decode cX4_init 264 = .ok (.dup, 1) := by decide +kernel
theorem dX4_init_265 : decode cX4_init 265 = .ok (.bipush 45, 2) := by decide +kernel
theorem dX4_init_267 : decode cX4_init 267 = .ok (.iconst 0, 1) := by decide +kernel
theorem dX4_init_268 : decode cX4_init 268 = .ok (.iastore, 1) := by decide +kernel
theorem dX4_init_269 : decode cX4_init 269 = .ok (.dup, 1) := by decide +kernel
theorem dX4_init_270 : decode cX4_init 270 = .ok (.bipush 46, 2) := by decide +kernel
theorem dX4_init_272 : decode cX4_init 272 = .ok (.iconst 0, 1) := by decide +kernel
theorem dX4_init_273 : decode cX4_init 273 = .ok (.iastore, 1) := by decide +kernel
theorem dX4_init_274 : decode cX4_init 274 = .ok (.dup, 1) := by decide +kernel
theorem dX4_init_275 : decode cX4_init 275 = .ok (.bipush 47, 2) := by decide +kernel
theorem dX4_init_277 : decode cX4_init 277 = .ok (.iconst 0, 1) := by decide +kernel
theorem dX4_init_278 : decode cX4_init 278 = .ok (.iastore, 1) := by decide +kernel
theorem dX4_init_279 : decode cX4_init 279 = .ok (.dup, 1) := by decide +kernel
theorem dX4_init_280 : decode cX4_init 280 = .ok (.bipush 48, 2) := by decide +kernel
theorem dX4_init_282 : decode cX4_init 282 = .ok (.bipush 100, 2) := by decide +kernel
theorem dX4_init_284 : decode cX4_init 284 = .ok (.iastore, 1) := by decide +kernel
theorem dX4_init_285 : decode cX4_init 285 = .ok (.dup, 1) := by decide +kernel
theorem dX4_init_286 : decode cX4_init 286 = .ok (.bipush 49, 2) := by decide +kernel
theorem dX4_init_288 : decode cX4_init 288 = .ok (.bipush 97, 2) := by decide +kernel
theorem dX4_init_290 : decode cX4_init 290 = .ok (.iastore, 1) := by decide +kernel
theorem dX4_init_291 : decode cX4_init 291 = .ok (.dup, 1) := by decide +kernel
theorem dX4_init_292 : decode cX4_init 292 = .ok (.bipush 50, 2) := by decide +kernel
theorem dX4_init_294 : decode cX4_init 294 = .ok (.bipush 121, 2) := by decide +kernel
theorem dX4_init_296 : decode cX4_init 296 = .ok (.iastore, 1) := by decide +kernel
theorem dX4_init_297 : decode cX4_init 297 = .ok (.dup, 1) := by decide +kernel
theorem dX4_init_298 : decode cX4_init 298 = .ok (.bipush 51, 2) := by decide +kernel
theorem dX4_init_300 : decode cX4_init 300 = .ok (.bipush 115, 2) := by decide +kernel
theorem dX4_init_302 : decode cX4_init 302 = .ok (.iastore, 1) := by decide +kernel
theorem dX4_init_303 : decode cX4_init 303 = .ok (.dup, 1) := by decide +kernel
theorem dX4_init_304 : decode cX4_init 304 = .ok (.bipush 52, 2) := by decide +kernel
theorem dX4_init_306 : decode cX4_init 306 = .ok (.iconst 0, 1) := by decide +kernel
theorem dX4_init_307 : decode cX4_init 307 = .ok (.iastore, 1) := by decide +kernel
theorem dX4_init_308 : decode cX4_init 308 = .ok (.dup, 1) := by decide +kernel
theorem dX4_init_309 : decode cX4_init 309 = .ok (.bipush 53, 2) := by decide +kernel
theorem dX4_init_311 : decode cX4_init 311 = .ok (.iconst 0, 1) := by decide +kernel
theorem dX4_init_312 : decode cX4_init 312 = .ok (.iastore, 1) := by decide +kernel
theorem dX4_init_313 : decode cX4_init 313 = .ok (.dup, 1) := by decide +kernel
theorem dX4_init_314 : decode cX4_init 314 = .ok (.bipush 54, 2) := by decide +kernel
theorem dX4_init_316 : decode cX4_init 316 = .ok (.iconst 0, 1) := by decide +kernel
theorem dX4_init_317 : decode cX4_init 317 = .ok (.iastore, 1) := by decide +kernel
theorem dX4_init_318 : decode cX4_init 318 = .ok (.dup, 1) := by decide +kernel
theorem dX4_init_319 : decode cX4_init 319 = .ok (.bipush 55, 2) := by decide +kernel
theorem dX4_init_321 : decode cX4_init 321 = .ok (.iconst 0, 1) := by decide +kernel
theorem dX4_init_322 : decode cX4_init 322 = .ok (.iastore, 1) := by decide +kernel
theorem dX4_init_323 : decode cX4_init 323 = .ok (.dup, 1) := by decide +kernel
theorem dX4_init_324 : decode cX4_init 324 = .ok (.bipush 56, 2) := by decide +kernel
theorem dX4_init_326 : decode cX4_init 326 = .ok (.bipush 97, 2) := by decide +kernel
theorem dX4_init_328 : decode cX4_init 328 = .ok (.iastore, 1) := by decide +kernel
theorem dX4_init_329 : decode cX4_init 329 = .ok (.dup, 1) := by decide +kernel
theorem dX4_init_330 : decode cX4_init 330 = .ok (.bipush 57, 2) := by decide +kernel
theorem dX4_init_332 : decode cX4_init 332 = .ok (.bipush 100, 2) := by decide +kernel
theorem dX4_init_334 : decode cX4_init 334 = .ok (.iastore, 1) := by decide +kernel
theorem dX4_init_335 : decode cX4_init 335 = .ok (.dup, 1) := by decide +kernel
theorem dX4_init_336 : decode cX4_init 336 = .ok (.bipush 58, 2) := by decide +kernel
theorem dX4_init_338 : decode cX4_init 338 = .ok (.bipush 97, 2) := by decide +kernel
theorem dX4_init_340 : decode cX4_init 340 = .ok (.iastore, 1) := by decide +kernel
theorem dX4_init_341 : decode cX4_init 341 = .ok (.dup, 1) := by decide +kernel
theorem dX4_init_342 : decode cX4_init 342 = .ok (.bipush 59, 2) := by decide +kernel
theorem dX4_init_344 : decode cX4_init 344 = .ok (.iconst 0, 1) := by decide +kernel
theorem dX4_init_345 : decode cX4_init 345 = .ok (.iastore, 1) := by decide +kernel
theorem dX4_init_346 : decode cX4_init 346 = .ok (.dup, 1) := by decide +kernel
theorem dX4_init_347 : decode cX4_init 347 = .ok (.bipush 60, 2) := by decide +kernel
theorem dX4_init_349 : decode cX4_init 349 = .ok (.iconst 0, 1) := by decide +kernel
theorem dX4_init_350 : decode cX4_init 350 = .ok (.iastore, 1) := by decide +kernel
theorem dX4_init_351 : decode cX4_init 351 = .ok (.dup, 1) := by decide +kernel
theorem dX4_init_352 : decode cX4_init 352 = .ok (.bipush 61, 2) := by decide +kernel
theorem dX4_init_354 : decode cX4_init 354 = .ok (.iconst 0, 1) := by decide +kernel
theorem dX4_init_355 : decode cX4_init 355 = .ok (.iastore, 1) := by decide +kernel
theorem dX4_init_356 : decode cX4_init 356 = .ok (.dup, 1) := by decide +kernel
theorem dX4_init_357 : decode cX4_init 357 = .ok (.bipush 62, 2) := by decide +kernel
theorem dX4_init_359 : decode cX4_init 359 = .ok (.iconst 0, 1) := by decide +kernel
theorem dX4_init_360 : decode cX4_init 360 = .ok (.iastore, 1) := by decide +kernel
theorem dX4_init_361 : decode cX4_init 361 = .ok (.dup, 1) := by decide +kernel
theorem dX4_init_362 : decode cX4_init 362 = .ok (.bipush 63, 2) := by decide +kernel
theorem dX4_init_364 : decode cX4_init 364 = .ok (.iconst 0, 1) := by decide +kernel
theorem dX4_init_365 : decode cX4_init 365 = .ok (.iastore, 1) := by decide +kernel
theorem dX4_init_366 : decode cX4_init 366 = .ok (.dup, 1) := by decide +kernel
theorem dX4_init_367 : decode cX4_init 367 = .ok (.bipush 64, 2) := by decide +kernel
theorem dX4_init_369 : decode cX4_init 369 = .ok (.bipush 98, 2) := by decide +kernel
theorem dX4_init_371 : decode cX4_init 371 = .ok (.iastore, 1) := by decide +kernel
theorem dX4_init_372 : decode cX4_init 372 = .ok (.dup, 1) := by decide +kernel
theorem dX4_init_373 : decode cX4_init 373 = .ok (.bipush 65, 2) := by decide +kernel
theorem dX4_init_375 : decode cX4_init 375 = .ok (.bipush 101, 2) := by decide +kernel
theorem dX4_init_377 : decode cX4_init 377 = .ok (.iastore, 1) := by decide +kernel
theorem dX4_init_378 : decode cX4_init 378 = .ok (.dup, 1) := by decide +kernel
theorem dX4_init_379 : decode cX4_init 379 = .ok (.bipush 66, 2) := by decide +kernel
theorem dX4_init_381 : decode cX4_init 381 = .ok (.bipush 110, 2) := by decide +kernel
theorem dX4_init_383 : decode cX4_init 383 = .ok (.iastore, 1) := by decide +kernel
theorem dX4_init_384 : decode cX4_init 384 = .ok (.dup, 1) := by decide +kernel
theorem dX4_init_385 : decode cX4_init 385 = .ok (.bipush 67, 2) := by decide +kernel
theorem dX4_init_387 : decode cX4_init 387 = .ok (.iconst 0, 1) := by decide +kernel
theorem dX4_init_388 : decode cX4_init 388 = .ok (.iastore, 1) := by decide +kernel
theorem dX4_init_389 : decode cX4_init 389 = .ok (.dup, 1) := by decide +kernel
theorem dX4_init_390 : decode cX4_init 390 = .ok (.bipush 68, 2) := by decide +kernel
theorem dX4_init_392 : decode cX4_init 392 = .ok (.iconst 0, 1) := by decide +kernel
theorem dX4_init_393 : decode cX4_init 393 = .ok (.iastore, 1) := by decide +kernel
theorem dX4_init_394 : decode cX4_init 394 = .ok (.dup, 1) := by decide +kernel
theorem dX4_init_395 : decode cX4_init 395 = .ok (.bipush 69, 2) := by decide +kernel
theorem dX4_init_397 : decode cX4_init 397 = .ok (.iconst 0, 1) := by decide +kernel
theorem dX4_init_398 : decode cX4_init 398 = .ok (.iastore, 1) := by decide +kernel
theorem dX4_init_399 : decode cX4_init 399 = .ok (.dup, 1) := by decide +kernel
theorem dX4_init_400 : decode cX4_init 400 = .ok (.bipush 70, 2) := by decide +kernel
theorem dX4_init_402 : decode cX4_init 402 = .ok (.iconst 0, 1) := by decide +kernel
theorem dX4_init_403 : decode cX4_init 403 = .ok (.iastore, 1) := by decide +kernel
theorem dX4_init_404 : decode cX4_init 404 = .ok (.dup, 1) := by decide +kernel
theorem dX4_init_405 : decode cX4_init 405 = .ok (.bipush 71, 2) := by decide +kernel
theorem dX4_init_407 : decode cX4_init 407 = .ok (.iconst 0, 1) := by decide +kernel
theorem dX4_init_408 : decode cX4_init 408 = .ok (.iastore, 1) := by decide +kernel
theorem dX4_init_409 : decode cX4_init 409 = .ok (.dup, 1) := by decide +kernel
theorem dX4_init_410 : decode cX4_init 410 = .ok (.bipush 72, 2) := by decide +kernel
theorem dX4_init_412 : decode cX4_init 412 = .ok (.bipush 99, 2) := by decide +kernel
theorem dX4_init_414 : decode cX4_init 414 = .ok (.iastore, 1) := by decide +kernel
theorem dX4_init_415 : decode cX4_init 415 = .ok (.dup, 1) := by decide +kernel
theorem dX4_init_416 : decode cX4_init 416 = .ok (.bipush 73, 2) := by decide +kernel
theorem dX4_init_418 : decode cX4_init 418 = .ok (.bipush 108, 2) := by decide +kernel
theorem dX4_init_420 : decode cX4_init 420 = .ok (.iastore, 1) := by decide +kernel
theorem dX4_init_421 : decode cX4_init 421 = .ok (.dup, 1) := by decide +kernel
theorem dX4_init_422 : decode cX4_init 422 = .ok (.bipush 74, 2) := by decide +kernel
theorem dX4_init_424 : decode cX4_init 424 = .ok (.bipush 101, 2) := by decide +kernel
theorem dX4_init_426 : decode cX4_init 426 = .ok (.iastore, 1) := by decide +kernel
theorem dX4_init_427 : decode cX4_init 427 = .ok (.dup, 1) := by decide +kernel
theorem dX4_init_428 : decode cX4_init 428 = .ok (.bipush 75, 2) := by decide +kernel
theorem dX4_init_430 : decode cX4_init 430 = .ok (.bipush 111, 2) := by decide +kernel
theorem dX4_init_432 : decode cX4_init 432 = .ok (.iastore, 1) := by decide +kernel
theorem dX4_init_433 : decode cX4_init 433 = .ok (.dup, 1) := by decide +kernel
theorem dX4_init_434 : decode cX4_init 434 = .ok (.bipush 76, 2) := by decide +kernel
theorem dX4_init_436 : decode cX4_init 436 = .ok (.iconst 0, 1) := by decide +kernel
theorem dX4_init_437 : decode cX4_init 437 = .ok (.iastore, 1) := by decide +kernel
theorem dX4_init_438 : decode cX4_init 438 = .ok (.dup, 1) := by decide +kernel
theorem dX4_init_439 : decode cX4_init 439 = .ok (.bipush 77, 2) := by decide +kernel
theorem dX4_init_441 : decode cX4_init 441 = .ok (.iconst 0, 1) := by decide +kernel
theorem dX4_init_442 : decode cX4_init 442 = .ok (.iastore, 1) := by decide +kernel
theorem dX4_init_443 : decode cX4_init 443 = .ok (.dup, 1) := by decide +kernel
theorem dX4_init_444 : decode cX4_init 444 = .ok (.bipush 78, 2) := by decide +kernel
theorem dX4_init_446 : decode cX4_init 446 = .ok (.iconst 0, 1) := by decide +kernel
theorem dX4_init_447 : decode cX4_init 447 = .ok (.iastore, 1) := by decide +kernel
theorem dX4_init_448 : decode cX4_init 448 = .ok (.dup, 1) := by decide +kernel
theorem dX4_init_449 : decode cX4_init 449 = .ok (.bipush 79, 2) := by decide +kernel
theorem dX4_init_451 : decode cX4_init 451 = .ok (.iconst 0, 1) := by decide +kernel
theorem dX4_init_452 : decode cX4_init 452 = .ok (.iastore, 1) := by decide +kernel
theorem dX4_init_453 : decode cX4_init 453 = .ok (.putfield 7, 3) := by decide +kernel
theorem dX4_init_456 : decode cX4_init 456 = .ok (.aload_n 0, 1) := by decide +kernel
theorem dX4_init_457 : decode cX4_init 457 = .ok (.sipush 151, 3) := by decide +kernel
theorem dX4_init_460 : decode cX4_init 460 = .ok (.newarray .int, 2) := by decide +kernel
theorem dX4_init_462 : decode cX4_init 462 = .ok (.putfield 13, 3) := by decide +kernel
theorem dX4_init_465 : decode cX4_init 465 = .ok (.aload_n 0, 1) := by decide +kernel
theorem dX4_init_466 : decode cX4_init 466 = .ok (.sipush 151, 3) := by decide +kernel
theorem dX4_init_469 : decode cX4_init 469 = .ok (.newarray .int, 2) := by decide +kernel
theorem dX4_init_471 : decode cX4_init 471 = .ok (.putfield 16, 3) := by decide +kernel
theorem dX4_init_474 : decode cX4_init 474 = .ok (.aload_n 0, 1) := by decide +kernel
theorem dX4_init_475 : decode cX4_init 475 = .ok (.sipush 1510, 3) := by decide +kernel
theorem dX4_init_478 : decode cX4_init 478 = .ok (.newarray .int, 2) := by decide +kernel
theorem dX4_init_480 : decode cX4_init 480 = .ok (.putfield 19, 3) := by decide +kernel
theorem dX4_init_483 : decode cX4_init 483 = .ok (.aload_n 0, 1) := by decide +kernel
theorem dX4_init_484 : decode cX4_init 484 = .ok (.sipush 302, 3) := by decide +kernel
theorem dX4_init_487 : decode cX4_init 487 = .ok (.newarray .int, 2) := by decide +kernel
theorem dX4_init_489 : decode cX4_init 489 = .ok (.putfield 22, 3) := by decide +kernel
theorem dX4_init_492 : decode cX4_init 492 = .ok (.aload_n 0, 1) := by decide +kernel
theorem dX4_init_493 : decode cX4_init 493 = .ok (.bipush 6, 2) := by decide +kernel
theorem dX4_init_495 : decode cX4_init 495 = .ok (.newarray .int, 2) := by decide +kernel
theorem dX4_init_497 : decode cX4_init 497 = .ok (.putfield 25, 3) := by decide +kernel
theorem dX4_init_500 : decode cX4_init 500 = .ok (.aload_n 0, 1) := by decide +kernel
theorem dX4_init_501 : decode cX4_init 501 = .ok (.sipush 600, 3) := by decide +kernel
theorem dX4_init_504 : decode cX4_init 504 = .ok (.newarray .byte, 2) := by decide +kernel
theorem dX4_init_506 : decode cX4_init 506 = .ok (.putfield 28, 3) := by decide +kernel
theorem dX4_init_509 : decode cX4_init 509 = .ok (.aload_n 0, 1) := by decide +kernel
theorem dX4_init_510 : decode cX4_init 510 = .ok (.bipush 40, 2) := by decide +kernel
theorem dX4_init_512 : decode cX4_init 512 = .ok (.newarray .byte, 2) := by decide +kernel
theorem dX4_init_514 : decode cX4_init 514 = .ok (.putfield 32, 3) := by decide +kernel
theorem dX4_init_517 : decode cX4_init 517 = .ok (.aload_n 0, 1) := by decide +kernel
theorem dX4_init_518 : decode cX4_init 518 = .ok (.iconst (-1), 1) := by decide +kernel
theorem dX4_init_519 : decode cX4_init 519 = .ok (.putfield 35, 3) := by decide +kernel
theorem dX4_init_522 : decode cX4_init 522 = .ok (.aload_n 0, 1) := by decide +kernel
theorem dX4_init_523 : decode cX4_init 523 = .ok (.getfield 13, 3) := by decide +kernel
theorem dX4_init_526 : decode cX4_init 526 = .ok (.iconst 2, 1) := by decide +kernel
theorem dX4_init_527 : decode cX4_init 527 = .ok (.bipush 7, 2) := by decide +kernel
theorem dX4_init_529 : decode cX4_init 529 = .ok (.iastore, 1) := by decide +kernel
theorem dX4_init_530 : decode cX4_init 530 = .ok (.aload_n 0, 1) := by decide +kernel
theorem dX4_init_531 : decode cX4_init 531 = .ok (.getfield 13, 3) := by decide +kernel
theorem dX4_init_534 : decode cX4_init 534 = .ok (.iconst 3, 1) := by decide +kernel
theorem dX4_init_535 : decode cX4_init 535 = .ok (.bipush 12, 2) := by decide +kernel
theorem dX4_init_537 : decode cX4_init 537 = .ok (.iastore, 1) := by decide +kernel
theorem dX4_init_538 : decode cX4_init 538 = .ok (.aload_n 0, 1) := by decide +kernel
theorem dX4_init_539 : decode cX4_init 539 = .ok (.getfield 13, 3) := by decide +kernel
theorem dX4_init_542 : decode cX4_init 542 = .ok (.bipush 6, 2) := by decide +kernel
theorem dX4_init_544 : decode cX4_init 544 = .ok (.bipush 12, 2) := by decide +kernel
theorem dX4_init_546 : decode cX4_init 546 = .ok (.iastore, 1) := by decide +kernel
theorem dX4_init_547 : decode cX4_init 547 = .ok (.aload_n 0, 1) := by decide +kernel
theorem dX4_init_548 : decode cX4_init 548 = .ok (.iconst 4, 1) := by decide +kernel
theorem dX4_init_549 : decode cX4_init 549 = .ok (.invokevirtual 39, 3) := by decide +kernel
theorem dX4_init_552 : decode cX4_init 552 = .ok (.aload_n 0, 1) := by decide +kernel
theorem dX4_init_553 : decode cX4_init 553 = .ok (.iconst 2, 1) := by decide +kernel
theorem dX4_init_554 : decode cX4_init 554 = .ok (.invokevirtual 39, 3) := by decide +kernel
theorem dX4_init_557 : decode cX4_init 557 = .ok (.aload_n 0, 1) := by decide +kernel
theorem dX4_init_558 : decode cX4_init 558 = .ok (.bipush 7, 2) := by decide +kernel
theorem dX4_init_560 : decode cX4_init 560 = .ok (.invokevirtual 43, 3) := by decide +kernel
theorem dX4_init_563 : decode cX4_init 563 = .ok (.aload_n 0, 1) := by decide +kernel
theorem dX4_init_564 : decode cX4_init 564 = .ok (.iconst 2, 1) := by decide +kernel
theorem dX4_init_565 : decode cX4_init 565 = .ok (.iconst 3, 1) := by decide +kernel
theorem dX4_init_566 : decode cX4_init 566 = .ok (.iconst 4, 1) := by decide +kernel
theorem dX4_init_567 : decode cX4_init 567 = .ok (.iconst 0, 1) := by decide +kernel
theorem dX4_init_568 : decode cX4_init 568 = .ok (.invokevirtual 46, 3) := by decide +kernel
theorem dX4_init_571 : decode cX4_init 571 = .ok (.aload_n 0, 1) := by decide +kernel
theorem dX4_init_572 : decode cX4_init 572 = .ok (.bipush 8, 2) := by decide +kernel
theorem dX4_init_574 : decode cX4_init 574 = .ok (.invokevirtual 43, 3) := by decide +kernel
theorem dX4_init_577 : decode cX4_init 577 = .ok (.aload_n 0, 1) := by decide +kernel
theorem dX4_init_578 : decode cX4_init 578 = .ok (.iconst 2, 1) := by decide +kernel
theorem dX4_init_579 : decode cX4_init 579 = .ok (.bipush 9, 2) := by decide +kernel
theorem dX4_init_581 : decode cX4_init 581 = .ok (.iconst 1, 1) := by decide +kernel
theorem dX4_init_582 : decode cX4_init 582 = .ok (.iconst 0, 1) := by decide +kernel
theorem dX4_init_583 : decode cX4_init 583 = .ok (.invokevirtual 46, 3) := by decide +kernel
theorem dX4_init_586 : decode cX4_init 586 = .ok (.aload_n 0, 1) := by decide +kernel
theorem dX4_init_587 : decode cX4_init 587 = .ok (.bipush 9, 2) := by decide +kernel
theorem dX4_init_589 : decode cX4_init 589 = .ok (.invokevirtual 43, 3) := by decide +kernel
theorem dX4_init_592 : decode cX4_init 592 = .ok (.aload_n 0, 1) := by decide +kernel
theorem dX4_init_593 : decode cX4_init 593 = .ok (.iconst 5, 1) := by decide +kernel
theorem dX4_init_594 : decode cX4_init 594 = .ok (.iconst 2, 1) := by decide +kernel
theorem dX4_init_595 : decode cX4_init 595 = .ok (.bipush 6, 2) := by decide +kernel
theorem dX4_init_597 : decode cX4_init 597 = .ok (.iconst 1, 1) := by decide +kernel
theorem dX4_init_598 : decode cX4_init 598 = .ok (.invokevirtual 46, 3) := by decide +kernel
theorem dX4_init_601 : decode cX4_init 601 = .ok (.aload_n 0, 1) := by decide +kernel
theorem dX4_init_602 : decode cX4_init 602 = .ok (.getfield 13, 3) := by decide +kernel
theorem dX4_init_605 : decode cX4_init 605 = .ok (.bipush 13, 2) := by decide +kernel
theorem dX4_init_607 : decode cX4_init 607 = .ok (.iconst 1, 1) := by decide +kernel
theorem dX4_init_608 : decode cX4_init 608 = .ok (.iastore, 1) := by decide +kernel
theorem dX4_init_609 : decode cX4_init 609 = .ok (.aload_n 0, 1) := by decide +kernel
theorem dX4_init_610 : decode cX4_init 610 = .ok (.getfield 13, 3) := by decide +kernel
theorem dX4_init_613 : decode cX4_init 613 = .ok (.bipush 14, 2) := by decide +kernel
theorem dX4_init_615 : decode cX4_init 615 = .ok (.iconst 2, 1) := by decide +kernel
theorem dX4_init_616 : decode cX4_init 616 = .ok (.iastore, 1) := by decide +kernel
theorem dX4_init_617 : decode cX4_init 617 = .ok (.aload_n 0, 1) := by decide +kernel
theorem dX4_init_618 : decode cX4_init 618 = .ok (.getfield 13, 3) := by decide +kernel
theorem dX4_init_621 : decode cX4_init 621 = .ok (.iconst 0, 1) := by decide +kernel
theorem dX4_init_622 : decode cX4_init 622 = .ok (.invokestatic 50, 3) := by decide +kernel
theorem dX4_init_625 : decode cX4_init 625 = .ok (.iconst 4, 1) := by decide +kernel
theorem dX4_init_626 : decode cX4_init 626 = .ok (.iadd, 1) := by decide +kernel
theorem dX4_init_627 : decode cX4_init 627 = .ok (.iconst 4, 1) := by decide +kernel
theorem dX4_init_628 : decode cX4_init 628 = .ok (.iastore, 1) := by decide +kernel
theorem dX4_init_629 : decode cX4_init 629 = .ok (.aload_n 0, 1) := by decide +kernel
theorem dX4_init_630 : decode cX4_init 630 = .ok (.iconst 1, 1) := by decide +kernel
theorem dX4_init_631 : decode cX4_init 631 = .ok (.aload_n 0, 1) := by decide +kernel
theorem dX4_init_632 : decode cX4_init 632 = .ok (.iconst 1, 1) := by decide +kernel
theorem dX4_init_633 : decode cX4_init 633 = .ok (.invokevirtual 54, 3) := by decide +kernel
theorem dX4_init_636 : decode cX4_init 636 = .ok (.invokevirtual 57, 3) := by decide +kernel
theorem dX4_init_639 : decode cX4_init 639 = .ok (.aload_n 0, 1) := by decide +kernel
theorem dX4_init_640 : decode cX4_init 640 = .ok (.getfield 13, 3) := by decide +kernel
theorem dX4_init_643 : decode cX4_init 643 = .ok (.iconst 2, 1) := by decide +kernel
theorem dX4_init_644 : decode cX4_init 644 = .ok (.invokestatic 50, 3) := by decide +kernel
theorem dX4_init_647 : decode cX4_init 647 = .ok (.iconst 4, 1) := by decide +kernel
theorem dX4_init_648 : decode cX4_init 648 = .ok (.iadd, 1) := by decide +kernel
theorem dX4_init_649 : decode cX4_init 649 = .ok (.iconst 4, 1) := by decide +kernel
theorem dX4_init_650 : decode cX4_init 650 = .ok (.iastore, 1) := by decide +kernel
theorem dX4_init_651 : decode cX4_init 651 = .ok (.aload_n 0, 1) := by decide +kernel
theorem dX4_init_652 : decode cX4_init 652 = .ok (.iconst 4, 1) := by decide +kernel
theorem dX4_init_653 : decode cX4_init 653 = .ok (.invokevirtual 61, 3) := by decide +kernel
theorem dX4_init_656 : decode cX4_init 656 = .ok (.istore_n 1, 1) := by decide +kernel
theorem dX4_init_657 : decode cX4_init 657 = .ok (.return_, 1) := by decide +kernel
theorem dX4_spellsKey_0 : decode cX4_spellsKey 0 = .ok (.iconst 0, 1) := by decide +kernel
theorem dX4_spellsKey_1 : decode cX4_spellsKey 1 = .ok (.istore_n 2, 1) := by decide +kernel
theorem dX4_spellsKey_2 : decode cX4_spellsKey 2 = .ok (.iload_n 2, 1) := by decide +kernel
theorem dX4_spellsKey_3 : decode cX4_spellsKey 3 = .ok (.bipush 6, 2) := by decide +kernel
theorem dX4_spellsKey_5 : decode cX4_spellsKey 5 = .ok (.if_icmp .ge 26, 3) := by decide +kernel
theorem dX4_spellsKey_8 : decode cX4_spellsKey 8 = .ok (.aload_n 0, 1) := by decide +kernel
theorem dX4_spellsKey_9 : decode cX4_spellsKey 9 = .ok (.getfield 25, 3) := by decide +kernel
theorem dX4_spellsKey_12 : decode cX4_spellsKey 12 = .ok (.iload_n 2, 1) := by decide +kernel
theorem dX4_spellsKey_13 : decode cX4_spellsKey 13 = .ok (.aload_n 0, 1) := by decide +kernel
theorem dX4_spellsKey_14 : decode cX4_spellsKey 14 = .ok (.getfield 7, 3) := by decide +kernel
theorem dX4_spellsKey_17 : decode cX4_spellsKey 17 = .ok (.bipush 8, 2) := by decide +kernel
theorem dX4_spellsKey_19 : decode cX4_spellsKey 19 = .ok (.iload_n 1, 1) := by decide +kernel
theorem dX4_spellsKey_20 : decode cX4_spellsKey 20 = .ok (.imul, 1) := by decide +kernel
theorem dX4_spellsKey_21 : decode cX4_spellsKey 21 = .ok (.iload_n 2, 1) := by decide +kernel
theorem dX4_spellsKey_22 : decode cX4_spellsKey 22 = .ok (.iadd, 1) := by decide +kernel
theorem dX4_spellsKey_23 : decode cX4_spellsKey 23 = .ok (.iaload, 1) := by decide +kernel
theorem dX4_spellsKey_24 : decode cX4_spellsKey 24 = .ok (.iastore, 1) := by decide +kernel
theorem dX4_spellsKey_25 : decode cX4_spellsKey 25 = .ok (.iinc 2 1, 3) := by decide +kernel
theorem dX4_spellsKey_28 : decode cX4_spellsKey 28 = .ok (.goto (-26), 3) := by decide +kernel
theorem dX4_spellsKey_31 : decode cX4_spellsKey 31 = .ok (.return_, 1) := by decide +kernel
theorem dX4_thrown_0 : decode cX4_thrown 0 = .ok (.aload_n 0, 1) := by decide +kernel
theorem dX4_thrown_1 : decode cX4_thrown 1 = .ok (.getfield 64, 3) := by decide +kernel
theorem dX4_thrown_4 : decode cX4_thrown 4 = .ok (.ireturn, 1) := by decide +kernel
theorem dX4_refuse_0 : decode cX4_refuse 0 = .ok (.aload_n 0, 1) := by decide +kernel
theorem dX4_refuse_1 : decode cX4_refuse 1 = .ok (.iload_n 1, 1) := by decide +kernel
theorem dX4_refuse_2 : decode cX4_refuse 2 = .ok (.putfield 64, 3) := by decide +kernel
theorem dX4_refuse_5 : decode cX4_refuse 5 = .ok (.iconst 0, 1) := by decide +kernel
theorem dX4_refuse_6 : decode cX4_refuse 6 = .ok (.ireturn, 1) := by decide +kernel
theorem dX4_told_0 : decode cX4_told 0 = .ok (.aload_n 0, 1) := by decide +kernel
theorem dX4_told_1 : decode cX4_told 1 = .ok (.iconst 0, 1) := by decide +kernel
theorem dX4_told_2 : decode cX4_told 2 = .ok (.putfield 64, 3) := by decide +kernel
theorem dX4_told_5 : decode cX4_told 5 = .ok (.iload_n 1, 1) := by decide +kernel
theorem dX4_told_6 : decode cX4_told 6 = .ok (.ireturn, 1) := by decide +kernel
theorem dX4_in_0 : decode cX4_in 0 = .ok (.iload_n 0, 1) := by decide +kernel
theorem dX4_in_1 : decode cX4_in 1 = .ok (.iload_n 1, 1) := by decide +kernel
theorem dX4_in_2 : decode cX4_in 2 = .ok (.if_icmp .lt 12, 3) := by decide +kernel
theorem dX4_in_5 : decode cX4_in 5 = .ok (.iload_n 0, 1) := by decide +kernel
theorem dX4_in_6 : decode cX4_in 6 = .ok (.iload_n 2, 1) := by decide +kernel
theorem dX4_in_7 : decode cX4_in 7 = .ok (.if_icmp .gt 7, 3) := by decide +kernel
theorem dX4_in_10 : decode cX4_in 10 = .ok (.iconst 1, 1) := by decide +kernel
theorem dX4_in_11 : decode cX4_in 11 = .ok (.goto 4, 3) := by decide +kernel
theorem dX4_in_14 : decode cX4_in 14 = .ok (.iconst 0, 1) := by decide +kernel
theorem dX4_in_15 : decode cX4_in 15 = .ok (.ireturn, 1) := by decide +kernel
theorem dX4_without_0 : decode cX4_without 0 = .ok (.iload_n 0, 1) := by decide +kernel
theorem dX4_without_1 : decode cX4_without 1 = .ok (.ifCond .ge 8, 3) := by decide +kernel
theorem dX4_without_4 : decode cX4_without 4 = .ok (.iload_n 0, 1) := by decide +kernel
theorem dX4_without_5 : decode cX4_without 5 = .ok (.ineg, 1) := by decide +kernel
theorem dX4_without_6 : decode cX4_without 6 = .ok (.goto 4, 3) := by decide +kernel
theorem dX4_without_9 : decode cX4_without 9 = .ok (.iload_n 0, 1) := by decide +kernel
theorem dX4_without_10 : decode cX4_without 10 = .ok (.ireturn, 1) := by decide +kernel
theorem dX4_c_0 : decode cX4_c 0 = .ok (.bipush 21, 2) := by decide +kernel
theorem dX4_c_2 : decode cX4_c 2 = .ok (.bipush 13, 2) := by decide +kernel
theorem dX4_c_4 : decode cX4_c 4 = .ok (.iload_n 0, 1) := by decide +kernel
theorem dX4_c_5 : decode cX4_c 5 = .ok (.imul, 1) := by decide +kernel
theorem dX4_c_6 : decode cX4_c 6 = .ok (.iadd, 1) := by decide +kernel
theorem dX4_c_7 : decode cX4_c 7 = .ok (.ireturn, 1) := by decide +kernel
theorem dX4_isGarden_0 : decode cX4_isGarden 0 = .ok (.iload_n 1, 1) := by decide +kernel
theorem dX4_isGarden_1 : decode cX4_isGarden 1 = .ok (.iconst 0, 1) := by decide +kernel
theorem dX4_isGarden_2 : decode cX4_isGarden 2 = .ok (.aload_n 0, 1) := by decide +kernel
theorem dX4_isGarden_3 : decode cX4_isGarden 3 = .ok (.getfield 13, 3) := by decide +kernel
theorem dX4_isGarden_6 : decode cX4_isGarden 6 = .ok (.iconst 4, 1) := by decide +kernel
theorem dX4_isGarden_7 : decode cX4_isGarden 7 = .ok (.iaload, 1) := by decide +kernel
theorem dX4_isGarden_8 : decode cX4_isGarden 8 = .ok (.iconst 1, 1) := by decide +kernel
theorem dX4_isGarden_9 : decode cX4_isGarden 9 = .ok (.isub, 1) := by decide +kernel
theorem dX4_isGarden_10 : decode cX4_isGarden 10 = .ok (.invokestatic 67, 3) := by decide +kernel
theorem dX4_isGarden_13 : decode cX4_isGarden 13 = .ok (.ireturn, 1) := by decide +kernel
theorem dX4_isChild_0 : decode cX4_isChild 0 = .ok (.iload_n 1, 1) := by decide +kernel
theorem dX4_isChild_1 : decode cX4_isChild 1 = .ok (.iconst 0, 1) := by decide +kernel
theorem dX4_isChild_2 : decode cX4_isChild 2 = .ok (.aload_n 0, 1) := by decide +kernel
theorem dX4_isChild_3 : decode cX4_isChild 3 = .ok (.getfield 13, 3) := by decide +kernel
theorem dX4_isChild_6 : decode cX4_isChild 6 = .ok (.iconst 5, 1) := by decide +kernel
theorem dX4_isChild_7 : decode cX4_isChild 7 = .ok (.iaload, 1) := by decide +kernel
theorem dX4_isChild_8 : decode cX4_isChild 8 = .ok (.iconst 1, 1) := by decide +kernel
theorem dX4_isChild_9 : decode cX4_isChild 9 = .ok (.isub, 1) := by decide +kernel
theorem dX4_isChild_10 : decode cX4_isChild 10 = .ok (.invokestatic 67, 3) := by decide +kernel
theorem dX4_isChild_13 : decode cX4_isChild 13 = .ok (.ireturn, 1) := by decide +kernel
theorem dX4_isDate_0 : decode cX4_isDate 0 = .ok (.iload_n 0, 1) := by decide +kernel
theorem dX4_isDate_1 : decode cX4_isDate 1 = .ok (.iconst 1, 1) := by decide +kernel
theorem dX4_isDate_2 : decode cX4_isDate 2 = .ok (.bipush 12, 2) := by decide +kernel
theorem dX4_isDate_4 : decode cX4_isDate 4 = .ok (.invokestatic 67, 3) := by decide +kernel
theorem dX4_isDate_7 : decode cX4_isDate 7 = .ok (.ifCond .eq 17, 3) := by decide +kernel
theorem dX4_isDate_10 : decode cX4_isDate 10 = .ok (.iload_n 1, 1) := by decide +kernel
theorem dX4_isDate_11 : decode cX4_isDate 11 = .ok (.iconst 1, 1) := by decide +kernel
theorem dX4_isDate_12 : decode cX4_isDate 12 = .ok (.bipush 30, 2) := by decide +kernel
theorem dX4_isDate_14 : decode cX4_isDate 14 = .ok (.invokestatic 67, 3) := by decide +kernel
theorem dX4_isDate_17 : decode cX4_isDate 17 = .ok (.ifCond .eq 7, 3) := by decide +kernel
theorem dX4_isDate_20 : decode cX4_isDate 20 = .ok (.iconst 1, 1) := by decide +kernel
theorem dX4_isDate_21 : decode cX4_isDate 21 = .ok (.goto 4, 3) := by decide +kernel
theorem dX4_isDate_24 : decode cX4_isDate 24 = .ok (.iconst 0, 1) := by decide +kernel
theorem dX4_isDate_25 : decode cX4_isDate 25 = .ok (.ireturn, 1) := by decide +kernel
theorem dX4_position_0 : decode cX4_position 0 = .ok (.iload_n 0, 1) := by decide +kernel
theorem dX4_position_1 : decode cX4_position 1 = .ok (.iconst 1, 1) := by decide +kernel
theorem dX4_position_2 : decode cX4_position 2 = .ok (.isub, 1) := by decide +kernel
theorem dX4_position_3 : decode cX4_position 3 = .ok (.bipush 30, 2) := by decide +kernel
theorem dX4_position_5 : decode cX4_position 5 = .ok (.imul, 1) := by decide +kernel
theorem dX4_position_6 : decode cX4_position 6 = .ok (.iload_n 1, 1) := by decide +kernel
theorem dX4_position_7 : decode cX4_position 7 = .ok (.iadd, 1) := by decide +kernel
theorem dX4_position_8 : decode cX4_position 8 = .ok (.iconst 1, 1) := by decide +kernel
theorem dX4_position_9 : decode cX4_position 9 = .ok (.isub, 1) := by decide +kernel
theorem dX4_position_10 : decode cX4_position 10 = .ok (.ireturn, 1) := by decide +kernel
theorem dX4_plants_0 : decode cX4_plants 0 = .ok (.aload_n 0, 1) := by decide +kernel
theorem dX4_plants_1 : decode cX4_plants 1 = .ok (.getfield 13, 3) := by decide +kernel
theorem dX4_plants_4 : decode cX4_plants 4 = .ok (.bipush 17, 2) := by decide +kernel
theorem dX4_plants_6 : decode cX4_plants 6 = .ok (.aload_n 0, 1) := by decide +kernel
theorem dX4_plants_7 : decode cX4_plants 7 = .ok (.getfield 13, 3) := by decide +kernel
theorem dX4_plants_10 : decode cX4_plants 10 = .ok (.iconst 4, 1) := by decide +kernel
theorem dX4_plants_11 : decode cX4_plants 11 = .ok (.iaload, 1) := by decide +kernel
theorem dX4_plants_12 : decode cX4_plants 12 = .ok (.iadd, 1) := by decide +kernel
theorem dX4_plants_13 : decode cX4_plants 13 = .ok (.iload_n 1, 1) := by decide +kernel
theorem dX4_plants_14 : decode cX4_plants 14 = .ok (.iastore, 1) := by decide +kernel
theorem dX4_plants_15 : decode cX4_plants 15 = .ok (.aload_n 0, 1) := by decide +kernel
theorem dX4_plants_16 : decode cX4_plants 16 = .ok (.getfield 13, 3) := by decide +kernel
theorem dX4_plants_19 : decode cX4_plants 19 = .ok (.iconst 4, 1) := by decide +kernel
theorem dX4_plants_20 : decode cX4_plants 20 = .ok (.dup2, 1) := by decide +kernel
theorem dX4_plants_21 : decode cX4_plants 21 = .ok (.iaload, 1) := by decide +kernel
theorem dX4_plants_22 : decode cX4_plants 22 = .ok (.iconst 1, 1) := by decide +kernel
theorem dX4_plants_23 : decode cX4_plants 23 = .ok (.iadd, 1) := by decide +kernel
theorem dX4_plants_24 : decode cX4_plants 24 = .ok (.iastore, 1) := by decide +kernel
theorem dX4_plants_25 : decode cX4_plants 25 = .ok (.return_, 1) := by decide +kernel
theorem dX4_comes_0 : decode cX4_comes 0 = .ok (.aload_n 0, 1) := by decide +kernel
theorem dX4_comes_1 : decode cX4_comes 1 = .ok (.getfield 13, 3) := by decide +kernel
theorem dX4_comes_4 : decode cX4_comes 4 = .ok (.iconst 5, 1) := by decide +kernel
theorem dX4_comes_5 : decode cX4_comes 5 = .ok (.iaload, 1) := by decide +kernel
theorem dX4_comes_6 : decode cX4_comes 6 = .ok (.invokestatic 50, 3) := by decide +kernel
theorem dX4_comes_9 : decode cX4_comes 9 = .ok (.istore 5, 2) := by decide +kernel
theorem dX4_comes_11 : decode cX4_comes 11 = .ok (.aload_n 0, 1) := by decide +kernel
theorem dX4_comes_12 : decode cX4_comes 12 = .ok (.getfield 13, 3) := by decide +kernel
theorem dX4_comes_15 : decode cX4_comes 15 = .ok (.iload 5, 2) := by decide +kernel
theorem dX4_comes_17 : decode cX4_comes 17 = .ok (.iconst 0, 1) := by decide +kernel
theorem dX4_comes_18 : decode cX4_comes 18 = .ok (.iadd, 1) := by decide +kernel
theorem dX4_comes_19 : decode cX4_comes 19 = .ok (.iload_n 1, 1) := by decide +kernel
theorem dX4_comes_20 : decode cX4_comes 20 = .ok (.iastore, 1) := by decide +kernel
theorem dX4_comes_21 : decode cX4_comes 21 = .ok (.aload_n 0, 1) := by decide +kernel
theorem dX4_comes_22 : decode cX4_comes 22 = .ok (.getfield 13, 3) := by decide +kernel
theorem dX4_comes_25 : decode cX4_comes 25 = .ok (.iload 5, 2) := by decide +kernel
theorem dX4_comes_27 : decode cX4_comes 27 = .ok (.iconst 1, 1) := by decide +kernel
theorem dX4_comes_28 : decode cX4_comes 28 = .ok (.iadd, 1) := by decide +kernel
theorem dX4_comes_29 : decode cX4_comes 29 = .ok (.iload_n 2, 1) := by decide +kernel
theorem dX4_comes_30 : decode cX4_comes 30 = .ok (.iastore, 1) := by decide +kernel
theorem dX4_comes_31 : decode cX4_comes 31 = .ok (.aload_n 0, 1) := by decide +kernel
theorem dX4_comes_32 : decode cX4_comes 32 = .ok (.getfield 13, 3) := by decide +kernel
theorem dX4_comes_35 : decode cX4_comes 35 = .ok (.iload 5, 2) := by decide +kernel
theorem dX4_comes_37 : decode cX4_comes 37 = .ok (.iconst 2, 1) := by decide +kernel
theorem dX4_comes_38 : decode cX4_comes 38 = .ok (.iadd, 1) := by decide +kernel
theorem dX4_comes_39 : decode cX4_comes 39 = .ok (.iload_n 3, 1) := by decide +kernel
theorem dX4_comes_40 : decode cX4_comes 40 = .ok (.iastore, 1) := by decide +kernel
theorem dX4_comes_41 : decode cX4_comes 41 = .ok (.aload_n 0, 1) := by decide +kernel
theorem dX4_comes_42 : decode cX4_comes 42 = .ok (.getfield 13, 3) := by decide +kernel
theorem dX4_comes_45 : decode cX4_comes 45 = .ok (.iload 5, 2) := by decide +kernel
theorem dX4_comes_47 : decode cX4_comes 47 = .ok (.iconst 3, 1) := by decide +kernel
theorem dX4_comes_48 : decode cX4_comes 48 = .ok (.iadd, 1) := by decide +kernel
theorem dX4_comes_49 : decode cX4_comes 49 = .ok (.iload 4, 2) := by decide +kernel
theorem dX4_comes_51 : decode cX4_comes 51 = .ok (.iastore, 1) := by decide +kernel
theorem dX4_comes_52 : decode cX4_comes 52 = .ok (.aload_n 0, 1) := by decide +kernel
theorem dX4_comes_53 : decode cX4_comes 53 = .ok (.getfield 13, 3) := by decide +kernel
theorem dX4_comes_56 : decode cX4_comes 56 = .ok (.iload 5, 2) := by decide +kernel
theorem dX4_comes_58 : decode cX4_comes 58 = .ok (.iconst 4, 1) := by decide +kernel
theorem dX4_comes_59 : decode cX4_comes 59 = .ok (.iadd, 1) := by decide +kernel
theorem dX4_comes_60 : decode cX4_comes 60 = .ok (.iconst (-1), 1) := by decide +kernel
theorem dX4_comes_61 : decode cX4_comes 61 = .ok (.iastore, 1) := by decide +kernel
theorem dX4_comes_62 : decode cX4_comes 62 = .ok (.aload_n 0, 1) := by decide +kernel
theorem dX4_comes_63 : decode cX4_comes 63 = .ok (.getfield 13, 3) := by decide +kernel
theorem dX4_comes_66 : decode cX4_comes 66 = .ok (.iload 5, 2) := by decide +kernel
theorem dX4_comes_68 : decode cX4_comes 68 = .ok (.iconst 5, 1) := by decide +kernel
theorem dX4_comes_69 : decode cX4_comes 69 = .ok (.iadd, 1) := by decide +kernel
theorem dX4_comes_70 : decode cX4_comes 70 = .ok (.iconst 0, 1) := by decide +kernel
theorem dX4_comes_71 : decode cX4_comes 71 = .ok (.iastore, 1) := by decide +kernel
theorem dX4_comes_72 : decode cX4_comes 72 = .ok (.aload_n 0, 1) := by decide +kernel
theorem dX4_comes_73 : decode cX4_comes 73 = .ok (.getfield 13, 3) := by decide +kernel
theorem dX4_comes_76 : decode cX4_comes 76 = .ok (.iload 5, 2) := by decide +kernel
theorem dX4_comes_78 : decode cX4_comes 78 = .ok (.bipush 6, 2) := by decide +kernel
theorem dX4_comes_80 : decode cX4_comes 80 = .ok (.iadd, 1) := by decide +kernel
theorem dX4_comes_81 : decode cX4_comes 81 = .ok (.iconst 0, 1) := by decide +kernel
theorem dX4_comes_82 : decode cX4_comes 82 = .ok (.iastore, 1) := by decide +kernel
theorem dX4_comes_83 : decode cX4_comes 83 = .ok (.iconst 0, 1) := by decide +kernel
theorem dX4_comes_84 : decode cX4_comes 84 = .ok (.istore 6, 2) := by decide +kernel
theorem dX4_comes_86 : decode cX4_comes 86 = .ok (.iload 6, 2) := by decide +kernel
theorem dX4_comes_88 : decode cX4_comes 88 = .ok (.bipush 6, 2) := by decide +kernel
theorem dX4_comes_90 : decode cX4_comes 90 = .ok (.if_icmp .ge 29, 3) := by decide +kernel
theorem dX4_comes_93 : decode cX4_comes 93 = .ok (.aload_n 0, 1) := by decide +kernel
theorem dX4_comes_94 : decode cX4_comes 94 = .ok (.getfield 13, 3) := by decide +kernel
theorem dX4_comes_97 : decode cX4_comes 97 = .ok (.iload 5, 2) := by decide +kernel
theorem dX4_comes_99 : decode cX4_comes 99 = .ok (.bipush 7, 2) := by decide +kernel
theorem dX4_comes_101 : decode cX4_comes 101 = .ok (.iadd, 1) := by decide +kernel
theorem dX4_comes_102 : decode cX4_comes 102 = .ok (.iload 6, 2) := by decide +kernel
theorem dX4_comes_104 : decode cX4_comes 104 = .ok (.iadd, 1) := by decide +kernel
theorem dX4_comes_105 : decode cX4_comes 105 = .ok (.aload_n 0, 1) := by decide +kernel
theorem dX4_comes_106 : decode cX4_comes 106 = .ok (.getfield 25, 3) := by decide +kernel
theorem dX4_comes_109 : decode cX4_comes 109 = .ok (.iload 6, 2) := by decide +kernel
theorem dX4_comes_111 : decode cX4_comes 111 = .ok (.iaload, 1) := by decide +kernel
theorem dX4_comes_112 : decode cX4_comes 112 = .ok (.iastore, 1) := by decide +kernel
theorem dX4_comes_113 : decode cX4_comes 113 = .ok (.iinc 6 1, 3) := by decide +kernel
theorem dX4_comes_116 : decode cX4_comes 116 = .ok (.goto (-30), 3) := by decide +kernel
theorem dX4_comes_119 : decode cX4_comes 119 = .ok (.aload_n 0, 1) := by decide +kernel
theorem dX4_comes_120 : decode cX4_comes 120 = .ok (.getfield 13, 3) := by decide +kernel
theorem dX4_comes_123 : decode cX4_comes 123 = .ok (.iconst 5, 1) := by decide +kernel
theorem dX4_comes_124 : decode cX4_comes 124 = .ok (.dup2, 1) := by decide +kernel
theorem dX4_comes_125 : decode cX4_comes 125 = .ok (.iaload, 1) := by decide +kernel
theorem dX4_comes_126 : decode cX4_comes 126 = .ok (.iconst 1, 1) := by decide +kernel
theorem dX4_comes_127 : decode cX4_comes 127 = .ok (.iadd, 1) := by decide +kernel
theorem dX4_comes_128 : decode cX4_comes 128 = .ok (.iastore, 1) := by decide +kernel
theorem dX4_comes_129 : decode cX4_comes 129 = .ok (.return_, 1) := by decide +kernel
theorem dX4_childSpelled_0 : decode cX4_childSpelled 0 = .ok (.iconst 0, 1) := by decide +kernel
theorem dX4_childSpelled_1 : decode cX4_childSpelled 1 = .ok (.istore_n 1, 1) := by decide +kernel
theorem dX4_childSpelled_2 : decode cX4_childSpelled 2 = .ok (.iload_n 1, 1) := by decide +kernel
theorem dX4_childSpelled_3 : decode cX4_childSpelled 3 = .ok (.aload_n 0, 1) := by decide +kernel
theorem dX4_childSpelled_4 : decode cX4_childSpelled 4 = .ok (.getfield 13, 3) := by decide +kernel
theorem dX4_childSpelled_7 : decode cX4_childSpelled 7 = .ok (.iconst 5, 1) := by decide +kernel
theorem dX4_childSpelled_8 : decode cX4_childSpelled 8 = .ok (.iaload, 1) := by decide +kernel
theorem dX4_childSpelled_9 : decode cX4_childSpelled 9 = .ok (.if_icmp .ge 64, 3) := by decide +kernel
theorem dX4_childSpelled_12 : decode cX4_childSpelled 12 = .ok (.iconst 1, 1) := by decide +kernel
theorem dX4_childSpelled_13 : decode cX4_childSpelled 13 = .ok (.istore_n 2, 1) := by decide +kernel
theorem dX4_childSpelled_14 : decode cX4_childSpelled 14 = .ok (.iconst 0, 1) := by decide +kernel
theorem dX4_childSpelled_15 : decode cX4_childSpelled 15 = .ok (.istore_n 3, 1) := by decide +kernel
theorem dX4_childSpelled_16 : decode cX4_childSpelled 16 = .ok (.iload_n 3, 1) := by decide +kernel
theorem dX4_childSpelled_17 : decode cX4_childSpelled 17 = .ok (.bipush 6, 2) := by decide +kernel
theorem dX4_childSpelled_19 : decode cX4_childSpelled 19 = .ok (.if_icmp .ge 42, 3) := by decide +kernel
theorem dX4_childSpelled_22 : decode cX4_childSpelled 22 = .ok (.iload_n 2, 1) := by decide +kernel
theorem dX4_childSpelled_23 : decode cX4_childSpelled 23 = .ok (.ifCond .eq 30, 3) := by decide +kernel
theorem dX4_childSpelled_26 : decode cX4_childSpelled 26 = .ok (.aload_n 0, 1) := by decide +kernel
theorem dX4_childSpelled_27 : decode cX4_childSpelled 27 = .ok (.getfield 13, 3) := by decide +kernel
theorem dX4_childSpelled_30 : decode cX4_childSpelled 30 = .ok (.iload_n 1, 1) := by decide +kernel
theorem dX4_childSpelled_31 : decode cX4_childSpelled 31 = .ok (.invokestatic 50, 3) := by decide +kernel
theorem dX4_childSpelled_34 : decode cX4_childSpelled 34 = .ok (.bipush 7, 2) := by decide +kernel
theorem dX4_childSpelled_36 : decode cX4_childSpelled 36 = .ok (.iadd, 1) := by decide +kernel
theorem dX4_childSpelled_37 : decode cX4_childSpelled 37 = .ok (.iload_n 3, 1) := by decide +kernel
theorem dX4_childSpelled_38 : decode cX4_childSpelled 38 = .ok (.iadd, 1) := by decide +kernel
theorem dX4_childSpelled_39 : decode cX4_childSpelled 39 = .ok (.iaload, 1) := by decide +kernel
theorem dX4_childSpelled_40 : decode cX4_childSpelled 40 = .ok (.aload_n 0, 1) := by decide +kernel
theorem dX4_childSpelled_41 : decode cX4_childSpelled 41 = .ok (.getfield 25, 3) := by decide +kernel
theorem dX4_childSpelled_44 : decode cX4_childSpelled 44 = .ok (.iload_n 3, 1) := by decide +kernel
theorem dX4_childSpelled_45 : decode cX4_childSpelled 45 = .ok (.iaload, 1) := by decide +kernel
theorem dX4_childSpelled_46 : decode cX4_childSpelled 46 = .ok (.if_icmp .ne 7, 3) := by decide +kernel
theorem dX4_childSpelled_49 : decode cX4_childSpelled 49 = .ok (.iconst 1, 1) := by decide +kernel
theorem dX4_childSpelled_50 : decode cX4_childSpelled 50 = .ok (.goto 4, 3) := by decide +kernel
theorem dX4_childSpelled_53 : decode cX4_childSpelled 53 = .ok (.iconst 0, 1) := by decide +kernel
theorem dX4_childSpelled_54 : decode cX4_childSpelled 54 = .ok (.istore_n 2, 1) := by decide +kernel
theorem dX4_childSpelled_55 : decode cX4_childSpelled 55 = .ok (.iinc 3 1, 3) := by decide +kernel
theorem dX4_childSpelled_58 : decode cX4_childSpelled 58 = .ok (.goto (-42), 3) := by decide +kernel
theorem dX4_childSpelled_61 : decode cX4_childSpelled 61 = .ok (.iload_n 2, 1) := by decide +kernel
theorem dX4_childSpelled_62 : decode cX4_childSpelled 62 = .ok (.ifCond .eq 5, 3) := by decide +kernel
theorem dX4_childSpelled_65 : decode cX4_childSpelled 65 = .ok (.iload_n 1, 1) := by decide +kernel
theorem dX4_childSpelled_66 : decode cX4_childSpelled 66 = .ok (.ireturn, 1) := by decide +kernel
theorem dX4_childSpelled_67 : decode cX4_childSpelled 67 = .ok (.iinc 1 1, 3) := by decide +kernel
theorem dX4_childSpelled_70 : decode cX4_childSpelled 70 = .ok (.goto (-68), 3) := by decide +kernel
theorem dX4_childSpelled_73 : decode cX4_childSpelled 73 = .ok (.iconst (-1), 1) := by decide +kernel
theorem dX4_childSpelled_74 : decode cX4_childSpelled 74 = .ok (.ireturn, 1) := by decide +kernel
theorem dX4_liking_0 : decode cX4_liking 0 = .ok (.iconst 0, 1) := by decide +kernel
theorem dX4_liking_1 : decode cX4_liking 1 = .ok (.istore_n 2, 1) := by decide +kernel
theorem dX4_liking_2 : decode cX4_liking 2 = .ok (.iconst 0, 1) := by decide +kernel
theorem dX4_liking_3 : decode cX4_liking 3 = .ok (.istore_n 3, 1) := by decide +kernel
theorem dX4_liking_4 : decode cX4_liking 4 = .ok (.iload_n 3, 1) := by decide +kernel
theorem dX4_liking_5 : decode cX4_liking 5 = .ok (.aload_n 0, 1) := by decide +kernel
theorem dX4_liking_6 : decode cX4_liking 6 = .ok (.getfield 13, 3) := by decide +kernel
theorem dX4_liking_9 : decode cX4_liking 9 = .ok (.iconst 5, 1) := by decide +kernel
theorem dX4_liking_10 : decode cX4_liking 10 = .ok (.iaload, 1) := by decide +kernel
theorem dX4_liking_11 : decode cX4_liking 11 = .ok (.if_icmp .ge 32, 3) := by decide +kernel
theorem dX4_liking_14 : decode cX4_liking 14 = .ok (.iload_n 2, 1) := by decide +kernel
theorem dX4_liking_15 : decode cX4_liking 15 = .ok (.aload_n 0, 1) := by decide +kernel
theorem dX4_liking_16 : decode cX4_liking 16 = .ok (.getfield 13, 3) := by decide +kernel
theorem dX4_liking_19 : decode cX4_liking 19 = .ok (.iload_n 3, 1) := by decide +kernel
theorem dX4_liking_20 : decode cX4_liking 20 = .ok (.invokestatic 50, 3) := by decide +kernel
theorem dX4_liking_23 : decode cX4_liking 23 = .ok (.iconst 0, 1) := by decide +kernel
theorem dX4_liking_24 : decode cX4_liking 24 = .ok (.iadd, 1) := by decide +kernel
theorem dX4_liking_25 : decode cX4_liking 25 = .ok (.iaload, 1) := by decide +kernel
theorem dX4_liking_26 : decode cX4_liking 26 = .ok (.iload_n 1, 1) := by decide +kernel
theorem dX4_liking_27 : decode cX4_liking 27 = .ok (.if_icmp .ne 7, 3) := by decide +kernel
theorem dX4_liking_30 : decode cX4_liking 30 = .ok (.iconst 1, 1) := by decide +kernel
theorem dX4_liking_31 : decode cX4_liking 31 = .ok (.goto 4, 3) := by decide +kernel
theorem dX4_liking_34 : decode cX4_liking 34 = .ok (.iconst 0, 1) := by decide +kernel
theorem dX4_liking_35 : decode cX4_liking 35 = .ok (.iadd, 1) := by decide +kernel
theorem dX4_liking_36 : decode cX4_liking 36 = .ok (.istore_n 2, 1) := by decide +kernel
theorem dX4_liking_37 : decode cX4_liking 37 = .ok (.iinc 3 1, 3) := by decide +kernel
theorem dX4_liking_40 : decode cX4_liking 40 = .ok (.goto (-36), 3) := by decide +kernel
theorem dX4_liking_43 : decode cX4_liking 43 = .ok (.iload_n 2, 1) := by decide +kernel
theorem dX4_liking_44 : decode cX4_liking 44 = .ok (.ireturn, 1) := by decide +kernel
theorem dX4_partyOn_0 : decode cX4_partyOn 0 = .ok (.iconst 0, 1) := by decide +kernel
theorem dX4_partyOn_1 : decode cX4_partyOn 1 = .ok (.istore_n 3, 1) := by decide +kernel
theorem dX4_partyOn_2 : decode cX4_partyOn 2 = .ok (.iload_n 3, 1) := by decide +kernel
theorem dX4_partyOn_3 : decode cX4_partyOn 3 = .ok (.aload_n 0, 1) := by decide +kernel
theorem dX4_partyOn_4 : decode cX4_partyOn 4 = .ok (.getfield 13, 3) := by decide +kernel
theorem dX4_partyOn_7 : decode cX4_partyOn 7 = .ok (.iconst 5, 1) := by decide +kernel
theorem dX4_partyOn_8 : decode cX4_partyOn 8 = .ok (.iaload, 1) := by decide +kernel
theorem dX4_partyOn_9 : decode cX4_partyOn 9 = .ok (.if_icmp .ge 41, 3) := by decide +kernel
theorem dX4_partyOn_12 : decode cX4_partyOn 12 = .ok (.aload_n 0, 1) := by decide +kernel
theorem dX4_partyOn_13 : decode cX4_partyOn 13 = .ok (.getfield 13, 3) := by decide +kernel
theorem dX4_partyOn_16 : decode cX4_partyOn 16 = .ok (.iload_n 3, 1) := by decide +kernel
theorem dX4_partyOn_17 : decode cX4_partyOn 17 = .ok (.invokestatic 50, 3) := by decide +kernel
theorem dX4_partyOn_20 : decode cX4_partyOn 20 = .ok (.iconst 3, 1) := by decide +kernel
theorem dX4_partyOn_21 : decode cX4_partyOn 21 = .ok (.iadd, 1) := by decide +kernel
theorem dX4_partyOn_22 : decode cX4_partyOn 22 = .ok (.iaload, 1) := by decide +kernel
theorem dX4_partyOn_23 : decode cX4_partyOn 23 = .ok (.iload_n 1, 1) := by decide +kernel
theorem dX4_partyOn_24 : decode cX4_partyOn 24 = .ok (.if_icmp .ne 20, 3) := by decide +kernel
theorem dX4_partyOn_27 : decode cX4_partyOn 27 = .ok (.aload_n 0, 1) := by decide +kernel
theorem dX4_partyOn_28 : decode cX4_partyOn 28 = .ok (.getfield 13, 3) := by decide +kernel
theorem dX4_partyOn_31 : decode cX4_partyOn 31 = .ok (.iload_n 3, 1) := by decide +kernel
theorem dX4_partyOn_32 : decode cX4_partyOn 32 = .ok (.invokestatic 50, 3) := by decide +kernel
theorem dX4_partyOn_35 : decode cX4_partyOn 35 = .ok (.iconst 4, 1) := by decide +kernel
theorem dX4_partyOn_36 : decode cX4_partyOn 36 = .ok (.iadd, 1) := by decide +kernel
theorem dX4_partyOn_37 : decode cX4_partyOn 37 = .ok (.iaload, 1) := by decide +kernel
theorem dX4_partyOn_38 : decode cX4_partyOn 38 = .ok (.iload_n 2, 1) := by decide +kernel
theorem dX4_partyOn_39 : decode cX4_partyOn 39 = .ok (.if_icmp .ne 5, 3) := by decide +kernel
theorem dX4_partyOn_42 : decode cX4_partyOn 42 = .ok (.iload_n 3, 1) := by decide +kernel
theorem dX4_partyOn_43 : decode cX4_partyOn 43 = .ok (.ireturn, 1) := by decide +kernel
theorem dX4_partyOn_44 : decode cX4_partyOn 44 = .ok (.iinc 3 1, 3) := by decide +kernel
theorem dX4_partyOn_47 : decode cX4_partyOn 47 = .ok (.goto (-45), 3) := by decide +kernel
theorem dX4_partyOn_50 : decode cX4_partyOn 50 = .ok (.iconst (-1), 1) := by decide +kernel
theorem dX4_partyOn_51 : decode cX4_partyOn 51 = .ok (.ireturn, 1) := by decide +kernel
theorem dX4_isTaken_0 : decode cX4_isTaken 0 = .ok (.iconst 0, 1) := by decide +kernel
theorem dX4_isTaken_1 : decode cX4_isTaken 1 = .ok (.istore 4, 2) := by decide +kernel
theorem dX4_isTaken_3 : decode cX4_isTaken 3 = .ok (.iload 4, 2) := by decide +kernel
theorem dX4_isTaken_5 : decode cX4_isTaken 5 = .ok (.aload_n 0, 1) := by decide +kernel
theorem dX4_isTaken_6 : decode cX4_isTaken 6 = .ok (.getfield 13, 3) := by decide +kernel
theorem dX4_isTaken_9 : decode cX4_isTaken 9 = .ok (.iconst 5, 1) := by decide +kernel
theorem dX4_isTaken_10 : decode cX4_isTaken 10 = .ok (.iaload, 1) := by decide +kernel
theorem dX4_isTaken_11 : decode cX4_isTaken 11 = .ok (.if_icmp .ge 49, 3) := by decide +kernel
theorem dX4_isTaken_14 : decode cX4_isTaken 14 = .ok (.iload 4, 2) := by decide +kernel
theorem dX4_isTaken_16 : decode cX4_isTaken 16 = .ok (.iload_n 1, 1) := by decide +kernel
theorem dX4_isTaken_17 : decode cX4_isTaken 17 = .ok (.if_icmp .eq 37, 3) := by decide +kernel
theorem dX4_isTaken_20 : decode cX4_isTaken 20 = .ok (.aload_n 0, 1) := by decide +kernel
theorem dX4_isTaken_21 : decode cX4_isTaken 21 = .ok (.getfield 13, 3) := by decide +kernel
theorem dX4_isTaken_24 : decode cX4_isTaken 24 = .ok (.iload 4, 2) := by decide +kernel
theorem dX4_isTaken_26 : decode cX4_isTaken 26 = .ok (.invokestatic 50, 3) := by decide +kernel
theorem dX4_isTaken_29 : decode cX4_isTaken 29 = .ok (.iconst 3, 1) := by decide +kernel
theorem dX4_isTaken_30 : decode cX4_isTaken 30 = .ok (.iadd, 1) := by decide +kernel
theorem dX4_isTaken_31 : decode cX4_isTaken 31 = .ok (.iaload, 1) := by decide +kernel
theorem dX4_isTaken_32 : decode cX4_isTaken 32 = .ok (.iload_n 2, 1) := by decide +kernel
theorem dX4_isTaken_33 : decode cX4_isTaken 33 = .ok (.if_icmp .ne 21, 3) := by decide +kernel
theorem dX4_isTaken_36 : decode cX4_isTaken 36 = .ok (.aload_n 0, 1) := by decide +kernel
theorem dX4_isTaken_37 : decode cX4_isTaken 37 = .ok (.getfield 13, 3) := by decide +kernel
theorem dX4_isTaken_40 : decode cX4_isTaken 40 = .ok (.iload 4, 2) := by decide +kernel
theorem dX4_isTaken_42 : decode cX4_isTaken 42 = .ok (.invokestatic 50, 3) := by decide +kernel
theorem dX4_isTaken_45 : decode cX4_isTaken 45 = .ok (.iconst 4, 1) := by decide +kernel
theorem dX4_isTaken_46 : decode cX4_isTaken 46 = .ok (.iadd, 1) := by decide +kernel
theorem dX4_isTaken_47 : decode cX4_isTaken 47 = .ok (.iaload, 1) := by decide +kernel
theorem dX4_isTaken_48 : decode cX4_isTaken 48 = .ok (.iload_n 3, 1) := by decide +kernel
theorem dX4_isTaken_49 : decode cX4_isTaken 49 = .ok (.if_icmp .ne 5, 3) := by decide +kernel
theorem dX4_isTaken_52 : decode cX4_isTaken 52 = .ok (.iconst 1, 1) := by decide +kernel
theorem dX4_isTaken_53 : decode cX4_isTaken 53 = .ok (.ireturn, 1) := by decide +kernel
theorem dX4_isTaken_54 : decode cX4_isTaken 54 = .ok (.iinc 4 1, 3) := by decide +kernel
theorem dX4_isTaken_57 : decode cX4_isTaken 57 = .ok (.goto (-54), 3) := by decide +kernel
theorem dX4_isTaken_60 : decode cX4_isTaken 60 = .ok (.iconst 0, 1) := by decide +kernel
theorem dX4_isTaken_61 : decode cX4_isTaken 61 = .ok (.ireturn, 1) := by decide +kernel
theorem dX4_reason_0 : decode cX4_reason 0 = .ok (.aload_n 0, 1) := by decide +kernel
theorem dX4_reason_1 : decode cX4_reason 1 = .ok (.iload_n 1, 1) := by decide +kernel
theorem dX4_reason_2 : decode cX4_reason 2 = .ok (.iload_n 2, 1) := by decide +kernel
theorem dX4_reason_3 : decode cX4_reason 3 = .ok (.iload_n 3, 1) := by decide +kernel
theorem dX4_reason_4 : decode cX4_reason 4 = .ok (.invokevirtual 71, 3) := by decide +kernel
theorem dX4_reason_7 : decode cX4_reason 7 = .ok (.ifCond .eq 5, 3) := by decide +kernel
theorem dX4_reason_10 : decode cX4_reason 10 = .ok (.iconst 1, 1) := by decide +kernel
theorem dX4_reason_11 : decode cX4_reason 11 = .ok (.ireturn, 1) := by decide +kernel
theorem dX4_reason_12 : decode cX4_reason 12 = .ok (.aload_n 0, 1) := by decide +kernel
theorem dX4_reason_13 : decode cX4_reason 13 = .ok (.getfield 13, 3) := by decide +kernel
theorem dX4_reason_16 : decode cX4_reason 16 = .ok (.bipush 17, 2) := by decide +kernel
theorem dX4_reason_18 : decode cX4_reason 18 = .ok (.iload_n 2, 1) := by decide +kernel
theorem dX4_reason_19 : decode cX4_reason 19 = .ok (.iadd, 1) := by decide +kernel
theorem dX4_reason_20 : decode cX4_reason 20 = .ok (.iaload, 1) := by decide +kernel
theorem dX4_reason_21 : decode cX4_reason 21 = .ok (.aload_n 0, 1) := by decide +kernel
theorem dX4_reason_22 : decode cX4_reason 22 = .ok (.aload_n 0, 1) := by decide +kernel
theorem dX4_reason_23 : decode cX4_reason 23 = .ok (.getfield 13, 3) := by decide +kernel
theorem dX4_reason_26 : decode cX4_reason 26 = .ok (.iload_n 1, 1) := by decide +kernel
theorem dX4_reason_27 : decode cX4_reason 27 = .ok (.invokestatic 50, 3) := by decide +kernel
theorem dX4_reason_30 : decode cX4_reason 30 = .ok (.iconst 0, 1) := by decide +kernel
theorem dX4_reason_31 : decode cX4_reason 31 = .ok (.iadd, 1) := by decide +kernel
theorem dX4_reason_32 : decode cX4_reason 32 = .ok (.iaload, 1) := by decide +kernel
theorem dX4_reason_33 : decode cX4_reason 33 = .ok (.invokevirtual 74, 3) := by decide +kernel
theorem dX4_reason_36 : decode cX4_reason 36 = .ok (.if_icmp .ge 7, 3) := by decide +kernel
theorem dX4_reason_39 : decode cX4_reason 39 = .ok (.iconst 2, 1) := by decide +kernel
theorem dX4_reason_40 : decode cX4_reason 40 = .ok (.goto 4, 3) := by decide +kernel
theorem dX4_reason_43 : decode cX4_reason 43 = .ok (.iconst 0, 1) := by decide +kernel
theorem dX4_reason_44 : decode cX4_reason 44 = .ok (.ireturn, 1) := by decide +kernel
theorem dX4_daysTo_0 : decode cX4_daysTo 0 = .ok (.iload_n 1, 1) := by decide +kernel
theorem dX4_daysTo_1 : decode cX4_daysTo 1 = .ok (.aload_n 0, 1) := by decide +kernel
theorem dX4_daysTo_2 : decode cX4_daysTo 2 = .ok (.getfield 13, 3) := by decide +kernel
theorem dX4_daysTo_5 : decode cX4_daysTo 5 = .ok (.iconst 1, 1) := by decide +kernel
theorem dX4_daysTo_6 : decode cX4_daysTo 6 = .ok (.iaload, 1) := by decide +kernel
theorem dX4_daysTo_7 : decode cX4_daysTo 7 = .ok (.isub, 1) := by decide +kernel
theorem dX4_daysTo_8 : decode cX4_daysTo 8 = .ok (.sipush 360, 3) := by decide +kernel
theorem dX4_daysTo_11 : decode cX4_daysTo 11 = .ok (.iadd, 1) := by decide +kernel
theorem dX4_daysTo_12 : decode cX4_daysTo 12 = .ok (.sipush 360, 3) := by decide +kernel
theorem dX4_daysTo_15 : decode cX4_daysTo 15 = .ok (.irem, 1) := by decide +kernel
theorem dX4_daysTo_16 : decode cX4_daysTo 16 = .ok (.istore_n 2, 1) := by decide +kernel
theorem dX4_daysTo_17 : decode cX4_daysTo 17 = .ok (.iload_n 2, 1) := by decide +kernel
theorem dX4_daysTo_18 : decode cX4_daysTo 18 = .ok (.ifCond .ne 9, 3) := by decide +kernel
theorem dX4_daysTo_21 : decode cX4_daysTo 21 = .ok (.sipush 360, 3) := by decide +kernel
theorem dX4_daysTo_24 : decode cX4_daysTo 24 = .ok (.goto 4, 3) := by decide +kernel
theorem dX4_daysTo_27 : decode cX4_daysTo 27 = .ok (.iload_n 2, 1) := by decide +kernel
theorem dX4_daysTo_28 : decode cX4_daysTo 28 = .ok (.ireturn, 1) := by decide +kernel
theorem dX4_seedBehind_0 : decode cX4_seedBehind 0 = .ok (.iload_n 0, 1) := by decide +kernel
theorem dX4_seedBehind_1 : decode cX4_seedBehind 1 = .ok (.sipush 211, 3) := by decide +kernel
theorem dX4_seedBehind_4 : decode cX4_seedBehind 4 = .ok (.imul, 1) := by decide +kernel
theorem dX4_seedBehind_5 : decode cX4_seedBehind 5 = .ok (.bipush 97, 2) := by decide +kernel
theorem dX4_seedBehind_7 : decode cX4_seedBehind 7 = .ok (.iadd, 1) := by decide +kernel
theorem dX4_seedBehind_8 : decode cX4_seedBehind 8 = .ok (.sipush 9973, 3) := by decide +kernel
theorem dX4_seedBehind_11 : decode cX4_seedBehind 11 = .ok (.irem, 1) := by decide +kernel
theorem dX4_seedBehind_12 : decode cX4_seedBehind 12 = .ok (.ireturn, 1) := by decide +kernel
theorem dX4_tries_0 : decode cX4_tries 0 = .ok (.aload_n 0, 1) := by decide +kernel
theorem dX4_tries_1 : decode cX4_tries 1 = .ok (.aload_n 0, 1) := by decide +kernel
theorem dX4_tries_2 : decode cX4_tries 2 = .ok (.getfield 13, 3) := by decide +kernel
theorem dX4_tries_5 : decode cX4_tries 5 = .ok (.iconst 2, 1) := by decide +kernel
theorem dX4_tries_6 : decode cX4_tries 6 = .ok (.iaload, 1) := by decide +kernel
theorem dX4_tries_7 : decode cX4_tries 7 = .ok (.putfield 77, 3) := by decide +kernel
theorem dX4_tries_10 : decode cX4_tries 10 = .ok (.iconst 1, 1) := by decide +kernel
theorem dX4_tries_11 : decode cX4_tries 11 = .ok (.istore_n 2, 1) := by decide +kernel
theorem dX4_tries_12 : decode cX4_tries 12 = .ok (.iload_n 2, 1) := by decide +kernel
theorem dX4_tries_13 : decode cX4_tries 13 = .ok (.bipush 20, 2) := by decide +kernel
theorem dX4_tries_15 : decode cX4_tries 15 = .ok (.if_icmp .gt 57, 3) := by decide +kernel
theorem dX4_tries_18 : decode cX4_tries 18 = .ok (.aload_n 0, 1) := by decide +kernel
theorem dX4_tries_19 : decode cX4_tries 19 = .ok (.aload_n 0, 1) := by decide +kernel
theorem dX4_tries_20 : decode cX4_tries 20 = .ok (.getfield 77, 3) := by decide +kernel
theorem dX4_tries_23 : decode cX4_tries 23 = .ok (.invokestatic 80, 3) := by decide +kernel
theorem dX4_tries_26 : decode cX4_tries 26 = .ok (.putfield 77, 3) := by decide +kernel
theorem dX4_tries_29 : decode cX4_tries 29 = .ok (.aload_n 0, 1) := by decide +kernel
theorem dX4_tries_30 : decode cX4_tries 30 = .ok (.aload_n 0, 1) := by decide +kernel
theorem dX4_tries_31 : decode cX4_tries 31 = .ok (.getfield 77, 3) := by decide +kernel
theorem dX4_tries_34 : decode cX4_tries 34 = .ok (.sipush 360, 3) := by decide +kernel
theorem dX4_tries_37 : decode cX4_tries 37 = .ok (.irem, 1) := by decide +kernel
theorem dX4_tries_38 : decode cX4_tries 38 = .ok (.putfield 83, 3) := by decide +kernel
theorem dX4_tries_41 : decode cX4_tries 41 = .ok (.aload_n 0, 1) := by decide +kernel
theorem dX4_tries_42 : decode cX4_tries 42 = .ok (.iload_n 1, 1) := by decide +kernel
theorem dX4_tries_43 : decode cX4_tries 43 = .ok (.aload_n 0, 1) := by decide +kernel
theorem dX4_tries_44 : decode cX4_tries 44 = .ok (.getfield 13, 3) := by decide +kernel
theorem dX4_tries_47 : decode cX4_tries 47 = .ok (.iload_n 1, 1) := by decide +kernel
theorem dX4_tries_48 : decode cX4_tries 48 = .ok (.invokestatic 50, 3) := by decide +kernel
theorem dX4_tries_51 : decode cX4_tries 51 = .ok (.iconst 3, 1) := by decide +kernel
theorem dX4_tries_52 : decode cX4_tries 52 = .ok (.iadd, 1) := by decide +kernel
theorem dX4_tries_53 : decode cX4_tries 53 = .ok (.iaload, 1) := by decide +kernel
theorem dX4_tries_54 : decode cX4_tries 54 = .ok (.aload_n 0, 1) := by decide +kernel
theorem dX4_tries_55 : decode cX4_tries 55 = .ok (.getfield 83, 3) := by decide +kernel
theorem dX4_tries_58 : decode cX4_tries 58 = .ok (.invokevirtual 86, 3) := by decide +kernel
theorem dX4_tries_61 : decode cX4_tries 61 = .ok (.ifCond .ne 5, 3) := by decide +kernel
theorem dX4_tries_64 : decode cX4_tries 64 = .ok (.iload_n 2, 1) := by decide +kernel
theorem dX4_tries_65 : decode cX4_tries 65 = .ok (.ireturn, 1) := by decide +kernel
theorem dX4_tries_66 : decode cX4_tries 66 = .ok (.iinc 2 1, 3) := by decide +kernel
theorem dX4_tries_69 : decode cX4_tries 69 = .ok (.goto (-57), 3) := by decide +kernel
theorem dX4_tries_72 : decode cX4_tries 72 = .ok (.iconst (-1), 1) := by decide +kernel
theorem dX4_tries_73 : decode cX4_tries 73 = .ok (.ireturn, 1) := by decide +kernel
theorem dX4_takesDraw_0 : decode cX4_takesDraw 0 = .ok (.iload_n 2, 1) := by decide +kernel
theorem dX4_takesDraw_1 : decode cX4_takesDraw 1 = .ok (.iconst (-1), 1) := by decide +kernel
theorem dX4_takesDraw_2 : decode cX4_takesDraw 2 = .ok (.if_icmp .eq 28, 3) := by decide +kernel
theorem dX4_takesDraw_5 : decode cX4_takesDraw 5 = .ok (.aload_n 0, 1) := by decide +kernel
theorem dX4_takesDraw_6 : decode cX4_takesDraw 6 = .ok (.getfield 13, 3) := by decide +kernel
theorem dX4_takesDraw_9 : decode cX4_takesDraw 9 = .ok (.iconst 2, 1) := by decide +kernel
theorem dX4_takesDraw_10 : decode cX4_takesDraw 10 = .ok (.aload_n 0, 1) := by decide +kernel
theorem dX4_takesDraw_11 : decode cX4_takesDraw 11 = .ok (.getfield 77, 3) := by decide +kernel
theorem dX4_takesDraw_14 : decode cX4_takesDraw 14 = .ok (.iastore, 1) := by decide +kernel
theorem dX4_takesDraw_15 : decode cX4_takesDraw 15 = .ok (.aload_n 0, 1) := by decide +kernel
theorem dX4_takesDraw_16 : decode cX4_takesDraw 16 = .ok (.getfield 13, 3) := by decide +kernel
theorem dX4_takesDraw_19 : decode cX4_takesDraw 19 = .ok (.iload_n 1, 1) := by decide +kernel
theorem dX4_takesDraw_20 : decode cX4_takesDraw 20 = .ok (.invokestatic 50, 3) := by decide +kernel
theorem dX4_takesDraw_23 : decode cX4_takesDraw 23 = .ok (.iconst 4, 1) := by decide +kernel
theorem dX4_takesDraw_24 : decode cX4_takesDraw 24 = .ok (.iadd, 1) := by decide +kernel
theorem dX4_takesDraw_25 : decode cX4_takesDraw 25 = .ok (.aload_n 0, 1) := by decide +kernel
theorem dX4_takesDraw_26 : decode cX4_takesDraw 26 = .ok (.getfield 83, 3) := by decide +kernel
theorem dX4_takesDraw_29 : decode cX4_takesDraw 29 = .ok (.iastore, 1) := by decide +kernel
theorem dX4_takesDraw_30 : decode cX4_takesDraw 30 = .ok (.return_, 1) := by decide +kernel
theorem dX4_cakeFor_0 : decode cX4_cakeFor 0 = .ok (.iconst 0, 1) := by decide +kernel
theorem dX4_cakeFor_1 : decode cX4_cakeFor 1 = .ok (.istore_n 2, 1) := by decide +kernel
theorem dX4_cakeFor_2 : decode cX4_cakeFor 2 = .ok (.iload_n 2, 1) := by decide +kernel
theorem dX4_cakeFor_3 : decode cX4_cakeFor 3 = .ok (.bipush 6, 2) := by decide +kernel
theorem dX4_cakeFor_5 : decode cX4_cakeFor 5 = .ok (.if_icmp .ge 40, 3) := by decide +kernel
theorem dX4_cakeFor_8 : decode cX4_cakeFor 8 = .ok (.aload_n 0, 1) := by decide +kernel
theorem dX4_cakeFor_9 : decode cX4_cakeFor 9 = .ok (.getfield 13, 3) := by decide +kernel
theorem dX4_cakeFor_12 : decode cX4_cakeFor 12 = .ok (.iload_n 1, 1) := by decide +kernel
theorem dX4_cakeFor_13 : decode cX4_cakeFor 13 = .ok (.invokestatic 50, 3) := by decide +kernel
theorem dX4_cakeFor_16 : decode cX4_cakeFor 16 = .ok (.iconst 0, 1) := by decide +kernel
theorem dX4_cakeFor_17 : decode cX4_cakeFor 17 = .ok (.iadd, 1) := by decide +kernel
theorem dX4_cakeFor_18 : decode cX4_cakeFor 18 = .ok (.iaload, 1) := by decide +kernel
theorem dX4_cakeFor_19 : decode cX4_cakeFor 19 = .ok (.iload_n 2, 1) := by decide +kernel
theorem dX4_cakeFor_20 : decode cX4_cakeFor 20 = .ok (.iadd, 1) := by decide +kernel
theorem dX4_cakeFor_21 : decode cX4_cakeFor 21 = .ok (.bipush 6, 2) := by decide +kernel
theorem dX4_cakeFor_23 : decode cX4_cakeFor 23 = .ok (.irem, 1) := by decide +kernel
theorem dX4_cakeFor_24 : decode cX4_cakeFor 24 = .ok (.istore_n 3, 1) := by decide +kernel
theorem dX4_cakeFor_25 : decode cX4_cakeFor 25 = .ok (.aload_n 0, 1) := by decide +kernel
theorem dX4_cakeFor_26 : decode cX4_cakeFor 26 = .ok (.getfield 13, 3) := by decide +kernel
theorem dX4_cakeFor_29 : decode cX4_cakeFor 29 = .ok (.bipush 11, 2) := by decide +kernel
theorem dX4_cakeFor_31 : decode cX4_cakeFor 31 = .ok (.iload_n 3, 1) := by decide +kernel
theorem dX4_cakeFor_32 : decode cX4_cakeFor 32 = .ok (.iadd, 1) := by decide +kernel
theorem dX4_cakeFor_33 : decode cX4_cakeFor 33 = .ok (.iaload, 1) := by decide +kernel
theorem dX4_cakeFor_34 : decode cX4_cakeFor 34 = .ok (.ifCond .le 5, 3) := by decide +kernel
theorem dX4_cakeFor_37 : decode cX4_cakeFor 37 = .ok (.iload_n 3, 1) := by decide +kernel
theorem dX4_cakeFor_38 : decode cX4_cakeFor 38 = .ok (.ireturn, 1) := by decide +kernel
theorem dX4_cakeFor_39 : decode cX4_cakeFor 39 = .ok (.iinc 2 1, 3) := by decide +kernel
theorem dX4_cakeFor_42 : decode cX4_cakeFor 42 = .ok (.goto (-40), 3) := by decide +kernel
theorem dX4_cakeFor_45 : decode cX4_cakeFor 45 = .ok (.iconst (-1), 1) := by decide +kernel
theorem dX4_cakeFor_46 : decode cX4_cakeFor 46 = .ok (.ireturn, 1) := by decide +kernel
theorem dX4_strength_0 : decode cX4_strength 0 = .ok (.aload_n 0, 1) := by decide +kernel
theorem dX4_strength_1 : decode cX4_strength 1 = .ok (.iload_n 2, 1) := by decide +kernel
theorem dX4_strength_2 : decode cX4_strength 2 = .ok (.invokevirtual 74, 3) := by decide +kernel
theorem dX4_strength_5 : decode cX4_strength 5 = .ok (.aload_n 0, 1) := by decide +kernel
theorem dX4_strength_6 : decode cX4_strength 6 = .ok (.getfield 13, 3) := by decide +kernel
theorem dX4_strength_9 : decode cX4_strength 9 = .ok (.iload_n 1, 1) := by decide +kernel
theorem dX4_strength_10 : decode cX4_strength 10 = .ok (.invokestatic 50, 3) := by decide +kernel
theorem dX4_strength_13 : decode cX4_strength 13 = .ok (.iconst 0, 1) := by decide +kernel
theorem dX4_strength_14 : decode cX4_strength 14 = .ok (.iadd, 1) := by decide +kernel
theorem dX4_strength_15 : decode cX4_strength 15 = .ok (.iaload, 1) := by decide +kernel
theorem dX4_strength_16 : decode cX4_strength 16 = .ok (.iload_n 2, 1) := by decide +kernel
theorem dX4_strength_17 : decode cX4_strength 17 = .ok (.if_icmp .ne 7, 3) := by decide +kernel
theorem dX4_strength_20 : decode cX4_strength 20 = .ok (.iconst 1, 1) := by decide +kernel
theorem dX4_strength_21 : decode cX4_strength 21 = .ok (.goto 4, 3) := by decide +kernel
theorem dX4_strength_24 : decode cX4_strength 24 = .ok (.iconst 0, 1) := by decide +kernel
theorem dX4_strength_25 : decode cX4_strength 25 = .ok (.isub, 1) := by decide +kernel
theorem dX4_strength_26 : decode cX4_strength 26 = .ok (.istore_n 3, 1) := by decide +kernel
theorem dX4_strength_27 : decode cX4_strength 27 = .ok (.aload_n 0, 1) := by decide +kernel
theorem dX4_strength_28 : decode cX4_strength 28 = .ok (.getfield 13, 3) := by decide +kernel
theorem dX4_strength_31 : decode cX4_strength 31 = .ok (.bipush 17, 2) := by decide +kernel
theorem dX4_strength_33 : decode cX4_strength 33 = .ok (.aload_n 0, 1) := by decide +kernel
theorem dX4_strength_34 : decode cX4_strength 34 = .ok (.getfield 13, 3) := by decide +kernel
theorem dX4_strength_37 : decode cX4_strength 37 = .ok (.iload_n 1, 1) := by decide +kernel
theorem dX4_strength_38 : decode cX4_strength 38 = .ok (.invokestatic 50, 3) := by decide +kernel
theorem dX4_strength_41 : decode cX4_strength 41 = .ok (.iconst 3, 1) := by decide +kernel
theorem dX4_strength_42 : decode cX4_strength 42 = .ok (.iadd, 1) := by decide +kernel
theorem dX4_strength_43 : decode cX4_strength 43 = .ok (.iaload, 1) := by decide +kernel
theorem dX4_strength_44 : decode cX4_strength 44 = .ok (.iadd, 1) := by decide +kernel
theorem dX4_strength_45 : decode cX4_strength 45 = .ok (.iaload, 1) := by decide +kernel
theorem dX4_strength_46 : decode cX4_strength 46 = .ok (.iconst 1, 1) := by decide +kernel
theorem dX4_strength_47 : decode cX4_strength 47 = .ok (.isub, 1) := by decide +kernel
theorem dX4_strength_48 : decode cX4_strength 48 = .ok (.istore 4, 2) := by decide +kernel
theorem dX4_strength_50 : decode cX4_strength 50 = .ok (.aload_n 0, 1) := by decide +kernel
theorem dX4_strength_51 : decode cX4_strength 51 = .ok (.getfield 13, 3) := by decide +kernel
theorem dX4_strength_54 : decode cX4_strength 54 = .ok (.iload_n 1, 1) := by decide +kernel
theorem dX4_strength_55 : decode cX4_strength 55 = .ok (.invokestatic 50, 3) := by decide +kernel
theorem dX4_strength_58 : decode cX4_strength 58 = .ok (.iconst 1, 1) := by decide +kernel
theorem dX4_strength_59 : decode cX4_strength 59 = .ok (.iadd, 1) := by decide +kernel
theorem dX4_strength_60 : decode cX4_strength 60 = .ok (.iaload, 1) := by decide +kernel
theorem dX4_strength_61 : decode cX4_strength 61 = .ok (.iload_n 3, 1) := by decide +kernel
theorem dX4_strength_62 : decode cX4_strength 62 = .ok (.iload 4, 2) := by decide +kernel
theorem dX4_strength_64 : decode cX4_strength 64 = .ok (.if_icmp .ge 7, 3) := by decide +kernel
theorem dX4_strength_67 : decode cX4_strength 67 = .ok (.iload_n 3, 1) := by decide +kernel
theorem dX4_strength_68 : decode cX4_strength 68 = .ok (.goto 5, 3) := by decide +kernel
theorem dX4_strength_71 : decode cX4_strength 71 = .ok (.iload 4, 2) := by decide +kernel
theorem dX4_strength_73 : decode cX4_strength 73 = .ok (.iadd, 1) := by decide +kernel
theorem dX4_strength_74 : decode cX4_strength 74 = .ok (.ireturn, 1) := by decide +kernel
theorem dX4_celebrates_0 : decode cX4_celebrates 0 = .ok (.iload_n 1, 1) := by decide +kernel
theorem dX4_celebrates_1 : decode cX4_celebrates 1 = .ok (.invokestatic 50, 3) := by decide +kernel
theorem dX4_celebrates_4 : decode cX4_celebrates 4 = .ok (.istore_n 2, 1) := by decide +kernel
theorem dX4_celebrates_5 : decode cX4_celebrates 5 = .ok (.aload_n 0, 1) := by decide +kernel
theorem dX4_celebrates_6 : decode cX4_celebrates 6 = .ok (.getfield 13, 3) := by decide +kernel
theorem dX4_celebrates_9 : decode cX4_celebrates 9 = .ok (.iload_n 2, 1) := by decide +kernel
theorem dX4_celebrates_10 : decode cX4_celebrates 10 = .ok (.iconst 2, 1) := by decide +kernel
theorem dX4_celebrates_11 : decode cX4_celebrates 11 = .ok (.iadd, 1) := by decide +kernel
theorem dX4_celebrates_12 : decode cX4_celebrates 12 = .ok (.dup2, 1) := by decide +kernel
theorem dX4_celebrates_13 : decode cX4_celebrates 13 = .ok (.iaload, 1) := by decide +kernel
theorem dX4_celebrates_14 : decode cX4_celebrates 14 = .ok (.iconst 1, 1) := by decide +kernel
theorem dX4_celebrates_15 : decode cX4_celebrates 15 = .ok (.iadd, 1) := by decide +kernel
theorem dX4_celebrates_16 : decode cX4_celebrates 16 = .ok (.iastore, 1) := by decide +kernel
theorem dX4_celebrates_17 : decode cX4_celebrates 17 = .ok (.aload_n 0, 1) := by decide +kernel
theorem dX4_celebrates_18 : decode cX4_celebrates 18 = .ok (.iload_n 1, 1) := by decide +kernel
theorem dX4_celebrates_19 : decode cX4_celebrates 19 = .ok (.invokevirtual 90, 3) := by decide +kernel
theorem dX4_celebrates_22 : decode cX4_celebrates 22 = .ok (.istore_n 3, 1) := by decide +kernel
theorem dX4_celebrates_23 : decode cX4_celebrates 23 = .ok (.iload_n 3, 1) := by decide +kernel
theorem dX4_celebrates_24 : decode cX4_celebrates 24 = .ok (.iconst (-1), 1) := by decide +kernel
theorem dX4_celebrates_25 : decode cX4_celebrates 25 = .ok (.if_icmp .ne 16, 3) := by decide +kernel
theorem dX4_celebrates_28 : decode cX4_celebrates 28 = .ok (.aload_n 0, 1) := by decide +kernel
theorem dX4_celebrates_29 : decode cX4_celebrates 29 = .ok (.getfield 13, 3) := by decide +kernel
theorem dX4_celebrates_32 : decode cX4_celebrates 32 = .ok (.bipush 10, 2) := by decide +kernel
theorem dX4_celebrates_34 : decode cX4_celebrates 34 = .ok (.dup2, 1) := by decide +kernel
theorem dX4_celebrates_35 : decode cX4_celebrates 35 = .ok (.iaload, 1) := by decide +kernel
theorem dX4_celebrates_36 : decode cX4_celebrates 36 = .ok (.iconst 1, 1) := by decide +kernel
theorem dX4_celebrates_37 : decode cX4_celebrates 37 = .ok (.iadd, 1) := by decide +kernel
theorem dX4_celebrates_38 : decode cX4_celebrates 38 = .ok (.iastore, 1) := by decide +kernel
theorem dX4_celebrates_39 : decode cX4_celebrates 39 = .ok (.iconst 0, 1) := by decide +kernel
theorem dX4_celebrates_40 : decode cX4_celebrates 40 = .ok (.ireturn, 1) := by decide +kernel
theorem dX4_celebrates_41 : decode cX4_celebrates 41 = .ok (.aload_n 0, 1) := by decide +kernel
theorem dX4_celebrates_42 : decode cX4_celebrates 42 = .ok (.getfield 13, 3) := by decide +kernel
theorem dX4_celebrates_45 : decode cX4_celebrates 45 = .ok (.bipush 11, 2) := by decide +kernel
theorem dX4_celebrates_47 : decode cX4_celebrates 47 = .ok (.iload_n 3, 1) := by decide +kernel
theorem dX4_celebrates_48 : decode cX4_celebrates 48 = .ok (.iadd, 1) := by decide +kernel
theorem dX4_celebrates_49 : decode cX4_celebrates 49 = .ok (.dup2, 1) := by decide +kernel
theorem dX4_celebrates_50 : decode cX4_celebrates 50 = .ok (.iaload, 1) := by decide +kernel
theorem dX4_celebrates_51 : decode cX4_celebrates 51 = .ok (.iconst 1, 1) := by decide +kernel
theorem dX4_celebrates_52 : decode cX4_celebrates 52 = .ok (.isub, 1) := by decide +kernel
theorem dX4_celebrates_53 : decode cX4_celebrates 53 = .ok (.iastore, 1) := by decide +kernel
theorem dX4_celebrates_54 : decode cX4_celebrates 54 = .ok (.aload_n 0, 1) := by decide +kernel
theorem dX4_celebrates_55 : decode cX4_celebrates 55 = .ok (.getfield 13, 3) := by decide +kernel
theorem dX4_celebrates_58 : decode cX4_celebrates 58 = .ok (.iload_n 2, 1) := by decide +kernel
theorem dX4_celebrates_59 : decode cX4_celebrates 59 = .ok (.iconst 2, 1) := by decide +kernel
theorem dX4_celebrates_60 : decode cX4_celebrates 60 = .ok (.iadd, 1) := by decide +kernel
theorem dX4_celebrates_61 : decode cX4_celebrates 61 = .ok (.iaload, 1) := by decide +kernel
theorem dX4_celebrates_62 : decode cX4_celebrates 62 = .ok (.istore 4, 2) := by decide +kernel
theorem dX4_celebrates_64 : decode cX4_celebrates 64 = .ok (.iload 4, 2) := by decide +kernel
theorem dX4_celebrates_66 : decode cX4_celebrates 66 = .ok (.aload_n 0, 1) := by decide +kernel
theorem dX4_celebrates_67 : decode cX4_celebrates 67 = .ok (.getfield 13, 3) := by decide +kernel
theorem dX4_celebrates_70 : decode cX4_celebrates 70 = .ok (.iconst 3, 1) := by decide +kernel
theorem dX4_celebrates_71 : decode cX4_celebrates 71 = .ok (.iaload, 1) := by decide +kernel
theorem dX4_celebrates_72 : decode cX4_celebrates 72 = .ok (.if_icmp .ge 8, 3) := by decide +kernel
theorem dX4_celebrates_75 : decode cX4_celebrates 75 = .ok (.iload 4, 2) := by decide +kernel
theorem dX4_celebrates_77 : decode cX4_celebrates 77 = .ok (.goto 9, 3) := by decide +kernel
theorem dX4_celebrates_80 : decode cX4_celebrates 80 = .ok (.aload_n 0, 1) := by decide +kernel
theorem dX4_celebrates_81 : decode cX4_celebrates 81 = .ok (.getfield 13, 3) := by decide +kernel
theorem dX4_celebrates_84 : decode cX4_celebrates 84 = .ok (.iconst 3, 1) := by decide +kernel
theorem dX4_celebrates_85 : decode cX4_celebrates 85 = .ok (.iaload, 1) := by decide +kernel
theorem dX4_celebrates_86 : decode cX4_celebrates 86 = .ok (.istore 5, 2) := by decide +kernel
theorem dX4_celebrates_88 : decode cX4_celebrates 88 = .ok (.aload_n 0, 1) := by decide +kernel
theorem dX4_celebrates_89 : decode cX4_celebrates 89 = .ok (.getfield 13, 3) := by decide +kernel
theorem dX4_celebrates_92 : decode cX4_celebrates 92 = .ok (.iconst 3, 1) := by decide +kernel
theorem dX4_celebrates_93 : decode cX4_celebrates 93 = .ok (.dup2, 1) := by decide +kernel
theorem dX4_celebrates_94 : decode cX4_celebrates 94 = .ok (.iaload, 1) := by decide +kernel
theorem dX4_celebrates_95 : decode cX4_celebrates 95 = .ok (.iload 5, 2) := by decide +kernel
theorem dX4_celebrates_97 : decode cX4_celebrates 97 = .ok (.isub, 1) := by decide +kernel
theorem dX4_celebrates_98 : decode cX4_celebrates 98 = .ok (.iastore, 1) := by decide +kernel
theorem dX4_celebrates_99 : decode cX4_celebrates 99 = .ok (.aload_n 0, 1) := by decide +kernel
theorem dX4_celebrates_100 : decode cX4_celebrates 100 = .ok (.getfield 13, 3) := by decide +kernel
theorem dX4_celebrates_103 : decode cX4_celebrates 103 = .ok (.bipush 8, 2) := by decide +kernel
theorem dX4_celebrates_105 : decode cX4_celebrates 105 = .ok (.dup2, 1) := by decide +kernel
theorem dX4_celebrates_106 : decode cX4_celebrates 106 = .ok (.iaload, 1) := by decide +kernel
theorem dX4_celebrates_107 : decode cX4_celebrates 107 = .ok (.iload 5, 2) := by decide +kernel
theorem dX4_celebrates_109 : decode cX4_celebrates 109 = .ok (.iadd, 1) := by decide +kernel
theorem dX4_celebrates_110 : decode cX4_celebrates 110 = .ok (.iastore, 1) := by decide +kernel
theorem dX4_celebrates_111 : decode cX4_celebrates 111 = .ok (.aload_n 0, 1) := by decide +kernel
theorem dX4_celebrates_112 : decode cX4_celebrates 112 = .ok (.getfield 13, 3) := by decide +kernel
theorem dX4_celebrates_115 : decode cX4_celebrates 115 = .ok (.bipush 9, 2) := by decide +kernel
theorem dX4_celebrates_117 : decode cX4_celebrates 117 = .ok (.dup2, 1) := by decide +kernel
theorem dX4_celebrates_118 : decode cX4_celebrates 118 = .ok (.iaload, 1) := by decide +kernel
theorem dX4_celebrates_119 : decode cX4_celebrates 119 = .ok (.iconst 1, 1) := by decide +kernel
theorem dX4_celebrates_120 : decode cX4_celebrates 120 = .ok (.iadd, 1) := by decide +kernel
theorem dX4_celebrates_121 : decode cX4_celebrates 121 = .ok (.iastore, 1) := by decide +kernel
theorem dX4_celebrates_122 : decode cX4_celebrates 122 = .ok (.aload_n 0, 1) := by decide +kernel
theorem dX4_celebrates_123 : decode cX4_celebrates 123 = .ok (.getfield 13, 3) := by decide +kernel
theorem dX4_celebrates_126 : decode cX4_celebrates 126 = .ok (.iload_n 2, 1) := by decide +kernel
theorem dX4_celebrates_127 : decode cX4_celebrates 127 = .ok (.iconst 5, 1) := by decide +kernel
theorem dX4_celebrates_128 : decode cX4_celebrates 128 = .ok (.iadd, 1) := by decide +kernel
theorem dX4_celebrates_129 : decode cX4_celebrates 129 = .ok (.dup2, 1) := by decide +kernel
theorem dX4_celebrates_130 : decode cX4_celebrates 130 = .ok (.iaload, 1) := by decide +kernel
theorem dX4_celebrates_131 : decode cX4_celebrates 131 = .ok (.iconst 1, 1) := by decide +kernel
theorem dX4_celebrates_132 : decode cX4_celebrates 132 = .ok (.iadd, 1) := by decide +kernel
theorem dX4_celebrates_133 : decode cX4_celebrates 133 = .ok (.iastore, 1) := by decide +kernel
theorem dX4_celebrates_134 : decode cX4_celebrates 134 = .ok (.aload_n 0, 1) := by decide +kernel
theorem dX4_celebrates_135 : decode cX4_celebrates 135 = .ok (.getfield 13, 3) := by decide +kernel
theorem dX4_celebrates_138 : decode cX4_celebrates 138 = .ok (.iload_n 2, 1) := by decide +kernel
theorem dX4_celebrates_139 : decode cX4_celebrates 139 = .ok (.bipush 6, 2) := by decide +kernel
theorem dX4_celebrates_141 : decode cX4_celebrates 141 = .ok (.iadd, 1) := by decide +kernel
theorem dX4_celebrates_142 : decode cX4_celebrates 142 = .ok (.dup2, 1) := by decide +kernel
theorem dX4_celebrates_143 : decode cX4_celebrates 143 = .ok (.iaload, 1) := by decide +kernel
theorem dX4_celebrates_144 : decode cX4_celebrates 144 = .ok (.iload 5, 2) := by decide +kernel
theorem dX4_celebrates_146 : decode cX4_celebrates 146 = .ok (.iload 4, 2) := by decide +kernel
theorem dX4_celebrates_148 : decode cX4_celebrates 148 = .ok (.if_icmp .ne 18, 3) := by decide +kernel
theorem dX4_celebrates_151 : decode cX4_celebrates 151 = .ok (.aload_n 0, 1) := by decide +kernel
theorem dX4_celebrates_152 : decode cX4_celebrates 152 = .ok (.iload_n 1, 1) := by decide +kernel
theorem dX4_celebrates_153 : decode cX4_celebrates 153 = .ok (.iload_n 3, 1) := by decide +kernel
theorem dX4_celebrates_154 : decode cX4_celebrates 154 = .ok (.invokevirtual 93, 3) := by decide +kernel
theorem dX4_celebrates_157 : decode cX4_celebrates 157 = .ok (.iload 5, 2) := by decide +kernel
theorem dX4_celebrates_159 : decode cX4_celebrates 159 = .ok (.if_icmp .lt 7, 3) := by decide +kernel
theorem dX4_celebrates_162 : decode cX4_celebrates 162 = .ok (.iconst 1, 1) := by decide +kernel
theorem dX4_celebrates_163 : decode cX4_celebrates 163 = .ok (.goto 4, 3) := by decide +kernel
theorem dX4_celebrates_166 : decode cX4_celebrates 166 = .ok (.iconst 0, 1) := by decide +kernel
theorem dX4_celebrates_167 : decode cX4_celebrates 167 = .ok (.iadd, 1) := by decide +kernel
theorem dX4_celebrates_168 : decode cX4_celebrates 168 = .ok (.iastore, 1) := by decide +kernel
theorem dX4_celebrates_169 : decode cX4_celebrates 169 = .ok (.iconst 1, 1) := by decide +kernel
theorem dX4_celebrates_170 : decode cX4_celebrates 170 = .ok (.ireturn, 1) := by decide +kernel
theorem dX4_passesDay_0 : decode cX4_passesDay 0 = .ok (.iconst 0, 1) := by decide +kernel
theorem dX4_passesDay_1 : decode cX4_passesDay 1 = .ok (.istore_n 1, 1) := by decide +kernel
theorem dX4_passesDay_2 : decode cX4_passesDay 2 = .ok (.aload_n 0, 1) := by decide +kernel
theorem dX4_passesDay_3 : decode cX4_passesDay 3 = .ok (.getfield 13, 3) := by decide +kernel
theorem dX4_passesDay_6 : decode cX4_passesDay 6 = .ok (.iconst 1, 1) := by decide +kernel
theorem dX4_passesDay_7 : decode cX4_passesDay 7 = .ok (.aload_n 0, 1) := by decide +kernel
theorem dX4_passesDay_8 : decode cX4_passesDay 8 = .ok (.getfield 13, 3) := by decide +kernel
theorem dX4_passesDay_11 : decode cX4_passesDay 11 = .ok (.iconst 1, 1) := by decide +kernel
theorem dX4_passesDay_12 : decode cX4_passesDay 12 = .ok (.iaload, 1) := by decide +kernel
theorem dX4_passesDay_13 : decode cX4_passesDay 13 = .ok (.iconst 1, 1) := by decide +kernel
theorem dX4_passesDay_14 : decode cX4_passesDay 14 = .ok (.iadd, 1) := by decide +kernel
theorem dX4_passesDay_15 : decode cX4_passesDay 15 = .ok (.sipush 360, 3) := by decide +kernel
theorem dX4_passesDay_18 : decode cX4_passesDay 18 = .ok (.irem, 1) := by decide +kernel
theorem dX4_passesDay_19 : decode cX4_passesDay 19 = .ok (.iastore, 1) := by decide +kernel
theorem dX4_passesDay_20 : decode cX4_passesDay 20 = .ok (.aload_n 0, 1) := by decide +kernel
theorem dX4_passesDay_21 : decode cX4_passesDay 21 = .ok (.getfield 13, 3) := by decide +kernel
theorem dX4_passesDay_24 : decode cX4_passesDay 24 = .ok (.iconst 0, 1) := by decide +kernel
theorem dX4_passesDay_25 : decode cX4_passesDay 25 = .ok (.dup2, 1) := by decide +kernel
theorem dX4_passesDay_26 : decode cX4_passesDay 26 = .ok (.iaload, 1) := by decide +kernel
theorem dX4_passesDay_27 : decode cX4_passesDay 27 = .ok (.aload_n 0, 1) := by decide +kernel
theorem dX4_passesDay_28 : decode cX4_passesDay 28 = .ok (.getfield 13, 3) := by decide +kernel
theorem dX4_passesDay_31 : decode cX4_passesDay 31 = .ok (.iconst 1, 1) := by decide +kernel
theorem dX4_passesDay_32 : decode cX4_passesDay 32 = .ok (.iaload, 1) := by decide +kernel
theorem dX4_passesDay_33 : decode cX4_passesDay 33 = .ok (.ifCond .ne 7, 3) := by decide +kernel
theorem dX4_passesDay_36 : decode cX4_passesDay 36 = .ok (.iconst 1, 1) := by decide +kernel
theorem dX4_passesDay_37 : decode cX4_passesDay 37 = .ok (.goto 4, 3) := by decide +kernel
theorem dX4_passesDay_40 : decode cX4_passesDay 40 = .ok (.iconst 0, 1) := by decide +kernel
theorem dX4_passesDay_41 : decode cX4_passesDay 41 = .ok (.iadd, 1) := by decide +kernel
theorem dX4_passesDay_42 : decode cX4_passesDay 42 = .ok (.iastore, 1) := by decide +kernel
theorem dX4_passesDay_43 : decode cX4_passesDay 43 = .ok (.iconst 0, 1) := by decide +kernel
theorem dX4_passesDay_44 : decode cX4_passesDay 44 = .ok (.istore_n 2, 1) := by decide +kernel
theorem dX4_passesDay_45 : decode cX4_passesDay 45 = .ok (.iload_n 2, 1) := by decide +kernel
theorem dX4_passesDay_46 : decode cX4_passesDay 46 = .ok (.aload_n 0, 1) := by decide +kernel
theorem dX4_passesDay_47 : decode cX4_passesDay 47 = .ok (.getfield 13, 3) := by decide +kernel
theorem dX4_passesDay_50 : decode cX4_passesDay 50 = .ok (.iconst 5, 1) := by decide +kernel
theorem dX4_passesDay_51 : decode cX4_passesDay 51 = .ok (.iaload, 1) := by decide +kernel
theorem dX4_passesDay_52 : decode cX4_passesDay 52 = .ok (.if_icmp .ge 45, 3) := by decide +kernel
theorem dX4_passesDay_55 : decode cX4_passesDay 55 = .ok (.aload_n 0, 1) := by decide +kernel
theorem dX4_passesDay_56 : decode cX4_passesDay 56 = .ok (.getfield 13, 3) := by decide +kernel
theorem dX4_passesDay_59 : decode cX4_passesDay 59 = .ok (.iload_n 2, 1) := by decide +kernel
theorem dX4_passesDay_60 : decode cX4_passesDay 60 = .ok (.invokestatic 50, 3) := by decide +kernel
theorem dX4_passesDay_63 : decode cX4_passesDay 63 = .ok (.iconst 4, 1) := by decide +kernel
theorem dX4_passesDay_64 : decode cX4_passesDay 64 = .ok (.iadd, 1) := by decide +kernel
theorem dX4_passesDay_65 : decode cX4_passesDay 65 = .ok (.iaload, 1) := by decide +kernel
theorem dX4_passesDay_66 : decode cX4_passesDay 66 = .ok (.aload_n 0, 1) := by decide +kernel
theorem dX4_passesDay_67 : decode cX4_passesDay 67 = .ok (.getfield 13, 3) := by decide +kernel
theorem dX4_passesDay_70 : decode cX4_passesDay 70 = .ok (.iconst 1, 1) := by decide +kernel
theorem dX4_passesDay_71 : decode cX4_passesDay 71 = .ok (.iaload, 1) := by decide +kernel
theorem dX4_passesDay_72 : decode cX4_passesDay 72 = .ok (.if_icmp .ne 19, 3) := by decide +kernel
theorem dX4_passesDay_75 : decode cX4_passesDay 75 = .ok (.iload_n 1, 1) := by decide +kernel
theorem dX4_passesDay_76 : decode cX4_passesDay 76 = .ok (.aload_n 0, 1) := by decide +kernel
theorem dX4_passesDay_77 : decode cX4_passesDay 77 = .ok (.iload_n 2, 1) := by decide +kernel
theorem dX4_passesDay_78 : decode cX4_passesDay 78 = .ok (.invokevirtual 97, 3) := by decide +kernel
theorem dX4_passesDay_81 : decode cX4_passesDay 81 = .ok (.ifCond .eq 7, 3) := by decide +kernel
theorem dX4_passesDay_84 : decode cX4_passesDay 84 = .ok (.iconst 1, 1) := by decide +kernel
theorem dX4_passesDay_85 : decode cX4_passesDay 85 = .ok (.goto 4, 3) := by decide +kernel
theorem dX4_passesDay_88 : decode cX4_passesDay 88 = .ok (.iconst 0, 1) := by decide +kernel
theorem dX4_passesDay_89 : decode cX4_passesDay 89 = .ok (.iadd, 1) := by decide +kernel
theorem dX4_passesDay_90 : decode cX4_passesDay 90 = .ok (.istore_n 1, 1) := by decide +kernel
theorem dX4_passesDay_91 : decode cX4_passesDay 91 = .ok (.iinc 2 1, 3) := by decide +kernel
theorem dX4_passesDay_94 : decode cX4_passesDay 94 = .ok (.goto (-49), 3) := by decide +kernel
theorem dX4_passesDay_97 : decode cX4_passesDay 97 = .ok (.iload_n 1, 1) := by decide +kernel
theorem dX4_passesDay_98 : decode cX4_passesDay 98 = .ok (.ireturn, 1) := by decide +kernel
theorem dX4_passes_0 : decode cX4_passes 0 = .ok (.iconst 0, 1) := by decide +kernel
theorem dX4_passes_1 : decode cX4_passes 1 = .ok (.istore_n 2, 1) := by decide +kernel
theorem dX4_passes_2 : decode cX4_passes 2 = .ok (.iconst 0, 1) := by decide +kernel
theorem dX4_passes_3 : decode cX4_passes 3 = .ok (.istore_n 3, 1) := by decide +kernel
theorem dX4_passes_4 : decode cX4_passes 4 = .ok (.iload_n 3, 1) := by decide +kernel
theorem dX4_passes_5 : decode cX4_passes 5 = .ok (.iload_n 1, 1) := by decide +kernel
theorem dX4_passes_6 : decode cX4_passes 6 = .ok (.if_icmp .ge 16, 3) := by decide +kernel
theorem dX4_passes_9 : decode cX4_passes 9 = .ok (.iload_n 2, 1) := by decide +kernel
theorem dX4_passes_10 : decode cX4_passes 10 = .ok (.aload_n 0, 1) := by decide +kernel
theorem dX4_passes_11 : decode cX4_passes 11 = .ok (.invokevirtual 101, 3) := by decide +kernel
theorem dX4_passes_14 : decode cX4_passes 14 = .ok (.iadd, 1) := by decide +kernel
theorem dX4_passes_15 : decode cX4_passes 15 = .ok (.istore_n 2, 1) := by decide +kernel
theorem dX4_passes_16 : decode cX4_passes 16 = .ok (.iinc 3 1, 3) := by decide +kernel
theorem dX4_passes_19 : decode cX4_passes 19 = .ok (.goto (-15), 3) := by decide +kernel
theorem dX4_passes_22 : decode cX4_passes 22 = .ok (.iload_n 2, 1) := by decide +kernel
theorem dX4_passes_23 : decode cX4_passes 23 = .ok (.ireturn, 1) := by decide +kernel
theorem dX4_isTooLate_0 : decode cX4_isTooLate 0 = .ok (.aload_n 0, 1) := by decide +kernel
theorem dX4_isTooLate_1 : decode cX4_isTooLate 1 = .ok (.getfield 13, 3) := by decide +kernel
theorem dX4_isTooLate_4 : decode cX4_isTooLate 4 = .ok (.iconst 0, 1) := by decide +kernel
theorem dX4_isTooLate_5 : decode cX4_isTooLate 5 = .ok (.iaload, 1) := by decide +kernel
theorem dX4_isTooLate_6 : decode cX4_isTooLate 6 = .ok (.sipush 360, 3) := by decide +kernel
theorem dX4_isTooLate_9 : decode cX4_isTooLate 9 = .ok (.imul, 1) := by decide +kernel
theorem dX4_isTooLate_10 : decode cX4_isTooLate 10 = .ok (.aload_n 0, 1) := by decide +kernel
theorem dX4_isTooLate_11 : decode cX4_isTooLate 11 = .ok (.getfield 13, 3) := by decide +kernel
theorem dX4_isTooLate_14 : decode cX4_isTooLate 14 = .ok (.iconst 1, 1) := by decide +kernel
theorem dX4_isTooLate_15 : decode cX4_isTooLate 15 = .ok (.iaload, 1) := by decide +kernel
theorem dX4_isTooLate_16 : decode cX4_isTooLate 16 = .ok (.iadd, 1) := by decide +kernel
theorem dX4_isTooLate_17 : decode cX4_isTooLate 17 = .ok (.iload_n 1, 1) := by decide +kernel
theorem dX4_isTooLate_18 : decode cX4_isTooLate 18 = .ok (.iadd, 1) := by decide +kernel
theorem dX4_isTooLate_19 : decode cX4_isTooLate 19 = .ok (.ldc 105, 2) := by decide +kernel
theorem dX4_isTooLate_21 : decode cX4_isTooLate 21 = .ok (.if_icmp .lt 7, 3) := by decide +kernel
theorem dX4_isTooLate_24 : decode cX4_isTooLate 24 = .ok (.iconst 1, 1) := by decide +kernel
theorem dX4_isTooLate_25 : decode cX4_isTooLate 25 = .ok (.goto 4, 3) := by decide +kernel
theorem dX4_isTooLate_28 : decode cX4_isTooLate 28 = .ok (.iconst 0, 1) := by decide +kernel
theorem dX4_isTooLate_29 : decode cX4_isTooLate 29 = .ok (.ireturn, 1) := by decide +kernel
theorem dX4_remembers_0 : decode cX4_remembers 0 = .ok (.aload_n 0, 1) := by decide +kernel
theorem dX4_remembers_1 : decode cX4_remembers 1 = .ok (.getfield 106, 3) := by decide +kernel
theorem dX4_remembers_4 : decode cX4_remembers 4 = .ok (.bipush 10, 2) := by decide +kernel
theorem dX4_remembers_6 : decode cX4_remembers 6 = .ok (.if_icmp .ne 46, 3) := by decide +kernel
theorem dX4_remembers_9 : decode cX4_remembers 9 = .ok (.sipush 151, 3) := by decide +kernel
theorem dX4_remembers_12 : decode cX4_remembers 12 = .ok (.istore_n 1, 1) := by decide +kernel
theorem dX4_remembers_13 : decode cX4_remembers 13 = .ok (.iload_n 1, 1) := by decide +kernel
theorem dX4_remembers_14 : decode cX4_remembers 14 = .ok (.sipush 1510, 3) := by decide +kernel
theorem dX4_remembers_17 : decode cX4_remembers 17 = .ok (.if_icmp .ge 25, 3) := by decide +kernel
theorem dX4_remembers_20 : decode cX4_remembers 20 = .ok (.aload_n 0, 1) := by decide +kernel
theorem dX4_remembers_21 : decode cX4_remembers 21 = .ok (.getfield 19, 3) := by decide +kernel
theorem dX4_remembers_24 : decode cX4_remembers 24 = .ok (.iload_n 1, 1) := by decide +kernel
theorem dX4_remembers_25 : decode cX4_remembers 25 = .ok (.sipush 151, 3) := by decide +kernel
theorem dX4_remembers_28 : decode cX4_remembers 28 = .ok (.isub, 1) := by decide +kernel
theorem dX4_remembers_29 : decode cX4_remembers 29 = .ok (.aload_n 0, 1) := by decide +kernel
theorem dX4_remembers_30 : decode cX4_remembers 30 = .ok (.getfield 19, 3) := by decide +kernel
theorem dX4_remembers_33 : decode cX4_remembers 33 = .ok (.iload_n 1, 1) := by decide +kernel
theorem dX4_remembers_34 : decode cX4_remembers 34 = .ok (.iaload, 1) := by decide +kernel
theorem dX4_remembers_35 : decode cX4_remembers 35 = .ok (.iastore, 1) := by decide +kernel
theorem dX4_remembers_36 : decode cX4_remembers 36 = .ok (.iinc 1 1, 3) := by decide +kernel
theorem dX4_remembers_39 : decode cX4_remembers 39 = .ok (.goto (-26), 3) := by decide +kernel
theorem dX4_remembers_42 : decode cX4_remembers 42 = .ok (.aload_n 0, 1) := by decide +kernel
theorem dX4_remembers_43 : decode cX4_remembers 43 = .ok (.dup, 1) := by decide +kernel
theorem dX4_remembers_44 : decode cX4_remembers 44 = .ok (.getfield 106, 3) := by decide +kernel
theorem dX4_remembers_47 : decode cX4_remembers 47 = .ok (.iconst 1, 1) := by decide +kernel
theorem dX4_remembers_48 : decode cX4_remembers 48 = .ok (.isub, 1) := by decide +kernel
theorem dX4_remembers_49 : decode cX4_remembers 49 = .ok (.putfield 106, 3) := by decide +kernel
theorem dX4_remembers_52 : decode cX4_remembers 52 = .ok (.iconst 0, 1) := by decide +kernel
theorem dX4_remembers_53 : decode cX4_remembers 53 = .ok (.istore_n 1, 1) := by decide +kernel
theorem dX4_remembers_54 : decode cX4_remembers 54 = .ok (.iload_n 1, 1) := by decide +kernel
theorem dX4_remembers_55 : decode cX4_remembers 55 = .ok (.sipush 151, 3) := by decide +kernel
theorem dX4_remembers_58 : decode cX4_remembers 58 = .ok (.if_icmp .ge 30, 3) := by decide +kernel
theorem dX4_remembers_61 : decode cX4_remembers 61 = .ok (.aload_n 0, 1) := by decide +kernel
theorem dX4_remembers_62 : decode cX4_remembers 62 = .ok (.getfield 19, 3) := by decide +kernel
theorem dX4_remembers_65 : decode cX4_remembers 65 = .ok (.aload_n 0, 1) := by decide +kernel
theorem dX4_remembers_66 : decode cX4_remembers 66 = .ok (.getfield 106, 3) := by decide +kernel
theorem dX4_remembers_69 : decode cX4_remembers 69 = .ok (.sipush 151, 3) := by decide +kernel
theorem dX4_remembers_72 : decode cX4_remembers 72 = .ok (.imul, 1) := by decide +kernel
theorem dX4_remembers_73 : decode cX4_remembers 73 = .ok (.iload_n 1, 1) := by decide +kernel
theorem dX4_remembers_74 : decode cX4_remembers 74 = .ok (.iadd, 1) := by decide +kernel
theorem dX4_remembers_75 : decode cX4_remembers 75 = .ok (.aload_n 0, 1) := by decide +kernel
theorem dX4_remembers_76 : decode cX4_remembers 76 = .ok (.getfield 13, 3) := by decide +kernel
theorem dX4_remembers_79 : decode cX4_remembers 79 = .ok (.iload_n 1, 1) := by decide +kernel
theorem dX4_remembers_80 : decode cX4_remembers 80 = .ok (.iaload, 1) := by decide +kernel
theorem dX4_remembers_81 : decode cX4_remembers 81 = .ok (.iastore, 1) := by decide +kernel
theorem dX4_remembers_82 : decode cX4_remembers 82 = .ok (.iinc 1 1, 3) := by decide +kernel
theorem dX4_remembers_85 : decode cX4_remembers 85 = .ok (.goto (-31), 3) := by decide +kernel
theorem dX4_remembers_88 : decode cX4_remembers 88 = .ok (.aload_n 0, 1) := by decide +kernel
theorem dX4_remembers_89 : decode cX4_remembers 89 = .ok (.dup, 1) := by decide +kernel
theorem dX4_remembers_90 : decode cX4_remembers 90 = .ok (.getfield 106, 3) := by decide +kernel
theorem dX4_remembers_93 : decode cX4_remembers 93 = .ok (.iconst 1, 1) := by decide +kernel
theorem dX4_remembers_94 : decode cX4_remembers 94 = .ok (.iadd, 1) := by decide +kernel
theorem dX4_remembers_95 : decode cX4_remembers 95 = .ok (.putfield 106, 3) := by decide +kernel
theorem dX4_remembers_98 : decode cX4_remembers 98 = .ok (.return_, 1) := by decide +kernel
theorem dX4_putsAside_0 : decode cX4_putsAside 0 = .ok (.iconst 0, 1) := by decide +kernel
theorem dX4_putsAside_1 : decode cX4_putsAside 1 = .ok (.istore_n 1, 1) := by decide +kernel
theorem dX4_putsAside_2 : decode cX4_putsAside 2 = .ok (.iload_n 1, 1) := by decide +kernel
theorem dX4_putsAside_3 : decode cX4_putsAside 3 = .ok (.sipush 151, 3) := by decide +kernel
theorem dX4_putsAside_6 : decode cX4_putsAside 6 = .ok (.if_icmp .ge 21, 3) := by decide +kernel
theorem dX4_putsAside_9 : decode cX4_putsAside 9 = .ok (.aload_n 0, 1) := by decide +kernel
theorem dX4_putsAside_10 : decode cX4_putsAside 10 = .ok (.getfield 16, 3) := by decide +kernel
theorem dX4_putsAside_13 : decode cX4_putsAside 13 = .ok (.iload_n 1, 1) := by decide +kernel
theorem dX4_putsAside_14 : decode cX4_putsAside 14 = .ok (.aload_n 0, 1) := by decide +kernel
theorem dX4_putsAside_15 : decode cX4_putsAside 15 = .ok (.getfield 13, 3) := by decide +kernel
theorem dX4_putsAside_18 : decode cX4_putsAside 18 = .ok (.iload_n 1, 1) := by decide +kernel
theorem dX4_putsAside_19 : decode cX4_putsAside 19 = .ok (.iaload, 1) := by decide +kernel
theorem dX4_putsAside_20 : decode cX4_putsAside 20 = .ok (.iastore, 1) := by decide +kernel
theorem dX4_putsAside_21 : decode cX4_putsAside 21 = .ok (.iinc 1 1, 3) := by decide +kernel
theorem dX4_putsAside_24 : decode cX4_putsAside 24 = .ok (.goto (-22), 3) := by decide +kernel
theorem dX4_putsAside_27 : decode cX4_putsAside 27 = .ok (.return_, 1) := by decide +kernel
theorem dX4_putsBack_0 : decode cX4_putsBack 0 = .ok (.iconst 0, 1) := by decide +kernel
theorem dX4_putsBack_1 : decode cX4_putsBack 1 = .ok (.istore_n 1, 1) := by decide +kernel
theorem dX4_putsBack_2 : decode cX4_putsBack 2 = .ok (.iload_n 1, 1) := by decide +kernel
theorem dX4_putsBack_3 : decode cX4_putsBack 3 = .ok (.sipush 151, 3) := by decide +kernel
theorem dX4_putsBack_6 : decode cX4_putsBack 6 = .ok (.if_icmp .ge 21, 3) := by decide +kernel
theorem dX4_putsBack_9 : decode cX4_putsBack 9 = .ok (.aload_n 0, 1) := by decide +kernel
theorem dX4_putsBack_10 : decode cX4_putsBack 10 = .ok (.getfield 13, 3) := by decide +kernel
theorem dX4_putsBack_13 : decode cX4_putsBack 13 = .ok (.iload_n 1, 1) := by decide +kernel
theorem dX4_putsBack_14 : decode cX4_putsBack 14 = .ok (.aload_n 0, 1) := by decide +kernel
theorem dX4_putsBack_15 : decode cX4_putsBack 15 = .ok (.getfield 16, 3) := by decide +kernel
theorem dX4_putsBack_18 : decode cX4_putsBack 18 = .ok (.iload_n 1, 1) := by decide +kernel
theorem dX4_putsBack_19 : decode cX4_putsBack 19 = .ok (.iaload, 1) := by decide +kernel
theorem dX4_putsBack_20 : decode cX4_putsBack 20 = .ok (.iastore, 1) := by decide +kernel
theorem dX4_putsBack_21 : decode cX4_putsBack 21 = .ok (.iinc 1 1, 3) := by decide +kernel
theorem dX4_putsBack_24 : decode cX4_putsBack 24 = .ok (.goto (-22), 3) := by decide +kernel
theorem dX4_putsBack_27 : decode cX4_putsBack 27 = .ok (.return_, 1) := by decide +kernel
theorem dX4_isLetter_0 : decode cX4_isLetter 0 = .ok (.iload_n 0, 1) := by decide +kernel
theorem dX4_isLetter_1 : decode cX4_isLetter 1 = .ok (.bipush 97, 2) := by decide +kernel
theorem dX4_isLetter_3 : decode cX4_isLetter 3 = .ok (.if_icmp .lt 13, 3) := by decide +kernel
theorem dX4_isLetter_6 : decode cX4_isLetter 6 = .ok (.iload_n 0, 1) := by decide +kernel
theorem dX4_isLetter_7 : decode cX4_isLetter 7 = .ok (.bipush 122, 2) := by decide +kernel
theorem dX4_isLetter_9 : decode cX4_isLetter 9 = .ok (.if_icmp .gt 7, 3) := by decide +kernel
theorem dX4_isLetter_12 : decode cX4_isLetter 12 = .ok (.iconst 1, 1) := by decide +kernel
theorem dX4_isLetter_13 : decode cX4_isLetter 13 = .ok (.goto 4, 3) := by decide +kernel
theorem dX4_isLetter_16 : decode cX4_isLetter 16 = .ok (.iconst 0, 1) := by decide +kernel
theorem dX4_isLetter_17 : decode cX4_isLetter 17 = .ok (.ireturn, 1) := by decide +kernel
theorem dX4_isDigit_0 : decode cX4_isDigit 0 = .ok (.iload_n 0, 1) := by decide +kernel
theorem dX4_isDigit_1 : decode cX4_isDigit 1 = .ok (.bipush 48, 2) := by decide +kernel
theorem dX4_isDigit_3 : decode cX4_isDigit 3 = .ok (.if_icmp .lt 13, 3) := by decide +kernel
theorem dX4_isDigit_6 : decode cX4_isDigit 6 = .ok (.iload_n 0, 1) := by decide +kernel
theorem dX4_isDigit_7 : decode cX4_isDigit 7 = .ok (.bipush 57, 2) := by decide +kernel
theorem dX4_isDigit_9 : decode cX4_isDigit 9 = .ok (.if_icmp .gt 7, 3) := by decide +kernel
theorem dX4_isDigit_12 : decode cX4_isDigit 12 = .ok (.iconst 1, 1) := by decide +kernel
theorem dX4_isDigit_13 : decode cX4_isDigit 13 = .ok (.goto 4, 3) := by decide +kernel
theorem dX4_isDigit_16 : decode cX4_isDigit 16 = .ok (.iconst 0, 1) := by decide +kernel
theorem dX4_isDigit_17 : decode cX4_isDigit 17 = .ok (.ireturn, 1) := by decide +kernel
theorem dX4_next_0 : decode cX4_next 0 = .ok (.aload_n 0, 1) := by decide +kernel
theorem dX4_next_1 : decode cX4_next 1 = .ok (.getfield 109, 3) := by decide +kernel
theorem dX4_next_4 : decode cX4_next 4 = .ok (.iconst 1, 1) := by decide +kernel
theorem dX4_next_5 : decode cX4_next 5 = .ok (.if_icmp .eq 11, 3) := by decide +kernel
theorem dX4_next_8 : decode cX4_next 8 = .ok (.aload_n 0, 1) := by decide +kernel
theorem dX4_next_9 : decode cX4_next 9 = .ok (.getfield 109, 3) := by decide +kernel
theorem dX4_next_12 : decode cX4_next 12 = .ok (.iconst 2, 1) := by decide +kernel
theorem dX4_next_13 : decode cX4_next 13 = .ok (.if_icmp .ne 7, 3) := by decide +kernel
theorem dX4_next_16 : decode cX4_next 16 = .ok (.iconst 1, 1) := by decide +kernel
theorem dX4_next_17 : decode cX4_next 17 = .ok (.goto 4, 3) := by decide +kernel
theorem dX4_next_20 : decode cX4_next 20 = .ok (.iconst 0, 1) := by decide +kernel
theorem dX4_next_21 : decode cX4_next 21 = .ok (.istore_n 1, 1) := by decide +kernel
theorem dX4_next_22 : decode cX4_next 22 = .ok (.aload_n 0, 1) := by decide +kernel
theorem dX4_next_23 : decode cX4_next 23 = .ok (.aload_n 0, 1) := by decide +kernel
theorem dX4_next_24 : decode cX4_next 24 = .ok (.getfield 112, 3) := by decide +kernel
theorem dX4_next_27 : decode cX4_next 27 = .ok (.putfield 115, 3) := by decide +kernel
theorem dX4_next_30 : decode cX4_next 30 = .ok (.aload_n 0, 1) := by decide +kernel
theorem dX4_next_31 : decode cX4_next 31 = .ok (.getfield 115, 3) := by decide +kernel
theorem dX4_next_34 : decode cX4_next 34 = .ok (.aload_n 0, 1) := by decide +kernel
theorem dX4_next_35 : decode cX4_next 35 = .ok (.getfield 118, 3) := by decide +kernel
theorem dX4_next_38 : decode cX4_next 38 = .ok (.if_icmp .ge 44, 3) := by decide +kernel
theorem dX4_next_41 : decode cX4_next 41 = .ok (.aload_n 0, 1) := by decide +kernel
theorem dX4_next_42 : decode cX4_next 42 = .ok (.getfield 28, 3) := by decide +kernel
theorem dX4_next_45 : decode cX4_next 45 = .ok (.aload_n 0, 1) := by decide +kernel
theorem dX4_next_46 : decode cX4_next 46 = .ok (.getfield 115, 3) := by decide +kernel
theorem dX4_next_49 : decode cX4_next 49 = .ok (.baload, 1) := by decide +kernel
theorem dX4_next_50 : decode cX4_next 50 = .ok (.bipush 32, 2) := by decide +kernel
theorem dX4_next_52 : decode cX4_next 52 = .ok (.if_icmp .eq 17, 3) := by decide +kernel
theorem dX4_next_55 : decode cX4_next 55 = .ok (.aload_n 0, 1) := by decide +kernel
theorem dX4_next_56 : decode cX4_next 56 = .ok (.getfield 28, 3) := by decide +kernel
theorem dX4_next_59 : decode cX4_next 59 = .ok (.aload_n 0, 1) := by decide +kernel
theorem dX4_next_60 : decode cX4_next 60 = .ok (.getfield 115, 3) := by decide +kernel
theorem dX4_next_63 : decode cX4_next 63 = .ok (.baload, 1) := by decide +kernel
theorem dX4_next_64 : decode cX4_next 64 = .ok (.bipush 10, 2) := by decide +kernel
theorem dX4_next_66 : decode cX4_next 66 = .ok (.if_icmp .ne 16, 3) := by decide +kernel
theorem dX4_next_69 : decode cX4_next 69 = .ok (.aload_n 0, 1) := by decide +kernel
theorem dX4_next_70 : decode cX4_next 70 = .ok (.dup, 1) := by decide +kernel
theorem dX4_next_71 : decode cX4_next 71 = .ok (.getfield 115, 3) := by decide +kernel
theorem dX4_next_74 : decode cX4_next 74 = .ok (.iconst 1, 1) := by decide +kernel
theorem dX4_next_75 : decode cX4_next 75 = .ok (.iadd, 1) := by decide +kernel
theorem dX4_next_76 : decode cX4_next 76 = .ok (.putfield 115, 3) := by decide +kernel
theorem dX4_next_79 : decode cX4_next 79 = .ok (.goto (-49), 3) := by decide +kernel
theorem dX4_next_82 : decode cX4_next 82 = .ok (.iload_n 1, 1) := by decide +kernel
theorem dX4_next_83 : decode cX4_next 83 = .ok (.ifCond .eq 18, 3) := by decide +kernel
theorem dX4_next_86 : decode cX4_next 86 = .ok (.aload_n 0, 1) := by decide +kernel
theorem dX4_next_87 : decode cX4_next 87 = .ok (.getfield 115, 3) := by decide +kernel
theorem dX4_next_90 : decode cX4_next 90 = .ok (.aload_n 0, 1) := by decide +kernel
theorem dX4_next_91 : decode cX4_next 91 = .ok (.getfield 112, 3) := by decide +kernel
theorem dX4_next_94 : decode cX4_next 94 = .ok (.if_icmp .ne 7, 3) := by decide +kernel
theorem dX4_next_97 : decode cX4_next 97 = .ok (.iconst 1, 1) := by decide +kernel
theorem dX4_next_98 : decode cX4_next 98 = .ok (.goto 4, 3) := by decide +kernel
theorem dX4_next_101 : decode cX4_next 101 = .ok (.iconst 0, 1) := by decide +kernel
theorem dX4_next_102 : decode cX4_next 102 = .ok (.istore_n 2, 1) := by decide +kernel
theorem dX4_next_103 : decode cX4_next 103 = .ok (.aload_n 0, 1) := by decide +kernel
theorem dX4_next_104 : decode cX4_next 104 = .ok (.aload_n 0, 1) := by decide +kernel
theorem dX4_next_105 : decode cX4_next 105 = .ok (.getfield 115, 3) := by decide +kernel
theorem dX4_next_108 : decode cX4_next 108 = .ok (.putfield 112, 3) := by decide +kernel
theorem dX4_next_111 : decode cX4_next 111 = .ok (.aload_n 0, 1) := by decide +kernel
theorem dX4_next_112 : decode cX4_next 112 = .ok (.getfield 115, 3) := by decide +kernel
theorem dX4_next_115 : decode cX4_next 115 = .ok (.aload_n 0, 1) := by decide +kernel
theorem dX4_next_116 : decode cX4_next 116 = .ok (.getfield 118, 3) := by decide +kernel
theorem dX4_next_119 : decode cX4_next 119 = .ok (.if_icmp .ne 11, 3) := by decide +kernel
theorem dX4_next_122 : decode cX4_next 122 = .ok (.aload_n 0, 1) := by decide +kernel
theorem dX4_next_123 : decode cX4_next 123 = .ok (.iconst 0, 1) := by decide +kernel
theorem dX4_next_124 : decode cX4_next 124 = .ok (.putfield 109, 3) := by decide +kernel
theorem dX4_next_127 : decode cX4_next 127 = .ok (.goto 231, 3) := by decide +kernel
theorem dX4_next_130 : decode cX4_next 130 = .ok (.aload_n 0, 1) := by decide +kernel
theorem dX4_next_131 : decode cX4_next 131 = .ok (.getfield 28, 3) := by decide +kernel
theorem dX4_next_134 : decode cX4_next 134 = .ok (.aload_n 0, 1) := by decide +kernel
theorem dX4_next_135 : decode cX4_next 135 = .ok (.getfield 115, 3) := by decide +kernel
theorem dX4_next_138 : decode cX4_next 138 = .ok (.baload, 1) := by decide +kernel
theorem dX4_next_139 : decode cX4_next 139 = .ok (.invokestatic 121, 3) := by decide +kernel
theorem dX4_next_142 : decode cX4_next 142 = .ok (.ifCond .eq 58, 3) := by decide +kernel
theorem dX4_next_145 : decode cX4_next 145 = .ok (.aload_n 0, 1) := by decide +kernel
theorem dX4_next_146 : decode cX4_next 146 = .ok (.getfield 112, 3) := by decide +kernel
theorem dX4_next_149 : decode cX4_next 149 = .ok (.aload_n 0, 1) := by decide +kernel
theorem dX4_next_150 : decode cX4_next 150 = .ok (.getfield 118, 3) := by decide +kernel
theorem dX4_next_153 : decode cX4_next 153 = .ok (.if_icmp .ge 31, 3) := by decide +kernel
theorem dX4_next_156 : decode cX4_next 156 = .ok (.aload_n 0, 1) := by decide +kernel
theorem dX4_next_157 : decode cX4_next 157 = .ok (.getfield 28, 3) := by decide +kernel
theorem dX4_next_160 : decode cX4_next 160 = .ok (.aload_n 0, 1) := by decide +kernel
theorem dX4_next_161 : decode cX4_next 161 = .ok (.getfield 112, 3) := by decide +kernel
theorem dX4_next_164 : decode cX4_next 164 = .ok (.baload, 1) := by decide +kernel
theorem dX4_next_165 : decode cX4_next 165 = .ok (.invokestatic 121, 3) := by decide +kernel
theorem dX4_next_168 : decode cX4_next 168 = .ok (.ifCond .eq 16, 3) := by decide +kernel
theorem dX4_next_171 : decode cX4_next 171 = .ok (.aload_n 0, 1) := by decide +kernel
theorem dX4_next_172 : decode cX4_next 172 = .ok (.dup, 1) := by decide +kernel
theorem dX4_next_173 : decode cX4_next 173 = .ok (.getfield 112, 3) := by decide +kernel
theorem dX4_next_176 : decode cX4_next 176 = .ok (.iconst 1, 1) := by decide +kernel
theorem dX4_next_177 : decode cX4_next 177 = .ok (.iadd, 1) := by decide +kernel
theorem dX4_next_178 : decode cX4_next 178 = .ok (.putfield 112, 3) := by decide +kernel
theorem dX4_next_181 : decode cX4_next 181 = .ok (.goto (-36), 3) := by decide +kernel
theorem dX4_next_184 : decode cX4_next 184 = .ok (.aload_n 0, 1) := by decide +kernel
theorem dX4_next_185 : decode cX4_next 185 = .ok (.iload_n 2, 1) := by decide +kernel
theorem dX4_next_186 : decode cX4_next 186 = .ok (.ifCond .eq 7, 3) := by decide +kernel
theorem dX4_next_189 : decode cX4_next 189 = .ok (.iconst 4, 1) := by decide +kernel
theorem dX4_next_190 : decode cX4_next 190 = .ok (.goto 4, 3) := by decide +kernel
theorem dX4_next_193 : decode cX4_next 193 = .ok (.iconst 1, 1) := by decide +kernel
theorem dX4_next_194 : decode cX4_next 194 = .ok (.putfield 109, 3) := by decide +kernel
theorem dX4_next_197 : decode cX4_next 197 = .ok (.goto 161, 3) := by decide +kernel
theorem dX4_next_200 : decode cX4_next 200 = .ok (.aload_n 0, 1) := by decide +kernel
theorem dX4_next_201 : decode cX4_next 201 = .ok (.getfield 28, 3) := by decide +kernel
theorem dX4_next_204 : decode cX4_next 204 = .ok (.aload_n 0, 1) := by decide +kernel
theorem dX4_next_205 : decode cX4_next 205 = .ok (.getfield 115, 3) := by decide +kernel
theorem dX4_next_208 : decode cX4_next 208 = .ok (.baload, 1) := by decide +kernel
theorem dX4_next_209 : decode cX4_next 209 = .ok (.invokestatic 124, 3) := by decide +kernel
theorem dX4_next_212 : decode cX4_next 212 = .ok (.ifCond .eq 113, 3) := by decide +kernel
theorem dX4_next_215 : decode cX4_next 215 = .ok (.aload_n 0, 1) := by decide +kernel
theorem dX4_next_216 : decode cX4_next 216 = .ok (.iconst 0, 1) := by decide +kernel
theorem dX4_next_217 : decode cX4_next 217 = .ok (.putfield 127, 3) := by decide +kernel
theorem dX4_next_220 : decode cX4_next 220 = .ok (.aload_n 0, 1) := by decide +kernel
theorem dX4_next_221 : decode cX4_next 221 = .ok (.getfield 112, 3) := by decide +kernel
theorem dX4_next_224 : decode cX4_next 224 = .ok (.aload_n 0, 1) := by decide +kernel
theorem dX4_next_225 : decode cX4_next 225 = .ok (.getfield 118, 3) := by decide +kernel
theorem dX4_next_228 : decode cX4_next 228 = .ok (.if_icmp .ge 68, 3) := by decide +kernel
theorem dX4_next_231 : decode cX4_next 231 = .ok (.aload_n 0, 1) := by decide +kernel
theorem dX4_next_232 : decode cX4_next 232 = .ok (.getfield 28, 3) := by decide +kernel
theorem dX4_next_235 : decode cX4_next 235 = .ok (.aload_n 0, 1) := by decide +kernel
theorem dX4_next_236 : decode cX4_next 236 = .ok (.getfield 112, 3) := by decide +kernel
theorem dX4_next_239 : decode cX4_next 239 = .ok (.baload, 1) := by decide +kernel
theorem dX4_next_240 : decode cX4_next 240 = .ok (.invokestatic 124, 3) := by decide +kernel
theorem dX4_next_243 : decode cX4_next 243 = .ok (.ifCond .eq 53, 3) := by decide +kernel
theorem dX4_next_246 : decode cX4_next 246 = .ok (.aload_n 0, 1) := by decide +kernel
theorem dX4_next_247 : decode cX4_next 247 = .ok (.getfield 112, 3) := by decide +kernel
theorem dX4_next_250 : decode cX4_next 250 = .ok (.aload_n 0, 1) := by decide +kernel
theorem dX4_next_251 : decode cX4_next 251 = .ok (.getfield 115, 3) := by decide +kernel
theorem dX4_next_254 : decode cX4_next 254 = .ok (.isub, 1) := by decide +kernel
theorem dX4_next_255 : decode cX4_next 255 = .ok (.iconst 4, 1) := by decide +kernel
theorem dX4_next_256 : decode cX4_next 256 = .ok (.if_icmp .ge 27, 3) := by decide +kernel
theorem dX4_next_259 : decode cX4_next 259 = .ok (.aload_n 0, 1) := by decide +kernel
theorem dX4_next_260 : decode cX4_next 260 = .ok (.bipush 10, 2) := by decide +kernel
theorem dX4_next_262 : decode cX4_next 262 = .ok (.aload_n 0, 1) := by decide +kernel
theorem dX4_next_263 : decode cX4_next 263 = .ok (.getfield 127, 3) := by decide +kernel
theorem dX4_next_266 : decode cX4_next 266 = .ok (.imul, 1) := by decide +kernel
theorem dX4_next_267 : decode cX4_next 267 = .ok (.aload_n 0, 1) := by decide +kernel
theorem dX4_next_268 : decode cX4_next 268 = .ok (.getfield 28, 3) := by decide +kernel
theorem dX4_next_271 : decode cX4_next 271 = .ok (.aload_n 0, 1) := by decide +kernel
theorem dX4_next_272 : decode cX4_next 272 = .ok (.getfield 112, 3) := by decide +kernel
theorem dX4_next_275 : decode cX4_next 275 = .ok (.baload, 1) := by decide +kernel
theorem dX4_next_276 : decode cX4_next 276 = .ok (.iadd, 1) := by decide +kernel
theorem dX4_next_277 : decode cX4_next 277 = .ok (.bipush 48, 2) := by decide +kernel
theorem dX4_next_279 : decode cX4_next 279 = .ok (.isub, 1) := by decide +kernel
theorem dX4_next_280 : decode cX4_next 280 = .ok (.putfield 127, 3) := by decide +kernel
theorem dX4_next_283 : decode cX4_next 283 = .ok (.aload_n 0, 1) := by decide +kernel
theorem dX4_next_284 : decode cX4_next 284 = .ok (.dup, 1) := by decide +kernel
theorem dX4_next_285 : decode cX4_next 285 = .ok (.getfield 112, 3) := by decide +kernel
theorem dX4_next_288 : decode cX4_next 288 = .ok (.iconst 1, 1) := by decide +kernel
theorem dX4_next_289 : decode cX4_next 289 = .ok (.iadd, 1) := by decide +kernel
theorem dX4_next_290 : decode cX4_next 290 = .ok (.putfield 112, 3) := by decide +kernel
theorem dX4_next_293 : decode cX4_next 293 = .ok (.goto (-73), 3) := by decide +kernel
theorem dX4_next_296 : decode cX4_next 296 = .ok (.aload_n 0, 1) := by decide +kernel
theorem dX4_next_297 : decode cX4_next 297 = .ok (.iload_n 2, 1) := by decide +kernel
theorem dX4_next_298 : decode cX4_next 298 = .ok (.ifCond .ne 16, 3) := by decide +kernel
theorem dX4_next_301 : decode cX4_next 301 = .ok (.aload_n 0, 1) := by decide +kernel
theorem dX4_next_302 : decode cX4_next 302 = .ok (.getfield 112, 3) := by decide +kernel
theorem dX4_next_305 : decode cX4_next 305 = .ok (.aload_n 0, 1) := by decide +kernel
theorem dX4_next_306 : decode cX4_next 306 = .ok (.getfield 115, 3) := by decide +kernel
theorem dX4_next_309 : decode cX4_next 309 = .ok (.isub, 1) := by decide +kernel
theorem dX4_next_310 : decode cX4_next 310 = .ok (.iconst 4, 1) := by decide +kernel
theorem dX4_next_311 : decode cX4_next 311 = .ok (.if_icmp .le 7, 3) := by decide +kernel
theorem dX4_next_314 : decode cX4_next 314 = .ok (.iconst 4, 1) := by decide +kernel
theorem dX4_next_315 : decode cX4_next 315 = .ok (.goto 4, 3) := by decide +kernel
theorem dX4_next_318 : decode cX4_next 318 = .ok (.iconst 2, 1) := by decide +kernel
theorem dX4_next_319 : decode cX4_next 319 = .ok (.putfield 109, 3) := by decide +kernel
theorem dX4_next_322 : decode cX4_next 322 = .ok (.goto 36, 3) := by decide +kernel
theorem dX4_next_325 : decode cX4_next 325 = .ok (.aload_n 0, 1) := by decide +kernel
theorem dX4_next_326 : decode cX4_next 326 = .ok (.aload_n 0, 1) := by decide +kernel
theorem dX4_next_327 : decode cX4_next 327 = .ok (.getfield 115, 3) := by decide +kernel
theorem dX4_next_330 : decode cX4_next 330 = .ok (.iconst 1, 1) := by decide +kernel
theorem dX4_next_331 : decode cX4_next 331 = .ok (.iadd, 1) := by decide +kernel
theorem dX4_next_332 : decode cX4_next 332 = .ok (.putfield 112, 3) := by decide +kernel
theorem dX4_next_335 : decode cX4_next 335 = .ok (.aload_n 0, 1) := by decide +kernel
theorem dX4_next_336 : decode cX4_next 336 = .ok (.aload_n 0, 1) := by decide +kernel
theorem dX4_next_337 : decode cX4_next 337 = .ok (.getfield 28, 3) := by decide +kernel
theorem dX4_next_340 : decode cX4_next 340 = .ok (.aload_n 0, 1) := by decide +kernel
theorem dX4_next_341 : decode cX4_next 341 = .ok (.getfield 115, 3) := by decide +kernel
theorem dX4_next_344 : decode cX4_next 344 = .ok (.baload, 1) := by decide +kernel
theorem dX4_next_345 : decode cX4_next 345 = .ok (.bipush 59, 2) := by decide +kernel
theorem dX4_next_347 : decode cX4_next 347 = .ok (.if_icmp .ne 7, 3) := by decide +kernel
theorem dX4_next_350 : decode cX4_next 350 = .ok (.iconst 3, 1) := by decide +kernel
theorem dX4_next_351 : decode cX4_next 351 = .ok (.goto 4, 3) := by decide +kernel
theorem dX4_next_354 : decode cX4_next 354 = .ok (.iconst 4, 1) := by decide +kernel
theorem dX4_next_355 : decode cX4_next 355 = .ok (.putfield 109, 3) := by decide +kernel
theorem dX4_next_358 : decode cX4_next 358 = .ok (.return_, 1) := by decide +kernel
theorem dX4_errs_0 : decode cX4_errs 0 = .ok (.aload_n 0, 1) := by decide +kernel
theorem dX4_errs_1 : decode cX4_errs 1 = .ok (.getfield 130, 3) := by decide +kernel
theorem dX4_errs_4 : decode cX4_errs 4 = .ok (.ifCond .ne 16, 3) := by decide +kernel
theorem dX4_errs_7 : decode cX4_errs 7 = .ok (.aload_n 0, 1) := by decide +kernel
theorem dX4_errs_8 : decode cX4_errs 8 = .ok (.iload_n 1, 1) := by decide +kernel
theorem dX4_errs_9 : decode cX4_errs 9 = .ok (.putfield 130, 3) := by decide +kernel
theorem dX4_errs_12 : decode cX4_errs 12 = .ok (.aload_n 0, 1) := by decide +kernel
theorem dX4_errs_13 : decode cX4_errs 13 = .ok (.aload_n 0, 1) := by decide +kernel
theorem dX4_errs_14 : decode cX4_errs 14 = .ok (.getfield 115, 3) := by decide +kernel
theorem dX4_errs_17 : decode cX4_errs 17 = .ok (.putfield 133, 3) := by decide +kernel
theorem dX4_errs_20 : decode cX4_errs 20 = .ok (.return_, 1) := by decide +kernel
theorem dX4_isKey_0 : decode cX4_isKey 0 = .ok (.aload_n 0, 1) := by decide +kernel
theorem dX4_isKey_1 : decode cX4_isKey 1 = .ok (.getfield 109, 3) := by decide +kernel
theorem dX4_isKey_4 : decode cX4_isKey 4 = .ok (.iconst 1, 1) := by decide +kernel
theorem dX4_isKey_5 : decode cX4_isKey 5 = .ok (.if_icmp .ne 17, 3) := by decide +kernel
theorem dX4_isKey_8 : decode cX4_isKey 8 = .ok (.aload_n 0, 1) := by decide +kernel
theorem dX4_isKey_9 : decode cX4_isKey 9 = .ok (.getfield 112, 3) := by decide +kernel
theorem dX4_isKey_12 : decode cX4_isKey 12 = .ok (.aload_n 0, 1) := by decide +kernel
theorem dX4_isKey_13 : decode cX4_isKey 13 = .ok (.getfield 115, 3) := by decide +kernel
theorem dX4_isKey_16 : decode cX4_isKey 16 = .ok (.isub, 1) := by decide +kernel
theorem dX4_isKey_17 : decode cX4_isKey 17 = .ok (.bipush 8, 2) := by decide +kernel
theorem dX4_isKey_19 : decode cX4_isKey 19 = .ok (.if_icmp .le 5, 3) := by decide +kernel
theorem dX4_isKey_22 : decode cX4_isKey 22 = .ok (.iconst 0, 1) := by decide +kernel
theorem dX4_isKey_23 : decode cX4_isKey 23 = .ok (.ireturn, 1) := by decide +kernel
theorem dX4_isKey_24 : decode cX4_isKey 24 = .ok (.iconst 0, 1) := by decide +kernel
theorem dX4_isKey_25 : decode cX4_isKey 25 = .ok (.istore_n 2, 1) := by decide +kernel
theorem dX4_isKey_26 : decode cX4_isKey 26 = .ok (.iload_n 2, 1) := by decide +kernel
theorem dX4_isKey_27 : decode cX4_isKey 27 = .ok (.bipush 8, 2) := by decide +kernel
theorem dX4_isKey_29 : decode cX4_isKey 29 = .ok (.if_icmp .ge 55, 3) := by decide +kernel
theorem dX4_isKey_32 : decode cX4_isKey 32 = .ok (.iload_n 2, 1) := by decide +kernel
theorem dX4_isKey_33 : decode cX4_isKey 33 = .ok (.aload_n 0, 1) := by decide +kernel
theorem dX4_isKey_34 : decode cX4_isKey 34 = .ok (.getfield 112, 3) := by decide +kernel
theorem dX4_isKey_37 : decode cX4_isKey 37 = .ok (.aload_n 0, 1) := by decide +kernel
theorem dX4_isKey_38 : decode cX4_isKey 38 = .ok (.getfield 115, 3) := by decide +kernel
theorem dX4_isKey_41 : decode cX4_isKey 41 = .ok (.isub, 1) := by decide +kernel
theorem dX4_isKey_42 : decode cX4_isKey 42 = .ok (.if_icmp .ge 17, 3) := by decide +kernel
theorem dX4_isKey_45 : decode cX4_isKey 45 = .ok (.aload_n 0, 1) := by decide +kernel
theorem dX4_isKey_46 : decode cX4_isKey 46 = .ok (.getfield 28, 3) := by decide +kernel
theorem dX4_isKey_49 : decode cX4_isKey 49 = .ok (.aload_n 0, 1) := by decide +kernel
theorem dX4_isKey_50 : decode cX4_isKey 50 = .ok (.getfield 115, 3) := by decide +kernel
theorem dX4_isKey_53 : decode cX4_isKey 53 = .ok (.iload_n 2, 1) := by decide +kernel
theorem dX4_isKey_54 : decode cX4_isKey 54 = .ok (.iadd, 1) := by decide +kernel
theorem dX4_isKey_55 : decode cX4_isKey 55 = .ok (.baload, 1) := by decide +kernel
theorem dX4_isKey_56 : decode cX4_isKey 56 = .ok (.goto 4, 3) := by decide +kernel
theorem dX4_isKey_59 : decode cX4_isKey 59 = .ok (.iconst 0, 1) := by decide +kernel
theorem dX4_isKey_60 : decode cX4_isKey 60 = .ok (.istore_n 3, 1) := by decide +kernel
theorem dX4_isKey_61 : decode cX4_isKey 61 = .ok (.iload_n 3, 1) := by decide +kernel
theorem dX4_isKey_62 : decode cX4_isKey 62 = .ok (.aload_n 0, 1) := by decide +kernel
theorem dX4_isKey_63 : decode cX4_isKey 63 = .ok (.getfield 7, 3) := by decide +kernel
theorem dX4_isKey_66 : decode cX4_isKey 66 = .ok (.bipush 8, 2) := by decide +kernel
theorem dX4_isKey_68 : decode cX4_isKey 68 = .ok (.iload_n 1, 1) := by decide +kernel
theorem dX4_isKey_69 : decode cX4_isKey 69 = .ok (.imul, 1) := by decide +kernel
theorem dX4_isKey_70 : decode cX4_isKey 70 = .ok (.iload_n 2, 1) := by decide +kernel
theorem dX4_isKey_71 : decode cX4_isKey 71 = .ok (.iadd, 1) := by decide +kernel
theorem dX4_isKey_72 : decode cX4_isKey 72 = .ok (.iaload, 1) := by decide +kernel
theorem dX4_isKey_73 : decode cX4_isKey 73 = .ok (.if_icmp .eq 5, 3) := by decide +kernel
theorem dX4_isKey_76 : decode cX4_isKey 76 = .ok (.iconst 0, 1) := by decide +kernel
theorem dX4_isKey_77 : decode cX4_isKey 77 = .ok (.ireturn, 1) := by decide +kernel
theorem dX4_isKey_78 : decode cX4_isKey 78 = .ok (.iinc 2 1, 3) := by decide +kernel
theorem dX4_isKey_81 : decode cX4_isKey 81 = .ok (.goto (-55), 3) := by decide +kernel
theorem dX4_isKey_84 : decode cX4_isKey 84 = .ok (.iconst 1, 1) := by decide +kernel
theorem dX4_isKey_85 : decode cX4_isKey 85 = .ok (.ireturn, 1) := by decide +kernel
theorem dX4_goesOn_0 : decode cX4_goesOn 0 = .ok (.aload_n 0, 1) := by decide +kernel
theorem dX4_goesOn_1 : decode cX4_goesOn 1 = .ok (.getfield 130, 3) := by decide +kernel
theorem dX4_goesOn_4 : decode cX4_goesOn 4 = .ok (.ifCond .ne 7, 3) := by decide +kernel
theorem dX4_goesOn_7 : decode cX4_goesOn 7 = .ok (.aload_n 0, 1) := by decide +kernel
theorem dX4_goesOn_8 : decode cX4_goesOn 8 = .ok (.invokevirtual 136, 3) := by decide +kernel
theorem dX4_goesOn_11 : decode cX4_goesOn 11 = .ok (.return_, 1) := by decide +kernel
theorem dX4_here_0 : decode cX4_here 0 = .ok (.aload_n 0, 1) := by decide +kernel
theorem dX4_here_1 : decode cX4_here 1 = .ok (.getfield 130, 3) := by decide +kernel
theorem dX4_here_4 : decode cX4_here 4 = .ok (.ifCond .ne 16, 3) := by decide +kernel
theorem dX4_here_7 : decode cX4_here 7 = .ok (.aload_n 0, 1) := by decide +kernel
theorem dX4_here_8 : decode cX4_here 8 = .ok (.getfield 109, 3) := by decide +kernel
theorem dX4_here_11 : decode cX4_here 11 = .ok (.iconst 2, 1) := by decide +kernel
theorem dX4_here_12 : decode cX4_here 12 = .ok (.if_icmp .eq 8, 3) := by decide +kernel
theorem dX4_here_15 : decode cX4_here 15 = .ok (.aload_n 0, 1) := by decide +kernel
theorem dX4_here_16 : decode cX4_here 16 = .ok (.iconst 1, 1) := by decide +kernel
theorem dX4_here_17 : decode cX4_here 17 = .ok (.invokevirtual 139, 3) := by decide +kernel
theorem dX4_here_20 : decode cX4_here 20 = .ok (.aload_n 0, 1) := by decide +kernel
theorem dX4_here_21 : decode cX4_here 21 = .ok (.getfield 130, 3) := by decide +kernel
theorem dX4_here_24 : decode cX4_here 24 = .ok (.ifCond .ne 20, 3) := by decide +kernel
theorem dX4_here_27 : decode cX4_here 27 = .ok (.aload_n 0, 1) := by decide +kernel
theorem dX4_here_28 : decode cX4_here 28 = .ok (.getfield 127, 3) := by decide +kernel
theorem dX4_here_31 : decode cX4_here 31 = .ok (.iload_n 1, 1) := by decide +kernel
theorem dX4_here_32 : decode cX4_here 32 = .ok (.iload_n 2, 1) := by decide +kernel
theorem dX4_here_33 : decode cX4_here 33 = .ok (.invokestatic 67, 3) := by decide +kernel
theorem dX4_here_36 : decode cX4_here 36 = .ok (.ifCond .ne 8, 3) := by decide +kernel
theorem dX4_here_39 : decode cX4_here 39 = .ok (.aload_n 0, 1) := by decide +kernel
theorem dX4_here_40 : decode cX4_here 40 = .ok (.iconst 2, 1) := by decide +kernel
theorem dX4_here_41 : decode cX4_here 41 = .ok (.invokevirtual 139, 3) := by decide +kernel
theorem dX4_here_44 : decode cX4_here 44 = .ok (.aload_n 0, 1) := by decide +kernel
theorem dX4_here_45 : decode cX4_here 45 = .ok (.getfield 130, 3) := by decide +kernel
theorem dX4_here_48 : decode cX4_here 48 = .ok (.ifCond .ne 10, 3) := by decide +kernel
theorem dX4_here_51 : decode cX4_here 51 = .ok (.aload_n 0, 1) := by decide +kernel
theorem dX4_here_52 : decode cX4_here 52 = .ok (.getfield 127, 3) := by decide +kernel
theorem dX4_here_55 : decode cX4_here 55 = .ok (.goto 4, 3) := by decide +kernel
theorem dX4_here_58 : decode cX4_here 58 = .ok (.iload_n 1, 1) := by decide +kernel
theorem dX4_here_59 : decode cX4_here 59 = .ok (.ireturn, 1) := by decide +kernel
theorem dX4_takesNumber_0 : decode cX4_takesNumber 0 = .ok (.aload_n 0, 1) := by decide +kernel
theorem dX4_takesNumber_1 : decode cX4_takesNumber 1 = .ok (.iload_n 1, 1) := by decide +kernel
theorem dX4_takesNumber_2 : decode cX4_takesNumber 2 = .ok (.iload_n 2, 1) := by decide +kernel
theorem dX4_takesNumber_3 : decode cX4_takesNumber 3 = .ok (.invokevirtual 142, 3) := by decide +kernel
theorem dX4_takesNumber_6 : decode cX4_takesNumber 6 = .ok (.istore_n 3, 1) := by decide +kernel
theorem dX4_takesNumber_7 : decode cX4_takesNumber 7 = .ok (.aload_n 0, 1) := by decide +kernel
theorem dX4_takesNumber_8 : decode cX4_takesNumber 8 = .ok (.invokevirtual 145, 3) := by decide +kernel
theorem dX4_takesNumber_11 : decode cX4_takesNumber 11 = .ok (.iload_n 3, 1) := by decide +kernel
theorem dX4_takesNumber_12 : decode cX4_takesNumber 12 = .ok (.ireturn, 1) := by decide +kernel
theorem dX4_spellsHere_0 : decode cX4_spellsHere 0 = .ok (.aload_n 0, 1) := by decide +kernel
theorem dX4_spellsHere_1 : decode cX4_spellsHere 1 = .ok (.getfield 130, 3) := by decide +kernel
theorem dX4_spellsHere_4 : decode cX4_spellsHere 4 = .ok (.ifCond .ne 30, 3) := by decide +kernel
theorem dX4_spellsHere_7 : decode cX4_spellsHere 7 = .ok (.aload_n 0, 1) := by decide +kernel
theorem dX4_spellsHere_8 : decode cX4_spellsHere 8 = .ok (.getfield 109, 3) := by decide +kernel
theorem dX4_spellsHere_11 : decode cX4_spellsHere 11 = .ok (.iconst 1, 1) := by decide +kernel
theorem dX4_spellsHere_12 : decode cX4_spellsHere 12 = .ok (.if_icmp .ne 17, 3) := by decide +kernel
theorem dX4_spellsHere_15 : decode cX4_spellsHere 15 = .ok (.aload_n 0, 1) := by decide +kernel
theorem dX4_spellsHere_16 : decode cX4_spellsHere 16 = .ok (.getfield 112, 3) := by decide +kernel
theorem dX4_spellsHere_19 : decode cX4_spellsHere 19 = .ok (.aload_n 0, 1) := by decide +kernel
theorem dX4_spellsHere_20 : decode cX4_spellsHere 20 = .ok (.getfield 115, 3) := by decide +kernel
theorem dX4_spellsHere_23 : decode cX4_spellsHere 23 = .ok (.isub, 1) := by decide +kernel
theorem dX4_spellsHere_24 : decode cX4_spellsHere 24 = .ok (.bipush 6, 2) := by decide +kernel
theorem dX4_spellsHere_26 : decode cX4_spellsHere 26 = .ok (.if_icmp .le 8, 3) := by decide +kernel
theorem dX4_spellsHere_29 : decode cX4_spellsHere 29 = .ok (.aload_n 0, 1) := by decide +kernel
theorem dX4_spellsHere_30 : decode cX4_spellsHere 30 = .ok (.iconst 1, 1) := by decide +kernel
theorem dX4_spellsHere_31 : decode cX4_spellsHere 31 = .ok (.invokevirtual 139, 3) := by decide +kernel
theorem dX4_spellsHere_34 : decode cX4_spellsHere 34 = .ok (.iconst 0, 1) := by decide +kernel
theorem dX4_spellsHere_35 : decode cX4_spellsHere 35 = .ok (.istore_n 1, 1) := by decide +kernel
theorem dX4_spellsHere_36 : decode cX4_spellsHere 36 = .ok (.iload_n 1, 1) := by decide +kernel
theorem dX4_spellsHere_37 : decode cX4_spellsHere 37 = .ok (.bipush 6, 2) := by decide +kernel
theorem dX4_spellsHere_39 : decode cX4_spellsHere 39 = .ok (.if_icmp .ge 50, 3) := by decide +kernel
theorem dX4_spellsHere_42 : decode cX4_spellsHere 42 = .ok (.aload_n 0, 1) := by decide +kernel
theorem dX4_spellsHere_43 : decode cX4_spellsHere 43 = .ok (.getfield 130, 3) := by decide +kernel
theorem dX4_spellsHere_46 : decode cX4_spellsHere 46 = .ok (.ifCond .ne 43, 3) := by decide +kernel
theorem dX4_spellsHere_49 : decode cX4_spellsHere 49 = .ok (.aload_n 0, 1) := by decide +kernel
theorem dX4_spellsHere_50 : decode cX4_spellsHere 50 = .ok (.getfield 25, 3) := by decide +kernel
theorem dX4_spellsHere_53 : decode cX4_spellsHere 53 = .ok (.iload_n 1, 1) := by decide +kernel
theorem dX4_spellsHere_54 : decode cX4_spellsHere 54 = .ok (.iload_n 1, 1) := by decide +kernel
theorem dX4_spellsHere_55 : decode cX4_spellsHere 55 = .ok (.aload_n 0, 1) := by decide +kernel
theorem dX4_spellsHere_56 : decode cX4_spellsHere 56 = .ok (.getfield 112, 3) := by decide +kernel
theorem dX4_spellsHere_59 : decode cX4_spellsHere 59 = .ok (.aload_n 0, 1) := by decide +kernel
theorem dX4_spellsHere_60 : decode cX4_spellsHere 60 = .ok (.getfield 115, 3) := by decide +kernel
theorem dX4_spellsHere_63 : decode cX4_spellsHere 63 = .ok (.isub, 1) := by decide +kernel
theorem dX4_spellsHere_64 : decode cX4_spellsHere 64 = .ok (.if_icmp .ge 17, 3) := by decide +kernel
theorem dX4_spellsHere_67 : decode cX4_spellsHere 67 = .ok (.aload_n 0, 1) := by decide +kernel
theorem dX4_spellsHere_68 : decode cX4_spellsHere 68 = .ok (.getfield 28, 3) := by decide +kernel
theorem dX4_spellsHere_71 : decode cX4_spellsHere 71 = .ok (.aload_n 0, 1) := by decide +kernel
theorem dX4_spellsHere_72 : decode cX4_spellsHere 72 = .ok (.getfield 115, 3) := by decide +kernel
theorem dX4_spellsHere_75 : decode cX4_spellsHere 75 = .ok (.iload_n 1, 1) := by decide +kernel
theorem dX4_spellsHere_76 : decode cX4_spellsHere 76 = .ok (.iadd, 1) := by decide +kernel
theorem dX4_spellsHere_77 : decode cX4_spellsHere 77 = .ok (.baload, 1) := by decide +kernel
theorem dX4_spellsHere_78 : decode cX4_spellsHere 78 = .ok (.goto 4, 3) := by decide +kernel
theorem dX4_spellsHere_81 : decode cX4_spellsHere 81 = .ok (.iconst 0, 1) := by decide +kernel
theorem dX4_spellsHere_82 : decode cX4_spellsHere 82 = .ok (.iastore, 1) := by decide +kernel
theorem dX4_spellsHere_83 : decode cX4_spellsHere 83 = .ok (.iinc 1 1, 3) := by decide +kernel
theorem dX4_spellsHere_86 : decode cX4_spellsHere 86 = .ok (.goto (-50), 3) := by decide +kernel
theorem dX4_spellsHere_89 : decode cX4_spellsHere 89 = .ok (.return_, 1) := by decide +kernel
theorem dX4_childHere_0 : decode cX4_childHere 0 = .ok (.aload_n 0, 1) := by decide +kernel
theorem dX4_childHere_1 : decode cX4_childHere 1 = .ok (.invokevirtual 148, 3) := by decide +kernel
theorem dX4_childHere_4 : decode cX4_childHere 4 = .ok (.aload_n 0, 1) := by decide +kernel
theorem dX4_childHere_5 : decode cX4_childHere 5 = .ok (.getfield 130, 3) := by decide +kernel
theorem dX4_childHere_8 : decode cX4_childHere 8 = .ok (.ifCond .ne 10, 3) := by decide +kernel
theorem dX4_childHere_11 : decode cX4_childHere 11 = .ok (.aload_n 0, 1) := by decide +kernel
theorem dX4_childHere_12 : decode cX4_childHere 12 = .ok (.invokevirtual 151, 3) := by decide +kernel
theorem dX4_childHere_15 : decode cX4_childHere 15 = .ok (.goto 4, 3) := by decide +kernel
theorem dX4_childHere_18 : decode cX4_childHere 18 = .ok (.iconst 0, 1) := by decide +kernel
theorem dX4_childHere_19 : decode cX4_childHere 19 = .ok (.istore_n 1, 1) := by decide +kernel
theorem dX4_childHere_20 : decode cX4_childHere 20 = .ok (.iload_n 1, 1) := by decide +kernel
theorem dX4_childHere_21 : decode cX4_childHere 21 = .ok (.iconst (-1), 1) := by decide +kernel
theorem dX4_childHere_22 : decode cX4_childHere 22 = .ok (.if_icmp .ne 8, 3) := by decide +kernel
theorem dX4_childHere_25 : decode cX4_childHere 25 = .ok (.aload_n 0, 1) := by decide +kernel
theorem dX4_childHere_26 : decode cX4_childHere 26 = .ok (.iconst 3, 1) := by decide +kernel
theorem dX4_childHere_27 : decode cX4_childHere 27 = .ok (.invokevirtual 139, 3) := by decide +kernel
theorem dX4_childHere_30 : decode cX4_childHere 30 = .ok (.aload_n 0, 1) := by decide +kernel
theorem dX4_childHere_31 : decode cX4_childHere 31 = .ok (.getfield 130, 3) := by decide +kernel
theorem dX4_childHere_34 : decode cX4_childHere 34 = .ok (.ifCond .ne 7, 3) := by decide +kernel
theorem dX4_childHere_37 : decode cX4_childHere 37 = .ok (.iload_n 1, 1) := by decide +kernel
theorem dX4_childHere_38 : decode cX4_childHere 38 = .ok (.goto 4, 3) := by decide +kernel
theorem dX4_childHere_41 : decode cX4_childHere 41 = .ok (.iconst 0, 1) := by decide +kernel
theorem dX4_childHere_42 : decode cX4_childHere 42 = .ok (.ireturn, 1) := by decide +kernel
theorem dX4_readsGarden_0 : decode cX4_readsGarden 0 = .ok (.aload_n 0, 1) := by decide +kernel
theorem dX4_readsGarden_1 : decode cX4_readsGarden 1 = .ok (.getfield 13, 3) := by decide +kernel
theorem dX4_readsGarden_4 : decode cX4_readsGarden 4 = .ok (.iconst 4, 1) := by decide +kernel
theorem dX4_readsGarden_5 : decode cX4_readsGarden 5 = .ok (.iaload, 1) := by decide +kernel
theorem dX4_readsGarden_6 : decode cX4_readsGarden 6 = .ok (.iconst 4, 1) := by decide +kernel
theorem dX4_readsGarden_7 : decode cX4_readsGarden 7 = .ok (.if_icmp .ne 9, 3) := by decide +kernel
theorem dX4_readsGarden_10 : decode cX4_readsGarden 10 = .ok (.aload_n 0, 1) := by decide +kernel
theorem dX4_readsGarden_11 : decode cX4_readsGarden 11 = .ok (.iconst 5, 1) := by decide +kernel
theorem dX4_readsGarden_12 : decode cX4_readsGarden 12 = .ok (.invokevirtual 139, 3) := by decide +kernel
theorem dX4_readsGarden_15 : decode cX4_readsGarden 15 = .ok (.return_, 1) := by decide +kernel
theorem dX4_readsGarden_16 : decode cX4_readsGarden 16 = .ok (.aload_n 0, 1) := by decide +kernel
theorem dX4_readsGarden_17 : decode cX4_readsGarden 17 = .ok (.invokevirtual 136, 3) := by decide +kernel
theorem dX4_readsGarden_20 : decode cX4_readsGarden 20 = .ok (.aload_n 0, 1) := by decide +kernel
theorem dX4_readsGarden_21 : decode cX4_readsGarden 21 = .ok (.iconst 1, 1) := by decide +kernel
theorem dX4_readsGarden_22 : decode cX4_readsGarden 22 = .ok (.bipush 12, 2) := by decide +kernel
theorem dX4_readsGarden_24 : decode cX4_readsGarden 24 = .ok (.invokevirtual 154, 3) := by decide +kernel
theorem dX4_readsGarden_27 : decode cX4_readsGarden 27 = .ok (.istore_n 1, 1) := by decide +kernel
theorem dX4_readsGarden_28 : decode cX4_readsGarden 28 = .ok (.aload_n 0, 1) := by decide +kernel
theorem dX4_readsGarden_29 : decode cX4_readsGarden 29 = .ok (.getfield 130, 3) := by decide +kernel
theorem dX4_readsGarden_32 : decode cX4_readsGarden 32 = .ok (.ifCond .ne 8, 3) := by decide +kernel
theorem dX4_readsGarden_35 : decode cX4_readsGarden 35 = .ok (.aload_n 0, 1) := by decide +kernel
theorem dX4_readsGarden_36 : decode cX4_readsGarden 36 = .ok (.iload_n 1, 1) := by decide +kernel
theorem dX4_readsGarden_37 : decode cX4_readsGarden 37 = .ok (.invokevirtual 39, 3) := by decide +kernel
theorem dX4_readsGarden_40 : decode cX4_readsGarden 40 = .ok (.return_, 1) := by decide +kernel
theorem dX4_readsChild_0 : decode cX4_readsChild 0 = .ok (.aload_n 0, 1) := by decide +kernel
theorem dX4_readsChild_1 : decode cX4_readsChild 1 = .ok (.getfield 13, 3) := by decide +kernel
theorem dX4_readsChild_4 : decode cX4_readsChild 4 = .ok (.iconst 5, 1) := by decide +kernel
theorem dX4_readsChild_5 : decode cX4_readsChild 5 = .ok (.iaload, 1) := by decide +kernel
theorem dX4_readsChild_6 : decode cX4_readsChild 6 = .ok (.bipush 10, 2) := by decide +kernel
theorem dX4_readsChild_8 : decode cX4_readsChild 8 = .ok (.if_icmp .ne 9, 3) := by decide +kernel
theorem dX4_readsChild_11 : decode cX4_readsChild 11 = .ok (.aload_n 0, 1) := by decide +kernel
theorem dX4_readsChild_12 : decode cX4_readsChild 12 = .ok (.iconst 5, 1) := by decide +kernel
theorem dX4_readsChild_13 : decode cX4_readsChild 13 = .ok (.invokevirtual 139, 3) := by decide +kernel
theorem dX4_readsChild_16 : decode cX4_readsChild 16 = .ok (.return_, 1) := by decide +kernel
theorem dX4_readsChild_17 : decode cX4_readsChild 17 = .ok (.aload_n 0, 1) := by decide +kernel
theorem dX4_readsChild_18 : decode cX4_readsChild 18 = .ok (.invokevirtual 136, 3) := by decide +kernel
theorem dX4_readsChild_21 : decode cX4_readsChild 21 = .ok (.aload_n 0, 1) := by decide +kernel
theorem dX4_readsChild_22 : decode cX4_readsChild 22 = .ok (.invokevirtual 148, 3) := by decide +kernel
theorem dX4_readsChild_25 : decode cX4_readsChild 25 = .ok (.aload_n 0, 1) := by decide +kernel
theorem dX4_readsChild_26 : decode cX4_readsChild 26 = .ok (.getfield 130, 3) := by decide +kernel
theorem dX4_readsChild_29 : decode cX4_readsChild 29 = .ok (.ifCond .ne 16, 3) := by decide +kernel
theorem dX4_readsChild_32 : decode cX4_readsChild 32 = .ok (.aload_n 0, 1) := by decide +kernel
theorem dX4_readsChild_33 : decode cX4_readsChild 33 = .ok (.invokevirtual 151, 3) := by decide +kernel
theorem dX4_readsChild_36 : decode cX4_readsChild 36 = .ok (.iconst (-1), 1) := by decide +kernel
theorem dX4_readsChild_37 : decode cX4_readsChild 37 = .ok (.if_icmp .eq 8, 3) := by decide +kernel
theorem dX4_readsChild_40 : decode cX4_readsChild 40 = .ok (.aload_n 0, 1) := by decide +kernel
theorem dX4_readsChild_41 : decode cX4_readsChild 41 = .ok (.iconst 4, 1) := by decide +kernel
theorem dX4_readsChild_42 : decode cX4_readsChild 42 = .ok (.invokevirtual 139, 3) := by decide +kernel
theorem dX4_readsChild_45 : decode cX4_readsChild 45 = .ok (.aload_n 0, 1) := by decide +kernel
theorem dX4_readsChild_46 : decode cX4_readsChild 46 = .ok (.invokevirtual 145, 3) := by decide +kernel
theorem dX4_readsChild_49 : decode cX4_readsChild 49 = .ok (.aload_n 0, 1) := by decide +kernel
theorem dX4_readsChild_50 : decode cX4_readsChild 50 = .ok (.iconst 0, 1) := by decide +kernel
theorem dX4_readsChild_51 : decode cX4_readsChild 51 = .ok (.iconst 5, 1) := by decide +kernel
theorem dX4_readsChild_52 : decode cX4_readsChild 52 = .ok (.invokevirtual 154, 3) := by decide +kernel
theorem dX4_readsChild_55 : decode cX4_readsChild 55 = .ok (.istore_n 1, 1) := by decide +kernel
theorem dX4_readsChild_56 : decode cX4_readsChild 56 = .ok (.aload_n 0, 1) := by decide +kernel
theorem dX4_readsChild_57 : decode cX4_readsChild 57 = .ok (.iconst 1, 1) := by decide +kernel
theorem dX4_readsChild_58 : decode cX4_readsChild 58 = .ok (.bipush 20, 2) := by decide +kernel
theorem dX4_readsChild_60 : decode cX4_readsChild 60 = .ok (.invokevirtual 154, 3) := by decide +kernel
theorem dX4_readsChild_63 : decode cX4_readsChild 63 = .ok (.istore_n 2, 1) := by decide +kernel
theorem dX4_readsChild_64 : decode cX4_readsChild 64 = .ok (.aload_n 0, 1) := by decide +kernel
theorem dX4_readsChild_65 : decode cX4_readsChild 65 = .ok (.iconst 0, 1) := by decide +kernel
theorem dX4_readsChild_66 : decode cX4_readsChild 66 = .ok (.bipush 99, 2) := by decide +kernel
theorem dX4_readsChild_68 : decode cX4_readsChild 68 = .ok (.invokevirtual 154, 3) := by decide +kernel
theorem dX4_readsChild_71 : decode cX4_readsChild 71 = .ok (.istore_n 3, 1) := by decide +kernel
theorem dX4_readsChild_72 : decode cX4_readsChild 72 = .ok (.aload_n 0, 1) := by decide +kernel
theorem dX4_readsChild_73 : decode cX4_readsChild 73 = .ok (.iconst 0, 1) := by decide +kernel
theorem dX4_readsChild_74 : decode cX4_readsChild 74 = .ok (.aload_n 0, 1) := by decide +kernel
theorem dX4_readsChild_75 : decode cX4_readsChild 75 = .ok (.getfield 13, 3) := by decide +kernel
theorem dX4_readsChild_78 : decode cX4_readsChild 78 = .ok (.iconst 4, 1) := by decide +kernel
theorem dX4_readsChild_79 : decode cX4_readsChild 79 = .ok (.iaload, 1) := by decide +kernel
theorem dX4_readsChild_80 : decode cX4_readsChild 80 = .ok (.iconst 1, 1) := by decide +kernel
theorem dX4_readsChild_81 : decode cX4_readsChild 81 = .ok (.isub, 1) := by decide +kernel
theorem dX4_readsChild_82 : decode cX4_readsChild 82 = .ok (.invokevirtual 154, 3) := by decide +kernel
theorem dX4_readsChild_85 : decode cX4_readsChild 85 = .ok (.istore 4, 2) := by decide +kernel
theorem dX4_readsChild_87 : decode cX4_readsChild 87 = .ok (.aload_n 0, 1) := by decide +kernel
theorem dX4_readsChild_88 : decode cX4_readsChild 88 = .ok (.getfield 130, 3) := by decide +kernel
theorem dX4_readsChild_91 : decode cX4_readsChild 91 = .ok (.ifCond .ne 12, 3) := by decide +kernel
theorem dX4_readsChild_94 : decode cX4_readsChild 94 = .ok (.aload_n 0, 1) := by decide +kernel
theorem dX4_readsChild_95 : decode cX4_readsChild 95 = .ok (.iload_n 1, 1) := by decide +kernel
theorem dX4_readsChild_96 : decode cX4_readsChild 96 = .ok (.iload_n 2, 1) := by decide +kernel
theorem dX4_readsChild_97 : decode cX4_readsChild 97 = .ok (.iload_n 3, 1) := by decide +kernel
theorem dX4_readsChild_98 : decode cX4_readsChild 98 = .ok (.iload 4, 2) := by decide +kernel
theorem dX4_readsChild_100 : decode cX4_readsChild 100 = .ok (.invokevirtual 46, 3) := by decide +kernel
theorem dX4_readsChild_103 : decode cX4_readsChild 103 = .ok (.return_, 1) := by decide +kernel
theorem dX4_readsBirthday_0 : decode cX4_readsBirthday 0 = .ok (.aload_n 0, 1) := by decide +kernel
theorem dX4_readsBirthday_1 : decode cX4_readsBirthday 1 = .ok (.invokevirtual 136, 3) := by decide +kernel
theorem dX4_readsBirthday_4 : decode cX4_readsBirthday 4 = .ok (.aload_n 0, 1) := by decide +kernel
theorem dX4_readsBirthday_5 : decode cX4_readsBirthday 5 = .ok (.invokevirtual 157, 3) := by decide +kernel
theorem dX4_readsBirthday_8 : decode cX4_readsBirthday 8 = .ok (.istore_n 1, 1) := by decide +kernel
theorem dX4_readsBirthday_9 : decode cX4_readsBirthday 9 = .ok (.aload_n 0, 1) := by decide +kernel
theorem dX4_readsBirthday_10 : decode cX4_readsBirthday 10 = .ok (.invokevirtual 145, 3) := by decide +kernel
theorem dX4_readsBirthday_13 : decode cX4_readsBirthday 13 = .ok (.aload_n 0, 1) := by decide +kernel
theorem dX4_readsBirthday_14 : decode cX4_readsBirthday 14 = .ok (.iconst 1, 1) := by decide +kernel
theorem dX4_readsBirthday_15 : decode cX4_readsBirthday 15 = .ok (.bipush 12, 2) := by decide +kernel
theorem dX4_readsBirthday_17 : decode cX4_readsBirthday 17 = .ok (.invokevirtual 154, 3) := by decide +kernel
theorem dX4_readsBirthday_20 : decode cX4_readsBirthday 20 = .ok (.istore_n 2, 1) := by decide +kernel
theorem dX4_readsBirthday_21 : decode cX4_readsBirthday 21 = .ok (.aload_n 0, 1) := by decide +kernel
theorem dX4_readsBirthday_22 : decode cX4_readsBirthday 22 = .ok (.iconst 1, 1) := by decide +kernel
theorem dX4_readsBirthday_23 : decode cX4_readsBirthday 23 = .ok (.bipush 30, 2) := by decide +kernel
theorem dX4_readsBirthday_25 : decode cX4_readsBirthday 25 = .ok (.invokevirtual 142, 3) := by decide +kernel
theorem dX4_readsBirthday_28 : decode cX4_readsBirthday 28 = .ok (.istore_n 3, 1) := by decide +kernel
theorem dX4_readsBirthday_29 : decode cX4_readsBirthday 29 = .ok (.aload_n 0, 1) := by decide +kernel
theorem dX4_readsBirthday_30 : decode cX4_readsBirthday 30 = .ok (.getfield 130, 3) := by decide +kernel
theorem dX4_readsBirthday_33 : decode cX4_readsBirthday 33 = .ok (.ifCond .ne 33, 3) := by decide +kernel
theorem dX4_readsBirthday_36 : decode cX4_readsBirthday 36 = .ok (.aload_n 0, 1) := by decide +kernel
theorem dX4_readsBirthday_37 : decode cX4_readsBirthday 37 = .ok (.iload_n 1, 1) := by decide +kernel
theorem dX4_readsBirthday_38 : decode cX4_readsBirthday 38 = .ok (.aload_n 0, 1) := by decide +kernel
theorem dX4_readsBirthday_39 : decode cX4_readsBirthday 39 = .ok (.getfield 13, 3) := by decide +kernel
theorem dX4_readsBirthday_42 : decode cX4_readsBirthday 42 = .ok (.iload_n 1, 1) := by decide +kernel
theorem dX4_readsBirthday_43 : decode cX4_readsBirthday 43 = .ok (.invokestatic 50, 3) := by decide +kernel
theorem dX4_readsBirthday_46 : decode cX4_readsBirthday 46 = .ok (.iconst 3, 1) := by decide +kernel
theorem dX4_readsBirthday_47 : decode cX4_readsBirthday 47 = .ok (.iadd, 1) := by decide +kernel
theorem dX4_readsBirthday_48 : decode cX4_readsBirthday 48 = .ok (.iaload, 1) := by decide +kernel
theorem dX4_readsBirthday_49 : decode cX4_readsBirthday 49 = .ok (.iload_n 2, 1) := by decide +kernel
theorem dX4_readsBirthday_50 : decode cX4_readsBirthday 50 = .ok (.iload_n 3, 1) := by decide +kernel
theorem dX4_readsBirthday_51 : decode cX4_readsBirthday 51 = .ok (.invokestatic 160, 3) := by decide +kernel
theorem dX4_readsBirthday_54 : decode cX4_readsBirthday 54 = .ok (.invokevirtual 86, 3) := by decide +kernel
theorem dX4_readsBirthday_57 : decode cX4_readsBirthday 57 = .ok (.ifCond .eq 9, 3) := by decide +kernel
theorem dX4_readsBirthday_60 : decode cX4_readsBirthday 60 = .ok (.aload_n 0, 1) := by decide +kernel
theorem dX4_readsBirthday_61 : decode cX4_readsBirthday 61 = .ok (.bipush 6, 2) := by decide +kernel
theorem dX4_readsBirthday_63 : decode cX4_readsBirthday 63 = .ok (.invokevirtual 139, 3) := by decide +kernel
theorem dX4_readsBirthday_66 : decode cX4_readsBirthday 66 = .ok (.aload_n 0, 1) := by decide +kernel
theorem dX4_readsBirthday_67 : decode cX4_readsBirthday 67 = .ok (.getfield 130, 3) := by decide +kernel
theorem dX4_readsBirthday_70 : decode cX4_readsBirthday 70 = .ok (.ifCond .ne 23, 3) := by decide +kernel
theorem dX4_readsBirthday_73 : decode cX4_readsBirthday 73 = .ok (.aload_n 0, 1) := by decide +kernel
theorem dX4_readsBirthday_74 : decode cX4_readsBirthday 74 = .ok (.getfield 13, 3) := by decide +kernel
theorem dX4_readsBirthday_77 : decode cX4_readsBirthday 77 = .ok (.iload_n 1, 1) := by decide +kernel
theorem dX4_readsBirthday_78 : decode cX4_readsBirthday 78 = .ok (.invokestatic 50, 3) := by decide +kernel
theorem dX4_readsBirthday_81 : decode cX4_readsBirthday 81 = .ok (.iconst 4, 1) := by decide +kernel
theorem dX4_readsBirthday_82 : decode cX4_readsBirthday 82 = .ok (.iadd, 1) := by decide +kernel
theorem dX4_readsBirthday_83 : decode cX4_readsBirthday 83 = .ok (.iload_n 2, 1) := by decide +kernel
theorem dX4_readsBirthday_84 : decode cX4_readsBirthday 84 = .ok (.iload_n 3, 1) := by decide +kernel
theorem dX4_readsBirthday_85 : decode cX4_readsBirthday 85 = .ok (.invokestatic 160, 3) := by decide +kernel
theorem dX4_readsBirthday_88 : decode cX4_readsBirthday 88 = .ok (.iastore, 1) := by decide +kernel
theorem dX4_readsBirthday_89 : decode cX4_readsBirthday 89 = .ok (.aload_n 0, 1) := by decide +kernel
theorem dX4_readsBirthday_90 : decode cX4_readsBirthday 90 = .ok (.invokevirtual 136, 3) := by decide +kernel
theorem dX4_readsBirthday_93 : decode cX4_readsBirthday 93 = .ok (.return_, 1) := by decide +kernel
theorem dX4_readsDraw_0 : decode cX4_readsDraw 0 = .ok (.aload_n 0, 1) := by decide +kernel
theorem dX4_readsDraw_1 : decode cX4_readsDraw 1 = .ok (.invokevirtual 136, 3) := by decide +kernel
theorem dX4_readsDraw_4 : decode cX4_readsDraw 4 = .ok (.aload_n 0, 1) := by decide +kernel
theorem dX4_readsDraw_5 : decode cX4_readsDraw 5 = .ok (.invokevirtual 157, 3) := by decide +kernel
theorem dX4_readsDraw_8 : decode cX4_readsDraw 8 = .ok (.istore_n 1, 1) := by decide +kernel
theorem dX4_readsDraw_9 : decode cX4_readsDraw 9 = .ok (.aload_n 0, 1) := by decide +kernel
theorem dX4_readsDraw_10 : decode cX4_readsDraw 10 = .ok (.getfield 130, 3) := by decide +kernel
theorem dX4_readsDraw_13 : decode cX4_readsDraw 13 = .ok (.ifCond .ne 11, 3) := by decide +kernel
theorem dX4_readsDraw_16 : decode cX4_readsDraw 16 = .ok (.aload_n 0, 1) := by decide +kernel
theorem dX4_readsDraw_17 : decode cX4_readsDraw 17 = .ok (.iload_n 1, 1) := by decide +kernel
theorem dX4_readsDraw_18 : decode cX4_readsDraw 18 = .ok (.invokevirtual 54, 3) := by decide +kernel
theorem dX4_readsDraw_21 : decode cX4_readsDraw 21 = .ok (.goto 4, 3) := by decide +kernel
theorem dX4_readsDraw_24 : decode cX4_readsDraw 24 = .ok (.iconst 1, 1) := by decide +kernel
theorem dX4_readsDraw_25 : decode cX4_readsDraw 25 = .ok (.istore_n 2, 1) := by decide +kernel
theorem dX4_readsDraw_26 : decode cX4_readsDraw 26 = .ok (.iload_n 2, 1) := by decide +kernel
theorem dX4_readsDraw_27 : decode cX4_readsDraw 27 = .ok (.iconst (-1), 1) := by decide +kernel
theorem dX4_readsDraw_28 : decode cX4_readsDraw 28 = .ok (.if_icmp .ne 9, 3) := by decide +kernel
theorem dX4_readsDraw_31 : decode cX4_readsDraw 31 = .ok (.aload_n 0, 1) := by decide +kernel
theorem dX4_readsDraw_32 : decode cX4_readsDraw 32 = .ok (.bipush 6, 2) := by decide +kernel
theorem dX4_readsDraw_34 : decode cX4_readsDraw 34 = .ok (.invokevirtual 139, 3) := by decide +kernel
theorem dX4_readsDraw_37 : decode cX4_readsDraw 37 = .ok (.aload_n 0, 1) := by decide +kernel
theorem dX4_readsDraw_38 : decode cX4_readsDraw 38 = .ok (.getfield 130, 3) := by decide +kernel
theorem dX4_readsDraw_41 : decode cX4_readsDraw 41 = .ok (.ifCond .ne 13, 3) := by decide +kernel
theorem dX4_readsDraw_44 : decode cX4_readsDraw 44 = .ok (.aload_n 0, 1) := by decide +kernel
theorem dX4_readsDraw_45 : decode cX4_readsDraw 45 = .ok (.iload_n 1, 1) := by decide +kernel
theorem dX4_readsDraw_46 : decode cX4_readsDraw 46 = .ok (.iload_n 2, 1) := by decide +kernel
theorem dX4_readsDraw_47 : decode cX4_readsDraw 47 = .ok (.invokevirtual 57, 3) := by decide +kernel
theorem dX4_readsDraw_50 : decode cX4_readsDraw 50 = .ok (.aload_n 0, 1) := by decide +kernel
theorem dX4_readsDraw_51 : decode cX4_readsDraw 51 = .ok (.invokevirtual 136, 3) := by decide +kernel
theorem dX4_readsDraw_54 : decode cX4_readsDraw 54 = .ok (.return_, 1) := by decide +kernel
theorem dX4_readsCakes_0 : decode cX4_readsCakes 0 = .ok (.aload_n 0, 1) := by decide +kernel
theorem dX4_readsCakes_1 : decode cX4_readsCakes 1 = .ok (.invokevirtual 136, 3) := by decide +kernel
theorem dX4_readsCakes_4 : decode cX4_readsCakes 4 = .ok (.aload_n 0, 1) := by decide +kernel
theorem dX4_readsCakes_5 : decode cX4_readsCakes 5 = .ok (.iconst 0, 1) := by decide +kernel
theorem dX4_readsCakes_6 : decode cX4_readsCakes 6 = .ok (.iconst 5, 1) := by decide +kernel
theorem dX4_readsCakes_7 : decode cX4_readsCakes 7 = .ok (.invokevirtual 154, 3) := by decide +kernel
theorem dX4_readsCakes_10 : decode cX4_readsCakes 10 = .ok (.istore_n 1, 1) := by decide +kernel
theorem dX4_readsCakes_11 : decode cX4_readsCakes 11 = .ok (.bipush 99, 2) := by decide +kernel
theorem dX4_readsCakes_13 : decode cX4_readsCakes 13 = .ok (.aload_n 0, 1) := by decide +kernel
theorem dX4_readsCakes_14 : decode cX4_readsCakes 14 = .ok (.getfield 13, 3) := by decide +kernel
theorem dX4_readsCakes_17 : decode cX4_readsCakes 17 = .ok (.bipush 11, 2) := by decide +kernel
theorem dX4_readsCakes_19 : decode cX4_readsCakes 19 = .ok (.iload_n 1, 1) := by decide +kernel
theorem dX4_readsCakes_20 : decode cX4_readsCakes 20 = .ok (.iadd, 1) := by decide +kernel
theorem dX4_readsCakes_21 : decode cX4_readsCakes 21 = .ok (.iaload, 1) := by decide +kernel
theorem dX4_readsCakes_22 : decode cX4_readsCakes 22 = .ok (.isub, 1) := by decide +kernel
theorem dX4_readsCakes_23 : decode cX4_readsCakes 23 = .ok (.istore_n 2, 1) := by decide +kernel
theorem dX4_readsCakes_24 : decode cX4_readsCakes 24 = .ok (.aload_n 0, 1) := by decide +kernel
theorem dX4_readsCakes_25 : decode cX4_readsCakes 25 = .ok (.iconst 1, 1) := by decide +kernel
theorem dX4_readsCakes_26 : decode cX4_readsCakes 26 = .ok (.iload_n 2, 1) := by decide +kernel
theorem dX4_readsCakes_27 : decode cX4_readsCakes 27 = .ok (.invokevirtual 154, 3) := by decide +kernel
theorem dX4_readsCakes_30 : decode cX4_readsCakes 30 = .ok (.istore_n 3, 1) := by decide +kernel
theorem dX4_readsCakes_31 : decode cX4_readsCakes 31 = .ok (.aload_n 0, 1) := by decide +kernel
theorem dX4_readsCakes_32 : decode cX4_readsCakes 32 = .ok (.getfield 130, 3) := by decide +kernel
theorem dX4_readsCakes_35 : decode cX4_readsCakes 35 = .ok (.ifCond .ne 16, 3) := by decide +kernel
theorem dX4_readsCakes_38 : decode cX4_readsCakes 38 = .ok (.aload_n 0, 1) := by decide +kernel
theorem dX4_readsCakes_39 : decode cX4_readsCakes 39 = .ok (.getfield 13, 3) := by decide +kernel
theorem dX4_readsCakes_42 : decode cX4_readsCakes 42 = .ok (.bipush 11, 2) := by decide +kernel
theorem dX4_readsCakes_44 : decode cX4_readsCakes 44 = .ok (.iload_n 1, 1) := by decide +kernel
theorem dX4_readsCakes_45 : decode cX4_readsCakes 45 = .ok (.iadd, 1) := by decide +kernel
theorem dX4_readsCakes_46 : decode cX4_readsCakes 46 = .ok (.dup2, 1) := by decide +kernel
theorem dX4_readsCakes_47 : decode cX4_readsCakes 47 = .ok (.iaload, 1) := by decide +kernel
theorem dX4_readsCakes_48 : decode cX4_readsCakes 48 = .ok (.iload_n 3, 1) := by decide +kernel
theorem dX4_readsCakes_49 : decode cX4_readsCakes 49 = .ok (.iadd, 1) := by decide +kernel
theorem dX4_readsCakes_50 : decode cX4_readsCakes 50 = .ok (.iastore, 1) := by decide +kernel
theorem dX4_readsCakes_51 : decode cX4_readsCakes 51 = .ok (.return_, 1) := by decide +kernel
theorem dX4_readsDays_0 : decode cX4_readsDays 0 = .ok (.aload_n 0, 1) := by decide +kernel
theorem dX4_readsDays_1 : decode cX4_readsDays 1 = .ok (.invokevirtual 136, 3) := by decide +kernel
theorem dX4_readsDays_4 : decode cX4_readsDays 4 = .ok (.aload_n 0, 1) := by decide +kernel
theorem dX4_readsDays_5 : decode cX4_readsDays 5 = .ok (.iconst 1, 1) := by decide +kernel
theorem dX4_readsDays_6 : decode cX4_readsDays 6 = .ok (.sipush 720, 3) := by decide +kernel
theorem dX4_readsDays_9 : decode cX4_readsDays 9 = .ok (.invokevirtual 142, 3) := by decide +kernel
theorem dX4_readsDays_12 : decode cX4_readsDays 12 = .ok (.istore_n 1, 1) := by decide +kernel
theorem dX4_readsDays_13 : decode cX4_readsDays 13 = .ok (.aload_n 0, 1) := by decide +kernel
theorem dX4_readsDays_14 : decode cX4_readsDays 14 = .ok (.getfield 130, 3) := by decide +kernel
theorem dX4_readsDays_17 : decode cX4_readsDays 17 = .ok (.ifCond .ne 16, 3) := by decide +kernel
theorem dX4_readsDays_20 : decode cX4_readsDays 20 = .ok (.aload_n 0, 1) := by decide +kernel
theorem dX4_readsDays_21 : decode cX4_readsDays 21 = .ok (.iload_n 1, 1) := by decide +kernel
theorem dX4_readsDays_22 : decode cX4_readsDays 22 = .ok (.invokevirtual 163, 3) := by decide +kernel
theorem dX4_readsDays_25 : decode cX4_readsDays 25 = .ok (.ifCond .eq 8, 3) := by decide +kernel
theorem dX4_readsDays_28 : decode cX4_readsDays 28 = .ok (.aload_n 0, 1) := by decide +kernel
theorem dX4_readsDays_29 : decode cX4_readsDays 29 = .ok (.iconst 2, 1) := by decide +kernel
theorem dX4_readsDays_30 : decode cX4_readsDays 30 = .ok (.invokevirtual 139, 3) := by decide +kernel
theorem dX4_readsDays_33 : decode cX4_readsDays 33 = .ok (.aload_n 0, 1) := by decide +kernel
theorem dX4_readsDays_34 : decode cX4_readsDays 34 = .ok (.getfield 130, 3) := by decide +kernel
theorem dX4_readsDays_37 : decode cX4_readsDays 37 = .ok (.ifCond .ne 13, 3) := by decide +kernel
theorem dX4_readsDays_40 : decode cX4_readsDays 40 = .ok (.aload_n 0, 1) := by decide +kernel
theorem dX4_readsDays_41 : decode cX4_readsDays 41 = .ok (.iload_n 1, 1) := by decide +kernel
theorem dX4_readsDays_42 : decode cX4_readsDays 42 = .ok (.invokevirtual 61, 3) := by decide +kernel
theorem dX4_readsDays_45 : decode cX4_readsDays 45 = .ok (.istore_n 2, 1) := by decide +kernel
theorem dX4_readsDays_46 : decode cX4_readsDays 46 = .ok (.aload_n 0, 1) := by decide +kernel
theorem dX4_readsDays_47 : decode cX4_readsDays 47 = .ok (.invokevirtual 136, 3) := by decide +kernel
theorem dX4_readsDays_50 : decode cX4_readsDays 50 = .ok (.return_, 1) := by decide +kernel
theorem dX4_readsLine_0 : decode cX4_readsLine 0 = .ok (.aload_n 0, 1) := by decide +kernel
theorem dX4_readsLine_1 : decode cX4_readsLine 1 = .ok (.iconst 1, 1) := by decide +kernel
theorem dX4_readsLine_2 : decode cX4_readsLine 2 = .ok (.invokevirtual 166, 3) := by decide +kernel
theorem dX4_readsLine_5 : decode cX4_readsLine 5 = .ok (.ifCond .eq 10, 3) := by decide +kernel
theorem dX4_readsLine_8 : decode cX4_readsLine 8 = .ok (.aload_n 0, 1) := by decide +kernel
theorem dX4_readsLine_9 : decode cX4_readsLine 9 = .ok (.invokevirtual 169, 3) := by decide +kernel
theorem dX4_readsLine_12 : decode cX4_readsLine 12 = .ok (.goto 84, 3) := by decide +kernel
theorem dX4_readsLine_15 : decode cX4_readsLine 15 = .ok (.aload_n 0, 1) := by decide +kernel
theorem dX4_readsLine_16 : decode cX4_readsLine 16 = .ok (.iconst 2, 1) := by decide +kernel
theorem dX4_readsLine_17 : decode cX4_readsLine 17 = .ok (.invokevirtual 166, 3) := by decide +kernel
theorem dX4_readsLine_20 : decode cX4_readsLine 20 = .ok (.ifCond .eq 10, 3) := by decide +kernel
theorem dX4_readsLine_23 : decode cX4_readsLine 23 = .ok (.aload_n 0, 1) := by decide +kernel
theorem dX4_readsLine_24 : decode cX4_readsLine 24 = .ok (.invokevirtual 172, 3) := by decide +kernel
theorem dX4_readsLine_27 : decode cX4_readsLine 27 = .ok (.goto 69, 3) := by decide +kernel
theorem dX4_readsLine_30 : decode cX4_readsLine 30 = .ok (.aload_n 0, 1) := by decide +kernel
theorem dX4_readsLine_31 : decode cX4_readsLine 31 = .ok (.iconst 3, 1) := by decide +kernel
theorem dX4_readsLine_32 : decode cX4_readsLine 32 = .ok (.invokevirtual 166, 3) := by decide +kernel
theorem dX4_readsLine_35 : decode cX4_readsLine 35 = .ok (.ifCond .eq 10, 3) := by decide +kernel
theorem dX4_readsLine_38 : decode cX4_readsLine 38 = .ok (.aload_n 0, 1) := by decide +kernel
theorem dX4_readsLine_39 : decode cX4_readsLine 39 = .ok (.invokevirtual 175, 3) := by decide +kernel
theorem dX4_readsLine_42 : decode cX4_readsLine 42 = .ok (.goto 54, 3) := by decide +kernel
theorem dX4_readsLine_45 : decode cX4_readsLine 45 = .ok (.aload_n 0, 1) := by decide +kernel
theorem dX4_readsLine_46 : decode cX4_readsLine 46 = .ok (.iconst 4, 1) := by decide +kernel
theorem dX4_readsLine_47 : decode cX4_readsLine 47 = .ok (.invokevirtual 166, 3) := by decide +kernel
theorem dX4_readsLine_50 : decode cX4_readsLine 50 = .ok (.ifCond .eq 10, 3) := by decide +kernel
theorem dX4_readsLine_53 : decode cX4_readsLine 53 = .ok (.aload_n 0, 1) := by decide +kernel
theorem dX4_readsLine_54 : decode cX4_readsLine 54 = .ok (.invokevirtual 178, 3) := by decide +kernel
theorem dX4_readsLine_57 : decode cX4_readsLine 57 = .ok (.goto 39, 3) := by decide +kernel
theorem dX4_readsLine_60 : decode cX4_readsLine 60 = .ok (.aload_n 0, 1) := by decide +kernel
theorem dX4_readsLine_61 : decode cX4_readsLine 61 = .ok (.iconst 5, 1) := by decide +kernel
theorem dX4_readsLine_62 : decode cX4_readsLine 62 = .ok (.invokevirtual 166, 3) := by decide +kernel
theorem dX4_readsLine_65 : decode cX4_readsLine 65 = .ok (.ifCond .eq 10, 3) := by decide +kernel
theorem dX4_readsLine_68 : decode cX4_readsLine 68 = .ok (.aload_n 0, 1) := by decide +kernel
theorem dX4_readsLine_69 : decode cX4_readsLine 69 = .ok (.invokevirtual 181, 3) := by decide +kernel
theorem dX4_readsLine_72 : decode cX4_readsLine 72 = .ok (.goto 24, 3) := by decide +kernel
theorem dX4_readsLine_75 : decode cX4_readsLine 75 = .ok (.aload_n 0, 1) := by decide +kernel
theorem dX4_readsLine_76 : decode cX4_readsLine 76 = .ok (.bipush 6, 2) := by decide +kernel
theorem dX4_readsLine_78 : decode cX4_readsLine 78 = .ok (.invokevirtual 166, 3) := by decide +kernel
theorem dX4_readsLine_81 : decode cX4_readsLine 81 = .ok (.ifCond .eq 10, 3) := by decide +kernel
theorem dX4_readsLine_84 : decode cX4_readsLine 84 = .ok (.aload_n 0, 1) := by decide +kernel
theorem dX4_readsLine_85 : decode cX4_readsLine 85 = .ok (.invokevirtual 184, 3) := by decide +kernel
theorem dX4_readsLine_88 : decode cX4_readsLine 88 = .ok (.goto 8, 3) := by decide +kernel
theorem dX4_readsLine_91 : decode cX4_readsLine 91 = .ok (.aload_n 0, 1) := by decide +kernel
theorem dX4_readsLine_92 : decode cX4_readsLine 92 = .ok (.iconst 1, 1) := by decide +kernel
theorem dX4_readsLine_93 : decode cX4_readsLine 93 = .ok (.invokevirtual 139, 3) := by decide +kernel
theorem dX4_readsLine_96 : decode cX4_readsLine 96 = .ok (.return_, 1) := by decide +kernel
theorem dX4_readsText_0 : decode cX4_readsText 0 = .ok (.iconst 0, 1) := by decide +kernel
theorem dX4_readsText_1 : decode cX4_readsText 1 = .ok (.istore_n 2, 1) := by decide +kernel
theorem dX4_readsText_2 : decode cX4_readsText 2 = .ok (.iload_n 2, 1) := by decide +kernel
theorem dX4_readsText_3 : decode cX4_readsText 3 = .ok (.sipush 151, 3) := by decide +kernel
theorem dX4_readsText_6 : decode cX4_readsText 6 = .ok (.if_icmp .ge 16, 3) := by decide +kernel
theorem dX4_readsText_9 : decode cX4_readsText 9 = .ok (.aload_n 0, 1) := by decide +kernel
theorem dX4_readsText_10 : decode cX4_readsText 10 = .ok (.getfield 13, 3) := by decide +kernel
theorem dX4_readsText_13 : decode cX4_readsText 13 = .ok (.iload_n 2, 1) := by decide +kernel
theorem dX4_readsText_14 : decode cX4_readsText 14 = .ok (.iconst 0, 1) := by decide +kernel
theorem dX4_readsText_15 : decode cX4_readsText 15 = .ok (.iastore, 1) := by decide +kernel
theorem dX4_readsText_16 : decode cX4_readsText 16 = .ok (.iinc 2 1, 3) := by decide +kernel
theorem dX4_readsText_19 : decode cX4_readsText 19 = .ok (.goto (-17), 3) := by decide +kernel
theorem dX4_readsText_22 : decode cX4_readsText 22 = .ok (.aload_n 0, 1) := by decide +kernel
theorem dX4_readsText_23 : decode cX4_readsText 23 = .ok (.iload_n 1, 1) := by decide +kernel
theorem dX4_readsText_24 : decode cX4_readsText 24 = .ok (.putfield 118, 3) := by decide +kernel
theorem dX4_readsText_27 : decode cX4_readsText 27 = .ok (.aload_n 0, 1) := by decide +kernel
theorem dX4_readsText_28 : decode cX4_readsText 28 = .ok (.iconst 0, 1) := by decide +kernel
theorem dX4_readsText_29 : decode cX4_readsText 29 = .ok (.putfield 130, 3) := by decide +kernel
theorem dX4_readsText_32 : decode cX4_readsText 32 = .ok (.aload_n 0, 1) := by decide +kernel
theorem dX4_readsText_33 : decode cX4_readsText 33 = .ok (.iconst 0, 1) := by decide +kernel
theorem dX4_readsText_34 : decode cX4_readsText 34 = .ok (.putfield 109, 3) := by decide +kernel
theorem dX4_readsText_37 : decode cX4_readsText 37 = .ok (.aload_n 0, 1) := by decide +kernel
theorem dX4_readsText_38 : decode cX4_readsText 38 = .ok (.iconst 0, 1) := by decide +kernel
theorem dX4_readsText_39 : decode cX4_readsText 39 = .ok (.putfield 112, 3) := by decide +kernel
theorem dX4_readsText_42 : decode cX4_readsText 42 = .ok (.aload_n 0, 1) := by decide +kernel
theorem dX4_readsText_43 : decode cX4_readsText 43 = .ok (.invokevirtual 136, 3) := by decide +kernel
theorem dX4_readsText_46 : decode cX4_readsText 46 = .ok (.aload_n 0, 1) := by decide +kernel
theorem dX4_readsText_47 : decode cX4_readsText 47 = .ok (.iconst 0, 1) := by decide +kernel
theorem dX4_readsText_48 : decode cX4_readsText 48 = .ok (.invokevirtual 166, 3) := by decide +kernel
theorem dX4_readsText_51 : decode cX4_readsText 51 = .ok (.ifCond .eq 10, 3) := by decide +kernel
theorem dX4_readsText_54 : decode cX4_readsText 54 = .ok (.aload_n 0, 1) := by decide +kernel
theorem dX4_readsText_55 : decode cX4_readsText 55 = .ok (.invokevirtual 136, 3) := by decide +kernel
theorem dX4_readsText_58 : decode cX4_readsText 58 = .ok (.goto 8, 3) := by decide +kernel
theorem dX4_readsText_61 : decode cX4_readsText 61 = .ok (.aload_n 0, 1) := by decide +kernel
theorem dX4_readsText_62 : decode cX4_readsText 62 = .ok (.iconst 1, 1) := by decide +kernel
theorem dX4_readsText_63 : decode cX4_readsText 63 = .ok (.invokevirtual 139, 3) := by decide +kernel
theorem dX4_readsText_66 : decode cX4_readsText 66 = .ok (.aload_n 0, 1) := by decide +kernel
theorem dX4_readsText_67 : decode cX4_readsText 67 = .ok (.getfield 13, 3) := by decide +kernel
theorem dX4_readsText_70 : decode cX4_readsText 70 = .ok (.iconst 2, 1) := by decide +kernel
theorem dX4_readsText_71 : decode cX4_readsText 71 = .ok (.aload_n 0, 1) := by decide +kernel
theorem dX4_readsText_72 : decode cX4_readsText 72 = .ok (.iconst 0, 1) := by decide +kernel
theorem dX4_readsText_73 : decode cX4_readsText 73 = .ok (.sipush 9972, 3) := by decide +kernel
theorem dX4_readsText_76 : decode cX4_readsText 76 = .ok (.invokevirtual 154, 3) := by decide +kernel
theorem dX4_readsText_79 : decode cX4_readsText 79 = .ok (.iastore, 1) := by decide +kernel
theorem dX4_readsText_80 : decode cX4_readsText 80 = .ok (.aload_n 0, 1) := by decide +kernel
theorem dX4_readsText_81 : decode cX4_readsText 81 = .ok (.getfield 13, 3) := by decide +kernel
theorem dX4_readsText_84 : decode cX4_readsText 84 = .ok (.iconst 3, 1) := by decide +kernel
theorem dX4_readsText_85 : decode cX4_readsText 85 = .ok (.aload_n 0, 1) := by decide +kernel
theorem dX4_readsText_86 : decode cX4_readsText 86 = .ok (.iconst 0, 1) := by decide +kernel
theorem dX4_readsText_87 : decode cX4_readsText 87 = .ok (.sipush 9999, 3) := by decide +kernel
theorem dX4_readsText_90 : decode cX4_readsText 90 = .ok (.invokevirtual 154, 3) := by decide +kernel
theorem dX4_readsText_93 : decode cX4_readsText 93 = .ok (.iastore, 1) := by decide +kernel
theorem dX4_readsText_94 : decode cX4_readsText 94 = .ok (.aload_n 0, 1) := by decide +kernel
theorem dX4_readsText_95 : decode cX4_readsText 95 = .ok (.getfield 13, 3) := by decide +kernel
theorem dX4_readsText_98 : decode cX4_readsText 98 = .ok (.bipush 6, 2) := by decide +kernel
theorem dX4_readsText_100 : decode cX4_readsText 100 = .ok (.aload_n 0, 1) := by decide +kernel
theorem dX4_readsText_101 : decode cX4_readsText 101 = .ok (.getfield 13, 3) := by decide +kernel
theorem dX4_readsText_104 : decode cX4_readsText 104 = .ok (.iconst 3, 1) := by decide +kernel
theorem dX4_readsText_105 : decode cX4_readsText 105 = .ok (.iaload, 1) := by decide +kernel
theorem dX4_readsText_106 : decode cX4_readsText 106 = .ok (.iastore, 1) := by decide +kernel
theorem dX4_readsText_107 : decode cX4_readsText 107 = .ok (.aload_n 0, 1) := by decide +kernel
theorem dX4_readsText_108 : decode cX4_readsText 108 = .ok (.getfield 130, 3) := by decide +kernel
theorem dX4_readsText_111 : decode cX4_readsText 111 = .ok (.ifCond .ne 37, 3) := by decide +kernel
theorem dX4_readsText_114 : decode cX4_readsText 114 = .ok (.aload_n 0, 1) := by decide +kernel
theorem dX4_readsText_115 : decode cX4_readsText 115 = .ok (.getfield 109, 3) := by decide +kernel
theorem dX4_readsText_118 : decode cX4_readsText 118 = .ok (.ifCond .eq 30, 3) := by decide +kernel
theorem dX4_readsText_121 : decode cX4_readsText 121 = .ok (.aload_n 0, 1) := by decide +kernel
theorem dX4_readsText_122 : decode cX4_readsText 122 = .ok (.getfield 109, 3) := by decide +kernel
theorem dX4_readsText_125 : decode cX4_readsText 125 = .ok (.iconst 3, 1) := by decide +kernel
theorem dX4_readsText_126 : decode cX4_readsText 126 = .ok (.if_icmp .ne 14, 3) := by decide +kernel
theorem dX4_readsText_129 : decode cX4_readsText 129 = .ok (.aload_n 0, 1) := by decide +kernel
theorem dX4_readsText_130 : decode cX4_readsText 130 = .ok (.invokevirtual 136, 3) := by decide +kernel
theorem dX4_readsText_133 : decode cX4_readsText 133 = .ok (.aload_n 0, 1) := by decide +kernel
theorem dX4_readsText_134 : decode cX4_readsText 134 = .ok (.invokevirtual 187, 3) := by decide +kernel
theorem dX4_readsText_137 : decode cX4_readsText 137 = .ok (.goto (-30), 3) := by decide +kernel
theorem dX4_readsText_140 : decode cX4_readsText 140 = .ok (.aload_n 0, 1) := by decide +kernel
theorem dX4_readsText_141 : decode cX4_readsText 141 = .ok (.iconst 1, 1) := by decide +kernel
theorem dX4_readsText_142 : decode cX4_readsText 142 = .ok (.invokevirtual 139, 3) := by decide +kernel
theorem dX4_readsText_145 : decode cX4_readsText 145 = .ok (.goto (-38), 3) := by decide +kernel
theorem dX4_readsText_148 : decode cX4_readsText 148 = .ok (.return_, 1) := by decide +kernel
theorem dX4_feeds_0 : decode cX4_feeds 0 = .ok (.aload_n 0, 1) := by decide +kernel
theorem dX4_feeds_1 : decode cX4_feeds 1 = .ok (.getfield 28, 3) := by decide +kernel
theorem dX4_feeds_4 : decode cX4_feeds 4 = .ok (.aload_n 0, 1) := by decide +kernel
theorem dX4_feeds_5 : decode cX4_feeds 5 = .ok (.getfield 190, 3) := by decide +kernel
theorem dX4_feeds_8 : decode cX4_feeds 8 = .ok (.iload_n 1, 1) := by decide +kernel
theorem dX4_feeds_9 : decode cX4_feeds 9 = .ok (.bipush 24, 2) := by decide +kernel
theorem dX4_feeds_11 : decode cX4_feeds 11 = .ok (.ishr, 1) := by decide +kernel
theorem dX4_feeds_12 : decode cX4_feeds 12 = .ok (.i2b, 1) := by decide +kernel
theorem dX4_feeds_13 : decode cX4_feeds 13 = .ok (.bastore, 1) := by decide +kernel
theorem dX4_feeds_14 : decode cX4_feeds 14 = .ok (.aload_n 0, 1) := by decide +kernel
theorem dX4_feeds_15 : decode cX4_feeds 15 = .ok (.getfield 28, 3) := by decide +kernel
theorem dX4_feeds_18 : decode cX4_feeds 18 = .ok (.aload_n 0, 1) := by decide +kernel
theorem dX4_feeds_19 : decode cX4_feeds 19 = .ok (.getfield 190, 3) := by decide +kernel
theorem dX4_feeds_22 : decode cX4_feeds 22 = .ok (.iconst 1, 1) := by decide +kernel
theorem dX4_feeds_23 : decode cX4_feeds 23 = .ok (.iadd, 1) := by decide +kernel
theorem dX4_feeds_24 : decode cX4_feeds 24 = .ok (.iload_n 1, 1) := by decide +kernel
theorem dX4_feeds_25 : decode cX4_feeds 25 = .ok (.bipush 16, 2) := by decide +kernel
theorem dX4_feeds_27 : decode cX4_feeds 27 = .ok (.ishr, 1) := by decide +kernel
theorem dX4_feeds_28 : decode cX4_feeds 28 = .ok (.i2b, 1) := by decide +kernel
theorem dX4_feeds_29 : decode cX4_feeds 29 = .ok (.bastore, 1) := by decide +kernel
theorem dX4_feeds_30 : decode cX4_feeds 30 = .ok (.aload_n 0, 1) := by decide +kernel
theorem dX4_feeds_31 : decode cX4_feeds 31 = .ok (.getfield 28, 3) := by decide +kernel
theorem dX4_feeds_34 : decode cX4_feeds 34 = .ok (.aload_n 0, 1) := by decide +kernel
theorem dX4_feeds_35 : decode cX4_feeds 35 = .ok (.getfield 190, 3) := by decide +kernel
theorem dX4_feeds_38 : decode cX4_feeds 38 = .ok (.iconst 2, 1) := by decide +kernel
theorem dX4_feeds_39 : decode cX4_feeds 39 = .ok (.iadd, 1) := by decide +kernel
theorem dX4_feeds_40 : decode cX4_feeds 40 = .ok (.iload_n 1, 1) := by decide +kernel
theorem dX4_feeds_41 : decode cX4_feeds 41 = .ok (.bipush 8, 2) := by decide +kernel
theorem dX4_feeds_43 : decode cX4_feeds 43 = .ok (.ishr, 1) := by decide +kernel
theorem dX4_feeds_44 : decode cX4_feeds 44 = .ok (.i2b, 1) := by decide +kernel
theorem dX4_feeds_45 : decode cX4_feeds 45 = .ok (.bastore, 1) := by decide +kernel
theorem dX4_feeds_46 : decode cX4_feeds 46 = .ok (.aload_n 0, 1) := by decide +kernel
theorem dX4_feeds_47 : decode cX4_feeds 47 = .ok (.getfield 28, 3) := by decide +kernel
theorem dX4_feeds_50 : decode cX4_feeds 50 = .ok (.aload_n 0, 1) := by decide +kernel
theorem dX4_feeds_51 : decode cX4_feeds 51 = .ok (.getfield 190, 3) := by decide +kernel
theorem dX4_feeds_54 : decode cX4_feeds 54 = .ok (.iconst 3, 1) := by decide +kernel
theorem dX4_feeds_55 : decode cX4_feeds 55 = .ok (.iadd, 1) := by decide +kernel
theorem dX4_feeds_56 : decode cX4_feeds 56 = .ok (.iload_n 1, 1) := by decide +kernel
theorem dX4_feeds_57 : decode cX4_feeds 57 = .ok (.i2b, 1) := by decide +kernel
theorem dX4_feeds_58 : decode cX4_feeds 58 = .ok (.bastore, 1) := by decide +kernel
theorem dX4_feeds_59 : decode cX4_feeds 59 = .ok (.aload_n 0, 1) := by decide +kernel
theorem dX4_feeds_60 : decode cX4_feeds 60 = .ok (.dup, 1) := by decide +kernel
theorem dX4_feeds_61 : decode cX4_feeds 61 = .ok (.getfield 190, 3) := by decide +kernel
theorem dX4_feeds_64 : decode cX4_feeds 64 = .ok (.iconst 4, 1) := by decide +kernel
theorem dX4_feeds_65 : decode cX4_feeds 65 = .ok (.iadd, 1) := by decide +kernel
theorem dX4_feeds_66 : decode cX4_feeds 66 = .ok (.putfield 190, 3) := by decide +kernel
theorem dX4_feeds_69 : decode cX4_feeds 69 = .ok (.return_, 1) := by decide +kernel
theorem dX4_append_0 : decode cX4_append 0 = .ok (.aload_n 0, 1) := by decide +kernel
theorem dX4_append_1 : decode cX4_append 1 = .ok (.getfield 190, 3) := by decide +kernel
theorem dX4_append_4 : decode cX4_append 4 = .ok (.sipush 580, 3) := by decide +kernel
theorem dX4_append_7 : decode cX4_append 7 = .ok (.if_icmp .le 9, 3) := by decide +kernel
theorem dX4_append_10 : decode cX4_append 10 = .ok (.aload_n 0, 1) := by decide +kernel
theorem dX4_append_11 : decode cX4_append 11 = .ok (.iconst 1, 1) := by decide +kernel
theorem dX4_append_12 : decode cX4_append 12 = .ok (.invokevirtual 193, 3) := by decide +kernel
theorem dX4_append_15 : decode cX4_append 15 = .ok (.ireturn, 1) := by decide +kernel
theorem dX4_append_16 : decode cX4_append 16 = .ok (.aload_n 0, 1) := by decide +kernel
theorem dX4_append_17 : decode cX4_append 17 = .ok (.iload_n 1, 1) := by decide +kernel
theorem dX4_append_18 : decode cX4_append 18 = .ok (.invokevirtual 196, 3) := by decide +kernel
theorem dX4_append_21 : decode cX4_append 21 = .ok (.aload_n 0, 1) := by decide +kernel
theorem dX4_append_22 : decode cX4_append 22 = .ok (.iload_n 2, 1) := by decide +kernel
theorem dX4_append_23 : decode cX4_append 23 = .ok (.invokevirtual 196, 3) := by decide +kernel
theorem dX4_append_26 : decode cX4_append 26 = .ok (.aload_n 0, 1) := by decide +kernel
theorem dX4_append_27 : decode cX4_append 27 = .ok (.iload_n 3, 1) := by decide +kernel
theorem dX4_append_28 : decode cX4_append 28 = .ok (.invokevirtual 196, 3) := by decide +kernel
theorem dX4_append_31 : decode cX4_append 31 = .ok (.aload_n 0, 1) := by decide +kernel
theorem dX4_append_32 : decode cX4_append 32 = .ok (.iload 4, 2) := by decide +kernel
theorem dX4_append_34 : decode cX4_append 34 = .ok (.invokevirtual 196, 3) := by decide +kernel
theorem dX4_append_37 : decode cX4_append 37 = .ok (.aload_n 0, 1) := by decide +kernel
theorem dX4_append_38 : decode cX4_append 38 = .ok (.iload 5, 2) := by decide +kernel
theorem dX4_append_40 : decode cX4_append 40 = .ok (.invokevirtual 196, 3) := by decide +kernel
theorem dX4_append_43 : decode cX4_append 43 = .ok (.aload_n 0, 1) := by decide +kernel
theorem dX4_append_44 : decode cX4_append 44 = .ok (.aload_n 0, 1) := by decide +kernel
theorem dX4_append_45 : decode cX4_append 45 = .ok (.getfield 190, 3) := by decide +kernel
theorem dX4_append_48 : decode cX4_append 48 = .ok (.invokevirtual 199, 3) := by decide +kernel
theorem dX4_append_51 : decode cX4_append 51 = .ok (.ireturn, 1) := by decide +kernel
theorem dX4_load_0 : decode cX4_load 0 = .ok (.iload_n 1, 1) := by decide +kernel
theorem dX4_load_1 : decode cX4_load 1 = .ok (.iconst 0, 1) := by decide +kernel
theorem dX4_load_2 : decode cX4_load 2 = .ok (.aload_n 0, 1) := by decide +kernel
theorem dX4_load_3 : decode cX4_load 3 = .ok (.getfield 190, 3) := by decide +kernel
theorem dX4_load_6 : decode cX4_load 6 = .ok (.invokestatic 67, 3) := by decide +kernel
theorem dX4_load_9 : decode cX4_load 9 = .ok (.ifCond .ne 9, 3) := by decide +kernel
theorem dX4_load_12 : decode cX4_load 12 = .ok (.aload_n 0, 1) := by decide +kernel
theorem dX4_load_13 : decode cX4_load 13 = .ok (.iconst 1, 1) := by decide +kernel
theorem dX4_load_14 : decode cX4_load 14 = .ok (.invokevirtual 193, 3) := by decide +kernel
theorem dX4_load_17 : decode cX4_load 17 = .ok (.ireturn, 1) := by decide +kernel
theorem dX4_load_18 : decode cX4_load 18 = .ok (.aload_n 0, 1) := by decide +kernel
theorem dX4_load_19 : decode cX4_load 19 = .ok (.invokevirtual 202, 3) := by decide +kernel
theorem dX4_load_22 : decode cX4_load 22 = .ok (.aload_n 0, 1) := by decide +kernel
theorem dX4_load_23 : decode cX4_load 23 = .ok (.iload_n 1, 1) := by decide +kernel
theorem dX4_load_24 : decode cX4_load 24 = .ok (.invokevirtual 205, 3) := by decide +kernel
theorem dX4_load_27 : decode cX4_load 27 = .ok (.aload_n 0, 1) := by decide +kernel
theorem dX4_load_28 : decode cX4_load 28 = .ok (.iconst 0, 1) := by decide +kernel
theorem dX4_load_29 : decode cX4_load 29 = .ok (.putfield 190, 3) := by decide +kernel
theorem dX4_load_32 : decode cX4_load 32 = .ok (.aload_n 0, 1) := by decide +kernel
theorem dX4_load_33 : decode cX4_load 33 = .ok (.aload_n 0, 1) := by decide +kernel
theorem dX4_load_34 : decode cX4_load 34 = .ok (.getfield 130, 3) := by decide +kernel
theorem dX4_load_37 : decode cX4_load 37 = .ok (.putfield 208, 3) := by decide +kernel
theorem dX4_load_40 : decode cX4_load 40 = .ok (.aload_n 0, 1) := by decide +kernel
theorem dX4_load_41 : decode cX4_load 41 = .ok (.aload_n 0, 1) := by decide +kernel
theorem dX4_load_42 : decode cX4_load 42 = .ok (.getfield 130, 3) := by decide +kernel
theorem dX4_load_45 : decode cX4_load 45 = .ok (.ifCond .ne 7, 3) := by decide +kernel
theorem dX4_load_48 : decode cX4_load 48 = .ok (.iconst (-1), 1) := by decide +kernel
theorem dX4_load_49 : decode cX4_load 49 = .ok (.goto 7, 3) := by decide +kernel
theorem dX4_load_52 : decode cX4_load 52 = .ok (.aload_n 0, 1) := by decide +kernel
theorem dX4_load_53 : decode cX4_load 53 = .ok (.getfield 133, 3) := by decide +kernel
theorem dX4_load_56 : decode cX4_load 56 = .ok (.putfield 35, 3) := by decide +kernel
theorem dX4_load_59 : decode cX4_load 59 = .ok (.aload_n 0, 1) := by decide +kernel
theorem dX4_load_60 : decode cX4_load 60 = .ok (.getfield 130, 3) := by decide +kernel
theorem dX4_load_63 : decode cX4_load 63 = .ok (.ifCond .eq 13, 3) := by decide +kernel
theorem dX4_load_66 : decode cX4_load 66 = .ok (.aload_n 0, 1) := by decide +kernel
theorem dX4_load_67 : decode cX4_load 67 = .ok (.invokevirtual 211, 3) := by decide +kernel
theorem dX4_load_70 : decode cX4_load 70 = .ok (.aload_n 0, 1) := by decide +kernel
theorem dX4_load_71 : decode cX4_load 71 = .ok (.iconst 2, 1) := by decide +kernel
theorem dX4_load_72 : decode cX4_load 72 = .ok (.invokevirtual 193, 3) := by decide +kernel
theorem dX4_load_75 : decode cX4_load 75 = .ok (.ireturn, 1) := by decide +kernel
theorem dX4_load_76 : decode cX4_load 76 = .ok (.aload_n 0, 1) := by decide +kernel
theorem dX4_load_77 : decode cX4_load 77 = .ok (.iconst 0, 1) := by decide +kernel
theorem dX4_load_78 : decode cX4_load 78 = .ok (.putfield 106, 3) := by decide +kernel
theorem dX4_load_81 : decode cX4_load 81 = .ok (.aload_n 0, 1) := by decide +kernel
theorem dX4_load_82 : decode cX4_load 82 = .ok (.iconst 0, 1) := by decide +kernel
theorem dX4_load_83 : decode cX4_load 83 = .ok (.putfield 214, 3) := by decide +kernel
theorem dX4_load_86 : decode cX4_load 86 = .ok (.aload_n 0, 1) := by decide +kernel
theorem dX4_load_87 : decode cX4_load 87 = .ok (.aload_n 0, 1) := by decide +kernel
theorem dX4_load_88 : decode cX4_load 88 = .ok (.getfield 13, 3) := by decide +kernel
theorem dX4_load_91 : decode cX4_load 91 = .ok (.iconst 5, 1) := by decide +kernel
theorem dX4_load_92 : decode cX4_load 92 = .ok (.iaload, 1) := by decide +kernel
theorem dX4_load_93 : decode cX4_load 93 = .ok (.invokevirtual 199, 3) := by decide +kernel
theorem dX4_load_96 : decode cX4_load 96 = .ok (.ireturn, 1) := by decide +kernel
theorem dX4_errorKind_0 : decode cX4_errorKind 0 = .ok (.aload_n 0, 1) := by decide +kernel
theorem dX4_errorKind_1 : decode cX4_errorKind 1 = .ok (.aload_n 0, 1) := by decide +kernel
theorem dX4_errorKind_2 : decode cX4_errorKind 2 = .ok (.getfield 208, 3) := by decide +kernel
theorem dX4_errorKind_5 : decode cX4_errorKind 5 = .ok (.invokevirtual 199, 3) := by decide +kernel
theorem dX4_errorKind_8 : decode cX4_errorKind 8 = .ok (.ireturn, 1) := by decide +kernel
theorem dX4_errorOffset_0 : decode cX4_errorOffset 0 = .ok (.aload_n 0, 1) := by decide +kernel
theorem dX4_errorOffset_1 : decode cX4_errorOffset 1 = .ok (.aload_n 0, 1) := by decide +kernel
theorem dX4_errorOffset_2 : decode cX4_errorOffset 2 = .ok (.getfield 35, 3) := by decide +kernel
theorem dX4_errorOffset_5 : decode cX4_errorOffset 5 = .ok (.invokevirtual 199, 3) := by decide +kernel
theorem dX4_errorOffset_8 : decode cX4_errorOffset 8 = .ok (.ireturn, 1) := by decide +kernel
theorem dX4_year_0 : decode cX4_year 0 = .ok (.aload_n 0, 1) := by decide +kernel
theorem dX4_year_1 : decode cX4_year 1 = .ok (.aload_n 0, 1) := by decide +kernel
theorem dX4_year_2 : decode cX4_year 2 = .ok (.getfield 13, 3) := by decide +kernel
theorem dX4_year_5 : decode cX4_year 5 = .ok (.iconst 0, 1) := by decide +kernel
theorem dX4_year_6 : decode cX4_year 6 = .ok (.iaload, 1) := by decide +kernel
theorem dX4_year_7 : decode cX4_year 7 = .ok (.invokevirtual 199, 3) := by decide +kernel
theorem dX4_year_10 : decode cX4_year 10 = .ok (.ireturn, 1) := by decide +kernel
theorem dX4_month_0 : decode cX4_month 0 = .ok (.aload_n 0, 1) := by decide +kernel
theorem dX4_month_1 : decode cX4_month 1 = .ok (.aload_n 0, 1) := by decide +kernel
theorem dX4_month_2 : decode cX4_month 2 = .ok (.getfield 13, 3) := by decide +kernel
theorem dX4_month_5 : decode cX4_month 5 = .ok (.iconst 1, 1) := by decide +kernel
theorem dX4_month_6 : decode cX4_month 6 = .ok (.iaload, 1) := by decide +kernel
theorem dX4_month_7 : decode cX4_month 7 = .ok (.bipush 30, 2) := by decide +kernel
theorem dX4_month_9 : decode cX4_month 9 = .ok (.idiv, 1) := by decide +kernel
theorem dX4_month_10 : decode cX4_month 10 = .ok (.iconst 1, 1) := by decide +kernel
theorem dX4_month_11 : decode cX4_month 11 = .ok (.iadd, 1) := by decide +kernel
theorem dX4_month_12 : decode cX4_month 12 = .ok (.invokevirtual 199, 3) := by decide +kernel
theorem dX4_month_15 : decode cX4_month 15 = .ok (.ireturn, 1) := by decide +kernel
theorem dX4_dayOfMonth_0 : decode cX4_dayOfMonth 0 = .ok (.aload_n 0, 1) := by decide +kernel
theorem dX4_dayOfMonth_1 : decode cX4_dayOfMonth 1 = .ok (.aload_n 0, 1) := by decide +kernel
theorem dX4_dayOfMonth_2 : decode cX4_dayOfMonth 2 = .ok (.getfield 13, 3) := by decide +kernel
theorem dX4_dayOfMonth_5 : decode cX4_dayOfMonth 5 = .ok (.iconst 1, 1) := by decide +kernel
theorem dX4_dayOfMonth_6 : decode cX4_dayOfMonth 6 = .ok (.iaload, 1) := by decide +kernel
theorem dX4_dayOfMonth_7 : decode cX4_dayOfMonth 7 = .ok (.bipush 30, 2) := by decide +kernel
theorem dX4_dayOfMonth_9 : decode cX4_dayOfMonth 9 = .ok (.irem, 1) := by decide +kernel
theorem dX4_dayOfMonth_10 : decode cX4_dayOfMonth 10 = .ok (.iconst 1, 1) := by decide +kernel
theorem dX4_dayOfMonth_11 : decode cX4_dayOfMonth 11 = .ok (.iadd, 1) := by decide +kernel
theorem dX4_dayOfMonth_12 : decode cX4_dayOfMonth 12 = .ok (.invokevirtual 199, 3) := by decide +kernel
theorem dX4_dayOfMonth_15 : decode cX4_dayOfMonth 15 = .ok (.ireturn, 1) := by decide +kernel
theorem dX4_seed_0 : decode cX4_seed 0 = .ok (.aload_n 0, 1) := by decide +kernel
theorem dX4_seed_1 : decode cX4_seed 1 = .ok (.aload_n 0, 1) := by decide +kernel
theorem dX4_seed_2 : decode cX4_seed 2 = .ok (.getfield 13, 3) := by decide +kernel
theorem dX4_seed_5 : decode cX4_seed 5 = .ok (.iconst 2, 1) := by decide +kernel
theorem dX4_seed_6 : decode cX4_seed 6 = .ok (.iaload, 1) := by decide +kernel
theorem dX4_seed_7 : decode cX4_seed 7 = .ok (.invokevirtual 199, 3) := by decide +kernel
theorem dX4_seed_10 : decode cX4_seed 10 = .ok (.ireturn, 1) := by decide +kernel
theorem dX4_nextDraw_0 : decode cX4_nextDraw 0 = .ok (.aload_n 0, 1) := by decide +kernel
theorem dX4_nextDraw_1 : decode cX4_nextDraw 1 = .ok (.aload_n 0, 1) := by decide +kernel
theorem dX4_nextDraw_2 : decode cX4_nextDraw 2 = .ok (.getfield 13, 3) := by decide +kernel
theorem dX4_nextDraw_5 : decode cX4_nextDraw 5 = .ok (.iconst 2, 1) := by decide +kernel
theorem dX4_nextDraw_6 : decode cX4_nextDraw 6 = .ok (.iaload, 1) := by decide +kernel
theorem dX4_nextDraw_7 : decode cX4_nextDraw 7 = .ok (.invokestatic 80, 3) := by decide +kernel
theorem dX4_nextDraw_10 : decode cX4_nextDraw 10 = .ok (.sipush 360, 3) := by decide +kernel
theorem dX4_nextDraw_13 : decode cX4_nextDraw 13 = .ok (.irem, 1) := by decide +kernel
theorem dX4_nextDraw_14 : decode cX4_nextDraw 14 = .ok (.invokevirtual 199, 3) := by decide +kernel
theorem dX4_nextDraw_17 : decode cX4_nextDraw 17 = .ok (.ireturn, 1) := by decide +kernel
theorem dX4_candles_0 : decode cX4_candles 0 = .ok (.aload_n 0, 1) := by decide +kernel
theorem dX4_candles_1 : decode cX4_candles 1 = .ok (.aload_n 0, 1) := by decide +kernel
theorem dX4_candles_2 : decode cX4_candles 2 = .ok (.getfield 13, 3) := by decide +kernel
theorem dX4_candles_5 : decode cX4_candles 5 = .ok (.iconst 3, 1) := by decide +kernel
theorem dX4_candles_6 : decode cX4_candles 6 = .ok (.iaload, 1) := by decide +kernel
theorem dX4_candles_7 : decode cX4_candles 7 = .ok (.invokevirtual 199, 3) := by decide +kernel
theorem dX4_candles_10 : decode cX4_candles 10 = .ok (.ireturn, 1) := by decide +kernel
theorem dX4_cakes_0 : decode cX4_cakes 0 = .ok (.iload_n 1, 1) := by decide +kernel
theorem dX4_cakes_1 : decode cX4_cakes 1 = .ok (.iconst 0, 1) := by decide +kernel
theorem dX4_cakes_2 : decode cX4_cakes 2 = .ok (.iconst 5, 1) := by decide +kernel
theorem dX4_cakes_3 : decode cX4_cakes 3 = .ok (.invokestatic 67, 3) := by decide +kernel
theorem dX4_cakes_6 : decode cX4_cakes 6 = .ok (.ifCond .eq 19, 3) := by decide +kernel
theorem dX4_cakes_9 : decode cX4_cakes 9 = .ok (.aload_n 0, 1) := by decide +kernel
theorem dX4_cakes_10 : decode cX4_cakes 10 = .ok (.aload_n 0, 1) := by decide +kernel
theorem dX4_cakes_11 : decode cX4_cakes 11 = .ok (.getfield 13, 3) := by decide +kernel
theorem dX4_cakes_14 : decode cX4_cakes 14 = .ok (.bipush 11, 2) := by decide +kernel
theorem dX4_cakes_16 : decode cX4_cakes 16 = .ok (.iload_n 1, 1) := by decide +kernel
theorem dX4_cakes_17 : decode cX4_cakes 17 = .ok (.iadd, 1) := by decide +kernel
theorem dX4_cakes_18 : decode cX4_cakes 18 = .ok (.iaload, 1) := by decide +kernel
theorem dX4_cakes_19 : decode cX4_cakes 19 = .ok (.invokevirtual 199, 3) := by decide +kernel
theorem dX4_cakes_22 : decode cX4_cakes 22 = .ok (.goto 8, 3) := by decide +kernel
theorem dX4_cakes_25 : decode cX4_cakes 25 = .ok (.aload_n 0, 1) := by decide +kernel
theorem dX4_cakes_26 : decode cX4_cakes 26 = .ok (.iconst 1, 1) := by decide +kernel
theorem dX4_cakes_27 : decode cX4_cakes 27 = .ok (.invokevirtual 193, 3) := by decide +kernel
theorem dX4_cakes_30 : decode cX4_cakes 30 = .ok (.ireturn, 1) := by decide +kernel
theorem dX4_mostWantedCake_0 : decode cX4_mostWantedCake 0 = .ok (.iconst 0, 1) := by decide +kernel
theorem dX4_mostWantedCake_1 : decode cX4_mostWantedCake 1 = .ok (.istore_n 1, 1) := by decide +kernel
theorem dX4_mostWantedCake_2 : decode cX4_mostWantedCake 2 = .ok (.iconst 1, 1) := by decide +kernel
theorem dX4_mostWantedCake_3 : decode cX4_mostWantedCake 3 = .ok (.istore_n 2, 1) := by decide +kernel
theorem dX4_mostWantedCake_4 : decode cX4_mostWantedCake 4 = .ok (.iload_n 2, 1) := by decide +kernel
theorem dX4_mostWantedCake_5 : decode cX4_mostWantedCake 5 = .ok (.bipush 6, 2) := by decide +kernel
theorem dX4_mostWantedCake_7 : decode cX4_mostWantedCake 7 = .ok (.if_icmp .ge 28, 3) := by decide +kernel
theorem dX4_mostWantedCake_10 : decode cX4_mostWantedCake 10 = .ok (.aload_n 0, 1) := by decide +kernel
theorem dX4_mostWantedCake_11 : decode cX4_mostWantedCake 11 = .ok (.iload_n 2, 1) := by decide +kernel
theorem dX4_mostWantedCake_12 : decode cX4_mostWantedCake 12 = .ok (.invokevirtual 74, 3) := by decide +kernel
theorem dX4_mostWantedCake_15 : decode cX4_mostWantedCake 15 = .ok (.aload_n 0, 1) := by decide +kernel
theorem dX4_mostWantedCake_16 : decode cX4_mostWantedCake 16 = .ok (.iload_n 1, 1) := by decide +kernel
theorem dX4_mostWantedCake_17 : decode cX4_mostWantedCake 17 = .ok (.invokevirtual 74, 3) := by decide +kernel
theorem dX4_mostWantedCake_20 : decode cX4_mostWantedCake 20 = .ok (.if_icmp .le 7, 3) := by decide +kernel
theorem dX4_mostWantedCake_23 : decode cX4_mostWantedCake 23 = .ok (.iload_n 2, 1) := by decide +kernel
theorem dX4_mostWantedCake_24 : decode cX4_mostWantedCake 24 = .ok (.goto 4, 3) := by decide +kernel
theorem dX4_mostWantedCake_27 : decode cX4_mostWantedCake 27 = .ok (.iload_n 1, 1) := by decide +kernel
theorem dX4_mostWantedCake_28 : decode cX4_mostWantedCake 28 = .ok (.istore_n 1, 1) := by decide +kernel
theorem dX4_mostWantedCake_29 : decode cX4_mostWantedCake 29 = .ok (.iinc 2 1, 3) := by decide +kernel
theorem dX4_mostWantedCake_32 : decode cX4_mostWantedCake 32 = .ok (.goto (-28), 3) := by decide +kernel
theorem dX4_mostWantedCake_35 : decode cX4_mostWantedCake 35 = .ok (.aload_n 0, 1) := by decide +kernel
theorem dX4_mostWantedCake_36 : decode cX4_mostWantedCake 36 = .ok (.iload_n 1, 1) := by decide +kernel
theorem dX4_mostWantedCake_37 : decode cX4_mostWantedCake 37 = .ok (.invokevirtual 199, 3) := by decide +kernel
theorem dX4_mostWantedCake_40 : decode cX4_mostWantedCake 40 = .ok (.ireturn, 1) := by decide +kernel
theorem dX4_gardenCount_0 : decode cX4_gardenCount 0 = .ok (.aload_n 0, 1) := by decide +kernel
theorem dX4_gardenCount_1 : decode cX4_gardenCount 1 = .ok (.aload_n 0, 1) := by decide +kernel
theorem dX4_gardenCount_2 : decode cX4_gardenCount 2 = .ok (.getfield 13, 3) := by decide +kernel
theorem dX4_gardenCount_5 : decode cX4_gardenCount 5 = .ok (.iconst 4, 1) := by decide +kernel
theorem dX4_gardenCount_6 : decode cX4_gardenCount 6 = .ok (.iaload, 1) := by decide +kernel
theorem dX4_gardenCount_7 : decode cX4_gardenCount 7 = .ok (.invokevirtual 199, 3) := by decide +kernel
theorem dX4_gardenCount_10 : decode cX4_gardenCount 10 = .ok (.ireturn, 1) := by decide +kernel
theorem dX4_seatsOf_0 : decode cX4_seatsOf 0 = .ok (.aload_n 0, 1) := by decide +kernel
theorem dX4_seatsOf_1 : decode cX4_seatsOf 1 = .ok (.iload_n 1, 1) := by decide +kernel
theorem dX4_seatsOf_2 : decode cX4_seatsOf 2 = .ok (.invokevirtual 217, 3) := by decide +kernel
theorem dX4_seatsOf_5 : decode cX4_seatsOf 5 = .ok (.ifCond .eq 19, 3) := by decide +kernel
theorem dX4_seatsOf_8 : decode cX4_seatsOf 8 = .ok (.aload_n 0, 1) := by decide +kernel
theorem dX4_seatsOf_9 : decode cX4_seatsOf 9 = .ok (.aload_n 0, 1) := by decide +kernel
theorem dX4_seatsOf_10 : decode cX4_seatsOf 10 = .ok (.getfield 13, 3) := by decide +kernel
theorem dX4_seatsOf_13 : decode cX4_seatsOf 13 = .ok (.bipush 17, 2) := by decide +kernel
theorem dX4_seatsOf_15 : decode cX4_seatsOf 15 = .ok (.iload_n 1, 1) := by decide +kernel
theorem dX4_seatsOf_16 : decode cX4_seatsOf 16 = .ok (.iadd, 1) := by decide +kernel
theorem dX4_seatsOf_17 : decode cX4_seatsOf 17 = .ok (.iaload, 1) := by decide +kernel
theorem dX4_seatsOf_18 : decode cX4_seatsOf 18 = .ok (.invokevirtual 199, 3) := by decide +kernel
theorem dX4_seatsOf_21 : decode cX4_seatsOf 21 = .ok (.goto 8, 3) := by decide +kernel
theorem dX4_seatsOf_24 : decode cX4_seatsOf 24 = .ok (.aload_n 0, 1) := by decide +kernel
theorem dX4_seatsOf_25 : decode cX4_seatsOf 25 = .ok (.iconst 1, 1) := by decide +kernel
theorem dX4_seatsOf_26 : decode cX4_seatsOf 26 = .ok (.invokevirtual 193, 3) := by decide +kernel
theorem dX4_seatsOf_29 : decode cX4_seatsOf 29 = .ok (.ireturn, 1) := by decide +kernel
theorem dX4_childrenOf_0 : decode cX4_childrenOf 0 = .ok (.aload_n 0, 1) := by decide +kernel
theorem dX4_childrenOf_1 : decode cX4_childrenOf 1 = .ok (.iload_n 1, 1) := by decide +kernel
theorem dX4_childrenOf_2 : decode cX4_childrenOf 2 = .ok (.invokevirtual 217, 3) := by decide +kernel
theorem dX4_childrenOf_5 : decode cX4_childrenOf 5 = .ok (.ifCond .ne 9, 3) := by decide +kernel
theorem dX4_childrenOf_8 : decode cX4_childrenOf 8 = .ok (.aload_n 0, 1) := by decide +kernel
theorem dX4_childrenOf_9 : decode cX4_childrenOf 9 = .ok (.iconst 1, 1) := by decide +kernel
theorem dX4_childrenOf_10 : decode cX4_childrenOf 10 = .ok (.invokevirtual 193, 3) := by decide +kernel
theorem dX4_childrenOf_13 : decode cX4_childrenOf 13 = .ok (.ireturn, 1) := by decide +kernel
theorem dX4_childrenOf_14 : decode cX4_childrenOf 14 = .ok (.iconst 0, 1) := by decide +kernel
theorem dX4_childrenOf_15 : decode cX4_childrenOf 15 = .ok (.istore_n 2, 1) := by decide +kernel
theorem dX4_childrenOf_16 : decode cX4_childrenOf 16 = .ok (.iconst 0, 1) := by decide +kernel
theorem dX4_childrenOf_17 : decode cX4_childrenOf 17 = .ok (.istore_n 3, 1) := by decide +kernel
theorem dX4_childrenOf_18 : decode cX4_childrenOf 18 = .ok (.iload_n 3, 1) := by decide +kernel
theorem dX4_childrenOf_19 : decode cX4_childrenOf 19 = .ok (.aload_n 0, 1) := by decide +kernel
theorem dX4_childrenOf_20 : decode cX4_childrenOf 20 = .ok (.getfield 13, 3) := by decide +kernel
theorem dX4_childrenOf_23 : decode cX4_childrenOf 23 = .ok (.iconst 5, 1) := by decide +kernel
theorem dX4_childrenOf_24 : decode cX4_childrenOf 24 = .ok (.iaload, 1) := by decide +kernel
theorem dX4_childrenOf_25 : decode cX4_childrenOf 25 = .ok (.if_icmp .ge 32, 3) := by decide +kernel
theorem dX4_childrenOf_28 : decode cX4_childrenOf 28 = .ok (.iload_n 2, 1) := by decide +kernel
theorem dX4_childrenOf_29 : decode cX4_childrenOf 29 = .ok (.aload_n 0, 1) := by decide +kernel
theorem dX4_childrenOf_30 : decode cX4_childrenOf 30 = .ok (.getfield 13, 3) := by decide +kernel
theorem dX4_childrenOf_33 : decode cX4_childrenOf 33 = .ok (.iload_n 3, 1) := by decide +kernel
theorem dX4_childrenOf_34 : decode cX4_childrenOf 34 = .ok (.invokestatic 50, 3) := by decide +kernel
theorem dX4_childrenOf_37 : decode cX4_childrenOf 37 = .ok (.iconst 3, 1) := by decide +kernel
theorem dX4_childrenOf_38 : decode cX4_childrenOf 38 = .ok (.iadd, 1) := by decide +kernel
theorem dX4_childrenOf_39 : decode cX4_childrenOf 39 = .ok (.iaload, 1) := by decide +kernel
theorem dX4_childrenOf_40 : decode cX4_childrenOf 40 = .ok (.iload_n 1, 1) := by decide +kernel
theorem dX4_childrenOf_41 : decode cX4_childrenOf 41 = .ok (.if_icmp .ne 7, 3) := by decide +kernel
theorem dX4_childrenOf_44 : decode cX4_childrenOf 44 = .ok (.iconst 1, 1) := by decide +kernel
theorem dX4_childrenOf_45 : decode cX4_childrenOf 45 = .ok (.goto 4, 3) := by decide +kernel
theorem dX4_childrenOf_48 : decode cX4_childrenOf 48 = .ok (.iconst 0, 1) := by decide +kernel
theorem dX4_childrenOf_49 : decode cX4_childrenOf 49 = .ok (.iadd, 1) := by decide +kernel
theorem dX4_childrenOf_50 : decode cX4_childrenOf 50 = .ok (.istore_n 2, 1) := by decide +kernel
theorem dX4_childrenOf_51 : decode cX4_childrenOf 51 = .ok (.iinc 3 1, 3) := by decide +kernel
theorem dX4_childrenOf_54 : decode cX4_childrenOf 54 = .ok (.goto (-36), 3) := by decide +kernel
theorem dX4_childrenOf_57 : decode cX4_childrenOf 57 = .ok (.aload_n 0, 1) := by decide +kernel
theorem dX4_childrenOf_58 : decode cX4_childrenOf 58 = .ok (.iload_n 2, 1) := by decide +kernel
theorem dX4_childrenOf_59 : decode cX4_childrenOf 59 = .ok (.invokevirtual 199, 3) := by decide +kernel
theorem dX4_childrenOf_62 : decode cX4_childrenOf 62 = .ok (.ireturn, 1) := by decide +kernel
theorem dX4_partyIn_0 : decode cX4_partyIn 0 = .ok (.aload_n 0, 1) := by decide +kernel
theorem dX4_partyIn_1 : decode cX4_partyIn 1 = .ok (.iload_n 1, 1) := by decide +kernel
theorem dX4_partyIn_2 : decode cX4_partyIn 2 = .ok (.invokevirtual 217, 3) := by decide +kernel
theorem dX4_partyIn_5 : decode cX4_partyIn 5 = .ok (.ifCond .ne 9, 3) := by decide +kernel
theorem dX4_partyIn_8 : decode cX4_partyIn 8 = .ok (.aload_n 0, 1) := by decide +kernel
theorem dX4_partyIn_9 : decode cX4_partyIn 9 = .ok (.iconst 1, 1) := by decide +kernel
theorem dX4_partyIn_10 : decode cX4_partyIn 10 = .ok (.invokevirtual 193, 3) := by decide +kernel
theorem dX4_partyIn_13 : decode cX4_partyIn 13 = .ok (.ireturn, 1) := by decide +kernel
theorem dX4_partyIn_14 : decode cX4_partyIn 14 = .ok (.iload_n 2, 1) := by decide +kernel
theorem dX4_partyIn_15 : decode cX4_partyIn 15 = .ok (.iload_n 3, 1) := by decide +kernel
theorem dX4_partyIn_16 : decode cX4_partyIn 16 = .ok (.invokestatic 220, 3) := by decide +kernel
theorem dX4_partyIn_19 : decode cX4_partyIn 19 = .ok (.ifCond .eq 20, 3) := by decide +kernel
theorem dX4_partyIn_22 : decode cX4_partyIn 22 = .ok (.aload_n 0, 1) := by decide +kernel
theorem dX4_partyIn_23 : decode cX4_partyIn 23 = .ok (.aload_n 0, 1) := by decide +kernel
theorem dX4_partyIn_24 : decode cX4_partyIn 24 = .ok (.iload_n 1, 1) := by decide +kernel
theorem dX4_partyIn_25 : decode cX4_partyIn 25 = .ok (.iload_n 2, 1) := by decide +kernel
theorem dX4_partyIn_26 : decode cX4_partyIn 26 = .ok (.iload_n 3, 1) := by decide +kernel
theorem dX4_partyIn_27 : decode cX4_partyIn 27 = .ok (.invokestatic 160, 3) := by decide +kernel
theorem dX4_partyIn_30 : decode cX4_partyIn 30 = .ok (.invokevirtual 224, 3) := by decide +kernel
theorem dX4_partyIn_33 : decode cX4_partyIn 33 = .ok (.invokevirtual 199, 3) := by decide +kernel
theorem dX4_partyIn_36 : decode cX4_partyIn 36 = .ok (.goto 8, 3) := by decide +kernel
theorem dX4_partyIn_39 : decode cX4_partyIn 39 = .ok (.aload_n 0, 1) := by decide +kernel
theorem dX4_partyIn_40 : decode cX4_partyIn 40 = .ok (.iconst 2, 1) := by decide +kernel
theorem dX4_partyIn_41 : decode cX4_partyIn 41 = .ok (.invokevirtual 193, 3) := by decide +kernel
theorem dX4_partyIn_44 : decode cX4_partyIn 44 = .ok (.ireturn, 1) := by decide +kernel
theorem dX4_childCount_0 : decode cX4_childCount 0 = .ok (.aload_n 0, 1) := by decide +kernel
theorem dX4_childCount_1 : decode cX4_childCount 1 = .ok (.aload_n 0, 1) := by decide +kernel
theorem dX4_childCount_2 : decode cX4_childCount 2 = .ok (.getfield 13, 3) := by decide +kernel
theorem dX4_childCount_5 : decode cX4_childCount 5 = .ok (.iconst 5, 1) := by decide +kernel
theorem dX4_childCount_6 : decode cX4_childCount 6 = .ok (.iaload, 1) := by decide +kernel
theorem dX4_childCount_7 : decode cX4_childCount 7 = .ok (.invokevirtual 199, 3) := by decide +kernel
theorem dX4_childCount_10 : decode cX4_childCount 10 = .ok (.ireturn, 1) := by decide +kernel
theorem dX4_ofChild_0 : decode cX4_ofChild 0 = .ok (.aload_n 0, 1) := by decide +kernel
theorem dX4_ofChild_1 : decode cX4_ofChild 1 = .ok (.iload_n 1, 1) := by decide +kernel
theorem dX4_ofChild_2 : decode cX4_ofChild 2 = .ok (.invokevirtual 227, 3) := by decide +kernel
theorem dX4_ofChild_5 : decode cX4_ofChild 5 = .ok (.ifCond .eq 21, 3) := by decide +kernel
theorem dX4_ofChild_8 : decode cX4_ofChild 8 = .ok (.aload_n 0, 1) := by decide +kernel
theorem dX4_ofChild_9 : decode cX4_ofChild 9 = .ok (.aload_n 0, 1) := by decide +kernel
theorem dX4_ofChild_10 : decode cX4_ofChild 10 = .ok (.getfield 13, 3) := by decide +kernel
theorem dX4_ofChild_13 : decode cX4_ofChild 13 = .ok (.iload_n 1, 1) := by decide +kernel
theorem dX4_ofChild_14 : decode cX4_ofChild 14 = .ok (.invokestatic 50, 3) := by decide +kernel
theorem dX4_ofChild_17 : decode cX4_ofChild 17 = .ok (.iload_n 2, 1) := by decide +kernel
theorem dX4_ofChild_18 : decode cX4_ofChild 18 = .ok (.iadd, 1) := by decide +kernel
theorem dX4_ofChild_19 : decode cX4_ofChild 19 = .ok (.iaload, 1) := by decide +kernel
theorem dX4_ofChild_20 : decode cX4_ofChild 20 = .ok (.invokevirtual 199, 3) := by decide +kernel
theorem dX4_ofChild_23 : decode cX4_ofChild 23 = .ok (.goto 8, 3) := by decide +kernel
theorem dX4_ofChild_26 : decode cX4_ofChild 26 = .ok (.aload_n 0, 1) := by decide +kernel
theorem dX4_ofChild_27 : decode cX4_ofChild 27 = .ok (.iconst 1, 1) := by decide +kernel
theorem dX4_ofChild_28 : decode cX4_ofChild 28 = .ok (.invokevirtual 193, 3) := by decide +kernel
theorem dX4_ofChild_31 : decode cX4_ofChild 31 = .ok (.ireturn, 1) := by decide +kernel
theorem dX4_cakeOf_0 : decode cX4_cakeOf 0 = .ok (.aload_n 0, 1) := by decide +kernel
theorem dX4_cakeOf_1 : decode cX4_cakeOf 1 = .ok (.iload_n 1, 1) := by decide +kernel
theorem dX4_cakeOf_2 : decode cX4_cakeOf 2 = .ok (.iconst 0, 1) := by decide +kernel
theorem dX4_cakeOf_3 : decode cX4_cakeOf 3 = .ok (.invokevirtual 230, 3) := by decide +kernel
theorem dX4_cakeOf_6 : decode cX4_cakeOf 6 = .ok (.ireturn, 1) := by decide +kernel
theorem dX4_breathOf_0 : decode cX4_breathOf 0 = .ok (.aload_n 0, 1) := by decide +kernel
theorem dX4_breathOf_1 : decode cX4_breathOf 1 = .ok (.iload_n 1, 1) := by decide +kernel
theorem dX4_breathOf_2 : decode cX4_breathOf 2 = .ok (.iconst 1, 1) := by decide +kernel
theorem dX4_breathOf_3 : decode cX4_breathOf 3 = .ok (.invokevirtual 230, 3) := by decide +kernel
theorem dX4_breathOf_6 : decode cX4_breathOf 6 = .ok (.ireturn, 1) := by decide +kernel
theorem dX4_ageOf_0 : decode cX4_ageOf 0 = .ok (.aload_n 0, 1) := by decide +kernel
theorem dX4_ageOf_1 : decode cX4_ageOf 1 = .ok (.iload_n 1, 1) := by decide +kernel
theorem dX4_ageOf_2 : decode cX4_ageOf 2 = .ok (.iconst 2, 1) := by decide +kernel
theorem dX4_ageOf_3 : decode cX4_ageOf 3 = .ok (.invokevirtual 230, 3) := by decide +kernel
theorem dX4_ageOf_6 : decode cX4_ageOf 6 = .ok (.ireturn, 1) := by decide +kernel
theorem dX4_gardenOf_0 : decode cX4_gardenOf 0 = .ok (.aload_n 0, 1) := by decide +kernel
theorem dX4_gardenOf_1 : decode cX4_gardenOf 1 = .ok (.iload_n 1, 1) := by decide +kernel
theorem dX4_gardenOf_2 : decode cX4_gardenOf 2 = .ok (.iconst 3, 1) := by decide +kernel
theorem dX4_gardenOf_3 : decode cX4_gardenOf 3 = .ok (.invokevirtual 230, 3) := by decide +kernel
theorem dX4_gardenOf_6 : decode cX4_gardenOf 6 = .ok (.ireturn, 1) := by decide +kernel
theorem dX4_birthdayOf_0 : decode cX4_birthdayOf 0 = .ok (.aload_n 0, 1) := by decide +kernel
theorem dX4_birthdayOf_1 : decode cX4_birthdayOf 1 = .ok (.iload_n 1, 1) := by decide +kernel
theorem dX4_birthdayOf_2 : decode cX4_birthdayOf 2 = .ok (.iconst 4, 1) := by decide +kernel
theorem dX4_birthdayOf_3 : decode cX4_birthdayOf 3 = .ok (.invokevirtual 230, 3) := by decide +kernel
theorem dX4_birthdayOf_6 : decode cX4_birthdayOf 6 = .ok (.ireturn, 1) := by decide +kernel
theorem dX4_hasBirthday_0 : decode cX4_hasBirthday 0 = .ok (.aload_n 0, 1) := by decide +kernel
theorem dX4_hasBirthday_1 : decode cX4_hasBirthday 1 = .ok (.getfield 13, 3) := by decide +kernel
theorem dX4_hasBirthday_4 : decode cX4_hasBirthday 4 = .ok (.iload_n 1, 1) := by decide +kernel
theorem dX4_hasBirthday_5 : decode cX4_hasBirthday 5 = .ok (.invokestatic 50, 3) := by decide +kernel
theorem dX4_hasBirthday_8 : decode cX4_hasBirthday 8 = .ok (.iconst 4, 1) := by decide +kernel
theorem dX4_hasBirthday_9 : decode cX4_hasBirthday 9 = .ok (.iadd, 1) := by decide +kernel
theorem dX4_hasBirthday_10 : decode cX4_hasBirthday 10 = .ok (.iaload, 1) := by decide +kernel
theorem dX4_hasBirthday_11 : decode cX4_hasBirthday 11 = .ok (.iconst (-1), 1) := by decide +kernel
theorem dX4_hasBirthday_12 : decode cX4_hasBirthday 12 = .ok (.if_icmp .eq 7, 3) := by decide +kernel
theorem dX4_hasBirthday_15 : decode cX4_hasBirthday 15 = .ok (.iconst 1, 1) := by decide +kernel
theorem dX4_hasBirthday_16 : decode cX4_hasBirthday 16 = .ok (.goto 4, 3) := by decide +kernel
theorem dX4_hasBirthday_19 : decode cX4_hasBirthday 19 = .ok (.iconst 0, 1) := by decide +kernel
theorem dX4_hasBirthday_20 : decode cX4_hasBirthday 20 = .ok (.ireturn, 1) := by decide +kernel
theorem dX4_daysUntilBirthday_0 : decode cX4_daysUntilBirthday 0 = .ok (.aload_n 0, 1) := by decide +kernel
theorem dX4_daysUntilBirthday_1 : decode cX4_daysUntilBirthday 1 = .ok (.iload_n 1, 1) := by decide +kernel
theorem dX4_daysUntilBirthday_2 : decode cX4_daysUntilBirthday 2 = .ok (.invokevirtual 227, 3) := by decide +kernel
theorem dX4_daysUntilBirthday_5 : decode cX4_daysUntilBirthday 5 = .ok (.ifCond .ne 9, 3) := by decide +kernel
theorem dX4_daysUntilBirthday_8 : decode cX4_daysUntilBirthday 8 = .ok (.aload_n 0, 1) := by decide +kernel
theorem dX4_daysUntilBirthday_9 : decode cX4_daysUntilBirthday 9 = .ok (.iconst 1, 1) := by decide +kernel
theorem dX4_daysUntilBirthday_10 : decode cX4_daysUntilBirthday 10 = .ok (.invokevirtual 193, 3) := by decide +kernel
theorem dX4_daysUntilBirthday_13 : decode cX4_daysUntilBirthday 13 = .ok (.ireturn, 1) := by decide +kernel
theorem dX4_daysUntilBirthday_14 : decode cX4_daysUntilBirthday 14 = .ok (.aload_n 0, 1) := by decide +kernel
theorem dX4_daysUntilBirthday_15 : decode cX4_daysUntilBirthday 15 = .ok (.aload_n 0, 1) := by decide +kernel
theorem dX4_daysUntilBirthday_16 : decode cX4_daysUntilBirthday 16 = .ok (.iload_n 1, 1) := by decide +kernel
theorem dX4_daysUntilBirthday_17 : decode cX4_daysUntilBirthday 17 = .ok (.invokevirtual 233, 3) := by decide +kernel
theorem dX4_daysUntilBirthday_20 : decode cX4_daysUntilBirthday 20 = .ok (.ifCond .eq 21, 3) := by decide +kernel
theorem dX4_daysUntilBirthday_23 : decode cX4_daysUntilBirthday 23 = .ok (.aload_n 0, 1) := by decide +kernel
theorem dX4_daysUntilBirthday_24 : decode cX4_daysUntilBirthday 24 = .ok (.aload_n 0, 1) := by decide +kernel
theorem dX4_daysUntilBirthday_25 : decode cX4_daysUntilBirthday 25 = .ok (.getfield 13, 3) := by decide +kernel
theorem dX4_daysUntilBirthday_28 : decode cX4_daysUntilBirthday 28 = .ok (.iload_n 1, 1) := by decide +kernel
theorem dX4_daysUntilBirthday_29 : decode cX4_daysUntilBirthday 29 = .ok (.invokestatic 50, 3) := by decide +kernel
theorem dX4_daysUntilBirthday_32 : decode cX4_daysUntilBirthday 32 = .ok (.iconst 4, 1) := by decide +kernel
theorem dX4_daysUntilBirthday_33 : decode cX4_daysUntilBirthday 33 = .ok (.iadd, 1) := by decide +kernel
theorem dX4_daysUntilBirthday_34 : decode cX4_daysUntilBirthday 34 = .ok (.iaload, 1) := by decide +kernel
theorem dX4_daysUntilBirthday_35 : decode cX4_daysUntilBirthday 35 = .ok (.invokevirtual 236, 3) := by decide +kernel
theorem dX4_daysUntilBirthday_38 : decode cX4_daysUntilBirthday 38 = .ok (.goto 4, 3) := by decide +kernel
theorem dX4_daysUntilBirthday_41 : decode cX4_daysUntilBirthday 41 = .ok (.iconst (-1), 1) := by decide +kernel
theorem dX4_daysUntilBirthday_42 : decode cX4_daysUntilBirthday 42 = .ok (.invokevirtual 199, 3) := by decide +kernel
theorem dX4_daysUntilBirthday_45 : decode cX4_daysUntilBirthday 45 = .ok (.ireturn, 1) := by decide +kernel
theorem dX4_partiesOf_0 : decode cX4_partiesOf 0 = .ok (.aload_n 0, 1) := by decide +kernel
theorem dX4_partiesOf_1 : decode cX4_partiesOf 1 = .ok (.iload_n 1, 1) := by decide +kernel
theorem dX4_partiesOf_2 : decode cX4_partiesOf 2 = .ok (.iconst 5, 1) := by decide +kernel
theorem dX4_partiesOf_3 : decode cX4_partiesOf 3 = .ok (.invokevirtual 230, 3) := by decide +kernel
theorem dX4_partiesOf_6 : decode cX4_partiesOf 6 = .ok (.ireturn, 1) := by decide +kernel
theorem dX4_wishesOf_0 : decode cX4_wishesOf 0 = .ok (.aload_n 0, 1) := by decide +kernel
theorem dX4_wishesOf_1 : decode cX4_wishesOf 1 = .ok (.iload_n 1, 1) := by decide +kernel
theorem dX4_wishesOf_2 : decode cX4_wishesOf 2 = .ok (.bipush 6, 2) := by decide +kernel
theorem dX4_wishesOf_4 : decode cX4_wishesOf 4 = .ok (.invokevirtual 230, 3) := by decide +kernel
theorem dX4_wishesOf_7 : decode cX4_wishesOf 7 = .ok (.ireturn, 1) := by decide +kernel
theorem dX4_strengthOf_0 : decode cX4_strengthOf 0 = .ok (.aload_n 0, 1) := by decide +kernel
theorem dX4_strengthOf_1 : decode cX4_strengthOf 1 = .ok (.iload_n 1, 1) := by decide +kernel
theorem dX4_strengthOf_2 : decode cX4_strengthOf 2 = .ok (.invokevirtual 227, 3) := by decide +kernel
theorem dX4_strengthOf_5 : decode cX4_strengthOf 5 = .ok (.ifCond .eq 26, 3) := by decide +kernel
theorem dX4_strengthOf_8 : decode cX4_strengthOf 8 = .ok (.aload_n 0, 1) := by decide +kernel
theorem dX4_strengthOf_9 : decode cX4_strengthOf 9 = .ok (.aload_n 0, 1) := by decide +kernel
theorem dX4_strengthOf_10 : decode cX4_strengthOf 10 = .ok (.iload_n 1, 1) := by decide +kernel
theorem dX4_strengthOf_11 : decode cX4_strengthOf 11 = .ok (.aload_n 0, 1) := by decide +kernel
theorem dX4_strengthOf_12 : decode cX4_strengthOf 12 = .ok (.getfield 13, 3) := by decide +kernel
theorem dX4_strengthOf_15 : decode cX4_strengthOf 15 = .ok (.iload_n 1, 1) := by decide +kernel
theorem dX4_strengthOf_16 : decode cX4_strengthOf 16 = .ok (.invokestatic 50, 3) := by decide +kernel
theorem dX4_strengthOf_19 : decode cX4_strengthOf 19 = .ok (.iconst 0, 1) := by decide +kernel
theorem dX4_strengthOf_20 : decode cX4_strengthOf 20 = .ok (.iadd, 1) := by decide +kernel
theorem dX4_strengthOf_21 : decode cX4_strengthOf 21 = .ok (.iaload, 1) := by decide +kernel
theorem dX4_strengthOf_22 : decode cX4_strengthOf 22 = .ok (.invokevirtual 93, 3) := by decide +kernel
theorem dX4_strengthOf_25 : decode cX4_strengthOf 25 = .ok (.invokevirtual 199, 3) := by decide +kernel
theorem dX4_strengthOf_28 : decode cX4_strengthOf 28 = .ok (.goto 8, 3) := by decide +kernel
theorem dX4_strengthOf_31 : decode cX4_strengthOf 31 = .ok (.aload_n 0, 1) := by decide +kernel
theorem dX4_strengthOf_32 : decode cX4_strengthOf 32 = .ok (.iconst 1, 1) := by decide +kernel
theorem dX4_strengthOf_33 : decode cX4_strengthOf 33 = .ok (.invokevirtual 193, 3) := by decide +kernel
theorem dX4_strengthOf_36 : decode cX4_strengthOf 36 = .ok (.ireturn, 1) := by decide +kernel
theorem dX4_nextChild_0 : decode cX4_nextChild 0 = .ok (.iconst (-1), 1) := by decide +kernel
theorem dX4_nextChild_1 : decode cX4_nextChild 1 = .ok (.istore_n 1, 1) := by decide +kernel
theorem dX4_nextChild_2 : decode cX4_nextChild 2 = .ok (.iconst 0, 1) := by decide +kernel
theorem dX4_nextChild_3 : decode cX4_nextChild 3 = .ok (.istore_n 2, 1) := by decide +kernel
theorem dX4_nextChild_4 : decode cX4_nextChild 4 = .ok (.iconst 0, 1) := by decide +kernel
theorem dX4_nextChild_5 : decode cX4_nextChild 5 = .ok (.istore_n 3, 1) := by decide +kernel
theorem dX4_nextChild_6 : decode cX4_nextChild 6 = .ok (.iload_n 3, 1) := by decide +kernel
theorem dX4_nextChild_7 : decode cX4_nextChild 7 = .ok (.aload_n 0, 1) := by decide +kernel
theorem dX4_nextChild_8 : decode cX4_nextChild 8 = .ok (.getfield 13, 3) := by decide +kernel
theorem dX4_nextChild_11 : decode cX4_nextChild 11 = .ok (.iconst 5, 1) := by decide +kernel
theorem dX4_nextChild_12 : decode cX4_nextChild 12 = .ok (.iaload, 1) := by decide +kernel
theorem dX4_nextChild_13 : decode cX4_nextChild 13 = .ok (.if_icmp .ge 50, 3) := by decide +kernel
theorem dX4_nextChild_16 : decode cX4_nextChild 16 = .ok (.aload_n 0, 1) := by decide +kernel
theorem dX4_nextChild_17 : decode cX4_nextChild 17 = .ok (.aload_n 0, 1) := by decide +kernel
theorem dX4_nextChild_18 : decode cX4_nextChild 18 = .ok (.getfield 13, 3) := by decide +kernel
theorem dX4_nextChild_21 : decode cX4_nextChild 21 = .ok (.iload_n 3, 1) := by decide +kernel
theorem dX4_nextChild_22 : decode cX4_nextChild 22 = .ok (.invokestatic 50, 3) := by decide +kernel
theorem dX4_nextChild_25 : decode cX4_nextChild 25 = .ok (.iconst 4, 1) := by decide +kernel
theorem dX4_nextChild_26 : decode cX4_nextChild 26 = .ok (.iadd, 1) := by decide +kernel
theorem dX4_nextChild_27 : decode cX4_nextChild 27 = .ok (.iaload, 1) := by decide +kernel
theorem dX4_nextChild_28 : decode cX4_nextChild 28 = .ok (.invokevirtual 236, 3) := by decide +kernel
theorem dX4_nextChild_31 : decode cX4_nextChild 31 = .ok (.istore 4, 2) := by decide +kernel
theorem dX4_nextChild_33 : decode cX4_nextChild 33 = .ok (.aload_n 0, 1) := by decide +kernel
theorem dX4_nextChild_34 : decode cX4_nextChild 34 = .ok (.iload_n 3, 1) := by decide +kernel
theorem dX4_nextChild_35 : decode cX4_nextChild 35 = .ok (.invokevirtual 233, 3) := by decide +kernel
theorem dX4_nextChild_38 : decode cX4_nextChild 38 = .ok (.ifCond .eq 19, 3) := by decide +kernel
theorem dX4_nextChild_41 : decode cX4_nextChild 41 = .ok (.iload_n 1, 1) := by decide +kernel
theorem dX4_nextChild_42 : decode cX4_nextChild 42 = .ok (.iconst (-1), 1) := by decide +kernel
theorem dX4_nextChild_43 : decode cX4_nextChild 43 = .ok (.if_icmp .eq 9, 3) := by decide +kernel
theorem dX4_nextChild_46 : decode cX4_nextChild 46 = .ok (.iload 4, 2) := by decide +kernel
theorem dX4_nextChild_48 : decode cX4_nextChild 48 = .ok (.iload_n 2, 1) := by decide +kernel
theorem dX4_nextChild_49 : decode cX4_nextChild 49 = .ok (.if_icmp .ge 8, 3) := by decide +kernel
theorem dX4_nextChild_52 : decode cX4_nextChild 52 = .ok (.iload_n 3, 1) := by decide +kernel
theorem dX4_nextChild_53 : decode cX4_nextChild 53 = .ok (.istore_n 1, 1) := by decide +kernel
theorem dX4_nextChild_54 : decode cX4_nextChild 54 = .ok (.iload 4, 2) := by decide +kernel
theorem dX4_nextChild_56 : decode cX4_nextChild 56 = .ok (.istore_n 2, 1) := by decide +kernel
theorem dX4_nextChild_57 : decode cX4_nextChild 57 = .ok (.iinc 3 1, 3) := by decide +kernel
theorem dX4_nextChild_60 : decode cX4_nextChild 60 = .ok (.goto (-54), 3) := by decide +kernel
theorem dX4_nextChild_63 : decode cX4_nextChild 63 = .ok (.aload_n 0, 1) := by decide +kernel
theorem dX4_nextChild_64 : decode cX4_nextChild 64 = .ok (.iload_n 1, 1) := by decide +kernel
theorem dX4_nextChild_65 : decode cX4_nextChild 65 = .ok (.invokevirtual 199, 3) := by decide +kernel
theorem dX4_nextChild_68 : decode cX4_nextChild 68 = .ok (.ireturn, 1) := by decide +kernel
theorem dX4_sharing_0 : decode cX4_sharing 0 = .ok (.iconst 0, 1) := by decide +kernel
theorem dX4_sharing_1 : decode cX4_sharing 1 = .ok (.istore_n 2, 1) := by decide +kernel
theorem dX4_sharing_2 : decode cX4_sharing 2 = .ok (.iconst 0, 1) := by decide +kernel
theorem dX4_sharing_3 : decode cX4_sharing 3 = .ok (.istore_n 3, 1) := by decide +kernel
theorem dX4_sharing_4 : decode cX4_sharing 4 = .ok (.iload_n 3, 1) := by decide +kernel
theorem dX4_sharing_5 : decode cX4_sharing 5 = .ok (.aload_n 0, 1) := by decide +kernel
theorem dX4_sharing_6 : decode cX4_sharing 6 = .ok (.getfield 13, 3) := by decide +kernel
theorem dX4_sharing_9 : decode cX4_sharing 9 = .ok (.iconst 5, 1) := by decide +kernel
theorem dX4_sharing_10 : decode cX4_sharing 10 = .ok (.iaload, 1) := by decide +kernel
theorem dX4_sharing_11 : decode cX4_sharing 11 = .ok (.if_icmp .ge 32, 3) := by decide +kernel
theorem dX4_sharing_14 : decode cX4_sharing 14 = .ok (.iload_n 2, 1) := by decide +kernel
theorem dX4_sharing_15 : decode cX4_sharing 15 = .ok (.aload_n 0, 1) := by decide +kernel
theorem dX4_sharing_16 : decode cX4_sharing 16 = .ok (.getfield 13, 3) := by decide +kernel
theorem dX4_sharing_19 : decode cX4_sharing 19 = .ok (.iload_n 3, 1) := by decide +kernel
theorem dX4_sharing_20 : decode cX4_sharing 20 = .ok (.invokestatic 50, 3) := by decide +kernel
theorem dX4_sharing_23 : decode cX4_sharing 23 = .ok (.iconst 4, 1) := by decide +kernel
theorem dX4_sharing_24 : decode cX4_sharing 24 = .ok (.iadd, 1) := by decide +kernel
theorem dX4_sharing_25 : decode cX4_sharing 25 = .ok (.iaload, 1) := by decide +kernel
theorem dX4_sharing_26 : decode cX4_sharing 26 = .ok (.iload_n 1, 1) := by decide +kernel
theorem dX4_sharing_27 : decode cX4_sharing 27 = .ok (.if_icmp .ne 7, 3) := by decide +kernel
theorem dX4_sharing_30 : decode cX4_sharing 30 = .ok (.iconst 1, 1) := by decide +kernel
theorem dX4_sharing_31 : decode cX4_sharing 31 = .ok (.goto 4, 3) := by decide +kernel
theorem dX4_sharing_34 : decode cX4_sharing 34 = .ok (.iconst 0, 1) := by decide +kernel
theorem dX4_sharing_35 : decode cX4_sharing 35 = .ok (.iadd, 1) := by decide +kernel
theorem dX4_sharing_36 : decode cX4_sharing 36 = .ok (.istore_n 2, 1) := by decide +kernel
theorem dX4_sharing_37 : decode cX4_sharing 37 = .ok (.iinc 3 1, 3) := by decide +kernel
theorem dX4_sharing_40 : decode cX4_sharing 40 = .ok (.goto (-36), 3) := by decide +kernel
theorem dX4_sharing_43 : decode cX4_sharing 43 = .ok (.iload_n 2, 1) := by decide +kernel
theorem dX4_sharing_44 : decode cX4_sharing 44 = .ok (.ireturn, 1) := by decide +kernel
theorem dX4_childrenOn_0 : decode cX4_childrenOn 0 = .ok (.iload_n 1, 1) := by decide +kernel
theorem dX4_childrenOn_1 : decode cX4_childrenOn 1 = .ok (.iload_n 2, 1) := by decide +kernel
theorem dX4_childrenOn_2 : decode cX4_childrenOn 2 = .ok (.invokestatic 220, 3) := by decide +kernel
theorem dX4_childrenOn_5 : decode cX4_childrenOn 5 = .ok (.ifCond .eq 19, 3) := by decide +kernel
theorem dX4_childrenOn_8 : decode cX4_childrenOn 8 = .ok (.aload_n 0, 1) := by decide +kernel
theorem dX4_childrenOn_9 : decode cX4_childrenOn 9 = .ok (.aload_n 0, 1) := by decide +kernel
theorem dX4_childrenOn_10 : decode cX4_childrenOn 10 = .ok (.iload_n 1, 1) := by decide +kernel
theorem dX4_childrenOn_11 : decode cX4_childrenOn 11 = .ok (.iload_n 2, 1) := by decide +kernel
theorem dX4_childrenOn_12 : decode cX4_childrenOn 12 = .ok (.invokestatic 160, 3) := by decide +kernel
theorem dX4_childrenOn_15 : decode cX4_childrenOn 15 = .ok (.invokevirtual 239, 3) := by decide +kernel
theorem dX4_childrenOn_18 : decode cX4_childrenOn 18 = .ok (.invokevirtual 199, 3) := by decide +kernel
theorem dX4_childrenOn_21 : decode cX4_childrenOn 21 = .ok (.goto 8, 3) := by decide +kernel
theorem dX4_childrenOn_24 : decode cX4_childrenOn 24 = .ok (.aload_n 0, 1) := by decide +kernel
theorem dX4_childrenOn_25 : decode cX4_childrenOn 25 = .ok (.iconst 1, 1) := by decide +kernel
theorem dX4_childrenOn_26 : decode cX4_childrenOn 26 = .ok (.invokevirtual 193, 3) := by decide +kernel
theorem dX4_childrenOn_29 : decode cX4_childrenOn 29 = .ok (.ireturn, 1) := by decide +kernel
theorem dX4_isFirst_0 : decode cX4_isFirst 0 = .ok (.iconst 0, 1) := by decide +kernel
theorem dX4_isFirst_1 : decode cX4_isFirst 1 = .ok (.istore_n 2, 1) := by decide +kernel
theorem dX4_isFirst_2 : decode cX4_isFirst 2 = .ok (.iload_n 2, 1) := by decide +kernel
theorem dX4_isFirst_3 : decode cX4_isFirst 3 = .ok (.iload_n 1, 1) := by decide +kernel
theorem dX4_isFirst_4 : decode cX4_isFirst 4 = .ok (.if_icmp .ge 36, 3) := by decide +kernel
theorem dX4_isFirst_7 : decode cX4_isFirst 7 = .ok (.aload_n 0, 1) := by decide +kernel
theorem dX4_isFirst_8 : decode cX4_isFirst 8 = .ok (.getfield 13, 3) := by decide +kernel
theorem dX4_isFirst_11 : decode cX4_isFirst 11 = .ok (.iload_n 2, 1) := by decide +kernel
theorem dX4_isFirst_12 : decode cX4_isFirst 12 = .ok (.invokestatic 50, 3) := by decide +kernel
theorem dX4_isFirst_15 : decode cX4_isFirst 15 = .ok (.iconst 4, 1) := by decide +kernel
theorem dX4_isFirst_16 : decode cX4_isFirst 16 = .ok (.iadd, 1) := by decide +kernel
theorem dX4_isFirst_17 : decode cX4_isFirst 17 = .ok (.iaload, 1) := by decide +kernel
theorem dX4_isFirst_18 : decode cX4_isFirst 18 = .ok (.aload_n 0, 1) := by decide +kernel
theorem dX4_isFirst_19 : decode cX4_isFirst 19 = .ok (.getfield 13, 3) := by decide +kernel
theorem dX4_isFirst_22 : decode cX4_isFirst 22 = .ok (.iload_n 1, 1) := by decide +kernel
theorem dX4_isFirst_23 : decode cX4_isFirst 23 = .ok (.invokestatic 50, 3) := by decide +kernel
theorem dX4_isFirst_26 : decode cX4_isFirst 26 = .ok (.iconst 4, 1) := by decide +kernel
theorem dX4_isFirst_27 : decode cX4_isFirst 27 = .ok (.iadd, 1) := by decide +kernel
theorem dX4_isFirst_28 : decode cX4_isFirst 28 = .ok (.iaload, 1) := by decide +kernel
theorem dX4_isFirst_29 : decode cX4_isFirst 29 = .ok (.if_icmp .ne 5, 3) := by decide +kernel
theorem dX4_isFirst_32 : decode cX4_isFirst 32 = .ok (.iconst 0, 1) := by decide +kernel
theorem dX4_isFirst_33 : decode cX4_isFirst 33 = .ok (.ireturn, 1) := by decide +kernel
theorem dX4_isFirst_34 : decode cX4_isFirst 34 = .ok (.iinc 2 1, 3) := by decide +kernel
theorem dX4_isFirst_37 : decode cX4_isFirst 37 = .ok (.goto (-35), 3) := by decide +kernel
theorem dX4_isFirst_40 : decode cX4_isFirst 40 = .ok (.aload_n 0, 1) := by decide +kernel
theorem dX4_isFirst_41 : decode cX4_isFirst 41 = .ok (.iload_n 1, 1) := by decide +kernel
theorem dX4_isFirst_42 : decode cX4_isFirst 42 = .ok (.invokevirtual 233, 3) := by decide +kernel
theorem dX4_isFirst_45 : decode cX4_isFirst 45 = .ok (.ireturn, 1) := by decide +kernel
theorem dX4_differentDates_0 : decode cX4_differentDates 0 = .ok (.iconst 0, 1) := by decide +kernel
theorem dX4_differentDates_1 : decode cX4_differentDates 1 = .ok (.istore_n 1, 1) := by decide +kernel
theorem dX4_differentDates_2 : decode cX4_differentDates 2 = .ok (.iconst 0, 1) := by decide +kernel
theorem dX4_differentDates_3 : decode cX4_differentDates 3 = .ok (.istore_n 2, 1) := by decide +kernel
theorem dX4_differentDates_4 : decode cX4_differentDates 4 = .ok (.iload_n 2, 1) := by decide +kernel
theorem dX4_differentDates_5 : decode cX4_differentDates 5 = .ok (.aload_n 0, 1) := by decide +kernel
theorem dX4_differentDates_6 : decode cX4_differentDates 6 = .ok (.getfield 13, 3) := by decide +kernel
theorem dX4_differentDates_9 : decode cX4_differentDates 9 = .ok (.iconst 5, 1) := by decide +kernel
theorem dX4_differentDates_10 : decode cX4_differentDates 10 = .ok (.iaload, 1) := by decide +kernel
theorem dX4_differentDates_11 : decode cX4_differentDates 11 = .ok (.if_icmp .ge 25, 3) := by decide +kernel
theorem dX4_differentDates_14 : decode cX4_differentDates 14 = .ok (.iload_n 1, 1) := by decide +kernel
theorem dX4_differentDates_15 : decode cX4_differentDates 15 = .ok (.aload_n 0, 1) := by decide +kernel
theorem dX4_differentDates_16 : decode cX4_differentDates 16 = .ok (.iload_n 2, 1) := by decide +kernel
theorem dX4_differentDates_17 : decode cX4_differentDates 17 = .ok (.invokevirtual 242, 3) := by decide +kernel
theorem dX4_differentDates_20 : decode cX4_differentDates 20 = .ok (.ifCond .eq 7, 3) := by decide +kernel
theorem dX4_differentDates_23 : decode cX4_differentDates 23 = .ok (.iconst 1, 1) := by decide +kernel
theorem dX4_differentDates_24 : decode cX4_differentDates 24 = .ok (.goto 4, 3) := by decide +kernel
theorem dX4_differentDates_27 : decode cX4_differentDates 27 = .ok (.iconst 0, 1) := by decide +kernel
theorem dX4_differentDates_28 : decode cX4_differentDates 28 = .ok (.iadd, 1) := by decide +kernel
theorem dX4_differentDates_29 : decode cX4_differentDates 29 = .ok (.istore_n 1, 1) := by decide +kernel
theorem dX4_differentDates_30 : decode cX4_differentDates 30 = .ok (.iinc 2 1, 3) := by decide +kernel
theorem dX4_differentDates_33 : decode cX4_differentDates 33 = .ok (.goto (-29), 3) := by decide +kernel
theorem dX4_differentDates_36 : decode cX4_differentDates 36 = .ok (.aload_n 0, 1) := by decide +kernel
theorem dX4_differentDates_37 : decode cX4_differentDates 37 = .ok (.iload_n 1, 1) := by decide +kernel
theorem dX4_differentDates_38 : decode cX4_differentDates 38 = .ok (.invokevirtual 199, 3) := by decide +kernel
theorem dX4_differentDates_41 : decode cX4_differentDates 41 = .ok (.ireturn, 1) := by decide +kernel
theorem dX4_dateAt_0 : decode cX4_dateAt 0 = .ok (.iconst 0, 1) := by decide +kernel
theorem dX4_dateAt_1 : decode cX4_dateAt 1 = .ok (.istore_n 2, 1) := by decide +kernel
theorem dX4_dateAt_2 : decode cX4_dateAt 2 = .ok (.iconst 0, 1) := by decide +kernel
theorem dX4_dateAt_3 : decode cX4_dateAt 3 = .ok (.istore_n 3, 1) := by decide +kernel
theorem dX4_dateAt_4 : decode cX4_dateAt 4 = .ok (.iload_n 3, 1) := by decide +kernel
theorem dX4_dateAt_5 : decode cX4_dateAt 5 = .ok (.aload_n 0, 1) := by decide +kernel
theorem dX4_dateAt_6 : decode cX4_dateAt 6 = .ok (.getfield 13, 3) := by decide +kernel
theorem dX4_dateAt_9 : decode cX4_dateAt 9 = .ok (.iconst 5, 1) := by decide +kernel
theorem dX4_dateAt_10 : decode cX4_dateAt 10 = .ok (.iaload, 1) := by decide +kernel
theorem dX4_dateAt_11 : decode cX4_dateAt 11 = .ok (.if_icmp .ge 41, 3) := by decide +kernel
theorem dX4_dateAt_14 : decode cX4_dateAt 14 = .ok (.aload_n 0, 1) := by decide +kernel
theorem dX4_dateAt_15 : decode cX4_dateAt 15 = .ok (.iload_n 3, 1) := by decide +kernel
theorem dX4_dateAt_16 : decode cX4_dateAt 16 = .ok (.invokevirtual 242, 3) := by decide +kernel
theorem dX4_dateAt_19 : decode cX4_dateAt 19 = .ok (.ifCond .eq 27, 3) := by decide +kernel
theorem dX4_dateAt_22 : decode cX4_dateAt 22 = .ok (.iload_n 2, 1) := by decide +kernel
theorem dX4_dateAt_23 : decode cX4_dateAt 23 = .ok (.iload_n 1, 1) := by decide +kernel
theorem dX4_dateAt_24 : decode cX4_dateAt 24 = .ok (.if_icmp .ne 19, 3) := by decide +kernel
theorem dX4_dateAt_27 : decode cX4_dateAt 27 = .ok (.aload_n 0, 1) := by decide +kernel
theorem dX4_dateAt_28 : decode cX4_dateAt 28 = .ok (.aload_n 0, 1) := by decide +kernel
theorem dX4_dateAt_29 : decode cX4_dateAt 29 = .ok (.getfield 13, 3) := by decide +kernel
theorem dX4_dateAt_32 : decode cX4_dateAt 32 = .ok (.iload_n 3, 1) := by decide +kernel
theorem dX4_dateAt_33 : decode cX4_dateAt 33 = .ok (.invokestatic 50, 3) := by decide +kernel
theorem dX4_dateAt_36 : decode cX4_dateAt 36 = .ok (.iconst 4, 1) := by decide +kernel
theorem dX4_dateAt_37 : decode cX4_dateAt 37 = .ok (.iadd, 1) := by decide +kernel
theorem dX4_dateAt_38 : decode cX4_dateAt 38 = .ok (.iaload, 1) := by decide +kernel
theorem dX4_dateAt_39 : decode cX4_dateAt 39 = .ok (.invokevirtual 199, 3) := by decide +kernel
theorem dX4_dateAt_42 : decode cX4_dateAt 42 = .ok (.ireturn, 1) := by decide +kernel
theorem dX4_dateAt_43 : decode cX4_dateAt 43 = .ok (.iinc 2 1, 3) := by decide +kernel
theorem dX4_dateAt_46 : decode cX4_dateAt 46 = .ok (.iinc 3 1, 3) := by decide +kernel
theorem dX4_dateAt_49 : decode cX4_dateAt 49 = .ok (.goto (-45), 3) := by decide +kernel
theorem dX4_dateAt_52 : decode cX4_dateAt 52 = .ok (.aload_n 0, 1) := by decide +kernel
theorem dX4_dateAt_53 : decode cX4_dateAt 53 = .ok (.iconst 1, 1) := by decide +kernel
theorem dX4_dateAt_54 : decode cX4_dateAt 54 = .ok (.invokevirtual 193, 3) := by decide +kernel
theorem dX4_dateAt_57 : decode cX4_dateAt 57 = .ok (.ireturn, 1) := by decide +kernel
theorem dX4_inMonth_0 : decode cX4_inMonth 0 = .ok (.iconst 0, 1) := by decide +kernel
theorem dX4_inMonth_1 : decode cX4_inMonth 1 = .ok (.istore_n 2, 1) := by decide +kernel
theorem dX4_inMonth_2 : decode cX4_inMonth 2 = .ok (.iconst 0, 1) := by decide +kernel
theorem dX4_inMonth_3 : decode cX4_inMonth 3 = .ok (.istore_n 3, 1) := by decide +kernel
theorem dX4_inMonth_4 : decode cX4_inMonth 4 = .ok (.iload_n 3, 1) := by decide +kernel
theorem dX4_inMonth_5 : decode cX4_inMonth 5 = .ok (.aload_n 0, 1) := by decide +kernel
theorem dX4_inMonth_6 : decode cX4_inMonth 6 = .ok (.getfield 13, 3) := by decide +kernel
theorem dX4_inMonth_9 : decode cX4_inMonth 9 = .ok (.iconst 5, 1) := by decide +kernel
theorem dX4_inMonth_10 : decode cX4_inMonth 10 = .ok (.iaload, 1) := by decide +kernel
theorem dX4_inMonth_11 : decode cX4_inMonth 11 = .ok (.if_icmp .ge 45, 3) := by decide +kernel
theorem dX4_inMonth_14 : decode cX4_inMonth 14 = .ok (.iload_n 2, 1) := by decide +kernel
theorem dX4_inMonth_15 : decode cX4_inMonth 15 = .ok (.aload_n 0, 1) := by decide +kernel
theorem dX4_inMonth_16 : decode cX4_inMonth 16 = .ok (.iload_n 3, 1) := by decide +kernel
theorem dX4_inMonth_17 : decode cX4_inMonth 17 = .ok (.invokevirtual 233, 3) := by decide +kernel
theorem dX4_inMonth_20 : decode cX4_inMonth 20 = .ok (.ifCond .eq 27, 3) := by decide +kernel
theorem dX4_inMonth_23 : decode cX4_inMonth 23 = .ok (.aload_n 0, 1) := by decide +kernel
theorem dX4_inMonth_24 : decode cX4_inMonth 24 = .ok (.getfield 13, 3) := by decide +kernel
theorem dX4_inMonth_27 : decode cX4_inMonth 27 = .ok (.iload_n 3, 1) := by decide +kernel
theorem dX4_inMonth_28 : decode cX4_inMonth 28 = .ok (.invokestatic 50, 3) := by decide +kernel
theorem dX4_inMonth_31 : decode cX4_inMonth 31 = .ok (.iconst 4, 1) := by decide +kernel
theorem dX4_inMonth_32 : decode cX4_inMonth 32 = .ok (.iadd, 1) := by decide +kernel
theorem dX4_inMonth_33 : decode cX4_inMonth 33 = .ok (.iaload, 1) := by decide +kernel
theorem dX4_inMonth_34 : decode cX4_inMonth 34 = .ok (.bipush 30, 2) := by decide +kernel
theorem dX4_inMonth_36 : decode cX4_inMonth 36 = .ok (.idiv, 1) := by decide +kernel
theorem dX4_inMonth_37 : decode cX4_inMonth 37 = .ok (.iconst 1, 1) := by decide +kernel
theorem dX4_inMonth_38 : decode cX4_inMonth 38 = .ok (.iadd, 1) := by decide +kernel
theorem dX4_inMonth_39 : decode cX4_inMonth 39 = .ok (.iload_n 1, 1) := by decide +kernel
theorem dX4_inMonth_40 : decode cX4_inMonth 40 = .ok (.if_icmp .ne 7, 3) := by decide +kernel
theorem dX4_inMonth_43 : decode cX4_inMonth 43 = .ok (.iconst 1, 1) := by decide +kernel
theorem dX4_inMonth_44 : decode cX4_inMonth 44 = .ok (.goto 4, 3) := by decide +kernel
theorem dX4_inMonth_47 : decode cX4_inMonth 47 = .ok (.iconst 0, 1) := by decide +kernel
theorem dX4_inMonth_48 : decode cX4_inMonth 48 = .ok (.iadd, 1) := by decide +kernel
theorem dX4_inMonth_49 : decode cX4_inMonth 49 = .ok (.istore_n 2, 1) := by decide +kernel
theorem dX4_inMonth_50 : decode cX4_inMonth 50 = .ok (.iinc 3 1, 3) := by decide +kernel
theorem dX4_inMonth_53 : decode cX4_inMonth 53 = .ok (.goto (-49), 3) := by decide +kernel
theorem dX4_inMonth_56 : decode cX4_inMonth 56 = .ok (.iload_n 2, 1) := by decide +kernel
theorem dX4_inMonth_57 : decode cX4_inMonth 57 = .ok (.ireturn, 1) := by decide +kernel
theorem dX4_busiestMonth_0 : decode cX4_busiestMonth 0 = .ok (.iconst (-1), 1) := by decide +kernel
theorem dX4_busiestMonth_1 : decode cX4_busiestMonth 1 = .ok (.istore_n 1, 1) := by decide +kernel
theorem dX4_busiestMonth_2 : decode cX4_busiestMonth 2 = .ok (.iconst 0, 1) := by decide +kernel
theorem dX4_busiestMonth_3 : decode cX4_busiestMonth 3 = .ok (.istore_n 2, 1) := by decide +kernel
theorem dX4_busiestMonth_4 : decode cX4_busiestMonth 4 = .ok (.iconst 1, 1) := by decide +kernel
theorem dX4_busiestMonth_5 : decode cX4_busiestMonth 5 = .ok (.istore_n 3, 1) := by decide +kernel
theorem dX4_busiestMonth_6 : decode cX4_busiestMonth 6 = .ok (.iload_n 3, 1) := by decide +kernel
theorem dX4_busiestMonth_7 : decode cX4_busiestMonth 7 = .ok (.bipush 12, 2) := by decide +kernel
theorem dX4_busiestMonth_9 : decode cX4_busiestMonth 9 = .ok (.if_icmp .gt 26, 3) := by decide +kernel
theorem dX4_busiestMonth_12 : decode cX4_busiestMonth 12 = .ok (.aload_n 0, 1) := by decide +kernel
theorem dX4_busiestMonth_13 : decode cX4_busiestMonth 13 = .ok (.iload_n 3, 1) := by decide +kernel
theorem dX4_busiestMonth_14 : decode cX4_busiestMonth 14 = .ok (.invokevirtual 245, 3) := by decide +kernel
theorem dX4_busiestMonth_17 : decode cX4_busiestMonth 17 = .ok (.iload_n 2, 1) := by decide +kernel
theorem dX4_busiestMonth_18 : decode cX4_busiestMonth 18 = .ok (.if_icmp .le 11, 3) := by decide +kernel
theorem dX4_busiestMonth_21 : decode cX4_busiestMonth 21 = .ok (.iload_n 3, 1) := by decide +kernel
theorem dX4_busiestMonth_22 : decode cX4_busiestMonth 22 = .ok (.istore_n 1, 1) := by decide +kernel
theorem dX4_busiestMonth_23 : decode cX4_busiestMonth 23 = .ok (.aload_n 0, 1) := by decide +kernel
theorem dX4_busiestMonth_24 : decode cX4_busiestMonth 24 = .ok (.iload_n 3, 1) := by decide +kernel
theorem dX4_busiestMonth_25 : decode cX4_busiestMonth 25 = .ok (.invokevirtual 245, 3) := by decide +kernel
theorem dX4_busiestMonth_28 : decode cX4_busiestMonth 28 = .ok (.istore_n 2, 1) := by decide +kernel
theorem dX4_busiestMonth_29 : decode cX4_busiestMonth 29 = .ok (.iinc 3 1, 3) := by decide +kernel
theorem dX4_busiestMonth_32 : decode cX4_busiestMonth 32 = .ok (.goto (-26), 3) := by decide +kernel
theorem dX4_busiestMonth_35 : decode cX4_busiestMonth 35 = .ok (.aload_n 0, 1) := by decide +kernel
theorem dX4_busiestMonth_36 : decode cX4_busiestMonth 36 = .ok (.iload_n 1, 1) := by decide +kernel
theorem dX4_busiestMonth_37 : decode cX4_busiestMonth 37 = .ok (.invokevirtual 199, 3) := by decide +kernel
theorem dX4_busiestMonth_40 : decode cX4_busiestMonth 40 = .ok (.ireturn, 1) := by decide +kernel
theorem dX4_obstacle_0 : decode cX4_obstacle 0 = .ok (.aload_n 0, 1) := by decide +kernel
theorem dX4_obstacle_1 : decode cX4_obstacle 1 = .ok (.iload_n 1, 1) := by decide +kernel
theorem dX4_obstacle_2 : decode cX4_obstacle 2 = .ok (.invokevirtual 227, 3) := by decide +kernel
theorem dX4_obstacle_5 : decode cX4_obstacle 5 = .ok (.ifCond .eq 11, 3) := by decide +kernel
theorem dX4_obstacle_8 : decode cX4_obstacle 8 = .ok (.aload_n 0, 1) := by decide +kernel
theorem dX4_obstacle_9 : decode cX4_obstacle 9 = .ok (.iload_n 2, 1) := by decide +kernel
theorem dX4_obstacle_10 : decode cX4_obstacle 10 = .ok (.invokevirtual 217, 3) := by decide +kernel
theorem dX4_obstacle_13 : decode cX4_obstacle 13 = .ok (.ifCond .ne 9, 3) := by decide +kernel
theorem dX4_obstacle_16 : decode cX4_obstacle 16 = .ok (.aload_n 0, 1) := by decide +kernel
theorem dX4_obstacle_17 : decode cX4_obstacle 17 = .ok (.iconst 1, 1) := by decide +kernel
theorem dX4_obstacle_18 : decode cX4_obstacle 18 = .ok (.invokevirtual 193, 3) := by decide +kernel
theorem dX4_obstacle_21 : decode cX4_obstacle 21 = .ok (.ireturn, 1) := by decide +kernel
theorem dX4_obstacle_22 : decode cX4_obstacle 22 = .ok (.iload_n 3, 1) := by decide +kernel
theorem dX4_obstacle_23 : decode cX4_obstacle 23 = .ok (.iload 4, 2) := by decide +kernel
theorem dX4_obstacle_25 : decode cX4_obstacle 25 = .ok (.invokestatic 220, 3) := by decide +kernel
theorem dX4_obstacle_28 : decode cX4_obstacle 28 = .ok (.ifCond .eq 22, 3) := by decide +kernel
theorem dX4_obstacle_31 : decode cX4_obstacle 31 = .ok (.aload_n 0, 1) := by decide +kernel
theorem dX4_obstacle_32 : decode cX4_obstacle 32 = .ok (.aload_n 0, 1) := by decide +kernel
theorem dX4_obstacle_33 : decode cX4_obstacle 33 = .ok (.iload_n 1, 1) := by decide +kernel
theorem dX4_obstacle_34 : decode cX4_obstacle 34 = .ok (.iload_n 2, 1) := by decide +kernel
theorem dX4_obstacle_35 : decode cX4_obstacle 35 = .ok (.iload_n 3, 1) := by decide +kernel
theorem dX4_obstacle_36 : decode cX4_obstacle 36 = .ok (.iload 4, 2) := by decide +kernel
theorem dX4_obstacle_38 : decode cX4_obstacle 38 = .ok (.invokestatic 160, 3) := by decide +kernel
theorem dX4_obstacle_41 : decode cX4_obstacle 41 = .ok (.invokevirtual 86, 3) := by decide +kernel
theorem dX4_obstacle_44 : decode cX4_obstacle 44 = .ok (.invokevirtual 199, 3) := by decide +kernel
theorem dX4_obstacle_47 : decode cX4_obstacle 47 = .ok (.goto 8, 3) := by decide +kernel
theorem dX4_obstacle_50 : decode cX4_obstacle 50 = .ok (.aload_n 0, 1) := by decide +kernel
theorem dX4_obstacle_51 : decode cX4_obstacle 51 = .ok (.iconst 2, 1) := by decide +kernel
theorem dX4_obstacle_52 : decode cX4_obstacle 52 = .ok (.invokevirtual 193, 3) := by decide +kernel
theorem dX4_obstacle_55 : decode cX4_obstacle 55 = .ok (.ireturn, 1) := by decide +kernel
theorem dX4_freeGarden_0 : decode cX4_freeGarden 0 = .ok (.aload_n 0, 1) := by decide +kernel
theorem dX4_freeGarden_1 : decode cX4_freeGarden 1 = .ok (.iload_n 1, 1) := by decide +kernel
theorem dX4_freeGarden_2 : decode cX4_freeGarden 2 = .ok (.invokevirtual 227, 3) := by decide +kernel
theorem dX4_freeGarden_5 : decode cX4_freeGarden 5 = .ok (.ifCond .ne 9, 3) := by decide +kernel
theorem dX4_freeGarden_8 : decode cX4_freeGarden 8 = .ok (.aload_n 0, 1) := by decide +kernel
theorem dX4_freeGarden_9 : decode cX4_freeGarden 9 = .ok (.iconst 1, 1) := by decide +kernel
theorem dX4_freeGarden_10 : decode cX4_freeGarden 10 = .ok (.invokevirtual 193, 3) := by decide +kernel
theorem dX4_freeGarden_13 : decode cX4_freeGarden 13 = .ok (.ireturn, 1) := by decide +kernel
theorem dX4_freeGarden_14 : decode cX4_freeGarden 14 = .ok (.iload_n 2, 1) := by decide +kernel
theorem dX4_freeGarden_15 : decode cX4_freeGarden 15 = .ok (.iload_n 3, 1) := by decide +kernel
theorem dX4_freeGarden_16 : decode cX4_freeGarden 16 = .ok (.invokestatic 220, 3) := by decide +kernel
theorem dX4_freeGarden_19 : decode cX4_freeGarden 19 = .ok (.ifCond .ne 9, 3) := by decide +kernel
theorem dX4_freeGarden_22 : decode cX4_freeGarden 22 = .ok (.aload_n 0, 1) := by decide +kernel
theorem dX4_freeGarden_23 : decode cX4_freeGarden 23 = .ok (.iconst 2, 1) := by decide +kernel
theorem dX4_freeGarden_24 : decode cX4_freeGarden 24 = .ok (.invokevirtual 193, 3) := by decide +kernel
theorem dX4_freeGarden_27 : decode cX4_freeGarden 27 = .ok (.ireturn, 1) := by decide +kernel
theorem dX4_freeGarden_28 : decode cX4_freeGarden 28 = .ok (.iconst 0, 1) := by decide +kernel
theorem dX4_freeGarden_29 : decode cX4_freeGarden 29 = .ok (.istore 4, 2) := by decide +kernel
theorem dX4_freeGarden_31 : decode cX4_freeGarden 31 = .ok (.iload 4, 2) := by decide +kernel
theorem dX4_freeGarden_33 : decode cX4_freeGarden 33 = .ok (.aload_n 0, 1) := by decide +kernel
theorem dX4_freeGarden_34 : decode cX4_freeGarden 34 = .ok (.getfield 13, 3) := by decide +kernel
theorem dX4_freeGarden_37 : decode cX4_freeGarden 37 = .ok (.iconst 4, 1) := by decide +kernel
theorem dX4_freeGarden_38 : decode cX4_freeGarden 38 = .ok (.iaload, 1) := by decide +kernel
theorem dX4_freeGarden_39 : decode cX4_freeGarden 39 = .ok (.if_icmp .ge 24, 3) := by decide +kernel
theorem dX4_freeGarden_42 : decode cX4_freeGarden 42 = .ok (.aload_n 0, 1) := by decide +kernel
theorem dX4_freeGarden_43 : decode cX4_freeGarden 43 = .ok (.iload_n 1, 1) := by decide +kernel
theorem dX4_freeGarden_44 : decode cX4_freeGarden 44 = .ok (.iload 4, 2) := by decide +kernel
theorem dX4_freeGarden_46 : decode cX4_freeGarden 46 = .ok (.iload_n 2, 1) := by decide +kernel
theorem dX4_freeGarden_47 : decode cX4_freeGarden 47 = .ok (.iload_n 3, 1) := by decide +kernel
theorem dX4_freeGarden_48 : decode cX4_freeGarden 48 = .ok (.invokestatic 160, 3) := by decide +kernel
theorem dX4_freeGarden_51 : decode cX4_freeGarden 51 = .ok (.invokevirtual 86, 3) := by decide +kernel
theorem dX4_freeGarden_54 : decode cX4_freeGarden 54 = .ok (.ifCond .eq 9, 3) := by decide +kernel
theorem dX4_freeGarden_57 : decode cX4_freeGarden 57 = .ok (.iinc 4 1, 3) := by decide +kernel
theorem dX4_freeGarden_60 : decode cX4_freeGarden 60 = .ok (.goto (-29), 3) := by decide +kernel
theorem dX4_freeGarden_63 : decode cX4_freeGarden 63 = .ok (.aload_n 0, 1) := by decide +kernel
theorem dX4_freeGarden_64 : decode cX4_freeGarden 64 = .ok (.iload 4, 2) := by decide +kernel
theorem dX4_freeGarden_66 : decode cX4_freeGarden 66 = .ok (.aload_n 0, 1) := by decide +kernel
theorem dX4_freeGarden_67 : decode cX4_freeGarden 67 = .ok (.getfield 13, 3) := by decide +kernel
theorem dX4_freeGarden_70 : decode cX4_freeGarden 70 = .ok (.iconst 4, 1) := by decide +kernel
theorem dX4_freeGarden_71 : decode cX4_freeGarden 71 = .ok (.iaload, 1) := by decide +kernel
theorem dX4_freeGarden_72 : decode cX4_freeGarden 72 = .ok (.if_icmp .ge 8, 3) := by decide +kernel
theorem dX4_freeGarden_75 : decode cX4_freeGarden 75 = .ok (.iload 4, 2) := by decide +kernel
theorem dX4_freeGarden_77 : decode cX4_freeGarden 77 = .ok (.goto 4, 3) := by decide +kernel
theorem dX4_freeGarden_80 : decode cX4_freeGarden 80 = .ok (.iconst (-1), 1) := by decide +kernel
theorem dX4_freeGarden_81 : decode cX4_freeGarden 81 = .ok (.invokevirtual 199, 3) := by decide +kernel
theorem dX4_freeGarden_84 : decode cX4_freeGarden 84 = .ok (.ireturn, 1) := by decide +kernel
theorem dX4_drawsNeeded_0 : decode cX4_drawsNeeded 0 = .ok (.aload_n 0, 1) := by decide +kernel
theorem dX4_drawsNeeded_1 : decode cX4_drawsNeeded 1 = .ok (.iload_n 1, 1) := by decide +kernel
theorem dX4_drawsNeeded_2 : decode cX4_drawsNeeded 2 = .ok (.invokevirtual 227, 3) := by decide +kernel
theorem dX4_drawsNeeded_5 : decode cX4_drawsNeeded 5 = .ok (.ifCond .eq 15, 3) := by decide +kernel
theorem dX4_drawsNeeded_8 : decode cX4_drawsNeeded 8 = .ok (.aload_n 0, 1) := by decide +kernel
theorem dX4_drawsNeeded_9 : decode cX4_drawsNeeded 9 = .ok (.aload_n 0, 1) := by decide +kernel
theorem dX4_drawsNeeded_10 : decode cX4_drawsNeeded 10 = .ok (.iload_n 1, 1) := by decide +kernel
theorem dX4_drawsNeeded_11 : decode cX4_drawsNeeded 11 = .ok (.invokevirtual 54, 3) := by decide +kernel
theorem dX4_drawsNeeded_14 : decode cX4_drawsNeeded 14 = .ok (.invokevirtual 199, 3) := by decide +kernel
theorem dX4_drawsNeeded_17 : decode cX4_drawsNeeded 17 = .ok (.goto 8, 3) := by decide +kernel
theorem dX4_drawsNeeded_20 : decode cX4_drawsNeeded 20 = .ok (.aload_n 0, 1) := by decide +kernel
theorem dX4_drawsNeeded_21 : decode cX4_drawsNeeded 21 = .ok (.iconst 1, 1) := by decide +kernel
theorem dX4_drawsNeeded_22 : decode cX4_drawsNeeded 22 = .ok (.invokevirtual 193, 3) := by decide +kernel
theorem dX4_drawsNeeded_25 : decode cX4_drawsNeeded 25 = .ok (.ireturn, 1) := by decide +kernel
theorem dX4_candlesAfter_0 : decode cX4_candlesAfter 0 = .ok (.iload_n 1, 1) := by decide +kernel
theorem dX4_candlesAfter_1 : decode cX4_candlesAfter 1 = .ok (.iconst 0, 1) := by decide +kernel
theorem dX4_candlesAfter_2 : decode cX4_candlesAfter 2 = .ok (.sipush 720, 3) := by decide +kernel
theorem dX4_candlesAfter_5 : decode cX4_candlesAfter 5 = .ok (.invokestatic 67, 3) := by decide +kernel
theorem dX4_candlesAfter_8 : decode cX4_candlesAfter 8 = .ok (.ifCond .ne 9, 3) := by decide +kernel
theorem dX4_candlesAfter_11 : decode cX4_candlesAfter 11 = .ok (.aload_n 0, 1) := by decide +kernel
theorem dX4_candlesAfter_12 : decode cX4_candlesAfter 12 = .ok (.iconst 1, 1) := by decide +kernel
theorem dX4_candlesAfter_13 : decode cX4_candlesAfter 13 = .ok (.invokevirtual 193, 3) := by decide +kernel
theorem dX4_candlesAfter_16 : decode cX4_candlesAfter 16 = .ok (.ireturn, 1) := by decide +kernel
theorem dX4_candlesAfter_17 : decode cX4_candlesAfter 17 = .ok (.aload_n 0, 1) := by decide +kernel
theorem dX4_candlesAfter_18 : decode cX4_candlesAfter 18 = .ok (.invokevirtual 202, 3) := by decide +kernel
theorem dX4_candlesAfter_21 : decode cX4_candlesAfter 21 = .ok (.aload_n 0, 1) := by decide +kernel
theorem dX4_candlesAfter_22 : decode cX4_candlesAfter 22 = .ok (.iload_n 1, 1) := by decide +kernel
theorem dX4_candlesAfter_23 : decode cX4_candlesAfter 23 = .ok (.invokevirtual 61, 3) := by decide +kernel
theorem dX4_candlesAfter_26 : decode cX4_candlesAfter 26 = .ok (.istore_n 2, 1) := by decide +kernel
theorem dX4_candlesAfter_27 : decode cX4_candlesAfter 27 = .ok (.aload_n 0, 1) := by decide +kernel
theorem dX4_candlesAfter_28 : decode cX4_candlesAfter 28 = .ok (.getfield 13, 3) := by decide +kernel
theorem dX4_candlesAfter_31 : decode cX4_candlesAfter 31 = .ok (.iconst 3, 1) := by decide +kernel
theorem dX4_candlesAfter_32 : decode cX4_candlesAfter 32 = .ok (.iaload, 1) := by decide +kernel
theorem dX4_candlesAfter_33 : decode cX4_candlesAfter 33 = .ok (.istore_n 3, 1) := by decide +kernel
theorem dX4_candlesAfter_34 : decode cX4_candlesAfter 34 = .ok (.aload_n 0, 1) := by decide +kernel
theorem dX4_candlesAfter_35 : decode cX4_candlesAfter 35 = .ok (.invokevirtual 211, 3) := by decide +kernel
theorem dX4_candlesAfter_38 : decode cX4_candlesAfter 38 = .ok (.aload_n 0, 1) := by decide +kernel
theorem dX4_candlesAfter_39 : decode cX4_candlesAfter 39 = .ok (.iload_n 3, 1) := by decide +kernel
theorem dX4_candlesAfter_40 : decode cX4_candlesAfter 40 = .ok (.invokevirtual 199, 3) := by decide +kernel
theorem dX4_candlesAfter_43 : decode cX4_candlesAfter 43 = .ok (.ireturn, 1) := by decide +kernel
theorem dX4_wishesAfter_0 : decode cX4_wishesAfter 0 = .ok (.aload_n 0, 1) := by decide +kernel
theorem dX4_wishesAfter_1 : decode cX4_wishesAfter 1 = .ok (.iload_n 1, 1) := by decide +kernel
theorem dX4_wishesAfter_2 : decode cX4_wishesAfter 2 = .ok (.invokevirtual 227, 3) := by decide +kernel
theorem dX4_wishesAfter_5 : decode cX4_wishesAfter 5 = .ok (.ifCond .ne 9, 3) := by decide +kernel
theorem dX4_wishesAfter_8 : decode cX4_wishesAfter 8 = .ok (.aload_n 0, 1) := by decide +kernel
theorem dX4_wishesAfter_9 : decode cX4_wishesAfter 9 = .ok (.iconst 1, 1) := by decide +kernel
theorem dX4_wishesAfter_10 : decode cX4_wishesAfter 10 = .ok (.invokevirtual 193, 3) := by decide +kernel
theorem dX4_wishesAfter_13 : decode cX4_wishesAfter 13 = .ok (.ireturn, 1) := by decide +kernel
theorem dX4_wishesAfter_14 : decode cX4_wishesAfter 14 = .ok (.iload_n 2, 1) := by decide +kernel
theorem dX4_wishesAfter_15 : decode cX4_wishesAfter 15 = .ok (.iconst 0, 1) := by decide +kernel
theorem dX4_wishesAfter_16 : decode cX4_wishesAfter 16 = .ok (.sipush 720, 3) := by decide +kernel
theorem dX4_wishesAfter_19 : decode cX4_wishesAfter 19 = .ok (.invokestatic 67, 3) := by decide +kernel
theorem dX4_wishesAfter_22 : decode cX4_wishesAfter 22 = .ok (.ifCond .ne 9, 3) := by decide +kernel
theorem dX4_wishesAfter_25 : decode cX4_wishesAfter 25 = .ok (.aload_n 0, 1) := by decide +kernel
theorem dX4_wishesAfter_26 : decode cX4_wishesAfter 26 = .ok (.iconst 2, 1) := by decide +kernel
theorem dX4_wishesAfter_27 : decode cX4_wishesAfter 27 = .ok (.invokevirtual 193, 3) := by decide +kernel
theorem dX4_wishesAfter_30 : decode cX4_wishesAfter 30 = .ok (.ireturn, 1) := by decide +kernel
theorem dX4_wishesAfter_31 : decode cX4_wishesAfter 31 = .ok (.aload_n 0, 1) := by decide +kernel
theorem dX4_wishesAfter_32 : decode cX4_wishesAfter 32 = .ok (.invokevirtual 202, 3) := by decide +kernel
theorem dX4_wishesAfter_35 : decode cX4_wishesAfter 35 = .ok (.aload_n 0, 1) := by decide +kernel
theorem dX4_wishesAfter_36 : decode cX4_wishesAfter 36 = .ok (.iload_n 2, 1) := by decide +kernel
theorem dX4_wishesAfter_37 : decode cX4_wishesAfter 37 = .ok (.invokevirtual 61, 3) := by decide +kernel
theorem dX4_wishesAfter_40 : decode cX4_wishesAfter 40 = .ok (.istore_n 3, 1) := by decide +kernel
theorem dX4_wishesAfter_41 : decode cX4_wishesAfter 41 = .ok (.aload_n 0, 1) := by decide +kernel
theorem dX4_wishesAfter_42 : decode cX4_wishesAfter 42 = .ok (.getfield 13, 3) := by decide +kernel
theorem dX4_wishesAfter_45 : decode cX4_wishesAfter 45 = .ok (.iload_n 1, 1) := by decide +kernel
theorem dX4_wishesAfter_46 : decode cX4_wishesAfter 46 = .ok (.invokestatic 50, 3) := by decide +kernel
theorem dX4_wishesAfter_49 : decode cX4_wishesAfter 49 = .ok (.bipush 6, 2) := by decide +kernel
theorem dX4_wishesAfter_51 : decode cX4_wishesAfter 51 = .ok (.iadd, 1) := by decide +kernel
theorem dX4_wishesAfter_52 : decode cX4_wishesAfter 52 = .ok (.iaload, 1) := by decide +kernel
theorem dX4_wishesAfter_53 : decode cX4_wishesAfter 53 = .ok (.istore 4, 2) := by decide +kernel
theorem dX4_wishesAfter_55 : decode cX4_wishesAfter 55 = .ok (.aload_n 0, 1) := by decide +kernel
theorem dX4_wishesAfter_56 : decode cX4_wishesAfter 56 = .ok (.invokevirtual 211, 3) := by decide +kernel
theorem dX4_wishesAfter_59 : decode cX4_wishesAfter 59 = .ok (.aload_n 0, 1) := by decide +kernel
theorem dX4_wishesAfter_60 : decode cX4_wishesAfter 60 = .ok (.iload 4, 2) := by decide +kernel
theorem dX4_wishesAfter_62 : decode cX4_wishesAfter 62 = .ok (.invokevirtual 199, 3) := by decide +kernel
theorem dX4_wishesAfter_65 : decode cX4_wishesAfter 65 = .ok (.ireturn, 1) := by decide +kernel
theorem dX4_heldParties_0 : decode cX4_heldParties 0 = .ok (.aload_n 0, 1) := by decide +kernel
theorem dX4_heldParties_1 : decode cX4_heldParties 1 = .ok (.aload_n 0, 1) := by decide +kernel
theorem dX4_heldParties_2 : decode cX4_heldParties 2 = .ok (.getfield 13, 3) := by decide +kernel
theorem dX4_heldParties_5 : decode cX4_heldParties 5 = .ok (.bipush 9, 2) := by decide +kernel
theorem dX4_heldParties_7 : decode cX4_heldParties 7 = .ok (.iaload, 1) := by decide +kernel
theorem dX4_heldParties_8 : decode cX4_heldParties 8 = .ok (.invokevirtual 199, 3) := by decide +kernel
theorem dX4_heldParties_11 : decode cX4_heldParties 11 = .ok (.ireturn, 1) := by decide +kernel
theorem dX4_failedParties_0 : decode cX4_failedParties 0 = .ok (.aload_n 0, 1) := by decide +kernel
theorem dX4_failedParties_1 : decode cX4_failedParties 1 = .ok (.aload_n 0, 1) := by decide +kernel
theorem dX4_failedParties_2 : decode cX4_failedParties 2 = .ok (.getfield 13, 3) := by decide +kernel
theorem dX4_failedParties_5 : decode cX4_failedParties 5 = .ok (.bipush 10, 2) := by decide +kernel
theorem dX4_failedParties_7 : decode cX4_failedParties 7 = .ok (.iaload, 1) := by decide +kernel
theorem dX4_failedParties_8 : decode cX4_failedParties 8 = .ok (.invokevirtual 199, 3) := by decide +kernel
theorem dX4_failedParties_11 : decode cX4_failedParties 11 = .ok (.ireturn, 1) := by decide +kernel
theorem dX4_clashes_0 : decode cX4_clashes 0 = .ok (.iconst 0, 1) := by decide +kernel
theorem dX4_clashes_1 : decode cX4_clashes 1 = .ok (.istore_n 1, 1) := by decide +kernel
theorem dX4_clashes_2 : decode cX4_clashes 2 = .ok (.iconst 0, 1) := by decide +kernel
theorem dX4_clashes_3 : decode cX4_clashes 3 = .ok (.istore_n 2, 1) := by decide +kernel
theorem dX4_clashes_4 : decode cX4_clashes 4 = .ok (.iload_n 2, 1) := by decide +kernel
theorem dX4_clashes_5 : decode cX4_clashes 5 = .ok (.aload_n 0, 1) := by decide +kernel
theorem dX4_clashes_6 : decode cX4_clashes 6 = .ok (.getfield 13, 3) := by decide +kernel
theorem dX4_clashes_9 : decode cX4_clashes 9 = .ok (.iconst 5, 1) := by decide +kernel
theorem dX4_clashes_10 : decode cX4_clashes 10 = .ok (.iaload, 1) := by decide +kernel
theorem dX4_clashes_11 : decode cX4_clashes 11 = .ok (.if_icmp .ge 100, 3) := by decide +kernel
theorem dX4_clashes_14 : decode cX4_clashes 14 = .ok (.iconst 0, 1) := by decide +kernel
theorem dX4_clashes_15 : decode cX4_clashes 15 = .ok (.istore_n 3, 1) := by decide +kernel
theorem dX4_clashes_16 : decode cX4_clashes 16 = .ok (.iload_n 3, 1) := by decide +kernel
theorem dX4_clashes_17 : decode cX4_clashes 17 = .ok (.iload_n 2, 1) := by decide +kernel
theorem dX4_clashes_18 : decode cX4_clashes 18 = .ok (.if_icmp .ge 87, 3) := by decide +kernel
theorem dX4_clashes_21 : decode cX4_clashes 21 = .ok (.aload_n 0, 1) := by decide +kernel
theorem dX4_clashes_22 : decode cX4_clashes 22 = .ok (.getfield 13, 3) := by decide +kernel
theorem dX4_clashes_25 : decode cX4_clashes 25 = .ok (.iload_n 2, 1) := by decide +kernel
theorem dX4_clashes_26 : decode cX4_clashes 26 = .ok (.invokestatic 50, 3) := by decide +kernel
theorem dX4_clashes_29 : decode cX4_clashes 29 = .ok (.iconst 4, 1) := by decide +kernel
theorem dX4_clashes_30 : decode cX4_clashes 30 = .ok (.iadd, 1) := by decide +kernel
theorem dX4_clashes_31 : decode cX4_clashes 31 = .ok (.iaload, 1) := by decide +kernel
theorem dX4_clashes_32 : decode cX4_clashes 32 = .ok (.aload_n 0, 1) := by decide +kernel
theorem dX4_clashes_33 : decode cX4_clashes 33 = .ok (.getfield 13, 3) := by decide +kernel
theorem dX4_clashes_36 : decode cX4_clashes 36 = .ok (.iload_n 3, 1) := by decide +kernel
theorem dX4_clashes_37 : decode cX4_clashes 37 = .ok (.invokestatic 50, 3) := by decide +kernel
theorem dX4_clashes_40 : decode cX4_clashes 40 = .ok (.iconst 4, 1) := by decide +kernel
theorem dX4_clashes_41 : decode cX4_clashes 41 = .ok (.iadd, 1) := by decide +kernel
theorem dX4_clashes_42 : decode cX4_clashes 42 = .ok (.iaload, 1) := by decide +kernel
theorem dX4_clashes_43 : decode cX4_clashes 43 = .ok (.if_icmp .ne 32, 3) := by decide +kernel
theorem dX4_clashes_46 : decode cX4_clashes 46 = .ok (.aload_n 0, 1) := by decide +kernel
theorem dX4_clashes_47 : decode cX4_clashes 47 = .ok (.getfield 13, 3) := by decide +kernel
theorem dX4_clashes_50 : decode cX4_clashes 50 = .ok (.iload_n 2, 1) := by decide +kernel
theorem dX4_clashes_51 : decode cX4_clashes 51 = .ok (.invokestatic 50, 3) := by decide +kernel
theorem dX4_clashes_54 : decode cX4_clashes 54 = .ok (.iconst 3, 1) := by decide +kernel
theorem dX4_clashes_55 : decode cX4_clashes 55 = .ok (.iadd, 1) := by decide +kernel
theorem dX4_clashes_56 : decode cX4_clashes 56 = .ok (.iaload, 1) := by decide +kernel
theorem dX4_clashes_57 : decode cX4_clashes 57 = .ok (.aload_n 0, 1) := by decide +kernel
theorem dX4_clashes_58 : decode cX4_clashes 58 = .ok (.getfield 13, 3) := by decide +kernel
theorem dX4_clashes_61 : decode cX4_clashes 61 = .ok (.iload_n 3, 1) := by decide +kernel
theorem dX4_clashes_62 : decode cX4_clashes 62 = .ok (.invokestatic 50, 3) := by decide +kernel
theorem dX4_clashes_65 : decode cX4_clashes 65 = .ok (.iconst 3, 1) := by decide +kernel
theorem dX4_clashes_66 : decode cX4_clashes 66 = .ok (.iadd, 1) := by decide +kernel
theorem dX4_clashes_67 : decode cX4_clashes 67 = .ok (.iaload, 1) := by decide +kernel
theorem dX4_clashes_68 : decode cX4_clashes 68 = .ok (.if_icmp .ne 7, 3) := by decide +kernel
theorem dX4_clashes_71 : decode cX4_clashes 71 = .ok (.iconst 1, 1) := by decide +kernel
theorem dX4_clashes_72 : decode cX4_clashes 72 = .ok (.goto 4, 3) := by decide +kernel
theorem dX4_clashes_75 : decode cX4_clashes 75 = .ok (.iconst 0, 1) := by decide +kernel
theorem dX4_clashes_76 : decode cX4_clashes 76 = .ok (.istore 4, 2) := by decide +kernel
theorem dX4_clashes_78 : decode cX4_clashes 78 = .ok (.iload_n 1, 1) := by decide +kernel
theorem dX4_clashes_79 : decode cX4_clashes 79 = .ok (.aload_n 0, 1) := by decide +kernel
theorem dX4_clashes_80 : decode cX4_clashes 80 = .ok (.iload_n 2, 1) := by decide +kernel
theorem dX4_clashes_81 : decode cX4_clashes 81 = .ok (.invokevirtual 233, 3) := by decide +kernel
theorem dX4_clashes_84 : decode cX4_clashes 84 = .ok (.ifCond .eq 12, 3) := by decide +kernel
theorem dX4_clashes_87 : decode cX4_clashes 87 = .ok (.iload 4, 2) := by decide +kernel
theorem dX4_clashes_89 : decode cX4_clashes 89 = .ok (.ifCond .eq 7, 3) := by decide +kernel
theorem dX4_clashes_92 : decode cX4_clashes 92 = .ok (.iconst 1, 1) := by decide +kernel
theorem dX4_clashes_93 : decode cX4_clashes 93 = .ok (.goto 4, 3) := by decide +kernel
theorem dX4_clashes_96 : decode cX4_clashes 96 = .ok (.iconst 0, 1) := by decide +kernel
theorem dX4_clashes_97 : decode cX4_clashes 97 = .ok (.iadd, 1) := by decide +kernel
theorem dX4_clashes_98 : decode cX4_clashes 98 = .ok (.istore_n 1, 1) := by decide +kernel
theorem dX4_clashes_99 : decode cX4_clashes 99 = .ok (.iinc 3 1, 3) := by decide +kernel
theorem dX4_clashes_102 : decode cX4_clashes 102 = .ok (.goto (-86), 3) := by decide +kernel
theorem dX4_clashes_105 : decode cX4_clashes 105 = .ok (.iinc 2 1, 3) := by decide +kernel
theorem dX4_clashes_108 : decode cX4_clashes 108 = .ok (.goto (-104), 3) := by decide +kernel
theorem dX4_clashes_111 : decode cX4_clashes 111 = .ok (.aload_n 0, 1) := by decide +kernel
theorem dX4_clashes_112 : decode cX4_clashes 112 = .ok (.iload_n 1, 1) := by decide +kernel
theorem dX4_clashes_113 : decode cX4_clashes 113 = .ok (.invokevirtual 199, 3) := by decide +kernel
theorem dX4_clashes_116 : decode cX4_clashes 116 = .ok (.ireturn, 1) := by decide +kernel
theorem dX4_candleDifference_0 : decode cX4_candleDifference 0 = .ok (.aload_n 0, 1) := by decide +kernel
theorem dX4_candleDifference_1 : decode cX4_candleDifference 1 = .ok (.aload_n 0, 1) := by decide +kernel
theorem dX4_candleDifference_2 : decode cX4_candleDifference 2 = .ok (.getfield 13, 3) := by decide +kernel
theorem dX4_candleDifference_5 : decode cX4_candleDifference 5 = .ok (.iconst 3, 1) := by decide +kernel
theorem dX4_candleDifference_6 : decode cX4_candleDifference 6 = .ok (.iaload, 1) := by decide +kernel
theorem dX4_candleDifference_7 : decode cX4_candleDifference 7 = .ok (.aload_n 0, 1) := by decide +kernel
theorem dX4_candleDifference_8 : decode cX4_candleDifference 8 = .ok (.getfield 13, 3) := by decide +kernel
theorem dX4_candleDifference_11 : decode cX4_candleDifference 11 = .ok (.bipush 6, 2) := by decide +kernel
theorem dX4_candleDifference_13 : decode cX4_candleDifference 13 = .ok (.iaload, 1) := by decide +kernel
theorem dX4_candleDifference_14 : decode cX4_candleDifference 14 = .ok (.isub, 1) := by decide +kernel
theorem dX4_candleDifference_15 : decode cX4_candleDifference 15 = .ok (.aload_n 0, 1) := by decide +kernel
theorem dX4_candleDifference_16 : decode cX4_candleDifference 16 = .ok (.getfield 13, 3) := by decide +kernel
theorem dX4_candleDifference_19 : decode cX4_candleDifference 19 = .ok (.bipush 7, 2) := by decide +kernel
theorem dX4_candleDifference_21 : decode cX4_candleDifference 21 = .ok (.iaload, 1) := by decide +kernel
theorem dX4_candleDifference_22 : decode cX4_candleDifference 22 = .ok (.isub, 1) := by decide +kernel
theorem dX4_candleDifference_23 : decode cX4_candleDifference 23 = .ok (.aload_n 0, 1) := by decide +kernel
theorem dX4_candleDifference_24 : decode cX4_candleDifference 24 = .ok (.getfield 13, 3) := by decide +kernel
theorem dX4_candleDifference_27 : decode cX4_candleDifference 27 = .ok (.bipush 8, 2) := by decide +kernel
theorem dX4_candleDifference_29 : decode cX4_candleDifference 29 = .ok (.iaload, 1) := by decide +kernel
theorem dX4_candleDifference_30 : decode cX4_candleDifference 30 = .ok (.iadd, 1) := by decide +kernel
theorem dX4_candleDifference_31 : decode cX4_candleDifference 31 = .ok (.invokestatic 248, 3) := by decide +kernel
theorem dX4_candleDifference_34 : decode cX4_candleDifference 34 = .ok (.invokevirtual 199, 3) := by decide +kernel
theorem dX4_candleDifference_37 : decode cX4_candleDifference 37 = .ok (.ireturn, 1) := by decide +kernel
theorem dX4_sumOf_0 : decode cX4_sumOf 0 = .ok (.iconst 0, 1) := by decide +kernel
theorem dX4_sumOf_1 : decode cX4_sumOf 1 = .ok (.istore_n 2, 1) := by decide +kernel
theorem dX4_sumOf_2 : decode cX4_sumOf 2 = .ok (.iconst 0, 1) := by decide +kernel
theorem dX4_sumOf_3 : decode cX4_sumOf 3 = .ok (.istore_n 3, 1) := by decide +kernel
theorem dX4_sumOf_4 : decode cX4_sumOf 4 = .ok (.iload_n 3, 1) := by decide +kernel
theorem dX4_sumOf_5 : decode cX4_sumOf 5 = .ok (.aload_n 0, 1) := by decide +kernel
theorem dX4_sumOf_6 : decode cX4_sumOf 6 = .ok (.getfield 13, 3) := by decide +kernel
theorem dX4_sumOf_9 : decode cX4_sumOf 9 = .ok (.iconst 5, 1) := by decide +kernel
theorem dX4_sumOf_10 : decode cX4_sumOf 10 = .ok (.iaload, 1) := by decide +kernel
theorem dX4_sumOf_11 : decode cX4_sumOf 11 = .ok (.if_icmp .ge 23, 3) := by decide +kernel
theorem dX4_sumOf_14 : decode cX4_sumOf 14 = .ok (.iload_n 2, 1) := by decide +kernel
theorem dX4_sumOf_15 : decode cX4_sumOf 15 = .ok (.aload_n 0, 1) := by decide +kernel
theorem dX4_sumOf_16 : decode cX4_sumOf 16 = .ok (.getfield 13, 3) := by decide +kernel
theorem dX4_sumOf_19 : decode cX4_sumOf 19 = .ok (.iload_n 3, 1) := by decide +kernel
theorem dX4_sumOf_20 : decode cX4_sumOf 20 = .ok (.invokestatic 50, 3) := by decide +kernel
theorem dX4_sumOf_23 : decode cX4_sumOf 23 = .ok (.iload_n 1, 1) := by decide +kernel
theorem dX4_sumOf_24 : decode cX4_sumOf 24 = .ok (.iadd, 1) := by decide +kernel
theorem dX4_sumOf_25 : decode cX4_sumOf 25 = .ok (.iaload, 1) := by decide +kernel
theorem dX4_sumOf_26 : decode cX4_sumOf 26 = .ok (.iadd, 1) := by decide +kernel
theorem dX4_sumOf_27 : decode cX4_sumOf 27 = .ok (.istore_n 2, 1) := by decide +kernel
theorem dX4_sumOf_28 : decode cX4_sumOf 28 = .ok (.iinc 3 1, 3) := by decide +kernel
theorem dX4_sumOf_31 : decode cX4_sumOf 31 = .ok (.goto (-27), 3) := by decide +kernel
theorem dX4_sumOf_34 : decode cX4_sumOf 34 = .ok (.iload_n 2, 1) := by decide +kernel
theorem dX4_sumOf_35 : decode cX4_sumOf 35 = .ok (.ireturn, 1) := by decide +kernel
theorem dX4_meanAge_0 : decode cX4_meanAge 0 = .ok (.aload_n 0, 1) := by decide +kernel
theorem dX4_meanAge_1 : decode cX4_meanAge 1 = .ok (.iconst 0, 1) := by decide +kernel
theorem dX4_meanAge_2 : decode cX4_meanAge 2 = .ok (.putfield 64, 3) := by decide +kernel
theorem dX4_meanAge_5 : decode cX4_meanAge 5 = .ok (.aload_n 0, 1) := by decide +kernel
theorem dX4_meanAge_6 : decode cX4_meanAge 6 = .ok (.getfield 13, 3) := by decide +kernel
theorem dX4_meanAge_9 : decode cX4_meanAge 9 = .ok (.iconst 5, 1) := by decide +kernel
theorem dX4_meanAge_10 : decode cX4_meanAge 10 = .ok (.iaload, 1) := by decide +kernel
theorem dX4_meanAge_11 : decode cX4_meanAge 11 = .ok (.ifCond .ne 7, 3) := by decide +kernel
theorem dX4_meanAge_14 : decode cX4_meanAge 14 = .ok (.dconst 0, 1) := by decide +kernel
theorem dX4_meanAge_15 : decode cX4_meanAge 15 = .ok (.goto 17, 3) := by decide +kernel
theorem dX4_meanAge_18 : decode cX4_meanAge 18 = .ok (.aload_n 0, 1) := by decide +kernel
theorem dX4_meanAge_19 : decode cX4_meanAge 19 = .ok (.iconst 2, 1) := by decide +kernel
theorem dX4_meanAge_20 : decode cX4_meanAge 20 = .ok (.invokevirtual 251, 3) := by decide +kernel
theorem dX4_meanAge_23 : decode cX4_meanAge 23 = .ok (.i2d, 1) := by decide +kernel
theorem dX4_meanAge_24 : decode cX4_meanAge 24 = .ok (.aload_n 0, 1) := by decide +kernel
theorem dX4_meanAge_25 : decode cX4_meanAge 25 = .ok (.getfield 13, 3) := by decide +kernel
theorem dX4_meanAge_28 : decode cX4_meanAge 28 = .ok (.iconst 5, 1) := by decide +kernel
theorem dX4_meanAge_29 : decode cX4_meanAge 29 = .ok (.iaload, 1) := by decide +kernel
theorem dX4_meanAge_30 : decode cX4_meanAge 30 = .ok (.i2d, 1) := by decide +kernel
theorem dX4_meanAge_31 : decode cX4_meanAge 31 = .ok (.ddiv, 1) := by decide +kernel
theorem dX4_meanAge_32 : decode cX4_meanAge 32 = .ok (.dreturn, 1) := by decide +kernel
theorem dX4_wishShare_0 : decode cX4_wishShare 0 = .ok (.aload_n 0, 1) := by decide +kernel
theorem dX4_wishShare_1 : decode cX4_wishShare 1 = .ok (.iconst 0, 1) := by decide +kernel
theorem dX4_wishShare_2 : decode cX4_wishShare 2 = .ok (.putfield 64, 3) := by decide +kernel
theorem dX4_wishShare_5 : decode cX4_wishShare 5 = .ok (.aload_n 0, 1) := by decide +kernel
theorem dX4_wishShare_6 : decode cX4_wishShare 6 = .ok (.getfield 13, 3) := by decide +kernel
theorem dX4_wishShare_9 : decode cX4_wishShare 9 = .ok (.bipush 9, 2) := by decide +kernel
theorem dX4_wishShare_11 : decode cX4_wishShare 11 = .ok (.iaload, 1) := by decide +kernel
theorem dX4_wishShare_12 : decode cX4_wishShare 12 = .ok (.ifCond .ne 7, 3) := by decide +kernel
theorem dX4_wishShare_15 : decode cX4_wishShare 15 = .ok (.fconst 0, 1) := by decide +kernel
theorem dX4_wishShare_16 : decode cX4_wishShare 16 = .ok (.goto 19, 3) := by decide +kernel
theorem dX4_wishShare_19 : decode cX4_wishShare 19 = .ok (.aload_n 0, 1) := by decide +kernel
theorem dX4_wishShare_20 : decode cX4_wishShare 20 = .ok (.bipush 6, 2) := by decide +kernel
theorem dX4_wishShare_22 : decode cX4_wishShare 22 = .ok (.invokevirtual 251, 3) := by decide +kernel
theorem dX4_wishShare_25 : decode cX4_wishShare 25 = .ok (.i2f, 1) := by decide +kernel
theorem dX4_wishShare_26 : decode cX4_wishShare 26 = .ok (.aload_n 0, 1) := by decide +kernel
theorem dX4_wishShare_27 : decode cX4_wishShare 27 = .ok (.getfield 13, 3) := by decide +kernel
theorem dX4_wishShare_30 : decode cX4_wishShare 30 = .ok (.bipush 9, 2) := by decide +kernel
theorem dX4_wishShare_32 : decode cX4_wishShare 32 = .ok (.iaload, 1) := by decide +kernel
theorem dX4_wishShare_33 : decode cX4_wishShare 33 = .ok (.i2f, 1) := by decide +kernel
theorem dX4_wishShare_34 : decode cX4_wishShare 34 = .ok (.fdiv, 1) := by decide +kernel
theorem dX4_wishShare_35 : decode cX4_wishShare 35 = .ok (.freturn, 1) := by decide +kernel
theorem dX4_advance_0 : decode cX4_advance 0 = .ok (.iload_n 1, 1) := by decide +kernel
theorem dX4_advance_1 : decode cX4_advance 1 = .ok (.iconst 1, 1) := by decide +kernel
theorem dX4_advance_2 : decode cX4_advance 2 = .ok (.sipush 720, 3) := by decide +kernel
theorem dX4_advance_5 : decode cX4_advance 5 = .ok (.invokestatic 67, 3) := by decide +kernel
theorem dX4_advance_8 : decode cX4_advance 8 = .ok (.ifCond .ne 9, 3) := by decide +kernel
theorem dX4_advance_11 : decode cX4_advance 11 = .ok (.aload_n 0, 1) := by decide +kernel
theorem dX4_advance_12 : decode cX4_advance 12 = .ok (.iconst 1, 1) := by decide +kernel
theorem dX4_advance_13 : decode cX4_advance 13 = .ok (.invokevirtual 193, 3) := by decide +kernel
theorem dX4_advance_16 : decode cX4_advance 16 = .ok (.ireturn, 1) := by decide +kernel
theorem dX4_advance_17 : decode cX4_advance 17 = .ok (.aload_n 0, 1) := by decide +kernel
theorem dX4_advance_18 : decode cX4_advance 18 = .ok (.iload_n 1, 1) := by decide +kernel
theorem dX4_advance_19 : decode cX4_advance 19 = .ok (.invokevirtual 163, 3) := by decide +kernel
theorem dX4_advance_22 : decode cX4_advance 22 = .ok (.ifCond .eq 9, 3) := by decide +kernel
theorem dX4_advance_25 : decode cX4_advance 25 = .ok (.aload_n 0, 1) := by decide +kernel
theorem dX4_advance_26 : decode cX4_advance 26 = .ok (.iconst 2, 1) := by decide +kernel
theorem dX4_advance_27 : decode cX4_advance 27 = .ok (.invokevirtual 193, 3) := by decide +kernel
theorem dX4_advance_30 : decode cX4_advance 30 = .ok (.ireturn, 1) := by decide +kernel
theorem dX4_advance_31 : decode cX4_advance 31 = .ok (.aload_n 0, 1) := by decide +kernel
theorem dX4_advance_32 : decode cX4_advance 32 = .ok (.invokevirtual 254, 3) := by decide +kernel
theorem dX4_advance_35 : decode cX4_advance 35 = .ok (.aload_n 0, 1) := by decide +kernel
theorem dX4_advance_36 : decode cX4_advance 36 = .ok (.aload_n 0, 1) := by decide +kernel
theorem dX4_advance_37 : decode cX4_advance 37 = .ok (.iload_n 1, 1) := by decide +kernel
theorem dX4_advance_38 : decode cX4_advance 38 = .ok (.invokevirtual 61, 3) := by decide +kernel
theorem dX4_advance_41 : decode cX4_advance 41 = .ok (.invokevirtual 199, 3) := by decide +kernel
theorem dX4_advance_44 : decode cX4_advance 44 = .ok (.ireturn, 1) := by decide +kernel
theorem dX4_draw_0 : decode cX4_draw 0 = .ok (.aload_n 0, 1) := by decide +kernel
theorem dX4_draw_1 : decode cX4_draw 1 = .ok (.iload_n 1, 1) := by decide +kernel
theorem dX4_draw_2 : decode cX4_draw 2 = .ok (.invokevirtual 227, 3) := by decide +kernel
theorem dX4_draw_5 : decode cX4_draw 5 = .ok (.ifCond .ne 9, 3) := by decide +kernel
theorem dX4_draw_8 : decode cX4_draw 8 = .ok (.aload_n 0, 1) := by decide +kernel
theorem dX4_draw_9 : decode cX4_draw 9 = .ok (.iconst 1, 1) := by decide +kernel
theorem dX4_draw_10 : decode cX4_draw 10 = .ok (.invokevirtual 193, 3) := by decide +kernel
theorem dX4_draw_13 : decode cX4_draw 13 = .ok (.ireturn, 1) := by decide +kernel
theorem dX4_draw_14 : decode cX4_draw 14 = .ok (.aload_n 0, 1) := by decide +kernel
theorem dX4_draw_15 : decode cX4_draw 15 = .ok (.iload_n 1, 1) := by decide +kernel
theorem dX4_draw_16 : decode cX4_draw 16 = .ok (.invokevirtual 54, 3) := by decide +kernel
theorem dX4_draw_19 : decode cX4_draw 19 = .ok (.istore_n 2, 1) := by decide +kernel
theorem dX4_draw_20 : decode cX4_draw 20 = .ok (.iload_n 2, 1) := by decide +kernel
theorem dX4_draw_21 : decode cX4_draw 21 = .ok (.iconst (-1), 1) := by decide +kernel
theorem dX4_draw_22 : decode cX4_draw 22 = .ok (.if_icmp .ne 9, 3) := by decide +kernel
theorem dX4_draw_25 : decode cX4_draw 25 = .ok (.aload_n 0, 1) := by decide +kernel
theorem dX4_draw_26 : decode cX4_draw 26 = .ok (.iconst 2, 1) := by decide +kernel
theorem dX4_draw_27 : decode cX4_draw 27 = .ok (.invokevirtual 193, 3) := by decide +kernel
theorem dX4_draw_30 : decode cX4_draw 30 = .ok (.ireturn, 1) := by decide +kernel
theorem dX4_draw_31 : decode cX4_draw 31 = .ok (.aload_n 0, 1) := by decide +kernel
theorem dX4_draw_32 : decode cX4_draw 32 = .ok (.invokevirtual 254, 3) := by decide +kernel
theorem dX4_draw_35 : decode cX4_draw 35 = .ok (.aload_n 0, 1) := by decide +kernel
theorem dX4_draw_36 : decode cX4_draw 36 = .ok (.iload_n 1, 1) := by decide +kernel
theorem dX4_draw_37 : decode cX4_draw 37 = .ok (.iload_n 2, 1) := by decide +kernel
theorem dX4_draw_38 : decode cX4_draw 38 = .ok (.invokevirtual 57, 3) := by decide +kernel
theorem dX4_draw_41 : decode cX4_draw 41 = .ok (.aload_n 0, 1) := by decide +kernel
theorem dX4_draw_42 : decode cX4_draw 42 = .ok (.iload_n 2, 1) := by decide +kernel
theorem dX4_draw_43 : decode cX4_draw 43 = .ok (.invokevirtual 199, 3) := by decide +kernel
theorem dX4_draw_46 : decode cX4_draw 46 = .ok (.ireturn, 1) := by decide +kernel
theorem dX4_setBirthday_0 : decode cX4_setBirthday 0 = .ok (.aload_n 0, 1) := by decide +kernel
theorem dX4_setBirthday_1 : decode cX4_setBirthday 1 = .ok (.iload_n 1, 1) := by decide +kernel
theorem dX4_setBirthday_2 : decode cX4_setBirthday 2 = .ok (.invokevirtual 227, 3) := by decide +kernel
theorem dX4_setBirthday_5 : decode cX4_setBirthday 5 = .ok (.ifCond .ne 9, 3) := by decide +kernel
theorem dX4_setBirthday_8 : decode cX4_setBirthday 8 = .ok (.aload_n 0, 1) := by decide +kernel
theorem dX4_setBirthday_9 : decode cX4_setBirthday 9 = .ok (.iconst 1, 1) := by decide +kernel
theorem dX4_setBirthday_10 : decode cX4_setBirthday 10 = .ok (.invokevirtual 193, 3) := by decide +kernel
theorem dX4_setBirthday_13 : decode cX4_setBirthday 13 = .ok (.ireturn, 1) := by decide +kernel
theorem dX4_setBirthday_14 : decode cX4_setBirthday 14 = .ok (.iload_n 2, 1) := by decide +kernel
theorem dX4_setBirthday_15 : decode cX4_setBirthday 15 = .ok (.iload_n 3, 1) := by decide +kernel
theorem dX4_setBirthday_16 : decode cX4_setBirthday 16 = .ok (.invokestatic 220, 3) := by decide +kernel
theorem dX4_setBirthday_19 : decode cX4_setBirthday 19 = .ok (.ifCond .ne 9, 3) := by decide +kernel
theorem dX4_setBirthday_22 : decode cX4_setBirthday 22 = .ok (.aload_n 0, 1) := by decide +kernel
theorem dX4_setBirthday_23 : decode cX4_setBirthday 23 = .ok (.iconst 2, 1) := by decide +kernel
theorem dX4_setBirthday_24 : decode cX4_setBirthday 24 = .ok (.invokevirtual 193, 3) := by decide +kernel
theorem dX4_setBirthday_27 : decode cX4_setBirthday 27 = .ok (.ireturn, 1) := by decide +kernel
theorem dX4_setBirthday_28 : decode cX4_setBirthday 28 = .ok (.aload_n 0, 1) := by decide +kernel
theorem dX4_setBirthday_29 : decode cX4_setBirthday 29 = .ok (.iload_n 1, 1) := by decide +kernel
theorem dX4_setBirthday_30 : decode cX4_setBirthday 30 = .ok (.aload_n 0, 1) := by decide +kernel
theorem dX4_setBirthday_31 : decode cX4_setBirthday 31 = .ok (.getfield 13, 3) := by decide +kernel
theorem dX4_setBirthday_34 : decode cX4_setBirthday 34 = .ok (.iload_n 1, 1) := by decide +kernel
theorem dX4_setBirthday_35 : decode cX4_setBirthday 35 = .ok (.invokestatic 50, 3) := by decide +kernel
theorem dX4_setBirthday_38 : decode cX4_setBirthday 38 = .ok (.iconst 3, 1) := by decide +kernel
theorem dX4_setBirthday_39 : decode cX4_setBirthday 39 = .ok (.iadd, 1) := by decide +kernel
theorem dX4_setBirthday_40 : decode cX4_setBirthday 40 = .ok (.iaload, 1) := by decide +kernel
theorem dX4_setBirthday_41 : decode cX4_setBirthday 41 = .ok (.iload_n 2, 1) := by decide +kernel
theorem dX4_setBirthday_42 : decode cX4_setBirthday 42 = .ok (.iload_n 3, 1) := by decide +kernel
theorem dX4_setBirthday_43 : decode cX4_setBirthday 43 = .ok (.invokestatic 160, 3) := by decide +kernel
theorem dX4_setBirthday_46 : decode cX4_setBirthday 46 = .ok (.invokevirtual 86, 3) := by decide +kernel
theorem dX4_setBirthday_49 : decode cX4_setBirthday 49 = .ok (.ifCond .eq 9, 3) := by decide +kernel
theorem dX4_setBirthday_52 : decode cX4_setBirthday 52 = .ok (.aload_n 0, 1) := by decide +kernel
theorem dX4_setBirthday_53 : decode cX4_setBirthday 53 = .ok (.iconst 3, 1) := by decide +kernel
theorem dX4_setBirthday_54 : decode cX4_setBirthday 54 = .ok (.invokevirtual 193, 3) := by decide +kernel
theorem dX4_setBirthday_57 : decode cX4_setBirthday 57 = .ok (.ireturn, 1) := by decide +kernel
theorem dX4_setBirthday_58 : decode cX4_setBirthday 58 = .ok (.aload_n 0, 1) := by decide +kernel
theorem dX4_setBirthday_59 : decode cX4_setBirthday 59 = .ok (.invokevirtual 254, 3) := by decide +kernel
theorem dX4_setBirthday_62 : decode cX4_setBirthday 62 = .ok (.aload_n 0, 1) := by decide +kernel
theorem dX4_setBirthday_63 : decode cX4_setBirthday 63 = .ok (.getfield 13, 3) := by decide +kernel
theorem dX4_setBirthday_66 : decode cX4_setBirthday 66 = .ok (.iload_n 1, 1) := by decide +kernel
theorem dX4_setBirthday_67 : decode cX4_setBirthday 67 = .ok (.invokestatic 50, 3) := by decide +kernel
theorem dX4_setBirthday_70 : decode cX4_setBirthday 70 = .ok (.iconst 4, 1) := by decide +kernel
theorem dX4_setBirthday_71 : decode cX4_setBirthday 71 = .ok (.iadd, 1) := by decide +kernel
theorem dX4_setBirthday_72 : decode cX4_setBirthday 72 = .ok (.iload_n 2, 1) := by decide +kernel
theorem dX4_setBirthday_73 : decode cX4_setBirthday 73 = .ok (.iload_n 3, 1) := by decide +kernel
theorem dX4_setBirthday_74 : decode cX4_setBirthday 74 = .ok (.invokestatic 160, 3) := by decide +kernel
theorem dX4_setBirthday_77 : decode cX4_setBirthday 77 = .ok (.iastore, 1) := by decide +kernel
theorem dX4_setBirthday_78 : decode cX4_setBirthday 78 = .ok (.aload_n 0, 1) := by decide +kernel
theorem dX4_setBirthday_79 : decode cX4_setBirthday 79 = .ok (.aload_n 0, 1) := by decide +kernel
theorem dX4_setBirthday_80 : decode cX4_setBirthday 80 = .ok (.iload_n 2, 1) := by decide +kernel
theorem dX4_setBirthday_81 : decode cX4_setBirthday 81 = .ok (.iload_n 3, 1) := by decide +kernel
theorem dX4_setBirthday_82 : decode cX4_setBirthday 82 = .ok (.invokestatic 160, 3) := by decide +kernel
theorem dX4_setBirthday_85 : decode cX4_setBirthday 85 = .ok (.invokevirtual 236, 3) := by decide +kernel
theorem dX4_setBirthday_88 : decode cX4_setBirthday 88 = .ok (.invokevirtual 199, 3) := by decide +kernel
theorem dX4_setBirthday_91 : decode cX4_setBirthday 91 = .ok (.ireturn, 1) := by decide +kernel
theorem dX4_forgetBirthday_0 : decode cX4_forgetBirthday 0 = .ok (.aload_n 0, 1) := by decide +kernel
theorem dX4_forgetBirthday_1 : decode cX4_forgetBirthday 1 = .ok (.iload_n 1, 1) := by decide +kernel
theorem dX4_forgetBirthday_2 : decode cX4_forgetBirthday 2 = .ok (.invokevirtual 227, 3) := by decide +kernel
theorem dX4_forgetBirthday_5 : decode cX4_forgetBirthday 5 = .ok (.ifCond .ne 9, 3) := by decide +kernel
theorem dX4_forgetBirthday_8 : decode cX4_forgetBirthday 8 = .ok (.aload_n 0, 1) := by decide +kernel
theorem dX4_forgetBirthday_9 : decode cX4_forgetBirthday 9 = .ok (.iconst 1, 1) := by decide +kernel
theorem dX4_forgetBirthday_10 : decode cX4_forgetBirthday 10 = .ok (.invokevirtual 193, 3) := by decide +kernel
theorem dX4_forgetBirthday_13 : decode cX4_forgetBirthday 13 = .ok (.ireturn, 1) := by decide +kernel
theorem dX4_forgetBirthday_14 : decode cX4_forgetBirthday 14 = .ok (.aload_n 0, 1) := by decide +kernel
theorem dX4_forgetBirthday_15 : decode cX4_forgetBirthday 15 = .ok (.invokevirtual 254, 3) := by decide +kernel
theorem dX4_forgetBirthday_18 : decode cX4_forgetBirthday 18 = .ok (.aload_n 0, 1) := by decide +kernel
theorem dX4_forgetBirthday_19 : decode cX4_forgetBirthday 19 = .ok (.getfield 13, 3) := by decide +kernel
theorem dX4_forgetBirthday_22 : decode cX4_forgetBirthday 22 = .ok (.iload_n 1, 1) := by decide +kernel
theorem dX4_forgetBirthday_23 : decode cX4_forgetBirthday 23 = .ok (.invokestatic 50, 3) := by decide +kernel
theorem dX4_forgetBirthday_26 : decode cX4_forgetBirthday 26 = .ok (.iconst 4, 1) := by decide +kernel
theorem dX4_forgetBirthday_27 : decode cX4_forgetBirthday 27 = .ok (.iadd, 1) := by decide +kernel
theorem dX4_forgetBirthday_28 : decode cX4_forgetBirthday 28 = .ok (.iaload, 1) := by decide +kernel
theorem dX4_forgetBirthday_29 : decode cX4_forgetBirthday 29 = .ok (.istore_n 2, 1) := by decide +kernel
theorem dX4_forgetBirthday_30 : decode cX4_forgetBirthday 30 = .ok (.aload_n 0, 1) := by decide +kernel
theorem dX4_forgetBirthday_31 : decode cX4_forgetBirthday 31 = .ok (.getfield 13, 3) := by decide +kernel
theorem dX4_forgetBirthday_34 : decode cX4_forgetBirthday 34 = .ok (.iload_n 1, 1) := by decide +kernel
theorem dX4_forgetBirthday_35 : decode cX4_forgetBirthday 35 = .ok (.invokestatic 50, 3) := by decide +kernel
theorem dX4_forgetBirthday_38 : decode cX4_forgetBirthday 38 = .ok (.iconst 4, 1) := by decide +kernel
theorem dX4_forgetBirthday_39 : decode cX4_forgetBirthday 39 = .ok (.iadd, 1) := by decide +kernel
theorem dX4_forgetBirthday_40 : decode cX4_forgetBirthday 40 = .ok (.iconst (-1), 1) := by decide +kernel
theorem dX4_forgetBirthday_41 : decode cX4_forgetBirthday 41 = .ok (.iastore, 1) := by decide +kernel
theorem dX4_forgetBirthday_42 : decode cX4_forgetBirthday 42 = .ok (.aload_n 0, 1) := by decide +kernel
theorem dX4_forgetBirthday_43 : decode cX4_forgetBirthday 43 = .ok (.iload_n 2, 1) := by decide +kernel
theorem dX4_forgetBirthday_44 : decode cX4_forgetBirthday 44 = .ok (.invokevirtual 199, 3) := by decide +kernel
theorem dX4_forgetBirthday_47 : decode cX4_forgetBirthday 47 = .ok (.ireturn, 1) := by decide +kernel
theorem dX4_moveTo_0 : decode cX4_moveTo 0 = .ok (.aload_n 0, 1) := by decide +kernel
theorem dX4_moveTo_1 : decode cX4_moveTo 1 = .ok (.iload_n 1, 1) := by decide +kernel
theorem dX4_moveTo_2 : decode cX4_moveTo 2 = .ok (.invokevirtual 227, 3) := by decide +kernel
theorem dX4_moveTo_5 : decode cX4_moveTo 5 = .ok (.ifCond .eq 11, 3) := by decide +kernel
theorem dX4_moveTo_8 : decode cX4_moveTo 8 = .ok (.aload_n 0, 1) := by decide +kernel
theorem dX4_moveTo_9 : decode cX4_moveTo 9 = .ok (.iload_n 2, 1) := by decide +kernel
theorem dX4_moveTo_10 : decode cX4_moveTo 10 = .ok (.invokevirtual 217, 3) := by decide +kernel
theorem dX4_moveTo_13 : decode cX4_moveTo 13 = .ok (.ifCond .ne 9, 3) := by decide +kernel
theorem dX4_moveTo_16 : decode cX4_moveTo 16 = .ok (.aload_n 0, 1) := by decide +kernel
theorem dX4_moveTo_17 : decode cX4_moveTo 17 = .ok (.iconst 1, 1) := by decide +kernel
theorem dX4_moveTo_18 : decode cX4_moveTo 18 = .ok (.invokevirtual 193, 3) := by decide +kernel
theorem dX4_moveTo_21 : decode cX4_moveTo 21 = .ok (.ireturn, 1) := by decide +kernel
theorem dX4_moveTo_22 : decode cX4_moveTo 22 = .ok (.aload_n 0, 1) := by decide +kernel
theorem dX4_moveTo_23 : decode cX4_moveTo 23 = .ok (.iload_n 1, 1) := by decide +kernel
theorem dX4_moveTo_24 : decode cX4_moveTo 24 = .ok (.invokevirtual 233, 3) := by decide +kernel
theorem dX4_moveTo_27 : decode cX4_moveTo 27 = .ok (.ifCond .eq 29, 3) := by decide +kernel
theorem dX4_moveTo_30 : decode cX4_moveTo 30 = .ok (.aload_n 0, 1) := by decide +kernel
theorem dX4_moveTo_31 : decode cX4_moveTo 31 = .ok (.iload_n 1, 1) := by decide +kernel
theorem dX4_moveTo_32 : decode cX4_moveTo 32 = .ok (.iload_n 2, 1) := by decide +kernel
theorem dX4_moveTo_33 : decode cX4_moveTo 33 = .ok (.aload_n 0, 1) := by decide +kernel
theorem dX4_moveTo_34 : decode cX4_moveTo 34 = .ok (.getfield 13, 3) := by decide +kernel
theorem dX4_moveTo_37 : decode cX4_moveTo 37 = .ok (.iload_n 1, 1) := by decide +kernel
theorem dX4_moveTo_38 : decode cX4_moveTo 38 = .ok (.invokestatic 50, 3) := by decide +kernel
theorem dX4_moveTo_41 : decode cX4_moveTo 41 = .ok (.iconst 4, 1) := by decide +kernel
theorem dX4_moveTo_42 : decode cX4_moveTo 42 = .ok (.iadd, 1) := by decide +kernel
theorem dX4_moveTo_43 : decode cX4_moveTo 43 = .ok (.iaload, 1) := by decide +kernel
theorem dX4_moveTo_44 : decode cX4_moveTo 44 = .ok (.invokevirtual 86, 3) := by decide +kernel
theorem dX4_moveTo_47 : decode cX4_moveTo 47 = .ok (.ifCond .eq 9, 3) := by decide +kernel
theorem dX4_moveTo_50 : decode cX4_moveTo 50 = .ok (.aload_n 0, 1) := by decide +kernel
theorem dX4_moveTo_51 : decode cX4_moveTo 51 = .ok (.iconst 2, 1) := by decide +kernel
theorem dX4_moveTo_52 : decode cX4_moveTo 52 = .ok (.invokevirtual 193, 3) := by decide +kernel
theorem dX4_moveTo_55 : decode cX4_moveTo 55 = .ok (.ireturn, 1) := by decide +kernel
theorem dX4_moveTo_56 : decode cX4_moveTo 56 = .ok (.aload_n 0, 1) := by decide +kernel
theorem dX4_moveTo_57 : decode cX4_moveTo 57 = .ok (.invokevirtual 254, 3) := by decide +kernel
theorem dX4_moveTo_60 : decode cX4_moveTo 60 = .ok (.aload_n 0, 1) := by decide +kernel
theorem dX4_moveTo_61 : decode cX4_moveTo 61 = .ok (.getfield 13, 3) := by decide +kernel
theorem dX4_moveTo_64 : decode cX4_moveTo 64 = .ok (.iload_n 1, 1) := by decide +kernel
theorem dX4_moveTo_65 : decode cX4_moveTo 65 = .ok (.invokestatic 50, 3) := by decide +kernel
theorem dX4_moveTo_68 : decode cX4_moveTo 68 = .ok (.iconst 3, 1) := by decide +kernel
theorem dX4_moveTo_69 : decode cX4_moveTo 69 = .ok (.iadd, 1) := by decide +kernel
theorem dX4_moveTo_70 : decode cX4_moveTo 70 = .ok (.iaload, 1) := by decide +kernel
theorem dX4_moveTo_71 : decode cX4_moveTo 71 = .ok (.istore_n 3, 1) := by decide +kernel
theorem dX4_moveTo_72 : decode cX4_moveTo 72 = .ok (.aload_n 0, 1) := by decide +kernel
theorem dX4_moveTo_73 : decode cX4_moveTo 73 = .ok (.getfield 13, 3) := by decide +kernel
theorem dX4_moveTo_76 : decode cX4_moveTo 76 = .ok (.iload_n 1, 1) := by decide +kernel
theorem dX4_moveTo_77 : decode cX4_moveTo 77 = .ok (.invokestatic 50, 3) := by decide +kernel
theorem dX4_moveTo_80 : decode cX4_moveTo 80 = .ok (.iconst 3, 1) := by decide +kernel
theorem dX4_moveTo_81 : decode cX4_moveTo 81 = .ok (.iadd, 1) := by decide +kernel
theorem dX4_moveTo_82 : decode cX4_moveTo 82 = .ok (.iload_n 2, 1) := by decide +kernel
theorem dX4_moveTo_83 : decode cX4_moveTo 83 = .ok (.iastore, 1) := by decide +kernel
theorem dX4_moveTo_84 : decode cX4_moveTo 84 = .ok (.aload_n 0, 1) := by decide +kernel
theorem dX4_moveTo_85 : decode cX4_moveTo 85 = .ok (.iload_n 3, 1) := by decide +kernel
theorem dX4_moveTo_86 : decode cX4_moveTo 86 = .ok (.invokevirtual 199, 3) := by decide +kernel
theorem dX4_moveTo_89 : decode cX4_moveTo 89 = .ok (.ireturn, 1) := by decide +kernel
theorem dX4_buyCandles_0 : decode cX4_buyCandles 0 = .ok (.iload_n 1, 1) := by decide +kernel
theorem dX4_buyCandles_1 : decode cX4_buyCandles 1 = .ok (.iconst 1, 1) := by decide +kernel
theorem dX4_buyCandles_2 : decode cX4_buyCandles 2 = .ok (.sipush 999, 3) := by decide +kernel
theorem dX4_buyCandles_5 : decode cX4_buyCandles 5 = .ok (.invokestatic 67, 3) := by decide +kernel
theorem dX4_buyCandles_8 : decode cX4_buyCandles 8 = .ok (.ifCond .ne 9, 3) := by decide +kernel
theorem dX4_buyCandles_11 : decode cX4_buyCandles 11 = .ok (.aload_n 0, 1) := by decide +kernel
theorem dX4_buyCandles_12 : decode cX4_buyCandles 12 = .ok (.iconst 1, 1) := by decide +kernel
theorem dX4_buyCandles_13 : decode cX4_buyCandles 13 = .ok (.invokevirtual 193, 3) := by decide +kernel
theorem dX4_buyCandles_16 : decode cX4_buyCandles 16 = .ok (.ireturn, 1) := by decide +kernel
theorem dX4_buyCandles_17 : decode cX4_buyCandles 17 = .ok (.aload_n 0, 1) := by decide +kernel
theorem dX4_buyCandles_18 : decode cX4_buyCandles 18 = .ok (.getfield 13, 3) := by decide +kernel
theorem dX4_buyCandles_21 : decode cX4_buyCandles 21 = .ok (.iconst 3, 1) := by decide +kernel
theorem dX4_buyCandles_22 : decode cX4_buyCandles 22 = .ok (.iaload, 1) := by decide +kernel
theorem dX4_buyCandles_23 : decode cX4_buyCandles 23 = .ok (.iload_n 1, 1) := by decide +kernel
theorem dX4_buyCandles_24 : decode cX4_buyCandles 24 = .ok (.iadd, 1) := by decide +kernel
theorem dX4_buyCandles_25 : decode cX4_buyCandles 25 = .ok (.sipush 9999, 3) := by decide +kernel
theorem dX4_buyCandles_28 : decode cX4_buyCandles 28 = .ok (.if_icmp .le 9, 3) := by decide +kernel
theorem dX4_buyCandles_31 : decode cX4_buyCandles 31 = .ok (.aload_n 0, 1) := by decide +kernel
theorem dX4_buyCandles_32 : decode cX4_buyCandles 32 = .ok (.iconst 2, 1) := by decide +kernel
theorem dX4_buyCandles_33 : decode cX4_buyCandles 33 = .ok (.invokevirtual 193, 3) := by decide +kernel
theorem dX4_buyCandles_36 : decode cX4_buyCandles 36 = .ok (.ireturn, 1) := by decide +kernel
theorem dX4_buyCandles_37 : decode cX4_buyCandles 37 = .ok (.aload_n 0, 1) := by decide +kernel
theorem dX4_buyCandles_38 : decode cX4_buyCandles 38 = .ok (.invokevirtual 254, 3) := by decide +kernel
theorem dX4_buyCandles_41 : decode cX4_buyCandles 41 = .ok (.aload_n 0, 1) := by decide +kernel
theorem dX4_buyCandles_42 : decode cX4_buyCandles 42 = .ok (.getfield 13, 3) := by decide +kernel
theorem dX4_buyCandles_45 : decode cX4_buyCandles 45 = .ok (.iconst 3, 1) := by decide +kernel
theorem dX4_buyCandles_46 : decode cX4_buyCandles 46 = .ok (.dup2, 1) := by decide +kernel
theorem dX4_buyCandles_47 : decode cX4_buyCandles 47 = .ok (.iaload, 1) := by decide +kernel
theorem dX4_buyCandles_48 : decode cX4_buyCandles 48 = .ok (.iload_n 1, 1) := by decide +kernel
theorem dX4_buyCandles_49 : decode cX4_buyCandles 49 = .ok (.iadd, 1) := by decide +kernel
theorem dX4_buyCandles_50 : decode cX4_buyCandles 50 = .ok (.iastore, 1) := by decide +kernel
theorem dX4_buyCandles_51 : decode cX4_buyCandles 51 = .ok (.aload_n 0, 1) := by decide +kernel
theorem dX4_buyCandles_52 : decode cX4_buyCandles 52 = .ok (.getfield 13, 3) := by decide +kernel
theorem dX4_buyCandles_55 : decode cX4_buyCandles 55 = .ok (.bipush 7, 2) := by decide +kernel
theorem dX4_buyCandles_57 : decode cX4_buyCandles 57 = .ok (.dup2, 1) := by decide +kernel
theorem dX4_buyCandles_58 : decode cX4_buyCandles 58 = .ok (.iaload, 1) := by decide +kernel
theorem dX4_buyCandles_59 : decode cX4_buyCandles 59 = .ok (.iload_n 1, 1) := by decide +kernel
theorem dX4_buyCandles_60 : decode cX4_buyCandles 60 = .ok (.iadd, 1) := by decide +kernel
theorem dX4_buyCandles_61 : decode cX4_buyCandles 61 = .ok (.iastore, 1) := by decide +kernel
theorem dX4_buyCandles_62 : decode cX4_buyCandles 62 = .ok (.aload_n 0, 1) := by decide +kernel
theorem dX4_buyCandles_63 : decode cX4_buyCandles 63 = .ok (.aload_n 0, 1) := by decide +kernel
theorem dX4_buyCandles_64 : decode cX4_buyCandles 64 = .ok (.getfield 13, 3) := by decide +kernel
theorem dX4_buyCandles_67 : decode cX4_buyCandles 67 = .ok (.iconst 3, 1) := by decide +kernel
theorem dX4_buyCandles_68 : decode cX4_buyCandles 68 = .ok (.iaload, 1) := by decide +kernel
theorem dX4_buyCandles_69 : decode cX4_buyCandles 69 = .ok (.invokevirtual 199, 3) := by decide +kernel
theorem dX4_buyCandles_72 : decode cX4_buyCandles 72 = .ok (.ireturn, 1) := by decide +kernel
theorem dX4_bakeCakes_0 : decode cX4_bakeCakes 0 = .ok (.iload_n 1, 1) := by decide +kernel
theorem dX4_bakeCakes_1 : decode cX4_bakeCakes 1 = .ok (.iconst 0, 1) := by decide +kernel
theorem dX4_bakeCakes_2 : decode cX4_bakeCakes 2 = .ok (.iconst 5, 1) := by decide +kernel
theorem dX4_bakeCakes_3 : decode cX4_bakeCakes 3 = .ok (.invokestatic 67, 3) := by decide +kernel
theorem dX4_bakeCakes_6 : decode cX4_bakeCakes 6 = .ok (.ifCond .eq 13, 3) := by decide +kernel
theorem dX4_bakeCakes_9 : decode cX4_bakeCakes 9 = .ok (.iload_n 2, 1) := by decide +kernel
theorem dX4_bakeCakes_10 : decode cX4_bakeCakes 10 = .ok (.iconst 1, 1) := by decide +kernel
theorem dX4_bakeCakes_11 : decode cX4_bakeCakes 11 = .ok (.bipush 99, 2) := by decide +kernel
theorem dX4_bakeCakes_13 : decode cX4_bakeCakes 13 = .ok (.invokestatic 67, 3) := by decide +kernel
theorem dX4_bakeCakes_16 : decode cX4_bakeCakes 16 = .ok (.ifCond .ne 9, 3) := by decide +kernel
theorem dX4_bakeCakes_19 : decode cX4_bakeCakes 19 = .ok (.aload_n 0, 1) := by decide +kernel
theorem dX4_bakeCakes_20 : decode cX4_bakeCakes 20 = .ok (.iconst 1, 1) := by decide +kernel
theorem dX4_bakeCakes_21 : decode cX4_bakeCakes 21 = .ok (.invokevirtual 193, 3) := by decide +kernel
theorem dX4_bakeCakes_24 : decode cX4_bakeCakes 24 = .ok (.ireturn, 1) := by decide +kernel
theorem dX4_bakeCakes_25 : decode cX4_bakeCakes 25 = .ok (.aload_n 0, 1) := by decide +kernel
theorem dX4_bakeCakes_26 : decode cX4_bakeCakes 26 = .ok (.getfield 13, 3) := by decide +kernel
theorem dX4_bakeCakes_29 : decode cX4_bakeCakes 29 = .ok (.bipush 11, 2) := by decide +kernel
theorem dX4_bakeCakes_31 : decode cX4_bakeCakes 31 = .ok (.iload_n 1, 1) := by decide +kernel
theorem dX4_bakeCakes_32 : decode cX4_bakeCakes 32 = .ok (.iadd, 1) := by decide +kernel
theorem dX4_bakeCakes_33 : decode cX4_bakeCakes 33 = .ok (.iaload, 1) := by decide +kernel
theorem dX4_bakeCakes_34 : decode cX4_bakeCakes 34 = .ok (.iload_n 2, 1) := by decide +kernel
theorem dX4_bakeCakes_35 : decode cX4_bakeCakes 35 = .ok (.iadd, 1) := by decide +kernel
theorem dX4_bakeCakes_36 : decode cX4_bakeCakes 36 = .ok (.bipush 99, 2) := by decide +kernel
theorem dX4_bakeCakes_38 : decode cX4_bakeCakes 38 = .ok (.if_icmp .le 9, 3) := by decide +kernel
theorem dX4_bakeCakes_41 : decode cX4_bakeCakes 41 = .ok (.aload_n 0, 1) := by decide +kernel
theorem dX4_bakeCakes_42 : decode cX4_bakeCakes 42 = .ok (.iconst 2, 1) := by decide +kernel
theorem dX4_bakeCakes_43 : decode cX4_bakeCakes 43 = .ok (.invokevirtual 193, 3) := by decide +kernel
theorem dX4_bakeCakes_46 : decode cX4_bakeCakes 46 = .ok (.ireturn, 1) := by decide +kernel
theorem dX4_bakeCakes_47 : decode cX4_bakeCakes 47 = .ok (.aload_n 0, 1) := by decide +kernel
theorem dX4_bakeCakes_48 : decode cX4_bakeCakes 48 = .ok (.invokevirtual 254, 3) := by decide +kernel
theorem dX4_bakeCakes_51 : decode cX4_bakeCakes 51 = .ok (.aload_n 0, 1) := by decide +kernel
theorem dX4_bakeCakes_52 : decode cX4_bakeCakes 52 = .ok (.getfield 13, 3) := by decide +kernel
theorem dX4_bakeCakes_55 : decode cX4_bakeCakes 55 = .ok (.bipush 11, 2) := by decide +kernel
theorem dX4_bakeCakes_57 : decode cX4_bakeCakes 57 = .ok (.iload_n 1, 1) := by decide +kernel
theorem dX4_bakeCakes_58 : decode cX4_bakeCakes 58 = .ok (.iadd, 1) := by decide +kernel
theorem dX4_bakeCakes_59 : decode cX4_bakeCakes 59 = .ok (.dup2, 1) := by decide +kernel
theorem dX4_bakeCakes_60 : decode cX4_bakeCakes 60 = .ok (.iaload, 1) := by decide +kernel
theorem dX4_bakeCakes_61 : decode cX4_bakeCakes 61 = .ok (.iload_n 2, 1) := by decide +kernel
theorem dX4_bakeCakes_62 : decode cX4_bakeCakes 62 = .ok (.iadd, 1) := by decide +kernel
theorem dX4_bakeCakes_63 : decode cX4_bakeCakes 63 = .ok (.iastore, 1) := by decide +kernel
theorem dX4_bakeCakes_64 : decode cX4_bakeCakes 64 = .ok (.aload_n 0, 1) := by decide +kernel
theorem dX4_bakeCakes_65 : decode cX4_bakeCakes 65 = .ok (.aload_n 0, 1) := by decide +kernel
theorem dX4_bakeCakes_66 : decode cX4_bakeCakes 66 = .ok (.getfield 13, 3) := by decide +kernel
theorem dX4_bakeCakes_69 : decode cX4_bakeCakes 69 = .ok (.bipush 11, 2) := by decide +kernel
theorem dX4_bakeCakes_71 : decode cX4_bakeCakes 71 = .ok (.iload_n 1, 1) := by decide +kernel
theorem dX4_bakeCakes_72 : decode cX4_bakeCakes 72 = .ok (.iadd, 1) := by decide +kernel
theorem dX4_bakeCakes_73 : decode cX4_bakeCakes 73 = .ok (.iaload, 1) := by decide +kernel
theorem dX4_bakeCakes_74 : decode cX4_bakeCakes 74 = .ok (.invokevirtual 199, 3) := by decide +kernel
theorem dX4_bakeCakes_77 : decode cX4_bakeCakes 77 = .ok (.ireturn, 1) := by decide +kernel
theorem dX4_restore_0 : decode cX4_restore 0 = .ok (.iload_n 1, 1) := by decide +kernel
theorem dX4_restore_1 : decode cX4_restore 1 = .ok (.iconst 0, 1) := by decide +kernel
theorem dX4_restore_2 : decode cX4_restore 2 = .ok (.iconst 1, 1) := by decide +kernel
theorem dX4_restore_3 : decode cX4_restore 3 = .ok (.invokestatic 67, 3) := by decide +kernel
theorem dX4_restore_6 : decode cX4_restore 6 = .ok (.ifCond .ne 9, 3) := by decide +kernel
theorem dX4_restore_9 : decode cX4_restore 9 = .ok (.aload_n 0, 1) := by decide +kernel
theorem dX4_restore_10 : decode cX4_restore 10 = .ok (.iconst 1, 1) := by decide +kernel
theorem dX4_restore_11 : decode cX4_restore 11 = .ok (.invokevirtual 193, 3) := by decide +kernel
theorem dX4_restore_14 : decode cX4_restore 14 = .ok (.ireturn, 1) := by decide +kernel
theorem dX4_restore_15 : decode cX4_restore 15 = .ok (.aload_n 0, 1) := by decide +kernel
theorem dX4_restore_16 : decode cX4_restore 16 = .ok (.getfield 214, 3) := by decide +kernel
theorem dX4_restore_19 : decode cX4_restore 19 = .ok (.iload_n 1, 1) := by decide +kernel
theorem dX4_restore_20 : decode cX4_restore 20 = .ok (.ishr, 1) := by decide +kernel
theorem dX4_restore_21 : decode cX4_restore 21 = .ok (.iconst 1, 1) := by decide +kernel
theorem dX4_restore_22 : decode cX4_restore 22 = .ok (.iand, 1) := by decide +kernel
theorem dX4_restore_23 : decode cX4_restore 23 = .ok (.ifCond .ne 9, 3) := by decide +kernel
theorem dX4_restore_26 : decode cX4_restore 26 = .ok (.aload_n 0, 1) := by decide +kernel
theorem dX4_restore_27 : decode cX4_restore 27 = .ok (.iconst 2, 1) := by decide +kernel
theorem dX4_restore_28 : decode cX4_restore 28 = .ok (.invokevirtual 193, 3) := by decide +kernel
theorem dX4_restore_31 : decode cX4_restore 31 = .ok (.ireturn, 1) := by decide +kernel
theorem dX4_restore_32 : decode cX4_restore 32 = .ok (.aload_n 0, 1) := by decide +kernel
theorem dX4_restore_33 : decode cX4_restore 33 = .ok (.invokevirtual 254, 3) := by decide +kernel
theorem dX4_restore_36 : decode cX4_restore 36 = .ok (.iconst 0, 1) := by decide +kernel
theorem dX4_restore_37 : decode cX4_restore 37 = .ok (.istore_n 2, 1) := by decide +kernel
theorem dX4_restore_38 : decode cX4_restore 38 = .ok (.iload_n 2, 1) := by decide +kernel
theorem dX4_restore_39 : decode cX4_restore 39 = .ok (.sipush 151, 3) := by decide +kernel
theorem dX4_restore_42 : decode cX4_restore 42 = .ok (.if_icmp .ge 27, 3) := by decide +kernel
theorem dX4_restore_45 : decode cX4_restore 45 = .ok (.aload_n 0, 1) := by decide +kernel
theorem dX4_restore_46 : decode cX4_restore 46 = .ok (.getfield 13, 3) := by decide +kernel
theorem dX4_restore_49 : decode cX4_restore 49 = .ok (.iload_n 2, 1) := by decide +kernel
theorem dX4_restore_50 : decode cX4_restore 50 = .ok (.aload_n 0, 1) := by decide +kernel
theorem dX4_restore_51 : decode cX4_restore 51 = .ok (.getfield 22, 3) := by decide +kernel
theorem dX4_restore_54 : decode cX4_restore 54 = .ok (.iload_n 1, 1) := by decide +kernel
theorem dX4_restore_55 : decode cX4_restore 55 = .ok (.sipush 151, 3) := by decide +kernel
theorem dX4_restore_58 : decode cX4_restore 58 = .ok (.imul, 1) := by decide +kernel
theorem dX4_restore_59 : decode cX4_restore 59 = .ok (.iload_n 2, 1) := by decide +kernel
theorem dX4_restore_60 : decode cX4_restore 60 = .ok (.iadd, 1) := by decide +kernel
theorem dX4_restore_61 : decode cX4_restore 61 = .ok (.iaload, 1) := by decide +kernel
theorem dX4_restore_62 : decode cX4_restore 62 = .ok (.iastore, 1) := by decide +kernel
theorem dX4_restore_63 : decode cX4_restore 63 = .ok (.iinc 2 1, 3) := by decide +kernel
theorem dX4_restore_66 : decode cX4_restore 66 = .ok (.goto (-28), 3) := by decide +kernel
theorem dX4_restore_69 : decode cX4_restore 69 = .ok (.aload_n 0, 1) := by decide +kernel
theorem dX4_restore_70 : decode cX4_restore 70 = .ok (.aload_n 0, 1) := by decide +kernel
theorem dX4_restore_71 : decode cX4_restore 71 = .ok (.getfield 13, 3) := by decide +kernel
theorem dX4_restore_74 : decode cX4_restore 74 = .ok (.iconst 0, 1) := by decide +kernel
theorem dX4_restore_75 : decode cX4_restore 75 = .ok (.iaload, 1) := by decide +kernel
theorem dX4_restore_76 : decode cX4_restore 76 = .ok (.invokevirtual 199, 3) := by decide +kernel
theorem dX4_restore_79 : decode cX4_restore 79 = .ok (.ireturn, 1) := by decide +kernel
theorem dX4_undo_0 : decode cX4_undo 0 = .ok (.aload_n 0, 1) := by decide +kernel
theorem dX4_undo_1 : decode cX4_undo 1 = .ok (.getfield 106, 3) := by decide +kernel
theorem dX4_undo_4 : decode cX4_undo 4 = .ok (.ifCond .ne 9, 3) := by decide +kernel
theorem dX4_undo_7 : decode cX4_undo 7 = .ok (.aload_n 0, 1) := by decide +kernel
theorem dX4_undo_8 : decode cX4_undo 8 = .ok (.iconst 1, 1) := by decide +kernel
theorem dX4_undo_9 : decode cX4_undo 9 = .ok (.invokevirtual 193, 3) := by decide +kernel
theorem dX4_undo_12 : decode cX4_undo 12 = .ok (.ireturn, 1) := by decide +kernel
theorem dX4_undo_13 : decode cX4_undo 13 = .ok (.aload_n 0, 1) := by decide +kernel
theorem dX4_undo_14 : decode cX4_undo 14 = .ok (.dup, 1) := by decide +kernel
theorem dX4_undo_15 : decode cX4_undo 15 = .ok (.getfield 106, 3) := by decide +kernel
theorem dX4_undo_18 : decode cX4_undo 18 = .ok (.iconst 1, 1) := by decide +kernel
theorem dX4_undo_19 : decode cX4_undo 19 = .ok (.isub, 1) := by decide +kernel
theorem dX4_undo_20 : decode cX4_undo 20 = .ok (.putfield 106, 3) := by decide +kernel
theorem dX4_undo_23 : decode cX4_undo 23 = .ok (.iconst 0, 1) := by decide +kernel
theorem dX4_undo_24 : decode cX4_undo 24 = .ok (.istore_n 1, 1) := by decide +kernel
theorem dX4_undo_25 : decode cX4_undo 25 = .ok (.iload_n 1, 1) := by decide +kernel
theorem dX4_undo_26 : decode cX4_undo 26 = .ok (.sipush 151, 3) := by decide +kernel
theorem dX4_undo_29 : decode cX4_undo 29 = .ok (.if_icmp .ge 30, 3) := by decide +kernel
theorem dX4_undo_32 : decode cX4_undo 32 = .ok (.aload_n 0, 1) := by decide +kernel
theorem dX4_undo_33 : decode cX4_undo 33 = .ok (.getfield 13, 3) := by decide +kernel
theorem dX4_undo_36 : decode cX4_undo 36 = .ok (.iload_n 1, 1) := by decide +kernel
theorem dX4_undo_37 : decode cX4_undo 37 = .ok (.aload_n 0, 1) := by decide +kernel
theorem dX4_undo_38 : decode cX4_undo 38 = .ok (.getfield 19, 3) := by decide +kernel
theorem dX4_undo_41 : decode cX4_undo 41 = .ok (.aload_n 0, 1) := by decide +kernel
theorem dX4_undo_42 : decode cX4_undo 42 = .ok (.getfield 106, 3) := by decide +kernel
theorem dX4_undo_45 : decode cX4_undo 45 = .ok (.sipush 151, 3) := by decide +kernel
theorem dX4_undo_48 : decode cX4_undo 48 = .ok (.imul, 1) := by decide +kernel
theorem dX4_undo_49 : decode cX4_undo 49 = .ok (.iload_n 1, 1) := by decide +kernel
theorem dX4_undo_50 : decode cX4_undo 50 = .ok (.iadd, 1) := by decide +kernel
theorem dX4_undo_51 : decode cX4_undo 51 = .ok (.iaload, 1) := by decide +kernel
theorem dX4_undo_52 : decode cX4_undo 52 = .ok (.iastore, 1) := by decide +kernel
theorem dX4_undo_53 : decode cX4_undo 53 = .ok (.iinc 1 1, 3) := by decide +kernel
theorem dX4_undo_56 : decode cX4_undo 56 = .ok (.goto (-31), 3) := by decide +kernel
theorem dX4_undo_59 : decode cX4_undo 59 = .ok (.aload_n 0, 1) := by decide +kernel
theorem dX4_undo_60 : decode cX4_undo 60 = .ok (.aload_n 0, 1) := by decide +kernel
theorem dX4_undo_61 : decode cX4_undo 61 = .ok (.getfield 106, 3) := by decide +kernel
theorem dX4_undo_64 : decode cX4_undo 64 = .ok (.invokevirtual 199, 3) := by decide +kernel
theorem dX4_undo_67 : decode cX4_undo 67 = .ok (.ireturn, 1) := by decide +kernel
theorem dX4_save_0 : decode cX4_save 0 = .ok (.iload_n 1, 1) := by decide +kernel
theorem dX4_save_1 : decode cX4_save 1 = .ok (.iconst 0, 1) := by decide +kernel
theorem dX4_save_2 : decode cX4_save 2 = .ok (.iconst 1, 1) := by decide +kernel
theorem dX4_save_3 : decode cX4_save 3 = .ok (.invokestatic 67, 3) := by decide +kernel
theorem dX4_save_6 : decode cX4_save 6 = .ok (.ifCond .ne 9, 3) := by decide +kernel
theorem dX4_save_9 : decode cX4_save 9 = .ok (.aload_n 0, 1) := by decide +kernel
theorem dX4_save_10 : decode cX4_save 10 = .ok (.iconst 1, 1) := by decide +kernel
theorem dX4_save_11 : decode cX4_save 11 = .ok (.invokevirtual 193, 3) := by decide +kernel
theorem dX4_save_14 : decode cX4_save 14 = .ok (.ireturn, 1) := by decide +kernel
theorem dX4_save_15 : decode cX4_save 15 = .ok (.iconst 0, 1) := by decide +kernel
theorem dX4_save_16 : decode cX4_save 16 = .ok (.istore_n 2, 1) := by decide +kernel
theorem dX4_save_17 : decode cX4_save 17 = .ok (.iload_n 2, 1) := by decide +kernel
theorem dX4_save_18 : decode cX4_save 18 = .ok (.sipush 151, 3) := by decide +kernel
theorem dX4_save_21 : decode cX4_save 21 = .ok (.if_icmp .ge 27, 3) := by decide +kernel
theorem dX4_save_24 : decode cX4_save 24 = .ok (.aload_n 0, 1) := by decide +kernel
theorem dX4_save_25 : decode cX4_save 25 = .ok (.getfield 22, 3) := by decide +kernel
theorem dX4_save_28 : decode cX4_save 28 = .ok (.iload_n 1, 1) := by decide +kernel
theorem dX4_save_29 : decode cX4_save 29 = .ok (.sipush 151, 3) := by decide +kernel
theorem dX4_save_32 : decode cX4_save 32 = .ok (.imul, 1) := by decide +kernel
theorem dX4_save_33 : decode cX4_save 33 = .ok (.iload_n 2, 1) := by decide +kernel
theorem dX4_save_34 : decode cX4_save 34 = .ok (.iadd, 1) := by decide +kernel
theorem dX4_save_35 : decode cX4_save 35 = .ok (.aload_n 0, 1) := by decide +kernel
theorem dX4_save_36 : decode cX4_save 36 = .ok (.getfield 13, 3) := by decide +kernel
theorem dX4_save_39 : decode cX4_save 39 = .ok (.iload_n 2, 1) := by decide +kernel
theorem dX4_save_40 : decode cX4_save 40 = .ok (.iaload, 1) := by decide +kernel
theorem dX4_save_41 : decode cX4_save 41 = .ok (.iastore, 1) := by decide +kernel
theorem dX4_save_42 : decode cX4_save 42 = .ok (.iinc 2 1, 3) := by decide +kernel
theorem dX4_save_45 : decode cX4_save 45 = .ok (.goto (-28), 3) := by decide +kernel
theorem dX4_save_48 : decode cX4_save 48 = .ok (.aload_n 0, 1) := by decide +kernel
theorem dX4_save_49 : decode cX4_save 49 = .ok (.dup, 1) := by decide +kernel
theorem dX4_save_50 : decode cX4_save 50 = .ok (.getfield 214, 3) := by decide +kernel
theorem dX4_save_53 : decode cX4_save 53 = .ok (.iconst 1, 1) := by decide +kernel
theorem dX4_save_54 : decode cX4_save 54 = .ok (.iload_n 1, 1) := by decide +kernel
theorem dX4_save_55 : decode cX4_save 55 = .ok (.ishl, 1) := by decide +kernel
theorem dX4_save_56 : decode cX4_save 56 = .ok (.ior, 1) := by decide +kernel
theorem dX4_save_57 : decode cX4_save 57 = .ok (.putfield 214, 3) := by decide +kernel
theorem dX4_save_60 : decode cX4_save 60 = .ok (.aload_n 0, 1) := by decide +kernel
theorem dX4_save_61 : decode cX4_save 61 = .ok (.aload_n 0, 1) := by decide +kernel
theorem dX4_save_62 : decode cX4_save 62 = .ok (.getfield 13, 3) := by decide +kernel
theorem dX4_save_65 : decode cX4_save 65 = .ok (.iconst 0, 1) := by decide +kernel
theorem dX4_save_66 : decode cX4_save 66 = .ok (.iaload, 1) := by decide +kernel
theorem dX4_save_67 : decode cX4_save 67 = .ok (.invokevirtual 199, 3) := by decide +kernel
theorem dX4_save_70 : decode cX4_save 70 = .ok (.ireturn, 1) := by decide +kernel
theorem dX4_writes_0 : decode cX4_writes 0 = .ok (.aload_n 0, 1) := by decide +kernel
theorem dX4_writes_1 : decode cX4_writes 1 = .ok (.getfield 32, 3) := by decide +kernel
theorem dX4_writes_4 : decode cX4_writes 4 = .ok (.aload_n 0, 1) := by decide +kernel
theorem dX4_writes_5 : decode cX4_writes 5 = .ok (.getfield 257, 3) := by decide +kernel
theorem dX4_writes_8 : decode cX4_writes 8 = .ok (.iload_n 1, 1) := by decide +kernel
theorem dX4_writes_9 : decode cX4_writes 9 = .ok (.i2b, 1) := by decide +kernel
theorem dX4_writes_10 : decode cX4_writes 10 = .ok (.bastore, 1) := by decide +kernel
theorem dX4_writes_11 : decode cX4_writes 11 = .ok (.aload_n 0, 1) := by decide +kernel
theorem dX4_writes_12 : decode cX4_writes 12 = .ok (.dup, 1) := by decide +kernel
theorem dX4_writes_13 : decode cX4_writes 13 = .ok (.getfield 257, 3) := by decide +kernel
theorem dX4_writes_16 : decode cX4_writes 16 = .ok (.iconst 1, 1) := by decide +kernel
theorem dX4_writes_17 : decode cX4_writes 17 = .ok (.iadd, 1) := by decide +kernel
theorem dX4_writes_18 : decode cX4_writes 18 = .ok (.putfield 257, 3) := by decide +kernel
theorem dX4_writes_21 : decode cX4_writes 21 = .ok (.return_, 1) := by decide +kernel
theorem dX4_writesNumber_0 : decode cX4_writesNumber 0 = .ok (.iconst 1, 1) := by decide +kernel
theorem dX4_writesNumber_1 : decode cX4_writesNumber 1 = .ok (.istore_n 2, 1) := by decide +kernel
theorem dX4_writesNumber_2 : decode cX4_writesNumber 2 = .ok (.iload_n 1, 1) := by decide +kernel
theorem dX4_writesNumber_3 : decode cX4_writesNumber 3 = .ok (.iload_n 2, 1) := by decide +kernel
theorem dX4_writesNumber_4 : decode cX4_writesNumber 4 = .ok (.idiv, 1) := by decide +kernel
theorem dX4_writesNumber_5 : decode cX4_writesNumber 5 = .ok (.bipush 9, 2) := by decide +kernel
theorem dX4_writesNumber_7 : decode cX4_writesNumber 7 = .ok (.if_icmp .le 11, 3) := by decide +kernel
theorem dX4_writesNumber_10 : decode cX4_writesNumber 10 = .ok (.iload_n 2, 1) := by decide +kernel
theorem dX4_writesNumber_11 : decode cX4_writesNumber 11 = .ok (.bipush 10, 2) := by decide +kernel
theorem dX4_writesNumber_13 : decode cX4_writesNumber 13 = .ok (.imul, 1) := by decide +kernel
theorem dX4_writesNumber_14 : decode cX4_writesNumber 14 = .ok (.istore_n 2, 1) := by decide +kernel
theorem dX4_writesNumber_15 : decode cX4_writesNumber 15 = .ok (.goto (-13), 3) := by decide +kernel
theorem dX4_writesNumber_18 : decode cX4_writesNumber 18 = .ok (.iload_n 2, 1) := by decide +kernel
theorem dX4_writesNumber_19 : decode cX4_writesNumber 19 = .ok (.ifCond .le 24, 3) := by decide +kernel
theorem dX4_writesNumber_22 : decode cX4_writesNumber 22 = .ok (.aload_n 0, 1) := by decide +kernel
theorem dX4_writesNumber_23 : decode cX4_writesNumber 23 = .ok (.bipush 48, 2) := by decide +kernel
theorem dX4_writesNumber_25 : decode cX4_writesNumber 25 = .ok (.iload_n 1, 1) := by decide +kernel
theorem dX4_writesNumber_26 : decode cX4_writesNumber 26 = .ok (.iload_n 2, 1) := by decide +kernel
theorem dX4_writesNumber_27 : decode cX4_writesNumber 27 = .ok (.idiv, 1) := by decide +kernel
theorem dX4_writesNumber_28 : decode cX4_writesNumber 28 = .ok (.bipush 10, 2) := by decide +kernel
theorem dX4_writesNumber_30 : decode cX4_writesNumber 30 = .ok (.irem, 1) := by decide +kernel
theorem dX4_writesNumber_31 : decode cX4_writesNumber 31 = .ok (.iadd, 1) := by decide +kernel
theorem dX4_writesNumber_32 : decode cX4_writesNumber 32 = .ok (.invokevirtual 260, 3) := by decide +kernel
theorem dX4_writesNumber_35 : decode cX4_writesNumber 35 = .ok (.iload_n 2, 1) := by decide +kernel
theorem dX4_writesNumber_36 : decode cX4_writesNumber 36 = .ok (.bipush 10, 2) := by decide +kernel
theorem dX4_writesNumber_38 : decode cX4_writesNumber 38 = .ok (.idiv, 1) := by decide +kernel
theorem dX4_writesNumber_39 : decode cX4_writesNumber 39 = .ok (.istore_n 2, 1) := by decide +kernel
theorem dX4_writesNumber_40 : decode cX4_writesNumber 40 = .ok (.goto (-22), 3) := by decide +kernel
theorem dX4_writesNumber_43 : decode cX4_writesNumber 43 = .ok (.return_, 1) := by decide +kernel
theorem dX4_writeChild_0 : decode cX4_writeChild 0 = .ok (.aload_n 0, 1) := by decide +kernel
theorem dX4_writeChild_1 : decode cX4_writeChild 1 = .ok (.iload_n 1, 1) := by decide +kernel
theorem dX4_writeChild_2 : decode cX4_writeChild 2 = .ok (.invokevirtual 227, 3) := by decide +kernel
theorem dX4_writeChild_5 : decode cX4_writeChild 5 = .ok (.ifCond .ne 9, 3) := by decide +kernel
theorem dX4_writeChild_8 : decode cX4_writeChild 8 = .ok (.aload_n 0, 1) := by decide +kernel
theorem dX4_writeChild_9 : decode cX4_writeChild 9 = .ok (.iconst 1, 1) := by decide +kernel
theorem dX4_writeChild_10 : decode cX4_writeChild 10 = .ok (.invokevirtual 193, 3) := by decide +kernel
theorem dX4_writeChild_13 : decode cX4_writeChild 13 = .ok (.ireturn, 1) := by decide +kernel
theorem dX4_writeChild_14 : decode cX4_writeChild 14 = .ok (.iload_n 1, 1) := by decide +kernel
theorem dX4_writeChild_15 : decode cX4_writeChild 15 = .ok (.invokestatic 50, 3) := by decide +kernel
theorem dX4_writeChild_18 : decode cX4_writeChild 18 = .ok (.istore_n 2, 1) := by decide +kernel
theorem dX4_writeChild_19 : decode cX4_writeChild 19 = .ok (.aload_n 0, 1) := by decide +kernel
theorem dX4_writeChild_20 : decode cX4_writeChild 20 = .ok (.iconst 0, 1) := by decide +kernel
theorem dX4_writeChild_21 : decode cX4_writeChild 21 = .ok (.putfield 257, 3) := by decide +kernel
theorem dX4_writeChild_24 : decode cX4_writeChild 24 = .ok (.iconst 0, 1) := by decide +kernel
theorem dX4_writeChild_25 : decode cX4_writeChild 25 = .ok (.istore_n 3, 1) := by decide +kernel
theorem dX4_writeChild_26 : decode cX4_writeChild 26 = .ok (.iload_n 3, 1) := by decide +kernel
theorem dX4_writeChild_27 : decode cX4_writeChild 27 = .ok (.bipush 6, 2) := by decide +kernel
theorem dX4_writeChild_29 : decode cX4_writeChild 29 = .ok (.if_icmp .ge 38, 3) := by decide +kernel
theorem dX4_writeChild_32 : decode cX4_writeChild 32 = .ok (.aload_n 0, 1) := by decide +kernel
theorem dX4_writeChild_33 : decode cX4_writeChild 33 = .ok (.getfield 13, 3) := by decide +kernel
theorem dX4_writeChild_36 : decode cX4_writeChild 36 = .ok (.iload_n 2, 1) := by decide +kernel
theorem dX4_writeChild_37 : decode cX4_writeChild 37 = .ok (.bipush 7, 2) := by decide +kernel
theorem dX4_writeChild_39 : decode cX4_writeChild 39 = .ok (.iadd, 1) := by decide +kernel
theorem dX4_writeChild_40 : decode cX4_writeChild 40 = .ok (.iload_n 3, 1) := by decide +kernel
theorem dX4_writeChild_41 : decode cX4_writeChild 41 = .ok (.iadd, 1) := by decide +kernel
theorem dX4_writeChild_42 : decode cX4_writeChild 42 = .ok (.iaload, 1) := by decide +kernel
theorem dX4_writeChild_43 : decode cX4_writeChild 43 = .ok (.ifCond .eq 24, 3) := by decide +kernel
theorem dX4_writeChild_46 : decode cX4_writeChild 46 = .ok (.aload_n 0, 1) := by decide +kernel
theorem dX4_writeChild_47 : decode cX4_writeChild 47 = .ok (.aload_n 0, 1) := by decide +kernel
theorem dX4_writeChild_48 : decode cX4_writeChild 48 = .ok (.getfield 13, 3) := by decide +kernel
theorem dX4_writeChild_51 : decode cX4_writeChild 51 = .ok (.iload_n 2, 1) := by decide +kernel
theorem dX4_writeChild_52 : decode cX4_writeChild 52 = .ok (.bipush 7, 2) := by decide +kernel
theorem dX4_writeChild_54 : decode cX4_writeChild 54 = .ok (.iadd, 1) := by decide +kernel
theorem dX4_writeChild_55 : decode cX4_writeChild 55 = .ok (.iload_n 3, 1) := by decide +kernel
theorem dX4_writeChild_56 : decode cX4_writeChild 56 = .ok (.iadd, 1) := by decide +kernel
theorem dX4_writeChild_57 : decode cX4_writeChild 57 = .ok (.iaload, 1) := by decide +kernel
theorem dX4_writeChild_58 : decode cX4_writeChild 58 = .ok (.invokevirtual 260, 3) := by decide +kernel
theorem dX4_writeChild_61 : decode cX4_writeChild 61 = .ok (.iinc 3 1, 3) := by decide +kernel
theorem dX4_writeChild_64 : decode cX4_writeChild 64 = .ok (.goto (-38), 3) := by decide +kernel
theorem dX4_writeChild_67 : decode cX4_writeChild 67 = .ok (.aload_n 0, 1) := by decide +kernel
theorem dX4_writeChild_68 : decode cX4_writeChild 68 = .ok (.bipush 32, 2) := by decide +kernel
theorem dX4_writeChild_70 : decode cX4_writeChild 70 = .ok (.invokevirtual 260, 3) := by decide +kernel
theorem dX4_writeChild_73 : decode cX4_writeChild 73 = .ok (.aload_n 0, 1) := by decide +kernel
theorem dX4_writeChild_74 : decode cX4_writeChild 74 = .ok (.aload_n 0, 1) := by decide +kernel
theorem dX4_writeChild_75 : decode cX4_writeChild 75 = .ok (.getfield 13, 3) := by decide +kernel
theorem dX4_writeChild_78 : decode cX4_writeChild 78 = .ok (.iload_n 2, 1) := by decide +kernel
theorem dX4_writeChild_79 : decode cX4_writeChild 79 = .ok (.iconst 2, 1) := by decide +kernel
theorem dX4_writeChild_80 : decode cX4_writeChild 80 = .ok (.iadd, 1) := by decide +kernel
theorem dX4_writeChild_81 : decode cX4_writeChild 81 = .ok (.iaload, 1) := by decide +kernel
theorem dX4_writeChild_82 : decode cX4_writeChild 82 = .ok (.invokevirtual 263, 3) := by decide +kernel
theorem dX4_writeChild_85 : decode cX4_writeChild 85 = .ok (.aload_n 0, 1) := by decide +kernel
theorem dX4_writeChild_86 : decode cX4_writeChild 86 = .ok (.iload_n 1, 1) := by decide +kernel
theorem dX4_writeChild_87 : decode cX4_writeChild 87 = .ok (.invokevirtual 233, 3) := by decide +kernel
theorem dX4_writeChild_90 : decode cX4_writeChild 90 = .ok (.ifCond .eq 49, 3) := by decide +kernel
theorem dX4_writeChild_93 : decode cX4_writeChild 93 = .ok (.aload_n 0, 1) := by decide +kernel
theorem dX4_writeChild_94 : decode cX4_writeChild 94 = .ok (.bipush 32, 2) := by decide +kernel
theorem dX4_writeChild_96 : decode cX4_writeChild 96 = .ok (.invokevirtual 260, 3) := by decide +kernel
theorem dX4_writeChild_99 : decode cX4_writeChild 99 = .ok (.aload_n 0, 1) := by decide +kernel
theorem dX4_writeChild_100 : decode cX4_writeChild 100 = .ok (.aload_n 0, 1) := by decide +kernel
theorem dX4_writeChild_101 : decode cX4_writeChild 101 = .ok (.getfield 13, 3) := by decide +kernel
theorem dX4_writeChild_104 : decode cX4_writeChild 104 = .ok (.iload_n 2, 1) := by decide +kernel
theorem dX4_writeChild_105 : decode cX4_writeChild 105 = .ok (.iconst 4, 1) := by decide +kernel
theorem dX4_writeChild_106 : decode cX4_writeChild 106 = .ok (.iadd, 1) := by decide +kernel
theorem dX4_writeChild_107 : decode cX4_writeChild 107 = .ok (.iaload, 1) := by decide +kernel
theorem dX4_writeChild_108 : decode cX4_writeChild 108 = .ok (.bipush 30, 2) := by decide +kernel
theorem dX4_writeChild_110 : decode cX4_writeChild 110 = .ok (.idiv, 1) := by decide +kernel
theorem dX4_writeChild_111 : decode cX4_writeChild 111 = .ok (.iconst 1, 1) := by decide +kernel
theorem dX4_writeChild_112 : decode cX4_writeChild 112 = .ok (.iadd, 1) := by decide +kernel
theorem dX4_writeChild_113 : decode cX4_writeChild 113 = .ok (.invokevirtual 263, 3) := by decide +kernel
theorem dX4_writeChild_116 : decode cX4_writeChild 116 = .ok (.aload_n 0, 1) := by decide +kernel
theorem dX4_writeChild_117 : decode cX4_writeChild 117 = .ok (.bipush 47, 2) := by decide +kernel
theorem dX4_writeChild_119 : decode cX4_writeChild 119 = .ok (.invokevirtual 260, 3) := by decide +kernel
theorem dX4_writeChild_122 : decode cX4_writeChild 122 = .ok (.aload_n 0, 1) := by decide +kernel
theorem dX4_writeChild_123 : decode cX4_writeChild 123 = .ok (.aload_n 0, 1) := by decide +kernel
theorem dX4_writeChild_124 : decode cX4_writeChild 124 = .ok (.getfield 13, 3) := by decide +kernel
theorem dX4_writeChild_127 : decode cX4_writeChild 127 = .ok (.iload_n 2, 1) := by decide +kernel
theorem dX4_writeChild_128 : decode cX4_writeChild 128 = .ok (.iconst 4, 1) := by decide +kernel
theorem dX4_writeChild_129 : decode cX4_writeChild 129 = .ok (.iadd, 1) := by decide +kernel
theorem dX4_writeChild_130 : decode cX4_writeChild 130 = .ok (.iaload, 1) := by decide +kernel
theorem dX4_writeChild_131 : decode cX4_writeChild 131 = .ok (.bipush 30, 2) := by decide +kernel
theorem dX4_writeChild_133 : decode cX4_writeChild 133 = .ok (.irem, 1) := by decide +kernel
theorem dX4_writeChild_134 : decode cX4_writeChild 134 = .ok (.iconst 1, 1) := by decide +kernel
theorem dX4_writeChild_135 : decode cX4_writeChild 135 = .ok (.iadd, 1) := by decide +kernel
theorem dX4_writeChild_136 : decode cX4_writeChild 136 = .ok (.invokevirtual 263, 3) := by decide +kernel
theorem dX4_writeChild_139 : decode cX4_writeChild 139 = .ok (.aload_n 0, 1) := by decide +kernel
theorem dX4_writeChild_140 : decode cX4_writeChild 140 = .ok (.aload_n 0, 1) := by decide +kernel
theorem dX4_writeChild_141 : decode cX4_writeChild 141 = .ok (.getfield 257, 3) := by decide +kernel
theorem dX4_writeChild_144 : decode cX4_writeChild 144 = .ok (.invokevirtual 199, 3) := by decide +kernel
theorem dX4_writeChild_147 : decode cX4_writeChild 147 = .ok (.ireturn, 1) := by decide +kernel
theorem dX4_writeDate_0 : decode cX4_writeDate 0 = .ok (.aload_n 0, 1) := by decide +kernel
theorem dX4_writeDate_1 : decode cX4_writeDate 1 = .ok (.iconst 0, 1) := by decide +kernel
theorem dX4_writeDate_2 : decode cX4_writeDate 2 = .ok (.putfield 257, 3) := by decide +kernel
theorem dX4_writeDate_5 : decode cX4_writeDate 5 = .ok (.aload_n 0, 1) := by decide +kernel
theorem dX4_writeDate_6 : decode cX4_writeDate 6 = .ok (.aload_n 0, 1) := by decide +kernel
theorem dX4_writeDate_7 : decode cX4_writeDate 7 = .ok (.getfield 13, 3) := by decide +kernel
theorem dX4_writeDate_10 : decode cX4_writeDate 10 = .ok (.iconst 1, 1) := by decide +kernel
theorem dX4_writeDate_11 : decode cX4_writeDate 11 = .ok (.iaload, 1) := by decide +kernel
theorem dX4_writeDate_12 : decode cX4_writeDate 12 = .ok (.bipush 30, 2) := by decide +kernel
theorem dX4_writeDate_14 : decode cX4_writeDate 14 = .ok (.irem, 1) := by decide +kernel
theorem dX4_writeDate_15 : decode cX4_writeDate 15 = .ok (.iconst 1, 1) := by decide +kernel
theorem dX4_writeDate_16 : decode cX4_writeDate 16 = .ok (.iadd, 1) := by decide +kernel
theorem dX4_writeDate_17 : decode cX4_writeDate 17 = .ok (.invokevirtual 263, 3) := by decide +kernel
theorem dX4_writeDate_20 : decode cX4_writeDate 20 = .ok (.aload_n 0, 1) := by decide +kernel
theorem dX4_writeDate_21 : decode cX4_writeDate 21 = .ok (.bipush 46, 2) := by decide +kernel
theorem dX4_writeDate_23 : decode cX4_writeDate 23 = .ok (.invokevirtual 260, 3) := by decide +kernel
theorem dX4_writeDate_26 : decode cX4_writeDate 26 = .ok (.aload_n 0, 1) := by decide +kernel
theorem dX4_writeDate_27 : decode cX4_writeDate 27 = .ok (.aload_n 0, 1) := by decide +kernel
theorem dX4_writeDate_28 : decode cX4_writeDate 28 = .ok (.getfield 13, 3) := by decide +kernel
theorem dX4_writeDate_31 : decode cX4_writeDate 31 = .ok (.iconst 1, 1) := by decide +kernel
theorem dX4_writeDate_32 : decode cX4_writeDate 32 = .ok (.iaload, 1) := by decide +kernel
theorem dX4_writeDate_33 : decode cX4_writeDate 33 = .ok (.bipush 30, 2) := by decide +kernel
theorem dX4_writeDate_35 : decode cX4_writeDate 35 = .ok (.idiv, 1) := by decide +kernel
theorem dX4_writeDate_36 : decode cX4_writeDate 36 = .ok (.iconst 1, 1) := by decide +kernel
theorem dX4_writeDate_37 : decode cX4_writeDate 37 = .ok (.iadd, 1) := by decide +kernel
theorem dX4_writeDate_38 : decode cX4_writeDate 38 = .ok (.invokevirtual 263, 3) := by decide +kernel
theorem dX4_writeDate_41 : decode cX4_writeDate 41 = .ok (.aload_n 0, 1) := by decide +kernel
theorem dX4_writeDate_42 : decode cX4_writeDate 42 = .ok (.bipush 46, 2) := by decide +kernel
theorem dX4_writeDate_44 : decode cX4_writeDate 44 = .ok (.invokevirtual 260, 3) := by decide +kernel
theorem dX4_writeDate_47 : decode cX4_writeDate 47 = .ok (.aload_n 0, 1) := by decide +kernel
theorem dX4_writeDate_48 : decode cX4_writeDate 48 = .ok (.aload_n 0, 1) := by decide +kernel
theorem dX4_writeDate_49 : decode cX4_writeDate 49 = .ok (.getfield 13, 3) := by decide +kernel
theorem dX4_writeDate_52 : decode cX4_writeDate 52 = .ok (.iconst 0, 1) := by decide +kernel
theorem dX4_writeDate_53 : decode cX4_writeDate 53 = .ok (.iaload, 1) := by decide +kernel
theorem dX4_writeDate_54 : decode cX4_writeDate 54 = .ok (.invokevirtual 263, 3) := by decide +kernel
theorem dX4_writeDate_57 : decode cX4_writeDate 57 = .ok (.aload_n 0, 1) := by decide +kernel
theorem dX4_writeDate_58 : decode cX4_writeDate 58 = .ok (.aload_n 0, 1) := by decide +kernel
theorem dX4_writeDate_59 : decode cX4_writeDate 59 = .ok (.getfield 257, 3) := by decide +kernel
theorem dX4_writeDate_62 : decode cX4_writeDate 62 = .ok (.invokevirtual 199, 3) := by decide +kernel
theorem dX4_writeDate_65 : decode cX4_writeDate 65 = .ok (.ireturn, 1) := by decide +kernel
theorem dX4_outputByte_0 : decode cX4_outputByte 0 = .ok (.iload_n 1, 1) := by decide +kernel
theorem dX4_outputByte_1 : decode cX4_outputByte 1 = .ok (.iconst 0, 1) := by decide +kernel
theorem dX4_outputByte_2 : decode cX4_outputByte 2 = .ok (.aload_n 0, 1) := by decide +kernel
theorem dX4_outputByte_3 : decode cX4_outputByte 3 = .ok (.getfield 257, 3) := by decide +kernel
theorem dX4_outputByte_6 : decode cX4_outputByte 6 = .ok (.iconst 1, 1) := by decide +kernel
theorem dX4_outputByte_7 : decode cX4_outputByte 7 = .ok (.isub, 1) := by decide +kernel
theorem dX4_outputByte_8 : decode cX4_outputByte 8 = .ok (.invokestatic 67, 3) := by decide +kernel
theorem dX4_outputByte_11 : decode cX4_outputByte 11 = .ok (.ifCond .ne 9, 3) := by decide +kernel
theorem dX4_outputByte_14 : decode cX4_outputByte 14 = .ok (.aload_n 0, 1) := by decide +kernel
theorem dX4_outputByte_15 : decode cX4_outputByte 15 = .ok (.iconst 1, 1) := by decide +kernel
theorem dX4_outputByte_16 : decode cX4_outputByte 16 = .ok (.invokevirtual 193, 3) := by decide +kernel
theorem dX4_outputByte_19 : decode cX4_outputByte 19 = .ok (.ireturn, 1) := by decide +kernel
theorem dX4_outputByte_20 : decode cX4_outputByte 20 = .ok (.aload_n 0, 1) := by decide +kernel
theorem dX4_outputByte_21 : decode cX4_outputByte 21 = .ok (.aload_n 0, 1) := by decide +kernel
theorem dX4_outputByte_22 : decode cX4_outputByte 22 = .ok (.getfield 32, 3) := by decide +kernel
theorem dX4_outputByte_25 : decode cX4_outputByte 25 = .ok (.iload_n 1, 1) := by decide +kernel
theorem dX4_outputByte_26 : decode cX4_outputByte 26 = .ok (.baload, 1) := by decide +kernel
theorem dX4_outputByte_27 : decode cX4_outputByte 27 = .ok (.invokevirtual 199, 3) := by decide +kernel
theorem dX4_outputByte_30 : decode cX4_outputByte 30 = .ok (.ireturn, 1) := by decide +kernel

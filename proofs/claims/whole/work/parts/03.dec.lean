theorem dX7_init_0 : decode cX7_init 0 = .ok (.aload_n 0, 1) := by decide +kernel
theorem dX7_init_1 : decode cX7_init 1 = .ok (.invokespecial 1, 3) := by decide +kernel
theorem dX7_init_4 : decode cX7_init 4 = .ok (.aload_n 0, 1) := by decide +kernel
theorem dX7_init_5 : decode cX7_init 5 = .ok (.sipush 318, 3) := by decide +kernel
theorem dX7_init_8 : decode cX7_init 8 = .ok (.newarray .int, 2) := by decide +kernel
theorem dX7_init_10 : decode cX7_init 10 = .ok (.putfield 7, 3) := by decide +kernel
theorem dX7_init_13 : decode cX7_init 13 = .ok (.aload_n 0, 1) := by decide +kernel
theorem dX7_init_14 : decode cX7_init 14 = .ok (.bipush 53, 2) := by decide +kernel
theorem dX7_init_16 : decode cX7_init 16 = .ok (.newarray .int, 2) := by decide +kernel
theorem dX7_init_18 : decode cX7_init 18 = .ok (.putfield 13, 3) := by decide +kernel
theorem dX7_init_21 : decode cX7_init 21 = .ok (.aload_n 0, 1) := by decide +kernel
theorem dX7_init_22 : decode cX7_init 22 = .ok (.sipush 160, 3) := by decide +kernel
theorem dX7_init_25 : decode cX7_init 25 = .ok (.newarray .int, 2) := by decide +kernel
theorem dX7_init_27 : decode cX7_init 27 = .ok (.putfield 16, 3) := by decide +kernel
theorem dX7_init_30 : decode cX7_init 30 = .ok (.aload_n 0, 1) := by decide +kernel
theorem dX7_init_31 : decode cX7_init 31 = .ok (.bipush 8, 2) := by decide +kernel
theorem dX7_init_33 : decode cX7_init 33 = .ok (.newarray .int, 2) := by decide +kernel
theorem dX7_init_35 : decode cX7_init 35 = .ok (.dup, 1) := by decide +kernel
theorem dX7_init_36 : decode cX7_init 36 = .ok (.iconst 0, 1) := by decide +kernel
theorem dX7_init_37 : decode cX7_init 37 = .ok (.iconst 0, 1) := by decide +kernel
theorem dX7_init_38 : decode cX7_init 38 = .ok (.iastore, 1) := by decide +kernel
theorem dX7_init_39 : decode cX7_init 39 = .ok (.dup, 1) := by decide +kernel
theorem dX7_init_40 : decode cX7_init 40 = .ok (.iconst 1, 1) := by decide +kernel
theorem dX7_init_41 : decode cX7_init 41 = .ok (.iconst 5, 1) := by decide +kernel
theorem dX7_init_42 : decode cX7_init 42 = .ok (.iastore, 1) := by decide +kernel
theorem dX7_init_43 : decode cX7_init 43 = .ok (.dup, 1) := by decide +kernel
theorem dX7_init_44 : decode cX7_init 44 = .ok (.iconst 2, 1) := by decide +kernel
theorem dX7_init_45 : decode cX7_init 45 = .ok (.bipush 8, 2) := by decide +kernel
theorem dX7_init_47 : decode cX7_init 47 = .ok (.iastore, 1) := by decide +kernel
theorem dX7_init_48 : decode cX7_init 48 = .ok (.dup, 1) := by decide +kernel
theorem dX7_init_49 : decode cX7_init 49 = .ok (.iconst 3, 1) := by decide +kernel
theorem dX7_init_50 : decode cX7_init 50 = .ok (.bipush 13, 2) := by decide +kernel
theorem dX7_init_52 : decode cX7_init 52 = .ok (.iastore, 1) := by decide +kernel
theorem dX7_init_53 : decode cX7_init 53 = .ok (.dup, 1) := by decide +kernel
theorem dX7_init_54 : decode cX7_init 54 = .ok (.iconst 4, 1) := by decide +kernel
theorem dX7_init_55 : decode cX7_init 55 = .ok (.bipush 18, 2) := by decide +kernel
theorem dX7_init_57 : decode cX7_init 57 = .ok (.iastore, 1) := by decide +kernel
theorem dX7_init_58 : decode cX7_init 58 = .ok (.dup, 1) := by decide +kernel
theorem dX7_init_59 : decode cX7_init 59 = .ok (.iconst 5, 1) := by decide +kernel
theorem dX7_init_60 : decode cX7_init 60 = .ok (.bipush 22, 2) := by decide +kernel
theorem dX7_init_62 : decode cX7_init 62 = .ok (.iastore, 1) := by decide +kernel
theorem dX7_init_63 : decode cX7_init 63 = .ok (.dup, 1) := by decide +kernel
theorem dX7_init_64 : decode cX7_init 64 = .ok (.bipush 6, 2) := by decide +kernel
theorem dX7_init_66 : decode cX7_init 66 = .ok (.bipush 26, 2) := by decide +kernel
theorem dX7_init_68 : decode cX7_init 68 = .ok (.iastore, 1) := by decide +kernel
theorem dX7_init_69 : decode cX7_init 69 = .ok (.dup, 1) := by decide +kernel
theorem dX7_init_70 : decode cX7_init 70 = .ok (.bipush 7, 2) := by decide +kernel
theorem dX7_init_72 : decode cX7_init 72 = .ok (.bipush 30, 2) := by decide +kernel
theorem dX7_init_74 : decode cX7_init 74 = .ok (.iastore, 1) := by decide +kernel
theorem dX7_init_75 : decode cX7_init 75 = .ok (.putfield 19, 3) := by decide +kernel
theorem dX7_init_78 : decode cX7_init 78 = .ok (.aload_n 0, 1) := by decide +kernel
theorem dX7_init_79 : decode cX7_init 79 = .ok (.bipush 30, 2) := by decide +kernel
theorem dX7_init_81 : decode cX7_init 81 = .ok (.newarray .int, 2) := by decide +kernel
theorem dX7_init_83 : decode cX7_init 83 = .ok (.dup, 1) := by decide +kernel
theorem dX7_init_84 : decode cX7_init 84 = .ok (.iconst 0, 1) := by decide +kernel
theorem dX7_init_85 : decode cX7_init 85 = .ok (.bipush 112, 2) := by decide +kernel
theorem dX7_init_87 : decode cX7_init 87 = .ok (.iastore, 1) := by decide +kernel
theorem dX7_init_88 : decode cX7_init 88 = .ok (.dup, 1) := by decide +kernel
theorem dX7_init_89 : decode cX7_init 89 = .ok (.iconst 1, 1) := by decide +kernel
theorem dX7_init_90 : decode cX7_init 90 = .ok (.bipush 108, 2) := by decide +kernel
theorem dX7_init_92 : decode cX7_init 92 = .ok (.iastore, 1) := by decide +kernel
theorem dX7_init_93 : decode cX7_init 93 = .ok (.dup, 1) := by decide +kernel
theorem dX7_init_94 : decode cX7_init 94 = .ok (.iconst 2, 1) := by decide +kernel
theorem dX7_init_95 : decode cX7_init 95 = .ok (.bipush 97, 2) := by decide +kernel
theorem dX7_init_97 : decode cX7_init 97 = .ok (.iastore, 1) := by decide +kernel
theorem dX7_init_98 : decode cX7_init 98 = .ok (.dup, 1) := by decide +kernel
theorem dX7_init_99 : decode cX7_init 99 = .ok (.iconst 3, 1) := by decide +kernel
theorem dX7_init_100 : decode cX7_init 100 = .ok (.bipush 105, 2) := by decide +kernel
theorem dX7_init_102 : decode cX7_init 102 = .ok (.iastore, 1) := by decide +kernel
theorem dX7_init_103 : decode cX7_init 103 = .ok (.dup, 1) := by decide +kernel
theorem dX7_init_104 : decode cX7_init 104 = .ok (.iconst 4, 1) := by decide +kernel
theorem dX7_init_105 : decode cX7_init 105 = .ok (.bipush 110, 2) := by decide +kernel
theorem dX7_init_107 : decode cX7_init 107 = .ok (.iastore, 1) := by decide +kernel
theorem dX7_init_108 : decode cX7_init 108 = .ok (.dup, 1) := by decide +kernel
theorem dX7_init_109 : decode cX7_init 109 = .ok (.iconst 5, 1) := by decide +kernel
theorem dX7_init_110 : decode cX7_init 110 = .ok (.bipush 115, 2) := by decide +kernel
theorem dX7_init_112 : decode cX7_init 112 = .ok (.iastore, 1) := by decide +kernel
theorem dX7_init_113 : decode cX7_init 113 = .ok (.dup, 1) := by decide +kernel
theorem dX7_init_114 : decode cX7_init 114 = .ok (.bipush 6, 2) := by decide +kernel
theorem dX7_init_116 : decode cX7_init 116 = .ok (.bipush 104, 2) := by decide +kernel
theorem dX7_init_118 : decode cX7_init 118 = .ok (.iastore, 1) := by decide +kernel
theorem dX7_init_119 : decode cX7_init 119 = .ok (.dup, 1) := by decide +kernel
theorem dX7_init_120 : decode cX7_init 120 = .ok (.bipush 7, 2) := by decide +kernel
theorem dX7_init_122 : decode cX7_init 122 = .ok (.bipush 121, 2) := by decide +kernel
theorem dX7_init_124 : decode cX7_init 124 = .ok (.iastore, 1) := by decide +kernel
theorem dX7_init_125 : decode cX7_init 125 = .ok (.dup, 1) := by decide +kernel
theorem dX7_init_126 : decode cX7_init 126 = .ok (.bipush 8, 2) := by decide +kernel
theorem dX7_init_128 : decode cX7_init 128 = .ok (.bipush 115, 2) := by decide +kernel
theorem dX7_init_130 : decode cX7_init 130 = .ok (.iastore, 1) := by decide +kernel
theorem dX7_init_131 : decode cX7_init 131 = .ok (.dup, 1) := by decide +kernel
theorem dX7_init_132 : decode cX7_init 132 = .ok (.bipush 9, 2) := by decide +kernel
theorem dX7_init_134 : decode cX7_init 134 = .ok (.bipush 117, 2) := by decide +kernel
theorem dX7_init_136 : decode cX7_init 136 = .ok (.iastore, 1) := by decide +kernel
theorem dX7_init_137 : decode cX7_init 137 = .ok (.dup, 1) := by decide +kernel
theorem dX7_init_138 : decode cX7_init 138 = .ok (.bipush 10, 2) := by decide +kernel
theorem dX7_init_140 : decode cX7_init 140 = .ok (.bipush 108, 2) := by decide +kernel
theorem dX7_init_142 : decode cX7_init 142 = .ok (.iastore, 1) := by decide +kernel
theorem dX7_init_143 : decode cX7_init 143 = .ok (.dup, 1) := by decide +kernel
theorem dX7_init_144 : decode cX7_init 144 = .ok (.bipush 11, 2) := by decide +kernel
theorem dX7_init_146 : decode cX7_init 146 = .ok (.bipush 107, 2) := by decide +kernel
theorem dX7_init_148 : decode cX7_init 148 = .ok (.iastore, 1) := by decide +kernel
theorem dX7_init_149 : decode cX7_init 149 = .ok (.dup, 1) := by decide +kernel
theorem dX7_init_150 : decode cX7_init 150 = .ok (.bipush 12, 2) := by decide +kernel
theorem dX7_init_152 : decode cX7_init 152 = .ok (.bipush 121, 2) := by decide +kernel
theorem dX7_init_154 : decode cX7_init 154 = .ok (.iastore, 1) := by decide +kernel
theorem dX7_init_155 : decode cX7_init 155 = .ok (.dup, 1) := by decide +kernel
theorem dX7_init_156 : decode cX7_init 156 = .ok (.bipush 13, 2) := by decide +kernel
theorem dX7_init_158 : decode cX7_init 158 = .ok (.bipush 102, 2) := by decide +kernel
theorem dX7_init_160 : decode cX7_init 160 = .ok (.iastore, 1) := by decide +kernel
theorem dX7_init_161 : decode cX7_init 161 = .ok (.dup, 1) := by decide +kernel
theorem dX7_init_162 : decode cX7_init 162 = .ok (.bipush 14, 2) := by decide +kernel
theorem dX7_init_164 : decode cX7_init 164 = .ok (.bipush 97, 2) := by decide +kernel
theorem dX7_init_166 : decode cX7_init 166 = .ok (.iastore, 1) := by decide +kernel
theorem dX7_init_167 : decode cX7_init 167 = .ok (.dup, 1) := by decide +kernel
theorem dX7_init_168 : decode cX7_init 168 = .ok (.bipush 15, 2) := by decide +kernel
theorem dX7_init_170 : decode cX7_init 170 = .ok (.bipush 105, 2) := by decide +kernel
theorem dX7_init_172 : decode cX7_init 172 = .ok (.iastore, 1) := by decide +kernel
theorem dX7_init_173 : decode cX7_init 173 = .ok (.dup, 1) := by decide +kernel
theorem dX7_init_174 : decode cX7_init 174 = .ok (.bipush 16, 2) := by decide +kernel
theorem dX7_init_176 : decode cX7_init 176 = .ok (.bipush 110, 2) := by decide +kernel
theorem dX7_init_178 : decode cX7_init 178 = .ok (.iastore, 1) := by decide +kernel
theorem dX7_init_179 : decode cX7_init 179 = .ok (.dup, 1) := by decide +kernel
theorem dX7_init_180 : decode cX7_init 180 = .ok (.bipush 17, 2) := by decide +kernel
theorem dX7_init_182 : decode cX7_init 182 = .ok (.bipush 116, 2) := by decide +kernel
theorem dX7_init_184 : decode cX7_init 184 = .ok (.iastore, 1) := by decide +kernel
theorem dX7_init_185 : decode cX7_init 185 = .ok (.dup, 1) := by decide +kernel
theorem dX7_init_186 : decode cX7_init 186 = .ok (.bipush 18, 2) := by decide +kernel
theorem dX7_init_188 : decode cX7_init 188 = .ok (.bipush 102, 2) := by decide +kernel
theorem dX7_init_190 : decode cX7_init 190 = .ok (.iastore, 1) := by decide +kernel
theorem dX7_init_191 : decode cX7_init 191 = .ok (.dup, 1) := by decide +kernel
theorem dX7_init_192 : decode cX7_init 192 = .ok (.bipush 19, 2) := by decide +kernel
theorem dX7_init_194 : decode cX7_init 194 = .ok (.bipush 108, 2) := by decide +kernel
theorem dX7_init_196 : decode cX7_init 196 = .ok (.iastore, 1) := by decide +kernel
theorem dX7_init_197 : decode cX7_init 197 = .ok (.dup, 1) := by decide +kernel
theorem dX7_init_198 : decode cX7_init 198 = .ok (.bipush 20, 2) := by decide +kernel
theorem dX7_init_200 : decode cX7_init 200 = .ok (.bipush 111, 2) := by decide +kernel
theorem dX7_init_202 : decode cX7_init 202 = .ok (.iastore, 1) := by decide +kernel
theorem dX7_init_203 : decode cX7_init 203 = .ok (.dup, 1) := by decide +kernel
theorem dX7_init_204 : decode cX7_init 204 = .ok (.bipush 21, 2) := by decide +kernel
theorem dX7_init_206 : decode cX7_init 206 = .ok (.bipush 119, 2) := by decide +kernel
theorem dX7_init_208 : decode cX7_init 208 = .ok (.iastore, 1) := by decide +kernel
theorem dX7_init_209 : decode cX7_init 209 = .ok (.dup, 1) := by decide +kernel
theorem dX7_init_210 : decode cX7_init 210 = .ok (.bipush 22, 2) := by decide +kernel
theorem dX7_init_212 : decode cX7_init 212 = .ok (.bipush 99, 2) := by decide +kernel
theorem dX7_init_214 : decode cX7_init 214 = .ok (.iastore, 1) := by decide +kernel
theorem dX7_init_215 : decode cX7_init 215 = .ok (.dup, 1) := by decide +kernel
theorem dX7_init_216 : decode cX7_init 216 = .ok (.bipush 23, 2) := by decide +kernel
theorem dX7_init_218 : decode cX7_init 218 = .ok (.bipush 97, 2) := by decide +kernel
theorem dX7_init_220 : decode cX7_init 220 = .ok (.iastore, 1) := by decide +kernel
theorem dX7_init_221 : decode cX7_init 221 = .ok (.dup, 1) := by decide +kernel
theorem dX7_init_222 : decode cX7_init 222 = .ok (.bipush 24, 2) := by decide +kernel
theorem dX7_init_224 : decode cX7_init 224 = .ok (.bipush 108, 2) := by decide +kernel
theorem dX7_init_226 : decode cX7_init 226 = .ok (.iastore, 1) := by decide +kernel
theorem dX7_init_227 : decode cX7_init 227 = .ok (.dup, 1) := by decide +kernel
theorem dX7_init_228 : decode cX7_init 228 = .ok (.bipush 25, 2) := by decide +kernel
theorem dX7_init_230 : decode cX7_init 230 = .ok (.bipush 109, 2) := by decide +kernel
theorem dX7_init_232 : decode cX7_init 232 = .ok (.iastore, 1) := by decide +kernel
theorem dX7_init_233 : decode cX7_init 233 = .ok (.dup, 1) := by decide +kernel
theorem dX7_init_234 : decode cX7_init 234 = .ok (.bipush 26, 2) := by decide +kernel
theorem dX7_init_236 : decode cX7_init 236 = .ok (.bipush 104, 2) := by decide +kernel
theorem dX7_init_238 : decode cX7_init 238 = .ok (.iastore, 1) := by decide +kernel
theorem dX7_init_239 : decode cX7_init 239 = .ok (.dup, 1) := by decide +kernel
theorem dX7_init_240 : decode cX7_init 240 = .ok (.bipush 27, 2) := by decide +kernel
theorem dX7_init_242 : decode cX7_init 242 = .ok (.bipush 111, 2) := by decide +kernel
theorem dX7_init_244 : decode cX7_init 244 = .ok (.iastore, 1) := by decide +kernel
theorem dX7_init_245 : decode cX7_init 245 = .ok (.dup, 1) := by decide +kernel
theorem dX7_init_246 : decode cX7_init 246 = .ok (.bipush 28, 2) := by decide +kernel
theorem dX7_init_248 : decode cX7_init 248 = .ok (.bipush 117, 2) := by decide +kernel
theorem dX7_init_250 : decode cX7_init 250 = .ok (.iastore, 1) := by decide +kernel
theorem dX7_init_251 : decode cX7_init 251 = .ok (.dup, 1) := by decide +kernel
theorem dX7_init_252 : decode cX7_init 252 = .ok (.bipush 29, 2) := by decide +kernel
theorem dX7_init_254 : decode cX7_init 254 = .ok (.bipush 114, 2) := by decide +kernel
theorem dX7_init_256 : decode cX7_init 256 = .ok (.iastore, 1) := by decide +kernel
theorem dX7_init_257 : decode cX7_init 257 = .ok (.putfield 22, 3) := by decide +kernel
theorem dX7_init_260 : decode cX7_init 260 = .ok (.aload_n 0, 1) := by decide +kernel
theorem dX7_init_261 : decode cX7_init 261 = .ok (.iconst 4, 1) := by decide +kernel
theorem dX7_init_262 : decode cX7_init 262 = .ok (.newarray .int, 2) := by decide +kernel
theorem dX7_init_264 : decode cX7_init 264 = .ok (.putfield 25, 3) := by decide +kernel
theorem dX7_init_267 : decode cX7_init 267 = .ok (.aload_n 0, 1) := by decide +kernel
theorem dX7_init_268 : decode cX7_init 268 = .ok (.iconst 4, 1) := by decide +kernel
theorem dX7_init_269 : decode cX7_init 269 = .ok (.newarray .int, 2) := by decide +kernel
theorem dX7_init_271 : decode cX7_init 271 = .ok (.putfield 28, 3) := by decide +kernel
theorem dX7_init_274 : decode cX7_init 274 = .ok (.aload_n 0, 1) := by decide +kernel
theorem dX7_init_275 : decode cX7_init 275 = .ok (.iconst 4, 1) := by decide +kernel
theorem dX7_init_276 : decode cX7_init 276 = .ok (.newarray .int, 2) := by decide +kernel
theorem dX7_init_278 : decode cX7_init 278 = .ok (.putfield 31, 3) := by decide +kernel
theorem dX7_init_281 : decode cX7_init 281 = .ok (.aload_n 0, 1) := by decide +kernel
theorem dX7_init_282 : decode cX7_init 282 = .ok (.bipush 18, 2) := by decide +kernel
theorem dX7_init_284 : decode cX7_init 284 = .ok (.newarray .int, 2) := by decide +kernel
theorem dX7_init_286 : decode cX7_init 286 = .ok (.putfield 34, 3) := by decide +kernel
theorem dX7_init_289 : decode cX7_init 289 = .ok (.aload_n 0, 1) := by decide +kernel
theorem dX7_init_290 : decode cX7_init 290 = .ok (.sipush 410, 3) := by decide +kernel
theorem dX7_init_293 : decode cX7_init 293 = .ok (.newarray .int, 2) := by decide +kernel
theorem dX7_init_295 : decode cX7_init 295 = .ok (.putfield 37, 3) := by decide +kernel
theorem dX7_init_298 : decode cX7_init 298 = .ok (.aload_n 0, 1) := by decide +kernel
theorem dX7_init_299 : decode cX7_init 299 = .ok (.iconst 2, 1) := by decide +kernel
theorem dX7_init_300 : decode cX7_init 300 = .ok (.newarray .boolean, 2) := by decide +kernel
theorem dX7_init_302 : decode cX7_init 302 = .ok (.putfield 40, 3) := by decide +kernel
theorem dX7_init_305 : decode cX7_init 305 = .ok (.aload_n 0, 1) := by decide +kernel
theorem dX7_init_306 : decode cX7_init 306 = .ok (.iconst 4, 1) := by decide +kernel
theorem dX7_init_307 : decode cX7_init 307 = .ok (.newarray .int, 2) := by decide +kernel
theorem dX7_init_309 : decode cX7_init 309 = .ok (.dup, 1) := by decide +kernel
theorem dX7_init_310 : decode cX7_init 310 = .ok (.iconst 0, 1) := by decide +kernel
theorem dX7_init_311 : decode cX7_init 311 = .ok (.bipush (-4), 2) := by decide +kernel
theorem dX7_init_313 : decode cX7_init 313 = .ok (.iastore, 1) := by decide +kernel
theorem dX7_init_314 : decode cX7_init 314 = .ok (.dup, 1) := by decide +kernel
theorem dX7_init_315 : decode cX7_init 315 = .ok (.iconst 1, 1) := by decide +kernel
theorem dX7_init_316 : decode cX7_init 316 = .ok (.bipush (-4), 2) := by decide +kernel
theorem dX7_init_318 : decode cX7_init 318 = .ok (.iastore, 1) := by decide +kernel
theorem dX7_init_319 : decode cX7_init 319 = .ok (.dup, 1) := by decide +kernel
theorem dX7_init_320 : decode cX7_init 320 = .ok (.iconst 2, 1) := by decide +kernel
theorem dX7_init_321 : decode cX7_init 321 = .ok (.bipush (-4), 2) := by decide +kernel
theorem dX7_init_323 : decode cX7_init 323 = .ok (.iastore, 1) := by decide +kernel
theorem dX7_init_324 : decode cX7_init 324 = .ok (.dup, 1) := by decide +kernel
theorem dX7_init_325 : decode cX7_init 325 = .ok (.iconst 3, 1) := by decide +kernel
theorem dX7_init_326 : decode cX7_init 326 = .ok (.bipush (-4), 2) := by decide +kernel
theorem dX7_init_328 : decode cX7_init 328 = .ok (.iastore, 1) := by decide +kernel
theorem dX7_init_329 : decode cX7_init 329 = .ok (.putfield 44, 3) := by decide +kernel
theorem dX7_init_332 : decode cX7_init 332 = .ok (.aload_n 0, 1) := by decide +kernel
theorem dX7_init_333 : decode cX7_init 333 = .ok (.iconst 4, 1) := by decide +kernel
theorem dX7_init_334 : decode cX7_init 334 = .ok (.newarray .int, 2) := by decide +kernel
theorem dX7_init_336 : decode cX7_init 336 = .ok (.putfield 47, 3) := by decide +kernel
theorem dX7_init_339 : decode cX7_init 339 = .ok (.aload_n 0, 1) := by decide +kernel
theorem dX7_init_340 : decode cX7_init 340 = .ok (.sipush 160, 3) := by decide +kernel
theorem dX7_init_343 : decode cX7_init 343 = .ok (.newarray .int, 2) := by decide +kernel
theorem dX7_init_345 : decode cX7_init 345 = .ok (.putfield 50, 3) := by decide +kernel
theorem dX7_init_348 : decode cX7_init 348 = .ok (.return_, 1) := by decide +kernel
theorem dX7_in_0 : decode cX7_in 0 = .ok (.lload_n 0, 1) := by decide +kernel
theorem dX7_in_1 : decode cX7_in 1 = .ok (.lload_n 2, 1) := by decide +kernel
theorem dX7_in_2 : decode cX7_in 2 = .ok (.lcmp, 1) := by decide +kernel
theorem dX7_in_3 : decode cX7_in 3 = .ok (.ifCond .lt 14, 3) := by decide +kernel
theorem dX7_in_6 : decode cX7_in 6 = .ok (.lload_n 0, 1) := by decide +kernel
theorem dX7_in_7 : decode cX7_in 7 = .ok (.lload 4, 2) := by decide +kernel
theorem dX7_in_9 : decode cX7_in 9 = .ok (.lcmp, 1) := by decide +kernel
theorem dX7_in_10 : decode cX7_in 10 = .ok (.ifCond .gt 7, 3) := by decide +kernel
theorem dX7_in_13 : decode cX7_in 13 = .ok (.iconst 1, 1) := by decide +kernel
theorem dX7_in_14 : decode cX7_in 14 = .ok (.goto 4, 3) := by decide +kernel
theorem dX7_in_17 : decode cX7_in 17 = .ok (.iconst 0, 1) := by decide +kernel
theorem dX7_in_18 : decode cX7_in 18 = .ok (.ireturn, 1) := by decide +kernel
theorem dX7_feed_0 : decode cX7_feed 0 = .ok (.iload_n 1, 1) := by decide +kernel
theorem dX7_feed_1 : decode cX7_feed 1 = .ok (.i2l, 1) := by decide +kernel
theorem dX7_feed_2 : decode cX7_feed 2 = .ok (.lconst 0, 1) := by decide +kernel
theorem dX7_feed_3 : decode cX7_feed 3 = .ok (.ldc2_w 53, 3) := by decide +kernel
theorem dX7_feed_6 : decode cX7_feed 6 = .ok (.invokestatic 55, 3) := by decide +kernel
theorem dX7_feed_9 : decode cX7_feed 9 = .ok (.ifCond .ne 5, 3) := by decide +kernel
theorem dX7_feed_12 : decode cX7_feed 12 = .ok (.iconst (-1), 1) := by decide +kernel
theorem dX7_feed_13 : decode cX7_feed 13 = .ok (.ireturn, 1) := by decide +kernel
theorem dX7_feed_14 : decode cX7_feed 14 = .ok (.aload_n 0, 1) := by decide +kernel
theorem dX7_feed_15 : decode cX7_feed 15 = .ok (.getfield 59, 3) := by decide +kernel
theorem dX7_feed_18 : decode cX7_feed 18 = .ok (.sipush 160, 3) := by decide +kernel
theorem dX7_feed_21 : decode cX7_feed 21 = .ok (.if_icmp .ne 6, 3) := by decide +kernel
theorem dX7_feed_24 : decode cX7_feed 24 = .ok (.bipush (-3), 2) := by decide +kernel
theorem dX7_feed_26 : decode cX7_feed 26 = .ok (.ireturn, 1) := by decide +kernel
theorem dX7_feed_27 : decode cX7_feed 27 = .ok (.aload_n 0, 1) := by decide +kernel
theorem dX7_feed_28 : decode cX7_feed 28 = .ok (.getfield 16, 3) := by decide +kernel
theorem dX7_feed_31 : decode cX7_feed 31 = .ok (.aload_n 0, 1) := by decide +kernel
theorem dX7_feed_32 : decode cX7_feed 32 = .ok (.getfield 59, 3) := by decide +kernel
theorem dX7_feed_35 : decode cX7_feed 35 = .ok (.iload_n 1, 1) := by decide +kernel
theorem dX7_feed_36 : decode cX7_feed 36 = .ok (.iastore, 1) := by decide +kernel
theorem dX7_feed_37 : decode cX7_feed 37 = .ok (.aload_n 0, 1) := by decide +kernel
theorem dX7_feed_38 : decode cX7_feed 38 = .ok (.dup, 1) := by decide +kernel
theorem dX7_feed_39 : decode cX7_feed 39 = .ok (.getfield 59, 3) := by decide +kernel
theorem dX7_feed_42 : decode cX7_feed 42 = .ok (.iconst 1, 1) := by decide +kernel
theorem dX7_feed_43 : decode cX7_feed 43 = .ok (.iadd, 1) := by decide +kernel
theorem dX7_feed_44 : decode cX7_feed 44 = .ok (.putfield 59, 3) := by decide +kernel
theorem dX7_feed_47 : decode cX7_feed 47 = .ok (.aload_n 0, 1) := by decide +kernel
theorem dX7_feed_48 : decode cX7_feed 48 = .ok (.getfield 59, 3) := by decide +kernel
theorem dX7_feed_51 : decode cX7_feed 51 = .ok (.ireturn, 1) := by decide +kernel
theorem dX7_end_0 : decode cX7_end 0 = .ok (.iload_n 1, 1) := by decide +kernel
theorem dX7_end_1 : decode cX7_end 1 = .ok (.i2l, 1) := by decide +kernel
theorem dX7_end_2 : decode cX7_end 2 = .ok (.lconst 0, 1) := by decide +kernel
theorem dX7_end_3 : decode cX7_end 3 = .ok (.aload_n 0, 1) := by decide +kernel
theorem dX7_end_4 : decode cX7_end 4 = .ok (.getfield 59, 3) := by decide +kernel
theorem dX7_end_7 : decode cX7_end 7 = .ok (.i2l, 1) := by decide +kernel
theorem dX7_end_8 : decode cX7_end 8 = .ok (.invokestatic 55, 3) := by decide +kernel
theorem dX7_end_11 : decode cX7_end 11 = .ok (.ifCond .ne 5, 3) := by decide +kernel
theorem dX7_end_14 : decode cX7_end 14 = .ok (.iconst (-1), 1) := by decide +kernel
theorem dX7_end_15 : decode cX7_end 15 = .ok (.ireturn, 1) := by decide +kernel
theorem dX7_end_16 : decode cX7_end 16 = .ok (.aload_n 0, 1) := by decide +kernel
theorem dX7_end_17 : decode cX7_end 17 = .ok (.getfield 59, 3) := by decide +kernel
theorem dX7_end_20 : decode cX7_end 20 = .ok (.istore_n 2, 1) := by decide +kernel
theorem dX7_end_21 : decode cX7_end 21 = .ok (.aload_n 0, 1) := by decide +kernel
theorem dX7_end_22 : decode cX7_end 22 = .ok (.iload_n 1, 1) := by decide +kernel
theorem dX7_end_23 : decode cX7_end 23 = .ok (.putfield 59, 3) := by decide +kernel
theorem dX7_end_26 : decode cX7_end 26 = .ok (.iload_n 2, 1) := by decide +kernel
theorem dX7_end_27 : decode cX7_end 27 = .ok (.ireturn, 1) := by decide +kernel
theorem dX7_byteAt_0 : decode cX7_byteAt 0 = .ok (.iload_n 1, 1) := by decide +kernel
theorem dX7_byteAt_1 : decode cX7_byteAt 1 = .ok (.aload_n 0, 1) := by decide +kernel
theorem dX7_byteAt_2 : decode cX7_byteAt 2 = .ok (.getfield 59, 3) := by decide +kernel
theorem dX7_byteAt_5 : decode cX7_byteAt 5 = .ok (.if_icmp .ge 12, 3) := by decide +kernel
theorem dX7_byteAt_8 : decode cX7_byteAt 8 = .ok (.aload_n 0, 1) := by decide +kernel
theorem dX7_byteAt_9 : decode cX7_byteAt 9 = .ok (.getfield 16, 3) := by decide +kernel
theorem dX7_byteAt_12 : decode cX7_byteAt 12 = .ok (.iload_n 1, 1) := by decide +kernel
theorem dX7_byteAt_13 : decode cX7_byteAt 13 = .ok (.iaload, 1) := by decide +kernel
theorem dX7_byteAt_14 : decode cX7_byteAt 14 = .ok (.goto 5, 3) := by decide +kernel
theorem dX7_byteAt_17 : decode cX7_byteAt 17 = .ok (.bipush (-4), 2) := by decide +kernel
theorem dX7_byteAt_19 : decode cX7_byteAt 19 = .ok (.ireturn, 1) := by decide +kernel
theorem dX7_fails_0 : decode cX7_fails 0 = .ok (.aload_n 0, 1) := by decide +kernel
theorem dX7_fails_1 : decode cX7_fails 1 = .ok (.getfield 63, 3) := by decide +kernel
theorem dX7_fails_4 : decode cX7_fails 4 = .ok (.ifCond .ne 16, 3) := by decide +kernel
theorem dX7_fails_7 : decode cX7_fails 7 = .ok (.aload_n 0, 1) := by decide +kernel
theorem dX7_fails_8 : decode cX7_fails 8 = .ok (.iload_n 1, 1) := by decide +kernel
theorem dX7_fails_9 : decode cX7_fails 9 = .ok (.putfield 63, 3) := by decide +kernel
theorem dX7_fails_12 : decode cX7_fails 12 = .ok (.aload_n 0, 1) := by decide +kernel
theorem dX7_fails_13 : decode cX7_fails 13 = .ok (.aload_n 0, 1) := by decide +kernel
theorem dX7_fails_14 : decode cX7_fails 14 = .ok (.getfield 66, 3) := by decide +kernel
theorem dX7_fails_17 : decode cX7_fails 17 = .ok (.putfield 69, 3) := by decide +kernel
theorem dX7_fails_20 : decode cX7_fails 20 = .ok (.return_, 1) := by decide +kernel
theorem dX7_nameHere_0 : decode cX7_nameHere 0 = .ok (.iconst 0, 1) := by decide +kernel
theorem dX7_nameHere_1 : decode cX7_nameHere 1 = .ok (.istore_n 1, 1) := by decide +kernel
theorem dX7_nameHere_2 : decode cX7_nameHere 2 = .ok (.iload_n 1, 1) := by decide +kernel
theorem dX7_nameHere_3 : decode cX7_nameHere 3 = .ok (.bipush 7, 2) := by decide +kernel
theorem dX7_nameHere_5 : decode cX7_nameHere 5 = .ok (.if_icmp .ge 113, 3) := by decide +kernel
theorem dX7_nameHere_8 : decode cX7_nameHere 8 = .ok (.aload_n 0, 1) := by decide +kernel
theorem dX7_nameHere_9 : decode cX7_nameHere 9 = .ok (.getfield 72, 3) := by decide +kernel
theorem dX7_nameHere_12 : decode cX7_nameHere 12 = .ok (.iconst 1, 1) := by decide +kernel
theorem dX7_nameHere_13 : decode cX7_nameHere 13 = .ok (.if_icmp .ne 105, 3) := by decide +kernel
theorem dX7_nameHere_16 : decode cX7_nameHere 16 = .ok (.aload_n 0, 1) := by decide +kernel
theorem dX7_nameHere_17 : decode cX7_nameHere 17 = .ok (.getfield 75, 3) := by decide +kernel
theorem dX7_nameHere_20 : decode cX7_nameHere 20 = .ok (.aload_n 0, 1) := by decide +kernel
theorem dX7_nameHere_21 : decode cX7_nameHere 21 = .ok (.getfield 66, 3) := by decide +kernel
theorem dX7_nameHere_24 : decode cX7_nameHere 24 = .ok (.isub, 1) := by decide +kernel
theorem dX7_nameHere_25 : decode cX7_nameHere 25 = .ok (.aload_n 0, 1) := by decide +kernel
theorem dX7_nameHere_26 : decode cX7_nameHere 26 = .ok (.getfield 19, 3) := by decide +kernel
theorem dX7_nameHere_29 : decode cX7_nameHere 29 = .ok (.iload_n 1, 1) := by decide +kernel
theorem dX7_nameHere_30 : decode cX7_nameHere 30 = .ok (.iconst 1, 1) := by decide +kernel
theorem dX7_nameHere_31 : decode cX7_nameHere 31 = .ok (.iadd, 1) := by decide +kernel
theorem dX7_nameHere_32 : decode cX7_nameHere 32 = .ok (.iaload, 1) := by decide +kernel
theorem dX7_nameHere_33 : decode cX7_nameHere 33 = .ok (.aload_n 0, 1) := by decide +kernel
theorem dX7_nameHere_34 : decode cX7_nameHere 34 = .ok (.getfield 19, 3) := by decide +kernel
theorem dX7_nameHere_37 : decode cX7_nameHere 37 = .ok (.iload_n 1, 1) := by decide +kernel
theorem dX7_nameHere_38 : decode cX7_nameHere 38 = .ok (.iaload, 1) := by decide +kernel
theorem dX7_nameHere_39 : decode cX7_nameHere 39 = .ok (.isub, 1) := by decide +kernel
theorem dX7_nameHere_40 : decode cX7_nameHere 40 = .ok (.if_icmp .ne 7, 3) := by decide +kernel
theorem dX7_nameHere_43 : decode cX7_nameHere 43 = .ok (.iconst 1, 1) := by decide +kernel
theorem dX7_nameHere_44 : decode cX7_nameHere 44 = .ok (.goto 4, 3) := by decide +kernel
theorem dX7_nameHere_47 : decode cX7_nameHere 47 = .ok (.iconst 0, 1) := by decide +kernel
theorem dX7_nameHere_48 : decode cX7_nameHere 48 = .ok (.istore_n 2, 1) := by decide +kernel
theorem dX7_nameHere_49 : decode cX7_nameHere 49 = .ok (.iconst 0, 1) := by decide +kernel
theorem dX7_nameHere_50 : decode cX7_nameHere 50 = .ok (.istore_n 3, 1) := by decide +kernel
theorem dX7_nameHere_51 : decode cX7_nameHere 51 = .ok (.iload_n 2, 1) := by decide +kernel
theorem dX7_nameHere_52 : decode cX7_nameHere 52 = .ok (.ifCond .eq 54, 3) := by decide +kernel
theorem dX7_nameHere_55 : decode cX7_nameHere 55 = .ok (.iload_n 3, 1) := by decide +kernel
theorem dX7_nameHere_56 : decode cX7_nameHere 56 = .ok (.aload_n 0, 1) := by decide +kernel
theorem dX7_nameHere_57 : decode cX7_nameHere 57 = .ok (.getfield 75, 3) := by decide +kernel
theorem dX7_nameHere_60 : decode cX7_nameHere 60 = .ok (.aload_n 0, 1) := by decide +kernel
theorem dX7_nameHere_61 : decode cX7_nameHere 61 = .ok (.getfield 66, 3) := by decide +kernel
theorem dX7_nameHere_64 : decode cX7_nameHere 64 = .ok (.isub, 1) := by decide +kernel
theorem dX7_nameHere_65 : decode cX7_nameHere 65 = .ok (.if_icmp .ge 41, 3) := by decide +kernel
theorem dX7_nameHere_68 : decode cX7_nameHere 68 = .ok (.aload_n 0, 1) := by decide +kernel
theorem dX7_nameHere_69 : decode cX7_nameHere 69 = .ok (.aload_n 0, 1) := by decide +kernel
theorem dX7_nameHere_70 : decode cX7_nameHere 70 = .ok (.getfield 66, 3) := by decide +kernel
theorem dX7_nameHere_73 : decode cX7_nameHere 73 = .ok (.iload_n 3, 1) := by decide +kernel
theorem dX7_nameHere_74 : decode cX7_nameHere 74 = .ok (.iadd, 1) := by decide +kernel
theorem dX7_nameHere_75 : decode cX7_nameHere 75 = .ok (.invokevirtual 78, 3) := by decide +kernel
theorem dX7_nameHere_78 : decode cX7_nameHere 78 = .ok (.aload_n 0, 1) := by decide +kernel
theorem dX7_nameHere_79 : decode cX7_nameHere 79 = .ok (.getfield 22, 3) := by decide +kernel
theorem dX7_nameHere_82 : decode cX7_nameHere 82 = .ok (.aload_n 0, 1) := by decide +kernel
theorem dX7_nameHere_83 : decode cX7_nameHere 83 = .ok (.getfield 19, 3) := by decide +kernel
theorem dX7_nameHere_86 : decode cX7_nameHere 86 = .ok (.iload_n 1, 1) := by decide +kernel
theorem dX7_nameHere_87 : decode cX7_nameHere 87 = .ok (.iaload, 1) := by decide +kernel
theorem dX7_nameHere_88 : decode cX7_nameHere 88 = .ok (.iload_n 3, 1) := by decide +kernel
theorem dX7_nameHere_89 : decode cX7_nameHere 89 = .ok (.iadd, 1) := by decide +kernel
theorem dX7_nameHere_90 : decode cX7_nameHere 90 = .ok (.iaload, 1) := by decide +kernel
theorem dX7_nameHere_91 : decode cX7_nameHere 91 = .ok (.if_icmp .ne 7, 3) := by decide +kernel
theorem dX7_nameHere_94 : decode cX7_nameHere 94 = .ok (.iconst 1, 1) := by decide +kernel
theorem dX7_nameHere_95 : decode cX7_nameHere 95 = .ok (.goto 4, 3) := by decide +kernel
theorem dX7_nameHere_98 : decode cX7_nameHere 98 = .ok (.iconst 0, 1) := by decide +kernel
theorem dX7_nameHere_99 : decode cX7_nameHere 99 = .ok (.istore_n 2, 1) := by decide +kernel
theorem dX7_nameHere_100 : decode cX7_nameHere 100 = .ok (.iinc 3 1, 3) := by decide +kernel
theorem dX7_nameHere_103 : decode cX7_nameHere 103 = .ok (.goto (-52), 3) := by decide +kernel
theorem dX7_nameHere_106 : decode cX7_nameHere 106 = .ok (.iload_n 2, 1) := by decide +kernel
theorem dX7_nameHere_107 : decode cX7_nameHere 107 = .ok (.ifCond .eq 5, 3) := by decide +kernel
theorem dX7_nameHere_110 : decode cX7_nameHere 110 = .ok (.iload_n 1, 1) := by decide +kernel
theorem dX7_nameHere_111 : decode cX7_nameHere 111 = .ok (.ireturn, 1) := by decide +kernel
theorem dX7_nameHere_112 : decode cX7_nameHere 112 = .ok (.iinc 1 1, 3) := by decide +kernel
theorem dX7_nameHere_115 : decode cX7_nameHere 115 = .ok (.goto (-113), 3) := by decide +kernel
theorem dX7_nameHere_118 : decode cX7_nameHere 118 = .ok (.bipush (-4), 2) := by decide +kernel
theorem dX7_nameHere_120 : decode cX7_nameHere 120 = .ok (.ireturn, 1) := by decide +kernel
theorem dX7_readsOn_0 : decode cX7_readsOn 0 = .ok (.aload_n 0, 1) := by decide +kernel
theorem dX7_readsOn_1 : decode cX7_readsOn 1 = .ok (.getfield 63, 3) := by decide +kernel
theorem dX7_readsOn_4 : decode cX7_readsOn 4 = .ok (.ifCond .le 4, 3) := by decide +kernel
theorem dX7_readsOn_7 : decode cX7_readsOn 7 = .ok (.return_, 1) := by decide +kernel
theorem dX7_readsOn_8 : decode cX7_readsOn 8 = .ok (.aload_n 0, 1) := by decide +kernel
theorem dX7_readsOn_9 : decode cX7_readsOn 9 = .ok (.aload_n 0, 1) := by decide +kernel
theorem dX7_readsOn_10 : decode cX7_readsOn 10 = .ok (.getfield 75, 3) := by decide +kernel
theorem dX7_readsOn_13 : decode cX7_readsOn 13 = .ok (.invokevirtual 78, 3) := by decide +kernel
theorem dX7_readsOn_16 : decode cX7_readsOn 16 = .ok (.bipush 32, 2) := by decide +kernel
theorem dX7_readsOn_18 : decode cX7_readsOn 18 = .ok (.if_icmp .ne 16, 3) := by decide +kernel
theorem dX7_readsOn_21 : decode cX7_readsOn 21 = .ok (.aload_n 0, 1) := by decide +kernel
theorem dX7_readsOn_22 : decode cX7_readsOn 22 = .ok (.dup, 1) := by decide +kernel
theorem dX7_readsOn_23 : decode cX7_readsOn 23 = .ok (.getfield 75, 3) := by decide +kernel
theorem dX7_readsOn_26 : decode cX7_readsOn 26 = .ok (.iconst 1, 1) := by decide +kernel
theorem dX7_readsOn_27 : decode cX7_readsOn 27 = .ok (.iadd, 1) := by decide +kernel
theorem dX7_readsOn_28 : decode cX7_readsOn 28 = .ok (.putfield 75, 3) := by decide +kernel
theorem dX7_readsOn_31 : decode cX7_readsOn 31 = .ok (.goto (-23), 3) := by decide +kernel
theorem dX7_readsOn_34 : decode cX7_readsOn 34 = .ok (.aload_n 0, 1) := by decide +kernel
theorem dX7_readsOn_35 : decode cX7_readsOn 35 = .ok (.aload_n 0, 1) := by decide +kernel
theorem dX7_readsOn_36 : decode cX7_readsOn 36 = .ok (.getfield 75, 3) := by decide +kernel
theorem dX7_readsOn_39 : decode cX7_readsOn 39 = .ok (.putfield 66, 3) := by decide +kernel
theorem dX7_readsOn_42 : decode cX7_readsOn 42 = .ok (.aload_n 0, 1) := by decide +kernel
theorem dX7_readsOn_43 : decode cX7_readsOn 43 = .ok (.aload_n 0, 1) := by decide +kernel
theorem dX7_readsOn_44 : decode cX7_readsOn 44 = .ok (.getfield 75, 3) := by decide +kernel
theorem dX7_readsOn_47 : decode cX7_readsOn 47 = .ok (.invokevirtual 78, 3) := by decide +kernel
theorem dX7_readsOn_50 : decode cX7_readsOn 50 = .ok (.istore_n 1, 1) := by decide +kernel
theorem dX7_readsOn_51 : decode cX7_readsOn 51 = .ok (.aload_n 0, 1) := by decide +kernel
theorem dX7_readsOn_52 : decode cX7_readsOn 52 = .ok (.iconst 0, 1) := by decide +kernel
theorem dX7_readsOn_53 : decode cX7_readsOn 53 = .ok (.putfield 82, 3) := by decide +kernel
theorem dX7_readsOn_56 : decode cX7_readsOn 56 = .ok (.iload_n 1, 1) := by decide +kernel
theorem dX7_readsOn_57 : decode cX7_readsOn 57 = .ok (.bipush (-4), 2) := by decide +kernel
theorem dX7_readsOn_59 : decode cX7_readsOn 59 = .ok (.if_icmp .ne 11, 3) := by decide +kernel
theorem dX7_readsOn_62 : decode cX7_readsOn 62 = .ok (.aload_n 0, 1) := by decide +kernel
theorem dX7_readsOn_63 : decode cX7_readsOn 63 = .ok (.iconst 0, 1) := by decide +kernel
theorem dX7_readsOn_64 : decode cX7_readsOn 64 = .ok (.putfield 72, 3) := by decide +kernel
theorem dX7_readsOn_67 : decode cX7_readsOn 67 = .ok (.goto 202, 3) := by decide +kernel
theorem dX7_readsOn_70 : decode cX7_readsOn 70 = .ok (.iload_n 1, 1) := by decide +kernel
theorem dX7_readsOn_71 : decode cX7_readsOn 71 = .ok (.i2l, 1) := by decide +kernel
theorem dX7_readsOn_72 : decode cX7_readsOn 72 = .ok (.ldc2_w 85, 3) := by decide +kernel
theorem dX7_readsOn_75 : decode cX7_readsOn 75 = .ok (.ldc2_w 87, 3) := by decide +kernel
theorem dX7_readsOn_78 : decode cX7_readsOn 78 = .ok (.invokestatic 55, 3) := by decide +kernel
theorem dX7_readsOn_81 : decode cX7_readsOn 81 = .ok (.ifCond .eq 45, 3) := by decide +kernel
theorem dX7_readsOn_84 : decode cX7_readsOn 84 = .ok (.aload_n 0, 1) := by decide +kernel
theorem dX7_readsOn_85 : decode cX7_readsOn 85 = .ok (.aload_n 0, 1) := by decide +kernel
theorem dX7_readsOn_86 : decode cX7_readsOn 86 = .ok (.getfield 75, 3) := by decide +kernel
theorem dX7_readsOn_89 : decode cX7_readsOn 89 = .ok (.invokevirtual 78, 3) := by decide +kernel
theorem dX7_readsOn_92 : decode cX7_readsOn 92 = .ok (.i2l, 1) := by decide +kernel
theorem dX7_readsOn_93 : decode cX7_readsOn 93 = .ok (.ldc2_w 85, 3) := by decide +kernel
theorem dX7_readsOn_96 : decode cX7_readsOn 96 = .ok (.ldc2_w 87, 3) := by decide +kernel
theorem dX7_readsOn_99 : decode cX7_readsOn 99 = .ok (.invokestatic 55, 3) := by decide +kernel
theorem dX7_readsOn_102 : decode cX7_readsOn 102 = .ok (.ifCond .eq 16, 3) := by decide +kernel
theorem dX7_readsOn_105 : decode cX7_readsOn 105 = .ok (.aload_n 0, 1) := by decide +kernel
theorem dX7_readsOn_106 : decode cX7_readsOn 106 = .ok (.dup, 1) := by decide +kernel
theorem dX7_readsOn_107 : decode cX7_readsOn 107 = .ok (.getfield 75, 3) := by decide +kernel
theorem dX7_readsOn_110 : decode cX7_readsOn 110 = .ok (.iconst 1, 1) := by decide +kernel
theorem dX7_readsOn_111 : decode cX7_readsOn 111 = .ok (.iadd, 1) := by decide +kernel
theorem dX7_readsOn_112 : decode cX7_readsOn 112 = .ok (.putfield 75, 3) := by decide +kernel
theorem dX7_readsOn_115 : decode cX7_readsOn 115 = .ok (.goto (-31), 3) := by decide +kernel
theorem dX7_readsOn_118 : decode cX7_readsOn 118 = .ok (.aload_n 0, 1) := by decide +kernel
theorem dX7_readsOn_119 : decode cX7_readsOn 119 = .ok (.iconst 1, 1) := by decide +kernel
theorem dX7_readsOn_120 : decode cX7_readsOn 120 = .ok (.putfield 72, 3) := by decide +kernel
theorem dX7_readsOn_123 : decode cX7_readsOn 123 = .ok (.goto 146, 3) := by decide +kernel
theorem dX7_readsOn_126 : decode cX7_readsOn 126 = .ok (.iload_n 1, 1) := by decide +kernel
theorem dX7_readsOn_127 : decode cX7_readsOn 127 = .ok (.i2l, 1) := by decide +kernel
theorem dX7_readsOn_128 : decode cX7_readsOn 128 = .ok (.ldc2_w 89, 3) := by decide +kernel
theorem dX7_readsOn_131 : decode cX7_readsOn 131 = .ok (.ldc2_w 91, 3) := by decide +kernel
theorem dX7_readsOn_134 : decode cX7_readsOn 134 = .ok (.invokestatic 55, 3) := by decide +kernel
theorem dX7_readsOn_137 : decode cX7_readsOn 137 = .ok (.ifCond .eq 106, 3) := by decide +kernel
theorem dX7_readsOn_140 : decode cX7_readsOn 140 = .ok (.aload_n 0, 1) := by decide +kernel
theorem dX7_readsOn_141 : decode cX7_readsOn 141 = .ok (.aload_n 0, 1) := by decide +kernel
theorem dX7_readsOn_142 : decode cX7_readsOn 142 = .ok (.getfield 75, 3) := by decide +kernel
theorem dX7_readsOn_145 : decode cX7_readsOn 145 = .ok (.invokevirtual 78, 3) := by decide +kernel
theorem dX7_readsOn_148 : decode cX7_readsOn 148 = .ok (.i2l, 1) := by decide +kernel
theorem dX7_readsOn_149 : decode cX7_readsOn 149 = .ok (.ldc2_w 89, 3) := by decide +kernel
theorem dX7_readsOn_152 : decode cX7_readsOn 152 = .ok (.ldc2_w 91, 3) := by decide +kernel
theorem dX7_readsOn_155 : decode cX7_readsOn 155 = .ok (.invokestatic 55, 3) := by decide +kernel
theorem dX7_readsOn_158 : decode cX7_readsOn 158 = .ok (.ifCond .eq 59, 3) := by decide +kernel
theorem dX7_readsOn_161 : decode cX7_readsOn 161 = .ok (.aload_n 0, 1) := by decide +kernel
theorem dX7_readsOn_162 : decode cX7_readsOn 162 = .ok (.aload_n 0, 1) := by decide +kernel
theorem dX7_readsOn_163 : decode cX7_readsOn 163 = .ok (.getfield 75, 3) := by decide +kernel
theorem dX7_readsOn_166 : decode cX7_readsOn 166 = .ok (.aload_n 0, 1) := by decide +kernel
theorem dX7_readsOn_167 : decode cX7_readsOn 167 = .ok (.getfield 66, 3) := by decide +kernel
theorem dX7_readsOn_170 : decode cX7_readsOn 170 = .ok (.isub, 1) := by decide +kernel
theorem dX7_readsOn_171 : decode cX7_readsOn 171 = .ok (.iconst 2, 1) := by decide +kernel
theorem dX7_readsOn_172 : decode cX7_readsOn 172 = .ok (.if_icmp .ge 25, 3) := by decide +kernel
theorem dX7_readsOn_175 : decode cX7_readsOn 175 = .ok (.bipush 10, 2) := by decide +kernel
theorem dX7_readsOn_177 : decode cX7_readsOn 177 = .ok (.aload_n 0, 1) := by decide +kernel
theorem dX7_readsOn_178 : decode cX7_readsOn 178 = .ok (.getfield 82, 3) := by decide +kernel
theorem dX7_readsOn_181 : decode cX7_readsOn 181 = .ok (.imul, 1) := by decide +kernel
theorem dX7_readsOn_182 : decode cX7_readsOn 182 = .ok (.aload_n 0, 1) := by decide +kernel
theorem dX7_readsOn_183 : decode cX7_readsOn 183 = .ok (.aload_n 0, 1) := by decide +kernel
theorem dX7_readsOn_184 : decode cX7_readsOn 184 = .ok (.getfield 75, 3) := by decide +kernel
theorem dX7_readsOn_187 : decode cX7_readsOn 187 = .ok (.invokevirtual 78, 3) := by decide +kernel
theorem dX7_readsOn_190 : decode cX7_readsOn 190 = .ok (.iadd, 1) := by decide +kernel
theorem dX7_readsOn_191 : decode cX7_readsOn 191 = .ok (.bipush 48, 2) := by decide +kernel
theorem dX7_readsOn_193 : decode cX7_readsOn 193 = .ok (.isub, 1) := by decide +kernel
theorem dX7_readsOn_194 : decode cX7_readsOn 194 = .ok (.goto 7, 3) := by decide +kernel
theorem dX7_readsOn_197 : decode cX7_readsOn 197 = .ok (.aload_n 0, 1) := by decide +kernel
theorem dX7_readsOn_198 : decode cX7_readsOn 198 = .ok (.getfield 82, 3) := by decide +kernel
theorem dX7_readsOn_201 : decode cX7_readsOn 201 = .ok (.putfield 82, 3) := by decide +kernel
theorem dX7_readsOn_204 : decode cX7_readsOn 204 = .ok (.aload_n 0, 1) := by decide +kernel
theorem dX7_readsOn_205 : decode cX7_readsOn 205 = .ok (.dup, 1) := by decide +kernel
theorem dX7_readsOn_206 : decode cX7_readsOn 206 = .ok (.getfield 75, 3) := by decide +kernel
theorem dX7_readsOn_209 : decode cX7_readsOn 209 = .ok (.iconst 1, 1) := by decide +kernel
theorem dX7_readsOn_210 : decode cX7_readsOn 210 = .ok (.iadd, 1) := by decide +kernel
theorem dX7_readsOn_211 : decode cX7_readsOn 211 = .ok (.putfield 75, 3) := by decide +kernel
theorem dX7_readsOn_214 : decode cX7_readsOn 214 = .ok (.goto (-74), 3) := by decide +kernel
theorem dX7_readsOn_217 : decode cX7_readsOn 217 = .ok (.aload_n 0, 1) := by decide +kernel
theorem dX7_readsOn_218 : decode cX7_readsOn 218 = .ok (.iconst 2, 1) := by decide +kernel
theorem dX7_readsOn_219 : decode cX7_readsOn 219 = .ok (.putfield 72, 3) := by decide +kernel
theorem dX7_readsOn_222 : decode cX7_readsOn 222 = .ok (.aload_n 0, 1) := by decide +kernel
theorem dX7_readsOn_223 : decode cX7_readsOn 223 = .ok (.getfield 75, 3) := by decide +kernel
theorem dX7_readsOn_226 : decode cX7_readsOn 226 = .ok (.aload_n 0, 1) := by decide +kernel
theorem dX7_readsOn_227 : decode cX7_readsOn 227 = .ok (.getfield 66, 3) := by decide +kernel
theorem dX7_readsOn_230 : decode cX7_readsOn 230 = .ok (.isub, 1) := by decide +kernel
theorem dX7_readsOn_231 : decode cX7_readsOn 231 = .ok (.iconst 2, 1) := by decide +kernel
theorem dX7_readsOn_232 : decode cX7_readsOn 232 = .ok (.if_icmp .le 37, 3) := by decide +kernel
theorem dX7_readsOn_235 : decode cX7_readsOn 235 = .ok (.aload_n 0, 1) := by decide +kernel
theorem dX7_readsOn_236 : decode cX7_readsOn 236 = .ok (.iconst 1, 1) := by decide +kernel
theorem dX7_readsOn_237 : decode cX7_readsOn 237 = .ok (.invokevirtual 93, 3) := by decide +kernel
theorem dX7_readsOn_240 : decode cX7_readsOn 240 = .ok (.goto 29, 3) := by decide +kernel
theorem dX7_readsOn_243 : decode cX7_readsOn 243 = .ok (.aload_n 0, 1) := by decide +kernel
theorem dX7_readsOn_244 : decode cX7_readsOn 244 = .ok (.iconst 3, 1) := by decide +kernel
theorem dX7_readsOn_245 : decode cX7_readsOn 245 = .ok (.putfield 72, 3) := by decide +kernel
theorem dX7_readsOn_248 : decode cX7_readsOn 248 = .ok (.aload_n 0, 1) := by decide +kernel
theorem dX7_readsOn_249 : decode cX7_readsOn 249 = .ok (.dup, 1) := by decide +kernel
theorem dX7_readsOn_250 : decode cX7_readsOn 250 = .ok (.getfield 75, 3) := by decide +kernel
theorem dX7_readsOn_253 : decode cX7_readsOn 253 = .ok (.iconst 1, 1) := by decide +kernel
theorem dX7_readsOn_254 : decode cX7_readsOn 254 = .ok (.iadd, 1) := by decide +kernel
theorem dX7_readsOn_255 : decode cX7_readsOn 255 = .ok (.putfield 75, 3) := by decide +kernel
theorem dX7_readsOn_258 : decode cX7_readsOn 258 = .ok (.iload_n 1, 1) := by decide +kernel
theorem dX7_readsOn_259 : decode cX7_readsOn 259 = .ok (.bipush 59, 2) := by decide +kernel
theorem dX7_readsOn_261 : decode cX7_readsOn 261 = .ok (.if_icmp .eq 8, 3) := by decide +kernel
theorem dX7_readsOn_264 : decode cX7_readsOn 264 = .ok (.aload_n 0, 1) := by decide +kernel
theorem dX7_readsOn_265 : decode cX7_readsOn 265 = .ok (.iconst 1, 1) := by decide +kernel
theorem dX7_readsOn_266 : decode cX7_readsOn 266 = .ok (.invokevirtual 93, 3) := by decide +kernel
theorem dX7_readsOn_269 : decode cX7_readsOn 269 = .ok (.return_, 1) := by decide +kernel
theorem dX7_number_0 : decode cX7_number 0 = .ok (.aload_n 0, 1) := by decide +kernel
theorem dX7_number_1 : decode cX7_number 1 = .ok (.getfield 63, 3) := by decide +kernel
theorem dX7_number_4 : decode cX7_number 4 = .ok (.ifCond .ne 16, 3) := by decide +kernel
theorem dX7_number_7 : decode cX7_number 7 = .ok (.aload_n 0, 1) := by decide +kernel
theorem dX7_number_8 : decode cX7_number 8 = .ok (.getfield 72, 3) := by decide +kernel
theorem dX7_number_11 : decode cX7_number 11 = .ok (.iconst 2, 1) := by decide +kernel
theorem dX7_number_12 : decode cX7_number 12 = .ok (.if_icmp .eq 8, 3) := by decide +kernel
theorem dX7_number_15 : decode cX7_number 15 = .ok (.aload_n 0, 1) := by decide +kernel
theorem dX7_number_16 : decode cX7_number 16 = .ok (.iconst 2, 1) := by decide +kernel
theorem dX7_number_17 : decode cX7_number 17 = .ok (.invokevirtual 93, 3) := by decide +kernel
theorem dX7_number_20 : decode cX7_number 20 = .ok (.aload_n 0, 1) := by decide +kernel
theorem dX7_number_21 : decode cX7_number 21 = .ok (.getfield 63, 3) := by decide +kernel
theorem dX7_number_24 : decode cX7_number 24 = .ok (.ifCond .ne 23, 3) := by decide +kernel
theorem dX7_number_27 : decode cX7_number 27 = .ok (.aload_n 0, 1) := by decide +kernel
theorem dX7_number_28 : decode cX7_number 28 = .ok (.getfield 82, 3) := by decide +kernel
theorem dX7_number_31 : decode cX7_number 31 = .ok (.i2l, 1) := by decide +kernel
theorem dX7_number_32 : decode cX7_number 32 = .ok (.iload_n 1, 1) := by decide +kernel
theorem dX7_number_33 : decode cX7_number 33 = .ok (.i2l, 1) := by decide +kernel
theorem dX7_number_34 : decode cX7_number 34 = .ok (.iload_n 2, 1) := by decide +kernel
theorem dX7_number_35 : decode cX7_number 35 = .ok (.i2l, 1) := by decide +kernel
theorem dX7_number_36 : decode cX7_number 36 = .ok (.invokestatic 55, 3) := by decide +kernel
theorem dX7_number_39 : decode cX7_number 39 = .ok (.ifCond .ne 8, 3) := by decide +kernel
theorem dX7_number_42 : decode cX7_number 42 = .ok (.aload_n 0, 1) := by decide +kernel
theorem dX7_number_43 : decode cX7_number 43 = .ok (.iconst 3, 1) := by decide +kernel
theorem dX7_number_44 : decode cX7_number 44 = .ok (.invokevirtual 93, 3) := by decide +kernel
theorem dX7_number_47 : decode cX7_number 47 = .ok (.aload_n 0, 1) := by decide +kernel
theorem dX7_number_48 : decode cX7_number 48 = .ok (.getfield 63, 3) := by decide +kernel
theorem dX7_number_51 : decode cX7_number 51 = .ok (.ifCond .ne 10, 3) := by decide +kernel
theorem dX7_number_54 : decode cX7_number 54 = .ok (.aload_n 0, 1) := by decide +kernel
theorem dX7_number_55 : decode cX7_number 55 = .ok (.getfield 82, 3) := by decide +kernel
theorem dX7_number_58 : decode cX7_number 58 = .ok (.goto 4, 3) := by decide +kernel
theorem dX7_number_61 : decode cX7_number 61 = .ok (.iload_n 1, 1) := by decide +kernel
theorem dX7_number_62 : decode cX7_number 62 = .ok (.istore_n 3, 1) := by decide +kernel
theorem dX7_number_63 : decode cX7_number 63 = .ok (.aload_n 0, 1) := by decide +kernel
theorem dX7_number_64 : decode cX7_number 64 = .ok (.invokevirtual 97, 3) := by decide +kernel
theorem dX7_number_67 : decode cX7_number 67 = .ok (.iload_n 3, 1) := by decide +kernel
theorem dX7_number_68 : decode cX7_number 68 = .ok (.ireturn, 1) := by decide +kernel
theorem dX7_readMore_0 : decode cX7_readMore 0 = .ok (.iload_n 1, 1) := by decide +kernel
theorem dX7_readMore_1 : decode cX7_readMore 1 = .ok (.iconst 3, 1) := by decide +kernel
theorem dX7_readMore_2 : decode cX7_readMore 2 = .ok (.if_icmp .gt 63, 3) := by decide +kernel
theorem dX7_readMore_5 : decode cX7_readMore 5 = .ok (.aload_n 0, 1) := by decide +kernel
theorem dX7_readMore_6 : decode cX7_readMore 6 = .ok (.getfield 13, 3) := by decide +kernel
theorem dX7_readMore_9 : decode cX7_readMore 9 = .ok (.bipush 24, 2) := by decide +kernel
theorem dX7_readMore_11 : decode cX7_readMore 11 = .ok (.iaload, 1) := by decide +kernel
theorem dX7_readMore_12 : decode cX7_readMore 12 = .ok (.istore_n 2, 1) := by decide +kernel
theorem dX7_readMore_13 : decode cX7_readMore 13 = .ok (.aload_n 0, 1) := by decide +kernel
theorem dX7_readMore_14 : decode cX7_readMore 14 = .ok (.getfield 13, 3) := by decide +kernel
theorem dX7_readMore_17 : decode cX7_readMore 17 = .ok (.iload_n 2, 1) := by decide +kernel
theorem dX7_readMore_18 : decode cX7_readMore 18 = .ok (.iload_n 1, 1) := by decide +kernel
theorem dX7_readMore_19 : decode cX7_readMore 19 = .ok (.iastore, 1) := by decide +kernel
theorem dX7_readMore_20 : decode cX7_readMore 20 = .ok (.aload_n 0, 1) := by decide +kernel
theorem dX7_readMore_21 : decode cX7_readMore 21 = .ok (.getfield 13, 3) := by decide +kernel
theorem dX7_readMore_24 : decode cX7_readMore 24 = .ok (.iconst 4, 1) := by decide +kernel
theorem dX7_readMore_25 : decode cX7_readMore 25 = .ok (.iload_n 2, 1) := by decide +kernel
theorem dX7_readMore_26 : decode cX7_readMore 26 = .ok (.iadd, 1) := by decide +kernel
theorem dX7_readMore_27 : decode cX7_readMore 27 = .ok (.aload_n 0, 1) := by decide +kernel
theorem dX7_readMore_28 : decode cX7_readMore 28 = .ok (.iconst 1, 1) := by decide +kernel
theorem dX7_readMore_29 : decode cX7_readMore 29 = .ok (.bipush 60, 2) := by decide +kernel
theorem dX7_readMore_31 : decode cX7_readMore 31 = .ok (.invokevirtual 100, 3) := by decide +kernel
theorem dX7_readMore_34 : decode cX7_readMore 34 = .ok (.iastore, 1) := by decide +kernel
theorem dX7_readMore_35 : decode cX7_readMore 35 = .ok (.aload_n 0, 1) := by decide +kernel
theorem dX7_readMore_36 : decode cX7_readMore 36 = .ok (.getfield 13, 3) := by decide +kernel
theorem dX7_readMore_39 : decode cX7_readMore 39 = .ok (.bipush 8, 2) := by decide +kernel
theorem dX7_readMore_41 : decode cX7_readMore 41 = .ok (.iload_n 2, 1) := by decide +kernel
theorem dX7_readMore_42 : decode cX7_readMore 42 = .ok (.iadd, 1) := by decide +kernel
theorem dX7_readMore_43 : decode cX7_readMore 43 = .ok (.aload_n 0, 1) := by decide +kernel
theorem dX7_readMore_44 : decode cX7_readMore 44 = .ok (.iconst 0, 1) := by decide +kernel
theorem dX7_readMore_45 : decode cX7_readMore 45 = .ok (.bipush 9, 2) := by decide +kernel
theorem dX7_readMore_47 : decode cX7_readMore 47 = .ok (.invokevirtual 100, 3) := by decide +kernel
theorem dX7_readMore_50 : decode cX7_readMore 50 = .ok (.iastore, 1) := by decide +kernel
theorem dX7_readMore_51 : decode cX7_readMore 51 = .ok (.aload_n 0, 1) := by decide +kernel
theorem dX7_readMore_52 : decode cX7_readMore 52 = .ok (.getfield 13, 3) := by decide +kernel
theorem dX7_readMore_55 : decode cX7_readMore 55 = .ok (.bipush 24, 2) := by decide +kernel
theorem dX7_readMore_57 : decode cX7_readMore 57 = .ok (.dup2, 1) := by decide +kernel
theorem dX7_readMore_58 : decode cX7_readMore 58 = .ok (.iaload, 1) := by decide +kernel
theorem dX7_readMore_59 : decode cX7_readMore 59 = .ok (.iconst 1, 1) := by decide +kernel
theorem dX7_readMore_60 : decode cX7_readMore 60 = .ok (.iadd, 1) := by decide +kernel
theorem dX7_readMore_61 : decode cX7_readMore 61 = .ok (.iastore, 1) := by decide +kernel
theorem dX7_readMore_62 : decode cX7_readMore 62 = .ok (.goto 102, 3) := by decide +kernel
theorem dX7_readMore_65 : decode cX7_readMore 65 = .ok (.iload_n 1, 1) := by decide +kernel
theorem dX7_readMore_66 : decode cX7_readMore 66 = .ok (.iconst 4, 1) := by decide +kernel
theorem dX7_readMore_67 : decode cX7_readMore 67 = .ok (.if_icmp .ne 23, 3) := by decide +kernel
theorem dX7_readMore_70 : decode cX7_readMore 70 = .ok (.aload_n 0, 1) := by decide +kernel
theorem dX7_readMore_71 : decode cX7_readMore 71 = .ok (.getfield 13, 3) := by decide +kernel
theorem dX7_readMore_74 : decode cX7_readMore 74 = .ok (.bipush 50, 2) := by decide +kernel
theorem dX7_readMore_76 : decode cX7_readMore 76 = .ok (.aload_n 0, 1) := by decide +kernel
theorem dX7_readMore_77 : decode cX7_readMore 77 = .ok (.iconst 0, 1) := by decide +kernel
theorem dX7_readMore_78 : decode cX7_readMore 78 = .ok (.bipush 40, 2) := by decide +kernel
theorem dX7_readMore_80 : decode cX7_readMore 80 = .ok (.invokevirtual 100, 3) := by decide +kernel
theorem dX7_readMore_83 : decode cX7_readMore 83 = .ok (.bipush 8, 2) := by decide +kernel
theorem dX7_readMore_85 : decode cX7_readMore 85 = .ok (.isub, 1) := by decide +kernel
theorem dX7_readMore_86 : decode cX7_readMore 86 = .ok (.iastore, 1) := by decide +kernel
theorem dX7_readMore_87 : decode cX7_readMore 87 = .ok (.goto 77, 3) := by decide +kernel
theorem dX7_readMore_90 : decode cX7_readMore 90 = .ok (.iload_n 1, 1) := by decide +kernel
theorem dX7_readMore_91 : decode cX7_readMore 91 = .ok (.iconst 5, 1) := by decide +kernel
theorem dX7_readMore_92 : decode cX7_readMore 92 = .ok (.if_icmp .ne 22, 3) := by decide +kernel
theorem dX7_readMore_95 : decode cX7_readMore 95 = .ok (.aload_n 0, 1) := by decide +kernel
theorem dX7_readMore_96 : decode cX7_readMore 96 = .ok (.getfield 13, 3) := by decide +kernel
theorem dX7_readMore_99 : decode cX7_readMore 99 = .ok (.bipush 51, 2) := by decide +kernel
theorem dX7_readMore_101 : decode cX7_readMore 101 = .ok (.aload_n 0, 1) := by decide +kernel
theorem dX7_readMore_102 : decode cX7_readMore 102 = .ok (.iconst 0, 1) := by decide +kernel
theorem dX7_readMore_103 : decode cX7_readMore 103 = .ok (.bipush 20, 2) := by decide +kernel
theorem dX7_readMore_105 : decode cX7_readMore 105 = .ok (.invokevirtual 100, 3) := by decide +kernel
theorem dX7_readMore_108 : decode cX7_readMore 108 = .ok (.iconst 4, 1) := by decide +kernel
theorem dX7_readMore_109 : decode cX7_readMore 109 = .ok (.isub, 1) := by decide +kernel
theorem dX7_readMore_110 : decode cX7_readMore 110 = .ok (.iastore, 1) := by decide +kernel
theorem dX7_readMore_111 : decode cX7_readMore 111 = .ok (.goto 53, 3) := by decide +kernel
theorem dX7_readMore_114 : decode cX7_readMore 114 = .ok (.aload_n 0, 1) := by decide +kernel
theorem dX7_readMore_115 : decode cX7_readMore 115 = .ok (.getfield 13, 3) := by decide +kernel
theorem dX7_readMore_118 : decode cX7_readMore 118 = .ok (.bipush 49, 2) := by decide +kernel
theorem dX7_readMore_120 : decode cX7_readMore 120 = .ok (.iaload, 1) := by decide +kernel
theorem dX7_readMore_121 : decode cX7_readMore 121 = .ok (.istore_n 2, 1) := by decide +kernel
theorem dX7_readMore_122 : decode cX7_readMore 122 = .ok (.aload_n 0, 1) := by decide +kernel
theorem dX7_readMore_123 : decode cX7_readMore 123 = .ok (.getfield 13, 3) := by decide +kernel
theorem dX7_readMore_126 : decode cX7_readMore 126 = .ok (.bipush 25, 2) := by decide +kernel
theorem dX7_readMore_128 : decode cX7_readMore 128 = .ok (.iload_n 2, 1) := by decide +kernel
theorem dX7_readMore_129 : decode cX7_readMore 129 = .ok (.iadd, 1) := by decide +kernel
theorem dX7_readMore_130 : decode cX7_readMore 130 = .ok (.aload_n 0, 1) := by decide +kernel
theorem dX7_readMore_131 : decode cX7_readMore 131 = .ok (.iconst 0, 1) := by decide +kernel
theorem dX7_readMore_132 : decode cX7_readMore 132 = .ok (.bipush 9, 2) := by decide +kernel
theorem dX7_readMore_134 : decode cX7_readMore 134 = .ok (.invokevirtual 100, 3) := by decide +kernel
theorem dX7_readMore_137 : decode cX7_readMore 137 = .ok (.iastore, 1) := by decide +kernel
theorem dX7_readMore_138 : decode cX7_readMore 138 = .ok (.aload_n 0, 1) := by decide +kernel
theorem dX7_readMore_139 : decode cX7_readMore 139 = .ok (.getfield 13, 3) := by decide +kernel
theorem dX7_readMore_142 : decode cX7_readMore 142 = .ok (.bipush 37, 2) := by decide +kernel
theorem dX7_readMore_144 : decode cX7_readMore 144 = .ok (.iload_n 2, 1) := by decide +kernel
theorem dX7_readMore_145 : decode cX7_readMore 145 = .ok (.iadd, 1) := by decide +kernel
theorem dX7_readMore_146 : decode cX7_readMore 146 = .ok (.aload_n 0, 1) := by decide +kernel
theorem dX7_readMore_147 : decode cX7_readMore 147 = .ok (.iconst 0, 1) := by decide +kernel
theorem dX7_readMore_148 : decode cX7_readMore 148 = .ok (.iconst 4, 1) := by decide +kernel
theorem dX7_readMore_149 : decode cX7_readMore 149 = .ok (.invokevirtual 100, 3) := by decide +kernel
theorem dX7_readMore_152 : decode cX7_readMore 152 = .ok (.iastore, 1) := by decide +kernel
theorem dX7_readMore_153 : decode cX7_readMore 153 = .ok (.aload_n 0, 1) := by decide +kernel
theorem dX7_readMore_154 : decode cX7_readMore 154 = .ok (.getfield 13, 3) := by decide +kernel
theorem dX7_readMore_157 : decode cX7_readMore 157 = .ok (.bipush 49, 2) := by decide +kernel
theorem dX7_readMore_159 : decode cX7_readMore 159 = .ok (.dup2, 1) := by decide +kernel
theorem dX7_readMore_160 : decode cX7_readMore 160 = .ok (.iaload, 1) := by decide +kernel
theorem dX7_readMore_161 : decode cX7_readMore 161 = .ok (.iconst 1, 1) := by decide +kernel
theorem dX7_readMore_162 : decode cX7_readMore 162 = .ok (.iadd, 1) := by decide +kernel
theorem dX7_readMore_163 : decode cX7_readMore 163 = .ok (.iastore, 1) := by decide +kernel
theorem dX7_readMore_164 : decode cX7_readMore 164 = .ok (.return_, 1) := by decide +kernel
theorem dX7_readLine_0 : decode cX7_readLine 0 = .ok (.aload_n 0, 1) := by decide +kernel
theorem dX7_readLine_1 : decode cX7_readLine 1 = .ok (.invokevirtual 104, 3) := by decide +kernel
theorem dX7_readLine_4 : decode cX7_readLine 4 = .ok (.istore_n 1, 1) := by decide +kernel
theorem dX7_readLine_5 : decode cX7_readLine 5 = .ok (.iload_n 1, 1) := by decide +kernel
theorem dX7_readLine_6 : decode cX7_readLine 6 = .ok (.i2l, 1) := by decide +kernel
theorem dX7_readLine_7 : decode cX7_readLine 7 = .ok (.lconst 0, 1) := by decide +kernel
theorem dX7_readLine_8 : decode cX7_readLine 8 = .ok (.ldc2_w 108, 3) := by decide +kernel
theorem dX7_readLine_11 : decode cX7_readLine 11 = .ok (.invokestatic 55, 3) := by decide +kernel
theorem dX7_readLine_14 : decode cX7_readLine 14 = .ok (.ifCond .ne 9, 3) := by decide +kernel
theorem dX7_readLine_17 : decode cX7_readLine 17 = .ok (.aload_n 0, 1) := by decide +kernel
theorem dX7_readLine_18 : decode cX7_readLine 18 = .ok (.iconst 2, 1) := by decide +kernel
theorem dX7_readLine_19 : decode cX7_readLine 19 = .ok (.invokevirtual 93, 3) := by decide +kernel
theorem dX7_readLine_22 : decode cX7_readLine 22 = .ok (.return_, 1) := by decide +kernel
theorem dX7_readLine_23 : decode cX7_readLine 23 = .ok (.iload_n 1, 1) := by decide +kernel
theorem dX7_readLine_24 : decode cX7_readLine 24 = .ok (.iconst 3, 1) := by decide +kernel
theorem dX7_readLine_25 : decode cX7_readLine 25 = .ok (.if_icmp .gt 14, 3) := by decide +kernel
theorem dX7_readLine_28 : decode cX7_readLine 28 = .ok (.aload_n 0, 1) := by decide +kernel
theorem dX7_readLine_29 : decode cX7_readLine 29 = .ok (.getfield 13, 3) := by decide +kernel
theorem dX7_readLine_32 : decode cX7_readLine 32 = .ok (.bipush 24, 2) := by decide +kernel
theorem dX7_readLine_34 : decode cX7_readLine 34 = .ok (.iaload, 1) := by decide +kernel
theorem dX7_readLine_35 : decode cX7_readLine 35 = .ok (.iconst 4, 1) := by decide +kernel
theorem dX7_readLine_36 : decode cX7_readLine 36 = .ok (.if_icmp .eq 21, 3) := by decide +kernel
theorem dX7_readLine_39 : decode cX7_readLine 39 = .ok (.iload_n 1, 1) := by decide +kernel
theorem dX7_readLine_40 : decode cX7_readLine 40 = .ok (.bipush 6, 2) := by decide +kernel
theorem dX7_readLine_42 : decode cX7_readLine 42 = .ok (.if_icmp .ne 20, 3) := by decide +kernel
theorem dX7_readLine_45 : decode cX7_readLine 45 = .ok (.aload_n 0, 1) := by decide +kernel
theorem dX7_readLine_46 : decode cX7_readLine 46 = .ok (.getfield 13, 3) := by decide +kernel
theorem dX7_readLine_49 : decode cX7_readLine 49 = .ok (.bipush 49, 2) := by decide +kernel
theorem dX7_readLine_51 : decode cX7_readLine 51 = .ok (.iaload, 1) := by decide +kernel
theorem dX7_readLine_52 : decode cX7_readLine 52 = .ok (.bipush 12, 2) := by decide +kernel
theorem dX7_readLine_54 : decode cX7_readLine 54 = .ok (.if_icmp .ne 8, 3) := by decide +kernel
theorem dX7_readLine_57 : decode cX7_readLine 57 = .ok (.aload_n 0, 1) := by decide +kernel
theorem dX7_readLine_58 : decode cX7_readLine 58 = .ok (.iconst 5, 1) := by decide +kernel
theorem dX7_readLine_59 : decode cX7_readLine 59 = .ok (.invokevirtual 93, 3) := by decide +kernel
theorem dX7_readLine_62 : decode cX7_readLine 62 = .ok (.iload_n 1, 1) := by decide +kernel
theorem dX7_readLine_63 : decode cX7_readLine 63 = .ok (.iconst 4, 1) := by decide +kernel
theorem dX7_readLine_64 : decode cX7_readLine 64 = .ok (.if_icmp .ne 10, 3) := by decide +kernel
theorem dX7_readLine_67 : decode cX7_readLine 67 = .ok (.aload_n 0, 1) := by decide +kernel
theorem dX7_readLine_68 : decode cX7_readLine 68 = .ok (.getfield 110, 3) := by decide +kernel
theorem dX7_readLine_71 : decode cX7_readLine 71 = .ok (.ifCond .ne 15, 3) := by decide +kernel
theorem dX7_readLine_74 : decode cX7_readLine 74 = .ok (.iload_n 1, 1) := by decide +kernel
theorem dX7_readLine_75 : decode cX7_readLine 75 = .ok (.iconst 5, 1) := by decide +kernel
theorem dX7_readLine_76 : decode cX7_readLine 76 = .ok (.if_icmp .ne 15, 3) := by decide +kernel
theorem dX7_readLine_79 : decode cX7_readLine 79 = .ok (.aload_n 0, 1) := by decide +kernel
theorem dX7_readLine_80 : decode cX7_readLine 80 = .ok (.getfield 114, 3) := by decide +kernel
theorem dX7_readLine_83 : decode cX7_readLine 83 = .ok (.ifCond .eq 8, 3) := by decide +kernel
theorem dX7_readLine_86 : decode cX7_readLine 86 = .ok (.aload_n 0, 1) := by decide +kernel
theorem dX7_readLine_87 : decode cX7_readLine 87 = .ok (.iconst 4, 1) := by decide +kernel
theorem dX7_readLine_88 : decode cX7_readLine 88 = .ok (.invokevirtual 93, 3) := by decide +kernel
theorem dX7_readLine_91 : decode cX7_readLine 91 = .ok (.aload_n 0, 1) := by decide +kernel
theorem dX7_readLine_92 : decode cX7_readLine 92 = .ok (.aload_n 0, 1) := by decide +kernel
theorem dX7_readLine_93 : decode cX7_readLine 93 = .ok (.getfield 110, 3) := by decide +kernel
theorem dX7_readLine_96 : decode cX7_readLine 96 = .ok (.ifCond .ne 8, 3) := by decide +kernel
theorem dX7_readLine_99 : decode cX7_readLine 99 = .ok (.iload_n 1, 1) := by decide +kernel
theorem dX7_readLine_100 : decode cX7_readLine 100 = .ok (.iconst 4, 1) := by decide +kernel
theorem dX7_readLine_101 : decode cX7_readLine 101 = .ok (.if_icmp .ne 7, 3) := by decide +kernel
theorem dX7_readLine_104 : decode cX7_readLine 104 = .ok (.iconst 1, 1) := by decide +kernel
theorem dX7_readLine_105 : decode cX7_readLine 105 = .ok (.goto 4, 3) := by decide +kernel
theorem dX7_readLine_108 : decode cX7_readLine 108 = .ok (.iconst 0, 1) := by decide +kernel
theorem dX7_readLine_109 : decode cX7_readLine 109 = .ok (.putfield 110, 3) := by decide +kernel
theorem dX7_readLine_112 : decode cX7_readLine 112 = .ok (.aload_n 0, 1) := by decide +kernel
theorem dX7_readLine_113 : decode cX7_readLine 113 = .ok (.aload_n 0, 1) := by decide +kernel
theorem dX7_readLine_114 : decode cX7_readLine 114 = .ok (.getfield 114, 3) := by decide +kernel
theorem dX7_readLine_117 : decode cX7_readLine 117 = .ok (.ifCond .ne 8, 3) := by decide +kernel
theorem dX7_readLine_120 : decode cX7_readLine 120 = .ok (.iload_n 1, 1) := by decide +kernel
theorem dX7_readLine_121 : decode cX7_readLine 121 = .ok (.iconst 5, 1) := by decide +kernel
theorem dX7_readLine_122 : decode cX7_readLine 122 = .ok (.if_icmp .ne 7, 3) := by decide +kernel
theorem dX7_readLine_125 : decode cX7_readLine 125 = .ok (.iconst 1, 1) := by decide +kernel
theorem dX7_readLine_126 : decode cX7_readLine 126 = .ok (.goto 4, 3) := by decide +kernel
theorem dX7_readLine_129 : decode cX7_readLine 129 = .ok (.iconst 0, 1) := by decide +kernel
theorem dX7_readLine_130 : decode cX7_readLine 130 = .ok (.putfield 114, 3) := by decide +kernel
theorem dX7_readLine_133 : decode cX7_readLine 133 = .ok (.aload_n 0, 1) := by decide +kernel
theorem dX7_readLine_134 : decode cX7_readLine 134 = .ok (.invokevirtual 97, 3) := by decide +kernel
theorem dX7_readLine_137 : decode cX7_readLine 137 = .ok (.aload_n 0, 1) := by decide +kernel
theorem dX7_readLine_138 : decode cX7_readLine 138 = .ok (.getfield 63, 3) := by decide +kernel
theorem dX7_readLine_141 : decode cX7_readLine 141 = .ok (.ifCond .le 4, 3) := by decide +kernel
theorem dX7_readLine_144 : decode cX7_readLine 144 = .ok (.return_, 1) := by decide +kernel
theorem dX7_readLine_145 : decode cX7_readLine 145 = .ok (.aload_n 0, 1) := by decide +kernel
theorem dX7_readLine_146 : decode cX7_readLine 146 = .ok (.iload_n 1, 1) := by decide +kernel
theorem dX7_readLine_147 : decode cX7_readLine 147 = .ok (.invokevirtual 117, 3) := by decide +kernel
theorem dX7_readLine_150 : decode cX7_readLine 150 = .ok (.aload_n 0, 1) := by decide +kernel
theorem dX7_readLine_151 : decode cX7_readLine 151 = .ok (.getfield 63, 3) := by decide +kernel
theorem dX7_readLine_154 : decode cX7_readLine 154 = .ok (.ifCond .ne 16, 3) := by decide +kernel
theorem dX7_readLine_157 : decode cX7_readLine 157 = .ok (.aload_n 0, 1) := by decide +kernel
theorem dX7_readLine_158 : decode cX7_readLine 158 = .ok (.getfield 72, 3) := by decide +kernel
theorem dX7_readLine_161 : decode cX7_readLine 161 = .ok (.iconst 3, 1) := by decide +kernel
theorem dX7_readLine_162 : decode cX7_readLine 162 = .ok (.if_icmp .eq 8, 3) := by decide +kernel
theorem dX7_readLine_165 : decode cX7_readLine 165 = .ok (.aload_n 0, 1) := by decide +kernel
theorem dX7_readLine_166 : decode cX7_readLine 166 = .ok (.iconst 2, 1) := by decide +kernel
theorem dX7_readLine_167 : decode cX7_readLine 167 = .ok (.invokevirtual 93, 3) := by decide +kernel
theorem dX7_readLine_170 : decode cX7_readLine 170 = .ok (.aload_n 0, 1) := by decide +kernel
theorem dX7_readLine_171 : decode cX7_readLine 171 = .ok (.invokevirtual 97, 3) := by decide +kernel
theorem dX7_readLine_174 : decode cX7_readLine 174 = .ok (.return_, 1) := by decide +kernel
theorem dX7_text_0 : decode cX7_text 0 = .ok (.aload_n 0, 1) := by decide +kernel
theorem dX7_text_1 : decode cX7_text 1 = .ok (.iconst 0, 1) := by decide +kernel
theorem dX7_text_2 : decode cX7_text 2 = .ok (.putfield 63, 3) := by decide +kernel
theorem dX7_text_5 : decode cX7_text 5 = .ok (.aload_n 0, 1) := by decide +kernel
theorem dX7_text_6 : decode cX7_text 6 = .ok (.iconst 0, 1) := by decide +kernel
theorem dX7_text_7 : decode cX7_text 7 = .ok (.putfield 75, 3) := by decide +kernel
theorem dX7_text_10 : decode cX7_text 10 = .ok (.aload_n 0, 1) := by decide +kernel
theorem dX7_text_11 : decode cX7_text 11 = .ok (.iconst 0, 1) := by decide +kernel
theorem dX7_text_12 : decode cX7_text 12 = .ok (.putfield 110, 3) := by decide +kernel
theorem dX7_text_15 : decode cX7_text 15 = .ok (.aload_n 0, 1) := by decide +kernel
theorem dX7_text_16 : decode cX7_text 16 = .ok (.iconst 0, 1) := by decide +kernel
theorem dX7_text_17 : decode cX7_text 17 = .ok (.putfield 114, 3) := by decide +kernel
theorem dX7_text_20 : decode cX7_text 20 = .ok (.iconst 0, 1) := by decide +kernel
theorem dX7_text_21 : decode cX7_text 21 = .ok (.istore_n 1, 1) := by decide +kernel
theorem dX7_text_22 : decode cX7_text 22 = .ok (.iconst 0, 1) := by decide +kernel
theorem dX7_text_23 : decode cX7_text 23 = .ok (.istore_n 2, 1) := by decide +kernel
theorem dX7_text_24 : decode cX7_text 24 = .ok (.iload_n 2, 1) := by decide +kernel
theorem dX7_text_25 : decode cX7_text 25 = .ok (.bipush 53, 2) := by decide +kernel
theorem dX7_text_27 : decode cX7_text 27 = .ok (.if_icmp .ge 16, 3) := by decide +kernel
theorem dX7_text_30 : decode cX7_text 30 = .ok (.aload_n 0, 1) := by decide +kernel
theorem dX7_text_31 : decode cX7_text 31 = .ok (.getfield 13, 3) := by decide +kernel
theorem dX7_text_34 : decode cX7_text 34 = .ok (.iload_n 2, 1) := by decide +kernel
theorem dX7_text_35 : decode cX7_text 35 = .ok (.iconst 0, 1) := by decide +kernel
theorem dX7_text_36 : decode cX7_text 36 = .ok (.iastore, 1) := by decide +kernel
theorem dX7_text_37 : decode cX7_text 37 = .ok (.iinc 2 1, 3) := by decide +kernel
theorem dX7_text_40 : decode cX7_text 40 = .ok (.goto (-16), 3) := by decide +kernel
theorem dX7_text_43 : decode cX7_text 43 = .ok (.aload_n 0, 1) := by decide +kernel
theorem dX7_text_44 : decode cX7_text 44 = .ok (.invokevirtual 97, 3) := by decide +kernel
theorem dX7_text_47 : decode cX7_text 47 = .ok (.aload_n 0, 1) := by decide +kernel
theorem dX7_text_48 : decode cX7_text 48 = .ok (.getfield 63, 3) := by decide +kernel
theorem dX7_text_51 : decode cX7_text 51 = .ok (.ifCond .ne 20, 3) := by decide +kernel
theorem dX7_text_54 : decode cX7_text 54 = .ok (.aload_n 0, 1) := by decide +kernel
theorem dX7_text_55 : decode cX7_text 55 = .ok (.getfield 72, 3) := by decide +kernel
theorem dX7_text_58 : decode cX7_text 58 = .ok (.ifCond .eq 13, 3) := by decide +kernel
theorem dX7_text_61 : decode cX7_text 61 = .ok (.aload_n 0, 1) := by decide +kernel
theorem dX7_text_62 : decode cX7_text 62 = .ok (.invokevirtual 120, 3) := by decide +kernel
theorem dX7_text_65 : decode cX7_text 65 = .ok (.iinc 1 1, 3) := by decide +kernel
theorem dX7_text_68 : decode cX7_text 68 = .ok (.goto (-21), 3) := by decide +kernel
theorem dX7_text_71 : decode cX7_text 71 = .ok (.aload_n 0, 1) := by decide +kernel
theorem dX7_text_72 : decode cX7_text 72 = .ok (.iconst 0, 1) := by decide +kernel
theorem dX7_text_73 : decode cX7_text 73 = .ok (.putfield 59, 3) := by decide +kernel
theorem dX7_text_76 : decode cX7_text 76 = .ok (.aload_n 0, 1) := by decide +kernel
theorem dX7_text_77 : decode cX7_text 77 = .ok (.aload_n 0, 1) := by decide +kernel
theorem dX7_text_78 : decode cX7_text 78 = .ok (.getfield 63, 3) := by decide +kernel
theorem dX7_text_81 : decode cX7_text 81 = .ok (.putfield 123, 3) := by decide +kernel
theorem dX7_text_84 : decode cX7_text 84 = .ok (.aload_n 0, 1) := by decide +kernel
theorem dX7_text_85 : decode cX7_text 85 = .ok (.getfield 63, 3) := by decide +kernel
theorem dX7_text_88 : decode cX7_text 88 = .ok (.ifCond .le 11, 3) := by decide +kernel
theorem dX7_text_91 : decode cX7_text 91 = .ok (.bipush (-10), 2) := by decide +kernel
theorem dX7_text_93 : decode cX7_text 93 = .ok (.aload_n 0, 1) := by decide +kernel
theorem dX7_text_94 : decode cX7_text 94 = .ok (.getfield 69, 3) := by decide +kernel
theorem dX7_text_97 : decode cX7_text 97 = .ok (.isub, 1) := by decide +kernel
theorem dX7_text_98 : decode cX7_text 98 = .ok (.ireturn, 1) := by decide +kernel
theorem dX7_text_99 : decode cX7_text 99 = .ok (.iconst 0, 1) := by decide +kernel
theorem dX7_text_100 : decode cX7_text 100 = .ok (.istore_n 2, 1) := by decide +kernel
theorem dX7_text_101 : decode cX7_text 101 = .ok (.iload_n 2, 1) := by decide +kernel
theorem dX7_text_102 : decode cX7_text 102 = .ok (.bipush 53, 2) := by decide +kernel
theorem dX7_text_104 : decode cX7_text 104 = .ok (.if_icmp .ge 21, 3) := by decide +kernel
theorem dX7_text_107 : decode cX7_text 107 = .ok (.aload_n 0, 1) := by decide +kernel
theorem dX7_text_108 : decode cX7_text 108 = .ok (.getfield 7, 3) := by decide +kernel
theorem dX7_text_111 : decode cX7_text 111 = .ok (.iload_n 2, 1) := by decide +kernel
theorem dX7_text_112 : decode cX7_text 112 = .ok (.aload_n 0, 1) := by decide +kernel
theorem dX7_text_113 : decode cX7_text 113 = .ok (.getfield 13, 3) := by decide +kernel
theorem dX7_text_116 : decode cX7_text 116 = .ok (.iload_n 2, 1) := by decide +kernel
theorem dX7_text_117 : decode cX7_text 117 = .ok (.iaload, 1) := by decide +kernel
theorem dX7_text_118 : decode cX7_text 118 = .ok (.iastore, 1) := by decide +kernel
theorem dX7_text_119 : decode cX7_text 119 = .ok (.iinc 2 1, 3) := by decide +kernel
theorem dX7_text_122 : decode cX7_text 122 = .ok (.goto (-21), 3) := by decide +kernel
theorem dX7_text_125 : decode cX7_text 125 = .ok (.aload_n 0, 1) := by decide +kernel
theorem dX7_text_126 : decode cX7_text 126 = .ok (.iconst 0, 1) := by decide +kernel
theorem dX7_text_127 : decode cX7_text 127 = .ok (.putfield 126, 3) := by decide +kernel
theorem dX7_text_130 : decode cX7_text 130 = .ok (.aload_n 0, 1) := by decide +kernel
theorem dX7_text_131 : decode cX7_text 131 = .ok (.getfield 40, 3) := by decide +kernel
theorem dX7_text_134 : decode cX7_text 134 = .ok (.iconst 0, 1) := by decide +kernel
theorem dX7_text_135 : decode cX7_text 135 = .ok (.iconst 0, 1) := by decide +kernel
theorem dX7_text_136 : decode cX7_text 136 = .ok (.bastore, 1) := by decide +kernel
theorem dX7_text_137 : decode cX7_text 137 = .ok (.aload_n 0, 1) := by decide +kernel
theorem dX7_text_138 : decode cX7_text 138 = .ok (.getfield 40, 3) := by decide +kernel
theorem dX7_text_141 : decode cX7_text 141 = .ok (.iconst 1, 1) := by decide +kernel
theorem dX7_text_142 : decode cX7_text 142 = .ok (.iconst 0, 1) := by decide +kernel
theorem dX7_text_143 : decode cX7_text 143 = .ok (.bastore, 1) := by decide +kernel
theorem dX7_text_144 : decode cX7_text 144 = .ok (.iload_n 1, 1) := by decide +kernel
theorem dX7_text_145 : decode cX7_text 145 = .ok (.ireturn, 1) := by decide +kernel
theorem dX7_fault_0 : decode cX7_fault 0 = .ok (.aload_n 0, 1) := by decide +kernel
theorem dX7_fault_1 : decode cX7_fault 1 = .ok (.getfield 123, 3) := by decide +kernel
theorem dX7_fault_4 : decode cX7_fault 4 = .ok (.ireturn, 1) := by decide +kernel
theorem dX7_isGeyser_0 : decode cX7_isGeyser 0 = .ok (.iload_n 1, 1) := by decide +kernel
theorem dX7_isGeyser_1 : decode cX7_isGeyser 1 = .ok (.i2l, 1) := by decide +kernel
theorem dX7_isGeyser_2 : decode cX7_isGeyser 2 = .ok (.lconst 0, 1) := by decide +kernel
theorem dX7_isGeyser_3 : decode cX7_isGeyser 3 = .ok (.aload_n 0, 1) := by decide +kernel
theorem dX7_isGeyser_4 : decode cX7_isGeyser 4 = .ok (.getfield 7, 3) := by decide +kernel
theorem dX7_isGeyser_7 : decode cX7_isGeyser 7 = .ok (.bipush 24, 2) := by decide +kernel
theorem dX7_isGeyser_9 : decode cX7_isGeyser 9 = .ok (.iaload, 1) := by decide +kernel
theorem dX7_isGeyser_10 : decode cX7_isGeyser 10 = .ok (.iconst 1, 1) := by decide +kernel
theorem dX7_isGeyser_11 : decode cX7_isGeyser 11 = .ok (.isub, 1) := by decide +kernel
theorem dX7_isGeyser_12 : decode cX7_isGeyser 12 = .ok (.i2l, 1) := by decide +kernel
theorem dX7_isGeyser_13 : decode cX7_isGeyser 13 = .ok (.invokestatic 55, 3) := by decide +kernel
theorem dX7_isGeyser_16 : decode cX7_isGeyser 16 = .ok (.ireturn, 1) := by decide +kernel
theorem dX7_isRow_0 : decode cX7_isRow 0 = .ok (.iload_n 1, 1) := by decide +kernel
theorem dX7_isRow_1 : decode cX7_isRow 1 = .ok (.i2l, 1) := by decide +kernel
theorem dX7_isRow_2 : decode cX7_isRow 2 = .ok (.lconst 0, 1) := by decide +kernel
theorem dX7_isRow_3 : decode cX7_isRow 3 = .ok (.aload_n 0, 1) := by decide +kernel
theorem dX7_isRow_4 : decode cX7_isRow 4 = .ok (.getfield 7, 3) := by decide +kernel
theorem dX7_isRow_7 : decode cX7_isRow 7 = .ok (.bipush 49, 2) := by decide +kernel
theorem dX7_isRow_9 : decode cX7_isRow 9 = .ok (.iaload, 1) := by decide +kernel
theorem dX7_isRow_10 : decode cX7_isRow 10 = .ok (.iconst 1, 1) := by decide +kernel
theorem dX7_isRow_11 : decode cX7_isRow 11 = .ok (.isub, 1) := by decide +kernel
theorem dX7_isRow_12 : decode cX7_isRow 12 = .ok (.i2l, 1) := by decide +kernel
theorem dX7_isRow_13 : decode cX7_isRow 13 = .ok (.invokestatic 55, 3) := by decide +kernel
theorem dX7_isRow_16 : decode cX7_isRow 16 = .ok (.ireturn, 1) := by decide +kernel
theorem dX7_isLong_0 : decode cX7_isLong 0 = .ok (.iload_n 0, 1) := by decide +kernel
theorem dX7_isLong_1 : decode cX7_isLong 1 = .ok (.i2l, 1) := by decide +kernel
theorem dX7_isLong_2 : decode cX7_isLong 2 = .ok (.lconst 0, 1) := by decide +kernel
theorem dX7_isLong_3 : decode cX7_isLong 3 = .ok (.ldc2_w 129, 3) := by decide +kernel
theorem dX7_isLong_6 : decode cX7_isLong 6 = .ok (.invokestatic 55, 3) := by decide +kernel
theorem dX7_isLong_9 : decode cX7_isLong 9 = .ok (.ireturn, 1) := by decide +kernel
theorem dX7_shareOn_0 : decode cX7_shareOn 0 = .ok (.aload_n 0, 1) := by decide +kernel
theorem dX7_shareOn_1 : decode cX7_shareOn 1 = .ok (.getfield 7, 3) := by decide +kernel
theorem dX7_shareOn_4 : decode cX7_shareOn 4 = .ok (.iload_n 1, 1) := by decide +kernel
theorem dX7_shareOn_5 : decode cX7_shareOn 5 = .ok (.bipush 50, 2) := by decide +kernel
theorem dX7_shareOn_7 : decode cX7_shareOn 7 = .ok (.iadd, 1) := by decide +kernel
theorem dX7_shareOn_8 : decode cX7_shareOn 8 = .ok (.iaload, 1) := by decide +kernel
theorem dX7_shareOn_9 : decode cX7_shareOn 9 = .ok (.bipush 8, 2) := by decide +kernel
theorem dX7_shareOn_11 : decode cX7_shareOn 11 = .ok (.iadd, 1) := by decide +kernel
theorem dX7_shareOn_12 : decode cX7_shareOn 12 = .ok (.istore_n 3, 1) := by decide +kernel
theorem dX7_shareOn_13 : decode cX7_shareOn 13 = .ok (.aload_n 0, 1) := by decide +kernel
theorem dX7_shareOn_14 : decode cX7_shareOn 14 = .ok (.getfield 7, 3) := by decide +kernel
theorem dX7_shareOn_17 : decode cX7_shareOn 17 = .ok (.iload_n 1, 1) := by decide +kernel
theorem dX7_shareOn_18 : decode cX7_shareOn 18 = .ok (.bipush 24, 2) := by decide +kernel
theorem dX7_shareOn_20 : decode cX7_shareOn 20 = .ok (.iadd, 1) := by decide +kernel
theorem dX7_shareOn_21 : decode cX7_shareOn 21 = .ok (.iaload, 1) := by decide +kernel
theorem dX7_shareOn_22 : decode cX7_shareOn 22 = .ok (.istore 4, 2) := by decide +kernel
theorem dX7_shareOn_24 : decode cX7_shareOn 24 = .ok (.iload_n 3, 1) := by decide +kernel
theorem dX7_shareOn_25 : decode cX7_shareOn 25 = .ok (.iload 4, 2) := by decide +kernel
theorem dX7_shareOn_27 : decode cX7_shareOn 27 = .ok (.idiv, 1) := by decide +kernel
theorem dX7_shareOn_28 : decode cX7_shareOn 28 = .ok (.iload_n 2, 1) := by decide +kernel
theorem dX7_shareOn_29 : decode cX7_shareOn 29 = .ok (.iload_n 3, 1) := by decide +kernel
theorem dX7_shareOn_30 : decode cX7_shareOn 30 = .ok (.iload 4, 2) := by decide +kernel
theorem dX7_shareOn_32 : decode cX7_shareOn 32 = .ok (.irem, 1) := by decide +kernel
theorem dX7_shareOn_33 : decode cX7_shareOn 33 = .ok (.if_icmp .ge 7, 3) := by decide +kernel
theorem dX7_shareOn_36 : decode cX7_shareOn 36 = .ok (.iconst 1, 1) := by decide +kernel
theorem dX7_shareOn_37 : decode cX7_shareOn 37 = .ok (.goto 4, 3) := by decide +kernel
theorem dX7_shareOn_40 : decode cX7_shareOn 40 = .ok (.iconst 0, 1) := by decide +kernel
theorem dX7_shareOn_41 : decode cX7_shareOn 41 = .ok (.iadd, 1) := by decide +kernel
theorem dX7_shareOn_42 : decode cX7_shareOn 42 = .ok (.ireturn, 1) := by decide +kernel
theorem dX7_mindsOn_0 : decode cX7_mindsOn 0 = .ok (.aload_n 0, 1) := by decide +kernel
theorem dX7_mindsOn_1 : decode cX7_mindsOn 1 = .ok (.getfield 7, 3) := by decide +kernel
theorem dX7_mindsOn_4 : decode cX7_mindsOn 4 = .ok (.iload_n 1, 1) := by decide +kernel
theorem dX7_mindsOn_5 : decode cX7_mindsOn 5 = .ok (.iload_n 2, 1) := by decide +kernel
theorem dX7_mindsOn_6 : decode cX7_mindsOn 6 = .ok (.iadd, 1) := by decide +kernel
theorem dX7_mindsOn_7 : decode cX7_mindsOn 7 = .ok (.iaload, 1) := by decide +kernel
theorem dX7_mindsOn_8 : decode cX7_mindsOn 8 = .ok (.istore 4, 2) := by decide +kernel
theorem dX7_mindsOn_10 : decode cX7_mindsOn 10 = .ok (.iload_n 3, 1) := by decide +kernel
theorem dX7_mindsOn_11 : decode cX7_mindsOn 11 = .ok (.aload_n 0, 1) := by decide +kernel
theorem dX7_mindsOn_12 : decode cX7_mindsOn 12 = .ok (.getfield 7, 3) := by decide +kernel
theorem dX7_mindsOn_15 : decode cX7_mindsOn 15 = .ok (.iload_n 1, 1) := by decide +kernel
theorem dX7_mindsOn_16 : decode cX7_mindsOn 16 = .ok (.bipush 8, 2) := by decide +kernel
theorem dX7_mindsOn_18 : decode cX7_mindsOn 18 = .ok (.iadd, 1) := by decide +kernel
theorem dX7_mindsOn_19 : decode cX7_mindsOn 19 = .ok (.iload_n 2, 1) := by decide +kernel
theorem dX7_mindsOn_20 : decode cX7_mindsOn 20 = .ok (.iadd, 1) := by decide +kernel
theorem dX7_mindsOn_21 : decode cX7_mindsOn 21 = .ok (.iaload, 1) := by decide +kernel
theorem dX7_mindsOn_22 : decode cX7_mindsOn 22 = .ok (.if_icmp .le 19, 3) := by decide +kernel
theorem dX7_mindsOn_25 : decode cX7_mindsOn 25 = .ok (.iload_n 3, 1) := by decide +kernel
theorem dX7_mindsOn_26 : decode cX7_mindsOn 26 = .ok (.aload_n 0, 1) := by decide +kernel
theorem dX7_mindsOn_27 : decode cX7_mindsOn 27 = .ok (.getfield 7, 3) := by decide +kernel
theorem dX7_mindsOn_30 : decode cX7_mindsOn 30 = .ok (.iload_n 1, 1) := by decide +kernel
theorem dX7_mindsOn_31 : decode cX7_mindsOn 31 = .ok (.bipush 8, 2) := by decide +kernel
theorem dX7_mindsOn_33 : decode cX7_mindsOn 33 = .ok (.iadd, 1) := by decide +kernel
theorem dX7_mindsOn_34 : decode cX7_mindsOn 34 = .ok (.iload_n 2, 1) := by decide +kernel
theorem dX7_mindsOn_35 : decode cX7_mindsOn 35 = .ok (.iadd, 1) := by decide +kernel
theorem dX7_mindsOn_36 : decode cX7_mindsOn 36 = .ok (.iaload, 1) := by decide +kernel
theorem dX7_mindsOn_37 : decode cX7_mindsOn 37 = .ok (.isub, 1) := by decide +kernel
theorem dX7_mindsOn_38 : decode cX7_mindsOn 38 = .ok (.goto 4, 3) := by decide +kernel
theorem dX7_mindsOn_41 : decode cX7_mindsOn 41 = .ok (.iconst 0, 1) := by decide +kernel
theorem dX7_mindsOn_42 : decode cX7_mindsOn 42 = .ok (.istore 5, 2) := by decide +kernel
theorem dX7_mindsOn_44 : decode cX7_mindsOn 44 = .ok (.iload 5, 2) := by decide +kernel
theorem dX7_mindsOn_46 : decode cX7_mindsOn 46 = .ok (.iload 4, 2) := by decide +kernel
theorem dX7_mindsOn_48 : decode cX7_mindsOn 48 = .ok (.ifCond .ne 7, 3) := by decide +kernel
theorem dX7_mindsOn_51 : decode cX7_mindsOn 51 = .ok (.iconst 1, 1) := by decide +kernel
theorem dX7_mindsOn_52 : decode cX7_mindsOn 52 = .ok (.goto 4, 3) := by decide +kernel
theorem dX7_mindsOn_55 : decode cX7_mindsOn 55 = .ok (.iconst 2, 1) := by decide +kernel
theorem dX7_mindsOn_56 : decode cX7_mindsOn 56 = .ok (.imul, 1) := by decide +kernel
theorem dX7_mindsOn_57 : decode cX7_mindsOn 57 = .ok (.istore 5, 2) := by decide +kernel
theorem dX7_mindsOn_59 : decode cX7_mindsOn 59 = .ok (.iload 5, 2) := by decide +kernel
theorem dX7_mindsOn_61 : decode cX7_mindsOn 61 = .ok (.iload 4, 2) := by decide +kernel
theorem dX7_mindsOn_63 : decode cX7_mindsOn 63 = .ok (.iconst 1, 1) := by decide +kernel
theorem dX7_mindsOn_64 : decode cX7_mindsOn 64 = .ok (.if_icmp .le 11, 3) := by decide +kernel
theorem dX7_mindsOn_67 : decode cX7_mindsOn 67 = .ok (.iload_n 3, 1) := by decide +kernel
theorem dX7_mindsOn_68 : decode cX7_mindsOn 68 = .ok (.ifCond .le 7, 3) := by decide +kernel
theorem dX7_mindsOn_71 : decode cX7_mindsOn 71 = .ok (.iconst 1, 1) := by decide +kernel
theorem dX7_mindsOn_72 : decode cX7_mindsOn 72 = .ok (.goto 4, 3) := by decide +kernel
theorem dX7_mindsOn_75 : decode cX7_mindsOn 75 = .ok (.iconst 0, 1) := by decide +kernel
theorem dX7_mindsOn_76 : decode cX7_mindsOn 76 = .ok (.iadd, 1) := by decide +kernel
theorem dX7_mindsOn_77 : decode cX7_mindsOn 77 = .ok (.istore 5, 2) := by decide +kernel
theorem dX7_mindsOn_79 : decode cX7_mindsOn 79 = .ok (.iload 5, 2) := by decide +kernel
theorem dX7_mindsOn_81 : decode cX7_mindsOn 81 = .ok (.iload 4, 2) := by decide +kernel
theorem dX7_mindsOn_83 : decode cX7_mindsOn 83 = .ok (.iconst 3, 1) := by decide +kernel
theorem dX7_mindsOn_84 : decode cX7_mindsOn 84 = .ok (.if_icmp .ne 13, 3) := by decide +kernel
theorem dX7_mindsOn_87 : decode cX7_mindsOn 87 = .ok (.iload_n 3, 1) := by decide +kernel
theorem dX7_mindsOn_88 : decode cX7_mindsOn 88 = .ok (.bipush 9, 2) := by decide +kernel
theorem dX7_mindsOn_90 : decode cX7_mindsOn 90 = .ok (.if_icmp .ne 7, 3) := by decide +kernel
theorem dX7_mindsOn_93 : decode cX7_mindsOn 93 = .ok (.iconst 5, 1) := by decide +kernel
theorem dX7_mindsOn_94 : decode cX7_mindsOn 94 = .ok (.goto 4, 3) := by decide +kernel
theorem dX7_mindsOn_97 : decode cX7_mindsOn 97 = .ok (.iconst 0, 1) := by decide +kernel
theorem dX7_mindsOn_98 : decode cX7_mindsOn 98 = .ok (.iadd, 1) := by decide +kernel
theorem dX7_mindsOn_99 : decode cX7_mindsOn 99 = .ok (.ireturn, 1) := by decide +kernel
theorem dX7_fadesOn_0 : decode cX7_fadesOn 0 = .ok (.aload_n 0, 1) := by decide +kernel
theorem dX7_fadesOn_1 : decode cX7_fadesOn 1 = .ok (.getfield 7, 3) := by decide +kernel
theorem dX7_fadesOn_4 : decode cX7_fadesOn 4 = .ok (.iload_n 1, 1) := by decide +kernel
theorem dX7_fadesOn_5 : decode cX7_fadesOn 5 = .ok (.iload_n 2, 1) := by decide +kernel
theorem dX7_fadesOn_6 : decode cX7_fadesOn 6 = .ok (.iadd, 1) := by decide +kernel
theorem dX7_fadesOn_7 : decode cX7_fadesOn 7 = .ok (.iaload, 1) := by decide +kernel
theorem dX7_fadesOn_8 : decode cX7_fadesOn 8 = .ok (.istore_n 3, 1) := by decide +kernel
theorem dX7_fadesOn_9 : decode cX7_fadesOn 9 = .ok (.iload_n 3, 1) := by decide +kernel
theorem dX7_fadesOn_10 : decode cX7_fadesOn 10 = .ok (.ifCond .ne 7, 3) := by decide +kernel
theorem dX7_fadesOn_13 : decode cX7_fadesOn 13 = .ok (.iconst 2, 1) := by decide +kernel
theorem dX7_fadesOn_14 : decode cX7_fadesOn 14 = .ok (.goto 13, 3) := by decide +kernel
theorem dX7_fadesOn_17 : decode cX7_fadesOn 17 = .ok (.iload_n 3, 1) := by decide +kernel
theorem dX7_fadesOn_18 : decode cX7_fadesOn 18 = .ok (.iconst 1, 1) := by decide +kernel
theorem dX7_fadesOn_19 : decode cX7_fadesOn 19 = .ok (.if_icmp .ne 7, 3) := by decide +kernel
theorem dX7_fadesOn_22 : decode cX7_fadesOn 22 = .ok (.iconst 1, 1) := by decide +kernel
theorem dX7_fadesOn_23 : decode cX7_fadesOn 23 = .ok (.goto 4, 3) := by decide +kernel
theorem dX7_fadesOn_26 : decode cX7_fadesOn 26 = .ok (.iconst 0, 1) := by decide +kernel
theorem dX7_fadesOn_27 : decode cX7_fadesOn 27 = .ok (.ireturn, 1) := by decide +kernel
theorem dX7_rowOn_0 : decode cX7_rowOn 0 = .ok (.aload_n 0, 1) := by decide +kernel
theorem dX7_rowOn_1 : decode cX7_rowOn 1 = .ok (.getfield 7, 3) := by decide +kernel
theorem dX7_rowOn_4 : decode cX7_rowOn 4 = .ok (.iload_n 1, 1) := by decide +kernel
theorem dX7_rowOn_5 : decode cX7_rowOn 5 = .ok (.bipush 49, 2) := by decide +kernel
theorem dX7_rowOn_7 : decode cX7_rowOn 7 = .ok (.iadd, 1) := by decide +kernel
theorem dX7_rowOn_8 : decode cX7_rowOn 8 = .ok (.iaload, 1) := by decide +kernel
theorem dX7_rowOn_9 : decode cX7_rowOn 9 = .ok (.ifCond .ne 8, 3) := by decide +kernel
theorem dX7_rowOn_12 : decode cX7_rowOn 12 = .ok (.bipush (-4), 2) := by decide +kernel
theorem dX7_rowOn_14 : decode cX7_rowOn 14 = .ok (.goto 22, 3) := by decide +kernel
theorem dX7_rowOn_17 : decode cX7_rowOn 17 = .ok (.aload_n 0, 1) := by decide +kernel
theorem dX7_rowOn_18 : decode cX7_rowOn 18 = .ok (.getfield 7, 3) := by decide +kernel
theorem dX7_rowOn_21 : decode cX7_rowOn 21 = .ok (.iload_n 1, 1) := by decide +kernel
theorem dX7_rowOn_22 : decode cX7_rowOn 22 = .ok (.bipush 52, 2) := by decide +kernel
theorem dX7_rowOn_24 : decode cX7_rowOn 24 = .ok (.iadd, 1) := by decide +kernel
theorem dX7_rowOn_25 : decode cX7_rowOn 25 = .ok (.iaload, 1) := by decide +kernel
theorem dX7_rowOn_26 : decode cX7_rowOn 26 = .ok (.aload_n 0, 1) := by decide +kernel
theorem dX7_rowOn_27 : decode cX7_rowOn 27 = .ok (.getfield 7, 3) := by decide +kernel
theorem dX7_rowOn_30 : decode cX7_rowOn 30 = .ok (.iload_n 1, 1) := by decide +kernel
theorem dX7_rowOn_31 : decode cX7_rowOn 31 = .ok (.bipush 49, 2) := by decide +kernel
theorem dX7_rowOn_33 : decode cX7_rowOn 33 = .ok (.iadd, 1) := by decide +kernel
theorem dX7_rowOn_34 : decode cX7_rowOn 34 = .ok (.iaload, 1) := by decide +kernel
theorem dX7_rowOn_35 : decode cX7_rowOn 35 = .ok (.irem, 1) := by decide +kernel
theorem dX7_rowOn_36 : decode cX7_rowOn 36 = .ok (.ireturn, 1) := by decide +kernel
theorem dX7_watchersOn_0 : decode cX7_watchersOn 0 = .ok (.aload_n 0, 1) := by decide +kernel
theorem dX7_watchersOn_1 : decode cX7_watchersOn 1 = .ok (.iload_n 1, 1) := by decide +kernel
theorem dX7_watchersOn_2 : decode cX7_watchersOn 2 = .ok (.invokevirtual 131, 3) := by decide +kernel
theorem dX7_watchersOn_5 : decode cX7_watchersOn 5 = .ok (.istore_n 2, 1) := by decide +kernel
theorem dX7_watchersOn_6 : decode cX7_watchersOn 6 = .ok (.iload_n 2, 1) := by decide +kernel
theorem dX7_watchersOn_7 : decode cX7_watchersOn 7 = .ok (.bipush (-4), 2) := by decide +kernel
theorem dX7_watchersOn_9 : decode cX7_watchersOn 9 = .ok (.if_icmp .ne 7, 3) := by decide +kernel
theorem dX7_watchersOn_12 : decode cX7_watchersOn 12 = .ok (.iconst 0, 1) := by decide +kernel
theorem dX7_watchersOn_13 : decode cX7_watchersOn 13 = .ok (.goto 14, 3) := by decide +kernel
theorem dX7_watchersOn_16 : decode cX7_watchersOn 16 = .ok (.aload_n 0, 1) := by decide +kernel
theorem dX7_watchersOn_17 : decode cX7_watchersOn 17 = .ok (.getfield 7, 3) := by decide +kernel
theorem dX7_watchersOn_20 : decode cX7_watchersOn 20 = .ok (.iload_n 1, 1) := by decide +kernel
theorem dX7_watchersOn_21 : decode cX7_watchersOn 21 = .ok (.bipush 25, 2) := by decide +kernel
theorem dX7_watchersOn_23 : decode cX7_watchersOn 23 = .ok (.iadd, 1) := by decide +kernel
theorem dX7_watchersOn_24 : decode cX7_watchersOn 24 = .ok (.iload_n 2, 1) := by decide +kernel
theorem dX7_watchersOn_25 : decode cX7_watchersOn 25 = .ok (.iadd, 1) := by decide +kernel
theorem dX7_watchersOn_26 : decode cX7_watchersOn 26 = .ok (.iaload, 1) := by decide +kernel
theorem dX7_watchersOn_27 : decode cX7_watchersOn 27 = .ok (.ireturn, 1) := by decide +kernel
theorem dX7_whomOn_0 : decode cX7_whomOn 0 = .ok (.aload_n 0, 1) := by decide +kernel
theorem dX7_whomOn_1 : decode cX7_whomOn 1 = .ok (.iload_n 1, 1) := by decide +kernel
theorem dX7_whomOn_2 : decode cX7_whomOn 2 = .ok (.invokevirtual 131, 3) := by decide +kernel
theorem dX7_whomOn_5 : decode cX7_whomOn 5 = .ok (.istore_n 2, 1) := by decide +kernel
theorem dX7_whomOn_6 : decode cX7_whomOn 6 = .ok (.iload_n 2, 1) := by decide +kernel
theorem dX7_whomOn_7 : decode cX7_whomOn 7 = .ok (.bipush (-4), 2) := by decide +kernel
theorem dX7_whomOn_9 : decode cX7_whomOn 9 = .ok (.if_icmp .ne 7, 3) := by decide +kernel
theorem dX7_whomOn_12 : decode cX7_whomOn 12 = .ok (.iconst 4, 1) := by decide +kernel
theorem dX7_whomOn_13 : decode cX7_whomOn 13 = .ok (.goto 14, 3) := by decide +kernel
theorem dX7_whomOn_16 : decode cX7_whomOn 16 = .ok (.aload_n 0, 1) := by decide +kernel
theorem dX7_whomOn_17 : decode cX7_whomOn 17 = .ok (.getfield 7, 3) := by decide +kernel
theorem dX7_whomOn_20 : decode cX7_whomOn 20 = .ok (.iload_n 1, 1) := by decide +kernel
theorem dX7_whomOn_21 : decode cX7_whomOn 21 = .ok (.bipush 37, 2) := by decide +kernel
theorem dX7_whomOn_23 : decode cX7_whomOn 23 = .ok (.iadd, 1) := by decide +kernel
theorem dX7_whomOn_24 : decode cX7_whomOn 24 = .ok (.iload_n 2, 1) := by decide +kernel
theorem dX7_whomOn_25 : decode cX7_whomOn 25 = .ok (.iadd, 1) := by decide +kernel
theorem dX7_whomOn_26 : decode cX7_whomOn 26 = .ok (.iaload, 1) := by decide +kernel
theorem dX7_whomOn_27 : decode cX7_whomOn 27 = .ok (.ireturn, 1) := by decide +kernel
theorem dX7_goesUp_0 : decode cX7_goesUp 0 = .ok (.aload_n 0, 1) := by decide +kernel
theorem dX7_goesUp_1 : decode cX7_goesUp 1 = .ok (.getfield 7, 3) := by decide +kernel
theorem dX7_goesUp_4 : decode cX7_goesUp 4 = .ok (.iload_n 1, 1) := by decide +kernel
theorem dX7_goesUp_5 : decode cX7_goesUp 5 = .ok (.bipush 12, 2) := by decide +kernel
theorem dX7_goesUp_7 : decode cX7_goesUp 7 = .ok (.iadd, 1) := by decide +kernel
theorem dX7_goesUp_8 : decode cX7_goesUp 8 = .ok (.iload_n 2, 1) := by decide +kernel
theorem dX7_goesUp_9 : decode cX7_goesUp 9 = .ok (.iadd, 1) := by decide +kernel
theorem dX7_goesUp_10 : decode cX7_goesUp 10 = .ok (.iaload, 1) := by decide +kernel
theorem dX7_goesUp_11 : decode cX7_goesUp 11 = .ok (.aload_n 0, 1) := by decide +kernel
theorem dX7_goesUp_12 : decode cX7_goesUp 12 = .ok (.iload_n 1, 1) := by decide +kernel
theorem dX7_goesUp_13 : decode cX7_goesUp 13 = .ok (.iload_n 2, 1) := by decide +kernel
theorem dX7_goesUp_14 : decode cX7_goesUp 14 = .ok (.invokevirtual 134, 3) := by decide +kernel
theorem dX7_goesUp_17 : decode cX7_goesUp 17 = .ok (.iadd, 1) := by decide +kernel
theorem dX7_goesUp_18 : decode cX7_goesUp 18 = .ok (.istore 5, 2) := by decide +kernel
theorem dX7_goesUp_20 : decode cX7_goesUp 20 = .ok (.aload_n 0, 1) := by decide +kernel
theorem dX7_goesUp_21 : decode cX7_goesUp 21 = .ok (.getfield 7, 3) := by decide +kernel
theorem dX7_goesUp_24 : decode cX7_goesUp 24 = .ok (.iload_n 1, 1) := by decide +kernel
theorem dX7_goesUp_25 : decode cX7_goesUp 25 = .ok (.bipush 16, 2) := by decide +kernel
theorem dX7_goesUp_27 : decode cX7_goesUp 27 = .ok (.iadd, 1) := by decide +kernel
theorem dX7_goesUp_28 : decode cX7_goesUp 28 = .ok (.iload_n 2, 1) := by decide +kernel
theorem dX7_goesUp_29 : decode cX7_goesUp 29 = .ok (.iadd, 1) := by decide +kernel
theorem dX7_goesUp_30 : decode cX7_goesUp 30 = .ok (.iaload, 1) := by decide +kernel
theorem dX7_goesUp_31 : decode cX7_goesUp 31 = .ok (.aload_n 0, 1) := by decide +kernel
theorem dX7_goesUp_32 : decode cX7_goesUp 32 = .ok (.iload_n 1, 1) := by decide +kernel
theorem dX7_goesUp_33 : decode cX7_goesUp 33 = .ok (.iload_n 2, 1) := by decide +kernel
theorem dX7_goesUp_34 : decode cX7_goesUp 34 = .ok (.iload_n 3, 1) := by decide +kernel
theorem dX7_goesUp_35 : decode cX7_goesUp 35 = .ok (.invokevirtual 137, 3) := by decide +kernel
theorem dX7_goesUp_38 : decode cX7_goesUp 38 = .ok (.iadd, 1) := by decide +kernel
theorem dX7_goesUp_39 : decode cX7_goesUp 39 = .ok (.istore 6, 2) := by decide +kernel
theorem dX7_goesUp_41 : decode cX7_goesUp 41 = .ok (.iload 5, 2) := by decide +kernel
theorem dX7_goesUp_43 : decode cX7_goesUp 43 = .ok (.sipush 199, 3) := by decide +kernel
theorem dX7_goesUp_46 : decode cX7_goesUp 46 = .ok (.if_icmp .le 9, 3) := by decide +kernel
theorem dX7_goesUp_49 : decode cX7_goesUp 49 = .ok (.sipush 199, 3) := by decide +kernel
theorem dX7_goesUp_52 : decode cX7_goesUp 52 = .ok (.goto 5, 3) := by decide +kernel
theorem dX7_goesUp_55 : decode cX7_goesUp 55 = .ok (.iload 5, 2) := by decide +kernel
theorem dX7_goesUp_57 : decode cX7_goesUp 57 = .ok (.istore 5, 2) := by decide +kernel
theorem dX7_goesUp_59 : decode cX7_goesUp 59 = .ok (.iload 6, 2) := by decide +kernel
theorem dX7_goesUp_61 : decode cX7_goesUp 61 = .ok (.bipush 20, 2) := by decide +kernel
theorem dX7_goesUp_63 : decode cX7_goesUp 63 = .ok (.if_icmp .le 8, 3) := by decide +kernel
theorem dX7_goesUp_66 : decode cX7_goesUp 66 = .ok (.bipush 20, 2) := by decide +kernel
theorem dX7_goesUp_68 : decode cX7_goesUp 68 = .ok (.goto 5, 3) := by decide +kernel
theorem dX7_goesUp_71 : decode cX7_goesUp 71 = .ok (.iload 6, 2) := by decide +kernel
theorem dX7_goesUp_73 : decode cX7_goesUp 73 = .ok (.istore 6, 2) := by decide +kernel
theorem dX7_goesUp_75 : decode cX7_goesUp 75 = .ok (.iload 6, 2) := by decide +kernel
theorem dX7_goesUp_77 : decode cX7_goesUp 77 = .ok (.iload 4, 2) := by decide +kernel
theorem dX7_goesUp_79 : decode cX7_goesUp 79 = .ok (.iload_n 2, 1) := by decide +kernel
theorem dX7_goesUp_80 : decode cX7_goesUp 80 = .ok (.if_icmp .ne 17, 3) := by decide +kernel
theorem dX7_goesUp_83 : decode cX7_goesUp 83 = .ok (.aload_n 0, 1) := by decide +kernel
theorem dX7_goesUp_84 : decode cX7_goesUp 84 = .ok (.getfield 7, 3) := by decide +kernel
theorem dX7_goesUp_87 : decode cX7_goesUp 87 = .ok (.iload_n 1, 1) := by decide +kernel
theorem dX7_goesUp_88 : decode cX7_goesUp 88 = .ok (.bipush 51, 2) := by decide +kernel
theorem dX7_goesUp_90 : decode cX7_goesUp 90 = .ok (.iadd, 1) := by decide +kernel
theorem dX7_goesUp_91 : decode cX7_goesUp 91 = .ok (.iaload, 1) := by decide +kernel
theorem dX7_goesUp_92 : decode cX7_goesUp 92 = .ok (.iconst 4, 1) := by decide +kernel
theorem dX7_goesUp_93 : decode cX7_goesUp 93 = .ok (.iadd, 1) := by decide +kernel
theorem dX7_goesUp_94 : decode cX7_goesUp 94 = .ok (.goto 4, 3) := by decide +kernel
theorem dX7_goesUp_97 : decode cX7_goesUp 97 = .ok (.iconst 0, 1) := by decide +kernel
theorem dX7_goesUp_98 : decode cX7_goesUp 98 = .ok (.isub, 1) := by decide +kernel
theorem dX7_goesUp_99 : decode cX7_goesUp 99 = .ok (.istore 6, 2) := by decide +kernel
theorem dX7_goesUp_101 : decode cX7_goesUp 101 = .ok (.iload 6, 2) := by decide +kernel
theorem dX7_goesUp_103 : decode cX7_goesUp 103 = .ok (.ifCond .ge 7, 3) := by decide +kernel
theorem dX7_goesUp_106 : decode cX7_goesUp 106 = .ok (.iconst 0, 1) := by decide +kernel
theorem dX7_goesUp_107 : decode cX7_goesUp 107 = .ok (.goto 5, 3) := by decide +kernel
theorem dX7_goesUp_110 : decode cX7_goesUp 110 = .ok (.iload 6, 2) := by decide +kernel
theorem dX7_goesUp_112 : decode cX7_goesUp 112 = .ok (.istore 6, 2) := by decide +kernel
theorem dX7_goesUp_114 : decode cX7_goesUp 114 = .ok (.iload 6, 2) := by decide +kernel
theorem dX7_goesUp_116 : decode cX7_goesUp 116 = .ok (.iload_n 3, 1) := by decide +kernel
theorem dX7_goesUp_117 : decode cX7_goesUp 117 = .ok (.ifCond .ne 12, 3) := by decide +kernel
theorem dX7_goesUp_120 : decode cX7_goesUp 120 = .ok (.aload_n 0, 1) := by decide +kernel
theorem dX7_goesUp_121 : decode cX7_goesUp 121 = .ok (.iload_n 1, 1) := by decide +kernel
theorem dX7_goesUp_122 : decode cX7_goesUp 122 = .ok (.iload_n 2, 1) := by decide +kernel
theorem dX7_goesUp_123 : decode cX7_goesUp 123 = .ok (.invokevirtual 141, 3) := by decide +kernel
theorem dX7_goesUp_126 : decode cX7_goesUp 126 = .ok (.goto 4, 3) := by decide +kernel
theorem dX7_goesUp_129 : decode cX7_goesUp 129 = .ok (.iconst 0, 1) := by decide +kernel
theorem dX7_goesUp_130 : decode cX7_goesUp 130 = .ok (.isub, 1) := by decide +kernel
theorem dX7_goesUp_131 : decode cX7_goesUp 131 = .ok (.istore 6, 2) := by decide +kernel
theorem dX7_goesUp_133 : decode cX7_goesUp 133 = .ok (.iload 6, 2) := by decide +kernel
theorem dX7_goesUp_135 : decode cX7_goesUp 135 = .ok (.ifCond .ge 7, 3) := by decide +kernel
theorem dX7_goesUp_138 : decode cX7_goesUp 138 = .ok (.iconst 0, 1) := by decide +kernel
theorem dX7_goesUp_139 : decode cX7_goesUp 139 = .ok (.goto 5, 3) := by decide +kernel
theorem dX7_goesUp_142 : decode cX7_goesUp 142 = .ok (.iload 6, 2) := by decide +kernel
theorem dX7_goesUp_144 : decode cX7_goesUp 144 = .ok (.istore 6, 2) := by decide +kernel
theorem dX7_goesUp_146 : decode cX7_goesUp 146 = .ok (.iload 5, 2) := by decide +kernel
theorem dX7_goesUp_148 : decode cX7_goesUp 148 = .ok (.aload_n 0, 1) := by decide +kernel
theorem dX7_goesUp_149 : decode cX7_goesUp 149 = .ok (.getfield 7, 3) := by decide +kernel
theorem dX7_goesUp_152 : decode cX7_goesUp 152 = .ok (.iload_n 1, 1) := by decide +kernel
theorem dX7_goesUp_153 : decode cX7_goesUp 153 = .ok (.iconst 4, 1) := by decide +kernel
theorem dX7_goesUp_154 : decode cX7_goesUp 154 = .ok (.iadd, 1) := by decide +kernel
theorem dX7_goesUp_155 : decode cX7_goesUp 155 = .ok (.iload_n 2, 1) := by decide +kernel
theorem dX7_goesUp_156 : decode cX7_goesUp 156 = .ok (.iadd, 1) := by decide +kernel
theorem dX7_goesUp_157 : decode cX7_goesUp 157 = .ok (.iaload, 1) := by decide +kernel
theorem dX7_goesUp_158 : decode cX7_goesUp 158 = .ok (.iload 6, 2) := by decide +kernel
theorem dX7_goesUp_160 : decode cX7_goesUp 160 = .ok (.iadd, 1) := by decide +kernel
theorem dX7_goesUp_161 : decode cX7_goesUp 161 = .ok (.if_icmp .lt 7, 3) := by decide +kernel
theorem dX7_goesUp_164 : decode cX7_goesUp 164 = .ok (.iconst 1, 1) := by decide +kernel
theorem dX7_goesUp_165 : decode cX7_goesUp 165 = .ok (.goto 4, 3) := by decide +kernel
theorem dX7_goesUp_168 : decode cX7_goesUp 168 = .ok (.iconst 0, 1) := by decide +kernel
theorem dX7_goesUp_169 : decode cX7_goesUp 169 = .ok (.istore 7, 2) := by decide +kernel
theorem dX7_goesUp_171 : decode cX7_goesUp 171 = .ok (.aload_n 0, 1) := by decide +kernel
theorem dX7_goesUp_172 : decode cX7_goesUp 172 = .ok (.getfield 7, 3) := by decide +kernel
theorem dX7_goesUp_175 : decode cX7_goesUp 175 = .ok (.iload_n 1, 1) := by decide +kernel
theorem dX7_goesUp_176 : decode cX7_goesUp 176 = .ok (.bipush 12, 2) := by decide +kernel
theorem dX7_goesUp_178 : decode cX7_goesUp 178 = .ok (.iadd, 1) := by decide +kernel
theorem dX7_goesUp_179 : decode cX7_goesUp 179 = .ok (.iload_n 2, 1) := by decide +kernel
theorem dX7_goesUp_180 : decode cX7_goesUp 180 = .ok (.iadd, 1) := by decide +kernel
theorem dX7_goesUp_181 : decode cX7_goesUp 181 = .ok (.iload 7, 2) := by decide +kernel
theorem dX7_goesUp_183 : decode cX7_goesUp 183 = .ok (.ifCond .eq 7, 3) := by decide +kernel
theorem dX7_goesUp_186 : decode cX7_goesUp 186 = .ok (.iconst 0, 1) := by decide +kernel
theorem dX7_goesUp_187 : decode cX7_goesUp 187 = .ok (.goto 5, 3) := by decide +kernel
theorem dX7_goesUp_190 : decode cX7_goesUp 190 = .ok (.iload 5, 2) := by decide +kernel
theorem dX7_goesUp_192 : decode cX7_goesUp 192 = .ok (.iastore, 1) := by decide +kernel
theorem dX7_goesUp_193 : decode cX7_goesUp 193 = .ok (.aload_n 0, 1) := by decide +kernel
theorem dX7_goesUp_194 : decode cX7_goesUp 194 = .ok (.getfield 7, 3) := by decide +kernel
theorem dX7_goesUp_197 : decode cX7_goesUp 197 = .ok (.iload_n 1, 1) := by decide +kernel
theorem dX7_goesUp_198 : decode cX7_goesUp 198 = .ok (.bipush 16, 2) := by decide +kernel
theorem dX7_goesUp_200 : decode cX7_goesUp 200 = .ok (.iadd, 1) := by decide +kernel
theorem dX7_goesUp_201 : decode cX7_goesUp 201 = .ok (.iload_n 2, 1) := by decide +kernel
theorem dX7_goesUp_202 : decode cX7_goesUp 202 = .ok (.iadd, 1) := by decide +kernel
theorem dX7_goesUp_203 : decode cX7_goesUp 203 = .ok (.iload 7, 2) := by decide +kernel
theorem dX7_goesUp_205 : decode cX7_goesUp 205 = .ok (.ifCond .eq 7, 3) := by decide +kernel
theorem dX7_goesUp_208 : decode cX7_goesUp 208 = .ok (.iconst 0, 1) := by decide +kernel
theorem dX7_goesUp_209 : decode cX7_goesUp 209 = .ok (.goto 5, 3) := by decide +kernel
theorem dX7_goesUp_212 : decode cX7_goesUp 212 = .ok (.iload 6, 2) := by decide +kernel
theorem dX7_goesUp_214 : decode cX7_goesUp 214 = .ok (.iastore, 1) := by decide +kernel
theorem dX7_goesUp_215 : decode cX7_goesUp 215 = .ok (.aload_n 0, 1) := by decide +kernel
theorem dX7_goesUp_216 : decode cX7_goesUp 216 = .ok (.getfield 7, 3) := by decide +kernel
theorem dX7_goesUp_219 : decode cX7_goesUp 219 = .ok (.iload_n 1, 1) := by decide +kernel
theorem dX7_goesUp_220 : decode cX7_goesUp 220 = .ok (.bipush 20, 2) := by decide +kernel
theorem dX7_goesUp_222 : decode cX7_goesUp 222 = .ok (.iadd, 1) := by decide +kernel
theorem dX7_goesUp_223 : decode cX7_goesUp 223 = .ok (.iload_n 2, 1) := by decide +kernel
theorem dX7_goesUp_224 : decode cX7_goesUp 224 = .ok (.iadd, 1) := by decide +kernel
theorem dX7_goesUp_225 : decode cX7_goesUp 225 = .ok (.dup2, 1) := by decide +kernel
theorem dX7_goesUp_226 : decode cX7_goesUp 226 = .ok (.iaload, 1) := by decide +kernel
theorem dX7_goesUp_227 : decode cX7_goesUp 227 = .ok (.iload 7, 2) := by decide +kernel
theorem dX7_goesUp_229 : decode cX7_goesUp 229 = .ok (.ifCond .eq 7, 3) := by decide +kernel
theorem dX7_goesUp_232 : decode cX7_goesUp 232 = .ok (.iconst 1, 1) := by decide +kernel
theorem dX7_goesUp_233 : decode cX7_goesUp 233 = .ok (.goto 4, 3) := by decide +kernel
theorem dX7_goesUp_236 : decode cX7_goesUp 236 = .ok (.iconst 0, 1) := by decide +kernel
theorem dX7_goesUp_237 : decode cX7_goesUp 237 = .ok (.iadd, 1) := by decide +kernel
theorem dX7_goesUp_238 : decode cX7_goesUp 238 = .ok (.iastore, 1) := by decide +kernel
theorem dX7_goesUp_239 : decode cX7_goesUp 239 = .ok (.iload 7, 2) := by decide +kernel
theorem dX7_goesUp_241 : decode cX7_goesUp 241 = .ok (.ireturn, 1) := by decide +kernel
theorem dX7_hourOn_0 : decode cX7_hourOn 0 = .ok (.iconst 0, 1) := by decide +kernel
theorem dX7_hourOn_1 : decode cX7_hourOn 1 = .ok (.istore 4, 2) := by decide +kernel
theorem dX7_hourOn_3 : decode cX7_hourOn 3 = .ok (.iconst 0, 1) := by decide +kernel
theorem dX7_hourOn_4 : decode cX7_hourOn 4 = .ok (.istore 5, 2) := by decide +kernel
theorem dX7_hourOn_6 : decode cX7_hourOn 6 = .ok (.iload 5, 2) := by decide +kernel
theorem dX7_hourOn_8 : decode cX7_hourOn 8 = .ok (.aload_n 0, 1) := by decide +kernel
theorem dX7_hourOn_9 : decode cX7_hourOn 9 = .ok (.getfield 7, 3) := by decide +kernel
theorem dX7_hourOn_12 : decode cX7_hourOn 12 = .ok (.iload_n 1, 1) := by decide +kernel
theorem dX7_hourOn_13 : decode cX7_hourOn 13 = .ok (.bipush 24, 2) := by decide +kernel
theorem dX7_hourOn_15 : decode cX7_hourOn 15 = .ok (.iadd, 1) := by decide +kernel
theorem dX7_hourOn_16 : decode cX7_hourOn 16 = .ok (.iaload, 1) := by decide +kernel
theorem dX7_hourOn_17 : decode cX7_hourOn 17 = .ok (.if_icmp .ge 34, 3) := by decide +kernel
theorem dX7_hourOn_20 : decode cX7_hourOn 20 = .ok (.iload 4, 2) := by decide +kernel
theorem dX7_hourOn_22 : decode cX7_hourOn 22 = .ok (.aload_n 0, 1) := by decide +kernel
theorem dX7_hourOn_23 : decode cX7_hourOn 23 = .ok (.iload_n 1, 1) := by decide +kernel
theorem dX7_hourOn_24 : decode cX7_hourOn 24 = .ok (.iload 5, 2) := by decide +kernel
theorem dX7_hourOn_26 : decode cX7_hourOn 26 = .ok (.iload_n 2, 1) := by decide +kernel
theorem dX7_hourOn_27 : decode cX7_hourOn 27 = .ok (.iload_n 3, 1) := by decide +kernel
theorem dX7_hourOn_28 : decode cX7_hourOn 28 = .ok (.invokevirtual 144, 3) := by decide +kernel
theorem dX7_hourOn_31 : decode cX7_hourOn 31 = .ok (.ifCond .eq 10, 3) := by decide +kernel
theorem dX7_hourOn_34 : decode cX7_hourOn 34 = .ok (.iconst 1, 1) := by decide +kernel
theorem dX7_hourOn_35 : decode cX7_hourOn 35 = .ok (.iload 5, 2) := by decide +kernel
theorem dX7_hourOn_37 : decode cX7_hourOn 37 = .ok (.ishl, 1) := by decide +kernel
theorem dX7_hourOn_38 : decode cX7_hourOn 38 = .ok (.goto 4, 3) := by decide +kernel
theorem dX7_hourOn_41 : decode cX7_hourOn 41 = .ok (.iconst 0, 1) := by decide +kernel
theorem dX7_hourOn_42 : decode cX7_hourOn 42 = .ok (.ior, 1) := by decide +kernel
theorem dX7_hourOn_43 : decode cX7_hourOn 43 = .ok (.istore 4, 2) := by decide +kernel
theorem dX7_hourOn_45 : decode cX7_hourOn 45 = .ok (.iinc 5 1, 3) := by decide +kernel
theorem dX7_hourOn_48 : decode cX7_hourOn 48 = .ok (.goto (-42), 3) := by decide +kernel
theorem dX7_hourOn_51 : decode cX7_hourOn 51 = .ok (.aload_n 0, 1) := by decide +kernel
theorem dX7_hourOn_52 : decode cX7_hourOn 52 = .ok (.getfield 7, 3) := by decide +kernel
theorem dX7_hourOn_55 : decode cX7_hourOn 55 = .ok (.iload_n 1, 1) := by decide +kernel
theorem dX7_hourOn_56 : decode cX7_hourOn 56 = .ok (.bipush 52, 2) := by decide +kernel
theorem dX7_hourOn_58 : decode cX7_hourOn 58 = .ok (.iadd, 1) := by decide +kernel
theorem dX7_hourOn_59 : decode cX7_hourOn 59 = .ok (.dup2, 1) := by decide +kernel
theorem dX7_hourOn_60 : decode cX7_hourOn 60 = .ok (.iaload, 1) := by decide +kernel
theorem dX7_hourOn_61 : decode cX7_hourOn 61 = .ok (.iconst 1, 1) := by decide +kernel
theorem dX7_hourOn_62 : decode cX7_hourOn 62 = .ok (.iadd, 1) := by decide +kernel
theorem dX7_hourOn_63 : decode cX7_hourOn 63 = .ok (.iastore, 1) := by decide +kernel
theorem dX7_hourOn_64 : decode cX7_hourOn 64 = .ok (.iload 4, 2) := by decide +kernel
theorem dX7_hourOn_66 : decode cX7_hourOn 66 = .ok (.ireturn, 1) := by decide +kernel
theorem dX7_planOn_0 : decode cX7_planOn 0 = .ok (.aload_n 0, 1) := by decide +kernel
theorem dX7_planOn_1 : decode cX7_planOn 1 = .ok (.iload_n 1, 1) := by decide +kernel
theorem dX7_planOn_2 : decode cX7_planOn 2 = .ok (.aload_n 0, 1) := by decide +kernel
theorem dX7_planOn_3 : decode cX7_planOn 3 = .ok (.iload_n 1, 1) := by decide +kernel
theorem dX7_planOn_4 : decode cX7_planOn 4 = .ok (.invokevirtual 148, 3) := by decide +kernel
theorem dX7_planOn_7 : decode cX7_planOn 7 = .ok (.aload_n 0, 1) := by decide +kernel
theorem dX7_planOn_8 : decode cX7_planOn 8 = .ok (.iload_n 1, 1) := by decide +kernel
theorem dX7_planOn_9 : decode cX7_planOn 9 = .ok (.invokevirtual 151, 3) := by decide +kernel
theorem dX7_planOn_12 : decode cX7_planOn 12 = .ok (.invokevirtual 154, 3) := by decide +kernel
theorem dX7_planOn_15 : decode cX7_planOn 15 = .ok (.ireturn, 1) := by decide +kernel
theorem dX7_sumOn_0 : decode cX7_sumOn 0 = .ok (.iconst 0, 1) := by decide +kernel
theorem dX7_sumOn_1 : decode cX7_sumOn 1 = .ok (.istore_n 3, 1) := by decide +kernel
theorem dX7_sumOn_2 : decode cX7_sumOn 2 = .ok (.iconst 0, 1) := by decide +kernel
theorem dX7_sumOn_3 : decode cX7_sumOn 3 = .ok (.istore 4, 2) := by decide +kernel
theorem dX7_sumOn_5 : decode cX7_sumOn 5 = .ok (.iload 4, 2) := by decide +kernel
theorem dX7_sumOn_7 : decode cX7_sumOn 7 = .ok (.aload_n 0, 1) := by decide +kernel
theorem dX7_sumOn_8 : decode cX7_sumOn 8 = .ok (.getfield 7, 3) := by decide +kernel
theorem dX7_sumOn_11 : decode cX7_sumOn 11 = .ok (.iload_n 1, 1) := by decide +kernel
theorem dX7_sumOn_12 : decode cX7_sumOn 12 = .ok (.bipush 24, 2) := by decide +kernel
theorem dX7_sumOn_14 : decode cX7_sumOn 14 = .ok (.iadd, 1) := by decide +kernel
theorem dX7_sumOn_15 : decode cX7_sumOn 15 = .ok (.iaload, 1) := by decide +kernel
theorem dX7_sumOn_16 : decode cX7_sumOn 16 = .ok (.if_icmp .ge 23, 3) := by decide +kernel
theorem dX7_sumOn_19 : decode cX7_sumOn 19 = .ok (.iload_n 3, 1) := by decide +kernel
theorem dX7_sumOn_20 : decode cX7_sumOn 20 = .ok (.aload_n 0, 1) := by decide +kernel
theorem dX7_sumOn_21 : decode cX7_sumOn 21 = .ok (.getfield 7, 3) := by decide +kernel
theorem dX7_sumOn_24 : decode cX7_sumOn 24 = .ok (.iload_n 1, 1) := by decide +kernel
theorem dX7_sumOn_25 : decode cX7_sumOn 25 = .ok (.iload_n 2, 1) := by decide +kernel
theorem dX7_sumOn_26 : decode cX7_sumOn 26 = .ok (.iadd, 1) := by decide +kernel
theorem dX7_sumOn_27 : decode cX7_sumOn 27 = .ok (.iload 4, 2) := by decide +kernel
theorem dX7_sumOn_29 : decode cX7_sumOn 29 = .ok (.iadd, 1) := by decide +kernel
theorem dX7_sumOn_30 : decode cX7_sumOn 30 = .ok (.iaload, 1) := by decide +kernel
theorem dX7_sumOn_31 : decode cX7_sumOn 31 = .ok (.iadd, 1) := by decide +kernel
theorem dX7_sumOn_32 : decode cX7_sumOn 32 = .ok (.istore_n 3, 1) := by decide +kernel
theorem dX7_sumOn_33 : decode cX7_sumOn 33 = .ok (.iinc 4 1, 3) := by decide +kernel
theorem dX7_sumOn_36 : decode cX7_sumOn 36 = .ok (.goto (-31), 3) := by decide +kernel
theorem dX7_sumOn_39 : decode cX7_sumOn 39 = .ok (.iload_n 3, 1) := by decide +kernel
theorem dX7_sumOn_40 : decode cX7_sumOn 40 = .ok (.ireturn, 1) := by decide +kernel
theorem dX7_rule_0 : decode cX7_rule 0 = .ok (.iload_n 1, 1) := by decide +kernel
theorem dX7_rule_1 : decode cX7_rule 1 = .ok (.tableswitch 138 0 8 #[51, 59, 67, 75, 86, 96, 104, 110, 130], 51) := by decide +kernel
theorem dX7_rule_52 : decode cX7_rule 52 = .ok (.aload_n 0, 1) := by decide +kernel
theorem dX7_rule_53 : decode cX7_rule 53 = .ok (.getfield 7, 3) := by decide +kernel
theorem dX7_rule_56 : decode cX7_rule 56 = .ok (.bipush 24, 2) := by decide +kernel
theorem dX7_rule_58 : decode cX7_rule 58 = .ok (.iaload, 1) := by decide +kernel
theorem dX7_rule_59 : decode cX7_rule 59 = .ok (.ireturn, 1) := by decide +kernel
theorem dX7_rule_60 : decode cX7_rule 60 = .ok (.aload_n 0, 1) := by decide +kernel
theorem dX7_rule_61 : decode cX7_rule 61 = .ok (.getfield 7, 3) := by decide +kernel
theorem dX7_rule_64 : decode cX7_rule 64 = .ok (.bipush 49, 2) := by decide +kernel
theorem dX7_rule_66 : decode cX7_rule 66 = .ok (.iaload, 1) := by decide +kernel
theorem dX7_rule_67 : decode cX7_rule 67 = .ok (.ireturn, 1) := by decide +kernel
theorem dX7_rule_68 : decode cX7_rule 68 = .ok (.aload_n 0, 1) := by decide +kernel
theorem dX7_rule_69 : decode cX7_rule 69 = .ok (.getfield 7, 3) := by decide +kernel
theorem dX7_rule_72 : decode cX7_rule 72 = .ok (.bipush 52, 2) := by decide +kernel
theorem dX7_rule_74 : decode cX7_rule 74 = .ok (.iaload, 1) := by decide +kernel
theorem dX7_rule_75 : decode cX7_rule 75 = .ok (.ireturn, 1) := by decide +kernel
theorem dX7_rule_76 : decode cX7_rule 76 = .ok (.aload_n 0, 1) := by decide +kernel
theorem dX7_rule_77 : decode cX7_rule 77 = .ok (.getfield 7, 3) := by decide +kernel
theorem dX7_rule_80 : decode cX7_rule 80 = .ok (.bipush 50, 2) := by decide +kernel
theorem dX7_rule_82 : decode cX7_rule 82 = .ok (.iaload, 1) := by decide +kernel
theorem dX7_rule_83 : decode cX7_rule 83 = .ok (.bipush 8, 2) := by decide +kernel
theorem dX7_rule_85 : decode cX7_rule 85 = .ok (.iadd, 1) := by decide +kernel
theorem dX7_rule_86 : decode cX7_rule 86 = .ok (.ireturn, 1) := by decide +kernel
theorem dX7_rule_87 : decode cX7_rule 87 = .ok (.aload_n 0, 1) := by decide +kernel
theorem dX7_rule_88 : decode cX7_rule 88 = .ok (.getfield 7, 3) := by decide +kernel
theorem dX7_rule_91 : decode cX7_rule 91 = .ok (.bipush 51, 2) := by decide +kernel
theorem dX7_rule_93 : decode cX7_rule 93 = .ok (.iaload, 1) := by decide +kernel
theorem dX7_rule_94 : decode cX7_rule 94 = .ok (.iconst 4, 1) := by decide +kernel
theorem dX7_rule_95 : decode cX7_rule 95 = .ok (.iadd, 1) := by decide +kernel
theorem dX7_rule_96 : decode cX7_rule 96 = .ok (.ireturn, 1) := by decide +kernel
theorem dX7_rule_97 : decode cX7_rule 97 = .ok (.aload_n 0, 1) := by decide +kernel
theorem dX7_rule_98 : decode cX7_rule 98 = .ok (.iconst 0, 1) := by decide +kernel
theorem dX7_rule_99 : decode cX7_rule 99 = .ok (.bipush 20, 2) := by decide +kernel
theorem dX7_rule_101 : decode cX7_rule 101 = .ok (.invokevirtual 157, 3) := by decide +kernel
theorem dX7_rule_104 : decode cX7_rule 104 = .ok (.ireturn, 1) := by decide +kernel
theorem dX7_rule_105 : decode cX7_rule 105 = .ok (.aload_n 0, 1) := by decide +kernel
theorem dX7_rule_106 : decode cX7_rule 106 = .ok (.iconst 0, 1) := by decide +kernel
theorem dX7_rule_107 : decode cX7_rule 107 = .ok (.invokevirtual 148, 3) := by decide +kernel
theorem dX7_rule_110 : decode cX7_rule 110 = .ok (.ireturn, 1) := by decide +kernel
theorem dX7_rule_111 : decode cX7_rule 111 = .ok (.aload_n 0, 1) := by decide +kernel
theorem dX7_rule_112 : decode cX7_rule 112 = .ok (.iconst 0, 1) := by decide +kernel
theorem dX7_rule_113 : decode cX7_rule 113 = .ok (.invokevirtual 151, 3) := by decide +kernel
theorem dX7_rule_116 : decode cX7_rule 116 = .ok (.iconst 4, 1) := by decide +kernel
theorem dX7_rule_117 : decode cX7_rule 117 = .ok (.if_icmp .ne 8, 3) := by decide +kernel
theorem dX7_rule_120 : decode cX7_rule 120 = .ok (.bipush (-4), 2) := by decide +kernel
theorem dX7_rule_122 : decode cX7_rule 122 = .ok (.goto 8, 3) := by decide +kernel
theorem dX7_rule_125 : decode cX7_rule 125 = .ok (.aload_n 0, 1) := by decide +kernel
theorem dX7_rule_126 : decode cX7_rule 126 = .ok (.iconst 0, 1) := by decide +kernel
theorem dX7_rule_127 : decode cX7_rule 127 = .ok (.invokevirtual 151, 3) := by decide +kernel
theorem dX7_rule_130 : decode cX7_rule 130 = .ok (.ireturn, 1) := by decide +kernel
theorem dX7_rule_131 : decode cX7_rule 131 = .ok (.aload_n 0, 1) := by decide +kernel
theorem dX7_rule_132 : decode cX7_rule 132 = .ok (.iconst 0, 1) := by decide +kernel
theorem dX7_rule_133 : decode cX7_rule 133 = .ok (.bipush 12, 2) := by decide +kernel
theorem dX7_rule_135 : decode cX7_rule 135 = .ok (.invokevirtual 157, 3) := by decide +kernel
theorem dX7_rule_138 : decode cX7_rule 138 = .ok (.ireturn, 1) := by decide +kernel
theorem dX7_rule_139 : decode cX7_rule 139 = .ok (.iconst (-1), 1) := by decide +kernel
theorem dX7_rule_140 : decode cX7_rule 140 = .ok (.ireturn, 1) := by decide +kernel
theorem dX7_geyser_0 : decode cX7_geyser 0 = .ok (.aload_n 0, 1) := by decide +kernel
theorem dX7_geyser_1 : decode cX7_geyser 1 = .ok (.iload_n 1, 1) := by decide +kernel
theorem dX7_geyser_2 : decode cX7_geyser 2 = .ok (.invokevirtual 160, 3) := by decide +kernel
theorem dX7_geyser_5 : decode cX7_geyser 5 = .ok (.ifCond .eq 15, 3) := by decide +kernel
theorem dX7_geyser_8 : decode cX7_geyser 8 = .ok (.iload_n 2, 1) := by decide +kernel
theorem dX7_geyser_9 : decode cX7_geyser 9 = .ok (.i2l, 1) := by decide +kernel
theorem dX7_geyser_10 : decode cX7_geyser 10 = .ok (.lconst 0, 1) := by decide +kernel
theorem dX7_geyser_11 : decode cX7_geyser 11 = .ok (.ldc2_w 164, 3) := by decide +kernel
theorem dX7_geyser_14 : decode cX7_geyser 14 = .ok (.invokestatic 55, 3) := by decide +kernel
theorem dX7_geyser_17 : decode cX7_geyser 17 = .ok (.ifCond .ne 5, 3) := by decide +kernel
theorem dX7_geyser_20 : decode cX7_geyser 20 = .ok (.iconst (-1), 1) := by decide +kernel
theorem dX7_geyser_21 : decode cX7_geyser 21 = .ok (.ireturn, 1) := by decide +kernel
theorem dX7_geyser_22 : decode cX7_geyser 22 = .ok (.iload_n 2, 1) := by decide +kernel
theorem dX7_geyser_23 : decode cX7_geyser 23 = .ok (.bipush 6, 2) := by decide +kernel
theorem dX7_geyser_25 : decode cX7_geyser 25 = .ok (.if_icmp .ge 16, 3) := by decide +kernel
theorem dX7_geyser_28 : decode cX7_geyser 28 = .ok (.aload_n 0, 1) := by decide +kernel
theorem dX7_geyser_29 : decode cX7_geyser 29 = .ok (.getfield 7, 3) := by decide +kernel
theorem dX7_geyser_32 : decode cX7_geyser 32 = .ok (.iconst 4, 1) := by decide +kernel
theorem dX7_geyser_33 : decode cX7_geyser 33 = .ok (.iload_n 2, 1) := by decide +kernel
theorem dX7_geyser_34 : decode cX7_geyser 34 = .ok (.imul, 1) := by decide +kernel
theorem dX7_geyser_35 : decode cX7_geyser 35 = .ok (.iload_n 1, 1) := by decide +kernel
theorem dX7_geyser_36 : decode cX7_geyser 36 = .ok (.iadd, 1) := by decide +kernel
theorem dX7_geyser_37 : decode cX7_geyser 37 = .ok (.iaload, 1) := by decide +kernel
theorem dX7_geyser_38 : decode cX7_geyser 38 = .ok (.goto 29, 3) := by decide +kernel
theorem dX7_geyser_41 : decode cX7_geyser 41 = .ok (.iload_n 2, 1) := by decide +kernel
theorem dX7_geyser_42 : decode cX7_geyser 42 = .ok (.bipush 6, 2) := by decide +kernel
theorem dX7_geyser_44 : decode cX7_geyser 44 = .ok (.if_icmp .ne 12, 3) := by decide +kernel
theorem dX7_geyser_47 : decode cX7_geyser 47 = .ok (.aload_n 0, 1) := by decide +kernel
theorem dX7_geyser_48 : decode cX7_geyser 48 = .ok (.iconst 0, 1) := by decide +kernel
theorem dX7_geyser_49 : decode cX7_geyser 49 = .ok (.iload_n 1, 1) := by decide +kernel
theorem dX7_geyser_50 : decode cX7_geyser 50 = .ok (.invokevirtual 134, 3) := by decide +kernel
theorem dX7_geyser_53 : decode cX7_geyser 53 = .ok (.goto 14, 3) := by decide +kernel
theorem dX7_geyser_56 : decode cX7_geyser 56 = .ok (.aload_n 0, 1) := by decide +kernel
theorem dX7_geyser_57 : decode cX7_geyser 57 = .ok (.iconst 0, 1) := by decide +kernel
theorem dX7_geyser_58 : decode cX7_geyser 58 = .ok (.iload_n 1, 1) := by decide +kernel
theorem dX7_geyser_59 : decode cX7_geyser 59 = .ok (.aload_n 0, 1) := by decide +kernel
theorem dX7_geyser_60 : decode cX7_geyser 60 = .ok (.iconst 0, 1) := by decide +kernel
theorem dX7_geyser_61 : decode cX7_geyser 61 = .ok (.invokevirtual 148, 3) := by decide +kernel
theorem dX7_geyser_64 : decode cX7_geyser 64 = .ok (.invokevirtual 137, 3) := by decide +kernel
theorem dX7_geyser_67 : decode cX7_geyser 67 = .ok (.ireturn, 1) := by decide +kernel
theorem dX7_row_0 : decode cX7_row 0 = .ok (.aload_n 0, 1) := by decide +kernel
theorem dX7_row_1 : decode cX7_row 1 = .ok (.iload_n 1, 1) := by decide +kernel
theorem dX7_row_2 : decode cX7_row 2 = .ok (.invokevirtual 166, 3) := by decide +kernel
theorem dX7_row_5 : decode cX7_row 5 = .ok (.ifCond .eq 30, 3) := by decide +kernel
theorem dX7_row_8 : decode cX7_row 8 = .ok (.iload_n 2, 1) := by decide +kernel
theorem dX7_row_9 : decode cX7_row 9 = .ok (.i2l, 1) := by decide +kernel
theorem dX7_row_10 : decode cX7_row 10 = .ok (.lconst 0, 1) := by decide +kernel
theorem dX7_row_11 : decode cX7_row 11 = .ok (.lconst 1, 1) := by decide +kernel
theorem dX7_row_12 : decode cX7_row 12 = .ok (.invokestatic 55, 3) := by decide +kernel
theorem dX7_row_15 : decode cX7_row 15 = .ok (.ifCond .eq 20, 3) := by decide +kernel
theorem dX7_row_18 : decode cX7_row 18 = .ok (.aload_n 0, 1) := by decide +kernel
theorem dX7_row_19 : decode cX7_row 19 = .ok (.getfield 7, 3) := by decide +kernel
theorem dX7_row_22 : decode cX7_row 22 = .ok (.bipush 25, 2) := by decide +kernel
theorem dX7_row_24 : decode cX7_row 24 = .ok (.bipush 12, 2) := by decide +kernel
theorem dX7_row_26 : decode cX7_row 26 = .ok (.iload_n 2, 1) := by decide +kernel
theorem dX7_row_27 : decode cX7_row 27 = .ok (.imul, 1) := by decide +kernel
theorem dX7_row_28 : decode cX7_row 28 = .ok (.iadd, 1) := by decide +kernel
theorem dX7_row_29 : decode cX7_row 29 = .ok (.iload_n 1, 1) := by decide +kernel
theorem dX7_row_30 : decode cX7_row 30 = .ok (.iadd, 1) := by decide +kernel
theorem dX7_row_31 : decode cX7_row 31 = .ok (.iaload, 1) := by decide +kernel
theorem dX7_row_32 : decode cX7_row 32 = .ok (.goto 4, 3) := by decide +kernel
theorem dX7_row_35 : decode cX7_row 35 = .ok (.iconst (-1), 1) := by decide +kernel
theorem dX7_row_36 : decode cX7_row 36 = .ok (.ireturn, 1) := by decide +kernel
theorem dX7_puts_0 : decode cX7_puts 0 = .ok (.iload_n 1, 1) := by decide +kernel
theorem dX7_puts_1 : decode cX7_puts 1 = .ok (.ifCond .ne 5, 3) := by decide +kernel
theorem dX7_puts_4 : decode cX7_puts 4 = .ok (.iconst (-1), 1) := by decide +kernel
theorem dX7_puts_5 : decode cX7_puts 5 = .ok (.ireturn, 1) := by decide +kernel
theorem dX7_puts_6 : decode cX7_puts 6 = .ok (.aload_n 0, 1) := by decide +kernel
theorem dX7_puts_7 : decode cX7_puts 7 = .ok (.getfield 7, 3) := by decide +kernel
theorem dX7_puts_10 : decode cX7_puts 10 = .ok (.iload_n 2, 1) := by decide +kernel
theorem dX7_puts_11 : decode cX7_puts 11 = .ok (.iaload, 1) := by decide +kernel
theorem dX7_puts_12 : decode cX7_puts 12 = .ok (.iload 4, 2) := by decide +kernel
theorem dX7_puts_14 : decode cX7_puts 14 = .ok (.iadd, 1) := by decide +kernel
theorem dX7_puts_15 : decode cX7_puts 15 = .ok (.istore 5, 2) := by decide +kernel
theorem dX7_puts_17 : decode cX7_puts 17 = .ok (.aload_n 0, 1) := by decide +kernel
theorem dX7_puts_18 : decode cX7_puts 18 = .ok (.getfield 7, 3) := by decide +kernel
theorem dX7_puts_21 : decode cX7_puts 21 = .ok (.iload_n 2, 1) := by decide +kernel
theorem dX7_puts_22 : decode cX7_puts 22 = .ok (.iload_n 3, 1) := by decide +kernel
theorem dX7_puts_23 : decode cX7_puts 23 = .ok (.iload 4, 2) := by decide +kernel
theorem dX7_puts_25 : decode cX7_puts 25 = .ok (.isub, 1) := by decide +kernel
theorem dX7_puts_26 : decode cX7_puts 26 = .ok (.iastore, 1) := by decide +kernel
theorem dX7_puts_27 : decode cX7_puts 27 = .ok (.iload 5, 2) := by decide +kernel
theorem dX7_puts_29 : decode cX7_puts 29 = .ok (.ireturn, 1) := by decide +kernel
theorem dX7_isGood_0 : decode cX7_isGood 0 = .ok (.iload_n 0, 1) := by decide +kernel
theorem dX7_isGood_1 : decode cX7_isGood 1 = .ok (.tableswitch 85 0 4 #[35, 45, 55, 65, 75], 35) := by decide +kernel
theorem dX7_isGood_36 : decode cX7_isGood 36 = .ok (.iload_n 1, 1) := by decide +kernel
theorem dX7_isGood_37 : decode cX7_isGood 37 = .ok (.i2l, 1) := by decide +kernel
theorem dX7_isGood_38 : decode cX7_isGood 38 = .ok (.lconst 0, 1) := by decide +kernel
theorem dX7_isGood_39 : decode cX7_isGood 39 = .ok (.ldc2_w 169, 3) := by decide +kernel
theorem dX7_isGood_42 : decode cX7_isGood 42 = .ok (.invokestatic 55, 3) := by decide +kernel
theorem dX7_isGood_45 : decode cX7_isGood 45 = .ok (.ireturn, 1) := by decide +kernel
theorem dX7_isGood_46 : decode cX7_isGood 46 = .ok (.iload_n 1, 1) := by decide +kernel
theorem dX7_isGood_47 : decode cX7_isGood 47 = .ok (.i2l, 1) := by decide +kernel
theorem dX7_isGood_48 : decode cX7_isGood 48 = .ok (.lconst 1, 1) := by decide +kernel
theorem dX7_isGood_49 : decode cX7_isGood 49 = .ok (.ldc2_w 171, 3) := by decide +kernel
theorem dX7_isGood_52 : decode cX7_isGood 52 = .ok (.invokestatic 55, 3) := by decide +kernel
theorem dX7_isGood_55 : decode cX7_isGood 55 = .ok (.ireturn, 1) := by decide +kernel
theorem dX7_isGood_56 : decode cX7_isGood 56 = .ok (.iload_n 1, 1) := by decide +kernel
theorem dX7_isGood_57 : decode cX7_isGood 57 = .ok (.i2l, 1) := by decide +kernel
theorem dX7_isGood_58 : decode cX7_isGood 58 = .ok (.lconst 0, 1) := by decide +kernel
theorem dX7_isGood_59 : decode cX7_isGood 59 = .ok (.ldc2_w 173, 3) := by decide +kernel
theorem dX7_isGood_62 : decode cX7_isGood 62 = .ok (.invokestatic 55, 3) := by decide +kernel
theorem dX7_isGood_65 : decode cX7_isGood 65 = .ok (.ireturn, 1) := by decide +kernel
theorem dX7_isGood_66 : decode cX7_isGood 66 = .ok (.iload_n 1, 1) := by decide +kernel
theorem dX7_isGood_67 : decode cX7_isGood 67 = .ok (.i2l, 1) := by decide +kernel
theorem dX7_isGood_68 : decode cX7_isGood 68 = .ok (.lconst 0, 1) := by decide +kernel
theorem dX7_isGood_69 : decode cX7_isGood 69 = .ok (.ldc2_w 175, 3) := by decide +kernel
theorem dX7_isGood_72 : decode cX7_isGood 72 = .ok (.invokestatic 55, 3) := by decide +kernel
theorem dX7_isGood_75 : decode cX7_isGood 75 = .ok (.ireturn, 1) := by decide +kernel
theorem dX7_isGood_76 : decode cX7_isGood 76 = .ok (.iload_n 1, 1) := by decide +kernel
theorem dX7_isGood_77 : decode cX7_isGood 77 = .ok (.i2l, 1) := by decide +kernel
theorem dX7_isGood_78 : decode cX7_isGood 78 = .ok (.lconst 0, 1) := by decide +kernel
theorem dX7_isGood_79 : decode cX7_isGood 79 = .ok (.ldc2_w 177, 3) := by decide +kernel
theorem dX7_isGood_82 : decode cX7_isGood 82 = .ok (.invokestatic 55, 3) := by decide +kernel
theorem dX7_isGood_85 : decode cX7_isGood 85 = .ok (.ireturn, 1) := by decide +kernel
theorem dX7_isGood_86 : decode cX7_isGood 86 = .ok (.iconst 0, 1) := by decide +kernel
theorem dX7_isGood_87 : decode cX7_isGood 87 = .ok (.ireturn, 1) := by decide +kernel
theorem dX7_alter_0 : decode cX7_alter 0 = .ok (.aload_n 0, 1) := by decide +kernel
theorem dX7_alter_1 : decode cX7_alter 1 = .ok (.aload_n 0, 1) := by decide +kernel
theorem dX7_alter_2 : decode cX7_alter 2 = .ok (.iload_n 1, 1) := by decide +kernel
theorem dX7_alter_3 : decode cX7_alter 3 = .ok (.invokevirtual 160, 3) := by decide +kernel
theorem dX7_alter_6 : decode cX7_alter 6 = .ok (.ifCond .eq 15, 3) := by decide +kernel
theorem dX7_alter_9 : decode cX7_alter 9 = .ok (.iload_n 2, 1) := by decide +kernel
theorem dX7_alter_10 : decode cX7_alter 10 = .ok (.iload_n 3, 1) := by decide +kernel
theorem dX7_alter_11 : decode cX7_alter 11 = .ok (.invokestatic 179, 3) := by decide +kernel
theorem dX7_alter_14 : decode cX7_alter 14 = .ok (.ifCond .eq 7, 3) := by decide +kernel
theorem dX7_alter_17 : decode cX7_alter 17 = .ok (.iconst 1, 1) := by decide +kernel
theorem dX7_alter_18 : decode cX7_alter 18 = .ok (.goto 4, 3) := by decide +kernel
theorem dX7_alter_21 : decode cX7_alter 21 = .ok (.iconst 0, 1) := by decide +kernel
theorem dX7_alter_22 : decode cX7_alter 22 = .ok (.iconst 4, 1) := by decide +kernel
theorem dX7_alter_23 : decode cX7_alter 23 = .ok (.iload_n 2, 1) := by decide +kernel
theorem dX7_alter_24 : decode cX7_alter 24 = .ok (.imul, 1) := by decide +kernel
theorem dX7_alter_25 : decode cX7_alter 25 = .ok (.iload_n 1, 1) := by decide +kernel
theorem dX7_alter_26 : decode cX7_alter 26 = .ok (.iadd, 1) := by decide +kernel
theorem dX7_alter_27 : decode cX7_alter 27 = .ok (.iload_n 3, 1) := by decide +kernel
theorem dX7_alter_28 : decode cX7_alter 28 = .ok (.iconst 0, 1) := by decide +kernel
theorem dX7_alter_29 : decode cX7_alter 29 = .ok (.invokevirtual 183, 3) := by decide +kernel
theorem dX7_alter_32 : decode cX7_alter 32 = .ok (.ireturn, 1) := by decide +kernel
theorem dX7_tell_0 : decode cX7_tell 0 = .ok (.iload_n 1, 1) := by decide +kernel
theorem dX7_tell_1 : decode cX7_tell 1 = .ok (.ifCond .ne 22, 3) := by decide +kernel
theorem dX7_tell_4 : decode cX7_tell 4 = .ok (.aload_n 0, 1) := by decide +kernel
theorem dX7_tell_5 : decode cX7_tell 5 = .ok (.iload_n 2, 1) := by decide +kernel
theorem dX7_tell_6 : decode cX7_tell 6 = .ok (.i2l, 1) := by decide +kernel
theorem dX7_tell_7 : decode cX7_tell 7 = .ok (.lconst 0, 1) := by decide +kernel
theorem dX7_tell_8 : decode cX7_tell 8 = .ok (.ldc2_w 187, 3) := by decide +kernel
theorem dX7_tell_11 : decode cX7_tell 11 = .ok (.invokestatic 55, 3) := by decide +kernel
theorem dX7_tell_14 : decode cX7_tell 14 = .ok (.bipush 50, 2) := by decide +kernel
theorem dX7_tell_16 : decode cX7_tell 16 = .ok (.iload_n 2, 1) := by decide +kernel
theorem dX7_tell_17 : decode cX7_tell 17 = .ok (.bipush 8, 2) := by decide +kernel
theorem dX7_tell_19 : decode cX7_tell 19 = .ok (.invokevirtual 183, 3) := by decide +kernel
theorem dX7_tell_22 : decode cX7_tell 22 = .ok (.ireturn, 1) := by decide +kernel
theorem dX7_tell_23 : decode cX7_tell 23 = .ok (.aload_n 0, 1) := by decide +kernel
theorem dX7_tell_24 : decode cX7_tell 24 = .ok (.iload_n 1, 1) := by decide +kernel
theorem dX7_tell_25 : decode cX7_tell 25 = .ok (.iconst 1, 1) := by decide +kernel
theorem dX7_tell_26 : decode cX7_tell 26 = .ok (.if_icmp .ne 19, 3) := by decide +kernel
theorem dX7_tell_29 : decode cX7_tell 29 = .ok (.iload_n 2, 1) := by decide +kernel
theorem dX7_tell_30 : decode cX7_tell 30 = .ok (.i2l, 1) := by decide +kernel
theorem dX7_tell_31 : decode cX7_tell 31 = .ok (.lconst 0, 1) := by decide +kernel
theorem dX7_tell_32 : decode cX7_tell 32 = .ok (.ldc2_w 177, 3) := by decide +kernel
theorem dX7_tell_35 : decode cX7_tell 35 = .ok (.invokestatic 55, 3) := by decide +kernel
theorem dX7_tell_38 : decode cX7_tell 38 = .ok (.ifCond .eq 7, 3) := by decide +kernel
theorem dX7_tell_41 : decode cX7_tell 41 = .ok (.iconst 1, 1) := by decide +kernel
theorem dX7_tell_42 : decode cX7_tell 42 = .ok (.goto 4, 3) := by decide +kernel
theorem dX7_tell_45 : decode cX7_tell 45 = .ok (.iconst 0, 1) := by decide +kernel
theorem dX7_tell_46 : decode cX7_tell 46 = .ok (.bipush 51, 2) := by decide +kernel
theorem dX7_tell_48 : decode cX7_tell 48 = .ok (.iload_n 2, 1) := by decide +kernel
theorem dX7_tell_49 : decode cX7_tell 49 = .ok (.iconst 4, 1) := by decide +kernel
theorem dX7_tell_50 : decode cX7_tell 50 = .ok (.invokevirtual 183, 3) := by decide +kernel
theorem dX7_tell_53 : decode cX7_tell 53 = .ok (.ireturn, 1) := by decide +kernel
theorem dX7_set_0 : decode cX7_set 0 = .ok (.iload_n 2, 1) := by decide +kernel
theorem dX7_set_1 : decode cX7_set 1 = .ok (.ifCond .ne 15, 3) := by decide +kernel
theorem dX7_set_4 : decode cX7_set 4 = .ok (.iload_n 3, 1) := by decide +kernel
theorem dX7_set_5 : decode cX7_set 5 = .ok (.i2l, 1) := by decide +kernel
theorem dX7_set_6 : decode cX7_set 6 = .ok (.lconst 0, 1) := by decide +kernel
theorem dX7_set_7 : decode cX7_set 7 = .ok (.ldc2_w 173, 3) := by decide +kernel
theorem dX7_set_10 : decode cX7_set 10 = .ok (.invokestatic 55, 3) := by decide +kernel
theorem dX7_set_13 : decode cX7_set 13 = .ok (.goto 25, 3) := by decide +kernel
theorem dX7_set_16 : decode cX7_set 16 = .ok (.iload_n 2, 1) := by decide +kernel
theorem dX7_set_17 : decode cX7_set 17 = .ok (.iconst 1, 1) := by decide +kernel
theorem dX7_set_18 : decode cX7_set 18 = .ok (.if_icmp .ne 19, 3) := by decide +kernel
theorem dX7_set_21 : decode cX7_set 21 = .ok (.iload_n 3, 1) := by decide +kernel
theorem dX7_set_22 : decode cX7_set 22 = .ok (.i2l, 1) := by decide +kernel
theorem dX7_set_23 : decode cX7_set 23 = .ok (.lconst 0, 1) := by decide +kernel
theorem dX7_set_24 : decode cX7_set 24 = .ok (.ldc2_w 189, 3) := by decide +kernel
theorem dX7_set_27 : decode cX7_set 27 = .ok (.invokestatic 55, 3) := by decide +kernel
theorem dX7_set_30 : decode cX7_set 30 = .ok (.ifCond .eq 7, 3) := by decide +kernel
theorem dX7_set_33 : decode cX7_set 33 = .ok (.iconst 1, 1) := by decide +kernel
theorem dX7_set_34 : decode cX7_set 34 = .ok (.goto 4, 3) := by decide +kernel
theorem dX7_set_37 : decode cX7_set 37 = .ok (.iconst 0, 1) := by decide +kernel
theorem dX7_set_38 : decode cX7_set 38 = .ok (.istore 4, 2) := by decide +kernel
theorem dX7_set_40 : decode cX7_set 40 = .ok (.aload_n 0, 1) := by decide +kernel
theorem dX7_set_41 : decode cX7_set 41 = .ok (.aload_n 0, 1) := by decide +kernel
theorem dX7_set_42 : decode cX7_set 42 = .ok (.iload_n 1, 1) := by decide +kernel
theorem dX7_set_43 : decode cX7_set 43 = .ok (.invokevirtual 166, 3) := by decide +kernel
theorem dX7_set_46 : decode cX7_set 46 = .ok (.ifCond .eq 12, 3) := by decide +kernel
theorem dX7_set_49 : decode cX7_set 49 = .ok (.iload 4, 2) := by decide +kernel
theorem dX7_set_51 : decode cX7_set 51 = .ok (.ifCond .eq 7, 3) := by decide +kernel
theorem dX7_set_54 : decode cX7_set 54 = .ok (.iconst 1, 1) := by decide +kernel
theorem dX7_set_55 : decode cX7_set 55 = .ok (.goto 4, 3) := by decide +kernel
theorem dX7_set_58 : decode cX7_set 58 = .ok (.iconst 0, 1) := by decide +kernel
theorem dX7_set_59 : decode cX7_set 59 = .ok (.bipush 25, 2) := by decide +kernel
theorem dX7_set_61 : decode cX7_set 61 = .ok (.bipush 12, 2) := by decide +kernel
theorem dX7_set_63 : decode cX7_set 63 = .ok (.iload_n 2, 1) := by decide +kernel
theorem dX7_set_64 : decode cX7_set 64 = .ok (.imul, 1) := by decide +kernel
theorem dX7_set_65 : decode cX7_set 65 = .ok (.iadd, 1) := by decide +kernel
theorem dX7_set_66 : decode cX7_set 66 = .ok (.iload_n 1, 1) := by decide +kernel
theorem dX7_set_67 : decode cX7_set 67 = .ok (.iadd, 1) := by decide +kernel
theorem dX7_set_68 : decode cX7_set 68 = .ok (.iload_n 3, 1) := by decide +kernel
theorem dX7_set_69 : decode cX7_set 69 = .ok (.iconst 0, 1) := by decide +kernel
theorem dX7_set_70 : decode cX7_set 70 = .ok (.invokevirtual 183, 3) := by decide +kernel
theorem dX7_set_73 : decode cX7_set 73 = .ok (.ireturn, 1) := by decide +kernel
theorem dX7_open_0 : decode cX7_open 0 = .ok (.iload_n 1, 1) := by decide +kernel
theorem dX7_open_1 : decode cX7_open 1 = .ok (.i2l, 1) := by decide +kernel
theorem dX7_open_2 : decode cX7_open 2 = .ok (.lconst 0, 1) := by decide +kernel
theorem dX7_open_3 : decode cX7_open 3 = .ok (.ldc2_w 169, 3) := by decide +kernel
theorem dX7_open_6 : decode cX7_open 6 = .ok (.invokestatic 55, 3) := by decide +kernel
theorem dX7_open_9 : decode cX7_open 9 = .ok (.ifCond .eq 27, 3) := by decide +kernel
theorem dX7_open_12 : decode cX7_open 12 = .ok (.iload_n 2, 1) := by decide +kernel
theorem dX7_open_13 : decode cX7_open 13 = .ok (.i2l, 1) := by decide +kernel
theorem dX7_open_14 : decode cX7_open 14 = .ok (.lconst 1, 1) := by decide +kernel
theorem dX7_open_15 : decode cX7_open 15 = .ok (.ldc2_w 171, 3) := by decide +kernel
theorem dX7_open_18 : decode cX7_open 18 = .ok (.invokestatic 55, 3) := by decide +kernel
theorem dX7_open_21 : decode cX7_open 21 = .ok (.ifCond .eq 15, 3) := by decide +kernel
theorem dX7_open_24 : decode cX7_open 24 = .ok (.iload_n 3, 1) := by decide +kernel
theorem dX7_open_25 : decode cX7_open 25 = .ok (.i2l, 1) := by decide +kernel
theorem dX7_open_26 : decode cX7_open 26 = .ok (.lconst 0, 1) := by decide +kernel
theorem dX7_open_27 : decode cX7_open 27 = .ok (.ldc2_w 173, 3) := by decide +kernel
theorem dX7_open_30 : decode cX7_open 30 = .ok (.invokestatic 55, 3) := by decide +kernel
theorem dX7_open_33 : decode cX7_open 33 = .ok (.ifCond .ne 5, 3) := by decide +kernel
theorem dX7_open_36 : decode cX7_open 36 = .ok (.iconst (-1), 1) := by decide +kernel
theorem dX7_open_37 : decode cX7_open 37 = .ok (.ireturn, 1) := by decide +kernel
theorem dX7_open_38 : decode cX7_open 38 = .ok (.aload_n 0, 1) := by decide +kernel
theorem dX7_open_39 : decode cX7_open 39 = .ok (.getfield 7, 3) := by decide +kernel
theorem dX7_open_42 : decode cX7_open 42 = .ok (.bipush 24, 2) := by decide +kernel
theorem dX7_open_44 : decode cX7_open 44 = .ok (.iaload, 1) := by decide +kernel
theorem dX7_open_45 : decode cX7_open 45 = .ok (.istore 4, 2) := by decide +kernel
theorem dX7_open_47 : decode cX7_open 47 = .ok (.iload 4, 2) := by decide +kernel
theorem dX7_open_49 : decode cX7_open 49 = .ok (.iconst 4, 1) := by decide +kernel
theorem dX7_open_50 : decode cX7_open 50 = .ok (.if_icmp .ne 6, 3) := by decide +kernel
theorem dX7_open_53 : decode cX7_open 53 = .ok (.bipush (-3), 2) := by decide +kernel
theorem dX7_open_55 : decode cX7_open 55 = .ok (.ireturn, 1) := by decide +kernel
theorem dX7_open_56 : decode cX7_open 56 = .ok (.aload_n 0, 1) := by decide +kernel
theorem dX7_open_57 : decode cX7_open 57 = .ok (.getfield 7, 3) := by decide +kernel
theorem dX7_open_60 : decode cX7_open 60 = .ok (.iload 4, 2) := by decide +kernel
theorem dX7_open_62 : decode cX7_open 62 = .ok (.iload_n 1, 1) := by decide +kernel
theorem dX7_open_63 : decode cX7_open 63 = .ok (.iastore, 1) := by decide +kernel
theorem dX7_open_64 : decode cX7_open 64 = .ok (.aload_n 0, 1) := by decide +kernel
theorem dX7_open_65 : decode cX7_open 65 = .ok (.getfield 7, 3) := by decide +kernel
theorem dX7_open_68 : decode cX7_open 68 = .ok (.iconst 4, 1) := by decide +kernel
theorem dX7_open_69 : decode cX7_open 69 = .ok (.iload 4, 2) := by decide +kernel
theorem dX7_open_71 : decode cX7_open 71 = .ok (.iadd, 1) := by decide +kernel
theorem dX7_open_72 : decode cX7_open 72 = .ok (.iload_n 2, 1) := by decide +kernel
theorem dX7_open_73 : decode cX7_open 73 = .ok (.iastore, 1) := by decide +kernel
theorem dX7_open_74 : decode cX7_open 74 = .ok (.aload_n 0, 1) := by decide +kernel
theorem dX7_open_75 : decode cX7_open 75 = .ok (.getfield 7, 3) := by decide +kernel
theorem dX7_open_78 : decode cX7_open 78 = .ok (.bipush 8, 2) := by decide +kernel
theorem dX7_open_80 : decode cX7_open 80 = .ok (.iload 4, 2) := by decide +kernel
theorem dX7_open_82 : decode cX7_open 82 = .ok (.iadd, 1) := by decide +kernel
theorem dX7_open_83 : decode cX7_open 83 = .ok (.iload_n 3, 1) := by decide +kernel
theorem dX7_open_84 : decode cX7_open 84 = .ok (.iastore, 1) := by decide +kernel
theorem dX7_open_85 : decode cX7_open 85 = .ok (.aload_n 0, 1) := by decide +kernel
theorem dX7_open_86 : decode cX7_open 86 = .ok (.getfield 7, 3) := by decide +kernel
theorem dX7_open_89 : decode cX7_open 89 = .ok (.bipush 12, 2) := by decide +kernel
theorem dX7_open_91 : decode cX7_open 91 = .ok (.iload 4, 2) := by decide +kernel
theorem dX7_open_93 : decode cX7_open 93 = .ok (.iadd, 1) := by decide +kernel
theorem dX7_open_94 : decode cX7_open 94 = .ok (.iconst 0, 1) := by decide +kernel
theorem dX7_open_95 : decode cX7_open 95 = .ok (.iastore, 1) := by decide +kernel
theorem dX7_open_96 : decode cX7_open 96 = .ok (.aload_n 0, 1) := by decide +kernel
theorem dX7_open_97 : decode cX7_open 97 = .ok (.getfield 7, 3) := by decide +kernel
theorem dX7_open_100 : decode cX7_open 100 = .ok (.bipush 16, 2) := by decide +kernel
theorem dX7_open_102 : decode cX7_open 102 = .ok (.iload 4, 2) := by decide +kernel
theorem dX7_open_104 : decode cX7_open 104 = .ok (.iadd, 1) := by decide +kernel
theorem dX7_open_105 : decode cX7_open 105 = .ok (.iconst 0, 1) := by decide +kernel
theorem dX7_open_106 : decode cX7_open 106 = .ok (.iastore, 1) := by decide +kernel
theorem dX7_open_107 : decode cX7_open 107 = .ok (.aload_n 0, 1) := by decide +kernel
theorem dX7_open_108 : decode cX7_open 108 = .ok (.getfield 7, 3) := by decide +kernel
theorem dX7_open_111 : decode cX7_open 111 = .ok (.bipush 20, 2) := by decide +kernel
theorem dX7_open_113 : decode cX7_open 113 = .ok (.iload 4, 2) := by decide +kernel
theorem dX7_open_115 : decode cX7_open 115 = .ok (.iadd, 1) := by decide +kernel
theorem dX7_open_116 : decode cX7_open 116 = .ok (.iconst 0, 1) := by decide +kernel
theorem dX7_open_117 : decode cX7_open 117 = .ok (.iastore, 1) := by decide +kernel
theorem dX7_open_118 : decode cX7_open 118 = .ok (.aload_n 0, 1) := by decide +kernel
theorem dX7_open_119 : decode cX7_open 119 = .ok (.getfield 7, 3) := by decide +kernel
theorem dX7_open_122 : decode cX7_open 122 = .ok (.bipush 24, 2) := by decide +kernel
theorem dX7_open_124 : decode cX7_open 124 = .ok (.dup2, 1) := by decide +kernel
theorem dX7_open_125 : decode cX7_open 125 = .ok (.iaload, 1) := by decide +kernel
theorem dX7_open_126 : decode cX7_open 126 = .ok (.iconst 1, 1) := by decide +kernel
theorem dX7_open_127 : decode cX7_open 127 = .ok (.iadd, 1) := by decide +kernel
theorem dX7_open_128 : decode cX7_open 128 = .ok (.iastore, 1) := by decide +kernel
theorem dX7_open_129 : decode cX7_open 129 = .ok (.aload_n 0, 1) := by decide +kernel
theorem dX7_open_130 : decode cX7_open 130 = .ok (.getfield 7, 3) := by decide +kernel
theorem dX7_open_133 : decode cX7_open 133 = .ok (.bipush 24, 2) := by decide +kernel
theorem dX7_open_135 : decode cX7_open 135 = .ok (.iaload, 1) := by decide +kernel
theorem dX7_open_136 : decode cX7_open 136 = .ok (.ireturn, 1) := by decide +kernel
theorem dX7_cut_0 : decode cX7_cut 0 = .ok (.aload_n 0, 1) := by decide +kernel
theorem dX7_cut_1 : decode cX7_cut 1 = .ok (.iload_n 1, 1) := by decide +kernel
theorem dX7_cut_2 : decode cX7_cut 2 = .ok (.i2l, 1) := by decide +kernel
theorem dX7_cut_3 : decode cX7_cut 3 = .ok (.lconst 0, 1) := by decide +kernel
theorem dX7_cut_4 : decode cX7_cut 4 = .ok (.aload_n 0, 1) := by decide +kernel
theorem dX7_cut_5 : decode cX7_cut 5 = .ok (.getfield 7, 3) := by decide +kernel
theorem dX7_cut_8 : decode cX7_cut 8 = .ok (.bipush 24, 2) := by decide +kernel
theorem dX7_cut_10 : decode cX7_cut 10 = .ok (.iaload, 1) := by decide +kernel
theorem dX7_cut_11 : decode cX7_cut 11 = .ok (.i2l, 1) := by decide +kernel
theorem dX7_cut_12 : decode cX7_cut 12 = .ok (.invokestatic 55, 3) := by decide +kernel
theorem dX7_cut_15 : decode cX7_cut 15 = .ok (.bipush 24, 2) := by decide +kernel
theorem dX7_cut_17 : decode cX7_cut 17 = .ok (.iload_n 1, 1) := by decide +kernel
theorem dX7_cut_18 : decode cX7_cut 18 = .ok (.iconst 0, 1) := by decide +kernel
theorem dX7_cut_19 : decode cX7_cut 19 = .ok (.invokevirtual 183, 3) := by decide +kernel
theorem dX7_cut_22 : decode cX7_cut 22 = .ok (.ireturn, 1) := by decide +kernel
theorem dX7_adds_0 : decode cX7_adds 0 = .ok (.iload_n 1, 1) := by decide +kernel
theorem dX7_adds_1 : decode cX7_adds 1 = .ok (.i2l, 1) := by decide +kernel
theorem dX7_adds_2 : decode cX7_adds 2 = .ok (.lconst 0, 1) := by decide +kernel
theorem dX7_adds_3 : decode cX7_adds 3 = .ok (.ldc2_w 173, 3) := by decide +kernel
theorem dX7_adds_6 : decode cX7_adds 6 = .ok (.invokestatic 55, 3) := by decide +kernel
theorem dX7_adds_9 : decode cX7_adds 9 = .ok (.ifCond .eq 15, 3) := by decide +kernel
theorem dX7_adds_12 : decode cX7_adds 12 = .ok (.iload_n 2, 1) := by decide +kernel
theorem dX7_adds_13 : decode cX7_adds 13 = .ok (.i2l, 1) := by decide +kernel
theorem dX7_adds_14 : decode cX7_adds 14 = .ok (.lconst 0, 1) := by decide +kernel
theorem dX7_adds_15 : decode cX7_adds 15 = .ok (.ldc2_w 189, 3) := by decide +kernel
theorem dX7_adds_18 : decode cX7_adds 18 = .ok (.invokestatic 55, 3) := by decide +kernel
theorem dX7_adds_21 : decode cX7_adds 21 = .ok (.ifCond .ne 5, 3) := by decide +kernel
theorem dX7_adds_24 : decode cX7_adds 24 = .ok (.iconst (-1), 1) := by decide +kernel
theorem dX7_adds_25 : decode cX7_adds 25 = .ok (.ireturn, 1) := by decide +kernel
theorem dX7_adds_26 : decode cX7_adds 26 = .ok (.aload_n 0, 1) := by decide +kernel
theorem dX7_adds_27 : decode cX7_adds 27 = .ok (.getfield 7, 3) := by decide +kernel
theorem dX7_adds_30 : decode cX7_adds 30 = .ok (.bipush 49, 2) := by decide +kernel
theorem dX7_adds_32 : decode cX7_adds 32 = .ok (.iaload, 1) := by decide +kernel
theorem dX7_adds_33 : decode cX7_adds 33 = .ok (.istore_n 3, 1) := by decide +kernel
theorem dX7_adds_34 : decode cX7_adds 34 = .ok (.iload_n 3, 1) := by decide +kernel
theorem dX7_adds_35 : decode cX7_adds 35 = .ok (.bipush 12, 2) := by decide +kernel
theorem dX7_adds_37 : decode cX7_adds 37 = .ok (.if_icmp .ne 6, 3) := by decide +kernel
theorem dX7_adds_40 : decode cX7_adds 40 = .ok (.bipush (-3), 2) := by decide +kernel
theorem dX7_adds_42 : decode cX7_adds 42 = .ok (.ireturn, 1) := by decide +kernel
theorem dX7_adds_43 : decode cX7_adds 43 = .ok (.aload_n 0, 1) := by decide +kernel
theorem dX7_adds_44 : decode cX7_adds 44 = .ok (.getfield 7, 3) := by decide +kernel
theorem dX7_adds_47 : decode cX7_adds 47 = .ok (.bipush 25, 2) := by decide +kernel
theorem dX7_adds_49 : decode cX7_adds 49 = .ok (.iload_n 3, 1) := by decide +kernel
theorem dX7_adds_50 : decode cX7_adds 50 = .ok (.iadd, 1) := by decide +kernel
theorem dX7_adds_51 : decode cX7_adds 51 = .ok (.iload_n 1, 1) := by decide +kernel
theorem dX7_adds_52 : decode cX7_adds 52 = .ok (.iastore, 1) := by decide +kernel
theorem dX7_adds_53 : decode cX7_adds 53 = .ok (.aload_n 0, 1) := by decide +kernel
theorem dX7_adds_54 : decode cX7_adds 54 = .ok (.getfield 7, 3) := by decide +kernel
theorem dX7_adds_57 : decode cX7_adds 57 = .ok (.bipush 37, 2) := by decide +kernel
theorem dX7_adds_59 : decode cX7_adds 59 = .ok (.iload_n 3, 1) := by decide +kernel
theorem dX7_adds_60 : decode cX7_adds 60 = .ok (.iadd, 1) := by decide +kernel
theorem dX7_adds_61 : decode cX7_adds 61 = .ok (.iload_n 2, 1) := by decide +kernel
theorem dX7_adds_62 : decode cX7_adds 62 = .ok (.iastore, 1) := by decide +kernel
theorem dX7_adds_63 : decode cX7_adds 63 = .ok (.aload_n 0, 1) := by decide +kernel
theorem dX7_adds_64 : decode cX7_adds 64 = .ok (.getfield 7, 3) := by decide +kernel
theorem dX7_adds_67 : decode cX7_adds 67 = .ok (.bipush 49, 2) := by decide +kernel
theorem dX7_adds_69 : decode cX7_adds 69 = .ok (.dup2, 1) := by decide +kernel
theorem dX7_adds_70 : decode cX7_adds 70 = .ok (.iaload, 1) := by decide +kernel
theorem dX7_adds_71 : decode cX7_adds 71 = .ok (.iconst 1, 1) := by decide +kernel
theorem dX7_adds_72 : decode cX7_adds 72 = .ok (.iadd, 1) := by decide +kernel
theorem dX7_adds_73 : decode cX7_adds 73 = .ok (.iastore, 1) := by decide +kernel
theorem dX7_adds_74 : decode cX7_adds 74 = .ok (.aload_n 0, 1) := by decide +kernel
theorem dX7_adds_75 : decode cX7_adds 75 = .ok (.getfield 7, 3) := by decide +kernel
theorem dX7_adds_78 : decode cX7_adds 78 = .ok (.bipush 49, 2) := by decide +kernel
theorem dX7_adds_80 : decode cX7_adds 80 = .ok (.iaload, 1) := by decide +kernel
theorem dX7_adds_81 : decode cX7_adds 81 = .ok (.ireturn, 1) := by decide +kernel
theorem dX7_add_0 : decode cX7_add 0 = .ok (.aload_n 0, 1) := by decide +kernel
theorem dX7_add_1 : decode cX7_add 1 = .ok (.iload_n 1, 1) := by decide +kernel
theorem dX7_add_2 : decode cX7_add 2 = .ok (.iload_n 2, 1) := by decide +kernel
theorem dX7_add_3 : decode cX7_add 3 = .ok (.invokevirtual 191, 3) := by decide +kernel
theorem dX7_add_6 : decode cX7_add 6 = .ok (.ireturn, 1) := by decide +kernel
theorem dX7_drop_0 : decode cX7_drop 0 = .ok (.aload_n 0, 1) := by decide +kernel
theorem dX7_drop_1 : decode cX7_drop 1 = .ok (.iload_n 1, 1) := by decide +kernel
theorem dX7_drop_2 : decode cX7_drop 2 = .ok (.i2l, 1) := by decide +kernel
theorem dX7_drop_3 : decode cX7_drop 3 = .ok (.lconst 0, 1) := by decide +kernel
theorem dX7_drop_4 : decode cX7_drop 4 = .ok (.aload_n 0, 1) := by decide +kernel
theorem dX7_drop_5 : decode cX7_drop 5 = .ok (.getfield 7, 3) := by decide +kernel
theorem dX7_drop_8 : decode cX7_drop 8 = .ok (.bipush 49, 2) := by decide +kernel
theorem dX7_drop_10 : decode cX7_drop 10 = .ok (.iaload, 1) := by decide +kernel
theorem dX7_drop_11 : decode cX7_drop 11 = .ok (.i2l, 1) := by decide +kernel
theorem dX7_drop_12 : decode cX7_drop 12 = .ok (.invokestatic 55, 3) := by decide +kernel
theorem dX7_drop_15 : decode cX7_drop 15 = .ok (.bipush 49, 2) := by decide +kernel
theorem dX7_drop_17 : decode cX7_drop 17 = .ok (.iload_n 1, 1) := by decide +kernel
theorem dX7_drop_18 : decode cX7_drop 18 = .ok (.iconst 0, 1) := by decide +kernel
theorem dX7_drop_19 : decode cX7_drop 19 = .ok (.invokevirtual 183, 3) := by decide +kernel
theorem dX7_drop_22 : decode cX7_drop 22 = .ok (.ireturn, 1) := by decide +kernel
theorem dX7_hours_0 : decode cX7_hours 0 = .ok (.iload_n 1, 1) := by decide +kernel
theorem dX7_hours_1 : decode cX7_hours 1 = .ok (.i2l, 1) := by decide +kernel
theorem dX7_hours_2 : decode cX7_hours 2 = .ok (.lconst 0, 1) := by decide +kernel
theorem dX7_hours_3 : decode cX7_hours 3 = .ok (.ldc2_w 194, 3) := by decide +kernel
theorem dX7_hours_6 : decode cX7_hours 6 = .ok (.invokestatic 55, 3) := by decide +kernel
theorem dX7_hours_9 : decode cX7_hours 9 = .ok (.ifCond .ne 5, 3) := by decide +kernel
theorem dX7_hours_12 : decode cX7_hours 12 = .ok (.iconst (-1), 1) := by decide +kernel
theorem dX7_hours_13 : decode cX7_hours 13 = .ok (.ireturn, 1) := by decide +kernel
theorem dX7_hours_14 : decode cX7_hours 14 = .ok (.aload_n 0, 1) := by decide +kernel
theorem dX7_hours_15 : decode cX7_hours 15 = .ok (.getfield 7, 3) := by decide +kernel
theorem dX7_hours_18 : decode cX7_hours 18 = .ok (.bipush 52, 2) := by decide +kernel
theorem dX7_hours_20 : decode cX7_hours 20 = .ok (.iaload, 1) := by decide +kernel
theorem dX7_hours_21 : decode cX7_hours 21 = .ok (.iload_n 1, 1) := by decide +kernel
theorem dX7_hours_22 : decode cX7_hours 22 = .ok (.iadd, 1) := by decide +kernel
theorem dX7_hours_23 : decode cX7_hours 23 = .ok (.sipush 9999, 3) := by decide +kernel
theorem dX7_hours_26 : decode cX7_hours 26 = .ok (.if_icmp .le 6, 3) := by decide +kernel
theorem dX7_hours_29 : decode cX7_hours 29 = .ok (.bipush (-3), 2) := by decide +kernel
theorem dX7_hours_31 : decode cX7_hours 31 = .ok (.ireturn, 1) := by decide +kernel
theorem dX7_hours_32 : decode cX7_hours 32 = .ok (.iconst 0, 1) := by decide +kernel
theorem dX7_hours_33 : decode cX7_hours 33 = .ok (.istore_n 2, 1) := by decide +kernel
theorem dX7_hours_34 : decode cX7_hours 34 = .ok (.iconst 0, 1) := by decide +kernel
theorem dX7_hours_35 : decode cX7_hours 35 = .ok (.istore_n 3, 1) := by decide +kernel
theorem dX7_hours_36 : decode cX7_hours 36 = .ok (.iload_n 3, 1) := by decide +kernel
theorem dX7_hours_37 : decode cX7_hours 37 = .ok (.iload_n 1, 1) := by decide +kernel
theorem dX7_hours_38 : decode cX7_hours 38 = .ok (.if_icmp .ge 20, 3) := by decide +kernel
theorem dX7_hours_41 : decode cX7_hours 41 = .ok (.iload_n 2, 1) := by decide +kernel
theorem dX7_hours_42 : decode cX7_hours 42 = .ok (.aload_n 0, 1) := by decide +kernel
theorem dX7_hours_43 : decode cX7_hours 43 = .ok (.iconst 0, 1) := by decide +kernel
theorem dX7_hours_44 : decode cX7_hours 44 = .ok (.invokevirtual 196, 3) := by decide +kernel
theorem dX7_hours_47 : decode cX7_hours 47 = .ok (.invokestatic 199, 3) := by decide +kernel
theorem dX7_hours_50 : decode cX7_hours 50 = .ok (.iadd, 1) := by decide +kernel
theorem dX7_hours_51 : decode cX7_hours 51 = .ok (.istore_n 2, 1) := by decide +kernel
theorem dX7_hours_52 : decode cX7_hours 52 = .ok (.iinc 3 1, 3) := by decide +kernel
theorem dX7_hours_55 : decode cX7_hours 55 = .ok (.goto (-19), 3) := by decide +kernel
theorem dX7_hours_58 : decode cX7_hours 58 = .ok (.iload_n 2, 1) := by decide +kernel
theorem dX7_hours_59 : decode cX7_hours 59 = .ok (.ireturn, 1) := by decide +kernel
theorem dX7_bitsOf_0 : decode cX7_bitsOf 0 = .ok (.iconst 0, 1) := by decide +kernel
theorem dX7_bitsOf_1 : decode cX7_bitsOf 1 = .ok (.istore_n 1, 1) := by decide +kernel
theorem dX7_bitsOf_2 : decode cX7_bitsOf 2 = .ok (.iload_n 0, 1) := by decide +kernel
theorem dX7_bitsOf_3 : decode cX7_bitsOf 3 = .ok (.istore_n 2, 1) := by decide +kernel
theorem dX7_bitsOf_4 : decode cX7_bitsOf 4 = .ok (.iload_n 2, 1) := by decide +kernel
theorem dX7_bitsOf_5 : decode cX7_bitsOf 5 = .ok (.ifCond .le 16, 3) := by decide +kernel
theorem dX7_bitsOf_8 : decode cX7_bitsOf 8 = .ok (.iload_n 1, 1) := by decide +kernel
theorem dX7_bitsOf_9 : decode cX7_bitsOf 9 = .ok (.iload_n 2, 1) := by decide +kernel
theorem dX7_bitsOf_10 : decode cX7_bitsOf 10 = .ok (.iconst 1, 1) := by decide +kernel
theorem dX7_bitsOf_11 : decode cX7_bitsOf 11 = .ok (.iand, 1) := by decide +kernel
theorem dX7_bitsOf_12 : decode cX7_bitsOf 12 = .ok (.iadd, 1) := by decide +kernel
theorem dX7_bitsOf_13 : decode cX7_bitsOf 13 = .ok (.istore_n 1, 1) := by decide +kernel
theorem dX7_bitsOf_14 : decode cX7_bitsOf 14 = .ok (.iload_n 2, 1) := by decide +kernel
theorem dX7_bitsOf_15 : decode cX7_bitsOf 15 = .ok (.iconst 1, 1) := by decide +kernel
theorem dX7_bitsOf_16 : decode cX7_bitsOf 16 = .ok (.ishr, 1) := by decide +kernel
theorem dX7_bitsOf_17 : decode cX7_bitsOf 17 = .ok (.istore_n 2, 1) := by decide +kernel
theorem dX7_bitsOf_18 : decode cX7_bitsOf 18 = .ok (.goto (-14), 3) := by decide +kernel
theorem dX7_bitsOf_21 : decode cX7_bitsOf 21 = .ok (.iload_n 1, 1) := by decide +kernel
theorem dX7_bitsOf_22 : decode cX7_bitsOf 22 = .ok (.ireturn, 1) := by decide +kernel
theorem dX7_copies_0 : decode cX7_copies 0 = .ok (.iconst 0, 1) := by decide +kernel
theorem dX7_copies_1 : decode cX7_copies 1 = .ok (.istore_n 3, 1) := by decide +kernel
theorem dX7_copies_2 : decode cX7_copies 2 = .ok (.iload_n 3, 1) := by decide +kernel
theorem dX7_copies_3 : decode cX7_copies 3 = .ok (.bipush 53, 2) := by decide +kernel
theorem dX7_copies_5 : decode cX7_copies 5 = .ok (.if_icmp .ge 25, 3) := by decide +kernel
theorem dX7_copies_8 : decode cX7_copies 8 = .ok (.aload_n 0, 1) := by decide +kernel
theorem dX7_copies_9 : decode cX7_copies 9 = .ok (.getfield 7, 3) := by decide +kernel
theorem dX7_copies_12 : decode cX7_copies 12 = .ok (.iload_n 2, 1) := by decide +kernel
theorem dX7_copies_13 : decode cX7_copies 13 = .ok (.iload_n 3, 1) := by decide +kernel
theorem dX7_copies_14 : decode cX7_copies 14 = .ok (.iadd, 1) := by decide +kernel
theorem dX7_copies_15 : decode cX7_copies 15 = .ok (.aload_n 0, 1) := by decide +kernel
theorem dX7_copies_16 : decode cX7_copies 16 = .ok (.getfield 7, 3) := by decide +kernel
theorem dX7_copies_19 : decode cX7_copies 19 = .ok (.iload_n 1, 1) := by decide +kernel
theorem dX7_copies_20 : decode cX7_copies 20 = .ok (.iload_n 3, 1) := by decide +kernel
theorem dX7_copies_21 : decode cX7_copies 21 = .ok (.iadd, 1) := by decide +kernel
theorem dX7_copies_22 : decode cX7_copies 22 = .ok (.iaload, 1) := by decide +kernel
theorem dX7_copies_23 : decode cX7_copies 23 = .ok (.iastore, 1) := by decide +kernel
theorem dX7_copies_24 : decode cX7_copies 24 = .ok (.iinc 3 1, 3) := by decide +kernel
theorem dX7_copies_27 : decode cX7_copies 27 = .ok (.goto (-25), 3) := by decide +kernel
theorem dX7_copies_30 : decode cX7_copies 30 = .ok (.return_, 1) := by decide +kernel
theorem dX7_feels_0 : decode cX7_feels 0 = .ok (.iconst 0, 1) := by decide +kernel
theorem dX7_feels_1 : decode cX7_feels 1 = .ok (.istore_n 2, 1) := by decide +kernel
theorem dX7_feels_2 : decode cX7_feels 2 = .ok (.iload_n 2, 1) := by decide +kernel
theorem dX7_feels_3 : decode cX7_feels 3 = .ok (.aload_n 0, 1) := by decide +kernel
theorem dX7_feels_4 : decode cX7_feels 4 = .ok (.getfield 7, 3) := by decide +kernel
theorem dX7_feels_7 : decode cX7_feels 7 = .ok (.iload_n 1, 1) := by decide +kernel
theorem dX7_feels_8 : decode cX7_feels 8 = .ok (.bipush 24, 2) := by decide +kernel
theorem dX7_feels_10 : decode cX7_feels 10 = .ok (.iadd, 1) := by decide +kernel
theorem dX7_feels_11 : decode cX7_feels 11 = .ok (.iaload, 1) := by decide +kernel
theorem dX7_feels_12 : decode cX7_feels 12 = .ok (.if_icmp .ge 49, 3) := by decide +kernel
theorem dX7_feels_15 : decode cX7_feels 15 = .ok (.aload_n 0, 1) := by decide +kernel
theorem dX7_feels_16 : decode cX7_feels 16 = .ok (.aload_n 0, 1) := by decide +kernel
theorem dX7_feels_17 : decode cX7_feels 17 = .ok (.getfield 7, 3) := by decide +kernel
theorem dX7_feels_20 : decode cX7_feels 20 = .ok (.iload_n 1, 1) := by decide +kernel
theorem dX7_feels_21 : decode cX7_feels 21 = .ok (.bipush 12, 2) := by decide +kernel
theorem dX7_feels_23 : decode cX7_feels 23 = .ok (.iadd, 1) := by decide +kernel
theorem dX7_feels_24 : decode cX7_feels 24 = .ok (.iload_n 2, 1) := by decide +kernel
theorem dX7_feels_25 : decode cX7_feels 25 = .ok (.iadd, 1) := by decide +kernel
theorem dX7_feels_26 : decode cX7_feels 26 = .ok (.iaload, 1) := by decide +kernel
theorem dX7_feels_27 : decode cX7_feels 27 = .ok (.aload_n 0, 1) := by decide +kernel
theorem dX7_feels_28 : decode cX7_feels 28 = .ok (.getfield 202, 3) := by decide +kernel
theorem dX7_feels_31 : decode cX7_feels 31 = .ok (.if_icmp .le 17, 3) := by decide +kernel
theorem dX7_feels_34 : decode cX7_feels 34 = .ok (.aload_n 0, 1) := by decide +kernel
theorem dX7_feels_35 : decode cX7_feels 35 = .ok (.getfield 7, 3) := by decide +kernel
theorem dX7_feels_38 : decode cX7_feels 38 = .ok (.iload_n 1, 1) := by decide +kernel
theorem dX7_feels_39 : decode cX7_feels 39 = .ok (.bipush 12, 2) := by decide +kernel
theorem dX7_feels_41 : decode cX7_feels 41 = .ok (.iadd, 1) := by decide +kernel
theorem dX7_feels_42 : decode cX7_feels 42 = .ok (.iload_n 2, 1) := by decide +kernel
theorem dX7_feels_43 : decode cX7_feels 43 = .ok (.iadd, 1) := by decide +kernel
theorem dX7_feels_44 : decode cX7_feels 44 = .ok (.iaload, 1) := by decide +kernel
theorem dX7_feels_45 : decode cX7_feels 45 = .ok (.goto 7, 3) := by decide +kernel
theorem dX7_feels_48 : decode cX7_feels 48 = .ok (.aload_n 0, 1) := by decide +kernel
theorem dX7_feels_49 : decode cX7_feels 49 = .ok (.getfield 202, 3) := by decide +kernel
theorem dX7_feels_52 : decode cX7_feels 52 = .ok (.putfield 202, 3) := by decide +kernel
theorem dX7_feels_55 : decode cX7_feels 55 = .ok (.iinc 2 1, 3) := by decide +kernel
theorem dX7_feels_58 : decode cX7_feels 58 = .ok (.goto (-56), 3) := by decide +kernel
theorem dX7_feels_61 : decode cX7_feels 61 = .ok (.return_, 1) := by decide +kernel
theorem dX7_hoursGo_0 : decode cX7_hoursGo 0 = .ok (.aload_n 0, 1) := by decide +kernel
theorem dX7_hoursGo_1 : decode cX7_hoursGo 1 = .ok (.iload_n 1, 1) := by decide +kernel
theorem dX7_hoursGo_2 : decode cX7_hoursGo 2 = .ok (.sipush 212, 3) := by decide +kernel
theorem dX7_hoursGo_5 : decode cX7_hoursGo 5 = .ok (.invokevirtual 205, 3) := by decide +kernel
theorem dX7_hoursGo_8 : decode cX7_hoursGo 8 = .ok (.iconst 0, 1) := by decide +kernel
theorem dX7_hoursGo_9 : decode cX7_hoursGo 9 = .ok (.istore_n 3, 1) := by decide +kernel
theorem dX7_hoursGo_10 : decode cX7_hoursGo 10 = .ok (.aload_n 0, 1) := by decide +kernel
theorem dX7_hoursGo_11 : decode cX7_hoursGo 11 = .ok (.iconst 0, 1) := by decide +kernel
theorem dX7_hoursGo_12 : decode cX7_hoursGo 12 = .ok (.putfield 209, 3) := by decide +kernel
theorem dX7_hoursGo_15 : decode cX7_hoursGo 15 = .ok (.aload_n 0, 1) := by decide +kernel
theorem dX7_hoursGo_16 : decode cX7_hoursGo 16 = .ok (.iconst 0, 1) := by decide +kernel
theorem dX7_hoursGo_17 : decode cX7_hoursGo 17 = .ok (.putfield 212, 3) := by decide +kernel
theorem dX7_hoursGo_20 : decode cX7_hoursGo 20 = .ok (.aload_n 0, 1) := by decide +kernel
theorem dX7_hoursGo_21 : decode cX7_hoursGo 21 = .ok (.iconst 0, 1) := by decide +kernel
theorem dX7_hoursGo_22 : decode cX7_hoursGo 22 = .ok (.putfield 202, 3) := by decide +kernel
theorem dX7_hoursGo_25 : decode cX7_hoursGo 25 = .ok (.aload_n 0, 1) := by decide +kernel
theorem dX7_hoursGo_26 : decode cX7_hoursGo 26 = .ok (.sipush 212, 3) := by decide +kernel
theorem dX7_hoursGo_29 : decode cX7_hoursGo 29 = .ok (.invokevirtual 215, 3) := by decide +kernel
theorem dX7_hoursGo_32 : decode cX7_hoursGo 32 = .ok (.iconst 0, 1) := by decide +kernel
theorem dX7_hoursGo_33 : decode cX7_hoursGo 33 = .ok (.istore 4, 2) := by decide +kernel
theorem dX7_hoursGo_35 : decode cX7_hoursGo 35 = .ok (.iload 4, 2) := by decide +kernel
theorem dX7_hoursGo_37 : decode cX7_hoursGo 37 = .ok (.iload_n 2, 1) := by decide +kernel
theorem dX7_hoursGo_38 : decode cX7_hoursGo 38 = .ok (.if_icmp .ge 82, 3) := by decide +kernel
theorem dX7_hoursGo_41 : decode cX7_hoursGo 41 = .ok (.aload_n 0, 1) := by decide +kernel
theorem dX7_hoursGo_42 : decode cX7_hoursGo 42 = .ok (.sipush 212, 3) := by decide +kernel
theorem dX7_hoursGo_45 : decode cX7_hoursGo 45 = .ok (.invokevirtual 148, 3) := by decide +kernel
theorem dX7_hoursGo_48 : decode cX7_hoursGo 48 = .ok (.istore 5, 2) := by decide +kernel
theorem dX7_hoursGo_50 : decode cX7_hoursGo 50 = .ok (.aload_n 0, 1) := by decide +kernel
theorem dX7_hoursGo_51 : decode cX7_hoursGo 51 = .ok (.sipush 212, 3) := by decide +kernel
theorem dX7_hoursGo_54 : decode cX7_hoursGo 54 = .ok (.invokevirtual 196, 3) := by decide +kernel
theorem dX7_hoursGo_57 : decode cX7_hoursGo 57 = .ok (.istore 6, 2) := by decide +kernel
theorem dX7_hoursGo_59 : decode cX7_hoursGo 59 = .ok (.iload_n 3, 1) := by decide +kernel
theorem dX7_hoursGo_60 : decode cX7_hoursGo 60 = .ok (.iload 6, 2) := by decide +kernel
theorem dX7_hoursGo_62 : decode cX7_hoursGo 62 = .ok (.invokestatic 199, 3) := by decide +kernel
theorem dX7_hoursGo_65 : decode cX7_hoursGo 65 = .ok (.iadd, 1) := by decide +kernel
theorem dX7_hoursGo_66 : decode cX7_hoursGo 66 = .ok (.istore_n 3, 1) := by decide +kernel
theorem dX7_hoursGo_67 : decode cX7_hoursGo 67 = .ok (.aload_n 0, 1) := by decide +kernel
theorem dX7_hoursGo_68 : decode cX7_hoursGo 68 = .ok (.dup, 1) := by decide +kernel
theorem dX7_hoursGo_69 : decode cX7_hoursGo 69 = .ok (.getfield 209, 3) := by decide +kernel
theorem dX7_hoursGo_72 : decode cX7_hoursGo 72 = .ok (.iload 6, 2) := by decide +kernel
theorem dX7_hoursGo_74 : decode cX7_hoursGo 74 = .ok (.ifCond .le 8, 3) := by decide +kernel
theorem dX7_hoursGo_77 : decode cX7_hoursGo 77 = .ok (.iload 5, 2) := by decide +kernel
theorem dX7_hoursGo_79 : decode cX7_hoursGo 79 = .ok (.goto 4, 3) := by decide +kernel
theorem dX7_hoursGo_82 : decode cX7_hoursGo 82 = .ok (.iconst 0, 1) := by decide +kernel
theorem dX7_hoursGo_83 : decode cX7_hoursGo 83 = .ok (.iadd, 1) := by decide +kernel
theorem dX7_hoursGo_84 : decode cX7_hoursGo 84 = .ok (.putfield 209, 3) := by decide +kernel
theorem dX7_hoursGo_87 : decode cX7_hoursGo 87 = .ok (.aload_n 0, 1) := by decide +kernel
theorem dX7_hoursGo_88 : decode cX7_hoursGo 88 = .ok (.dup, 1) := by decide +kernel
theorem dX7_hoursGo_89 : decode cX7_hoursGo 89 = .ok (.getfield 212, 3) := by decide +kernel
theorem dX7_hoursGo_92 : decode cX7_hoursGo 92 = .ok (.iload 6, 2) := by decide +kernel
theorem dX7_hoursGo_94 : decode cX7_hoursGo 94 = .ok (.ifCond .le 7, 3) := by decide +kernel
theorem dX7_hoursGo_97 : decode cX7_hoursGo 97 = .ok (.iconst 0, 1) := by decide +kernel
theorem dX7_hoursGo_98 : decode cX7_hoursGo 98 = .ok (.goto 5, 3) := by decide +kernel
theorem dX7_hoursGo_101 : decode cX7_hoursGo 101 = .ok (.iload 5, 2) := by decide +kernel
theorem dX7_hoursGo_103 : decode cX7_hoursGo 103 = .ok (.iadd, 1) := by decide +kernel
theorem dX7_hoursGo_104 : decode cX7_hoursGo 104 = .ok (.putfield 212, 3) := by decide +kernel
theorem dX7_hoursGo_107 : decode cX7_hoursGo 107 = .ok (.aload_n 0, 1) := by decide +kernel
theorem dX7_hoursGo_108 : decode cX7_hoursGo 108 = .ok (.sipush 212, 3) := by decide +kernel
theorem dX7_hoursGo_111 : decode cX7_hoursGo 111 = .ok (.invokevirtual 215, 3) := by decide +kernel
theorem dX7_hoursGo_114 : decode cX7_hoursGo 114 = .ok (.iinc 4 1, 3) := by decide +kernel
theorem dX7_hoursGo_117 : decode cX7_hoursGo 117 = .ok (.goto (-82), 3) := by decide +kernel
theorem dX7_hoursGo_120 : decode cX7_hoursGo 120 = .ok (.iload_n 3, 1) := by decide +kernel
theorem dX7_hoursGo_121 : decode cX7_hoursGo 121 = .ok (.ireturn, 1) := by decide +kernel
theorem dX7_wentThen_0 : decode cX7_wentThen 0 = .ok (.aload_n 0, 1) := by decide +kernel
theorem dX7_wentThen_1 : decode cX7_wentThen 1 = .ok (.getfield 7, 3) := by decide +kernel
theorem dX7_wentThen_4 : decode cX7_wentThen 4 = .ok (.sipush 232, 3) := by decide +kernel
theorem dX7_wentThen_7 : decode cX7_wentThen 7 = .ok (.iload_n 1, 1) := by decide +kernel
theorem dX7_wentThen_8 : decode cX7_wentThen 8 = .ok (.iadd, 1) := by decide +kernel
theorem dX7_wentThen_9 : decode cX7_wentThen 9 = .ok (.iaload, 1) := by decide +kernel
theorem dX7_wentThen_10 : decode cX7_wentThen 10 = .ok (.aload_n 0, 1) := by decide +kernel
theorem dX7_wentThen_11 : decode cX7_wentThen 11 = .ok (.getfield 7, 3) := by decide +kernel
theorem dX7_wentThen_14 : decode cX7_wentThen 14 = .ok (.bipush 20, 2) := by decide +kernel
theorem dX7_wentThen_16 : decode cX7_wentThen 16 = .ok (.iload_n 1, 1) := by decide +kernel
theorem dX7_wentThen_17 : decode cX7_wentThen 17 = .ok (.iadd, 1) := by decide +kernel
theorem dX7_wentThen_18 : decode cX7_wentThen 18 = .ok (.iaload, 1) := by decide +kernel
theorem dX7_wentThen_19 : decode cX7_wentThen 19 = .ok (.isub, 1) := by decide +kernel
theorem dX7_wentThen_20 : decode cX7_wentThen 20 = .ok (.ireturn, 1) := by decide +kernel
theorem dX7_runs_0 : decode cX7_runs 0 = .ok (.iload_n 1, 1) := by decide +kernel
theorem dX7_runs_1 : decode cX7_runs 1 = .ok (.invokestatic 218, 3) := by decide +kernel
theorem dX7_runs_4 : decode cX7_runs 4 = .ok (.ifCond .eq 15, 3) := by decide +kernel
theorem dX7_runs_7 : decode cX7_runs 7 = .ok (.iload_n 2, 1) := by decide +kernel
theorem dX7_runs_8 : decode cX7_runs 8 = .ok (.i2l, 1) := by decide +kernel
theorem dX7_runs_9 : decode cX7_runs 9 = .ok (.lconst 0, 1) := by decide +kernel
theorem dX7_runs_10 : decode cX7_runs 10 = .ok (.ldc2_w 189, 3) := by decide +kernel
theorem dX7_runs_13 : decode cX7_runs 13 = .ok (.invokestatic 55, 3) := by decide +kernel
theorem dX7_runs_16 : decode cX7_runs 16 = .ok (.ifCond .ne 5, 3) := by decide +kernel
theorem dX7_runs_19 : decode cX7_runs 19 = .ok (.iconst (-1), 1) := by decide +kernel
theorem dX7_runs_20 : decode cX7_runs 20 = .ok (.ireturn, 1) := by decide +kernel
theorem dX7_runs_21 : decode cX7_runs 21 = .ok (.aload_n 0, 1) := by decide +kernel
theorem dX7_runs_22 : decode cX7_runs 22 = .ok (.iconst 0, 1) := by decide +kernel
theorem dX7_runs_23 : decode cX7_runs 23 = .ok (.iload_n 1, 1) := by decide +kernel
theorem dX7_runs_24 : decode cX7_runs 24 = .ok (.invokevirtual 221, 3) := by decide +kernel
theorem dX7_runs_27 : decode cX7_runs 27 = .ok (.istore_n 3, 1) := by decide +kernel
theorem dX7_runs_28 : decode cX7_runs 28 = .ok (.iload_n 2, 1) := by decide +kernel
theorem dX7_runs_29 : decode cX7_runs 29 = .ok (.tableswitch 53 0 3 #[31, 33, 38, 43], 31) := by decide +kernel
theorem dX7_runs_60 : decode cX7_runs 60 = .ok (.iload_n 3, 1) := by decide +kernel
theorem dX7_runs_61 : decode cX7_runs 61 = .ok (.ireturn, 1) := by decide +kernel
theorem dX7_runs_62 : decode cX7_runs 62 = .ok (.aload_n 0, 1) := by decide +kernel
theorem dX7_runs_63 : decode cX7_runs 63 = .ok (.getfield 209, 3) := by decide +kernel
theorem dX7_runs_66 : decode cX7_runs 66 = .ok (.ireturn, 1) := by decide +kernel
theorem dX7_runs_67 : decode cX7_runs 67 = .ok (.aload_n 0, 1) := by decide +kernel
theorem dX7_runs_68 : decode cX7_runs 68 = .ok (.getfield 212, 3) := by decide +kernel
theorem dX7_runs_71 : decode cX7_runs 71 = .ok (.ireturn, 1) := by decide +kernel
theorem dX7_runs_72 : decode cX7_runs 72 = .ok (.aload_n 0, 1) := by decide +kernel
theorem dX7_runs_73 : decode cX7_runs 73 = .ok (.sipush 212, 3) := by decide +kernel
theorem dX7_runs_76 : decode cX7_runs 76 = .ok (.bipush 16, 2) := by decide +kernel
theorem dX7_runs_78 : decode cX7_runs 78 = .ok (.invokevirtual 157, 3) := by decide +kernel
theorem dX7_runs_81 : decode cX7_runs 81 = .ok (.ireturn, 1) := by decide +kernel
theorem dX7_runs_82 : decode cX7_runs 82 = .ok (.aload_n 0, 1) := by decide +kernel
theorem dX7_runs_83 : decode cX7_runs 83 = .ok (.getfield 202, 3) := by decide +kernel
theorem dX7_runs_86 : decode cX7_runs 86 = .ok (.ireturn, 1) := by decide +kernel
theorem dX7_ahead_0 : decode cX7_ahead 0 = .ok (.aload_n 0, 1) := by decide +kernel
theorem dX7_ahead_1 : decode cX7_ahead 1 = .ok (.iload_n 1, 1) := by decide +kernel
theorem dX7_ahead_2 : decode cX7_ahead 2 = .ok (.invokevirtual 160, 3) := by decide +kernel
theorem dX7_ahead_5 : decode cX7_ahead 5 = .ok (.ifCond .eq 22, 3) := by decide +kernel
theorem dX7_ahead_8 : decode cX7_ahead 8 = .ok (.iload_n 2, 1) := by decide +kernel
theorem dX7_ahead_9 : decode cX7_ahead 9 = .ok (.invokestatic 218, 3) := by decide +kernel
theorem dX7_ahead_12 : decode cX7_ahead 12 = .ok (.ifCond .eq 15, 3) := by decide +kernel
theorem dX7_ahead_15 : decode cX7_ahead 15 = .ok (.iload_n 3, 1) := by decide +kernel
theorem dX7_ahead_16 : decode cX7_ahead 16 = .ok (.i2l, 1) := by decide +kernel
theorem dX7_ahead_17 : decode cX7_ahead 17 = .ok (.lconst 0, 1) := by decide +kernel
theorem dX7_ahead_18 : decode cX7_ahead 18 = .ok (.ldc2_w 224, 3) := by decide +kernel
theorem dX7_ahead_21 : decode cX7_ahead 21 = .ok (.invokestatic 55, 3) := by decide +kernel
theorem dX7_ahead_24 : decode cX7_ahead 24 = .ok (.ifCond .ne 5, 3) := by decide +kernel
theorem dX7_ahead_27 : decode cX7_ahead 27 = .ok (.iconst (-1), 1) := by decide +kernel
theorem dX7_ahead_28 : decode cX7_ahead 28 = .ok (.ireturn, 1) := by decide +kernel
theorem dX7_ahead_29 : decode cX7_ahead 29 = .ok (.aload_n 0, 1) := by decide +kernel
theorem dX7_ahead_30 : decode cX7_ahead 30 = .ok (.iconst 0, 1) := by decide +kernel
theorem dX7_ahead_31 : decode cX7_ahead 31 = .ok (.iload_n 2, 1) := by decide +kernel
theorem dX7_ahead_32 : decode cX7_ahead 32 = .ok (.invokevirtual 221, 3) := by decide +kernel
theorem dX7_ahead_35 : decode cX7_ahead 35 = .ok (.pop, 1) := by decide +kernel
theorem dX7_ahead_36 : decode cX7_ahead 36 = .ok (.iload_n 3, 1) := by decide +kernel
theorem dX7_ahead_37 : decode cX7_ahead 37 = .ok (.ifCond .ne 16, 3) := by decide +kernel
theorem dX7_ahead_40 : decode cX7_ahead 40 = .ok (.aload_n 0, 1) := by decide +kernel
theorem dX7_ahead_41 : decode cX7_ahead 41 = .ok (.getfield 7, 3) := by decide +kernel
theorem dX7_ahead_44 : decode cX7_ahead 44 = .ok (.sipush 224, 3) := by decide +kernel
theorem dX7_ahead_47 : decode cX7_ahead 47 = .ok (.iload_n 1, 1) := by decide +kernel
theorem dX7_ahead_48 : decode cX7_ahead 48 = .ok (.iadd, 1) := by decide +kernel
theorem dX7_ahead_49 : decode cX7_ahead 49 = .ok (.iaload, 1) := by decide +kernel
theorem dX7_ahead_50 : decode cX7_ahead 50 = .ok (.goto 26, 3) := by decide +kernel
theorem dX7_ahead_53 : decode cX7_ahead 53 = .ok (.iload_n 3, 1) := by decide +kernel
theorem dX7_ahead_54 : decode cX7_ahead 54 = .ok (.iconst 1, 1) := by decide +kernel
theorem dX7_ahead_55 : decode cX7_ahead 55 = .ok (.if_icmp .ne 16, 3) := by decide +kernel
theorem dX7_ahead_58 : decode cX7_ahead 58 = .ok (.aload_n 0, 1) := by decide +kernel
theorem dX7_ahead_59 : decode cX7_ahead 59 = .ok (.getfield 7, 3) := by decide +kernel
theorem dX7_ahead_62 : decode cX7_ahead 62 = .ok (.sipush 228, 3) := by decide +kernel
theorem dX7_ahead_65 : decode cX7_ahead 65 = .ok (.iload_n 1, 1) := by decide +kernel
theorem dX7_ahead_66 : decode cX7_ahead 66 = .ok (.iadd, 1) := by decide +kernel
theorem dX7_ahead_67 : decode cX7_ahead 67 = .ok (.iaload, 1) := by decide +kernel
theorem dX7_ahead_68 : decode cX7_ahead 68 = .ok (.goto 8, 3) := by decide +kernel
theorem dX7_ahead_71 : decode cX7_ahead 71 = .ok (.aload_n 0, 1) := by decide +kernel
theorem dX7_ahead_72 : decode cX7_ahead 72 = .ok (.iload_n 1, 1) := by decide +kernel
theorem dX7_ahead_73 : decode cX7_ahead 73 = .ok (.invokevirtual 226, 3) := by decide +kernel
theorem dX7_ahead_76 : decode cX7_ahead 76 = .ok (.ireturn, 1) := by decide +kernel
theorem dX7_ups_0 : decode cX7_ups 0 = .ok (.iload_n 1, 1) := by decide +kernel
theorem dX7_ups_1 : decode cX7_ups 1 = .ok (.invokestatic 218, 3) := by decide +kernel
theorem dX7_ups_4 : decode cX7_ups 4 = .ok (.ifCond .ne 5, 3) := by decide +kernel
theorem dX7_ups_7 : decode cX7_ups 7 = .ok (.iconst (-1), 1) := by decide +kernel
theorem dX7_ups_8 : decode cX7_ups 8 = .ok (.ireturn, 1) := by decide +kernel
theorem dX7_ups_9 : decode cX7_ups 9 = .ok (.aload_n 0, 1) := by decide +kernel
theorem dX7_ups_10 : decode cX7_ups 10 = .ok (.iconst 0, 1) := by decide +kernel
theorem dX7_ups_11 : decode cX7_ups 11 = .ok (.iload_n 1, 1) := by decide +kernel
theorem dX7_ups_12 : decode cX7_ups 12 = .ok (.invokevirtual 221, 3) := by decide +kernel
theorem dX7_ups_15 : decode cX7_ups 15 = .ok (.pop, 1) := by decide +kernel
theorem dX7_ups_16 : decode cX7_ups 16 = .ok (.aload_n 0, 1) := by decide +kernel
theorem dX7_ups_17 : decode cX7_ups 17 = .ok (.sipush 212, 3) := by decide +kernel
theorem dX7_ups_20 : decode cX7_ups 20 = .ok (.invokevirtual 196, 3) := by decide +kernel
theorem dX7_ups_23 : decode cX7_ups 23 = .ok (.ireturn, 1) := by decide +kernel
theorem dX7_when_0 : decode cX7_when 0 = .ok (.aload_n 0, 1) := by decide +kernel
theorem dX7_when_1 : decode cX7_when 1 = .ok (.iload_n 1, 1) := by decide +kernel
theorem dX7_when_2 : decode cX7_when 2 = .ok (.invokevirtual 160, 3) := by decide +kernel
theorem dX7_when_5 : decode cX7_when 5 = .ok (.ifCond .ne 5, 3) := by decide +kernel
theorem dX7_when_8 : decode cX7_when 8 = .ok (.iconst (-1), 1) := by decide +kernel
theorem dX7_when_9 : decode cX7_when 9 = .ok (.ireturn, 1) := by decide +kernel
theorem dX7_when_10 : decode cX7_when 10 = .ok (.aload_n 0, 1) := by decide +kernel
theorem dX7_when_11 : decode cX7_when 11 = .ok (.iconst 0, 1) := by decide +kernel
theorem dX7_when_12 : decode cX7_when 12 = .ok (.sipush 212, 3) := by decide +kernel
theorem dX7_when_15 : decode cX7_when 15 = .ok (.invokevirtual 205, 3) := by decide +kernel
theorem dX7_when_18 : decode cX7_when 18 = .ok (.iconst 0, 1) := by decide +kernel
theorem dX7_when_19 : decode cX7_when 19 = .ok (.istore_n 2, 1) := by decide +kernel
theorem dX7_when_20 : decode cX7_when 20 = .ok (.iload_n 2, 1) := by decide +kernel
theorem dX7_when_21 : decode cX7_when 21 = .ok (.sipush 200, 3) := by decide +kernel
theorem dX7_when_24 : decode cX7_when 24 = .ok (.if_icmp .gt 26, 3) := by decide +kernel
theorem dX7_when_27 : decode cX7_when 27 = .ok (.aload_n 0, 1) := by decide +kernel
theorem dX7_when_28 : decode cX7_when 28 = .ok (.sipush 212, 3) := by decide +kernel
theorem dX7_when_31 : decode cX7_when 31 = .ok (.invokevirtual 196, 3) := by decide +kernel
theorem dX7_when_34 : decode cX7_when 34 = .ok (.iload_n 1, 1) := by decide +kernel
theorem dX7_when_35 : decode cX7_when 35 = .ok (.ishr, 1) := by decide +kernel
theorem dX7_when_36 : decode cX7_when 36 = .ok (.iconst 1, 1) := by decide +kernel
theorem dX7_when_37 : decode cX7_when 37 = .ok (.iand, 1) := by decide +kernel
theorem dX7_when_38 : decode cX7_when 38 = .ok (.iconst 1, 1) := by decide +kernel
theorem dX7_when_39 : decode cX7_when 39 = .ok (.if_icmp .ne 5, 3) := by decide +kernel
theorem dX7_when_42 : decode cX7_when 42 = .ok (.iload_n 2, 1) := by decide +kernel
theorem dX7_when_43 : decode cX7_when 43 = .ok (.ireturn, 1) := by decide +kernel
theorem dX7_when_44 : decode cX7_when 44 = .ok (.iinc 2 1, 3) := by decide +kernel
theorem dX7_when_47 : decode cX7_when 47 = .ok (.goto (-27), 3) := by decide +kernel
theorem dX7_when_50 : decode cX7_when 50 = .ok (.bipush (-4), 2) := by decide +kernel
theorem dX7_when_52 : decode cX7_when 52 = .ok (.ireturn, 1) := by decide +kernel
theorem dX7_again_0 : decode cX7_again 0 = .ok (.aload_n 0, 1) := by decide +kernel
theorem dX7_again_1 : decode cX7_again 1 = .ok (.getfield 7, 3) := by decide +kernel
theorem dX7_again_4 : decode cX7_again 4 = .ok (.bipush 49, 2) := by decide +kernel
theorem dX7_again_6 : decode cX7_again 6 = .ok (.iaload, 1) := by decide +kernel
theorem dX7_again_7 : decode cX7_again 7 = .ok (.istore_n 1, 1) := by decide +kernel
theorem dX7_again_8 : decode cX7_again 8 = .ok (.aload_n 0, 1) := by decide +kernel
theorem dX7_again_9 : decode cX7_again 9 = .ok (.iconst 0, 1) := by decide +kernel
theorem dX7_again_10 : decode cX7_again 10 = .ok (.sipush 212, 3) := by decide +kernel
theorem dX7_again_13 : decode cX7_again 13 = .ok (.invokevirtual 205, 3) := by decide +kernel
theorem dX7_again_16 : decode cX7_again 16 = .ok (.iconst 1, 1) := by decide +kernel
theorem dX7_again_17 : decode cX7_again 17 = .ok (.istore_n 2, 1) := by decide +kernel
theorem dX7_again_18 : decode cX7_again 18 = .ok (.iload_n 2, 1) := by decide +kernel
theorem dX7_again_19 : decode cX7_again 19 = .ok (.sipush 200, 3) := by decide +kernel
theorem dX7_again_22 : decode cX7_again 22 = .ok (.if_icmp .gt 118, 3) := by decide +kernel
theorem dX7_again_25 : decode cX7_again 25 = .ok (.aload_n 0, 1) := by decide +kernel
theorem dX7_again_26 : decode cX7_again 26 = .ok (.sipush 212, 3) := by decide +kernel
theorem dX7_again_29 : decode cX7_again 29 = .ok (.invokevirtual 196, 3) := by decide +kernel
theorem dX7_again_32 : decode cX7_again 32 = .ok (.pop, 1) := by decide +kernel
theorem dX7_again_33 : decode cX7_again 33 = .ok (.iload_n 1, 1) := by decide +kernel
theorem dX7_again_34 : decode cX7_again 34 = .ok (.ifCond .eq 9, 3) := by decide +kernel
theorem dX7_again_37 : decode cX7_again 37 = .ok (.iload_n 2, 1) := by decide +kernel
theorem dX7_again_38 : decode cX7_again 38 = .ok (.iload_n 1, 1) := by decide +kernel
theorem dX7_again_39 : decode cX7_again 39 = .ok (.irem, 1) := by decide +kernel
theorem dX7_again_40 : decode cX7_again 40 = .ok (.ifCond .ne 7, 3) := by decide +kernel
theorem dX7_again_43 : decode cX7_again 43 = .ok (.iconst 1, 1) := by decide +kernel
theorem dX7_again_44 : decode cX7_again 44 = .ok (.goto 4, 3) := by decide +kernel
theorem dX7_again_47 : decode cX7_again 47 = .ok (.iconst 0, 1) := by decide +kernel
theorem dX7_again_48 : decode cX7_again 48 = .ok (.istore_n 3, 1) := by decide +kernel
theorem dX7_again_49 : decode cX7_again 49 = .ok (.iconst 0, 1) := by decide +kernel
theorem dX7_again_50 : decode cX7_again 50 = .ok (.istore 4, 2) := by decide +kernel
theorem dX7_again_52 : decode cX7_again 52 = .ok (.iload 4, 2) := by decide +kernel
theorem dX7_again_54 : decode cX7_again 54 = .ok (.aload_n 0, 1) := by decide +kernel
theorem dX7_again_55 : decode cX7_again 55 = .ok (.getfield 7, 3) := by decide +kernel
theorem dX7_again_58 : decode cX7_again 58 = .ok (.bipush 24, 2) := by decide +kernel
theorem dX7_again_60 : decode cX7_again 60 = .ok (.iaload, 1) := by decide +kernel
theorem dX7_again_61 : decode cX7_again 61 = .ok (.if_icmp .ge 67, 3) := by decide +kernel
theorem dX7_again_64 : decode cX7_again 64 = .ok (.iload_n 3, 1) := by decide +kernel
theorem dX7_again_65 : decode cX7_again 65 = .ok (.ifCond .eq 55, 3) := by decide +kernel
theorem dX7_again_68 : decode cX7_again 68 = .ok (.aload_n 0, 1) := by decide +kernel
theorem dX7_again_69 : decode cX7_again 69 = .ok (.getfield 7, 3) := by decide +kernel
theorem dX7_again_72 : decode cX7_again 72 = .ok (.sipush 224, 3) := by decide +kernel
theorem dX7_again_75 : decode cX7_again 75 = .ok (.iload 4, 2) := by decide +kernel
theorem dX7_again_77 : decode cX7_again 77 = .ok (.iadd, 1) := by decide +kernel
theorem dX7_again_78 : decode cX7_again 78 = .ok (.iaload, 1) := by decide +kernel
theorem dX7_again_79 : decode cX7_again 79 = .ok (.aload_n 0, 1) := by decide +kernel
theorem dX7_again_80 : decode cX7_again 80 = .ok (.getfield 7, 3) := by decide +kernel
theorem dX7_again_83 : decode cX7_again 83 = .ok (.bipush 12, 2) := by decide +kernel
theorem dX7_again_85 : decode cX7_again 85 = .ok (.iload 4, 2) := by decide +kernel
theorem dX7_again_87 : decode cX7_again 87 = .ok (.iadd, 1) := by decide +kernel
theorem dX7_again_88 : decode cX7_again 88 = .ok (.iaload, 1) := by decide +kernel
theorem dX7_again_89 : decode cX7_again 89 = .ok (.if_icmp .ne 31, 3) := by decide +kernel
theorem dX7_again_92 : decode cX7_again 92 = .ok (.aload_n 0, 1) := by decide +kernel
theorem dX7_again_93 : decode cX7_again 93 = .ok (.getfield 7, 3) := by decide +kernel
theorem dX7_again_96 : decode cX7_again 96 = .ok (.sipush 228, 3) := by decide +kernel
theorem dX7_again_99 : decode cX7_again 99 = .ok (.iload 4, 2) := by decide +kernel
theorem dX7_again_101 : decode cX7_again 101 = .ok (.iadd, 1) := by decide +kernel
theorem dX7_again_102 : decode cX7_again 102 = .ok (.iaload, 1) := by decide +kernel
theorem dX7_again_103 : decode cX7_again 103 = .ok (.aload_n 0, 1) := by decide +kernel
theorem dX7_again_104 : decode cX7_again 104 = .ok (.getfield 7, 3) := by decide +kernel
theorem dX7_again_107 : decode cX7_again 107 = .ok (.bipush 16, 2) := by decide +kernel
theorem dX7_again_109 : decode cX7_again 109 = .ok (.iload 4, 2) := by decide +kernel
theorem dX7_again_111 : decode cX7_again 111 = .ok (.iadd, 1) := by decide +kernel
theorem dX7_again_112 : decode cX7_again 112 = .ok (.iaload, 1) := by decide +kernel
theorem dX7_again_113 : decode cX7_again 113 = .ok (.if_icmp .ne 7, 3) := by decide +kernel
theorem dX7_again_116 : decode cX7_again 116 = .ok (.iconst 1, 1) := by decide +kernel
theorem dX7_again_117 : decode cX7_again 117 = .ok (.goto 4, 3) := by decide +kernel
theorem dX7_again_120 : decode cX7_again 120 = .ok (.iconst 0, 1) := by decide +kernel
theorem dX7_again_121 : decode cX7_again 121 = .ok (.istore_n 3, 1) := by decide +kernel
theorem dX7_again_122 : decode cX7_again 122 = .ok (.iinc 4 1, 3) := by decide +kernel
theorem dX7_again_125 : decode cX7_again 125 = .ok (.goto (-73), 3) := by decide +kernel
theorem dX7_again_128 : decode cX7_again 128 = .ok (.iload_n 3, 1) := by decide +kernel
theorem dX7_again_129 : decode cX7_again 129 = .ok (.ifCond .eq 5, 3) := by decide +kernel
theorem dX7_again_132 : decode cX7_again 132 = .ok (.iload_n 2, 1) := by decide +kernel
theorem dX7_again_133 : decode cX7_again 133 = .ok (.ireturn, 1) := by decide +kernel
theorem dX7_again_134 : decode cX7_again 134 = .ok (.iinc 2 1, 3) := by decide +kernel
theorem dX7_again_137 : decode cX7_again 137 = .ok (.goto (-119), 3) := by decide +kernel
theorem dX7_again_140 : decode cX7_again 140 = .ok (.bipush (-4), 2) := by decide +kernel
theorem dX7_again_142 : decode cX7_again 142 = .ok (.ireturn, 1) := by decide +kernel
theorem dX7_whomBy_0 : decode cX7_whomBy 0 = .ok (.iload_n 1, 1) := by decide +kernel
theorem dX7_whomBy_1 : decode cX7_whomBy 1 = .ok (.aload_n 0, 1) := by decide +kernel
theorem dX7_whomBy_2 : decode cX7_whomBy 2 = .ok (.getfield 7, 3) := by decide +kernel
theorem dX7_whomBy_5 : decode cX7_whomBy 5 = .ok (.bipush 24, 2) := by decide +kernel
theorem dX7_whomBy_7 : decode cX7_whomBy 7 = .ok (.iaload, 1) := by decide +kernel
theorem dX7_whomBy_8 : decode cX7_whomBy 8 = .ok (.if_icmp .ge 7, 3) := by decide +kernel
theorem dX7_whomBy_11 : decode cX7_whomBy 11 = .ok (.iload_n 1, 1) := by decide +kernel
theorem dX7_whomBy_12 : decode cX7_whomBy 12 = .ok (.goto 4, 3) := by decide +kernel
theorem dX7_whomBy_15 : decode cX7_whomBy 15 = .ok (.iconst 4, 1) := by decide +kernel
theorem dX7_whomBy_16 : decode cX7_whomBy 16 = .ok (.ireturn, 1) := by decide +kernel
theorem dX7_whom_0 : decode cX7_whom 0 = .ok (.aload_n 0, 1) := by decide +kernel
theorem dX7_whom_1 : decode cX7_whom 1 = .ok (.iload_n 1, 1) := by decide +kernel
theorem dX7_whom_2 : decode cX7_whom 2 = .ok (.invokevirtual 166, 3) := by decide +kernel
theorem dX7_whom_5 : decode cX7_whom 5 = .ok (.ifCond .eq 20, 3) := by decide +kernel
theorem dX7_whom_8 : decode cX7_whom 8 = .ok (.iload_n 2, 1) := by decide +kernel
theorem dX7_whom_9 : decode cX7_whom 9 = .ok (.invokestatic 218, 3) := by decide +kernel
theorem dX7_whom_12 : decode cX7_whom 12 = .ok (.ifCond .eq 13, 3) := by decide +kernel
theorem dX7_whom_15 : decode cX7_whom 15 = .ok (.iload_n 3, 1) := by decide +kernel
theorem dX7_whom_16 : decode cX7_whom 16 = .ok (.i2l, 1) := by decide +kernel
theorem dX7_whom_17 : decode cX7_whom 17 = .ok (.lconst 0, 1) := by decide +kernel
theorem dX7_whom_18 : decode cX7_whom 18 = .ok (.lconst 1, 1) := by decide +kernel
theorem dX7_whom_19 : decode cX7_whom 19 = .ok (.invokestatic 55, 3) := by decide +kernel
theorem dX7_whom_22 : decode cX7_whom 22 = .ok (.ifCond .ne 5, 3) := by decide +kernel
theorem dX7_whom_25 : decode cX7_whom 25 = .ok (.iconst (-1), 1) := by decide +kernel
theorem dX7_whom_26 : decode cX7_whom 26 = .ok (.ireturn, 1) := by decide +kernel
theorem dX7_whom_27 : decode cX7_whom 27 = .ok (.iconst (-1), 1) := by decide +kernel
theorem dX7_whom_28 : decode cX7_whom 28 = .ok (.istore 4, 2) := by decide +kernel
theorem dX7_whom_30 : decode cX7_whom 30 = .ok (.iconst 0, 1) := by decide +kernel
theorem dX7_whom_31 : decode cX7_whom 31 = .ok (.istore 5, 2) := by decide +kernel
theorem dX7_whom_33 : decode cX7_whom 33 = .ok (.aload_n 0, 1) := by decide +kernel
theorem dX7_whom_34 : decode cX7_whom 34 = .ok (.iconst 0, 1) := by decide +kernel
theorem dX7_whom_35 : decode cX7_whom 35 = .ok (.sipush 265, 3) := by decide +kernel
theorem dX7_whom_38 : decode cX7_whom 38 = .ok (.invokevirtual 205, 3) := by decide +kernel
theorem dX7_whom_41 : decode cX7_whom 41 = .ok (.iconst 0, 1) := by decide +kernel
theorem dX7_whom_42 : decode cX7_whom 42 = .ok (.istore 6, 2) := by decide +kernel
theorem dX7_whom_44 : decode cX7_whom 44 = .ok (.iload 6, 2) := by decide +kernel
theorem dX7_whom_46 : decode cX7_whom 46 = .ok (.aload_n 0, 1) := by decide +kernel
theorem dX7_whom_47 : decode cX7_whom 47 = .ok (.getfield 7, 3) := by decide +kernel
theorem dX7_whom_50 : decode cX7_whom 50 = .ok (.bipush 24, 2) := by decide +kernel
theorem dX7_whom_52 : decode cX7_whom 52 = .ok (.iaload, 1) := by decide +kernel
theorem dX7_whom_53 : decode cX7_whom 53 = .ok (.if_icmp .gt 71, 3) := by decide +kernel
theorem dX7_whom_56 : decode cX7_whom 56 = .ok (.aload_n 0, 1) := by decide +kernel
theorem dX7_whom_57 : decode cX7_whom 57 = .ok (.getfield 7, 3) := by decide +kernel
theorem dX7_whom_60 : decode cX7_whom 60 = .ok (.sipush 302, 3) := by decide +kernel
theorem dX7_whom_63 : decode cX7_whom 63 = .ok (.iload_n 1, 1) := by decide +kernel
theorem dX7_whom_64 : decode cX7_whom 64 = .ok (.iadd, 1) := by decide +kernel
theorem dX7_whom_65 : decode cX7_whom 65 = .ok (.aload_n 0, 1) := by decide +kernel
theorem dX7_whom_66 : decode cX7_whom 66 = .ok (.iload 6, 2) := by decide +kernel
theorem dX7_whom_68 : decode cX7_whom 68 = .ok (.invokevirtual 229, 3) := by decide +kernel
theorem dX7_whom_71 : decode cX7_whom 71 = .ok (.iastore, 1) := by decide +kernel
theorem dX7_whom_72 : decode cX7_whom 72 = .ok (.aload_n 0, 1) := by decide +kernel
theorem dX7_whom_73 : decode cX7_whom 73 = .ok (.sipush 265, 3) := by decide +kernel
theorem dX7_whom_76 : decode cX7_whom 76 = .ok (.iload_n 2, 1) := by decide +kernel
theorem dX7_whom_77 : decode cX7_whom 77 = .ok (.invokevirtual 221, 3) := by decide +kernel
theorem dX7_whom_80 : decode cX7_whom 80 = .ok (.istore 7, 2) := by decide +kernel
theorem dX7_whom_82 : decode cX7_whom 82 = .ok (.iload 7, 2) := by decide +kernel
theorem dX7_whom_84 : decode cX7_whom 84 = .ok (.iload 4, 2) := by decide +kernel
theorem dX7_whom_86 : decode cX7_whom 86 = .ok (.if_icmp .le 12, 3) := by decide +kernel
theorem dX7_whom_89 : decode cX7_whom 89 = .ok (.aload_n 0, 1) := by decide +kernel
theorem dX7_whom_90 : decode cX7_whom 90 = .ok (.iload 6, 2) := by decide +kernel
theorem dX7_whom_92 : decode cX7_whom 92 = .ok (.invokevirtual 229, 3) := by decide +kernel
theorem dX7_whom_95 : decode cX7_whom 95 = .ok (.goto 5, 3) := by decide +kernel
theorem dX7_whom_98 : decode cX7_whom 98 = .ok (.iload 5, 2) := by decide +kernel
theorem dX7_whom_100 : decode cX7_whom 100 = .ok (.istore 5, 2) := by decide +kernel
theorem dX7_whom_102 : decode cX7_whom 102 = .ok (.iload 7, 2) := by decide +kernel
theorem dX7_whom_104 : decode cX7_whom 104 = .ok (.iload 4, 2) := by decide +kernel
theorem dX7_whom_106 : decode cX7_whom 106 = .ok (.if_icmp .le 8, 3) := by decide +kernel
theorem dX7_whom_109 : decode cX7_whom 109 = .ok (.iload 7, 2) := by decide +kernel
theorem dX7_whom_111 : decode cX7_whom 111 = .ok (.goto 5, 3) := by decide +kernel
theorem dX7_whom_114 : decode cX7_whom 114 = .ok (.iload 4, 2) := by decide +kernel
theorem dX7_whom_116 : decode cX7_whom 116 = .ok (.istore 4, 2) := by decide +kernel
theorem dX7_whom_118 : decode cX7_whom 118 = .ok (.iinc 6 1, 3) := by decide +kernel
theorem dX7_whom_121 : decode cX7_whom 121 = .ok (.goto (-77), 3) := by decide +kernel
theorem dX7_whom_124 : decode cX7_whom 124 = .ok (.iload_n 3, 1) := by decide +kernel
theorem dX7_whom_125 : decode cX7_whom 125 = .ok (.ifCond .ne 8, 3) := by decide +kernel
theorem dX7_whom_128 : decode cX7_whom 128 = .ok (.iload 5, 2) := by decide +kernel
theorem dX7_whom_130 : decode cX7_whom 130 = .ok (.goto 5, 3) := by decide +kernel
theorem dX7_whom_133 : decode cX7_whom 133 = .ok (.iload 4, 2) := by decide +kernel
theorem dX7_whom_135 : decode cX7_whom 135 = .ok (.ireturn, 1) := by decide +kernel
theorem dX7_route_0 : decode cX7_route 0 = .ok (.iload_n 1, 1) := by decide +kernel
theorem dX7_route_1 : decode cX7_route 1 = .ok (.i2l, 1) := by decide +kernel
theorem dX7_route_2 : decode cX7_route 2 = .ok (.lconst 0, 1) := by decide +kernel
theorem dX7_route_3 : decode cX7_route 3 = .ok (.ldc2_w 189, 3) := by decide +kernel
theorem dX7_route_6 : decode cX7_route 6 = .ok (.invokestatic 55, 3) := by decide +kernel
theorem dX7_route_9 : decode cX7_route 9 = .ok (.ifCond .eq 23, 3) := by decide +kernel
theorem dX7_route_12 : decode cX7_route 12 = .ok (.iload_n 2, 1) := by decide +kernel
theorem dX7_route_13 : decode cX7_route 13 = .ok (.ifCond .eq 21, 3) := by decide +kernel
theorem dX7_route_16 : decode cX7_route 16 = .ok (.iload_n 2, 1) := by decide +kernel
theorem dX7_route_17 : decode cX7_route 17 = .ok (.bipush 10, 2) := by decide +kernel
theorem dX7_route_19 : decode cX7_route 19 = .ok (.isub, 1) := by decide +kernel
theorem dX7_route_20 : decode cX7_route 20 = .ok (.i2l, 1) := by decide +kernel
theorem dX7_route_21 : decode cX7_route 21 = .ok (.lconst 0, 1) := by decide +kernel
theorem dX7_route_22 : decode cX7_route 22 = .ok (.iload_n 1, 1) := by decide +kernel
theorem dX7_route_23 : decode cX7_route 23 = .ok (.iconst 1, 1) := by decide +kernel
theorem dX7_route_24 : decode cX7_route 24 = .ok (.isub, 1) := by decide +kernel
theorem dX7_route_25 : decode cX7_route 25 = .ok (.i2l, 1) := by decide +kernel
theorem dX7_route_26 : decode cX7_route 26 = .ok (.invokestatic 55, 3) := by decide +kernel
theorem dX7_route_29 : decode cX7_route 29 = .ok (.ifCond .ne 5, 3) := by decide +kernel
theorem dX7_route_32 : decode cX7_route 32 = .ok (.iconst (-1), 1) := by decide +kernel
theorem dX7_route_33 : decode cX7_route 33 = .ok (.ireturn, 1) := by decide +kernel
theorem dX7_route_34 : decode cX7_route 34 = .ok (.aload_n 0, 1) := by decide +kernel
theorem dX7_route_35 : decode cX7_route 35 = .ok (.getfield 7, 3) := by decide +kernel
theorem dX7_route_38 : decode cX7_route 38 = .ok (.bipush 24, 2) := by decide +kernel
theorem dX7_route_40 : decode cX7_route 40 = .ok (.iaload, 1) := by decide +kernel
theorem dX7_route_41 : decode cX7_route 41 = .ok (.iconst 1, 1) := by decide +kernel
theorem dX7_route_42 : decode cX7_route 42 = .ok (.iadd, 1) := by decide +kernel
theorem dX7_route_43 : decode cX7_route 43 = .ok (.istore_n 3, 1) := by decide +kernel
theorem dX7_route_44 : decode cX7_route 44 = .ok (.iconst 1, 1) := by decide +kernel
theorem dX7_route_45 : decode cX7_route 45 = .ok (.istore 4, 2) := by decide +kernel
theorem dX7_route_47 : decode cX7_route 47 = .ok (.iconst 0, 1) := by decide +kernel
theorem dX7_route_48 : decode cX7_route 48 = .ok (.istore 5, 2) := by decide +kernel
theorem dX7_route_50 : decode cX7_route 50 = .ok (.iload 5, 2) := by decide +kernel
theorem dX7_route_52 : decode cX7_route 52 = .ok (.iload_n 1, 1) := by decide +kernel
theorem dX7_route_53 : decode cX7_route 53 = .ok (.if_icmp .ge 15, 3) := by decide +kernel
theorem dX7_route_56 : decode cX7_route 56 = .ok (.iload 4, 2) := by decide +kernel
theorem dX7_route_58 : decode cX7_route 58 = .ok (.iload_n 3, 1) := by decide +kernel
theorem dX7_route_59 : decode cX7_route 59 = .ok (.imul, 1) := by decide +kernel
theorem dX7_route_60 : decode cX7_route 60 = .ok (.istore 4, 2) := by decide +kernel
theorem dX7_route_62 : decode cX7_route 62 = .ok (.iinc 5 1, 3) := by decide +kernel
theorem dX7_route_65 : decode cX7_route 65 = .ok (.goto (-15), 3) := by decide +kernel
theorem dX7_route_68 : decode cX7_route 68 = .ok (.iconst (-1), 1) := by decide +kernel
theorem dX7_route_69 : decode cX7_route 69 = .ok (.istore 5, 2) := by decide +kernel
theorem dX7_route_71 : decode cX7_route 71 = .ok (.iconst 0, 1) := by decide +kernel
theorem dX7_route_72 : decode cX7_route 72 = .ok (.istore 6, 2) := by decide +kernel
theorem dX7_route_74 : decode cX7_route 74 = .ok (.iconst 0, 1) := by decide +kernel
theorem dX7_route_75 : decode cX7_route 75 = .ok (.istore 7, 2) := by decide +kernel
theorem dX7_route_77 : decode cX7_route 77 = .ok (.iload 7, 2) := by decide +kernel
theorem dX7_route_79 : decode cX7_route 79 = .ok (.iload 4, 2) := by decide +kernel
theorem dX7_route_81 : decode cX7_route 81 = .ok (.if_icmp .ge 110, 3) := by decide +kernel
theorem dX7_route_84 : decode cX7_route 84 = .ok (.iload 4, 2) := by decide +kernel
theorem dX7_route_86 : decode cX7_route 86 = .ok (.istore 8, 2) := by decide +kernel
theorem dX7_route_88 : decode cX7_route 88 = .ok (.iconst 0, 1) := by decide +kernel
theorem dX7_route_89 : decode cX7_route 89 = .ok (.istore 9, 2) := by decide +kernel
theorem dX7_route_91 : decode cX7_route 91 = .ok (.aload_n 0, 1) := by decide +kernel
theorem dX7_route_92 : decode cX7_route 92 = .ok (.iconst 0, 1) := by decide +kernel
theorem dX7_route_93 : decode cX7_route 93 = .ok (.sipush 212, 3) := by decide +kernel
theorem dX7_route_96 : decode cX7_route 96 = .ok (.invokevirtual 205, 3) := by decide +kernel
theorem dX7_route_99 : decode cX7_route 99 = .ok (.iconst 0, 1) := by decide +kernel
theorem dX7_route_100 : decode cX7_route 100 = .ok (.istore 10, 2) := by decide +kernel
theorem dX7_route_102 : decode cX7_route 102 = .ok (.iload 10, 2) := by decide +kernel
theorem dX7_route_104 : decode cX7_route 104 = .ok (.iload_n 1, 1) := by decide +kernel
theorem dX7_route_105 : decode cX7_route 105 = .ok (.if_icmp .ge 48, 3) := by decide +kernel
theorem dX7_route_108 : decode cX7_route 108 = .ok (.iload 8, 2) := by decide +kernel
theorem dX7_route_110 : decode cX7_route 110 = .ok (.iload_n 3, 1) := by decide +kernel
theorem dX7_route_111 : decode cX7_route 111 = .ok (.idiv, 1) := by decide +kernel
theorem dX7_route_112 : decode cX7_route 112 = .ok (.istore 8, 2) := by decide +kernel
theorem dX7_route_114 : decode cX7_route 114 = .ok (.iload 9, 2) := by decide +kernel
theorem dX7_route_116 : decode cX7_route 116 = .ok (.aload_n 0, 1) := by decide +kernel
theorem dX7_route_117 : decode cX7_route 117 = .ok (.sipush 212, 3) := by decide +kernel
theorem dX7_route_120 : decode cX7_route 120 = .ok (.aload_n 0, 1) := by decide +kernel
theorem dX7_route_121 : decode cX7_route 121 = .ok (.sipush 212, 3) := by decide +kernel
theorem dX7_route_124 : decode cX7_route 124 = .ok (.invokevirtual 148, 3) := by decide +kernel
theorem dX7_route_127 : decode cX7_route 127 = .ok (.aload_n 0, 1) := by decide +kernel
theorem dX7_route_128 : decode cX7_route 128 = .ok (.iload 7, 2) := by decide +kernel
theorem dX7_route_130 : decode cX7_route 130 = .ok (.iload 8, 2) := by decide +kernel
theorem dX7_route_132 : decode cX7_route 132 = .ok (.idiv, 1) := by decide +kernel
theorem dX7_route_133 : decode cX7_route 133 = .ok (.iload_n 3, 1) := by decide +kernel
theorem dX7_route_134 : decode cX7_route 134 = .ok (.irem, 1) := by decide +kernel
theorem dX7_route_135 : decode cX7_route 135 = .ok (.invokevirtual 229, 3) := by decide +kernel
theorem dX7_route_138 : decode cX7_route 138 = .ok (.invokevirtual 154, 3) := by decide +kernel
theorem dX7_route_141 : decode cX7_route 141 = .ok (.invokestatic 199, 3) := by decide +kernel
theorem dX7_route_144 : decode cX7_route 144 = .ok (.iadd, 1) := by decide +kernel
theorem dX7_route_145 : decode cX7_route 145 = .ok (.istore 9, 2) := by decide +kernel
theorem dX7_route_147 : decode cX7_route 147 = .ok (.iinc 10 1, 3) := by decide +kernel
theorem dX7_route_150 : decode cX7_route 150 = .ok (.goto (-48), 3) := by decide +kernel
theorem dX7_route_153 : decode cX7_route 153 = .ok (.iload 9, 2) := by decide +kernel
theorem dX7_route_155 : decode cX7_route 155 = .ok (.iload 5, 2) := by decide +kernel
theorem dX7_route_157 : decode cX7_route 157 = .ok (.if_icmp .le 8, 3) := by decide +kernel
theorem dX7_route_160 : decode cX7_route 160 = .ok (.iload 7, 2) := by decide +kernel
theorem dX7_route_162 : decode cX7_route 162 = .ok (.goto 5, 3) := by decide +kernel
theorem dX7_route_165 : decode cX7_route 165 = .ok (.iload 6, 2) := by decide +kernel
theorem dX7_route_167 : decode cX7_route 167 = .ok (.istore 6, 2) := by decide +kernel
theorem dX7_route_169 : decode cX7_route 169 = .ok (.iload 9, 2) := by decide +kernel
theorem dX7_route_171 : decode cX7_route 171 = .ok (.iload 5, 2) := by decide +kernel
theorem dX7_route_173 : decode cX7_route 173 = .ok (.if_icmp .le 8, 3) := by decide +kernel
theorem dX7_route_176 : decode cX7_route 176 = .ok (.iload 9, 2) := by decide +kernel
theorem dX7_route_178 : decode cX7_route 178 = .ok (.goto 5, 3) := by decide +kernel
theorem dX7_route_181 : decode cX7_route 181 = .ok (.iload 5, 2) := by decide +kernel
theorem dX7_route_183 : decode cX7_route 183 = .ok (.istore 5, 2) := by decide +kernel
theorem dX7_route_185 : decode cX7_route 185 = .ok (.iinc 7 1, 3) := by decide +kernel
theorem dX7_route_188 : decode cX7_route 188 = .ok (.goto (-111), 3) := by decide +kernel
theorem dX7_route_191 : decode cX7_route 191 = .ok (.iload_n 1, 1) := by decide +kernel
theorem dX7_route_192 : decode cX7_route 192 = .ok (.iconst 1, 1) := by decide +kernel
theorem dX7_route_193 : decode cX7_route 193 = .ok (.isub, 1) := by decide +kernel
theorem dX7_route_194 : decode cX7_route 194 = .ok (.istore 7, 2) := by decide +kernel
theorem dX7_route_196 : decode cX7_route 196 = .ok (.iload 7, 2) := by decide +kernel
theorem dX7_route_198 : decode cX7_route 198 = .ok (.iload_n 2, 1) := by decide +kernel
theorem dX7_route_199 : decode cX7_route 199 = .ok (.bipush 10, 2) := by decide +kernel
theorem dX7_route_201 : decode cX7_route 201 = .ok (.isub, 1) := by decide +kernel
theorem dX7_route_202 : decode cX7_route 202 = .ok (.if_icmp .le 19, 3) := by decide +kernel
theorem dX7_route_205 : decode cX7_route 205 = .ok (.iload_n 2, 1) := by decide +kernel
theorem dX7_route_206 : decode cX7_route 206 = .ok (.ifCond .le 15, 3) := by decide +kernel
theorem dX7_route_209 : decode cX7_route 209 = .ok (.iload 6, 2) := by decide +kernel
theorem dX7_route_211 : decode cX7_route 211 = .ok (.iload_n 3, 1) := by decide +kernel
theorem dX7_route_212 : decode cX7_route 212 = .ok (.idiv, 1) := by decide +kernel
theorem dX7_route_213 : decode cX7_route 213 = .ok (.istore 6, 2) := by decide +kernel
theorem dX7_route_215 : decode cX7_route 215 = .ok (.iinc 7 (-1), 3) := by decide +kernel
theorem dX7_route_218 : decode cX7_route 218 = .ok (.goto (-22), 3) := by decide +kernel
theorem dX7_route_221 : decode cX7_route 221 = .ok (.iload_n 2, 1) := by decide +kernel
theorem dX7_route_222 : decode cX7_route 222 = .ok (.ifCond .ne 8, 3) := by decide +kernel
theorem dX7_route_225 : decode cX7_route 225 = .ok (.iload 5, 2) := by decide +kernel
theorem dX7_route_227 : decode cX7_route 227 = .ok (.goto 11, 3) := by decide +kernel
theorem dX7_route_230 : decode cX7_route 230 = .ok (.aload_n 0, 1) := by decide +kernel
theorem dX7_route_231 : decode cX7_route 231 = .ok (.iload 6, 2) := by decide +kernel
theorem dX7_route_233 : decode cX7_route 233 = .ok (.iload_n 3, 1) := by decide +kernel
theorem dX7_route_234 : decode cX7_route 234 = .ok (.irem, 1) := by decide +kernel
theorem dX7_route_235 : decode cX7_route 235 = .ok (.invokevirtual 229, 3) := by decide +kernel
theorem dX7_route_238 : decode cX7_route 238 = .ok (.ireturn, 1) := by decide +kernel
theorem dX7_swap_0 : decode cX7_swap 0 = .ok (.iload_n 1, 1) := by decide +kernel
theorem dX7_swap_1 : decode cX7_swap 1 = .ok (.invokestatic 218, 3) := by decide +kernel
theorem dX7_swap_4 : decode cX7_swap 4 = .ok (.ifCond .eq 13, 3) := by decide +kernel
theorem dX7_swap_7 : decode cX7_swap 7 = .ok (.iload_n 2, 1) := by decide +kernel
theorem dX7_swap_8 : decode cX7_swap 8 = .ok (.i2l, 1) := by decide +kernel
theorem dX7_swap_9 : decode cX7_swap 9 = .ok (.lconst 0, 1) := by decide +kernel
theorem dX7_swap_10 : decode cX7_swap 10 = .ok (.lconst 1, 1) := by decide +kernel
theorem dX7_swap_11 : decode cX7_swap 11 = .ok (.invokestatic 55, 3) := by decide +kernel
theorem dX7_swap_14 : decode cX7_swap 14 = .ok (.ifCond .ne 5, 3) := by decide +kernel
theorem dX7_swap_17 : decode cX7_swap 17 = .ok (.iconst (-1), 1) := by decide +kernel
theorem dX7_swap_18 : decode cX7_swap 18 = .ok (.ireturn, 1) := by decide +kernel
theorem dX7_swap_19 : decode cX7_swap 19 = .ok (.aload_n 0, 1) := by decide +kernel
theorem dX7_swap_20 : decode cX7_swap 20 = .ok (.iconst 0, 1) := by decide +kernel
theorem dX7_swap_21 : decode cX7_swap 21 = .ok (.iload_n 1, 1) := by decide +kernel
theorem dX7_swap_22 : decode cX7_swap 22 = .ok (.invokevirtual 221, 3) := by decide +kernel
theorem dX7_swap_25 : decode cX7_swap 25 = .ok (.pop, 1) := by decide +kernel
theorem dX7_swap_26 : decode cX7_swap 26 = .ok (.aload_n 0, 1) := by decide +kernel
theorem dX7_swap_27 : decode cX7_swap 27 = .ok (.getfield 209, 3) := by decide +kernel
theorem dX7_swap_30 : decode cX7_swap 30 = .ok (.istore_n 3, 1) := by decide +kernel
theorem dX7_swap_31 : decode cX7_swap 31 = .ok (.bipush (-4), 2) := by decide +kernel
theorem dX7_swap_33 : decode cX7_swap 33 = .ok (.istore 4, 2) := by decide +kernel
theorem dX7_swap_35 : decode cX7_swap 35 = .ok (.iconst 0, 1) := by decide +kernel
theorem dX7_swap_36 : decode cX7_swap 36 = .ok (.istore 5, 2) := by decide +kernel
theorem dX7_swap_38 : decode cX7_swap 38 = .ok (.iload 5, 2) := by decide +kernel
theorem dX7_swap_40 : decode cX7_swap 40 = .ok (.aload_n 0, 1) := by decide +kernel
theorem dX7_swap_41 : decode cX7_swap 41 = .ok (.getfield 7, 3) := by decide +kernel
theorem dX7_swap_44 : decode cX7_swap 44 = .ok (.bipush 49, 2) := by decide +kernel
theorem dX7_swap_46 : decode cX7_swap 46 = .ok (.iaload, 1) := by decide +kernel
theorem dX7_swap_47 : decode cX7_swap 47 = .ok (.if_icmp .ge 174, 3) := by decide +kernel
theorem dX7_swap_50 : decode cX7_swap 50 = .ok (.iload 5, 2) := by decide +kernel
theorem dX7_swap_52 : decode cX7_swap 52 = .ok (.iconst 1, 1) := by decide +kernel
theorem dX7_swap_53 : decode cX7_swap 53 = .ok (.iadd, 1) := by decide +kernel
theorem dX7_swap_54 : decode cX7_swap 54 = .ok (.istore 6, 2) := by decide +kernel
theorem dX7_swap_56 : decode cX7_swap 56 = .ok (.iload 6, 2) := by decide +kernel
theorem dX7_swap_58 : decode cX7_swap 58 = .ok (.aload_n 0, 1) := by decide +kernel
theorem dX7_swap_59 : decode cX7_swap 59 = .ok (.getfield 7, 3) := by decide +kernel
theorem dX7_swap_62 : decode cX7_swap 62 = .ok (.bipush 49, 2) := by decide +kernel
theorem dX7_swap_64 : decode cX7_swap 64 = .ok (.iaload, 1) := by decide +kernel
theorem dX7_swap_65 : decode cX7_swap 65 = .ok (.if_icmp .ge 150, 3) := by decide +kernel
theorem dX7_swap_68 : decode cX7_swap 68 = .ok (.aload_n 0, 1) := by decide +kernel
theorem dX7_swap_69 : decode cX7_swap 69 = .ok (.iconst 0, 1) := by decide +kernel
theorem dX7_swap_70 : decode cX7_swap 70 = .ok (.sipush 265, 3) := by decide +kernel
theorem dX7_swap_73 : decode cX7_swap 73 = .ok (.invokevirtual 205, 3) := by decide +kernel
theorem dX7_swap_76 : decode cX7_swap 76 = .ok (.aload_n 0, 1) := by decide +kernel
theorem dX7_swap_77 : decode cX7_swap 77 = .ok (.getfield 7, 3) := by decide +kernel
theorem dX7_swap_80 : decode cX7_swap 80 = .ok (.sipush 290, 3) := by decide +kernel
theorem dX7_swap_83 : decode cX7_swap 83 = .ok (.iload 5, 2) := by decide +kernel
theorem dX7_swap_85 : decode cX7_swap 85 = .ok (.iadd, 1) := by decide +kernel
theorem dX7_swap_86 : decode cX7_swap 86 = .ok (.aload_n 0, 1) := by decide +kernel
theorem dX7_swap_87 : decode cX7_swap 87 = .ok (.getfield 7, 3) := by decide +kernel
theorem dX7_swap_90 : decode cX7_swap 90 = .ok (.bipush 25, 2) := by decide +kernel
theorem dX7_swap_92 : decode cX7_swap 92 = .ok (.iload 6, 2) := by decide +kernel
theorem dX7_swap_94 : decode cX7_swap 94 = .ok (.iadd, 1) := by decide +kernel
theorem dX7_swap_95 : decode cX7_swap 95 = .ok (.iaload, 1) := by decide +kernel
theorem dX7_swap_96 : decode cX7_swap 96 = .ok (.iastore, 1) := by decide +kernel
theorem dX7_swap_97 : decode cX7_swap 97 = .ok (.aload_n 0, 1) := by decide +kernel
theorem dX7_swap_98 : decode cX7_swap 98 = .ok (.getfield 7, 3) := by decide +kernel
theorem dX7_swap_101 : decode cX7_swap 101 = .ok (.sipush 290, 3) := by decide +kernel
theorem dX7_swap_104 : decode cX7_swap 104 = .ok (.iload 6, 2) := by decide +kernel
theorem dX7_swap_106 : decode cX7_swap 106 = .ok (.iadd, 1) := by decide +kernel
theorem dX7_swap_107 : decode cX7_swap 107 = .ok (.aload_n 0, 1) := by decide +kernel
theorem dX7_swap_108 : decode cX7_swap 108 = .ok (.getfield 7, 3) := by decide +kernel
theorem dX7_swap_111 : decode cX7_swap 111 = .ok (.bipush 25, 2) := by decide +kernel
theorem dX7_swap_113 : decode cX7_swap 113 = .ok (.iload 5, 2) := by decide +kernel
theorem dX7_swap_115 : decode cX7_swap 115 = .ok (.iadd, 1) := by decide +kernel
theorem dX7_swap_116 : decode cX7_swap 116 = .ok (.iaload, 1) := by decide +kernel
theorem dX7_swap_117 : decode cX7_swap 117 = .ok (.iastore, 1) := by decide +kernel
theorem dX7_swap_118 : decode cX7_swap 118 = .ok (.aload_n 0, 1) := by decide +kernel
theorem dX7_swap_119 : decode cX7_swap 119 = .ok (.getfield 7, 3) := by decide +kernel
theorem dX7_swap_122 : decode cX7_swap 122 = .ok (.sipush 302, 3) := by decide +kernel
theorem dX7_swap_125 : decode cX7_swap 125 = .ok (.iload 5, 2) := by decide +kernel
theorem dX7_swap_127 : decode cX7_swap 127 = .ok (.iadd, 1) := by decide +kernel
theorem dX7_swap_128 : decode cX7_swap 128 = .ok (.aload_n 0, 1) := by decide +kernel
theorem dX7_swap_129 : decode cX7_swap 129 = .ok (.getfield 7, 3) := by decide +kernel
theorem dX7_swap_132 : decode cX7_swap 132 = .ok (.bipush 37, 2) := by decide +kernel
theorem dX7_swap_134 : decode cX7_swap 134 = .ok (.iload 6, 2) := by decide +kernel
theorem dX7_swap_136 : decode cX7_swap 136 = .ok (.iadd, 1) := by decide +kernel
theorem dX7_swap_137 : decode cX7_swap 137 = .ok (.iaload, 1) := by decide +kernel
theorem dX7_swap_138 : decode cX7_swap 138 = .ok (.iastore, 1) := by decide +kernel
theorem dX7_swap_139 : decode cX7_swap 139 = .ok (.aload_n 0, 1) := by decide +kernel
theorem dX7_swap_140 : decode cX7_swap 140 = .ok (.getfield 7, 3) := by decide +kernel
theorem dX7_swap_143 : decode cX7_swap 143 = .ok (.sipush 302, 3) := by decide +kernel
theorem dX7_swap_146 : decode cX7_swap 146 = .ok (.iload 6, 2) := by decide +kernel
theorem dX7_swap_148 : decode cX7_swap 148 = .ok (.iadd, 1) := by decide +kernel
theorem dX7_swap_149 : decode cX7_swap 149 = .ok (.aload_n 0, 1) := by decide +kernel
theorem dX7_swap_150 : decode cX7_swap 150 = .ok (.getfield 7, 3) := by decide +kernel
theorem dX7_swap_153 : decode cX7_swap 153 = .ok (.bipush 37, 2) := by decide +kernel
theorem dX7_swap_155 : decode cX7_swap 155 = .ok (.iload 5, 2) := by decide +kernel
theorem dX7_swap_157 : decode cX7_swap 157 = .ok (.iadd, 1) := by decide +kernel
theorem dX7_swap_158 : decode cX7_swap 158 = .ok (.iaload, 1) := by decide +kernel
theorem dX7_swap_159 : decode cX7_swap 159 = .ok (.iastore, 1) := by decide +kernel
theorem dX7_swap_160 : decode cX7_swap 160 = .ok (.aload_n 0, 1) := by decide +kernel
theorem dX7_swap_161 : decode cX7_swap 161 = .ok (.sipush 265, 3) := by decide +kernel
theorem dX7_swap_164 : decode cX7_swap 164 = .ok (.iload_n 1, 1) := by decide +kernel
theorem dX7_swap_165 : decode cX7_swap 165 = .ok (.invokevirtual 221, 3) := by decide +kernel
theorem dX7_swap_168 : decode cX7_swap 168 = .ok (.pop, 1) := by decide +kernel
theorem dX7_swap_169 : decode cX7_swap 169 = .ok (.aload_n 0, 1) := by decide +kernel
theorem dX7_swap_170 : decode cX7_swap 170 = .ok (.getfield 209, 3) := by decide +kernel
theorem dX7_swap_173 : decode cX7_swap 173 = .ok (.iload_n 3, 1) := by decide +kernel
theorem dX7_swap_174 : decode cX7_swap 174 = .ok (.if_icmp .le 14, 3) := by decide +kernel
theorem dX7_swap_177 : decode cX7_swap 177 = .ok (.bipush 100, 2) := by decide +kernel
theorem dX7_swap_179 : decode cX7_swap 179 = .ok (.iload 5, 2) := by decide +kernel
theorem dX7_swap_181 : decode cX7_swap 181 = .ok (.imul, 1) := by decide +kernel
theorem dX7_swap_182 : decode cX7_swap 182 = .ok (.iload 6, 2) := by decide +kernel
theorem dX7_swap_184 : decode cX7_swap 184 = .ok (.iadd, 1) := by decide +kernel
theorem dX7_swap_185 : decode cX7_swap 185 = .ok (.goto 5, 3) := by decide +kernel
theorem dX7_swap_188 : decode cX7_swap 188 = .ok (.iload 4, 2) := by decide +kernel
theorem dX7_swap_190 : decode cX7_swap 190 = .ok (.istore 4, 2) := by decide +kernel
theorem dX7_swap_192 : decode cX7_swap 192 = .ok (.aload_n 0, 1) := by decide +kernel
theorem dX7_swap_193 : decode cX7_swap 193 = .ok (.getfield 209, 3) := by decide +kernel
theorem dX7_swap_196 : decode cX7_swap 196 = .ok (.iload_n 3, 1) := by decide +kernel
theorem dX7_swap_197 : decode cX7_swap 197 = .ok (.if_icmp .le 10, 3) := by decide +kernel
theorem dX7_swap_200 : decode cX7_swap 200 = .ok (.aload_n 0, 1) := by decide +kernel
theorem dX7_swap_201 : decode cX7_swap 201 = .ok (.getfield 209, 3) := by decide +kernel
theorem dX7_swap_204 : decode cX7_swap 204 = .ok (.goto 4, 3) := by decide +kernel
theorem dX7_swap_207 : decode cX7_swap 207 = .ok (.iload_n 3, 1) := by decide +kernel
theorem dX7_swap_208 : decode cX7_swap 208 = .ok (.istore_n 3, 1) := by decide +kernel
theorem dX7_swap_209 : decode cX7_swap 209 = .ok (.iinc 6 1, 3) := by decide +kernel
theorem dX7_swap_212 : decode cX7_swap 212 = .ok (.goto (-156), 3) := by decide +kernel
theorem dX7_swap_215 : decode cX7_swap 215 = .ok (.iinc 5 1, 3) := by decide +kernel
theorem dX7_swap_218 : decode cX7_swap 218 = .ok (.goto (-180), 3) := by decide +kernel
theorem dX7_swap_221 : decode cX7_swap 221 = .ok (.iload 4, 2) := by decide +kernel
theorem dX7_swap_223 : decode cX7_swap 223 = .ok (.bipush (-4), 2) := by decide +kernel
theorem dX7_swap_225 : decode cX7_swap 225 = .ok (.if_icmp .eq 7, 3) := by decide +kernel
theorem dX7_swap_228 : decode cX7_swap 228 = .ok (.iload_n 2, 1) := by decide +kernel
theorem dX7_swap_229 : decode cX7_swap 229 = .ok (.ifCond .ne 8, 3) := by decide +kernel
theorem dX7_swap_232 : decode cX7_swap 232 = .ok (.iload 4, 2) := by decide +kernel
theorem dX7_swap_234 : decode cX7_swap 234 = .ok (.goto 4, 3) := by decide +kernel
theorem dX7_swap_237 : decode cX7_swap 237 = .ok (.iload_n 3, 1) := by decide +kernel
theorem dX7_swap_238 : decode cX7_swap 238 = .ok (.ireturn, 1) := by decide +kernel
theorem dX7_bears_0 : decode cX7_bears 0 = .ok (.aload_n 0, 1) := by decide +kernel
theorem dX7_bears_1 : decode cX7_bears 1 = .ok (.iload_n 1, 1) := by decide +kernel
theorem dX7_bears_2 : decode cX7_bears 2 = .ok (.invokevirtual 166, 3) := by decide +kernel
theorem dX7_bears_5 : decode cX7_bears 5 = .ok (.ifCond .eq 10, 3) := by decide +kernel
theorem dX7_bears_8 : decode cX7_bears 8 = .ok (.iload_n 2, 1) := by decide +kernel
theorem dX7_bears_9 : decode cX7_bears 9 = .ok (.invokestatic 218, 3) := by decide +kernel
theorem dX7_bears_12 : decode cX7_bears 12 = .ok (.ifCond .ne 5, 3) := by decide +kernel
theorem dX7_bears_15 : decode cX7_bears 15 = .ok (.iconst (-1), 1) := by decide +kernel
theorem dX7_bears_16 : decode cX7_bears 16 = .ok (.ireturn, 1) := by decide +kernel
theorem dX7_bears_17 : decode cX7_bears 17 = .ok (.aload_n 0, 1) := by decide +kernel
theorem dX7_bears_18 : decode cX7_bears 18 = .ok (.iconst 0, 1) := by decide +kernel
theorem dX7_bears_19 : decode cX7_bears 19 = .ok (.sipush 265, 3) := by decide +kernel
theorem dX7_bears_22 : decode cX7_bears 22 = .ok (.invokevirtual 205, 3) := by decide +kernel
theorem dX7_bears_25 : decode cX7_bears 25 = .ok (.aload_n 0, 1) := by decide +kernel
theorem dX7_bears_26 : decode cX7_bears 26 = .ok (.getfield 7, 3) := by decide +kernel
theorem dX7_bears_29 : decode cX7_bears 29 = .ok (.sipush 290, 3) := by decide +kernel
theorem dX7_bears_32 : decode cX7_bears 32 = .ok (.iload_n 1, 1) := by decide +kernel
theorem dX7_bears_33 : decode cX7_bears 33 = .ok (.iadd, 1) := by decide +kernel
theorem dX7_bears_34 : decode cX7_bears 34 = .ok (.iconst 0, 1) := by decide +kernel
theorem dX7_bears_35 : decode cX7_bears 35 = .ok (.iastore, 1) := by decide +kernel
theorem dX7_bears_36 : decode cX7_bears 36 = .ok (.aload_n 0, 1) := by decide +kernel
theorem dX7_bears_37 : decode cX7_bears 37 = .ok (.sipush 265, 3) := by decide +kernel
theorem dX7_bears_40 : decode cX7_bears 40 = .ok (.iload_n 2, 1) := by decide +kernel
theorem dX7_bears_41 : decode cX7_bears 41 = .ok (.invokevirtual 221, 3) := by decide +kernel
theorem dX7_bears_44 : decode cX7_bears 44 = .ok (.istore_n 3, 1) := by decide +kernel
theorem dX7_bears_45 : decode cX7_bears 45 = .ok (.iconst 0, 1) := by decide +kernel
theorem dX7_bears_46 : decode cX7_bears 46 = .ok (.istore 4, 2) := by decide +kernel
theorem dX7_bears_48 : decode cX7_bears 48 = .ok (.iconst 1, 1) := by decide +kernel
theorem dX7_bears_49 : decode cX7_bears 49 = .ok (.istore 5, 2) := by decide +kernel
theorem dX7_bears_51 : decode cX7_bears 51 = .ok (.iload 5, 2) := by decide +kernel
theorem dX7_bears_53 : decode cX7_bears 53 = .ok (.bipush 9, 2) := by decide +kernel
theorem dX7_bears_55 : decode cX7_bears 55 = .ok (.if_icmp .gt 42, 3) := by decide +kernel
theorem dX7_bears_58 : decode cX7_bears 58 = .ok (.aload_n 0, 1) := by decide +kernel
theorem dX7_bears_59 : decode cX7_bears 59 = .ok (.getfield 7, 3) := by decide +kernel
theorem dX7_bears_62 : decode cX7_bears 62 = .ok (.sipush 290, 3) := by decide +kernel
theorem dX7_bears_65 : decode cX7_bears 65 = .ok (.iload_n 1, 1) := by decide +kernel
theorem dX7_bears_66 : decode cX7_bears 66 = .ok (.iadd, 1) := by decide +kernel
theorem dX7_bears_67 : decode cX7_bears 67 = .ok (.iload 5, 2) := by decide +kernel
theorem dX7_bears_69 : decode cX7_bears 69 = .ok (.iastore, 1) := by decide +kernel
theorem dX7_bears_70 : decode cX7_bears 70 = .ok (.aload_n 0, 1) := by decide +kernel
theorem dX7_bears_71 : decode cX7_bears 71 = .ok (.sipush 265, 3) := by decide +kernel
theorem dX7_bears_74 : decode cX7_bears 74 = .ok (.iload_n 2, 1) := by decide +kernel
theorem dX7_bears_75 : decode cX7_bears 75 = .ok (.invokevirtual 221, 3) := by decide +kernel
theorem dX7_bears_78 : decode cX7_bears 78 = .ok (.iload_n 3, 1) := by decide +kernel
theorem dX7_bears_79 : decode cX7_bears 79 = .ok (.if_icmp .lt 8, 3) := by decide +kernel
theorem dX7_bears_82 : decode cX7_bears 82 = .ok (.iload 5, 2) := by decide +kernel
theorem dX7_bears_84 : decode cX7_bears 84 = .ok (.goto 5, 3) := by decide +kernel
theorem dX7_bears_87 : decode cX7_bears 87 = .ok (.iload 4, 2) := by decide +kernel
theorem dX7_bears_89 : decode cX7_bears 89 = .ok (.istore 4, 2) := by decide +kernel
theorem dX7_bears_91 : decode cX7_bears 91 = .ok (.iinc 5 1, 3) := by decide +kernel
theorem dX7_bears_94 : decode cX7_bears 94 = .ok (.goto (-43), 3) := by decide +kernel
theorem dX7_bears_97 : decode cX7_bears 97 = .ok (.iload 4, 2) := by decide +kernel
theorem dX7_bears_99 : decode cX7_bears 99 = .ok (.ireturn, 1) := by decide +kernel
theorem dX7_flow_0 : decode cX7_flow 0 = .ok (.aload_n 0, 1) := by decide +kernel
theorem dX7_flow_1 : decode cX7_flow 1 = .ok (.iload_n 1, 1) := by decide +kernel
theorem dX7_flow_2 : decode cX7_flow 2 = .ok (.invokevirtual 160, 3) := by decide +kernel
theorem dX7_flow_5 : decode cX7_flow 5 = .ok (.ifCond .eq 22, 3) := by decide +kernel
theorem dX7_flow_8 : decode cX7_flow 8 = .ok (.iload_n 2, 1) := by decide +kernel
theorem dX7_flow_9 : decode cX7_flow 9 = .ok (.invokestatic 218, 3) := by decide +kernel
theorem dX7_flow_12 : decode cX7_flow 12 = .ok (.ifCond .eq 15, 3) := by decide +kernel
theorem dX7_flow_15 : decode cX7_flow 15 = .ok (.iload_n 3, 1) := by decide +kernel
theorem dX7_flow_16 : decode cX7_flow 16 = .ok (.i2l, 1) := by decide +kernel
theorem dX7_flow_17 : decode cX7_flow 17 = .ok (.lconst 0, 1) := by decide +kernel
theorem dX7_flow_18 : decode cX7_flow 18 = .ok (.ldc2_w 177, 3) := by decide +kernel
theorem dX7_flow_21 : decode cX7_flow 21 = .ok (.invokestatic 55, 3) := by decide +kernel
theorem dX7_flow_24 : decode cX7_flow 24 = .ok (.ifCond .ne 5, 3) := by decide +kernel
theorem dX7_flow_27 : decode cX7_flow 27 = .ok (.iconst (-1), 1) := by decide +kernel
theorem dX7_flow_28 : decode cX7_flow 28 = .ok (.ireturn, 1) := by decide +kernel
theorem dX7_flow_29 : decode cX7_flow 29 = .ok (.aload_n 0, 1) := by decide +kernel
theorem dX7_flow_30 : decode cX7_flow 30 = .ok (.iconst 0, 1) := by decide +kernel
theorem dX7_flow_31 : decode cX7_flow 31 = .ok (.sipush 265, 3) := by decide +kernel
theorem dX7_flow_34 : decode cX7_flow 34 = .ok (.invokevirtual 205, 3) := by decide +kernel
theorem dX7_flow_37 : decode cX7_flow 37 = .ok (.iconst 0, 1) := by decide +kernel
theorem dX7_flow_38 : decode cX7_flow 38 = .ok (.istore 4, 2) := by decide +kernel
theorem dX7_flow_40 : decode cX7_flow 40 = .ok (.iload 4, 2) := by decide +kernel
theorem dX7_flow_42 : decode cX7_flow 42 = .ok (.bipush 40, 2) := by decide +kernel
theorem dX7_flow_44 : decode cX7_flow 44 = .ok (.if_icmp .gt 43, 3) := by decide +kernel
theorem dX7_flow_47 : decode cX7_flow 47 = .ok (.aload_n 0, 1) := by decide +kernel
theorem dX7_flow_48 : decode cX7_flow 48 = .ok (.getfield 7, 3) := by decide +kernel
theorem dX7_flow_51 : decode cX7_flow 51 = .ok (.sipush 315, 3) := by decide +kernel
theorem dX7_flow_54 : decode cX7_flow 54 = .ok (.iload 4, 2) := by decide +kernel
theorem dX7_flow_56 : decode cX7_flow 56 = .ok (.bipush 8, 2) := by decide +kernel
theorem dX7_flow_58 : decode cX7_flow 58 = .ok (.isub, 1) := by decide +kernel
theorem dX7_flow_59 : decode cX7_flow 59 = .ok (.iastore, 1) := by decide +kernel
theorem dX7_flow_60 : decode cX7_flow 60 = .ok (.aload_n 0, 1) := by decide +kernel
theorem dX7_flow_61 : decode cX7_flow 61 = .ok (.sipush 265, 3) := by decide +kernel
theorem dX7_flow_64 : decode cX7_flow 64 = .ok (.iload_n 2, 1) := by decide +kernel
theorem dX7_flow_65 : decode cX7_flow 65 = .ok (.invokevirtual 221, 3) := by decide +kernel
theorem dX7_flow_68 : decode cX7_flow 68 = .ok (.pop, 1) := by decide +kernel
theorem dX7_flow_69 : decode cX7_flow 69 = .ok (.aload_n 0, 1) := by decide +kernel
theorem dX7_flow_70 : decode cX7_flow 70 = .ok (.iload_n 1, 1) := by decide +kernel
theorem dX7_flow_71 : decode cX7_flow 71 = .ok (.invokevirtual 226, 3) := by decide +kernel
theorem dX7_flow_74 : decode cX7_flow 74 = .ok (.iload_n 3, 1) := by decide +kernel
theorem dX7_flow_75 : decode cX7_flow 75 = .ok (.if_icmp .lt 6, 3) := by decide +kernel
theorem dX7_flow_78 : decode cX7_flow 78 = .ok (.iload 4, 2) := by decide +kernel
theorem dX7_flow_80 : decode cX7_flow 80 = .ok (.ireturn, 1) := by decide +kernel
theorem dX7_flow_81 : decode cX7_flow 81 = .ok (.iinc 4 1, 3) := by decide +kernel
theorem dX7_flow_84 : decode cX7_flow 84 = .ok (.goto (-44), 3) := by decide +kernel
theorem dX7_flow_87 : decode cX7_flow 87 = .ok (.bipush (-4), 2) := by decide +kernel
theorem dX7_flow_89 : decode cX7_flow 89 = .ok (.ireturn, 1) := by decide +kernel
theorem dX7_kind_0 : decode cX7_kind 0 = .ok (.aload_n 0, 1) := by decide +kernel
theorem dX7_kind_1 : decode cX7_kind 1 = .ok (.iload_n 1, 1) := by decide +kernel
theorem dX7_kind_2 : decode cX7_kind 2 = .ok (.invokevirtual 160, 3) := by decide +kernel
theorem dX7_kind_5 : decode cX7_kind 5 = .ok (.ifCond .eq 20, 3) := by decide +kernel
theorem dX7_kind_8 : decode cX7_kind 8 = .ok (.iload_n 2, 1) := by decide +kernel
theorem dX7_kind_9 : decode cX7_kind 9 = .ok (.invokestatic 218, 3) := by decide +kernel
theorem dX7_kind_12 : decode cX7_kind 12 = .ok (.ifCond .eq 13, 3) := by decide +kernel
theorem dX7_kind_15 : decode cX7_kind 15 = .ok (.iload_n 3, 1) := by decide +kernel
theorem dX7_kind_16 : decode cX7_kind 16 = .ok (.i2l, 1) := by decide +kernel
theorem dX7_kind_17 : decode cX7_kind 17 = .ok (.lconst 0, 1) := by decide +kernel
theorem dX7_kind_18 : decode cX7_kind 18 = .ok (.lconst 1, 1) := by decide +kernel
theorem dX7_kind_19 : decode cX7_kind 19 = .ok (.invokestatic 55, 3) := by decide +kernel
theorem dX7_kind_22 : decode cX7_kind 22 = .ok (.ifCond .ne 5, 3) := by decide +kernel
theorem dX7_kind_25 : decode cX7_kind 25 = .ok (.iconst (-1), 1) := by decide +kernel
theorem dX7_kind_26 : decode cX7_kind 26 = .ok (.ireturn, 1) := by decide +kernel
theorem dX7_kind_27 : decode cX7_kind 27 = .ok (.iconst (-1), 1) := by decide +kernel
theorem dX7_kind_28 : decode cX7_kind 28 = .ok (.istore 4, 2) := by decide +kernel
theorem dX7_kind_30 : decode cX7_kind 30 = .ok (.iconst 0, 1) := by decide +kernel
theorem dX7_kind_31 : decode cX7_kind 31 = .ok (.istore 5, 2) := by decide +kernel
theorem dX7_kind_33 : decode cX7_kind 33 = .ok (.aload_n 0, 1) := by decide +kernel
theorem dX7_kind_34 : decode cX7_kind 34 = .ok (.iconst 0, 1) := by decide +kernel
theorem dX7_kind_35 : decode cX7_kind 35 = .ok (.sipush 265, 3) := by decide +kernel
theorem dX7_kind_38 : decode cX7_kind 38 = .ok (.invokevirtual 205, 3) := by decide +kernel
theorem dX7_kind_41 : decode cX7_kind 41 = .ok (.iconst 0, 1) := by decide +kernel
theorem dX7_kind_42 : decode cX7_kind 42 = .ok (.istore 6, 2) := by decide +kernel
theorem dX7_kind_44 : decode cX7_kind 44 = .ok (.iload 6, 2) := by decide +kernel
theorem dX7_kind_46 : decode cX7_kind 46 = .ok (.iconst 4, 1) := by decide +kernel
theorem dX7_kind_47 : decode cX7_kind 47 = .ok (.if_icmp .ge 71, 3) := by decide +kernel
theorem dX7_kind_50 : decode cX7_kind 50 = .ok (.aload_n 0, 1) := by decide +kernel
theorem dX7_kind_51 : decode cX7_kind 51 = .ok (.getfield 7, 3) := by decide +kernel
theorem dX7_kind_54 : decode cX7_kind 54 = .ok (.sipush 265, 3) := by decide +kernel
theorem dX7_kind_57 : decode cX7_kind 57 = .ok (.iload_n 1, 1) := by decide +kernel
theorem dX7_kind_58 : decode cX7_kind 58 = .ok (.iadd, 1) := by decide +kernel
theorem dX7_kind_59 : decode cX7_kind 59 = .ok (.iload 6, 2) := by decide +kernel
theorem dX7_kind_61 : decode cX7_kind 61 = .ok (.iastore, 1) := by decide +kernel
theorem dX7_kind_62 : decode cX7_kind 62 = .ok (.aload_n 0, 1) := by decide +kernel
theorem dX7_kind_63 : decode cX7_kind 63 = .ok (.sipush 265, 3) := by decide +kernel
theorem dX7_kind_66 : decode cX7_kind 66 = .ok (.iload_n 2, 1) := by decide +kernel
theorem dX7_kind_67 : decode cX7_kind 67 = .ok (.invokevirtual 221, 3) := by decide +kernel
theorem dX7_kind_70 : decode cX7_kind 70 = .ok (.pop, 1) := by decide +kernel
theorem dX7_kind_71 : decode cX7_kind 71 = .ok (.aload_n 0, 1) := by decide +kernel
theorem dX7_kind_72 : decode cX7_kind 72 = .ok (.iload_n 1, 1) := by decide +kernel
theorem dX7_kind_73 : decode cX7_kind 73 = .ok (.invokevirtual 226, 3) := by decide +kernel
theorem dX7_kind_76 : decode cX7_kind 76 = .ok (.iload 4, 2) := by decide +kernel
theorem dX7_kind_78 : decode cX7_kind 78 = .ok (.if_icmp .le 8, 3) := by decide +kernel
theorem dX7_kind_81 : decode cX7_kind 81 = .ok (.iload 6, 2) := by decide +kernel
theorem dX7_kind_83 : decode cX7_kind 83 = .ok (.goto 5, 3) := by decide +kernel
theorem dX7_kind_86 : decode cX7_kind 86 = .ok (.iload 5, 2) := by decide +kernel
theorem dX7_kind_88 : decode cX7_kind 88 = .ok (.istore 5, 2) := by decide +kernel
theorem dX7_kind_90 : decode cX7_kind 90 = .ok (.aload_n 0, 1) := by decide +kernel
theorem dX7_kind_91 : decode cX7_kind 91 = .ok (.iload_n 1, 1) := by decide +kernel
theorem dX7_kind_92 : decode cX7_kind 92 = .ok (.invokevirtual 226, 3) := by decide +kernel
theorem dX7_kind_95 : decode cX7_kind 95 = .ok (.iload 4, 2) := by decide +kernel
theorem dX7_kind_97 : decode cX7_kind 97 = .ok (.if_icmp .le 11, 3) := by decide +kernel
theorem dX7_kind_100 : decode cX7_kind 100 = .ok (.aload_n 0, 1) := by decide +kernel
theorem dX7_kind_101 : decode cX7_kind 101 = .ok (.iload_n 1, 1) := by decide +kernel
theorem dX7_kind_102 : decode cX7_kind 102 = .ok (.invokevirtual 226, 3) := by decide +kernel
theorem dX7_kind_105 : decode cX7_kind 105 = .ok (.goto 5, 3) := by decide +kernel
theorem dX7_kind_108 : decode cX7_kind 108 = .ok (.iload 4, 2) := by decide +kernel
theorem dX7_kind_110 : decode cX7_kind 110 = .ok (.istore 4, 2) := by decide +kernel
theorem dX7_kind_112 : decode cX7_kind 112 = .ok (.iinc 6 1, 3) := by decide +kernel
theorem dX7_kind_115 : decode cX7_kind 115 = .ok (.goto (-71), 3) := by decide +kernel
theorem dX7_kind_118 : decode cX7_kind 118 = .ok (.iload_n 3, 1) := by decide +kernel
theorem dX7_kind_119 : decode cX7_kind 119 = .ok (.ifCond .ne 8, 3) := by decide +kernel
theorem dX7_kind_122 : decode cX7_kind 122 = .ok (.iload 5, 2) := by decide +kernel
theorem dX7_kind_124 : decode cX7_kind 124 = .ok (.goto 5, 3) := by decide +kernel
theorem dX7_kind_127 : decode cX7_kind 127 = .ok (.iload 4, 2) := by decide +kernel
theorem dX7_kind_129 : decode cX7_kind 129 = .ok (.ireturn, 1) := by decide +kernel
theorem dX7_figuresOf_0 : decode cX7_figuresOf 0 = .ok (.iload_n 1, 1) := by decide +kernel
theorem dX7_figuresOf_1 : decode cX7_figuresOf 1 = .ok (.istore 4, 2) := by decide +kernel
theorem dX7_figuresOf_3 : decode cX7_figuresOf 3 = .ok (.iload_n 3, 1) := by decide +kernel
theorem dX7_figuresOf_4 : decode cX7_figuresOf 4 = .ok (.iconst 1, 1) := by decide +kernel
theorem dX7_figuresOf_5 : decode cX7_figuresOf 5 = .ok (.isub, 1) := by decide +kernel
theorem dX7_figuresOf_6 : decode cX7_figuresOf 6 = .ok (.istore 5, 2) := by decide +kernel
theorem dX7_figuresOf_8 : decode cX7_figuresOf 8 = .ok (.iload 5, 2) := by decide +kernel
theorem dX7_figuresOf_10 : decode cX7_figuresOf 10 = .ok (.ifCond .lt 26, 3) := by decide +kernel
theorem dX7_figuresOf_13 : decode cX7_figuresOf 13 = .ok (.aload_n 0, 1) := by decide +kernel
theorem dX7_figuresOf_14 : decode cX7_figuresOf 14 = .ok (.getfield 31, 3) := by decide +kernel
theorem dX7_figuresOf_17 : decode cX7_figuresOf 17 = .ok (.iload 5, 2) := by decide +kernel
theorem dX7_figuresOf_19 : decode cX7_figuresOf 19 = .ok (.iload 4, 2) := by decide +kernel
theorem dX7_figuresOf_21 : decode cX7_figuresOf 21 = .ok (.iload_n 2, 1) := by decide +kernel
theorem dX7_figuresOf_22 : decode cX7_figuresOf 22 = .ok (.irem, 1) := by decide +kernel
theorem dX7_figuresOf_23 : decode cX7_figuresOf 23 = .ok (.iastore, 1) := by decide +kernel
theorem dX7_figuresOf_24 : decode cX7_figuresOf 24 = .ok (.iload 4, 2) := by decide +kernel
theorem dX7_figuresOf_26 : decode cX7_figuresOf 26 = .ok (.iload_n 2, 1) := by decide +kernel
theorem dX7_figuresOf_27 : decode cX7_figuresOf 27 = .ok (.idiv, 1) := by decide +kernel
theorem dX7_figuresOf_28 : decode cX7_figuresOf 28 = .ok (.istore 4, 2) := by decide +kernel
theorem dX7_figuresOf_30 : decode cX7_figuresOf 30 = .ok (.iinc 5 (-1), 3) := by decide +kernel
theorem dX7_figuresOf_33 : decode cX7_figuresOf 33 = .ok (.goto (-25), 3) := by decide +kernel
theorem dX7_figuresOf_36 : decode cX7_figuresOf 36 = .ok (.return_, 1) := by decide +kernel
theorem dX7_goesBack_0 : decode cX7_goesBack 0 = .ok (.iload_n 1, 1) := by decide +kernel
theorem dX7_goesBack_1 : decode cX7_goesBack 1 = .ok (.istore 4, 2) := by decide +kernel
theorem dX7_goesBack_3 : decode cX7_goesBack 3 = .ok (.iload_n 3, 1) := by decide +kernel
theorem dX7_goesBack_4 : decode cX7_goesBack 4 = .ok (.iconst 1, 1) := by decide +kernel
theorem dX7_goesBack_5 : decode cX7_goesBack 5 = .ok (.isub, 1) := by decide +kernel
theorem dX7_goesBack_6 : decode cX7_goesBack 6 = .ok (.istore 5, 2) := by decide +kernel
theorem dX7_goesBack_8 : decode cX7_goesBack 8 = .ok (.iload 5, 2) := by decide +kernel
theorem dX7_goesBack_10 : decode cX7_goesBack 10 = .ok (.ifCond .lt 156, 3) := by decide +kernel
theorem dX7_goesBack_13 : decode cX7_goesBack 13 = .ok (.aload_n 0, 1) := by decide +kernel
theorem dX7_goesBack_14 : decode cX7_goesBack 14 = .ok (.getfield 25, 3) := by decide +kernel
theorem dX7_goesBack_17 : decode cX7_goesBack 17 = .ok (.iload 5, 2) := by decide +kernel
theorem dX7_goesBack_19 : decode cX7_goesBack 19 = .ok (.iload 4, 2) := by decide +kernel
theorem dX7_goesBack_21 : decode cX7_goesBack 21 = .ok (.aload_n 0, 1) := by decide +kernel
theorem dX7_goesBack_22 : decode cX7_goesBack 22 = .ok (.getfield 25, 3) := by decide +kernel
theorem dX7_goesBack_25 : decode cX7_goesBack 25 = .ok (.iload 5, 2) := by decide +kernel
theorem dX7_goesBack_27 : decode cX7_goesBack 27 = .ok (.iaload, 1) := by decide +kernel
theorem dX7_goesBack_28 : decode cX7_goesBack 28 = .ok (.if_icmp .ge 8, 3) := by decide +kernel
theorem dX7_goesBack_31 : decode cX7_goesBack 31 = .ok (.iload 4, 2) := by decide +kernel
theorem dX7_goesBack_33 : decode cX7_goesBack 33 = .ok (.goto 10, 3) := by decide +kernel
theorem dX7_goesBack_36 : decode cX7_goesBack 36 = .ok (.aload_n 0, 1) := by decide +kernel
theorem dX7_goesBack_37 : decode cX7_goesBack 37 = .ok (.getfield 25, 3) := by decide +kernel
theorem dX7_goesBack_40 : decode cX7_goesBack 40 = .ok (.iload 5, 2) := by decide +kernel
theorem dX7_goesBack_42 : decode cX7_goesBack 42 = .ok (.iaload, 1) := by decide +kernel
theorem dX7_goesBack_43 : decode cX7_goesBack 43 = .ok (.iastore, 1) := by decide +kernel
theorem dX7_goesBack_44 : decode cX7_goesBack 44 = .ok (.aload_n 0, 1) := by decide +kernel
theorem dX7_goesBack_45 : decode cX7_goesBack 45 = .ok (.getfield 31, 3) := by decide +kernel
theorem dX7_goesBack_48 : decode cX7_goesBack 48 = .ok (.iload 5, 2) := by decide +kernel
theorem dX7_goesBack_50 : decode cX7_goesBack 50 = .ok (.iaload, 1) := by decide +kernel
theorem dX7_goesBack_51 : decode cX7_goesBack 51 = .ok (.iconst 2, 1) := by decide +kernel
theorem dX7_goesBack_52 : decode cX7_goesBack 52 = .ok (.irem, 1) := by decide +kernel
theorem dX7_goesBack_53 : decode cX7_goesBack 53 = .ok (.ifCond .ne 4, 3) := by decide +kernel
theorem dX7_goesBack_56 : decode cX7_goesBack 56 = .ok (.return_, 1) := by decide +kernel
theorem dX7_goesBack_57 : decode cX7_goesBack 57 = .ok (.aload_n 0, 1) := by decide +kernel
theorem dX7_goesBack_58 : decode cX7_goesBack 58 = .ok (.getfield 25, 3) := by decide +kernel
theorem dX7_goesBack_61 : decode cX7_goesBack 61 = .ok (.iload 5, 2) := by decide +kernel
theorem dX7_goesBack_63 : decode cX7_goesBack 63 = .ok (.iaload, 1) := by decide +kernel
theorem dX7_goesBack_64 : decode cX7_goesBack 64 = .ok (.istore 4, 2) := by decide +kernel
theorem dX7_goesBack_66 : decode cX7_goesBack 66 = .ok (.aload_n 0, 1) := by decide +kernel
theorem dX7_goesBack_67 : decode cX7_goesBack 67 = .ok (.getfield 25, 3) := by decide +kernel
theorem dX7_goesBack_70 : decode cX7_goesBack 70 = .ok (.iload 5, 2) := by decide +kernel
theorem dX7_goesBack_72 : decode cX7_goesBack 72 = .ok (.ldc 232, 2) := by decide +kernel
theorem dX7_goesBack_74 : decode cX7_goesBack 74 = .ok (.iastore, 1) := by decide +kernel
theorem dX7_goesBack_75 : decode cX7_goesBack 75 = .ok (.iload 4, 2) := by decide +kernel
theorem dX7_goesBack_77 : decode cX7_goesBack 77 = .ok (.aload_n 0, 1) := by decide +kernel
theorem dX7_goesBack_78 : decode cX7_goesBack 78 = .ok (.getfield 28, 3) := by decide +kernel
theorem dX7_goesBack_81 : decode cX7_goesBack 81 = .ok (.iload 5, 2) := by decide +kernel
theorem dX7_goesBack_83 : decode cX7_goesBack 83 = .ok (.iaload, 1) := by decide +kernel
theorem dX7_goesBack_84 : decode cX7_goesBack 84 = .ok (.if_icmp .le 40, 3) := by decide +kernel
theorem dX7_goesBack_87 : decode cX7_goesBack 87 = .ok (.aload_n 0, 1) := by decide +kernel
theorem dX7_goesBack_88 : decode cX7_goesBack 88 = .ok (.getfield 28, 3) := by decide +kernel
theorem dX7_goesBack_91 : decode cX7_goesBack 91 = .ok (.iload 5, 2) := by decide +kernel
theorem dX7_goesBack_93 : decode cX7_goesBack 93 = .ok (.iload 4, 2) := by decide +kernel
theorem dX7_goesBack_95 : decode cX7_goesBack 95 = .ok (.iastore, 1) := by decide +kernel
theorem dX7_goesBack_96 : decode cX7_goesBack 96 = .ok (.aload_n 0, 1) := by decide +kernel
theorem dX7_goesBack_97 : decode cX7_goesBack 97 = .ok (.iload 5, 2) := by decide +kernel
theorem dX7_goesBack_99 : decode cX7_goesBack 99 = .ok (.ifCond .ne 18, 3) := by decide +kernel
theorem dX7_goesBack_102 : decode cX7_goesBack 102 = .ok (.aload_n 0, 1) := by decide +kernel
theorem dX7_goesBack_103 : decode cX7_goesBack 103 = .ok (.aload_n 0, 1) := by decide +kernel
theorem dX7_goesBack_104 : decode cX7_goesBack 104 = .ok (.getfield 31, 3) := by decide +kernel
theorem dX7_goesBack_107 : decode cX7_goesBack 107 = .ok (.iconst 0, 1) := by decide +kernel
theorem dX7_goesBack_108 : decode cX7_goesBack 108 = .ok (.iaload, 1) := by decide +kernel
theorem dX7_goesBack_109 : decode cX7_goesBack 109 = .ok (.iconst 2, 1) := by decide +kernel
theorem dX7_goesBack_110 : decode cX7_goesBack 110 = .ok (.idiv, 1) := by decide +kernel
theorem dX7_goesBack_111 : decode cX7_goesBack 111 = .ok (.invokevirtual 229, 3) := by decide +kernel
theorem dX7_goesBack_114 : decode cX7_goesBack 114 = .ok (.goto 7, 3) := by decide +kernel
theorem dX7_goesBack_117 : decode cX7_goesBack 117 = .ok (.aload_n 0, 1) := by decide +kernel
theorem dX7_goesBack_118 : decode cX7_goesBack 118 = .ok (.getfield 233, 3) := by decide +kernel
theorem dX7_goesBack_121 : decode cX7_goesBack 121 = .ok (.putfield 233, 3) := by decide +kernel
theorem dX7_goesBack_124 : decode cX7_goesBack 124 = .ok (.iload 5, 2) := by decide +kernel
theorem dX7_goesBack_126 : decode cX7_goesBack 126 = .ok (.ifCond .eq 16, 3) := by decide +kernel
theorem dX7_goesBack_129 : decode cX7_goesBack 129 = .ok (.aload_n 0, 1) := by decide +kernel
theorem dX7_goesBack_130 : decode cX7_goesBack 130 = .ok (.getfield 31, 3) := by decide +kernel
theorem dX7_goesBack_133 : decode cX7_goesBack 133 = .ok (.iload 5, 2) := by decide +kernel
theorem dX7_goesBack_135 : decode cX7_goesBack 135 = .ok (.iaload, 1) := by decide +kernel
theorem dX7_goesBack_136 : decode cX7_goesBack 136 = .ok (.iload_n 2, 1) := by decide +kernel
theorem dX7_goesBack_137 : decode cX7_goesBack 137 = .ok (.iconst 1, 1) := by decide +kernel
theorem dX7_goesBack_138 : decode cX7_goesBack 138 = .ok (.isub, 1) := by decide +kernel
theorem dX7_goesBack_139 : decode cX7_goesBack 139 = .ok (.if_icmp .ge 4, 3) := by decide +kernel
theorem dX7_goesBack_142 : decode cX7_goesBack 142 = .ok (.return_, 1) := by decide +kernel
theorem dX7_goesBack_143 : decode cX7_goesBack 143 = .ok (.aload_n 0, 1) := by decide +kernel
theorem dX7_goesBack_144 : decode cX7_goesBack 144 = .ok (.getfield 28, 3) := by decide +kernel
theorem dX7_goesBack_147 : decode cX7_goesBack 147 = .ok (.iload 5, 2) := by decide +kernel
theorem dX7_goesBack_149 : decode cX7_goesBack 149 = .ok (.iaload, 1) := by decide +kernel
theorem dX7_goesBack_150 : decode cX7_goesBack 150 = .ok (.istore 4, 2) := by decide +kernel
theorem dX7_goesBack_152 : decode cX7_goesBack 152 = .ok (.aload_n 0, 1) := by decide +kernel
theorem dX7_goesBack_153 : decode cX7_goesBack 153 = .ok (.getfield 28, 3) := by decide +kernel
theorem dX7_goesBack_156 : decode cX7_goesBack 156 = .ok (.iload 5, 2) := by decide +kernel
theorem dX7_goesBack_158 : decode cX7_goesBack 158 = .ok (.iconst (-1), 1) := by decide +kernel
theorem dX7_goesBack_159 : decode cX7_goesBack 159 = .ok (.iastore, 1) := by decide +kernel
theorem dX7_goesBack_160 : decode cX7_goesBack 160 = .ok (.iinc 5 (-1), 3) := by decide +kernel
theorem dX7_goesBack_163 : decode cX7_goesBack 163 = .ok (.goto (-155), 3) := by decide +kernel
theorem dX7_goesBack_166 : decode cX7_goesBack 166 = .ok (.return_, 1) := by decide +kernel
theorem dX7_play_0 : decode cX7_play 0 = .ok (.iload_n 1, 1) := by decide +kernel
theorem dX7_play_1 : decode cX7_play 1 = .ok (.i2l, 1) := by decide +kernel
theorem dX7_play_2 : decode cX7_play 2 = .ok (.lconst 0, 1) := by decide +kernel
theorem dX7_play_3 : decode cX7_play 3 = .ok (.ldc2_w 189, 3) := by decide +kernel
theorem dX7_play_6 : decode cX7_play 6 = .ok (.invokestatic 55, 3) := by decide +kernel
theorem dX7_play_9 : decode cX7_play 9 = .ok (.ifCond .eq 13, 3) := by decide +kernel
theorem dX7_play_12 : decode cX7_play 12 = .ok (.iload_n 2, 1) := by decide +kernel
theorem dX7_play_13 : decode cX7_play 13 = .ok (.i2l, 1) := by decide +kernel
theorem dX7_play_14 : decode cX7_play 14 = .ok (.lconst 0, 1) := by decide +kernel
theorem dX7_play_15 : decode cX7_play 15 = .ok (.lconst 1, 1) := by decide +kernel
theorem dX7_play_16 : decode cX7_play 16 = .ok (.invokestatic 55, 3) := by decide +kernel
theorem dX7_play_19 : decode cX7_play 19 = .ok (.ifCond .ne 5, 3) := by decide +kernel
theorem dX7_play_22 : decode cX7_play 22 = .ok (.iconst (-1), 1) := by decide +kernel
theorem dX7_play_23 : decode cX7_play 23 = .ok (.ireturn, 1) := by decide +kernel
theorem dX7_play_24 : decode cX7_play 24 = .ok (.iload_n 1, 1) := by decide +kernel
theorem dX7_play_25 : decode cX7_play 25 = .ok (.ifCond .ne 14, 3) := by decide +kernel
theorem dX7_play_28 : decode cX7_play 28 = .ok (.iload_n 2, 1) := by decide +kernel
theorem dX7_play_29 : decode cX7_play 29 = .ok (.ifCond .ne 7, 3) := by decide +kernel
theorem dX7_play_32 : decode cX7_play 32 = .ok (.iconst 0, 1) := by decide +kernel
theorem dX7_play_33 : decode cX7_play 33 = .ok (.goto 5, 3) := by decide +kernel
theorem dX7_play_36 : decode cX7_play 36 = .ok (.bipush (-4), 2) := by decide +kernel
theorem dX7_play_38 : decode cX7_play 38 = .ok (.ireturn, 1) := by decide +kernel
theorem dX7_play_39 : decode cX7_play 39 = .ok (.iconst 2, 1) := by decide +kernel
theorem dX7_play_40 : decode cX7_play 40 = .ok (.aload_n 0, 1) := by decide +kernel
theorem dX7_play_41 : decode cX7_play 41 = .ok (.getfield 7, 3) := by decide +kernel
theorem dX7_play_44 : decode cX7_play 44 = .ok (.bipush 24, 2) := by decide +kernel
theorem dX7_play_46 : decode cX7_play 46 = .ok (.iaload, 1) := by decide +kernel
theorem dX7_play_47 : decode cX7_play 47 = .ok (.imul, 1) := by decide +kernel
theorem dX7_play_48 : decode cX7_play 48 = .ok (.iconst 2, 1) := by decide +kernel
theorem dX7_play_49 : decode cX7_play 49 = .ok (.iadd, 1) := by decide +kernel
theorem dX7_play_50 : decode cX7_play 50 = .ok (.istore_n 3, 1) := by decide +kernel
theorem dX7_play_51 : decode cX7_play 51 = .ok (.iconst 1, 1) := by decide +kernel
theorem dX7_play_52 : decode cX7_play 52 = .ok (.istore 4, 2) := by decide +kernel
theorem dX7_play_54 : decode cX7_play 54 = .ok (.iconst 0, 1) := by decide +kernel
theorem dX7_play_55 : decode cX7_play 55 = .ok (.istore 5, 2) := by decide +kernel
theorem dX7_play_57 : decode cX7_play 57 = .ok (.iload 5, 2) := by decide +kernel
theorem dX7_play_59 : decode cX7_play 59 = .ok (.iload_n 1, 1) := by decide +kernel
theorem dX7_play_60 : decode cX7_play 60 = .ok (.if_icmp .ge 32, 3) := by decide +kernel
theorem dX7_play_63 : decode cX7_play 63 = .ok (.iload 4, 2) := by decide +kernel
theorem dX7_play_65 : decode cX7_play 65 = .ok (.iload_n 3, 1) := by decide +kernel
theorem dX7_play_66 : decode cX7_play 66 = .ok (.imul, 1) := by decide +kernel
theorem dX7_play_67 : decode cX7_play 67 = .ok (.istore 4, 2) := by decide +kernel
theorem dX7_play_69 : decode cX7_play 69 = .ok (.aload_n 0, 1) := by decide +kernel
theorem dX7_play_70 : decode cX7_play 70 = .ok (.getfield 25, 3) := by decide +kernel
theorem dX7_play_73 : decode cX7_play 73 = .ok (.iload 5, 2) := by decide +kernel
theorem dX7_play_75 : decode cX7_play 75 = .ok (.ldc 232, 2) := by decide +kernel
theorem dX7_play_77 : decode cX7_play 77 = .ok (.iastore, 1) := by decide +kernel
theorem dX7_play_78 : decode cX7_play 78 = .ok (.aload_n 0, 1) := by decide +kernel
theorem dX7_play_79 : decode cX7_play 79 = .ok (.getfield 28, 3) := by decide +kernel
theorem dX7_play_82 : decode cX7_play 82 = .ok (.iload 5, 2) := by decide +kernel
theorem dX7_play_84 : decode cX7_play 84 = .ok (.iconst (-1), 1) := by decide +kernel
theorem dX7_play_85 : decode cX7_play 85 = .ok (.iastore, 1) := by decide +kernel
theorem dX7_play_86 : decode cX7_play 86 = .ok (.iinc 5 1, 3) := by decide +kernel
theorem dX7_play_89 : decode cX7_play 89 = .ok (.goto (-32), 3) := by decide +kernel
theorem dX7_play_92 : decode cX7_play 92 = .ok (.iconst 0, 1) := by decide +kernel
theorem dX7_play_93 : decode cX7_play 93 = .ok (.istore 5, 2) := by decide +kernel
theorem dX7_play_95 : decode cX7_play 95 = .ok (.iload 5, 2) := by decide +kernel
theorem dX7_play_97 : decode cX7_play 97 = .ok (.iload 4, 2) := by decide +kernel
theorem dX7_play_99 : decode cX7_play 99 = .ok (.if_icmp .ge 97, 3) := by decide +kernel
theorem dX7_play_102 : decode cX7_play 102 = .ok (.aload_n 0, 1) := by decide +kernel
theorem dX7_play_103 : decode cX7_play 103 = .ok (.iload 5, 2) := by decide +kernel
theorem dX7_play_105 : decode cX7_play 105 = .ok (.iload_n 3, 1) := by decide +kernel
theorem dX7_play_106 : decode cX7_play 106 = .ok (.iload_n 1, 1) := by decide +kernel
theorem dX7_play_107 : decode cX7_play 107 = .ok (.invokevirtual 236, 3) := by decide +kernel
theorem dX7_play_110 : decode cX7_play 110 = .ok (.aload_n 0, 1) := by decide +kernel
theorem dX7_play_111 : decode cX7_play 111 = .ok (.iconst 0, 1) := by decide +kernel
theorem dX7_play_112 : decode cX7_play 112 = .ok (.sipush 212, 3) := by decide +kernel
theorem dX7_play_115 : decode cX7_play 115 = .ok (.invokevirtual 205, 3) := by decide +kernel
theorem dX7_play_118 : decode cX7_play 118 = .ok (.iconst 0, 1) := by decide +kernel
theorem dX7_play_119 : decode cX7_play 119 = .ok (.istore 6, 2) := by decide +kernel
theorem dX7_play_121 : decode cX7_play 121 = .ok (.iconst 0, 1) := by decide +kernel
theorem dX7_play_122 : decode cX7_play 122 = .ok (.istore 7, 2) := by decide +kernel
theorem dX7_play_124 : decode cX7_play 124 = .ok (.iload 7, 2) := by decide +kernel
theorem dX7_play_126 : decode cX7_play 126 = .ok (.iload_n 1, 1) := by decide +kernel
theorem dX7_play_127 : decode cX7_play 127 = .ok (.if_icmp .ge 55, 3) := by decide +kernel
theorem dX7_play_130 : decode cX7_play 130 = .ok (.iload 6, 2) := by decide +kernel
theorem dX7_play_132 : decode cX7_play 132 = .ok (.aload_n 0, 1) := by decide +kernel
theorem dX7_play_133 : decode cX7_play 133 = .ok (.sipush 212, 3) := by decide +kernel
theorem dX7_play_136 : decode cX7_play 136 = .ok (.aload_n 0, 1) := by decide +kernel
theorem dX7_play_137 : decode cX7_play 137 = .ok (.getfield 31, 3) := by decide +kernel
theorem dX7_play_140 : decode cX7_play 140 = .ok (.iload 7, 2) := by decide +kernel
theorem dX7_play_142 : decode cX7_play 142 = .ok (.iaload, 1) := by decide +kernel
theorem dX7_play_143 : decode cX7_play 143 = .ok (.iconst 2, 1) := by decide +kernel
theorem dX7_play_144 : decode cX7_play 144 = .ok (.irem, 1) := by decide +kernel
theorem dX7_play_145 : decode cX7_play 145 = .ok (.ifCond .ne 7, 3) := by decide +kernel
theorem dX7_play_148 : decode cX7_play 148 = .ok (.iconst 0, 1) := by decide +kernel
theorem dX7_play_149 : decode cX7_play 149 = .ok (.goto 5, 3) := by decide +kernel
theorem dX7_play_152 : decode cX7_play 152 = .ok (.bipush 9, 2) := by decide +kernel
theorem dX7_play_154 : decode cX7_play 154 = .ok (.aload_n 0, 1) := by decide +kernel
theorem dX7_play_155 : decode cX7_play 155 = .ok (.aload_n 0, 1) := by decide +kernel
theorem dX7_play_156 : decode cX7_play 156 = .ok (.getfield 31, 3) := by decide +kernel
theorem dX7_play_159 : decode cX7_play 159 = .ok (.iload 7, 2) := by decide +kernel
theorem dX7_play_161 : decode cX7_play 161 = .ok (.iaload, 1) := by decide +kernel
theorem dX7_play_162 : decode cX7_play 162 = .ok (.iconst 2, 1) := by decide +kernel
theorem dX7_play_163 : decode cX7_play 163 = .ok (.idiv, 1) := by decide +kernel
theorem dX7_play_164 : decode cX7_play 164 = .ok (.invokevirtual 229, 3) := by decide +kernel
theorem dX7_play_167 : decode cX7_play 167 = .ok (.invokevirtual 154, 3) := by decide +kernel
theorem dX7_play_170 : decode cX7_play 170 = .ok (.invokestatic 199, 3) := by decide +kernel
theorem dX7_play_173 : decode cX7_play 173 = .ok (.iadd, 1) := by decide +kernel
theorem dX7_play_174 : decode cX7_play 174 = .ok (.istore 6, 2) := by decide +kernel
theorem dX7_play_176 : decode cX7_play 176 = .ok (.iinc 7 1, 3) := by decide +kernel
theorem dX7_play_179 : decode cX7_play 179 = .ok (.goto (-55), 3) := by decide +kernel
theorem dX7_play_182 : decode cX7_play 182 = .ok (.aload_n 0, 1) := by decide +kernel
theorem dX7_play_183 : decode cX7_play 183 = .ok (.iload 6, 2) := by decide +kernel
theorem dX7_play_185 : decode cX7_play 185 = .ok (.iload_n 3, 1) := by decide +kernel
theorem dX7_play_186 : decode cX7_play 186 = .ok (.iload_n 1, 1) := by decide +kernel
theorem dX7_play_187 : decode cX7_play 187 = .ok (.invokevirtual 240, 3) := by decide +kernel
theorem dX7_play_190 : decode cX7_play 190 = .ok (.iinc 5 1, 3) := by decide +kernel
theorem dX7_play_193 : decode cX7_play 193 = .ok (.goto (-98), 3) := by decide +kernel
theorem dX7_play_196 : decode cX7_play 196 = .ok (.iload_n 2, 1) := by decide +kernel
theorem dX7_play_197 : decode cX7_play 197 = .ok (.ifCond .ne 12, 3) := by decide +kernel
theorem dX7_play_200 : decode cX7_play 200 = .ok (.aload_n 0, 1) := by decide +kernel
theorem dX7_play_201 : decode cX7_play 201 = .ok (.getfield 28, 3) := by decide +kernel
theorem dX7_play_204 : decode cX7_play 204 = .ok (.iconst 0, 1) := by decide +kernel
theorem dX7_play_205 : decode cX7_play 205 = .ok (.iaload, 1) := by decide +kernel
theorem dX7_play_206 : decode cX7_play 206 = .ok (.goto 7, 3) := by decide +kernel
theorem dX7_play_209 : decode cX7_play 209 = .ok (.aload_n 0, 1) := by decide +kernel
theorem dX7_play_210 : decode cX7_play 210 = .ok (.getfield 233, 3) := by decide +kernel
theorem dX7_play_213 : decode cX7_play 213 = .ok (.ireturn, 1) := by decide +kernel
theorem dX7_lowest_0 : decode cX7_lowest 0 = .ok (.lload_n 0, 1) := by decide +kernel
theorem dX7_lowest_1 : decode cX7_lowest 1 = .ok (.lstore 5, 2) := by decide +kernel
theorem dX7_lowest_3 : decode cX7_lowest 3 = .ok (.lload_n 2, 1) := by decide +kernel
theorem dX7_lowest_4 : decode cX7_lowest 4 = .ok (.lstore 7, 2) := by decide +kernel
theorem dX7_lowest_6 : decode cX7_lowest 6 = .ok (.lload 7, 2) := by decide +kernel
theorem dX7_lowest_8 : decode cX7_lowest 8 = .ok (.lconst 0, 1) := by decide +kernel
theorem dX7_lowest_9 : decode cX7_lowest 9 = .ok (.lcmp, 1) := by decide +kernel
theorem dX7_lowest_10 : decode cX7_lowest 10 = .ok (.ifCond .eq 21, 3) := by decide +kernel
theorem dX7_lowest_13 : decode cX7_lowest 13 = .ok (.lload 5, 2) := by decide +kernel
theorem dX7_lowest_15 : decode cX7_lowest 15 = .ok (.lload 7, 2) := by decide +kernel
theorem dX7_lowest_17 : decode cX7_lowest 17 = .ok (.lrem, 1) := by decide +kernel
theorem dX7_lowest_18 : decode cX7_lowest 18 = .ok (.lstore 9, 2) := by decide +kernel
theorem dX7_lowest_20 : decode cX7_lowest 20 = .ok (.lload 7, 2) := by decide +kernel
theorem dX7_lowest_22 : decode cX7_lowest 22 = .ok (.lstore 5, 2) := by decide +kernel
theorem dX7_lowest_24 : decode cX7_lowest 24 = .ok (.lload 9, 2) := by decide +kernel
theorem dX7_lowest_26 : decode cX7_lowest 26 = .ok (.lstore 7, 2) := by decide +kernel
theorem dX7_lowest_28 : decode cX7_lowest 28 = .ok (.goto (-22), 3) := by decide +kernel
theorem dX7_lowest_31 : decode cX7_lowest 31 = .ok (.iload 4, 2) := by decide +kernel
theorem dX7_lowest_33 : decode cX7_lowest 33 = .ok (.ifCond .ne 7, 3) := by decide +kernel
theorem dX7_lowest_36 : decode cX7_lowest 36 = .ok (.lload_n 0, 1) := by decide +kernel
theorem dX7_lowest_37 : decode cX7_lowest 37 = .ok (.goto 4, 3) := by decide +kernel
theorem dX7_lowest_40 : decode cX7_lowest 40 = .ok (.lload_n 2, 1) := by decide +kernel
theorem dX7_lowest_41 : decode cX7_lowest 41 = .ok (.lload 5, 2) := by decide +kernel
theorem dX7_lowest_43 : decode cX7_lowest 43 = .ok (.ldiv, 1) := by decide +kernel
theorem dX7_lowest_44 : decode cX7_lowest 44 = .ok (.lreturn, 1) := by decide +kernel
theorem dX7_byNobody_0 : decode cX7_byNobody 0 = .ok (.lconst 0, 1) := by decide +kernel
theorem dX7_byNobody_1 : decode cX7_byNobody 1 = .ok (.lstore 5, 2) := by decide +kernel
theorem dX7_byNobody_3 : decode cX7_byNobody 3 = .ok (.lconst 1, 1) := by decide +kernel
theorem dX7_byNobody_4 : decode cX7_byNobody 4 = .ok (.lstore 7, 2) := by decide +kernel
theorem dX7_byNobody_6 : decode cX7_byNobody 6 = .ok (.iconst 0, 1) := by decide +kernel
theorem dX7_byNobody_7 : decode cX7_byNobody 7 = .ok (.istore 9, 2) := by decide +kernel
theorem dX7_byNobody_9 : decode cX7_byNobody 9 = .ok (.iload 9, 2) := by decide +kernel
theorem dX7_byNobody_11 : decode cX7_byNobody 11 = .ok (.iload_n 3, 1) := by decide +kernel
theorem dX7_byNobody_12 : decode cX7_byNobody 12 = .ok (.if_icmp .ge 17, 3) := by decide +kernel
theorem dX7_byNobody_15 : decode cX7_byNobody 15 = .ok (.lload 7, 2) := by decide +kernel
theorem dX7_byNobody_17 : decode cX7_byNobody 17 = .ok (.ldc2_w 243, 3) := by decide +kernel
theorem dX7_byNobody_20 : decode cX7_byNobody 20 = .ok (.lmul, 1) := by decide +kernel
theorem dX7_byNobody_21 : decode cX7_byNobody 21 = .ok (.lstore 7, 2) := by decide +kernel
theorem dX7_byNobody_23 : decode cX7_byNobody 23 = .ok (.iinc 9 1, 3) := by decide +kernel
theorem dX7_byNobody_26 : decode cX7_byNobody 26 = .ok (.goto (-17), 3) := by decide +kernel
theorem dX7_byNobody_29 : decode cX7_byNobody 29 = .ok (.iconst 0, 1) := by decide +kernel
theorem dX7_byNobody_30 : decode cX7_byNobody 30 = .ok (.istore 9, 2) := by decide +kernel
theorem dX7_byNobody_32 : decode cX7_byNobody 32 = .ok (.iload 9, 2) := by decide +kernel
theorem dX7_byNobody_34 : decode cX7_byNobody 34 = .ok (.iconst 1, 1) := by decide +kernel
theorem dX7_byNobody_35 : decode cX7_byNobody 35 = .ok (.iload_n 3, 1) := by decide +kernel
theorem dX7_byNobody_36 : decode cX7_byNobody 36 = .ok (.ishl, 1) := by decide +kernel
theorem dX7_byNobody_37 : decode cX7_byNobody 37 = .ok (.if_icmp .ge 147, 3) := by decide +kernel
theorem dX7_byNobody_40 : decode cX7_byNobody 40 = .ok (.lconst 1, 1) := by decide +kernel
theorem dX7_byNobody_41 : decode cX7_byNobody 41 = .ok (.lstore 10, 2) := by decide +kernel
theorem dX7_byNobody_43 : decode cX7_byNobody 43 = .ok (.iconst 0, 1) := by decide +kernel
theorem dX7_byNobody_44 : decode cX7_byNobody 44 = .ok (.istore 12, 2) := by decide +kernel
theorem dX7_byNobody_46 : decode cX7_byNobody 46 = .ok (.aload_n 0, 1) := by decide +kernel
theorem dX7_byNobody_47 : decode cX7_byNobody 47 = .ok (.iconst 0, 1) := by decide +kernel
theorem dX7_byNobody_48 : decode cX7_byNobody 48 = .ok (.sipush 212, 3) := by decide +kernel
theorem dX7_byNobody_51 : decode cX7_byNobody 51 = .ok (.invokevirtual 205, 3) := by decide +kernel
theorem dX7_byNobody_54 : decode cX7_byNobody 54 = .ok (.iconst 0, 1) := by decide +kernel
theorem dX7_byNobody_55 : decode cX7_byNobody 55 = .ok (.istore 13, 2) := by decide +kernel
theorem dX7_byNobody_57 : decode cX7_byNobody 57 = .ok (.iload 13, 2) := by decide +kernel
theorem dX7_byNobody_59 : decode cX7_byNobody 59 = .ok (.iload_n 3, 1) := by decide +kernel
theorem dX7_byNobody_60 : decode cX7_byNobody 60 = .ok (.if_icmp .ge 85, 3) := by decide +kernel
theorem dX7_byNobody_63 : decode cX7_byNobody 63 = .ok (.iload 9, 2) := by decide +kernel
theorem dX7_byNobody_65 : decode cX7_byNobody 65 = .ok (.iload 13, 2) := by decide +kernel
theorem dX7_byNobody_67 : decode cX7_byNobody 67 = .ok (.ishr, 1) := by decide +kernel
theorem dX7_byNobody_68 : decode cX7_byNobody 68 = .ok (.iconst 1, 1) := by decide +kernel
theorem dX7_byNobody_69 : decode cX7_byNobody 69 = .ok (.iand, 1) := by decide +kernel
theorem dX7_byNobody_70 : decode cX7_byNobody 70 = .ok (.iconst 1, 1) := by decide +kernel
theorem dX7_byNobody_71 : decode cX7_byNobody 71 = .ok (.if_icmp .ne 7, 3) := by decide +kernel
theorem dX7_byNobody_74 : decode cX7_byNobody 74 = .ok (.iconst 1, 1) := by decide +kernel
theorem dX7_byNobody_75 : decode cX7_byNobody 75 = .ok (.goto 4, 3) := by decide +kernel
theorem dX7_byNobody_78 : decode cX7_byNobody 78 = .ok (.iconst 0, 1) := by decide +kernel
theorem dX7_byNobody_79 : decode cX7_byNobody 79 = .ok (.istore 14, 2) := by decide +kernel
theorem dX7_byNobody_81 : decode cX7_byNobody 81 = .ok (.lload 10, 2) := by decide +kernel
theorem dX7_byNobody_83 : decode cX7_byNobody 83 = .ok (.iload 14, 2) := by decide +kernel
theorem dX7_byNobody_85 : decode cX7_byNobody 85 = .ok (.ifCond .eq 8, 3) := by decide +kernel
theorem dX7_byNobody_88 : decode cX7_byNobody 88 = .ok (.iload_n 1, 1) := by decide +kernel
theorem dX7_byNobody_89 : decode cX7_byNobody 89 = .ok (.i2l, 1) := by decide +kernel
theorem dX7_byNobody_90 : decode cX7_byNobody 90 = .ok (.goto 8, 3) := by decide +kernel
theorem dX7_byNobody_93 : decode cX7_byNobody 93 = .ok (.bipush 10, 2) := by decide +kernel
theorem dX7_byNobody_95 : decode cX7_byNobody 95 = .ok (.iload_n 1, 1) := by decide +kernel
theorem dX7_byNobody_96 : decode cX7_byNobody 96 = .ok (.isub, 1) := by decide +kernel
theorem dX7_byNobody_97 : decode cX7_byNobody 97 = .ok (.i2l, 1) := by decide +kernel
theorem dX7_byNobody_98 : decode cX7_byNobody 98 = .ok (.lmul, 1) := by decide +kernel
theorem dX7_byNobody_99 : decode cX7_byNobody 99 = .ok (.lstore 10, 2) := by decide +kernel
theorem dX7_byNobody_101 : decode cX7_byNobody 101 = .ok (.iload 12, 2) := by decide +kernel
theorem dX7_byNobody_103 : decode cX7_byNobody 103 = .ok (.aload_n 0, 1) := by decide +kernel
theorem dX7_byNobody_104 : decode cX7_byNobody 104 = .ok (.sipush 212, 3) := by decide +kernel
theorem dX7_byNobody_107 : decode cX7_byNobody 107 = .ok (.iload 14, 2) := by decide +kernel
theorem dX7_byNobody_109 : decode cX7_byNobody 109 = .ok (.ifCond .eq 7, 3) := by decide +kernel
theorem dX7_byNobody_112 : decode cX7_byNobody 112 = .ok (.iconst 0, 1) := by decide +kernel
theorem dX7_byNobody_113 : decode cX7_byNobody 113 = .ok (.goto 10, 3) := by decide +kernel
theorem dX7_byNobody_116 : decode cX7_byNobody 116 = .ok (.aload_n 0, 1) := by decide +kernel
theorem dX7_byNobody_117 : decode cX7_byNobody 117 = .ok (.sipush 212, 3) := by decide +kernel
theorem dX7_byNobody_120 : decode cX7_byNobody 120 = .ok (.invokevirtual 148, 3) := by decide +kernel
theorem dX7_byNobody_123 : decode cX7_byNobody 123 = .ok (.aload_n 0, 1) := by decide +kernel
theorem dX7_byNobody_124 : decode cX7_byNobody 124 = .ok (.sipush 212, 3) := by decide +kernel
theorem dX7_byNobody_127 : decode cX7_byNobody 127 = .ok (.invokevirtual 151, 3) := by decide +kernel
theorem dX7_byNobody_130 : decode cX7_byNobody 130 = .ok (.invokevirtual 154, 3) := by decide +kernel
theorem dX7_byNobody_133 : decode cX7_byNobody 133 = .ok (.invokestatic 199, 3) := by decide +kernel
theorem dX7_byNobody_136 : decode cX7_byNobody 136 = .ok (.iadd, 1) := by decide +kernel
theorem dX7_byNobody_137 : decode cX7_byNobody 137 = .ok (.istore 12, 2) := by decide +kernel
theorem dX7_byNobody_139 : decode cX7_byNobody 139 = .ok (.iinc 13 1, 3) := by decide +kernel
theorem dX7_byNobody_142 : decode cX7_byNobody 142 = .ok (.goto (-85), 3) := by decide +kernel
theorem dX7_byNobody_145 : decode cX7_byNobody 145 = .ok (.lload 5, 2) := by decide +kernel
theorem dX7_byNobody_147 : decode cX7_byNobody 147 = .ok (.lload 10, 2) := by decide +kernel
theorem dX7_byNobody_149 : decode cX7_byNobody 149 = .ok (.iload_n 2, 1) := by decide +kernel
theorem dX7_byNobody_150 : decode cX7_byNobody 150 = .ok (.bipush (-4), 2) := by decide +kernel
theorem dX7_byNobody_152 : decode cX7_byNobody 152 = .ok (.if_icmp .ne 8, 3) := by decide +kernel
theorem dX7_byNobody_155 : decode cX7_byNobody 155 = .ok (.iload 12, 2) := by decide +kernel
theorem dX7_byNobody_157 : decode cX7_byNobody 157 = .ok (.goto 16, 3) := by decide +kernel
theorem dX7_byNobody_160 : decode cX7_byNobody 160 = .ok (.aload_n 0, 1) := by decide +kernel
theorem dX7_byNobody_161 : decode cX7_byNobody 161 = .ok (.iload_n 2, 1) := by decide +kernel
theorem dX7_byNobody_162 : decode cX7_byNobody 162 = .ok (.invokevirtual 226, 3) := by decide +kernel
theorem dX7_byNobody_165 : decode cX7_byNobody 165 = .ok (.ifCond .le 7, 3) := by decide +kernel
theorem dX7_byNobody_168 : decode cX7_byNobody 168 = .ok (.iconst 1, 1) := by decide +kernel
theorem dX7_byNobody_169 : decode cX7_byNobody 169 = .ok (.goto 4, 3) := by decide +kernel
theorem dX7_byNobody_172 : decode cX7_byNobody 172 = .ok (.iconst 0, 1) := by decide +kernel
theorem dX7_byNobody_173 : decode cX7_byNobody 173 = .ok (.i2l, 1) := by decide +kernel
theorem dX7_byNobody_174 : decode cX7_byNobody 174 = .ok (.lmul, 1) := by decide +kernel
theorem dX7_byNobody_175 : decode cX7_byNobody 175 = .ok (.ladd, 1) := by decide +kernel
theorem dX7_byNobody_176 : decode cX7_byNobody 176 = .ok (.lstore 5, 2) := by decide +kernel
theorem dX7_byNobody_178 : decode cX7_byNobody 178 = .ok (.iinc 9 1, 3) := by decide +kernel
theorem dX7_byNobody_181 : decode cX7_byNobody 181 = .ok (.goto (-149), 3) := by decide +kernel
theorem dX7_byNobody_184 : decode cX7_byNobody 184 = .ok (.lload 5, 2) := by decide +kernel
theorem dX7_byNobody_186 : decode cX7_byNobody 186 = .ok (.lload 7, 2) := by decide +kernel
theorem dX7_byNobody_188 : decode cX7_byNobody 188 = .ok (.iload 4, 2) := by decide +kernel
theorem dX7_byNobody_190 : decode cX7_byNobody 190 = .ok (.invokestatic 245, 3) := by decide +kernel
theorem dX7_byNobody_193 : decode cX7_byNobody 193 = .ok (.lreturn, 1) := by decide +kernel
theorem dX7_luck_0 : decode cX7_luck 0 = .ok (.iload_n 1, 1) := by decide +kernel
theorem dX7_luck_1 : decode cX7_luck 1 = .ok (.i2l, 1) := by decide +kernel
theorem dX7_luck_2 : decode cX7_luck 2 = .ok (.lconst 0, 1) := by decide +kernel
theorem dX7_luck_3 : decode cX7_luck 3 = .ok (.ldc2_w 243, 3) := by decide +kernel
theorem dX7_luck_6 : decode cX7_luck 6 = .ok (.invokestatic 55, 3) := by decide +kernel
theorem dX7_luck_9 : decode cX7_luck 9 = .ok (.ifCond .eq 46, 3) := by decide +kernel
theorem dX7_luck_12 : decode cX7_luck 12 = .ok (.aload_n 0, 1) := by decide +kernel
theorem dX7_luck_13 : decode cX7_luck 13 = .ok (.iload_n 2, 1) := by decide +kernel
theorem dX7_luck_14 : decode cX7_luck 14 = .ok (.invokevirtual 160, 3) := by decide +kernel
theorem dX7_luck_17 : decode cX7_luck 17 = .ok (.ifCond .eq 38, 3) := by decide +kernel
theorem dX7_luck_20 : decode cX7_luck 20 = .ok (.iload_n 3, 1) := by decide +kernel
theorem dX7_luck_21 : decode cX7_luck 21 = .ok (.i2l, 1) := by decide +kernel
theorem dX7_luck_22 : decode cX7_luck 22 = .ok (.lconst 0, 1) := by decide +kernel
theorem dX7_luck_23 : decode cX7_luck 23 = .ok (.ldc2_w 249, 3) := by decide +kernel
theorem dX7_luck_26 : decode cX7_luck 26 = .ok (.invokestatic 55, 3) := by decide +kernel
theorem dX7_luck_29 : decode cX7_luck 29 = .ok (.ifCond .eq 26, 3) := by decide +kernel
theorem dX7_luck_32 : decode cX7_luck 32 = .ok (.iload 4, 2) := by decide +kernel
theorem dX7_luck_34 : decode cX7_luck 34 = .ok (.i2l, 1) := by decide +kernel
theorem dX7_luck_35 : decode cX7_luck 35 = .ok (.lconst 0, 1) := by decide +kernel
theorem dX7_luck_36 : decode cX7_luck 36 = .ok (.lconst 1, 1) := by decide +kernel
theorem dX7_luck_37 : decode cX7_luck 37 = .ok (.invokestatic 55, 3) := by decide +kernel
theorem dX7_luck_40 : decode cX7_luck 40 = .ok (.ifCond .eq 15, 3) := by decide +kernel
theorem dX7_luck_43 : decode cX7_luck 43 = .ok (.aload_n 0, 1) := by decide +kernel
theorem dX7_luck_44 : decode cX7_luck 44 = .ok (.iload_n 1, 1) := by decide +kernel
theorem dX7_luck_45 : decode cX7_luck 45 = .ok (.iload_n 2, 1) := by decide +kernel
theorem dX7_luck_46 : decode cX7_luck 46 = .ok (.iload_n 3, 1) := by decide +kernel
theorem dX7_luck_47 : decode cX7_luck 47 = .ok (.iload 4, 2) := by decide +kernel
theorem dX7_luck_49 : decode cX7_luck 49 = .ok (.invokevirtual 251, 3) := by decide +kernel
theorem dX7_luck_52 : decode cX7_luck 52 = .ok (.goto 6, 3) := by decide +kernel
theorem dX7_luck_55 : decode cX7_luck 55 = .ok (.ldc2_w 255, 3) := by decide +kernel
theorem dX7_luck_58 : decode cX7_luck 58 = .ok (.lreturn, 1) := by decide +kernel
theorem dX7_mean_0 : decode cX7_mean 0 = .ok (.iload_n 1, 1) := by decide +kernel
theorem dX7_mean_1 : decode cX7_mean 1 = .ok (.i2l, 1) := by decide +kernel
theorem dX7_mean_2 : decode cX7_mean 2 = .ok (.lconst 0, 1) := by decide +kernel
theorem dX7_mean_3 : decode cX7_mean 3 = .ok (.ldc2_w 243, 3) := by decide +kernel
theorem dX7_mean_6 : decode cX7_mean 6 = .ok (.invokestatic 55, 3) := by decide +kernel
theorem dX7_mean_9 : decode cX7_mean 9 = .ok (.ifCond .eq 37, 3) := by decide +kernel
theorem dX7_mean_12 : decode cX7_mean 12 = .ok (.iload_n 2, 1) := by decide +kernel
theorem dX7_mean_13 : decode cX7_mean 13 = .ok (.i2l, 1) := by decide +kernel
theorem dX7_mean_14 : decode cX7_mean 14 = .ok (.lconst 0, 1) := by decide +kernel
theorem dX7_mean_15 : decode cX7_mean 15 = .ok (.ldc2_w 249, 3) := by decide +kernel
theorem dX7_mean_18 : decode cX7_mean 18 = .ok (.invokestatic 55, 3) := by decide +kernel
theorem dX7_mean_21 : decode cX7_mean 21 = .ok (.ifCond .eq 25, 3) := by decide +kernel
theorem dX7_mean_24 : decode cX7_mean 24 = .ok (.iload_n 3, 1) := by decide +kernel
theorem dX7_mean_25 : decode cX7_mean 25 = .ok (.i2l, 1) := by decide +kernel
theorem dX7_mean_26 : decode cX7_mean 26 = .ok (.lconst 0, 1) := by decide +kernel
theorem dX7_mean_27 : decode cX7_mean 27 = .ok (.lconst 1, 1) := by decide +kernel
theorem dX7_mean_28 : decode cX7_mean 28 = .ok (.invokestatic 55, 3) := by decide +kernel
theorem dX7_mean_31 : decode cX7_mean 31 = .ok (.ifCond .eq 15, 3) := by decide +kernel
theorem dX7_mean_34 : decode cX7_mean 34 = .ok (.aload_n 0, 1) := by decide +kernel
theorem dX7_mean_35 : decode cX7_mean 35 = .ok (.iload_n 1, 1) := by decide +kernel
theorem dX7_mean_36 : decode cX7_mean 36 = .ok (.bipush (-4), 2) := by decide +kernel
theorem dX7_mean_38 : decode cX7_mean 38 = .ok (.iload_n 2, 1) := by decide +kernel
theorem dX7_mean_39 : decode cX7_mean 39 = .ok (.iload_n 3, 1) := by decide +kernel
theorem dX7_mean_40 : decode cX7_mean 40 = .ok (.invokevirtual 251, 3) := by decide +kernel
theorem dX7_mean_43 : decode cX7_mean 43 = .ok (.goto 6, 3) := by decide +kernel
theorem dX7_mean_46 : decode cX7_mean 46 = .ok (.ldc2_w 255, 3) := by decide +kernel
theorem dX7_mean_49 : decode cX7_mean 49 = .ok (.lreturn, 1) := by decide +kernel
theorem dX7_see_0 : decode cX7_see 0 = .ok (.iload_n 1, 1) := by decide +kernel
theorem dX7_see_1 : decode cX7_see 1 = .ok (.i2l, 1) := by decide +kernel
theorem dX7_see_2 : decode cX7_see 2 = .ok (.lconst 0, 1) := by decide +kernel
theorem dX7_see_3 : decode cX7_see 3 = .ok (.ldc2_w 187, 3) := by decide +kernel
theorem dX7_see_6 : decode cX7_see 6 = .ok (.invokestatic 55, 3) := by decide +kernel
theorem dX7_see_9 : decode cX7_see 9 = .ok (.ifCond .eq 21, 3) := by decide +kernel
theorem dX7_see_12 : decode cX7_see 12 = .ok (.aload_n 0, 1) := by decide +kernel
theorem dX7_see_13 : decode cX7_see 13 = .ok (.iload_n 2, 1) := by decide +kernel
theorem dX7_see_14 : decode cX7_see 14 = .ok (.invokevirtual 160, 3) := by decide +kernel
theorem dX7_see_17 : decode cX7_see 17 = .ok (.ifCond .eq 13, 3) := by decide +kernel
theorem dX7_see_20 : decode cX7_see 20 = .ok (.iload_n 3, 1) := by decide +kernel
theorem dX7_see_21 : decode cX7_see 21 = .ok (.i2l, 1) := by decide +kernel
theorem dX7_see_22 : decode cX7_see 22 = .ok (.lconst 0, 1) := by decide +kernel
theorem dX7_see_23 : decode cX7_see 23 = .ok (.lconst 1, 1) := by decide +kernel
theorem dX7_see_24 : decode cX7_see 24 = .ok (.invokestatic 55, 3) := by decide +kernel
theorem dX7_see_27 : decode cX7_see 27 = .ok (.ifCond .ne 5, 3) := by decide +kernel
theorem dX7_see_30 : decode cX7_see 30 = .ok (.iconst (-1), 1) := by decide +kernel
theorem dX7_see_31 : decode cX7_see 31 = .ok (.ireturn, 1) := by decide +kernel
theorem dX7_see_32 : decode cX7_see 32 = .ok (.aload_n 0, 1) := by decide +kernel
theorem dX7_see_33 : decode cX7_see 33 = .ok (.getfield 126, 3) := by decide +kernel
theorem dX7_see_36 : decode cX7_see 36 = .ok (.bipush 6, 2) := by decide +kernel
theorem dX7_see_38 : decode cX7_see 38 = .ok (.if_icmp .ne 6, 3) := by decide +kernel
theorem dX7_see_41 : decode cX7_see 41 = .ok (.bipush (-3), 2) := by decide +kernel
theorem dX7_see_43 : decode cX7_see 43 = .ok (.ireturn, 1) := by decide +kernel
theorem dX7_see_44 : decode cX7_see 44 = .ok (.aload_n 0, 1) := by decide +kernel
theorem dX7_see_45 : decode cX7_see 45 = .ok (.getfield 34, 3) := by decide +kernel
theorem dX7_see_48 : decode cX7_see 48 = .ok (.iconst 3, 1) := by decide +kernel
theorem dX7_see_49 : decode cX7_see 49 = .ok (.aload_n 0, 1) := by decide +kernel
theorem dX7_see_50 : decode cX7_see 50 = .ok (.getfield 126, 3) := by decide +kernel
theorem dX7_see_53 : decode cX7_see 53 = .ok (.imul, 1) := by decide +kernel
theorem dX7_see_54 : decode cX7_see 54 = .ok (.iload_n 1, 1) := by decide +kernel
theorem dX7_see_55 : decode cX7_see 55 = .ok (.iastore, 1) := by decide +kernel
theorem dX7_see_56 : decode cX7_see 56 = .ok (.aload_n 0, 1) := by decide +kernel
theorem dX7_see_57 : decode cX7_see 57 = .ok (.getfield 34, 3) := by decide +kernel
theorem dX7_see_60 : decode cX7_see 60 = .ok (.iconst 3, 1) := by decide +kernel
theorem dX7_see_61 : decode cX7_see 61 = .ok (.aload_n 0, 1) := by decide +kernel
theorem dX7_see_62 : decode cX7_see 62 = .ok (.getfield 126, 3) := by decide +kernel
theorem dX7_see_65 : decode cX7_see 65 = .ok (.imul, 1) := by decide +kernel
theorem dX7_see_66 : decode cX7_see 66 = .ok (.iconst 1, 1) := by decide +kernel
theorem dX7_see_67 : decode cX7_see 67 = .ok (.iadd, 1) := by decide +kernel
theorem dX7_see_68 : decode cX7_see 68 = .ok (.iload_n 2, 1) := by decide +kernel
theorem dX7_see_69 : decode cX7_see 69 = .ok (.iastore, 1) := by decide +kernel
theorem dX7_see_70 : decode cX7_see 70 = .ok (.aload_n 0, 1) := by decide +kernel
theorem dX7_see_71 : decode cX7_see 71 = .ok (.getfield 34, 3) := by decide +kernel
theorem dX7_see_74 : decode cX7_see 74 = .ok (.iconst 3, 1) := by decide +kernel
theorem dX7_see_75 : decode cX7_see 75 = .ok (.aload_n 0, 1) := by decide +kernel
theorem dX7_see_76 : decode cX7_see 76 = .ok (.getfield 126, 3) := by decide +kernel
theorem dX7_see_79 : decode cX7_see 79 = .ok (.imul, 1) := by decide +kernel
theorem dX7_see_80 : decode cX7_see 80 = .ok (.iconst 2, 1) := by decide +kernel
theorem dX7_see_81 : decode cX7_see 81 = .ok (.iadd, 1) := by decide +kernel
theorem dX7_see_82 : decode cX7_see 82 = .ok (.iload_n 3, 1) := by decide +kernel
theorem dX7_see_83 : decode cX7_see 83 = .ok (.iastore, 1) := by decide +kernel
theorem dX7_see_84 : decode cX7_see 84 = .ok (.aload_n 0, 1) := by decide +kernel
theorem dX7_see_85 : decode cX7_see 85 = .ok (.dup, 1) := by decide +kernel
theorem dX7_see_86 : decode cX7_see 86 = .ok (.getfield 126, 3) := by decide +kernel
theorem dX7_see_89 : decode cX7_see 89 = .ok (.iconst 1, 1) := by decide +kernel
theorem dX7_see_90 : decode cX7_see 90 = .ok (.iadd, 1) := by decide +kernel
theorem dX7_see_91 : decode cX7_see 91 = .ok (.putfield 126, 3) := by decide +kernel
theorem dX7_see_94 : decode cX7_see 94 = .ok (.aload_n 0, 1) := by decide +kernel
theorem dX7_see_95 : decode cX7_see 95 = .ok (.getfield 126, 3) := by decide +kernel
theorem dX7_see_98 : decode cX7_see 98 = .ok (.ireturn, 1) := by decide +kernel
theorem dX7_forget_0 : decode cX7_forget 0 = .ok (.iload_n 1, 1) := by decide +kernel
theorem dX7_forget_1 : decode cX7_forget 1 = .ok (.i2l, 1) := by decide +kernel
theorem dX7_forget_2 : decode cX7_forget 2 = .ok (.lconst 0, 1) := by decide +kernel
theorem dX7_forget_3 : decode cX7_forget 3 = .ok (.aload_n 0, 1) := by decide +kernel
theorem dX7_forget_4 : decode cX7_forget 4 = .ok (.getfield 126, 3) := by decide +kernel
theorem dX7_forget_7 : decode cX7_forget 7 = .ok (.i2l, 1) := by decide +kernel
theorem dX7_forget_8 : decode cX7_forget 8 = .ok (.invokestatic 55, 3) := by decide +kernel
theorem dX7_forget_11 : decode cX7_forget 11 = .ok (.ifCond .ne 5, 3) := by decide +kernel
theorem dX7_forget_14 : decode cX7_forget 14 = .ok (.iconst (-1), 1) := by decide +kernel
theorem dX7_forget_15 : decode cX7_forget 15 = .ok (.ireturn, 1) := by decide +kernel
theorem dX7_forget_16 : decode cX7_forget 16 = .ok (.aload_n 0, 1) := by decide +kernel
theorem dX7_forget_17 : decode cX7_forget 17 = .ok (.getfield 126, 3) := by decide +kernel
theorem dX7_forget_20 : decode cX7_forget 20 = .ok (.istore_n 2, 1) := by decide +kernel
theorem dX7_forget_21 : decode cX7_forget 21 = .ok (.aload_n 0, 1) := by decide +kernel
theorem dX7_forget_22 : decode cX7_forget 22 = .ok (.iload_n 1, 1) := by decide +kernel
theorem dX7_forget_23 : decode cX7_forget 23 = .ok (.putfield 126, 3) := by decide +kernel
theorem dX7_forget_26 : decode cX7_forget 26 = .ok (.iload_n 2, 1) := by decide +kernel
theorem dX7_forget_27 : decode cX7_forget 27 = .ok (.ireturn, 1) := by decide +kernel
theorem dX7_isAsSeen_0 : decode cX7_isAsSeen 0 = .ok (.aload_n 0, 1) := by decide +kernel
theorem dX7_isAsSeen_1 : decode cX7_isAsSeen 1 = .ok (.iconst 0, 1) := by decide +kernel
theorem dX7_isAsSeen_2 : decode cX7_isAsSeen 2 = .ok (.sipush 212, 3) := by decide +kernel
theorem dX7_isAsSeen_5 : decode cX7_isAsSeen 5 = .ok (.invokevirtual 205, 3) := by decide +kernel
theorem dX7_isAsSeen_8 : decode cX7_isAsSeen 8 = .ok (.iconst 1, 1) := by decide +kernel
theorem dX7_isAsSeen_9 : decode cX7_isAsSeen 9 = .ok (.istore_n 2, 1) := by decide +kernel
theorem dX7_isAsSeen_10 : decode cX7_isAsSeen 10 = .ok (.iconst 0, 1) := by decide +kernel
theorem dX7_isAsSeen_11 : decode cX7_isAsSeen 11 = .ok (.istore_n 3, 1) := by decide +kernel
theorem dX7_isAsSeen_12 : decode cX7_isAsSeen 12 = .ok (.iload_n 3, 1) := by decide +kernel
theorem dX7_isAsSeen_13 : decode cX7_isAsSeen 13 = .ok (.bipush 40, 2) := by decide +kernel
theorem dX7_isAsSeen_15 : decode cX7_isAsSeen 15 = .ok (.if_icmp .gt 102, 3) := by decide +kernel
theorem dX7_isAsSeen_18 : decode cX7_isAsSeen 18 = .ok (.aload_n 0, 1) := by decide +kernel
theorem dX7_isAsSeen_19 : decode cX7_isAsSeen 19 = .ok (.sipush 212, 3) := by decide +kernel
theorem dX7_isAsSeen_22 : decode cX7_isAsSeen 22 = .ok (.invokevirtual 196, 3) := by decide +kernel
theorem dX7_isAsSeen_25 : decode cX7_isAsSeen 25 = .ok (.istore 4, 2) := by decide +kernel
theorem dX7_isAsSeen_27 : decode cX7_isAsSeen 27 = .ok (.aload_n 0, 1) := by decide +kernel
theorem dX7_isAsSeen_28 : decode cX7_isAsSeen 28 = .ok (.getfield 37, 3) := by decide +kernel
theorem dX7_isAsSeen_31 : decode cX7_isAsSeen 31 = .ok (.bipush 41, 2) := by decide +kernel
theorem dX7_isAsSeen_33 : decode cX7_isAsSeen 33 = .ok (.iload_n 1, 1) := by decide +kernel
theorem dX7_isAsSeen_34 : decode cX7_isAsSeen 34 = .ok (.imul, 1) := by decide +kernel
theorem dX7_isAsSeen_35 : decode cX7_isAsSeen 35 = .ok (.iload_n 3, 1) := by decide +kernel
theorem dX7_isAsSeen_36 : decode cX7_isAsSeen 36 = .ok (.iadd, 1) := by decide +kernel
theorem dX7_isAsSeen_37 : decode cX7_isAsSeen 37 = .ok (.iload 4, 2) := by decide +kernel
theorem dX7_isAsSeen_39 : decode cX7_isAsSeen 39 = .ok (.iastore, 1) := by decide +kernel
theorem dX7_isAsSeen_40 : decode cX7_isAsSeen 40 = .ok (.iconst 0, 1) := by decide +kernel
theorem dX7_isAsSeen_41 : decode cX7_isAsSeen 41 = .ok (.istore 5, 2) := by decide +kernel
theorem dX7_isAsSeen_43 : decode cX7_isAsSeen 43 = .ok (.iload 5, 2) := by decide +kernel
theorem dX7_isAsSeen_45 : decode cX7_isAsSeen 45 = .ok (.aload_n 0, 1) := by decide +kernel
theorem dX7_isAsSeen_46 : decode cX7_isAsSeen 46 = .ok (.getfield 126, 3) := by decide +kernel
theorem dX7_isAsSeen_49 : decode cX7_isAsSeen 49 = .ok (.if_icmp .ge 62, 3) := by decide +kernel
theorem dX7_isAsSeen_52 : decode cX7_isAsSeen 52 = .ok (.iload_n 2, 1) := by decide +kernel
theorem dX7_isAsSeen_53 : decode cX7_isAsSeen 53 = .ok (.ifCond .eq 50, 3) := by decide +kernel
theorem dX7_isAsSeen_56 : decode cX7_isAsSeen 56 = .ok (.aload_n 0, 1) := by decide +kernel
theorem dX7_isAsSeen_57 : decode cX7_isAsSeen 57 = .ok (.getfield 34, 3) := by decide +kernel
theorem dX7_isAsSeen_60 : decode cX7_isAsSeen 60 = .ok (.iconst 3, 1) := by decide +kernel
theorem dX7_isAsSeen_61 : decode cX7_isAsSeen 61 = .ok (.iload 5, 2) := by decide +kernel
theorem dX7_isAsSeen_63 : decode cX7_isAsSeen 63 = .ok (.imul, 1) := by decide +kernel
theorem dX7_isAsSeen_64 : decode cX7_isAsSeen 64 = .ok (.iaload, 1) := by decide +kernel
theorem dX7_isAsSeen_65 : decode cX7_isAsSeen 65 = .ok (.iload_n 3, 1) := by decide +kernel
theorem dX7_isAsSeen_66 : decode cX7_isAsSeen 66 = .ok (.if_icmp .ne 33, 3) := by decide +kernel
theorem dX7_isAsSeen_69 : decode cX7_isAsSeen 69 = .ok (.iload 4, 2) := by decide +kernel
theorem dX7_isAsSeen_71 : decode cX7_isAsSeen 71 = .ok (.aload_n 0, 1) := by decide +kernel
theorem dX7_isAsSeen_72 : decode cX7_isAsSeen 72 = .ok (.getfield 34, 3) := by decide +kernel
theorem dX7_isAsSeen_75 : decode cX7_isAsSeen 75 = .ok (.iconst 3, 1) := by decide +kernel
theorem dX7_isAsSeen_76 : decode cX7_isAsSeen 76 = .ok (.iload 5, 2) := by decide +kernel
theorem dX7_isAsSeen_78 : decode cX7_isAsSeen 78 = .ok (.imul, 1) := by decide +kernel
theorem dX7_isAsSeen_79 : decode cX7_isAsSeen 79 = .ok (.iconst 1, 1) := by decide +kernel
theorem dX7_isAsSeen_80 : decode cX7_isAsSeen 80 = .ok (.iadd, 1) := by decide +kernel
theorem dX7_isAsSeen_81 : decode cX7_isAsSeen 81 = .ok (.iaload, 1) := by decide +kernel
theorem dX7_isAsSeen_82 : decode cX7_isAsSeen 82 = .ok (.ishr, 1) := by decide +kernel
theorem dX7_isAsSeen_83 : decode cX7_isAsSeen 83 = .ok (.iconst 1, 1) := by decide +kernel
theorem dX7_isAsSeen_84 : decode cX7_isAsSeen 84 = .ok (.iand, 1) := by decide +kernel
theorem dX7_isAsSeen_85 : decode cX7_isAsSeen 85 = .ok (.aload_n 0, 1) := by decide +kernel
theorem dX7_isAsSeen_86 : decode cX7_isAsSeen 86 = .ok (.getfield 34, 3) := by decide +kernel
theorem dX7_isAsSeen_89 : decode cX7_isAsSeen 89 = .ok (.iconst 3, 1) := by decide +kernel
theorem dX7_isAsSeen_90 : decode cX7_isAsSeen 90 = .ok (.iload 5, 2) := by decide +kernel
theorem dX7_isAsSeen_92 : decode cX7_isAsSeen 92 = .ok (.imul, 1) := by decide +kernel
theorem dX7_isAsSeen_93 : decode cX7_isAsSeen 93 = .ok (.iconst 2, 1) := by decide +kernel
theorem dX7_isAsSeen_94 : decode cX7_isAsSeen 94 = .ok (.iadd, 1) := by decide +kernel
theorem dX7_isAsSeen_95 : decode cX7_isAsSeen 95 = .ok (.iaload, 1) := by decide +kernel
theorem dX7_isAsSeen_96 : decode cX7_isAsSeen 96 = .ok (.if_icmp .ne 7, 3) := by decide +kernel
theorem dX7_isAsSeen_99 : decode cX7_isAsSeen 99 = .ok (.iconst 1, 1) := by decide +kernel
theorem dX7_isAsSeen_100 : decode cX7_isAsSeen 100 = .ok (.goto 4, 3) := by decide +kernel
theorem dX7_isAsSeen_103 : decode cX7_isAsSeen 103 = .ok (.iconst 0, 1) := by decide +kernel
theorem dX7_isAsSeen_104 : decode cX7_isAsSeen 104 = .ok (.istore_n 2, 1) := by decide +kernel
theorem dX7_isAsSeen_105 : decode cX7_isAsSeen 105 = .ok (.iinc 5 1, 3) := by decide +kernel
theorem dX7_isAsSeen_108 : decode cX7_isAsSeen 108 = .ok (.goto (-65), 3) := by decide +kernel
theorem dX7_isAsSeen_111 : decode cX7_isAsSeen 111 = .ok (.iinc 3 1, 3) := by decide +kernel
theorem dX7_isAsSeen_114 : decode cX7_isAsSeen 114 = .ok (.goto (-102), 3) := by decide +kernel
theorem dX7_isAsSeen_117 : decode cX7_isAsSeen 117 = .ok (.iload_n 2, 1) := by decide +kernel
theorem dX7_isAsSeen_118 : decode cX7_isAsSeen 118 = .ok (.ireturn, 1) := by decide +kernel
theorem dX7_numbersAt_0 : decode cX7_numbersAt 0 = .ok (.aload_n 0, 1) := by decide +kernel
theorem dX7_numbersAt_1 : decode cX7_numbersAt 1 = .ok (.getfield 7, 3) := by decide +kernel
theorem dX7_numbersAt_4 : decode cX7_numbersAt 4 = .ok (.iload_n 1, 1) := by decide +kernel
theorem dX7_numbersAt_5 : decode cX7_numbersAt 5 = .ok (.iaload, 1) := by decide +kernel
theorem dX7_numbersAt_6 : decode cX7_numbersAt 6 = .ok (.istore_n 3, 1) := by decide +kernel
theorem dX7_numbersAt_7 : decode cX7_numbersAt 7 = .ok (.iconst 0, 1) := by decide +kernel
theorem dX7_numbersAt_8 : decode cX7_numbersAt 8 = .ok (.istore 4, 2) := by decide +kernel
theorem dX7_numbersAt_10 : decode cX7_numbersAt 10 = .ok (.iconst 0, 1) := by decide +kernel
theorem dX7_numbersAt_11 : decode cX7_numbersAt 11 = .ok (.istore 5, 2) := by decide +kernel
theorem dX7_numbersAt_13 : decode cX7_numbersAt 13 = .ok (.iload 5, 2) := by decide +kernel
theorem dX7_numbersAt_15 : decode cX7_numbersAt 15 = .ok (.iload_n 2, 1) := by decide +kernel
theorem dX7_numbersAt_16 : decode cX7_numbersAt 16 = .ok (.if_icmp .ge 39, 3) := by decide +kernel
theorem dX7_numbersAt_19 : decode cX7_numbersAt 19 = .ok (.aload_n 0, 1) := by decide +kernel
theorem dX7_numbersAt_20 : decode cX7_numbersAt 20 = .ok (.getfield 7, 3) := by decide +kernel
theorem dX7_numbersAt_23 : decode cX7_numbersAt 23 = .ok (.iload_n 1, 1) := by decide +kernel
theorem dX7_numbersAt_24 : decode cX7_numbersAt 24 = .ok (.iload 5, 2) := by decide +kernel
theorem dX7_numbersAt_26 : decode cX7_numbersAt 26 = .ok (.iastore, 1) := by decide +kernel
theorem dX7_numbersAt_27 : decode cX7_numbersAt 27 = .ok (.iload 4, 2) := by decide +kernel
theorem dX7_numbersAt_29 : decode cX7_numbersAt 29 = .ok (.aload_n 0, 1) := by decide +kernel
theorem dX7_numbersAt_30 : decode cX7_numbersAt 30 = .ok (.iload 5, 2) := by decide +kernel
theorem dX7_numbersAt_32 : decode cX7_numbersAt 32 = .ok (.invokevirtual 257, 3) := by decide +kernel
theorem dX7_numbersAt_35 : decode cX7_numbersAt 35 = .ok (.ifCond .eq 10, 3) := by decide +kernel
theorem dX7_numbersAt_38 : decode cX7_numbersAt 38 = .ok (.iconst 1, 1) := by decide +kernel
theorem dX7_numbersAt_39 : decode cX7_numbersAt 39 = .ok (.iload 5, 2) := by decide +kernel
theorem dX7_numbersAt_41 : decode cX7_numbersAt 41 = .ok (.ishl, 1) := by decide +kernel
theorem dX7_numbersAt_42 : decode cX7_numbersAt 42 = .ok (.goto 4, 3) := by decide +kernel
theorem dX7_numbersAt_45 : decode cX7_numbersAt 45 = .ok (.iconst 0, 1) := by decide +kernel
theorem dX7_numbersAt_46 : decode cX7_numbersAt 46 = .ok (.ior, 1) := by decide +kernel
theorem dX7_numbersAt_47 : decode cX7_numbersAt 47 = .ok (.istore 4, 2) := by decide +kernel
theorem dX7_numbersAt_49 : decode cX7_numbersAt 49 = .ok (.iinc 5 1, 3) := by decide +kernel
theorem dX7_numbersAt_52 : decode cX7_numbersAt 52 = .ok (.goto (-39), 3) := by decide +kernel
theorem dX7_numbersAt_55 : decode cX7_numbersAt 55 = .ok (.aload_n 0, 1) := by decide +kernel
theorem dX7_numbersAt_56 : decode cX7_numbersAt 56 = .ok (.getfield 7, 3) := by decide +kernel
theorem dX7_numbersAt_59 : decode cX7_numbersAt 59 = .ok (.iload_n 1, 1) := by decide +kernel
theorem dX7_numbersAt_60 : decode cX7_numbersAt 60 = .ok (.iload_n 3, 1) := by decide +kernel
theorem dX7_numbersAt_61 : decode cX7_numbersAt 61 = .ok (.iastore, 1) := by decide +kernel
theorem dX7_numbersAt_62 : decode cX7_numbersAt 62 = .ok (.iload 4, 2) := by decide +kernel
theorem dX7_numbersAt_64 : decode cX7_numbersAt 64 = .ok (.ireturn, 1) := by decide +kernel
theorem dX7_kinds_0 : decode cX7_kinds 0 = .ok (.aload_n 0, 1) := by decide +kernel
theorem dX7_kinds_1 : decode cX7_kinds 1 = .ok (.iload_n 1, 1) := by decide +kernel
theorem dX7_kinds_2 : decode cX7_kinds 2 = .ok (.invokevirtual 160, 3) := by decide +kernel
theorem dX7_kinds_5 : decode cX7_kinds 5 = .ok (.ifCond .eq 12, 3) := by decide +kernel
theorem dX7_kinds_8 : decode cX7_kinds 8 = .ok (.aload_n 0, 1) := by decide +kernel
theorem dX7_kinds_9 : decode cX7_kinds 9 = .ok (.iload_n 1, 1) := by decide +kernel
theorem dX7_kinds_10 : decode cX7_kinds 10 = .ok (.iconst 4, 1) := by decide +kernel
theorem dX7_kinds_11 : decode cX7_kinds 11 = .ok (.invokevirtual 260, 3) := by decide +kernel
theorem dX7_kinds_14 : decode cX7_kinds 14 = .ok (.goto 4, 3) := by decide +kernel
theorem dX7_kinds_17 : decode cX7_kinds 17 = .ok (.iconst (-1), 1) := by decide +kernel
theorem dX7_kinds_18 : decode cX7_kinds 18 = .ok (.ireturn, 1) := by decide +kernel
theorem dX7_nerves_0 : decode cX7_nerves 0 = .ok (.aload_n 0, 1) := by decide +kernel
theorem dX7_nerves_1 : decode cX7_nerves 1 = .ok (.iload_n 1, 1) := by decide +kernel
theorem dX7_nerves_2 : decode cX7_nerves 2 = .ok (.invokevirtual 160, 3) := by decide +kernel
theorem dX7_nerves_5 : decode cX7_nerves 5 = .ok (.ifCond .eq 16, 3) := by decide +kernel
theorem dX7_nerves_8 : decode cX7_nerves 8 = .ok (.aload_n 0, 1) := by decide +kernel
theorem dX7_nerves_9 : decode cX7_nerves 9 = .ok (.bipush 8, 2) := by decide +kernel
theorem dX7_nerves_11 : decode cX7_nerves 11 = .ok (.iload_n 1, 1) := by decide +kernel
theorem dX7_nerves_12 : decode cX7_nerves 12 = .ok (.iadd, 1) := by decide +kernel
theorem dX7_nerves_13 : decode cX7_nerves 13 = .ok (.bipush 10, 2) := by decide +kernel
theorem dX7_nerves_15 : decode cX7_nerves 15 = .ok (.invokevirtual 260, 3) := by decide +kernel
theorem dX7_nerves_18 : decode cX7_nerves 18 = .ok (.goto 4, 3) := by decide +kernel
theorem dX7_nerves_21 : decode cX7_nerves 21 = .ok (.iconst (-1), 1) := by decide +kernel
theorem dX7_nerves_22 : decode cX7_nerves 22 = .ok (.ireturn, 1) := by decide +kernel
theorem dX7_ask_0 : decode cX7_ask 0 = .ok (.aload_n 0, 1) := by decide +kernel
theorem dX7_ask_1 : decode cX7_ask 1 = .ok (.iload_n 1, 1) := by decide +kernel
theorem dX7_ask_2 : decode cX7_ask 2 = .ok (.invokevirtual 160, 3) := by decide +kernel
theorem dX7_ask_5 : decode cX7_ask 5 = .ok (.ifCond .eq 13, 3) := by decide +kernel
theorem dX7_ask_8 : decode cX7_ask 8 = .ok (.iload_n 2, 1) := by decide +kernel
theorem dX7_ask_9 : decode cX7_ask 9 = .ok (.i2l, 1) := by decide +kernel
theorem dX7_ask_10 : decode cX7_ask 10 = .ok (.lconst 0, 1) := by decide +kernel
theorem dX7_ask_11 : decode cX7_ask 11 = .ok (.lconst 1, 1) := by decide +kernel
theorem dX7_ask_12 : decode cX7_ask 12 = .ok (.invokestatic 55, 3) := by decide +kernel
theorem dX7_ask_15 : decode cX7_ask 15 = .ok (.ifCond .ne 5, 3) := by decide +kernel
theorem dX7_ask_18 : decode cX7_ask 18 = .ok (.iconst (-1), 1) := by decide +kernel
theorem dX7_ask_19 : decode cX7_ask 19 = .ok (.ireturn, 1) := by decide +kernel
theorem dX7_ask_20 : decode cX7_ask 20 = .ok (.aload_n 0, 1) := by decide +kernel
theorem dX7_ask_21 : decode cX7_ask 21 = .ok (.bipush 8, 2) := by decide +kernel
theorem dX7_ask_23 : decode cX7_ask 23 = .ok (.iload_n 1, 1) := by decide +kernel
theorem dX7_ask_24 : decode cX7_ask 24 = .ok (.iadd, 1) := by decide +kernel
theorem dX7_ask_25 : decode cX7_ask 25 = .ok (.bipush 10, 2) := by decide +kernel
theorem dX7_ask_27 : decode cX7_ask 27 = .ok (.invokevirtual 260, 3) := by decide +kernel
theorem dX7_ask_30 : decode cX7_ask 30 = .ok (.istore_n 3, 1) := by decide +kernel
theorem dX7_ask_31 : decode cX7_ask 31 = .ok (.iload_n 3, 1) := by decide +kernel
theorem dX7_ask_32 : decode cX7_ask 32 = .ok (.invokestatic 199, 3) := by decide +kernel
theorem dX7_ask_35 : decode cX7_ask 35 = .ok (.istore 4, 2) := by decide +kernel
theorem dX7_ask_37 : decode cX7_ask 37 = .ok (.iload 4, 2) := by decide +kernel
theorem dX7_ask_39 : decode cX7_ask 39 = .ok (.istore 5, 2) := by decide +kernel
theorem dX7_ask_41 : decode cX7_ask 41 = .ok (.bipush (-4), 2) := by decide +kernel
theorem dX7_ask_43 : decode cX7_ask 43 = .ok (.istore 6, 2) := by decide +kernel
theorem dX7_ask_45 : decode cX7_ask 45 = .ok (.iconst 0, 1) := by decide +kernel
theorem dX7_ask_46 : decode cX7_ask 46 = .ok (.istore 7, 2) := by decide +kernel
theorem dX7_ask_48 : decode cX7_ask 48 = .ok (.iload 7, 2) := by decide +kernel
theorem dX7_ask_50 : decode cX7_ask 50 = .ok (.bipush 40, 2) := by decide +kernel
theorem dX7_ask_52 : decode cX7_ask 52 = .ok (.if_icmp .gt 118, 3) := by decide +kernel
theorem dX7_ask_55 : decode cX7_ask 55 = .ok (.iconst 0, 1) := by decide +kernel
theorem dX7_ask_56 : decode cX7_ask 56 = .ok (.istore 8, 2) := by decide +kernel
theorem dX7_ask_58 : decode cX7_ask 58 = .ok (.iconst 0, 1) := by decide +kernel
theorem dX7_ask_59 : decode cX7_ask 59 = .ok (.istore 9, 2) := by decide +kernel
theorem dX7_ask_61 : decode cX7_ask 61 = .ok (.iload 9, 2) := by decide +kernel
theorem dX7_ask_63 : decode cX7_ask 63 = .ok (.bipush 9, 2) := by decide +kernel
theorem dX7_ask_65 : decode cX7_ask 65 = .ok (.if_icmp .gt 45, 3) := by decide +kernel
theorem dX7_ask_68 : decode cX7_ask 68 = .ok (.iload 8, 2) := by decide +kernel
theorem dX7_ask_70 : decode cX7_ask 70 = .ok (.iload_n 3, 1) := by decide +kernel
theorem dX7_ask_71 : decode cX7_ask 71 = .ok (.iload 9, 2) := by decide +kernel
theorem dX7_ask_73 : decode cX7_ask 73 = .ok (.ishr, 1) := by decide +kernel
theorem dX7_ask_74 : decode cX7_ask 74 = .ok (.iconst 1, 1) := by decide +kernel
theorem dX7_ask_75 : decode cX7_ask 75 = .ok (.iand, 1) := by decide +kernel
theorem dX7_ask_76 : decode cX7_ask 76 = .ok (.iconst 1, 1) := by decide +kernel
theorem dX7_ask_77 : decode cX7_ask 77 = .ok (.if_icmp .ne 23, 3) := by decide +kernel
theorem dX7_ask_80 : decode cX7_ask 80 = .ok (.aload_n 0, 1) := by decide +kernel
theorem dX7_ask_81 : decode cX7_ask 81 = .ok (.getfield 37, 3) := by decide +kernel
theorem dX7_ask_84 : decode cX7_ask 84 = .ok (.bipush 41, 2) := by decide +kernel
theorem dX7_ask_86 : decode cX7_ask 86 = .ok (.iload 9, 2) := by decide +kernel
theorem dX7_ask_88 : decode cX7_ask 88 = .ok (.imul, 1) := by decide +kernel
theorem dX7_ask_89 : decode cX7_ask 89 = .ok (.iload 7, 2) := by decide +kernel
theorem dX7_ask_91 : decode cX7_ask 91 = .ok (.iadd, 1) := by decide +kernel
theorem dX7_ask_92 : decode cX7_ask 92 = .ok (.iaload, 1) := by decide +kernel
theorem dX7_ask_93 : decode cX7_ask 93 = .ok (.iload_n 1, 1) := by decide +kernel
theorem dX7_ask_94 : decode cX7_ask 94 = .ok (.ishr, 1) := by decide +kernel
theorem dX7_ask_95 : decode cX7_ask 95 = .ok (.iconst 1, 1) := by decide +kernel
theorem dX7_ask_96 : decode cX7_ask 96 = .ok (.iand, 1) := by decide +kernel
theorem dX7_ask_97 : decode cX7_ask 97 = .ok (.goto 4, 3) := by decide +kernel
theorem dX7_ask_100 : decode cX7_ask 100 = .ok (.iconst 0, 1) := by decide +kernel
theorem dX7_ask_101 : decode cX7_ask 101 = .ok (.iadd, 1) := by decide +kernel
theorem dX7_ask_102 : decode cX7_ask 102 = .ok (.istore 8, 2) := by decide +kernel
theorem dX7_ask_104 : decode cX7_ask 104 = .ok (.iinc 9 1, 3) := by decide +kernel
theorem dX7_ask_107 : decode cX7_ask 107 = .ok (.goto (-46), 3) := by decide +kernel
theorem dX7_ask_110 : decode cX7_ask 110 = .ok (.iload 8, 2) := by decide +kernel
theorem dX7_ask_112 : decode cX7_ask 112 = .ok (.iload 4, 2) := by decide +kernel
theorem dX7_ask_114 : decode cX7_ask 114 = .ok (.iload 8, 2) := by decide +kernel
theorem dX7_ask_116 : decode cX7_ask 116 = .ok (.isub, 1) := by decide +kernel
theorem dX7_ask_117 : decode cX7_ask 117 = .ok (.if_icmp .le 8, 3) := by decide +kernel
theorem dX7_ask_120 : decode cX7_ask 120 = .ok (.iload 8, 2) := by decide +kernel
theorem dX7_ask_122 : decode cX7_ask 122 = .ok (.goto 8, 3) := by decide +kernel
theorem dX7_ask_125 : decode cX7_ask 125 = .ok (.iload 4, 2) := by decide +kernel
theorem dX7_ask_127 : decode cX7_ask 127 = .ok (.iload 8, 2) := by decide +kernel
theorem dX7_ask_129 : decode cX7_ask 129 = .ok (.isub, 1) := by decide +kernel
theorem dX7_ask_130 : decode cX7_ask 130 = .ok (.istore 9, 2) := by decide +kernel
theorem dX7_ask_132 : decode cX7_ask 132 = .ok (.iload 9, 2) := by decide +kernel
theorem dX7_ask_134 : decode cX7_ask 134 = .ok (.iload 5, 2) := by decide +kernel
theorem dX7_ask_136 : decode cX7_ask 136 = .ok (.if_icmp .ge 8, 3) := by decide +kernel
theorem dX7_ask_139 : decode cX7_ask 139 = .ok (.iload 7, 2) := by decide +kernel
theorem dX7_ask_141 : decode cX7_ask 141 = .ok (.goto 5, 3) := by decide +kernel
theorem dX7_ask_144 : decode cX7_ask 144 = .ok (.iload 6, 2) := by decide +kernel
theorem dX7_ask_146 : decode cX7_ask 146 = .ok (.istore 6, 2) := by decide +kernel
theorem dX7_ask_148 : decode cX7_ask 148 = .ok (.iload 9, 2) := by decide +kernel
theorem dX7_ask_150 : decode cX7_ask 150 = .ok (.iload 5, 2) := by decide +kernel
theorem dX7_ask_152 : decode cX7_ask 152 = .ok (.if_icmp .ge 8, 3) := by decide +kernel
theorem dX7_ask_155 : decode cX7_ask 155 = .ok (.iload 9, 2) := by decide +kernel
theorem dX7_ask_157 : decode cX7_ask 157 = .ok (.goto 5, 3) := by decide +kernel
theorem dX7_ask_160 : decode cX7_ask 160 = .ok (.iload 5, 2) := by decide +kernel
theorem dX7_ask_162 : decode cX7_ask 162 = .ok (.istore 5, 2) := by decide +kernel
theorem dX7_ask_164 : decode cX7_ask 164 = .ok (.iinc 7 1, 3) := by decide +kernel
theorem dX7_ask_167 : decode cX7_ask 167 = .ok (.goto (-119), 3) := by decide +kernel
theorem dX7_ask_170 : decode cX7_ask 170 = .ok (.iload 6, 2) := by decide +kernel
theorem dX7_ask_172 : decode cX7_ask 172 = .ok (.bipush (-4), 2) := by decide +kernel
theorem dX7_ask_174 : decode cX7_ask 174 = .ok (.if_icmp .eq 7, 3) := by decide +kernel
theorem dX7_ask_177 : decode cX7_ask 177 = .ok (.iload_n 2, 1) := by decide +kernel
theorem dX7_ask_178 : decode cX7_ask 178 = .ok (.ifCond .ne 8, 3) := by decide +kernel
theorem dX7_ask_181 : decode cX7_ask 181 = .ok (.iload 6, 2) := by decide +kernel
theorem dX7_ask_183 : decode cX7_ask 183 = .ok (.goto 5, 3) := by decide +kernel
theorem dX7_ask_186 : decode cX7_ask 186 = .ok (.iload 5, 2) := by decide +kernel
theorem dX7_ask_188 : decode cX7_ask 188 = .ok (.ireturn, 1) := by decide +kernel
theorem dX7_season_0 : decode cX7_season 0 = .ok (.iload_n 2, 1) := by decide +kernel
theorem dX7_season_1 : decode cX7_season 1 = .ok (.i2l, 1) := by decide +kernel
theorem dX7_season_2 : decode cX7_season 2 = .ok (.lconst 1, 1) := by decide +kernel
theorem dX7_season_3 : decode cX7_season 3 = .ok (.ldc2_w 129, 3) := by decide +kernel
theorem dX7_season_6 : decode cX7_season 6 = .ok (.invokestatic 55, 3) := by decide +kernel
theorem dX7_season_9 : decode cX7_season 9 = .ok (.ifCond .eq 13, 3) := by decide +kernel
theorem dX7_season_12 : decode cX7_season 12 = .ok (.iload_n 3, 1) := by decide +kernel
theorem dX7_season_13 : decode cX7_season 13 = .ok (.i2l, 1) := by decide +kernel
theorem dX7_season_14 : decode cX7_season 14 = .ok (.lconst 0, 1) := by decide +kernel
theorem dX7_season_15 : decode cX7_season 15 = .ok (.lconst 1, 1) := by decide +kernel
theorem dX7_season_16 : decode cX7_season 16 = .ok (.invokestatic 55, 3) := by decide +kernel
theorem dX7_season_19 : decode cX7_season 19 = .ok (.ifCond .ne 5, 3) := by decide +kernel
theorem dX7_season_22 : decode cX7_season 22 = .ok (.iconst (-1), 1) := by decide +kernel
theorem dX7_season_23 : decode cX7_season 23 = .ok (.ireturn, 1) := by decide +kernel
theorem dX7_season_24 : decode cX7_season 24 = .ok (.aload_n 0, 1) := by decide +kernel
theorem dX7_season_25 : decode cX7_season 25 = .ok (.getfield 7, 3) := by decide +kernel
theorem dX7_season_28 : decode cX7_season 28 = .ok (.bipush 24, 2) := by decide +kernel
theorem dX7_season_30 : decode cX7_season 30 = .ok (.iaload, 1) := by decide +kernel
theorem dX7_season_31 : decode cX7_season 31 = .ok (.ifCond .ne 6, 3) := by decide +kernel
theorem dX7_season_34 : decode cX7_season 34 = .ok (.bipush (-2), 2) := by decide +kernel
theorem dX7_season_36 : decode cX7_season 36 = .ok (.ireturn, 1) := by decide +kernel
theorem dX7_season_37 : decode cX7_season 37 = .ok (.aload_n 0, 1) := by decide +kernel
theorem dX7_season_38 : decode cX7_season 38 = .ok (.iconst 0, 1) := by decide +kernel
theorem dX7_season_39 : decode cX7_season 39 = .ok (.sipush 212, 3) := by decide +kernel
theorem dX7_season_42 : decode cX7_season 42 = .ok (.invokevirtual 205, 3) := by decide +kernel
theorem dX7_season_45 : decode cX7_season 45 = .ok (.iconst 0, 1) := by decide +kernel
theorem dX7_season_46 : decode cX7_season 46 = .ok (.istore 4, 2) := by decide +kernel
theorem dX7_season_48 : decode cX7_season 48 = .ok (.iload_n 1, 1) := by decide +kernel
theorem dX7_season_49 : decode cX7_season 49 = .ok (.istore 5, 2) := by decide +kernel
theorem dX7_season_51 : decode cX7_season 51 = .ok (.iconst 0, 1) := by decide +kernel
theorem dX7_season_52 : decode cX7_season 52 = .ok (.istore 6, 2) := by decide +kernel
theorem dX7_season_54 : decode cX7_season 54 = .ok (.iload 6, 2) := by decide +kernel
theorem dX7_season_56 : decode cX7_season 56 = .ok (.iload_n 2, 1) := by decide +kernel
theorem dX7_season_57 : decode cX7_season 57 = .ok (.if_icmp .ge 55, 3) := by decide +kernel
theorem dX7_season_60 : decode cX7_season 60 = .ok (.iload 5, 2) := by decide +kernel
theorem dX7_season_62 : decode cX7_season 62 = .ok (.ldc_w 263, 3) := by decide +kernel
theorem dX7_season_65 : decode cX7_season 65 = .ok (.imul, 1) := by decide +kernel
theorem dX7_season_66 : decode cX7_season 66 = .ok (.sipush 12345, 3) := by decide +kernel
theorem dX7_season_69 : decode cX7_season 69 = .ok (.iadd, 1) := by decide +kernel
theorem dX7_season_70 : decode cX7_season 70 = .ok (.istore 5, 2) := by decide +kernel
theorem dX7_season_72 : decode cX7_season 72 = .ok (.iload 4, 2) := by decide +kernel
theorem dX7_season_74 : decode cX7_season 74 = .ok (.aload_n 0, 1) := by decide +kernel
theorem dX7_season_75 : decode cX7_season 75 = .ok (.sipush 212, 3) := by decide +kernel
theorem dX7_season_78 : decode cX7_season 78 = .ok (.iload 5, 2) := by decide +kernel
theorem dX7_season_80 : decode cX7_season 80 = .ok (.bipush 16, 2) := by decide +kernel
theorem dX7_season_82 : decode cX7_season 82 = .ok (.ishr, 1) := by decide +kernel
theorem dX7_season_83 : decode cX7_season 83 = .ok (.sipush 32767, 3) := by decide +kernel
theorem dX7_season_86 : decode cX7_season 86 = .ok (.iand, 1) := by decide +kernel
theorem dX7_season_87 : decode cX7_season 87 = .ok (.bipush 10, 2) := by decide +kernel
theorem dX7_season_89 : decode cX7_season 89 = .ok (.irem, 1) := by decide +kernel
theorem dX7_season_90 : decode cX7_season 90 = .ok (.aload_n 0, 1) := by decide +kernel
theorem dX7_season_91 : decode cX7_season 91 = .ok (.sipush 212, 3) := by decide +kernel
theorem dX7_season_94 : decode cX7_season 94 = .ok (.invokevirtual 151, 3) := by decide +kernel
theorem dX7_season_97 : decode cX7_season 97 = .ok (.invokevirtual 154, 3) := by decide +kernel
theorem dX7_season_100 : decode cX7_season 100 = .ok (.invokestatic 199, 3) := by decide +kernel
theorem dX7_season_103 : decode cX7_season 103 = .ok (.iadd, 1) := by decide +kernel
theorem dX7_season_104 : decode cX7_season 104 = .ok (.istore 4, 2) := by decide +kernel
theorem dX7_season_106 : decode cX7_season 106 = .ok (.iinc 6 1, 3) := by decide +kernel
theorem dX7_season_109 : decode cX7_season 109 = .ok (.goto (-55), 3) := by decide +kernel
theorem dX7_season_112 : decode cX7_season 112 = .ok (.iload_n 3, 1) := by decide +kernel
theorem dX7_season_113 : decode cX7_season 113 = .ok (.ifCond .ne 8, 3) := by decide +kernel
theorem dX7_season_116 : decode cX7_season 116 = .ok (.iload 4, 2) := by decide +kernel
theorem dX7_season_118 : decode cX7_season 118 = .ok (.goto 12, 3) := by decide +kernel
theorem dX7_season_121 : decode cX7_season 121 = .ok (.aload_n 0, 1) := by decide +kernel
theorem dX7_season_122 : decode cX7_season 122 = .ok (.sipush 212, 3) := by decide +kernel
theorem dX7_season_125 : decode cX7_season 125 = .ok (.bipush 16, 2) := by decide +kernel
theorem dX7_season_127 : decode cX7_season 127 = .ok (.invokevirtual 157, 3) := by decide +kernel
theorem dX7_season_130 : decode cX7_season 130 = .ok (.ireturn, 1) := by decide +kernel
theorem dX7_keep_0 : decode cX7_keep 0 = .ok (.iload_n 1, 1) := by decide +kernel
theorem dX7_keep_1 : decode cX7_keep 1 = .ok (.i2l, 1) := by decide +kernel
theorem dX7_keep_2 : decode cX7_keep 2 = .ok (.lconst 0, 1) := by decide +kernel
theorem dX7_keep_3 : decode cX7_keep 3 = .ok (.lconst 1, 1) := by decide +kernel
theorem dX7_keep_4 : decode cX7_keep 4 = .ok (.invokestatic 55, 3) := by decide +kernel
theorem dX7_keep_7 : decode cX7_keep 7 = .ok (.ifCond .ne 5, 3) := by decide +kernel
theorem dX7_keep_10 : decode cX7_keep 10 = .ok (.iconst (-1), 1) := by decide +kernel
theorem dX7_keep_11 : decode cX7_keep 11 = .ok (.ireturn, 1) := by decide +kernel
theorem dX7_keep_12 : decode cX7_keep 12 = .ok (.aload_n 0, 1) := by decide +kernel
theorem dX7_keep_13 : decode cX7_keep 13 = .ok (.iconst 0, 1) := by decide +kernel
theorem dX7_keep_14 : decode cX7_keep 14 = .ok (.bipush 53, 2) := by decide +kernel
theorem dX7_keep_16 : decode cX7_keep 16 = .ok (.iload_n 1, 1) := by decide +kernel
theorem dX7_keep_17 : decode cX7_keep 17 = .ok (.iconst 1, 1) := by decide +kernel
theorem dX7_keep_18 : decode cX7_keep 18 = .ok (.iadd, 1) := by decide +kernel
theorem dX7_keep_19 : decode cX7_keep 19 = .ok (.imul, 1) := by decide +kernel
theorem dX7_keep_20 : decode cX7_keep 20 = .ok (.invokevirtual 205, 3) := by decide +kernel
theorem dX7_keep_23 : decode cX7_keep 23 = .ok (.aload_n 0, 1) := by decide +kernel
theorem dX7_keep_24 : decode cX7_keep 24 = .ok (.getfield 40, 3) := by decide +kernel
theorem dX7_keep_27 : decode cX7_keep 27 = .ok (.iload_n 1, 1) := by decide +kernel
theorem dX7_keep_28 : decode cX7_keep 28 = .ok (.baload, 1) := by decide +kernel
theorem dX7_keep_29 : decode cX7_keep 29 = .ok (.ifCond .eq 7, 3) := by decide +kernel
theorem dX7_keep_32 : decode cX7_keep 32 = .ok (.iconst 1, 1) := by decide +kernel
theorem dX7_keep_33 : decode cX7_keep 33 = .ok (.goto 4, 3) := by decide +kernel
theorem dX7_keep_36 : decode cX7_keep 36 = .ok (.iconst 0, 1) := by decide +kernel
theorem dX7_keep_37 : decode cX7_keep 37 = .ok (.istore_n 2, 1) := by decide +kernel
theorem dX7_keep_38 : decode cX7_keep 38 = .ok (.aload_n 0, 1) := by decide +kernel
theorem dX7_keep_39 : decode cX7_keep 39 = .ok (.getfield 40, 3) := by decide +kernel
theorem dX7_keep_42 : decode cX7_keep 42 = .ok (.iload_n 1, 1) := by decide +kernel
theorem dX7_keep_43 : decode cX7_keep 43 = .ok (.iconst 1, 1) := by decide +kernel
theorem dX7_keep_44 : decode cX7_keep 44 = .ok (.bastore, 1) := by decide +kernel
theorem dX7_keep_45 : decode cX7_keep 45 = .ok (.iload_n 2, 1) := by decide +kernel
theorem dX7_keep_46 : decode cX7_keep 46 = .ok (.ireturn, 1) := by decide +kernel
theorem dX7_back_0 : decode cX7_back 0 = .ok (.iload_n 1, 1) := by decide +kernel
theorem dX7_back_1 : decode cX7_back 1 = .ok (.i2l, 1) := by decide +kernel
theorem dX7_back_2 : decode cX7_back 2 = .ok (.lconst 0, 1) := by decide +kernel
theorem dX7_back_3 : decode cX7_back 3 = .ok (.lconst 1, 1) := by decide +kernel
theorem dX7_back_4 : decode cX7_back 4 = .ok (.invokestatic 55, 3) := by decide +kernel
theorem dX7_back_7 : decode cX7_back 7 = .ok (.ifCond .ne 5, 3) := by decide +kernel
theorem dX7_back_10 : decode cX7_back 10 = .ok (.iconst (-1), 1) := by decide +kernel
theorem dX7_back_11 : decode cX7_back 11 = .ok (.ireturn, 1) := by decide +kernel
theorem dX7_back_12 : decode cX7_back 12 = .ok (.aload_n 0, 1) := by decide +kernel
theorem dX7_back_13 : decode cX7_back 13 = .ok (.getfield 40, 3) := by decide +kernel
theorem dX7_back_16 : decode cX7_back 16 = .ok (.iload_n 1, 1) := by decide +kernel
theorem dX7_back_17 : decode cX7_back 17 = .ok (.baload, 1) := by decide +kernel
theorem dX7_back_18 : decode cX7_back 18 = .ok (.ifCond .ne 6, 3) := by decide +kernel
theorem dX7_back_21 : decode cX7_back 21 = .ok (.bipush (-2), 2) := by decide +kernel
theorem dX7_back_23 : decode cX7_back 23 = .ok (.ireturn, 1) := by decide +kernel
theorem dX7_back_24 : decode cX7_back 24 = .ok (.aload_n 0, 1) := by decide +kernel
theorem dX7_back_25 : decode cX7_back 25 = .ok (.bipush 53, 2) := by decide +kernel
theorem dX7_back_27 : decode cX7_back 27 = .ok (.iload_n 1, 1) := by decide +kernel
theorem dX7_back_28 : decode cX7_back 28 = .ok (.iconst 1, 1) := by decide +kernel
theorem dX7_back_29 : decode cX7_back 29 = .ok (.iadd, 1) := by decide +kernel
theorem dX7_back_30 : decode cX7_back 30 = .ok (.imul, 1) := by decide +kernel
theorem dX7_back_31 : decode cX7_back 31 = .ok (.iconst 0, 1) := by decide +kernel
theorem dX7_back_32 : decode cX7_back 32 = .ok (.invokevirtual 205, 3) := by decide +kernel
theorem dX7_back_35 : decode cX7_back 35 = .ok (.aload_n 0, 1) := by decide +kernel
theorem dX7_back_36 : decode cX7_back 36 = .ok (.getfield 7, 3) := by decide +kernel
theorem dX7_back_39 : decode cX7_back 39 = .ok (.bipush 52, 2) := by decide +kernel
theorem dX7_back_41 : decode cX7_back 41 = .ok (.iaload, 1) := by decide +kernel
theorem dX7_back_42 : decode cX7_back 42 = .ok (.ireturn, 1) := by decide +kernel
theorem dX7_sheet_0 : decode cX7_sheet 0 = .ok (.iload_n 1, 1) := by decide +kernel
theorem dX7_sheet_1 : decode cX7_sheet 1 = .ok (.i2l, 1) := by decide +kernel
theorem dX7_sheet_2 : decode cX7_sheet 2 = .ok (.lconst 0, 1) := by decide +kernel
theorem dX7_sheet_3 : decode cX7_sheet 3 = .ok (.ldc2_w 169, 3) := by decide +kernel
theorem dX7_sheet_6 : decode cX7_sheet 6 = .ok (.invokestatic 55, 3) := by decide +kernel
theorem dX7_sheet_9 : decode cX7_sheet 9 = .ok (.ifCond .eq 21, 3) := by decide +kernel
theorem dX7_sheet_12 : decode cX7_sheet 12 = .ok (.iload_n 2, 1) := by decide +kernel
theorem dX7_sheet_13 : decode cX7_sheet 13 = .ok (.i2l, 1) := by decide +kernel
theorem dX7_sheet_14 : decode cX7_sheet 14 = .ok (.lconst 0, 1) := by decide +kernel
theorem dX7_sheet_15 : decode cX7_sheet 15 = .ok (.ldc2_w 224, 3) := by decide +kernel
theorem dX7_sheet_18 : decode cX7_sheet 18 = .ok (.invokestatic 55, 3) := by decide +kernel
theorem dX7_sheet_21 : decode cX7_sheet 21 = .ok (.ifCond .eq 9, 3) := by decide +kernel
theorem dX7_sheet_24 : decode cX7_sheet 24 = .ok (.iload_n 3, 1) := by decide +kernel
theorem dX7_sheet_25 : decode cX7_sheet 25 = .ok (.bipush 40, 2) := by decide +kernel
theorem dX7_sheet_27 : decode cX7_sheet 27 = .ok (.if_icmp .le 5, 3) := by decide +kernel
theorem dX7_sheet_30 : decode cX7_sheet 30 = .ok (.iconst (-1), 1) := by decide +kernel
theorem dX7_sheet_31 : decode cX7_sheet 31 = .ok (.ireturn, 1) := by decide +kernel
theorem dX7_sheet_32 : decode cX7_sheet 32 = .ok (.iload_n 3, 1) := by decide +kernel
theorem dX7_sheet_33 : decode cX7_sheet 33 = .ok (.ifCond .ge 6, 3) := by decide +kernel
theorem dX7_sheet_36 : decode cX7_sheet 36 = .ok (.bipush (-14), 2) := by decide +kernel
theorem dX7_sheet_38 : decode cX7_sheet 38 = .ok (.ireturn, 1) := by decide +kernel
theorem dX7_sheet_39 : decode cX7_sheet 39 = .ok (.aload_n 0, 1) := by decide +kernel
theorem dX7_sheet_40 : decode cX7_sheet 40 = .ok (.getfield 44, 3) := by decide +kernel
theorem dX7_sheet_43 : decode cX7_sheet 43 = .ok (.iload_n 1, 1) := by decide +kernel
theorem dX7_sheet_44 : decode cX7_sheet 44 = .ok (.iload_n 2, 1) := by decide +kernel
theorem dX7_sheet_45 : decode cX7_sheet 45 = .ok (.iastore, 1) := by decide +kernel
theorem dX7_sheet_46 : decode cX7_sheet 46 = .ok (.aload_n 0, 1) := by decide +kernel
theorem dX7_sheet_47 : decode cX7_sheet 47 = .ok (.getfield 47, 3) := by decide +kernel
theorem dX7_sheet_50 : decode cX7_sheet 50 = .ok (.iload_n 1, 1) := by decide +kernel
theorem dX7_sheet_51 : decode cX7_sheet 51 = .ok (.iload_n 3, 1) := by decide +kernel
theorem dX7_sheet_52 : decode cX7_sheet 52 = .ok (.iastore, 1) := by decide +kernel
theorem dX7_sheet_53 : decode cX7_sheet 53 = .ok (.iconst 0, 1) := by decide +kernel
theorem dX7_sheet_54 : decode cX7_sheet 54 = .ok (.istore 4, 2) := by decide +kernel
theorem dX7_sheet_56 : decode cX7_sheet 56 = .ok (.iload 4, 2) := by decide +kernel
theorem dX7_sheet_58 : decode cX7_sheet 58 = .ok (.bipush 40, 2) := by decide +kernel
theorem dX7_sheet_60 : decode cX7_sheet 60 = .ok (.if_icmp .ge 22, 3) := by decide +kernel
theorem dX7_sheet_63 : decode cX7_sheet 63 = .ok (.aload_n 0, 1) := by decide +kernel
theorem dX7_sheet_64 : decode cX7_sheet 64 = .ok (.getfield 50, 3) := by decide +kernel
theorem dX7_sheet_67 : decode cX7_sheet 67 = .ok (.bipush 40, 2) := by decide +kernel
theorem dX7_sheet_69 : decode cX7_sheet 69 = .ok (.iload_n 1, 1) := by decide +kernel
theorem dX7_sheet_70 : decode cX7_sheet 70 = .ok (.imul, 1) := by decide +kernel
theorem dX7_sheet_71 : decode cX7_sheet 71 = .ok (.iload 4, 2) := by decide +kernel
theorem dX7_sheet_73 : decode cX7_sheet 73 = .ok (.iadd, 1) := by decide +kernel
theorem dX7_sheet_74 : decode cX7_sheet 74 = .ok (.iconst 0, 1) := by decide +kernel
theorem dX7_sheet_75 : decode cX7_sheet 75 = .ok (.iastore, 1) := by decide +kernel
theorem dX7_sheet_76 : decode cX7_sheet 76 = .ok (.iinc 4 1, 3) := by decide +kernel
theorem dX7_sheet_79 : decode cX7_sheet 79 = .ok (.goto (-23), 3) := by decide +kernel
theorem dX7_sheet_82 : decode cX7_sheet 82 = .ok (.iconst 1, 1) := by decide +kernel
theorem dX7_sheet_83 : decode cX7_sheet 83 = .ok (.ireturn, 1) := by decide +kernel
theorem dX7_lay_0 : decode cX7_lay 0 = .ok (.iload_n 1, 1) := by decide +kernel
theorem dX7_lay_1 : decode cX7_lay 1 = .ok (.i2l, 1) := by decide +kernel
theorem dX7_lay_2 : decode cX7_lay 2 = .ok (.lconst 0, 1) := by decide +kernel
theorem dX7_lay_3 : decode cX7_lay 3 = .ok (.ldc2_w 169, 3) := by decide +kernel
theorem dX7_lay_6 : decode cX7_lay 6 = .ok (.invokestatic 55, 3) := by decide +kernel
theorem dX7_lay_9 : decode cX7_lay 9 = .ok (.ifCond .ne 5, 3) := by decide +kernel
theorem dX7_lay_12 : decode cX7_lay 12 = .ok (.iconst (-1), 1) := by decide +kernel
theorem dX7_lay_13 : decode cX7_lay 13 = .ok (.ireturn, 1) := by decide +kernel
theorem dX7_lay_14 : decode cX7_lay 14 = .ok (.aload_n 0, 1) := by decide +kernel
theorem dX7_lay_15 : decode cX7_lay 15 = .ok (.getfield 44, 3) := by decide +kernel
theorem dX7_lay_18 : decode cX7_lay 18 = .ok (.iload_n 1, 1) := by decide +kernel
theorem dX7_lay_19 : decode cX7_lay 19 = .ok (.iaload, 1) := by decide +kernel
theorem dX7_lay_20 : decode cX7_lay 20 = .ok (.bipush (-4), 2) := by decide +kernel
theorem dX7_lay_22 : decode cX7_lay 22 = .ok (.if_icmp .ne 6, 3) := by decide +kernel
theorem dX7_lay_25 : decode cX7_lay 25 = .ok (.bipush (-11), 2) := by decide +kernel
theorem dX7_lay_27 : decode cX7_lay 27 = .ok (.ireturn, 1) := by decide +kernel
theorem dX7_lay_28 : decode cX7_lay 28 = .ok (.iload_n 2, 1) := by decide +kernel
theorem dX7_lay_29 : decode cX7_lay 29 = .ok (.i2l, 1) := by decide +kernel
theorem dX7_lay_30 : decode cX7_lay 30 = .ok (.lconst 0, 1) := by decide +kernel
theorem dX7_lay_31 : decode cX7_lay 31 = .ok (.aload_n 0, 1) := by decide +kernel
theorem dX7_lay_32 : decode cX7_lay 32 = .ok (.getfield 47, 3) := by decide +kernel
theorem dX7_lay_35 : decode cX7_lay 35 = .ok (.iload_n 1, 1) := by decide +kernel
theorem dX7_lay_36 : decode cX7_lay 36 = .ok (.iaload, 1) := by decide +kernel
theorem dX7_lay_37 : decode cX7_lay 37 = .ok (.iconst 1, 1) := by decide +kernel
theorem dX7_lay_38 : decode cX7_lay 38 = .ok (.isub, 1) := by decide +kernel
theorem dX7_lay_39 : decode cX7_lay 39 = .ok (.i2l, 1) := by decide +kernel
theorem dX7_lay_40 : decode cX7_lay 40 = .ok (.invokestatic 55, 3) := by decide +kernel
theorem dX7_lay_43 : decode cX7_lay 43 = .ok (.ifCond .ne 6, 3) := by decide +kernel
theorem dX7_lay_46 : decode cX7_lay 46 = .ok (.bipush (-12), 2) := by decide +kernel
theorem dX7_lay_48 : decode cX7_lay 48 = .ok (.ireturn, 1) := by decide +kernel
theorem dX7_lay_49 : decode cX7_lay 49 = .ok (.aload_n 0, 1) := by decide +kernel
theorem dX7_lay_50 : decode cX7_lay 50 = .ok (.getfield 50, 3) := by decide +kernel
theorem dX7_lay_53 : decode cX7_lay 53 = .ok (.bipush 40, 2) := by decide +kernel
theorem dX7_lay_55 : decode cX7_lay 55 = .ok (.iload_n 1, 1) := by decide +kernel
theorem dX7_lay_56 : decode cX7_lay 56 = .ok (.imul, 1) := by decide +kernel
theorem dX7_lay_57 : decode cX7_lay 57 = .ok (.iload_n 2, 1) := by decide +kernel
theorem dX7_lay_58 : decode cX7_lay 58 = .ok (.iadd, 1) := by decide +kernel
theorem dX7_lay_59 : decode cX7_lay 59 = .ok (.aload_n 0, 1) := by decide +kernel
theorem dX7_lay_60 : decode cX7_lay 60 = .ok (.getfield 44, 3) := by decide +kernel
theorem dX7_lay_63 : decode cX7_lay 63 = .ok (.iload_n 1, 1) := by decide +kernel
theorem dX7_lay_64 : decode cX7_lay 64 = .ok (.iaload, 1) := by decide +kernel
theorem dX7_lay_65 : decode cX7_lay 65 = .ok (.ifCond .ne 13, 3) := by decide +kernel
theorem dX7_lay_68 : decode cX7_lay 68 = .ok (.iload_n 3, 1) := by decide +kernel
theorem dX7_lay_69 : decode cX7_lay 69 = .ok (.bipush 16, 2) := by decide +kernel
theorem dX7_lay_71 : decode cX7_lay 71 = .ok (.ishl, 1) := by decide +kernel
theorem dX7_lay_72 : decode cX7_lay 72 = .ok (.bipush 16, 2) := by decide +kernel
theorem dX7_lay_74 : decode cX7_lay 74 = .ok (.ishr, 1) := by decide +kernel
theorem dX7_lay_75 : decode cX7_lay 75 = .ok (.goto 4, 3) := by decide +kernel
theorem dX7_lay_78 : decode cX7_lay 78 = .ok (.iload_n 3, 1) := by decide +kernel
theorem dX7_lay_79 : decode cX7_lay 79 = .ok (.iastore, 1) := by decide +kernel
theorem dX7_lay_80 : decode cX7_lay 80 = .ok (.iconst 1, 1) := by decide +kernel
theorem dX7_lay_81 : decode cX7_lay 81 = .ok (.ireturn, 1) := by decide +kernel
theorem dX7_read_0 : decode cX7_read 0 = .ok (.iload_n 1, 1) := by decide +kernel
theorem dX7_read_1 : decode cX7_read 1 = .ok (.i2l, 1) := by decide +kernel
theorem dX7_read_2 : decode cX7_read 2 = .ok (.lconst 0, 1) := by decide +kernel
theorem dX7_read_3 : decode cX7_read 3 = .ok (.ldc2_w 169, 3) := by decide +kernel
theorem dX7_read_6 : decode cX7_read 6 = .ok (.invokestatic 55, 3) := by decide +kernel
theorem dX7_read_9 : decode cX7_read 9 = .ok (.ifCond .eq 28, 3) := by decide +kernel
theorem dX7_read_12 : decode cX7_read 12 = .ok (.iload_n 2, 1) := by decide +kernel
theorem dX7_read_13 : decode cX7_read 13 = .ok (.i2l, 1) := by decide +kernel
theorem dX7_read_14 : decode cX7_read 14 = .ok (.lconst 0, 1) := by decide +kernel
theorem dX7_read_15 : decode cX7_read 15 = .ok (.ldc2_w 224, 3) := by decide +kernel
theorem dX7_read_18 : decode cX7_read 18 = .ok (.invokestatic 55, 3) := by decide +kernel
theorem dX7_read_21 : decode cX7_read 21 = .ok (.ifCond .eq 16, 3) := by decide +kernel
theorem dX7_read_24 : decode cX7_read 24 = .ok (.iload 4, 2) := by decide +kernel
theorem dX7_read_26 : decode cX7_read 26 = .ok (.i2l, 1) := by decide +kernel
theorem dX7_read_27 : decode cX7_read 27 = .ok (.lconst 0, 1) := by decide +kernel
theorem dX7_read_28 : decode cX7_read 28 = .ok (.ldc2_w 177, 3) := by decide +kernel
theorem dX7_read_31 : decode cX7_read 31 = .ok (.invokestatic 55, 3) := by decide +kernel
theorem dX7_read_34 : decode cX7_read 34 = .ok (.ifCond .ne 5, 3) := by decide +kernel
theorem dX7_read_37 : decode cX7_read 37 = .ok (.iconst (-1), 1) := by decide +kernel
theorem dX7_read_38 : decode cX7_read 38 = .ok (.ireturn, 1) := by decide +kernel
theorem dX7_read_39 : decode cX7_read 39 = .ok (.aload_n 0, 1) := by decide +kernel
theorem dX7_read_40 : decode cX7_read 40 = .ok (.iconst 0, 1) := by decide +kernel
theorem dX7_read_41 : decode cX7_read 41 = .ok (.sipush 159, 3) := by decide +kernel
theorem dX7_read_44 : decode cX7_read 44 = .ok (.invokevirtual 205, 3) := by decide +kernel
theorem dX7_read_47 : decode cX7_read 47 = .ok (.iconst 0, 1) := by decide +kernel
theorem dX7_read_48 : decode cX7_read 48 = .ok (.istore 5, 2) := by decide +kernel
theorem dX7_read_50 : decode cX7_read 50 = .ok (.iconst 0, 1) := by decide +kernel
theorem dX7_read_51 : decode cX7_read 51 = .ok (.istore 6, 2) := by decide +kernel
theorem dX7_read_53 : decode cX7_read 53 = .ok (.iconst 0, 1) := by decide +kernel
theorem dX7_read_54 : decode cX7_read 54 = .ok (.istore 7, 2) := by decide +kernel
theorem dX7_read_56 : decode cX7_read 56 = .ok (.iload 7, 2) := by decide +kernel
theorem dX7_read_58 : decode cX7_read 58 = .ok (.iconst 2, 1) := by decide +kernel
theorem dX7_read_59 : decode cX7_read 59 = .ok (.iload 4, 2) := by decide +kernel
theorem dX7_read_61 : decode cX7_read 61 = .ok (.imul, 1) := by decide +kernel
theorem dX7_read_62 : decode cX7_read 62 = .ok (.if_icmp .ge 136, 3) := by decide +kernel
theorem dX7_read_65 : decode cX7_read 65 = .ok (.iload 5, 2) := by decide +kernel
theorem dX7_read_67 : decode cX7_read 67 = .ok (.ifCond .ne 131, 3) := by decide +kernel
theorem dX7_read_70 : decode cX7_read 70 = .ok (.aload_n 0, 1) := by decide +kernel
theorem dX7_read_71 : decode cX7_read 71 = .ok (.getfield 44, 3) := by decide +kernel
theorem dX7_read_74 : decode cX7_read 74 = .ok (.iload_n 1, 1) := by decide +kernel
theorem dX7_read_75 : decode cX7_read 75 = .ok (.iaload, 1) := by decide +kernel
theorem dX7_read_76 : decode cX7_read 76 = .ok (.bipush (-4), 2) := by decide +kernel
theorem dX7_read_78 : decode cX7_read 78 = .ok (.if_icmp .ne 7, 3) := by decide +kernel
theorem dX7_read_81 : decode cX7_read 81 = .ok (.iconst 1, 1) := by decide +kernel
theorem dX7_read_82 : decode cX7_read 82 = .ok (.goto 44, 3) := by decide +kernel
theorem dX7_read_85 : decode cX7_read 85 = .ok (.aload_n 0, 1) := by decide +kernel
theorem dX7_read_86 : decode cX7_read 86 = .ok (.getfield 44, 3) := by decide +kernel
theorem dX7_read_89 : decode cX7_read 89 = .ok (.iload_n 1, 1) := by decide +kernel
theorem dX7_read_90 : decode cX7_read 90 = .ok (.iaload, 1) := by decide +kernel
theorem dX7_read_91 : decode cX7_read 91 = .ok (.iload_n 2, 1) := by decide +kernel
theorem dX7_read_92 : decode cX7_read 92 = .ok (.if_icmp .eq 7, 3) := by decide +kernel
theorem dX7_read_95 : decode cX7_read 95 = .ok (.iconst 3, 1) := by decide +kernel
theorem dX7_read_96 : decode cX7_read 96 = .ok (.goto 30, 3) := by decide +kernel
theorem dX7_read_99 : decode cX7_read 99 = .ok (.iload_n 3, 1) := by decide +kernel
theorem dX7_read_100 : decode cX7_read 100 = .ok (.i2l, 1) := by decide +kernel
theorem dX7_read_101 : decode cX7_read 101 = .ok (.iload 7, 2) := by decide +kernel
theorem dX7_read_103 : decode cX7_read 103 = .ok (.i2l, 1) := by decide +kernel
theorem dX7_read_104 : decode cX7_read 104 = .ok (.ladd, 1) := by decide +kernel
theorem dX7_read_105 : decode cX7_read 105 = .ok (.lconst 0, 1) := by decide +kernel
theorem dX7_read_106 : decode cX7_read 106 = .ok (.aload_n 0, 1) := by decide +kernel
theorem dX7_read_107 : decode cX7_read 107 = .ok (.getfield 47, 3) := by decide +kernel
theorem dX7_read_110 : decode cX7_read 110 = .ok (.iload_n 1, 1) := by decide +kernel
theorem dX7_read_111 : decode cX7_read 111 = .ok (.iaload, 1) := by decide +kernel
theorem dX7_read_112 : decode cX7_read 112 = .ok (.iconst 1, 1) := by decide +kernel
theorem dX7_read_113 : decode cX7_read 113 = .ok (.isub, 1) := by decide +kernel
theorem dX7_read_114 : decode cX7_read 114 = .ok (.i2l, 1) := by decide +kernel
theorem dX7_read_115 : decode cX7_read 115 = .ok (.invokestatic 55, 3) := by decide +kernel
theorem dX7_read_118 : decode cX7_read 118 = .ok (.ifCond .ne 7, 3) := by decide +kernel
theorem dX7_read_121 : decode cX7_read 121 = .ok (.iconst 2, 1) := by decide +kernel
theorem dX7_read_122 : decode cX7_read 122 = .ok (.goto 4, 3) := by decide +kernel
theorem dX7_read_125 : decode cX7_read 125 = .ok (.iconst 0, 1) := by decide +kernel
theorem dX7_read_126 : decode cX7_read 126 = .ok (.istore 5, 2) := by decide +kernel
theorem dX7_read_128 : decode cX7_read 128 = .ok (.iload 5, 2) := by decide +kernel
theorem dX7_read_130 : decode cX7_read 130 = .ok (.ifCond .ne 62, 3) := by decide +kernel
theorem dX7_read_133 : decode cX7_read 133 = .ok (.iload 7, 2) := by decide +kernel
theorem dX7_read_135 : decode cX7_read 135 = .ok (.iconst 2, 1) := by decide +kernel
theorem dX7_read_136 : decode cX7_read 136 = .ok (.irem, 1) := by decide +kernel
theorem dX7_read_137 : decode cX7_read 137 = .ok (.iconst 1, 1) := by decide +kernel
theorem dX7_read_138 : decode cX7_read 138 = .ok (.if_icmp .ne 54, 3) := by decide +kernel
theorem dX7_read_141 : decode cX7_read 141 = .ok (.bipush 40, 2) := by decide +kernel
theorem dX7_read_143 : decode cX7_read 143 = .ok (.iload_n 1, 1) := by decide +kernel
theorem dX7_read_144 : decode cX7_read 144 = .ok (.imul, 1) := by decide +kernel
theorem dX7_read_145 : decode cX7_read 145 = .ok (.iload_n 3, 1) := by decide +kernel
theorem dX7_read_146 : decode cX7_read 146 = .ok (.iadd, 1) := by decide +kernel
theorem dX7_read_147 : decode cX7_read 147 = .ok (.iload 7, 2) := by decide +kernel
theorem dX7_read_149 : decode cX7_read 149 = .ok (.iadd, 1) := by decide +kernel
theorem dX7_read_150 : decode cX7_read 150 = .ok (.istore 8, 2) := by decide +kernel
theorem dX7_read_152 : decode cX7_read 152 = .ok (.aload_n 0, 1) := by decide +kernel
theorem dX7_read_153 : decode cX7_read 153 = .ok (.aload_n 0, 1) := by decide +kernel
theorem dX7_read_154 : decode cX7_read 154 = .ok (.getfield 50, 3) := by decide +kernel
theorem dX7_read_157 : decode cX7_read 157 = .ok (.iload 8, 2) := by decide +kernel
theorem dX7_read_159 : decode cX7_read 159 = .ok (.iconst 1, 1) := by decide +kernel
theorem dX7_read_160 : decode cX7_read 160 = .ok (.isub, 1) := by decide +kernel
theorem dX7_read_161 : decode cX7_read 161 = .ok (.iaload, 1) := by decide +kernel
theorem dX7_read_162 : decode cX7_read 162 = .ok (.aload_n 0, 1) := by decide +kernel
theorem dX7_read_163 : decode cX7_read 163 = .ok (.getfield 50, 3) := by decide +kernel
theorem dX7_read_166 : decode cX7_read 166 = .ok (.iload 8, 2) := by decide +kernel
theorem dX7_read_168 : decode cX7_read 168 = .ok (.iaload, 1) := by decide +kernel
theorem dX7_read_169 : decode cX7_read 169 = .ok (.invokevirtual 191, 3) := by decide +kernel
theorem dX7_read_172 : decode cX7_read 172 = .ok (.ifCond .ge 17, 3) := by decide +kernel
theorem dX7_read_175 : decode cX7_read 175 = .ok (.aload_n 0, 1) := by decide +kernel
theorem dX7_read_176 : decode cX7_read 176 = .ok (.sipush 159, 3) := by decide +kernel
theorem dX7_read_179 : decode cX7_read 179 = .ok (.iconst 0, 1) := by decide +kernel
theorem dX7_read_180 : decode cX7_read 180 = .ok (.invokevirtual 205, 3) := by decide +kernel
theorem dX7_read_183 : decode cX7_read 183 = .ok (.bipush (-20), 2) := by decide +kernel
theorem dX7_read_185 : decode cX7_read 185 = .ok (.iload 6, 2) := by decide +kernel
theorem dX7_read_187 : decode cX7_read 187 = .ok (.isub, 1) := by decide +kernel
theorem dX7_read_188 : decode cX7_read 188 = .ok (.ireturn, 1) := by decide +kernel
theorem dX7_read_189 : decode cX7_read 189 = .ok (.iinc 6 1, 3) := by decide +kernel
theorem dX7_read_192 : decode cX7_read 192 = .ok (.iinc 7 1, 3) := by decide +kernel
theorem dX7_read_195 : decode cX7_read 195 = .ok (.goto (-139), 3) := by decide +kernel
theorem dX7_read_198 : decode cX7_read 198 = .ok (.aload_n 0, 1) := by decide +kernel
theorem dX7_read_199 : decode cX7_read 199 = .ok (.iload 5, 2) := by decide +kernel
theorem dX7_read_201 : decode cX7_read 201 = .ok (.putfield 264, 3) := by decide +kernel
theorem dX7_read_204 : decode cX7_read 204 = .ok (.iload 6, 2) := by decide +kernel
theorem dX7_read_206 : decode cX7_read 206 = .ok (.ireturn, 1) := by decide +kernel
theorem dX7_torn_0 : decode cX7_torn 0 = .ok (.aload_n 0, 1) := by decide +kernel
theorem dX7_torn_1 : decode cX7_torn 1 = .ok (.getfield 264, 3) := by decide +kernel
theorem dX7_torn_4 : decode cX7_torn 4 = .ok (.ireturn, 1) := by decide +kernel
theorem dX7_count_0 : decode cX7_count 0 = .ok (.iconst 0, 1) := by decide +kernel
theorem dX7_count_1 : decode cX7_count 1 = .ok (.istore_n 2, 1) := by decide +kernel
theorem dX7_count_2 : decode cX7_count 2 = .ok (.iconst 0, 1) := by decide +kernel
theorem dX7_count_3 : decode cX7_count 3 = .ok (.istore_n 3, 1) := by decide +kernel
theorem dX7_count_4 : decode cX7_count 4 = .ok (.iload_n 3, 1) := by decide +kernel
theorem dX7_count_5 : decode cX7_count 5 = .ok (.aload_n 0, 1) := by decide +kernel
theorem dX7_count_6 : decode cX7_count 6 = .ok (.getfield 7, 3) := by decide +kernel
theorem dX7_count_9 : decode cX7_count 9 = .ok (.bipush 49, 2) := by decide +kernel
theorem dX7_count_11 : decode cX7_count 11 = .ok (.iaload, 1) := by decide +kernel
theorem dX7_count_12 : decode cX7_count 12 = .ok (.if_icmp .ge 21, 3) := by decide +kernel
theorem dX7_count_15 : decode cX7_count 15 = .ok (.iload_n 2, 1) := by decide +kernel
theorem dX7_count_16 : decode cX7_count 16 = .ok (.aload_n 0, 1) := by decide +kernel
theorem dX7_count_17 : decode cX7_count 17 = .ok (.getfield 7, 3) := by decide +kernel
theorem dX7_count_20 : decode cX7_count 20 = .ok (.bipush 25, 2) := by decide +kernel
theorem dX7_count_22 : decode cX7_count 22 = .ok (.iload_n 3, 1) := by decide +kernel
theorem dX7_count_23 : decode cX7_count 23 = .ok (.iadd, 1) := by decide +kernel
theorem dX7_count_24 : decode cX7_count 24 = .ok (.iaload, 1) := by decide +kernel
theorem dX7_count_25 : decode cX7_count 25 = .ok (.iadd, 1) := by decide +kernel
theorem dX7_count_26 : decode cX7_count 26 = .ok (.istore_n 2, 1) := by decide +kernel
theorem dX7_count_27 : decode cX7_count 27 = .ok (.iinc 3 1, 3) := by decide +kernel
theorem dX7_count_30 : decode cX7_count 30 = .ok (.goto (-26), 3) := by decide +kernel
theorem dX7_count_33 : decode cX7_count 33 = .ok (.iload_n 1, 1) := by decide +kernel
theorem dX7_count_34 : decode cX7_count 34 = .ok (.tableswitch 110 0 5 #[38, 43, 73, 78, 101, 108], 38) := by decide +kernel
theorem dX7_count_72 : decode cX7_count 72 = .ok (.aload_n 0, 1) := by decide +kernel
theorem dX7_count_73 : decode cX7_count 73 = .ok (.getfield 126, 3) := by decide +kernel
theorem dX7_count_76 : decode cX7_count 76 = .ok (.ireturn, 1) := by decide +kernel
theorem dX7_count_77 : decode cX7_count 77 = .ok (.aload_n 0, 1) := by decide +kernel
theorem dX7_count_78 : decode cX7_count 78 = .ok (.getfield 40, 3) := by decide +kernel
theorem dX7_count_81 : decode cX7_count 81 = .ok (.iconst 0, 1) := by decide +kernel
theorem dX7_count_82 : decode cX7_count 82 = .ok (.baload, 1) := by decide +kernel
theorem dX7_count_83 : decode cX7_count 83 = .ok (.ifCond .eq 7, 3) := by decide +kernel
theorem dX7_count_86 : decode cX7_count 86 = .ok (.iconst 1, 1) := by decide +kernel
theorem dX7_count_87 : decode cX7_count 87 = .ok (.goto 4, 3) := by decide +kernel
theorem dX7_count_90 : decode cX7_count 90 = .ok (.iconst 0, 1) := by decide +kernel
theorem dX7_count_91 : decode cX7_count 91 = .ok (.aload_n 0, 1) := by decide +kernel
theorem dX7_count_92 : decode cX7_count 92 = .ok (.getfield 40, 3) := by decide +kernel
theorem dX7_count_95 : decode cX7_count 95 = .ok (.iconst 1, 1) := by decide +kernel
theorem dX7_count_96 : decode cX7_count 96 = .ok (.baload, 1) := by decide +kernel
theorem dX7_count_97 : decode cX7_count 97 = .ok (.ifCond .eq 7, 3) := by decide +kernel
theorem dX7_count_100 : decode cX7_count 100 = .ok (.iconst 1, 1) := by decide +kernel
theorem dX7_count_101 : decode cX7_count 101 = .ok (.goto 4, 3) := by decide +kernel
theorem dX7_count_104 : decode cX7_count 104 = .ok (.iconst 0, 1) := by decide +kernel
theorem dX7_count_105 : decode cX7_count 105 = .ok (.iadd, 1) := by decide +kernel
theorem dX7_count_106 : decode cX7_count 106 = .ok (.ireturn, 1) := by decide +kernel
theorem dX7_count_107 : decode cX7_count 107 = .ok (.aload_n 0, 1) := by decide +kernel
theorem dX7_count_108 : decode cX7_count 108 = .ok (.getfield 59, 3) := by decide +kernel
theorem dX7_count_111 : decode cX7_count 111 = .ok (.ireturn, 1) := by decide +kernel
theorem dX7_count_112 : decode cX7_count 112 = .ok (.aload_n 0, 1) := by decide +kernel
theorem dX7_count_113 : decode cX7_count 113 = .ok (.getfield 44, 3) := by decide +kernel
theorem dX7_count_116 : decode cX7_count 116 = .ok (.iconst 0, 1) := by decide +kernel
theorem dX7_count_117 : decode cX7_count 117 = .ok (.iaload, 1) := by decide +kernel
theorem dX7_count_118 : decode cX7_count 118 = .ok (.bipush (-4), 2) := by decide +kernel
theorem dX7_count_120 : decode cX7_count 120 = .ok (.if_icmp .ne 8, 3) := by decide +kernel
theorem dX7_count_123 : decode cX7_count 123 = .ok (.bipush (-4), 2) := by decide +kernel
theorem dX7_count_125 : decode cX7_count 125 = .ok (.goto 9, 3) := by decide +kernel
theorem dX7_count_128 : decode cX7_count 128 = .ok (.aload_n 0, 1) := by decide +kernel
theorem dX7_count_129 : decode cX7_count 129 = .ok (.getfield 47, 3) := by decide +kernel
theorem dX7_count_132 : decode cX7_count 132 = .ok (.iconst 0, 1) := by decide +kernel
theorem dX7_count_133 : decode cX7_count 133 = .ok (.iaload, 1) := by decide +kernel
theorem dX7_count_134 : decode cX7_count 134 = .ok (.ireturn, 1) := by decide +kernel
theorem dX7_count_135 : decode cX7_count 135 = .ok (.aload_n 0, 1) := by decide +kernel
theorem dX7_count_136 : decode cX7_count 136 = .ok (.iconst 0, 1) := by decide +kernel
theorem dX7_count_137 : decode cX7_count 137 = .ok (.iconst 4, 1) := by decide +kernel
theorem dX7_count_138 : decode cX7_count 138 = .ok (.invokevirtual 157, 3) := by decide +kernel
theorem dX7_count_141 : decode cX7_count 141 = .ok (.ireturn, 1) := by decide +kernel
theorem dX7_count_142 : decode cX7_count 142 = .ok (.iload_n 2, 1) := by decide +kernel
theorem dX7_count_143 : decode cX7_count 143 = .ok (.ireturn, 1) := by decide +kernel
theorem dX7_count_144 : decode cX7_count 144 = .ok (.iconst (-1), 1) := by decide +kernel
theorem dX7_count_145 : decode cX7_count 145 = .ok (.ireturn, 1) := by decide +kernel

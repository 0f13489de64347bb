theorem dX9_init_0 : decode cX9_init 0 = .ok (.aload_n 0, 1) := by decide +kernel
theorem dX9_init_1 : decode cX9_init 1 = .ok (.invokespecial 1, 3) := by decide +kernel
theorem dX9_init_4 : decode cX9_init 4 = .ok (.aload_n 0, 1) := by decide +kernel
theorem dX9_init_5 : decode cX9_init 5 = .ok (.iconst (-1), 1) := by decide +kernel
theorem dX9_init_6 : decode cX9_init 6 = .ok (.putfield 7, 3) := by decide +kernel
theorem dX9_init_9 : decode cX9_init 9 = .ok (.aload_n 0, 1) := by decide +kernel
theorem dX9_init_10 : decode cX9_init 10 = .ok (.iconst (-1), 1) := by decide +kernel
theorem dX9_init_11 : decode cX9_init 11 = .ok (.putfield 13, 3) := by decide +kernel
theorem dX9_init_14 : decode cX9_init 14 = .ok (.aload_n 0, 1) := by decide +kernel
theorem dX9_init_15 : decode cX9_init 15 = .ok (.bipush 67, 2) := by decide +kernel
theorem dX9_init_17 : decode cX9_init 17 = .ok (.newarray .int, 2) := by decide +kernel
theorem dX9_init_19 : decode cX9_init 19 = .ok (.putfield 16, 3) := by decide +kernel
theorem dX9_init_22 : decode cX9_init 22 = .ok (.aload_n 0, 1) := by decide +kernel
theorem dX9_init_23 : decode cX9_init 23 = .ok (.bipush 67, 2) := by decide +kernel
theorem dX9_init_25 : decode cX9_init 25 = .ok (.newarray .int, 2) := by decide +kernel
theorem dX9_init_27 : decode cX9_init 27 = .ok (.putfield 20, 3) := by decide +kernel
theorem dX9_init_30 : decode cX9_init 30 = .ok (.aload_n 0, 1) := by decide +kernel
theorem dX9_init_31 : decode cX9_init 31 = .ok (.bipush 67, 2) := by decide +kernel
theorem dX9_init_33 : decode cX9_init 33 = .ok (.newarray .int, 2) := by decide +kernel
theorem dX9_init_35 : decode cX9_init 35 = .ok (.putfield 23, 3) := by decide +kernel
theorem dX9_init_38 : decode cX9_init 38 = .ok (.aload_n 0, 1) := by decide +kernel
theorem dX9_init_39 : decode cX9_init 39 = .ok (.bipush 67, 2) := by decide +kernel
theorem dX9_init_41 : decode cX9_init 41 = .ok (.newarray .int, 2) := by decide +kernel
theorem dX9_init_43 : decode cX9_init 43 = .ok (.putfield 26, 3) := by decide +kernel
theorem dX9_init_46 : decode cX9_init 46 = .ok (.aload_n 0, 1) := by decide +kernel
theorem dX9_init_47 : decode cX9_init 47 = .ok (.sipush 536, 3) := by decide +kernel
theorem dX9_init_50 : decode cX9_init 50 = .ok (.newarray .int, 2) := by decide +kernel
theorem dX9_init_52 : decode cX9_init 52 = .ok (.putfield 29, 3) := by decide +kernel
theorem dX9_init_55 : decode cX9_init 55 = .ok (.aload_n 0, 1) := by decide +kernel
theorem dX9_init_56 : decode cX9_init 56 = .ok (.bipush 60, 2) := by decide +kernel
theorem dX9_init_58 : decode cX9_init 58 = .ok (.newarray .int, 2) := by decide +kernel
theorem dX9_init_60 : decode cX9_init 60 = .ok (.putfield 32, 3) := by decide +kernel
theorem dX9_init_63 : decode cX9_init 63 = .ok (.aload_n 0, 1) := by decide +kernel
theorem dX9_init_64 : decode cX9_init 64 = .ok (.bipush 40, 2) := by decide +kernel
theorem dX9_init_66 : decode cX9_init 66 = .ok (.newarray .int, 2) := by decide +kernel
theorem dX9_init_68 : decode cX9_init 68 = .ok (.putfield 35, 3) := by decide +kernel
theorem dX9_init_71 : decode cX9_init 71 = .ok (.aload_n 0, 1) := by decide +kernel
theorem dX9_init_72 : decode cX9_init 72 = .ok (.bipush 8, 2) := by decide +kernel
theorem dX9_init_74 : decode cX9_init 74 = .ok (.newarray .int, 2) := by decide +kernel
theorem dX9_init_76 : decode cX9_init 76 = .ok (.putfield 38, 3) := by decide +kernel
theorem dX9_init_79 : decode cX9_init 79 = .ok (.aload_n 0, 1) := by decide +kernel
theorem dX9_init_80 : decode cX9_init 80 = .ok (.bipush 41, 2) := by decide +kernel
theorem dX9_init_82 : decode cX9_init 82 = .ok (.newarray .int, 2) := by decide +kernel
theorem dX9_init_84 : decode cX9_init 84 = .ok (.dup, 1) := by decide +kernel
theorem dX9_init_85 : decode cX9_init 85 = .ok (.iconst 0, 1) := by decide +kernel
theorem dX9_init_86 : decode cX9_init 86 = .ok (.bipush 112, 2) := by decide +kernel
theorem dX9_init_88 : decode cX9_init 88 = .ok (.iastore, 1) := by decide +kernel
theorem dX9_init_89 : decode cX9_init 89 = .ok (.dup, 1) := by decide +kernel
theorem dX9_init_90 : decode cX9_init 90 = .ok (.iconst 1, 1) := by decide +kernel
theorem dX9_init_91 : decode cX9_init 91 = .ok (.bipush 108, 2) := by decide +kernel
theorem dX9_init_93 : decode cX9_init 93 = .ok (.iastore, 1) := by decide +kernel
theorem dX9_init_94 : decode cX9_init 94 = .ok (.dup, 1) := by decide +kernel
theorem dX9_init_95 : decode cX9_init 95 = .ok (.iconst 2, 1) := by decide +kernel
theorem dX9_init_96 : decode cX9_init 96 = .ok (.bipush 97, 2) := by decide +kernel
theorem dX9_init_98 : decode cX9_init 98 = .ok (.iastore, 1) := by decide +kernel
theorem dX9_init_99 : decode cX9_init 99 = .ok (.dup, 1) := by decide +kernel
theorem dX9_init_100 : decode cX9_init 100 = .ok (.iconst 3, 1) := by decide +kernel
theorem dX9_init_101 : decode cX9_init 101 = .ok (.bipush 121, 2) := by decide +kernel
theorem dX9_init_103 : decode cX9_init 103 = .ok (.iastore, 1) := by decide +kernel
theorem dX9_init_104 : decode cX9_init 104 = .ok (.dup, 1) := by decide +kernel
theorem dX9_init_105 : decode cX9_init 105 = .ok (.iconst 4, 1) := by decide +kernel
theorem dX9_init_106 : decode cX9_init 106 = .ok (.bipush 101, 2) := by decide +kernel
theorem dX9_init_108 : decode cX9_init 108 = .ok (.iastore, 1) := by decide +kernel
theorem dX9_init_109 : decode cX9_init 109 = .ok (.dup, 1) := by decide +kernel
theorem dX9_init_110 : decode cX9_init 110 = .ok (.iconst 5, 1) := by decide +kernel
theorem dX9_init_111 : decode cX9_init 111 = .ok (.bipush 114, 2) := by decide +kernel
theorem dX9_init_113 : decode cX9_init 113 = .ok (.iastore, 1) := by decide +kernel
theorem dX9_init_114 : decode cX9_init 114 = .ok (.dup, 1) := by decide +kernel
theorem dX9_init_115 : decode cX9_init 115 = .ok (.bipush 6, 2) := by decide +kernel
theorem dX9_init_117 : decode cX9_init 117 = .ok (.bipush 32, 2) := by decide +kernel
theorem dX9_init_119 : decode cX9_init 119 = .ok (.iastore, 1) := by decide +kernel
theorem dX9_init_120 : decode cX9_init 120 = .ok (.dup, 1) := by decide +kernel
theorem dX9_init_121 : decode cX9_init 121 = .ok (.bipush 7, 2) := by decide +kernel
theorem dX9_init_123 : decode cX9_init 123 = .ok (.bipush 100, 2) := by decide +kernel
theorem dX9_init_125 : decode cX9_init 125 = .ok (.iastore, 1) := by decide +kernel
theorem dX9_init_126 : decode cX9_init 126 = .ok (.dup, 1) := by decide +kernel
theorem dX9_init_127 : decode cX9_init 127 = .ok (.bipush 8, 2) := by decide +kernel
theorem dX9_init_129 : decode cX9_init 129 = .ok (.bipush 114, 2) := by decide +kernel
theorem dX9_init_131 : decode cX9_init 131 = .ok (.iastore, 1) := by decide +kernel
theorem dX9_init_132 : decode cX9_init 132 = .ok (.dup, 1) := by decide +kernel
theorem dX9_init_133 : decode cX9_init 133 = .ok (.bipush 9, 2) := by decide +kernel
theorem dX9_init_135 : decode cX9_init 135 = .ok (.bipush 111, 2) := by decide +kernel
theorem dX9_init_137 : decode cX9_init 137 = .ok (.iastore, 1) := by decide +kernel
theorem dX9_init_138 : decode cX9_init 138 = .ok (.dup, 1) := by decide +kernel
theorem dX9_init_139 : decode cX9_init 139 = .ok (.bipush 10, 2) := by decide +kernel
theorem dX9_init_141 : decode cX9_init 141 = .ok (.bipush 112, 2) := by decide +kernel
theorem dX9_init_143 : decode cX9_init 143 = .ok (.iastore, 1) := by decide +kernel
theorem dX9_init_144 : decode cX9_init 144 = .ok (.dup, 1) := by decide +kernel
theorem dX9_init_145 : decode cX9_init 145 = .ok (.bipush 11, 2) := by decide +kernel
theorem dX9_init_147 : decode cX9_init 147 = .ok (.bipush 32, 2) := by decide +kernel
theorem dX9_init_149 : decode cX9_init 149 = .ok (.iastore, 1) := by decide +kernel
theorem dX9_init_150 : decode cX9_init 150 = .ok (.dup, 1) := by decide +kernel
theorem dX9_init_151 : decode cX9_init 151 = .ok (.bipush 12, 2) := by decide +kernel
theorem dX9_init_153 : decode cX9_init 153 = .ok (.bipush 112, 2) := by decide +kernel
theorem dX9_init_155 : decode cX9_init 155 = .ok (.iastore, 1) := by decide +kernel
theorem dX9_init_156 : decode cX9_init 156 = .ok (.dup, 1) := by decide +kernel
theorem dX9_init_157 : decode cX9_init 157 = .ok (.bipush 13, 2) := by decide +kernel
theorem dX9_init_159 : decode cX9_init 159 = .ok (.bipush 105, 2) := by decide +kernel
theorem dX9_init_161 : decode cX9_init 161 = .ok (.iastore, 1) := by decide +kernel
theorem dX9_init_162 : decode cX9_init 162 = .ok (.dup, 1) := by decide +kernel
theorem dX9_init_163 : decode cX9_init 163 = .ok (.bipush 14, 2) := by decide +kernel
theorem dX9_init_165 : decode cX9_init 165 = .ok (.bipush 108, 2) := by decide +kernel
theorem dX9_init_167 : decode cX9_init 167 = .ok (.iastore, 1) := by decide +kernel
theorem dX9_init_168 : decode cX9_init 168 = .ok (.dup, 1) := by decide +kernel
theorem dX9_init_169 : decode cX9_init 169 = .ok (.bipush 15, 2) := by decide +kernel
theorem dX9_init_171 : decode cX9_init 171 = .ok (.bipush 101, 2) := by decide +kernel
theorem dX9_init_173 : decode cX9_init 173 = .ok (.iastore, 1) := by decide +kernel
theorem dX9_init_174 : decode cX9_init 174 = .ok (.dup, 1) := by decide +kernel
theorem dX9_init_175 : decode cX9_init 175 = .ok (.bipush 16, 2) := by decide +kernel
theorem dX9_init_177 : decode cX9_init 177 = .ok (.bipush 32, 2) := by decide +kernel
theorem dX9_init_179 : decode cX9_init 179 = .ok (.iastore, 1) := by decide +kernel
theorem dX9_init_180 : decode cX9_init 180 = .ok (.dup, 1) := by decide +kernel
theorem dX9_init_181 : decode cX9_init 181 = .ok (.bipush 17, 2) := by decide +kernel
theorem dX9_init_183 : decode cX9_init 183 = .ok (.bipush 116, 2) := by decide +kernel
theorem dX9_init_185 : decode cX9_init 185 = .ok (.iastore, 1) := by decide +kernel
theorem dX9_init_186 : decode cX9_init 186 = .ok (.dup, 1) := by decide +kernel
theorem dX9_init_187 : decode cX9_init 187 = .ok (.bipush 18, 2) := by decide +kernel
theorem dX9_init_189 : decode cX9_init 189 = .ok (.bipush 97, 2) := by decide +kernel
theorem dX9_init_191 : decode cX9_init 191 = .ok (.iastore, 1) := by decide +kernel
theorem dX9_init_192 : decode cX9_init 192 = .ok (.dup, 1) := by decide +kernel
theorem dX9_init_193 : decode cX9_init 193 = .ok (.bipush 19, 2) := by decide +kernel
theorem dX9_init_195 : decode cX9_init 195 = .ok (.bipush 107, 2) := by decide +kernel
theorem dX9_init_197 : decode cX9_init 197 = .ok (.iastore, 1) := by decide +kernel
theorem dX9_init_198 : decode cX9_init 198 = .ok (.dup, 1) := by decide +kernel
theorem dX9_init_199 : decode cX9_init 199 = .ok (.bipush 20, 2) := by decide +kernel
theorem dX9_init_201 : decode cX9_init 201 = .ok (.bipush 101, 2) := by decide +kernel
theorem dX9_init_203 : decode cX9_init 203 = .ok (.iastore, 1) := by decide +kernel
theorem dX9_init_204 : decode cX9_init 204 = .ok (.dup, 1) := by decide +kernel
theorem dX9_init_205 : decode cX9_init 205 = .ok (.bipush 21, 2) := by decide +kernel
theorem dX9_init_207 : decode cX9_init 207 = .ok (.bipush 32, 2) := by decide +kernel
theorem dX9_init_209 : decode cX9_init 209 = .ok (.iastore, 1) := by decide +kernel
theorem dX9_init_210 : decode cX9_init 210 = .ok (.dup, 1) := by decide +kernel
theorem dX9_init_211 : decode cX9_init 211 = .ok (.bipush 22, 2) := by decide +kernel
theorem dX9_init_213 : decode cX9_init 213 = .ok (.bipush 115, 2) := by decide +kernel
theorem dX9_init_215 : decode cX9_init 215 = .ok (.iastore, 1) := by decide +kernel
theorem dX9_init_216 : decode cX9_init 216 = .ok (.dup, 1) := by decide +kernel
theorem dX9_init_217 : decode cX9_init 217 = .ok (.bipush 23, 2) := by decide +kernel
theorem dX9_init_219 : decode cX9_init 219 = .ok (.bipush 107, 2) := by decide +kernel
theorem dX9_init_221 : decode cX9_init 221 = .ok (.iastore, 1) := by decide +kernel
theorem dX9_init_222 : decode cX9_init 222 = .ok (.dup, 1) := by decide +kernel
theorem dX9_init_223 : decode cX9_init 223 = .ok (.bipush 24, 2) := by decide +kernel
theorem dX9_init_225 : decode cX9_init 225 = .ok (.bipush 105, 2) := by decide +kernel
theorem dX9_init_227 : decode cX9_init 227 = .ok (.iastore, 1) := by decide +kernel
theorem dX9_init_228 : decode cX9_init 228 = .ok (.dup, 1) := by decide +kernel
theorem dX9_init_229 : decode cX9_init 229 = .ok (.bipush 25, 2) := by decide +kernel
theorem dX9_init_231 : decode cX9_init 231 = .ok (.bipush 112, 2) := by decide +kernel
theorem dX9_init_233 : decode cX9_init 233 = .ok (.iastore, 1) := by decide +kernel
theorem dX9_init_234 : decode cX9_init 234 = .ok (.dup, 1) := by decide +kernel
theorem dX9_init_235 : decode cX9_init 235 = .ok (.bipush 26, 2) := by decide +kernel
theorem dX9_init_237 : decode cX9_init 237 = .ok (.bipush 115, 2) := by decide +kernel
theorem dX9_init_239 : decode cX9_init 239 = .ok (.iastore, 1) := by decide +kernel
theorem dX9_init_240 : decode cX9_init 240 = .ok (.dup, 1) := by decide +kernel
theorem dX9_init_241 : decode cX9_init 241 = .ok (.bipush 27, 2) := by decide +kernel
theorem dX9_init_243 : decode cX9_init 243 = .ok (.bipush 108, 2) := by decide +kernel
theorem dX9_init_245 : decode cX9_init 245 = .ok (.iastore, 1) := by decide +kernel
theorem dX9_init_246 : decode cX9_init 246 = .ok (.dup, 1) := by decide +kernel
theorem dX9_init_247 : decode cX9_init 247 = .ok (.bipush 28, 2) := by decide +kernel
theorem dX9_init_249 : decode cX9_init 249 = .ok (.bipush 111, 2) := by decide +kernel
theorem dX9_init_251 : decode cX9_init 251 = .ok (.iastore, 1) := by decide +kernel
theorem dX9_init_252 : decode cX9_init 252 = .ok (.dup, 1) := by decide +kernel
theorem dX9_init_253 : decode cX9_init 253 = .ok (.bipush 29, 2) := by decide +kernel
theorem dX9_init_255 : decode cX9_init 255 = .ok (.bipush 112, 2) := by decide +kernel
theorem dX9_init_257 : decode cX9_init 257 = .ok (.iastore, 1) := by decide +kernel
theorem dX9_init_258 : decode cX9_init 258 = .ok (.dup, 1) := by decide +kernel
theorem dX9_init_259 : decode cX9_init 259 = .ok (.bipush 30, 2) := by decide +kernel
theorem dX9_init_261 : decode cX9_init 261 = .ok (.bipush 101, 2) := by decide +kernel
theorem dX9_init_263 : decode cX9_init 263 = .ok (.iastore, 1) := by decide +kernel
theorem dX9_init_264 : decode cX9_init 264 = .ok (.dup, 1) := by decide +kernel
theorem dX9_init_265 : decode cX9_init 265 = .ok (.bipush 31, 2) := by decide +kernel
theorem dX9_init_267 : decode cX9_init 267 = .ok (.bipush 32, 2) := by decide +kernel
theorem dX9_init_269 : decode cX9_init 269 = .ok (.iastore, 1) := by decide +kernel
theorem dX9_init_270 : decode cX9_init 270 = .ok (.dup, 1) := by decide +kernel
theorem dX9_init_271 : decode cX9_init 271 = .ok (.bipush 32, 2) := by decide +kernel
theorem dX9_init_273 : decode cX9_init 273 = .ok (.bipush 111, 2) := by decide +kernel
theorem dX9_init_275 : decode cX9_init 275 = .ok (.iastore, 1) := by decide +kernel
theorem dX9_init_276 : decode cX9_init 276 = .ok (.dup, 1) := by decide +kernel
theorem dX9_init_277 : decode cX9_init 277 = .ok (.bipush 33, 2) := by decide +kernel
theorem dX9_init_279 : decode cX9_init 279 = .ok (.bipush 112, 2) := by decide +kernel
theorem dX9_init_281 : decode cX9_init 281 = .ok (.iastore, 1) := by decide +kernel
theorem dX9_init_282 : decode cX9_init 282 = .ok (.dup, 1) := by decide +kernel
theorem dX9_init_283 : decode cX9_init 283 = .ok (.bipush 34, 2) := by decide +kernel
theorem dX9_init_285 : decode cX9_init 285 = .ok (.bipush 101, 2) := by decide +kernel
theorem dX9_init_287 : decode cX9_init 287 = .ok (.iastore, 1) := by decide +kernel
theorem dX9_init_288 : decode cX9_init 288 = .ok (.dup, 1) := by decide +kernel
theorem dX9_init_289 : decode cX9_init 289 = .ok (.bipush 35, 2) := by decide +kernel
theorem dX9_init_291 : decode cX9_init 291 = .ok (.bipush 110, 2) := by decide +kernel
theorem dX9_init_293 : decode cX9_init 293 = .ok (.iastore, 1) := by decide +kernel
theorem dX9_init_294 : decode cX9_init 294 = .ok (.dup, 1) := by decide +kernel
theorem dX9_init_295 : decode cX9_init 295 = .ok (.bipush 36, 2) := by decide +kernel
theorem dX9_init_297 : decode cX9_init 297 = .ok (.bipush 99, 2) := by decide +kernel
theorem dX9_init_299 : decode cX9_init 299 = .ok (.iastore, 1) := by decide +kernel
theorem dX9_init_300 : decode cX9_init 300 = .ok (.dup, 1) := by decide +kernel
theorem dX9_init_301 : decode cX9_init 301 = .ok (.bipush 37, 2) := by decide +kernel
theorem dX9_init_303 : decode cX9_init 303 = .ok (.bipush 108, 2) := by decide +kernel
theorem dX9_init_305 : decode cX9_init 305 = .ok (.iastore, 1) := by decide +kernel
theorem dX9_init_306 : decode cX9_init 306 = .ok (.dup, 1) := by decide +kernel
theorem dX9_init_307 : decode cX9_init 307 = .ok (.bipush 38, 2) := by decide +kernel
theorem dX9_init_309 : decode cX9_init 309 = .ok (.bipush 111, 2) := by decide +kernel
theorem dX9_init_311 : decode cX9_init 311 = .ok (.iastore, 1) := by decide +kernel
theorem dX9_init_312 : decode cX9_init 312 = .ok (.dup, 1) := by decide +kernel
theorem dX9_init_313 : decode cX9_init 313 = .ok (.bipush 39, 2) := by decide +kernel
theorem dX9_init_315 : decode cX9_init 315 = .ok (.bipush 115, 2) := by decide +kernel
theorem dX9_init_317 : decode cX9_init 317 = .ok (.iastore, 1) := by decide +kernel
theorem dX9_init_318 : decode cX9_init 318 = .ok (.dup, 1) := by decide +kernel
theorem dX9_init_319 : decode cX9_init 319 = .ok (.bipush 40, 2) := by decide +kernel
theorem dX9_init_321 : decode cX9_init 321 = .ok (.bipush 101, 2) := by decide +kernel
theorem dX9_init_323 : decode cX9_init 323 = .ok (.iastore, 1) := by decide +kernel
theorem dX9_init_324 : decode cX9_init 324 = .ok (.putfield 41, 3) := by decide +kernel
theorem dX9_init_327 : decode cX9_init 327 = .ok (.aload_n 0, 1) := by decide +kernel
theorem dX9_init_328 : decode cX9_init 328 = .ok (.bipush 9, 2) := by decide +kernel
theorem dX9_init_330 : decode cX9_init 330 = .ok (.newarray .int, 2) := by decide +kernel
theorem dX9_init_332 : decode cX9_init 332 = .ok (.dup, 1) := by decide +kernel
theorem dX9_init_333 : decode cX9_init 333 = .ok (.iconst 0, 1) := by decide +kernel
theorem dX9_init_334 : decode cX9_init 334 = .ok (.iconst 0, 1) := by decide +kernel
theorem dX9_init_335 : decode cX9_init 335 = .ok (.iastore, 1) := by decide +kernel
theorem dX9_init_336 : decode cX9_init 336 = .ok (.dup, 1) := by decide +kernel
theorem dX9_init_337 : decode cX9_init 337 = .ok (.iconst 1, 1) := by decide +kernel
theorem dX9_init_338 : decode cX9_init 338 = .ok (.bipush 7, 2) := by decide +kernel
theorem dX9_init_340 : decode cX9_init 340 = .ok (.iastore, 1) := by decide +kernel
theorem dX9_init_341 : decode cX9_init 341 = .ok (.dup, 1) := by decide +kernel
theorem dX9_init_342 : decode cX9_init 342 = .ok (.iconst 2, 1) := by decide +kernel
theorem dX9_init_343 : decode cX9_init 343 = .ok (.bipush 12, 2) := by decide +kernel
theorem dX9_init_345 : decode cX9_init 345 = .ok (.iastore, 1) := by decide +kernel
theorem dX9_init_346 : decode cX9_init 346 = .ok (.dup, 1) := by decide +kernel
theorem dX9_init_347 : decode cX9_init 347 = .ok (.iconst 3, 1) := by decide +kernel
theorem dX9_init_348 : decode cX9_init 348 = .ok (.bipush 17, 2) := by decide +kernel
theorem dX9_init_350 : decode cX9_init 350 = .ok (.iastore, 1) := by decide +kernel
theorem dX9_init_351 : decode cX9_init 351 = .ok (.dup, 1) := by decide +kernel
theorem dX9_init_352 : decode cX9_init 352 = .ok (.iconst 4, 1) := by decide +kernel
theorem dX9_init_353 : decode cX9_init 353 = .ok (.bipush 22, 2) := by decide +kernel
theorem dX9_init_355 : decode cX9_init 355 = .ok (.iastore, 1) := by decide +kernel
theorem dX9_init_356 : decode cX9_init 356 = .ok (.dup, 1) := by decide +kernel
theorem dX9_init_357 : decode cX9_init 357 = .ok (.iconst 5, 1) := by decide +kernel
theorem dX9_init_358 : decode cX9_init 358 = .ok (.bipush 26, 2) := by decide +kernel
theorem dX9_init_360 : decode cX9_init 360 = .ok (.iastore, 1) := by decide +kernel
theorem dX9_init_361 : decode cX9_init 361 = .ok (.dup, 1) := by decide +kernel
theorem dX9_init_362 : decode cX9_init 362 = .ok (.bipush 6, 2) := by decide +kernel
theorem dX9_init_364 : decode cX9_init 364 = .ok (.bipush 32, 2) := by decide +kernel
theorem dX9_init_366 : decode cX9_init 366 = .ok (.iastore, 1) := by decide +kernel
theorem dX9_init_367 : decode cX9_init 367 = .ok (.dup, 1) := by decide +kernel
theorem dX9_init_368 : decode cX9_init 368 = .ok (.bipush 7, 2) := by decide +kernel
theorem dX9_init_370 : decode cX9_init 370 = .ok (.bipush 36, 2) := by decide +kernel
theorem dX9_init_372 : decode cX9_init 372 = .ok (.iastore, 1) := by decide +kernel
theorem dX9_init_373 : decode cX9_init 373 = .ok (.dup, 1) := by decide +kernel
theorem dX9_init_374 : decode cX9_init 374 = .ok (.bipush 8, 2) := by decide +kernel
theorem dX9_init_376 : decode cX9_init 376 = .ok (.bipush 41, 2) := by decide +kernel
theorem dX9_init_378 : decode cX9_init 378 = .ok (.iastore, 1) := by decide +kernel
theorem dX9_init_379 : decode cX9_init 379 = .ok (.putfield 44, 3) := by decide +kernel
theorem dX9_init_382 : decode cX9_init 382 = .ok (.aload_n 0, 1) := by decide +kernel
theorem dX9_init_383 : decode cX9_init 383 = .ok (.getfield 16, 3) := by decide +kernel
theorem dX9_init_386 : decode cX9_init 386 = .ok (.iconst 1, 1) := by decide +kernel
theorem dX9_init_387 : decode cX9_init 387 = .ok (.iconst 3, 1) := by decide +kernel
theorem dX9_init_388 : decode cX9_init 388 = .ok (.iastore, 1) := by decide +kernel
theorem dX9_init_389 : decode cX9_init 389 = .ok (.return_, 1) := by decide +kernel
theorem dX9_thrown_0 : decode cX9_thrown 0 = .ok (.aload_n 0, 1) := by decide +kernel
theorem dX9_thrown_1 : decode cX9_thrown 1 = .ok (.getfield 47, 3) := by decide +kernel
theorem dX9_thrown_4 : decode cX9_thrown 4 = .ok (.ireturn, 1) := by decide +kernel
theorem dX9_fail_0 : decode cX9_fail 0 = .ok (.aload_n 0, 1) := by decide +kernel
theorem dX9_fail_1 : decode cX9_fail 1 = .ok (.iload_n 1, 1) := by decide +kernel
theorem dX9_fail_2 : decode cX9_fail 2 = .ok (.putfield 47, 3) := by decide +kernel
theorem dX9_fail_5 : decode cX9_fail 5 = .ok (.iconst 0, 1) := by decide +kernel
theorem dX9_fail_6 : decode cX9_fail 6 = .ok (.ireturn, 1) := by decide +kernel
theorem dX9_isIn_0 : decode cX9_isIn 0 = .ok (.iload_n 0, 1) := by decide +kernel
theorem dX9_isIn_1 : decode cX9_isIn 1 = .ok (.iload_n 1, 1) := by decide +kernel
theorem dX9_isIn_2 : decode cX9_isIn 2 = .ok (.if_icmp .lt 12, 3) := by decide +kernel
theorem dX9_isIn_5 : decode cX9_isIn 5 = .ok (.iload_n 0, 1) := by decide +kernel
theorem dX9_isIn_6 : decode cX9_isIn 6 = .ok (.iload_n 2, 1) := by decide +kernel
theorem dX9_isIn_7 : decode cX9_isIn 7 = .ok (.if_icmp .gt 7, 3) := by decide +kernel
theorem dX9_isIn_10 : decode cX9_isIn 10 = .ok (.iconst 1, 1) := by decide +kernel
theorem dX9_isIn_11 : decode cX9_isIn 11 = .ok (.goto 4, 3) := by decide +kernel
theorem dX9_isIn_14 : decode cX9_isIn 14 = .ok (.iconst 0, 1) := by decide +kernel
theorem dX9_isIn_15 : decode cX9_isIn 15 = .ok (.ireturn, 1) := by decide +kernel
theorem dX9_lays_0 : decode cX9_lays 0 = .ok (.iconst 0, 1) := by decide +kernel
theorem dX9_lays_1 : decode cX9_lays 1 = .ok (.istore_n 2, 1) := by decide +kernel
theorem dX9_lays_2 : decode cX9_lays 2 = .ok (.iload_n 2, 1) := by decide +kernel
theorem dX9_lays_3 : decode cX9_lays 3 = .ok (.bipush 67, 2) := by decide +kernel
theorem dX9_lays_5 : decode cX9_lays 5 = .ok (.if_icmp .ge 15, 3) := by decide +kernel
theorem dX9_lays_8 : decode cX9_lays 8 = .ok (.aload_n 0, 1) := by decide +kernel
theorem dX9_lays_9 : decode cX9_lays 9 = .ok (.iload_n 2, 1) := by decide +kernel
theorem dX9_lays_10 : decode cX9_lays 10 = .ok (.aload_n 1, 1) := by decide +kernel
theorem dX9_lays_11 : decode cX9_lays 11 = .ok (.iload_n 2, 1) := by decide +kernel
theorem dX9_lays_12 : decode cX9_lays 12 = .ok (.iaload, 1) := by decide +kernel
theorem dX9_lays_13 : decode cX9_lays 13 = .ok (.iastore, 1) := by decide +kernel
theorem dX9_lays_14 : decode cX9_lays 14 = .ok (.iinc 2 1, 3) := by decide +kernel
theorem dX9_lays_17 : decode cX9_lays 17 = .ok (.goto (-15), 3) := by decide +kernel
theorem dX9_lays_20 : decode cX9_lays 20 = .ok (.return_, 1) := by decide +kernel
theorem dX9_begins_0 : decode cX9_begins 0 = .ok (.aload_n 0, 1) := by decide +kernel
theorem dX9_begins_1 : decode cX9_begins 1 = .ok (.iconst 0, 1) := by decide +kernel
theorem dX9_begins_2 : decode cX9_begins 2 = .ok (.putfield 47, 3) := by decide +kernel
theorem dX9_begins_5 : decode cX9_begins 5 = .ok (.aload_n 0, 1) := by decide +kernel
theorem dX9_begins_6 : decode cX9_begins 6 = .ok (.getfield 20, 3) := by decide +kernel
theorem dX9_begins_9 : decode cX9_begins 9 = .ok (.aload_n 0, 1) := by decide +kernel
theorem dX9_begins_10 : decode cX9_begins 10 = .ok (.getfield 16, 3) := by decide +kernel
theorem dX9_begins_13 : decode cX9_begins 13 = .ok (.invokestatic 50, 3) := by decide +kernel
theorem dX9_begins_16 : decode cX9_begins 16 = .ok (.return_, 1) := by decide +kernel
theorem dX9_ends_0 : decode cX9_ends 0 = .ok (.aload_n 0, 1) := by decide +kernel
theorem dX9_ends_1 : decode cX9_ends 1 = .ok (.getfield 47, 3) := by decide +kernel
theorem dX9_ends_4 : decode cX9_ends 4 = .ok (.ifCond .eq 16, 3) := by decide +kernel
theorem dX9_ends_7 : decode cX9_ends 7 = .ok (.aload_n 0, 1) := by decide +kernel
theorem dX9_ends_8 : decode cX9_ends 8 = .ok (.getfield 16, 3) := by decide +kernel
theorem dX9_ends_11 : decode cX9_ends 11 = .ok (.aload_n 0, 1) := by decide +kernel
theorem dX9_ends_12 : decode cX9_ends 12 = .ok (.getfield 20, 3) := by decide +kernel
theorem dX9_ends_15 : decode cX9_ends 15 = .ok (.invokestatic 50, 3) := by decide +kernel
theorem dX9_ends_18 : decode cX9_ends 18 = .ok (.iconst 0, 1) := by decide +kernel
theorem dX9_ends_19 : decode cX9_ends 19 = .ok (.ireturn, 1) := by decide +kernel
theorem dX9_ends_20 : decode cX9_ends 20 = .ok (.aload_n 0, 1) := by decide +kernel
theorem dX9_ends_21 : decode cX9_ends 21 = .ok (.getfield 54, 3) := by decide +kernel
theorem dX9_ends_24 : decode cX9_ends 24 = .ok (.bipush 8, 2) := by decide +kernel
theorem dX9_ends_26 : decode cX9_ends 26 = .ok (.if_icmp .ne 43, 3) := by decide +kernel
theorem dX9_ends_29 : decode cX9_ends 29 = .ok (.iconst 0, 1) := by decide +kernel
theorem dX9_ends_30 : decode cX9_ends 30 = .ok (.istore_n 2, 1) := by decide +kernel
theorem dX9_ends_31 : decode cX9_ends 31 = .ok (.iload_n 2, 1) := by decide +kernel
theorem dX9_ends_32 : decode cX9_ends 32 = .ok (.sipush 469, 3) := by decide +kernel
theorem dX9_ends_35 : decode cX9_ends 35 = .ok (.if_icmp .ge 24, 3) := by decide +kernel
theorem dX9_ends_38 : decode cX9_ends 38 = .ok (.aload_n 0, 1) := by decide +kernel
theorem dX9_ends_39 : decode cX9_ends 39 = .ok (.getfield 29, 3) := by decide +kernel
theorem dX9_ends_42 : decode cX9_ends 42 = .ok (.iload_n 2, 1) := by decide +kernel
theorem dX9_ends_43 : decode cX9_ends 43 = .ok (.aload_n 0, 1) := by decide +kernel
theorem dX9_ends_44 : decode cX9_ends 44 = .ok (.getfield 29, 3) := by decide +kernel
theorem dX9_ends_47 : decode cX9_ends 47 = .ok (.iload_n 2, 1) := by decide +kernel
theorem dX9_ends_48 : decode cX9_ends 48 = .ok (.bipush 67, 2) := by decide +kernel
theorem dX9_ends_50 : decode cX9_ends 50 = .ok (.iadd, 1) := by decide +kernel
theorem dX9_ends_51 : decode cX9_ends 51 = .ok (.iaload, 1) := by decide +kernel
theorem dX9_ends_52 : decode cX9_ends 52 = .ok (.iastore, 1) := by decide +kernel
theorem dX9_ends_53 : decode cX9_ends 53 = .ok (.iinc 2 1, 3) := by decide +kernel
theorem dX9_ends_56 : decode cX9_ends 56 = .ok (.goto (-25), 3) := by decide +kernel
theorem dX9_ends_59 : decode cX9_ends 59 = .ok (.aload_n 0, 1) := by decide +kernel
theorem dX9_ends_60 : decode cX9_ends 60 = .ok (.dup, 1) := by decide +kernel
theorem dX9_ends_61 : decode cX9_ends 61 = .ok (.getfield 54, 3) := by decide +kernel
theorem dX9_ends_64 : decode cX9_ends 64 = .ok (.iconst 1, 1) := by decide +kernel
theorem dX9_ends_65 : decode cX9_ends 65 = .ok (.isub, 1) := by decide +kernel
theorem dX9_ends_66 : decode cX9_ends 66 = .ok (.putfield 54, 3) := by decide +kernel
theorem dX9_ends_69 : decode cX9_ends 69 = .ok (.iconst 0, 1) := by decide +kernel
theorem dX9_ends_70 : decode cX9_ends 70 = .ok (.istore_n 2, 1) := by decide +kernel
theorem dX9_ends_71 : decode cX9_ends 71 = .ok (.iload_n 2, 1) := by decide +kernel
theorem dX9_ends_72 : decode cX9_ends 72 = .ok (.bipush 67, 2) := by decide +kernel
theorem dX9_ends_74 : decode cX9_ends 74 = .ok (.if_icmp .ge 29, 3) := by decide +kernel
theorem dX9_ends_77 : decode cX9_ends 77 = .ok (.aload_n 0, 1) := by decide +kernel
theorem dX9_ends_78 : decode cX9_ends 78 = .ok (.getfield 29, 3) := by decide +kernel
theorem dX9_ends_81 : decode cX9_ends 81 = .ok (.aload_n 0, 1) := by decide +kernel
theorem dX9_ends_82 : decode cX9_ends 82 = .ok (.getfield 54, 3) := by decide +kernel
theorem dX9_ends_85 : decode cX9_ends 85 = .ok (.bipush 67, 2) := by decide +kernel
theorem dX9_ends_87 : decode cX9_ends 87 = .ok (.imul, 1) := by decide +kernel
theorem dX9_ends_88 : decode cX9_ends 88 = .ok (.iload_n 2, 1) := by decide +kernel
theorem dX9_ends_89 : decode cX9_ends 89 = .ok (.iadd, 1) := by decide +kernel
theorem dX9_ends_90 : decode cX9_ends 90 = .ok (.aload_n 0, 1) := by decide +kernel
theorem dX9_ends_91 : decode cX9_ends 91 = .ok (.getfield 20, 3) := by decide +kernel
theorem dX9_ends_94 : decode cX9_ends 94 = .ok (.iload_n 2, 1) := by decide +kernel
theorem dX9_ends_95 : decode cX9_ends 95 = .ok (.iaload, 1) := by decide +kernel
theorem dX9_ends_96 : decode cX9_ends 96 = .ok (.iastore, 1) := by decide +kernel
theorem dX9_ends_97 : decode cX9_ends 97 = .ok (.iinc 2 1, 3) := by decide +kernel
theorem dX9_ends_100 : decode cX9_ends 100 = .ok (.goto (-29), 3) := by decide +kernel
theorem dX9_ends_103 : decode cX9_ends 103 = .ok (.aload_n 0, 1) := by decide +kernel
theorem dX9_ends_104 : decode cX9_ends 104 = .ok (.dup, 1) := by decide +kernel
theorem dX9_ends_105 : decode cX9_ends 105 = .ok (.getfield 54, 3) := by decide +kernel
theorem dX9_ends_108 : decode cX9_ends 108 = .ok (.iconst 1, 1) := by decide +kernel
theorem dX9_ends_109 : decode cX9_ends 109 = .ok (.iadd, 1) := by decide +kernel
theorem dX9_ends_110 : decode cX9_ends 110 = .ok (.putfield 54, 3) := by decide +kernel
theorem dX9_ends_113 : decode cX9_ends 113 = .ok (.iload_n 1, 1) := by decide +kernel
theorem dX9_ends_114 : decode cX9_ends 114 = .ok (.ireturn, 1) := by decide +kernel
theorem dX9_isPlayer_0 : decode cX9_isPlayer 0 = .ok (.iload_n 1, 1) := by decide +kernel
theorem dX9_isPlayer_1 : decode cX9_isPlayer 1 = .ok (.iconst 0, 1) := by decide +kernel
theorem dX9_isPlayer_2 : decode cX9_isPlayer 2 = .ok (.aload_n 0, 1) := by decide +kernel
theorem dX9_isPlayer_3 : decode cX9_isPlayer 3 = .ok (.getfield 16, 3) := by decide +kernel
theorem dX9_isPlayer_6 : decode cX9_isPlayer 6 = .ok (.iconst 0, 1) := by decide +kernel
theorem dX9_isPlayer_7 : decode cX9_isPlayer 7 = .ok (.iaload, 1) := by decide +kernel
theorem dX9_isPlayer_8 : decode cX9_isPlayer 8 = .ok (.iconst 1, 1) := by decide +kernel
theorem dX9_isPlayer_9 : decode cX9_isPlayer 9 = .ok (.isub, 1) := by decide +kernel
theorem dX9_isPlayer_10 : decode cX9_isPlayer 10 = .ok (.invokestatic 57, 3) := by decide +kernel
theorem dX9_isPlayer_13 : decode cX9_isPlayer 13 = .ok (.ireturn, 1) := by decide +kernel
theorem dX9_isCell_0 : decode cX9_isCell 0 = .ok (.iload_n 0, 1) := by decide +kernel
theorem dX9_isCell_1 : decode cX9_isCell 1 = .ok (.iconst 0, 1) := by decide +kernel
theorem dX9_isCell_2 : decode cX9_isCell 2 = .ok (.bipush 24, 2) := by decide +kernel
theorem dX9_isCell_4 : decode cX9_isCell 4 = .ok (.invokestatic 57, 3) := by decide +kernel
theorem dX9_isCell_7 : decode cX9_isCell 7 = .ok (.ireturn, 1) := by decide +kernel
theorem dX9_stones_0 : decode cX9_stones 0 = .ok (.iconst 0, 1) := by decide +kernel
theorem dX9_stones_1 : decode cX9_stones 1 = .ok (.istore_n 1, 1) := by decide +kernel
theorem dX9_stones_2 : decode cX9_stones 2 = .ok (.iconst 0, 1) := by decide +kernel
theorem dX9_stones_3 : decode cX9_stones 3 = .ok (.istore_n 2, 1) := by decide +kernel
theorem dX9_stones_4 : decode cX9_stones 4 = .ok (.iload_n 2, 1) := by decide +kernel
theorem dX9_stones_5 : decode cX9_stones 5 = .ok (.bipush 25, 2) := by decide +kernel
theorem dX9_stones_7 : decode cX9_stones 7 = .ok (.if_icmp .ge 21, 3) := by decide +kernel
theorem dX9_stones_10 : decode cX9_stones 10 = .ok (.iload_n 1, 1) := by decide +kernel
theorem dX9_stones_11 : decode cX9_stones 11 = .ok (.aload_n 0, 1) := by decide +kernel
theorem dX9_stones_12 : decode cX9_stones 12 = .ok (.getfield 16, 3) := by decide +kernel
theorem dX9_stones_15 : decode cX9_stones 15 = .ok (.bipush 17, 2) := by decide +kernel
theorem dX9_stones_17 : decode cX9_stones 17 = .ok (.iload_n 2, 1) := by decide +kernel
theorem dX9_stones_18 : decode cX9_stones 18 = .ok (.iadd, 1) := by decide +kernel
theorem dX9_stones_19 : decode cX9_stones 19 = .ok (.iaload, 1) := by decide +kernel
theorem dX9_stones_20 : decode cX9_stones 20 = .ok (.iadd, 1) := by decide +kernel
theorem dX9_stones_21 : decode cX9_stones 21 = .ok (.istore_n 1, 1) := by decide +kernel
theorem dX9_stones_22 : decode cX9_stones 22 = .ok (.iinc 2 1, 3) := by decide +kernel
theorem dX9_stones_25 : decode cX9_stones 25 = .ok (.goto (-21), 3) := by decide +kernel
theorem dX9_stones_28 : decode cX9_stones 28 = .ok (.iload_n 1, 1) := by decide +kernel
theorem dX9_stones_29 : decode cX9_stones 29 = .ok (.ireturn, 1) := by decide +kernel
theorem dX9_high_0 : decode cX9_high 0 = .ok (.iload_n 1, 1) := by decide +kernel
theorem dX9_high_1 : decode cX9_high 1 = .ok (.bipush 25, 2) := by decide +kernel
theorem dX9_high_3 : decode cX9_high 3 = .ok (.if_icmp .ne 7, 3) := by decide +kernel
theorem dX9_high_6 : decode cX9_high 6 = .ok (.iconst 0, 1) := by decide +kernel
theorem dX9_high_7 : decode cX9_high 7 = .ok (.goto 12, 3) := by decide +kernel
theorem dX9_high_10 : decode cX9_high 10 = .ok (.aload_n 0, 1) := by decide +kernel
theorem dX9_high_11 : decode cX9_high 11 = .ok (.getfield 16, 3) := by decide +kernel
theorem dX9_high_14 : decode cX9_high 14 = .ok (.bipush 17, 2) := by decide +kernel
theorem dX9_high_16 : decode cX9_high 16 = .ok (.iload_n 1, 1) := by decide +kernel
theorem dX9_high_17 : decode cX9_high 17 = .ok (.iadd, 1) := by decide +kernel
theorem dX9_high_18 : decode cX9_high 18 = .ok (.iaload, 1) := by decide +kernel
theorem dX9_high_19 : decode cX9_high 19 = .ok (.ireturn, 1) := by decide +kernel
theorem dX9_isEdge_0 : decode cX9_isEdge 0 = .ok (.iload_n 0, 1) := by decide +kernel
theorem dX9_isEdge_1 : decode cX9_isEdge 1 = .ok (.iconst 5, 1) := by decide +kernel
theorem dX9_isEdge_2 : decode cX9_isEdge 2 = .ok (.idiv, 1) := by decide +kernel
theorem dX9_isEdge_3 : decode cX9_isEdge 3 = .ok (.ifCond .eq 23, 3) := by decide +kernel
theorem dX9_isEdge_6 : decode cX9_isEdge 6 = .ok (.iload_n 0, 1) := by decide +kernel
theorem dX9_isEdge_7 : decode cX9_isEdge 7 = .ok (.iconst 5, 1) := by decide +kernel
theorem dX9_isEdge_8 : decode cX9_isEdge 8 = .ok (.idiv, 1) := by decide +kernel
theorem dX9_isEdge_9 : decode cX9_isEdge 9 = .ok (.iconst 4, 1) := by decide +kernel
theorem dX9_isEdge_10 : decode cX9_isEdge 10 = .ok (.if_icmp .eq 16, 3) := by decide +kernel
theorem dX9_isEdge_13 : decode cX9_isEdge 13 = .ok (.iload_n 0, 1) := by decide +kernel
theorem dX9_isEdge_14 : decode cX9_isEdge 14 = .ok (.iconst 5, 1) := by decide +kernel
theorem dX9_isEdge_15 : decode cX9_isEdge 15 = .ok (.irem, 1) := by decide +kernel
theorem dX9_isEdge_16 : decode cX9_isEdge 16 = .ok (.ifCond .eq 10, 3) := by decide +kernel
theorem dX9_isEdge_19 : decode cX9_isEdge 19 = .ok (.iload_n 0, 1) := by decide +kernel
theorem dX9_isEdge_20 : decode cX9_isEdge 20 = .ok (.iconst 5, 1) := by decide +kernel
theorem dX9_isEdge_21 : decode cX9_isEdge 21 = .ok (.irem, 1) := by decide +kernel
theorem dX9_isEdge_22 : decode cX9_isEdge 22 = .ok (.iconst 4, 1) := by decide +kernel
theorem dX9_isEdge_23 : decode cX9_isEdge 23 = .ok (.if_icmp .ne 7, 3) := by decide +kernel
theorem dX9_isEdge_26 : decode cX9_isEdge 26 = .ok (.iconst 1, 1) := by decide +kernel
theorem dX9_isEdge_27 : decode cX9_isEdge 27 = .ok (.goto 4, 3) := by decide +kernel
theorem dX9_isEdge_30 : decode cX9_isEdge 30 = .ok (.iconst 0, 1) := by decide +kernel
theorem dX9_isEdge_31 : decode cX9_isEdge 31 = .ok (.ireturn, 1) := by decide +kernel
theorem dX9_lower_0 : decode cX9_lower 0 = .ok (.iload_n 1, 1) := by decide +kernel
theorem dX9_lower_1 : decode cX9_lower 1 = .ok (.ifCond .lt 16, 3) := by decide +kernel
theorem dX9_lower_4 : decode cX9_lower 4 = .ok (.aload_n 0, 1) := by decide +kernel
theorem dX9_lower_5 : decode cX9_lower 5 = .ok (.iload_n 2, 1) := by decide +kernel
theorem dX9_lower_6 : decode cX9_lower 6 = .ok (.invokevirtual 61, 3) := by decide +kernel
theorem dX9_lower_9 : decode cX9_lower 9 = .ok (.aload_n 0, 1) := by decide +kernel
theorem dX9_lower_10 : decode cX9_lower 10 = .ok (.iload_n 1, 1) := by decide +kernel
theorem dX9_lower_11 : decode cX9_lower 11 = .ok (.invokevirtual 61, 3) := by decide +kernel
theorem dX9_lower_14 : decode cX9_lower 14 = .ok (.if_icmp .ge 7, 3) := by decide +kernel
theorem dX9_lower_17 : decode cX9_lower 17 = .ok (.iload_n 2, 1) := by decide +kernel
theorem dX9_lower_18 : decode cX9_lower 18 = .ok (.goto 4, 3) := by decide +kernel
theorem dX9_lower_21 : decode cX9_lower 21 = .ok (.iload_n 1, 1) := by decide +kernel
theorem dX9_lower_22 : decode cX9_lower 22 = .ok (.ireturn, 1) := by decide +kernel
theorem dX9_lowest_0 : decode cX9_lowest 0 = .ok (.iconst (-1), 1) := by decide +kernel
theorem dX9_lowest_1 : decode cX9_lowest 1 = .ok (.istore_n 2, 1) := by decide +kernel
theorem dX9_lowest_2 : decode cX9_lowest 2 = .ok (.iload_n 1, 1) := by decide +kernel
theorem dX9_lowest_3 : decode cX9_lowest 3 = .ok (.iconst 5, 1) := by decide +kernel
theorem dX9_lowest_4 : decode cX9_lowest 4 = .ok (.if_icmp .lt 12, 3) := by decide +kernel
theorem dX9_lowest_7 : decode cX9_lowest 7 = .ok (.aload_n 0, 1) := by decide +kernel
theorem dX9_lowest_8 : decode cX9_lowest 8 = .ok (.iload_n 2, 1) := by decide +kernel
theorem dX9_lowest_9 : decode cX9_lowest 9 = .ok (.iload_n 1, 1) := by decide +kernel
theorem dX9_lowest_10 : decode cX9_lowest 10 = .ok (.iconst 5, 1) := by decide +kernel
theorem dX9_lowest_11 : decode cX9_lowest 11 = .ok (.isub, 1) := by decide +kernel
theorem dX9_lowest_12 : decode cX9_lowest 12 = .ok (.invokevirtual 65, 3) := by decide +kernel
theorem dX9_lowest_15 : decode cX9_lowest 15 = .ok (.istore_n 2, 1) := by decide +kernel
theorem dX9_lowest_16 : decode cX9_lowest 16 = .ok (.iload_n 1, 1) := by decide +kernel
theorem dX9_lowest_17 : decode cX9_lowest 17 = .ok (.iconst 5, 1) := by decide +kernel
theorem dX9_lowest_18 : decode cX9_lowest 18 = .ok (.irem, 1) := by decide +kernel
theorem dX9_lowest_19 : decode cX9_lowest 19 = .ok (.ifCond .le 12, 3) := by decide +kernel
theorem dX9_lowest_22 : decode cX9_lowest 22 = .ok (.aload_n 0, 1) := by decide +kernel
theorem dX9_lowest_23 : decode cX9_lowest 23 = .ok (.iload_n 2, 1) := by decide +kernel
theorem dX9_lowest_24 : decode cX9_lowest 24 = .ok (.iload_n 1, 1) := by decide +kernel
theorem dX9_lowest_25 : decode cX9_lowest 25 = .ok (.iconst 1, 1) := by decide +kernel
theorem dX9_lowest_26 : decode cX9_lowest 26 = .ok (.isub, 1) := by decide +kernel
theorem dX9_lowest_27 : decode cX9_lowest 27 = .ok (.invokevirtual 65, 3) := by decide +kernel
theorem dX9_lowest_30 : decode cX9_lowest 30 = .ok (.istore_n 2, 1) := by decide +kernel
theorem dX9_lowest_31 : decode cX9_lowest 31 = .ok (.iload_n 1, 1) := by decide +kernel
theorem dX9_lowest_32 : decode cX9_lowest 32 = .ok (.iconst 5, 1) := by decide +kernel
theorem dX9_lowest_33 : decode cX9_lowest 33 = .ok (.irem, 1) := by decide +kernel
theorem dX9_lowest_34 : decode cX9_lowest 34 = .ok (.iconst 4, 1) := by decide +kernel
theorem dX9_lowest_35 : decode cX9_lowest 35 = .ok (.if_icmp .ge 12, 3) := by decide +kernel
theorem dX9_lowest_38 : decode cX9_lowest 38 = .ok (.aload_n 0, 1) := by decide +kernel
theorem dX9_lowest_39 : decode cX9_lowest 39 = .ok (.iload_n 2, 1) := by decide +kernel
theorem dX9_lowest_40 : decode cX9_lowest 40 = .ok (.iload_n 1, 1) := by decide +kernel
theorem dX9_lowest_41 : decode cX9_lowest 41 = .ok (.iconst 1, 1) := by decide +kernel
theorem dX9_lowest_42 : decode cX9_lowest 42 = .ok (.iadd, 1) := by decide +kernel
theorem dX9_lowest_43 : decode cX9_lowest 43 = .ok (.invokevirtual 65, 3) := by decide +kernel
theorem dX9_lowest_46 : decode cX9_lowest 46 = .ok (.istore_n 2, 1) := by decide +kernel
theorem dX9_lowest_47 : decode cX9_lowest 47 = .ok (.iload_n 1, 1) := by decide +kernel
theorem dX9_lowest_48 : decode cX9_lowest 48 = .ok (.bipush 20, 2) := by decide +kernel
theorem dX9_lowest_50 : decode cX9_lowest 50 = .ok (.if_icmp .ge 12, 3) := by decide +kernel
theorem dX9_lowest_53 : decode cX9_lowest 53 = .ok (.aload_n 0, 1) := by decide +kernel
theorem dX9_lowest_54 : decode cX9_lowest 54 = .ok (.iload_n 2, 1) := by decide +kernel
theorem dX9_lowest_55 : decode cX9_lowest 55 = .ok (.iload_n 1, 1) := by decide +kernel
theorem dX9_lowest_56 : decode cX9_lowest 56 = .ok (.iconst 5, 1) := by decide +kernel
theorem dX9_lowest_57 : decode cX9_lowest 57 = .ok (.iadd, 1) := by decide +kernel
theorem dX9_lowest_58 : decode cX9_lowest 58 = .ok (.invokevirtual 65, 3) := by decide +kernel
theorem dX9_lowest_61 : decode cX9_lowest 61 = .ok (.istore_n 2, 1) := by decide +kernel
theorem dX9_lowest_62 : decode cX9_lowest 62 = .ok (.aload_n 0, 1) := by decide +kernel
theorem dX9_lowest_63 : decode cX9_lowest 63 = .ok (.getfield 16, 3) := by decide +kernel
theorem dX9_lowest_66 : decode cX9_lowest 66 = .ok (.iconst 2, 1) := by decide +kernel
theorem dX9_lowest_67 : decode cX9_lowest 67 = .ok (.iaload, 1) := by decide +kernel
theorem dX9_lowest_68 : decode cX9_lowest 68 = .ok (.iconst 1, 1) := by decide +kernel
theorem dX9_lowest_69 : decode cX9_lowest 69 = .ok (.if_icmp .ne 20, 3) := by decide +kernel
theorem dX9_lowest_72 : decode cX9_lowest 72 = .ok (.iload_n 1, 1) := by decide +kernel
theorem dX9_lowest_73 : decode cX9_lowest 73 = .ok (.invokestatic 69, 3) := by decide +kernel
theorem dX9_lowest_76 : decode cX9_lowest 76 = .ok (.ifCond .eq 13, 3) := by decide +kernel
theorem dX9_lowest_79 : decode cX9_lowest 79 = .ok (.aload_n 0, 1) := by decide +kernel
theorem dX9_lowest_80 : decode cX9_lowest 80 = .ok (.iload_n 2, 1) := by decide +kernel
theorem dX9_lowest_81 : decode cX9_lowest 81 = .ok (.bipush 25, 2) := by decide +kernel
theorem dX9_lowest_83 : decode cX9_lowest 83 = .ok (.invokevirtual 65, 3) := by decide +kernel
theorem dX9_lowest_86 : decode cX9_lowest 86 = .ok (.goto 4, 3) := by decide +kernel
theorem dX9_lowest_89 : decode cX9_lowest 89 = .ok (.iload_n 2, 1) := by decide +kernel
theorem dX9_lowest_90 : decode cX9_lowest 90 = .ok (.ireturn, 1) := by decide +kernel
theorem dX9_steep_0 : decode cX9_steep 0 = .ok (.aload_n 0, 1) := by decide +kernel
theorem dX9_steep_1 : decode cX9_steep 1 = .ok (.getfield 16, 3) := by decide +kernel
theorem dX9_steep_4 : decode cX9_steep 4 = .ok (.bipush 17, 2) := by decide +kernel
theorem dX9_steep_6 : decode cX9_steep 6 = .ok (.iload_n 1, 1) := by decide +kernel
theorem dX9_steep_7 : decode cX9_steep 7 = .ok (.iadd, 1) := by decide +kernel
theorem dX9_steep_8 : decode cX9_steep 8 = .ok (.iaload, 1) := by decide +kernel
theorem dX9_steep_9 : decode cX9_steep 9 = .ok (.aload_n 0, 1) := by decide +kernel
theorem dX9_steep_10 : decode cX9_steep 10 = .ok (.aload_n 0, 1) := by decide +kernel
theorem dX9_steep_11 : decode cX9_steep 11 = .ok (.iload_n 1, 1) := by decide +kernel
theorem dX9_steep_12 : decode cX9_steep 12 = .ok (.invokevirtual 73, 3) := by decide +kernel
theorem dX9_steep_15 : decode cX9_steep 15 = .ok (.invokevirtual 61, 3) := by decide +kernel
theorem dX9_steep_18 : decode cX9_steep 18 = .ok (.isub, 1) := by decide +kernel
theorem dX9_steep_19 : decode cX9_steep 19 = .ok (.ireturn, 1) := by decide +kernel
theorem dX9_next_0 : decode cX9_next 0 = .ok (.iconst (-1), 1) := by decide +kernel
theorem dX9_next_1 : decode cX9_next 1 = .ok (.istore_n 1, 1) := by decide +kernel
theorem dX9_next_2 : decode cX9_next 2 = .ok (.iconst 0, 1) := by decide +kernel
theorem dX9_next_3 : decode cX9_next 3 = .ok (.istore_n 2, 1) := by decide +kernel
theorem dX9_next_4 : decode cX9_next 4 = .ok (.iload_n 2, 1) := by decide +kernel
theorem dX9_next_5 : decode cX9_next 5 = .ok (.bipush 25, 2) := by decide +kernel
theorem dX9_next_7 : decode cX9_next 7 = .ok (.if_icmp .ge 54, 3) := by decide +kernel
theorem dX9_next_10 : decode cX9_next 10 = .ok (.aload_n 0, 1) := by decide +kernel
theorem dX9_next_11 : decode cX9_next 11 = .ok (.iload_n 2, 1) := by decide +kernel
theorem dX9_next_12 : decode cX9_next 12 = .ok (.invokevirtual 76, 3) := by decide +kernel
theorem dX9_next_15 : decode cX9_next 15 = .ok (.aload_n 0, 1) := by decide +kernel
theorem dX9_next_16 : decode cX9_next 16 = .ok (.getfield 16, 3) := by decide +kernel
theorem dX9_next_19 : decode cX9_next 19 = .ok (.iconst 1, 1) := by decide +kernel
theorem dX9_next_20 : decode cX9_next 20 = .ok (.iaload, 1) := by decide +kernel
theorem dX9_next_21 : decode cX9_next 21 = .ok (.if_icmp .lt 32, 3) := by decide +kernel
theorem dX9_next_24 : decode cX9_next 24 = .ok (.iload_n 1, 1) := by decide +kernel
theorem dX9_next_25 : decode cX9_next 25 = .ok (.ifCond .lt 24, 3) := by decide +kernel
theorem dX9_next_28 : decode cX9_next 28 = .ok (.aload_n 0, 1) := by decide +kernel
theorem dX9_next_29 : decode cX9_next 29 = .ok (.getfield 16, 3) := by decide +kernel
theorem dX9_next_32 : decode cX9_next 32 = .ok (.bipush 17, 2) := by decide +kernel
theorem dX9_next_34 : decode cX9_next 34 = .ok (.iload_n 2, 1) := by decide +kernel
theorem dX9_next_35 : decode cX9_next 35 = .ok (.iadd, 1) := by decide +kernel
theorem dX9_next_36 : decode cX9_next 36 = .ok (.iaload, 1) := by decide +kernel
theorem dX9_next_37 : decode cX9_next 37 = .ok (.aload_n 0, 1) := by decide +kernel
theorem dX9_next_38 : decode cX9_next 38 = .ok (.getfield 16, 3) := by decide +kernel
theorem dX9_next_41 : decode cX9_next 41 = .ok (.bipush 17, 2) := by decide +kernel
theorem dX9_next_43 : decode cX9_next 43 = .ok (.iload_n 1, 1) := by decide +kernel
theorem dX9_next_44 : decode cX9_next 44 = .ok (.iadd, 1) := by decide +kernel
theorem dX9_next_45 : decode cX9_next 45 = .ok (.iaload, 1) := by decide +kernel
theorem dX9_next_46 : decode cX9_next 46 = .ok (.if_icmp .le 7, 3) := by decide +kernel
theorem dX9_next_49 : decode cX9_next 49 = .ok (.iload_n 2, 1) := by decide +kernel
theorem dX9_next_50 : decode cX9_next 50 = .ok (.goto 4, 3) := by decide +kernel
theorem dX9_next_53 : decode cX9_next 53 = .ok (.iload_n 1, 1) := by decide +kernel
theorem dX9_next_54 : decode cX9_next 54 = .ok (.istore_n 1, 1) := by decide +kernel
theorem dX9_next_55 : decode cX9_next 55 = .ok (.iinc 2 1, 3) := by decide +kernel
theorem dX9_next_58 : decode cX9_next 58 = .ok (.goto (-54), 3) := by decide +kernel
theorem dX9_next_61 : decode cX9_next 61 = .ok (.iload_n 1, 1) := by decide +kernel
theorem dX9_next_62 : decode cX9_next 62 = .ok (.ireturn, 1) := by decide +kernel
theorem dX9_topples_0 : decode cX9_topples 0 = .ok (.aload_n 0, 1) := by decide +kernel
theorem dX9_topples_1 : decode cX9_topples 1 = .ok (.iload_n 1, 1) := by decide +kernel
theorem dX9_topples_2 : decode cX9_topples 2 = .ok (.invokevirtual 73, 3) := by decide +kernel
theorem dX9_topples_5 : decode cX9_topples 5 = .ok (.istore_n 2, 1) := by decide +kernel
theorem dX9_topples_6 : decode cX9_topples 6 = .ok (.aload_n 0, 1) := by decide +kernel
theorem dX9_topples_7 : decode cX9_topples 7 = .ok (.getfield 16, 3) := by decide +kernel
theorem dX9_topples_10 : decode cX9_topples 10 = .ok (.bipush 42, 2) := by decide +kernel
theorem dX9_topples_12 : decode cX9_topples 12 = .ok (.iload_n 1, 1) := by decide +kernel
theorem dX9_topples_13 : decode cX9_topples 13 = .ok (.iadd, 1) := by decide +kernel
theorem dX9_topples_14 : decode cX9_topples 14 = .ok (.iaload, 1) := by decide +kernel
theorem dX9_topples_15 : decode cX9_topples 15 = .ok (.istore_n 3, 1) := by decide +kernel
theorem dX9_topples_16 : decode cX9_topples 16 = .ok (.aload_n 0, 1) := by decide +kernel
theorem dX9_topples_17 : decode cX9_topples 17 = .ok (.getfield 16, 3) := by decide +kernel
theorem dX9_topples_20 : decode cX9_topples 20 = .ok (.bipush 17, 2) := by decide +kernel
theorem dX9_topples_22 : decode cX9_topples 22 = .ok (.iload_n 1, 1) := by decide +kernel
theorem dX9_topples_23 : decode cX9_topples 23 = .ok (.iadd, 1) := by decide +kernel
theorem dX9_topples_24 : decode cX9_topples 24 = .ok (.dup2, 1) := by decide +kernel
theorem dX9_topples_25 : decode cX9_topples 25 = .ok (.iaload, 1) := by decide +kernel
theorem dX9_topples_26 : decode cX9_topples 26 = .ok (.iconst 1, 1) := by decide +kernel
theorem dX9_topples_27 : decode cX9_topples 27 = .ok (.isub, 1) := by decide +kernel
theorem dX9_topples_28 : decode cX9_topples 28 = .ok (.iastore, 1) := by decide +kernel
theorem dX9_topples_29 : decode cX9_topples 29 = .ok (.aload_n 0, 1) := by decide +kernel
theorem dX9_topples_30 : decode cX9_topples 30 = .ok (.getfield 16, 3) := by decide +kernel
theorem dX9_topples_33 : decode cX9_topples 33 = .ok (.bipush 17, 2) := by decide +kernel
theorem dX9_topples_35 : decode cX9_topples 35 = .ok (.iload_n 1, 1) := by decide +kernel
theorem dX9_topples_36 : decode cX9_topples 36 = .ok (.iadd, 1) := by decide +kernel
theorem dX9_topples_37 : decode cX9_topples 37 = .ok (.iaload, 1) := by decide +kernel
theorem dX9_topples_38 : decode cX9_topples 38 = .ok (.ifCond .ne 13, 3) := by decide +kernel
theorem dX9_topples_41 : decode cX9_topples 41 = .ok (.aload_n 0, 1) := by decide +kernel
theorem dX9_topples_42 : decode cX9_topples 42 = .ok (.getfield 16, 3) := by decide +kernel
theorem dX9_topples_45 : decode cX9_topples 45 = .ok (.bipush 42, 2) := by decide +kernel
theorem dX9_topples_47 : decode cX9_topples 47 = .ok (.iload_n 1, 1) := by decide +kernel
theorem dX9_topples_48 : decode cX9_topples 48 = .ok (.iadd, 1) := by decide +kernel
theorem dX9_topples_49 : decode cX9_topples 49 = .ok (.iconst 0, 1) := by decide +kernel
theorem dX9_topples_50 : decode cX9_topples 50 = .ok (.iastore, 1) := by decide +kernel
theorem dX9_topples_51 : decode cX9_topples 51 = .ok (.iload_n 2, 1) := by decide +kernel
theorem dX9_topples_52 : decode cX9_topples 52 = .ok (.bipush 25, 2) := by decide +kernel
theorem dX9_topples_54 : decode cX9_topples 54 = .ok (.if_icmp .ne 15, 3) := by decide +kernel
theorem dX9_topples_57 : decode cX9_topples 57 = .ok (.aload_n 0, 1) := by decide +kernel
theorem dX9_topples_58 : decode cX9_topples 58 = .ok (.getfield 16, 3) := by decide +kernel
theorem dX9_topples_61 : decode cX9_topples 61 = .ok (.bipush 7, 2) := by decide +kernel
theorem dX9_topples_63 : decode cX9_topples 63 = .ok (.dup2, 1) := by decide +kernel
theorem dX9_topples_64 : decode cX9_topples 64 = .ok (.iaload, 1) := by decide +kernel
theorem dX9_topples_65 : decode cX9_topples 65 = .ok (.iconst 1, 1) := by decide +kernel
theorem dX9_topples_66 : decode cX9_topples 66 = .ok (.iadd, 1) := by decide +kernel
theorem dX9_topples_67 : decode cX9_topples 67 = .ok (.iastore, 1) := by decide +kernel
theorem dX9_topples_68 : decode cX9_topples 68 = .ok (.return_, 1) := by decide +kernel
theorem dX9_topples_69 : decode cX9_topples 69 = .ok (.aload_n 0, 1) := by decide +kernel
theorem dX9_topples_70 : decode cX9_topples 70 = .ok (.getfield 16, 3) := by decide +kernel
theorem dX9_topples_73 : decode cX9_topples 73 = .ok (.bipush 17, 2) := by decide +kernel
theorem dX9_topples_75 : decode cX9_topples 75 = .ok (.iload_n 2, 1) := by decide +kernel
theorem dX9_topples_76 : decode cX9_topples 76 = .ok (.iadd, 1) := by decide +kernel
theorem dX9_topples_77 : decode cX9_topples 77 = .ok (.dup2, 1) := by decide +kernel
theorem dX9_topples_78 : decode cX9_topples 78 = .ok (.iaload, 1) := by decide +kernel
theorem dX9_topples_79 : decode cX9_topples 79 = .ok (.iconst 1, 1) := by decide +kernel
theorem dX9_topples_80 : decode cX9_topples 80 = .ok (.iadd, 1) := by decide +kernel
theorem dX9_topples_81 : decode cX9_topples 81 = .ok (.iastore, 1) := by decide +kernel
theorem dX9_topples_82 : decode cX9_topples 82 = .ok (.aload_n 0, 1) := by decide +kernel
theorem dX9_topples_83 : decode cX9_topples 83 = .ok (.getfield 16, 3) := by decide +kernel
theorem dX9_topples_86 : decode cX9_topples 86 = .ok (.bipush 42, 2) := by decide +kernel
theorem dX9_topples_88 : decode cX9_topples 88 = .ok (.iload_n 2, 1) := by decide +kernel
theorem dX9_topples_89 : decode cX9_topples 89 = .ok (.iadd, 1) := by decide +kernel
theorem dX9_topples_90 : decode cX9_topples 90 = .ok (.iload_n 3, 1) := by decide +kernel
theorem dX9_topples_91 : decode cX9_topples 91 = .ok (.iastore, 1) := by decide +kernel
theorem dX9_topples_92 : decode cX9_topples 92 = .ok (.return_, 1) := by decide +kernel
theorem dX9_rests_0 : decode cX9_rests 0 = .ok (.iconst 0, 1) := by decide +kernel
theorem dX9_rests_1 : decode cX9_rests 1 = .ok (.istore_n 1, 1) := by decide +kernel
theorem dX9_rests_2 : decode cX9_rests 2 = .ok (.aload_n 0, 1) := by decide +kernel
theorem dX9_rests_3 : decode cX9_rests 3 = .ok (.invokevirtual 79, 3) := by decide +kernel
theorem dX9_rests_6 : decode cX9_rests 6 = .ok (.istore_n 2, 1) := by decide +kernel
theorem dX9_rests_7 : decode cX9_rests 7 = .ok (.iload_n 2, 1) := by decide +kernel
theorem dX9_rests_8 : decode cX9_rests 8 = .ok (.ifCond .lt 19, 3) := by decide +kernel
theorem dX9_rests_11 : decode cX9_rests 11 = .ok (.aload_n 0, 1) := by decide +kernel
theorem dX9_rests_12 : decode cX9_rests 12 = .ok (.iload_n 2, 1) := by decide +kernel
theorem dX9_rests_13 : decode cX9_rests 13 = .ok (.invokevirtual 83, 3) := by decide +kernel
theorem dX9_rests_16 : decode cX9_rests 16 = .ok (.iinc 1 1, 3) := by decide +kernel
theorem dX9_rests_19 : decode cX9_rests 19 = .ok (.aload_n 0, 1) := by decide +kernel
theorem dX9_rests_20 : decode cX9_rests 20 = .ok (.invokevirtual 79, 3) := by decide +kernel
theorem dX9_rests_23 : decode cX9_rests 23 = .ok (.istore_n 2, 1) := by decide +kernel
theorem dX9_rests_24 : decode cX9_rests 24 = .ok (.goto (-17), 3) := by decide +kernel
theorem dX9_rests_27 : decode cX9_rests 27 = .ok (.aload_n 0, 1) := by decide +kernel
theorem dX9_rests_28 : decode cX9_rests 28 = .ok (.getfield 16, 3) := by decide +kernel
theorem dX9_rests_31 : decode cX9_rests 31 = .ok (.iconst 3, 1) := by decide +kernel
theorem dX9_rests_32 : decode cX9_rests 32 = .ok (.dup2, 1) := by decide +kernel
theorem dX9_rests_33 : decode cX9_rests 33 = .ok (.iaload, 1) := by decide +kernel
theorem dX9_rests_34 : decode cX9_rests 34 = .ok (.iload_n 1, 1) := by decide +kernel
theorem dX9_rests_35 : decode cX9_rests 35 = .ok (.iadd, 1) := by decide +kernel
theorem dX9_rests_36 : decode cX9_rests 36 = .ok (.iastore, 1) := by decide +kernel
theorem dX9_rests_37 : decode cX9_rests 37 = .ok (.aload_n 0, 1) := by decide +kernel
theorem dX9_rests_38 : decode cX9_rests 38 = .ok (.getfield 16, 3) := by decide +kernel
theorem dX9_rests_41 : decode cX9_rests 41 = .ok (.iconst 4, 1) := by decide +kernel
theorem dX9_rests_42 : decode cX9_rests 42 = .ok (.dup2, 1) := by decide +kernel
theorem dX9_rests_43 : decode cX9_rests 43 = .ok (.iaload, 1) := by decide +kernel
theorem dX9_rests_44 : decode cX9_rests 44 = .ok (.iload_n 1, 1) := by decide +kernel
theorem dX9_rests_45 : decode cX9_rests 45 = .ok (.ifCond .le 7, 3) := by decide +kernel
theorem dX9_rests_48 : decode cX9_rests 48 = .ok (.iconst 1, 1) := by decide +kernel
theorem dX9_rests_49 : decode cX9_rests 49 = .ok (.goto 4, 3) := by decide +kernel
theorem dX9_rests_52 : decode cX9_rests 52 = .ok (.iconst 0, 1) := by decide +kernel
theorem dX9_rests_53 : decode cX9_rests 53 = .ok (.iadd, 1) := by decide +kernel
theorem dX9_rests_54 : decode cX9_rests 54 = .ok (.iastore, 1) := by decide +kernel
theorem dX9_rests_55 : decode cX9_rests 55 = .ok (.aload_n 0, 1) := by decide +kernel
theorem dX9_rests_56 : decode cX9_rests 56 = .ok (.getfield 16, 3) := by decide +kernel
theorem dX9_rests_59 : decode cX9_rests 59 = .ok (.iconst 5, 1) := by decide +kernel
theorem dX9_rests_60 : decode cX9_rests 60 = .ok (.iload_n 1, 1) := by decide +kernel
theorem dX9_rests_61 : decode cX9_rests 61 = .ok (.aload_n 0, 1) := by decide +kernel
theorem dX9_rests_62 : decode cX9_rests 62 = .ok (.getfield 16, 3) := by decide +kernel
theorem dX9_rests_65 : decode cX9_rests 65 = .ok (.iconst 5, 1) := by decide +kernel
theorem dX9_rests_66 : decode cX9_rests 66 = .ok (.iaload, 1) := by decide +kernel
theorem dX9_rests_67 : decode cX9_rests 67 = .ok (.if_icmp .le 7, 3) := by decide +kernel
theorem dX9_rests_70 : decode cX9_rests 70 = .ok (.iload_n 1, 1) := by decide +kernel
theorem dX9_rests_71 : decode cX9_rests 71 = .ok (.goto 9, 3) := by decide +kernel
theorem dX9_rests_74 : decode cX9_rests 74 = .ok (.aload_n 0, 1) := by decide +kernel
theorem dX9_rests_75 : decode cX9_rests 75 = .ok (.getfield 16, 3) := by decide +kernel
theorem dX9_rests_78 : decode cX9_rests 78 = .ok (.iconst 5, 1) := by decide +kernel
theorem dX9_rests_79 : decode cX9_rests 79 = .ok (.iaload, 1) := by decide +kernel
theorem dX9_rests_80 : decode cX9_rests 80 = .ok (.iastore, 1) := by decide +kernel
theorem dX9_rests_81 : decode cX9_rests 81 = .ok (.iload_n 1, 1) := by decide +kernel
theorem dX9_rests_82 : decode cX9_rests 82 = .ok (.ireturn, 1) := by decide +kernel
theorem dX9_adds_0 : decode cX9_adds 0 = .ok (.iload_n 1, 1) := by decide +kernel
theorem dX9_adds_1 : decode cX9_adds 1 = .ok (.iconst 1, 1) := by decide +kernel
theorem dX9_adds_2 : decode cX9_adds 2 = .ok (.bipush 60, 2) := by decide +kernel
theorem dX9_adds_4 : decode cX9_adds 4 = .ok (.invokestatic 57, 3) := by decide +kernel
theorem dX9_adds_7 : decode cX9_adds 7 = .ok (.ifCond .ne 9, 3) := by decide +kernel
theorem dX9_adds_10 : decode cX9_adds 10 = .ok (.aload_n 0, 1) := by decide +kernel
theorem dX9_adds_11 : decode cX9_adds 11 = .ok (.iconst 1, 1) := by decide +kernel
theorem dX9_adds_12 : decode cX9_adds 12 = .ok (.invokevirtual 87, 3) := by decide +kernel
theorem dX9_adds_15 : decode cX9_adds 15 = .ok (.ireturn, 1) := by decide +kernel
theorem dX9_adds_16 : decode cX9_adds 16 = .ok (.aload_n 0, 1) := by decide +kernel
theorem dX9_adds_17 : decode cX9_adds 17 = .ok (.getfield 16, 3) := by decide +kernel
theorem dX9_adds_20 : decode cX9_adds 20 = .ok (.iconst 0, 1) := by decide +kernel
theorem dX9_adds_21 : decode cX9_adds 21 = .ok (.iaload, 1) := by decide +kernel
theorem dX9_adds_22 : decode cX9_adds 22 = .ok (.istore_n 2, 1) := by decide +kernel
theorem dX9_adds_23 : decode cX9_adds 23 = .ok (.iload_n 2, 1) := by decide +kernel
theorem dX9_adds_24 : decode cX9_adds 24 = .ok (.iconst 4, 1) := by decide +kernel
theorem dX9_adds_25 : decode cX9_adds 25 = .ok (.if_icmp .ne 9, 3) := by decide +kernel
theorem dX9_adds_28 : decode cX9_adds 28 = .ok (.aload_n 0, 1) := by decide +kernel
theorem dX9_adds_29 : decode cX9_adds 29 = .ok (.iconst 2, 1) := by decide +kernel
theorem dX9_adds_30 : decode cX9_adds 30 = .ok (.invokevirtual 87, 3) := by decide +kernel
theorem dX9_adds_33 : decode cX9_adds 33 = .ok (.ireturn, 1) := by decide +kernel
theorem dX9_adds_34 : decode cX9_adds 34 = .ok (.aload_n 0, 1) := by decide +kernel
theorem dX9_adds_35 : decode cX9_adds 35 = .ok (.getfield 16, 3) := by decide +kernel
theorem dX9_adds_38 : decode cX9_adds 38 = .ok (.bipush 9, 2) := by decide +kernel
theorem dX9_adds_40 : decode cX9_adds 40 = .ok (.iload_n 2, 1) := by decide +kernel
theorem dX9_adds_41 : decode cX9_adds 41 = .ok (.iadd, 1) := by decide +kernel
theorem dX9_adds_42 : decode cX9_adds 42 = .ok (.iload_n 1, 1) := by decide +kernel
theorem dX9_adds_43 : decode cX9_adds 43 = .ok (.iastore, 1) := by decide +kernel
theorem dX9_adds_44 : decode cX9_adds 44 = .ok (.aload_n 0, 1) := by decide +kernel
theorem dX9_adds_45 : decode cX9_adds 45 = .ok (.getfield 16, 3) := by decide +kernel
theorem dX9_adds_48 : decode cX9_adds 48 = .ok (.bipush 13, 2) := by decide +kernel
theorem dX9_adds_50 : decode cX9_adds 50 = .ok (.iload_n 2, 1) := by decide +kernel
theorem dX9_adds_51 : decode cX9_adds 51 = .ok (.iadd, 1) := by decide +kernel
theorem dX9_adds_52 : decode cX9_adds 52 = .ok (.iconst 0, 1) := by decide +kernel
theorem dX9_adds_53 : decode cX9_adds 53 = .ok (.iastore, 1) := by decide +kernel
theorem dX9_adds_54 : decode cX9_adds 54 = .ok (.aload_n 0, 1) := by decide +kernel
theorem dX9_adds_55 : decode cX9_adds 55 = .ok (.getfield 16, 3) := by decide +kernel
theorem dX9_adds_58 : decode cX9_adds 58 = .ok (.iconst 0, 1) := by decide +kernel
theorem dX9_adds_59 : decode cX9_adds 59 = .ok (.dup2, 1) := by decide +kernel
theorem dX9_adds_60 : decode cX9_adds 60 = .ok (.iaload, 1) := by decide +kernel
theorem dX9_adds_61 : decode cX9_adds 61 = .ok (.iconst 1, 1) := by decide +kernel
theorem dX9_adds_62 : decode cX9_adds 62 = .ok (.iadd, 1) := by decide +kernel
theorem dX9_adds_63 : decode cX9_adds 63 = .ok (.iastore, 1) := by decide +kernel
theorem dX9_adds_64 : decode cX9_adds 64 = .ok (.iload_n 2, 1) := by decide +kernel
theorem dX9_adds_65 : decode cX9_adds 65 = .ok (.ireturn, 1) := by decide +kernel
theorem dX9_addPlayer_0 : decode cX9_addPlayer 0 = .ok (.aload_n 0, 1) := by decide +kernel
theorem dX9_addPlayer_1 : decode cX9_addPlayer 1 = .ok (.invokevirtual 90, 3) := by decide +kernel
theorem dX9_addPlayer_4 : decode cX9_addPlayer 4 = .ok (.aload_n 0, 1) := by decide +kernel
theorem dX9_addPlayer_5 : decode cX9_addPlayer 5 = .ok (.aload_n 0, 1) := by decide +kernel
theorem dX9_addPlayer_6 : decode cX9_addPlayer 6 = .ok (.iload_n 1, 1) := by decide +kernel
theorem dX9_addPlayer_7 : decode cX9_addPlayer 7 = .ok (.invokevirtual 93, 3) := by decide +kernel
theorem dX9_addPlayer_10 : decode cX9_addPlayer 10 = .ok (.invokevirtual 96, 3) := by decide +kernel
theorem dX9_addPlayer_13 : decode cX9_addPlayer 13 = .ok (.ireturn, 1) := by decide +kernel
theorem dX9_heaps_0 : decode cX9_heaps 0 = .ok (.aload_n 0, 1) := by decide +kernel
theorem dX9_heaps_1 : decode cX9_heaps 1 = .ok (.getfield 16, 3) := by decide +kernel
theorem dX9_heaps_4 : decode cX9_heaps 4 = .ok (.bipush 17, 2) := by decide +kernel
theorem dX9_heaps_6 : decode cX9_heaps 6 = .ok (.iload_n 1, 1) := by decide +kernel
theorem dX9_heaps_7 : decode cX9_heaps 7 = .ok (.iadd, 1) := by decide +kernel
theorem dX9_heaps_8 : decode cX9_heaps 8 = .ok (.dup2, 1) := by decide +kernel
theorem dX9_heaps_9 : decode cX9_heaps 9 = .ok (.iaload, 1) := by decide +kernel
theorem dX9_heaps_10 : decode cX9_heaps 10 = .ok (.iload_n 2, 1) := by decide +kernel
theorem dX9_heaps_11 : decode cX9_heaps 11 = .ok (.iadd, 1) := by decide +kernel
theorem dX9_heaps_12 : decode cX9_heaps 12 = .ok (.iastore, 1) := by decide +kernel
theorem dX9_heaps_13 : decode cX9_heaps 13 = .ok (.aload_n 0, 1) := by decide +kernel
theorem dX9_heaps_14 : decode cX9_heaps 14 = .ok (.getfield 16, 3) := by decide +kernel
theorem dX9_heaps_17 : decode cX9_heaps 17 = .ok (.bipush 42, 2) := by decide +kernel
theorem dX9_heaps_19 : decode cX9_heaps 19 = .ok (.iload_n 1, 1) := by decide +kernel
theorem dX9_heaps_20 : decode cX9_heaps 20 = .ok (.iadd, 1) := by decide +kernel
theorem dX9_heaps_21 : decode cX9_heaps 21 = .ok (.iload_n 3, 1) := by decide +kernel
theorem dX9_heaps_22 : decode cX9_heaps 22 = .ok (.iastore, 1) := by decide +kernel
theorem dX9_heaps_23 : decode cX9_heaps 23 = .ok (.aload_n 0, 1) := by decide +kernel
theorem dX9_heaps_24 : decode cX9_heaps 24 = .ok (.getfield 16, 3) := by decide +kernel
theorem dX9_heaps_27 : decode cX9_heaps 27 = .ok (.bipush 6, 2) := by decide +kernel
theorem dX9_heaps_29 : decode cX9_heaps 29 = .ok (.dup2, 1) := by decide +kernel
theorem dX9_heaps_30 : decode cX9_heaps 30 = .ok (.iaload, 1) := by decide +kernel
theorem dX9_heaps_31 : decode cX9_heaps 31 = .ok (.iload_n 2, 1) := by decide +kernel
theorem dX9_heaps_32 : decode cX9_heaps 32 = .ok (.iadd, 1) := by decide +kernel
theorem dX9_heaps_33 : decode cX9_heaps 33 = .ok (.iastore, 1) := by decide +kernel
theorem dX9_heaps_34 : decode cX9_heaps 34 = .ok (.aload_n 0, 1) := by decide +kernel
theorem dX9_heaps_35 : decode cX9_heaps 35 = .ok (.invokevirtual 99, 3) := by decide +kernel
theorem dX9_heaps_38 : decode cX9_heaps 38 = .ok (.ireturn, 1) := by decide +kernel
theorem dX9_waits_0 : decode cX9_waits 0 = .ok (.iconst 0, 1) := by decide +kernel
theorem dX9_waits_1 : decode cX9_waits 1 = .ok (.istore_n 2, 1) := by decide +kernel
theorem dX9_waits_2 : decode cX9_waits 2 = .ok (.iconst 0, 1) := by decide +kernel
theorem dX9_waits_3 : decode cX9_waits 3 = .ok (.istore_n 3, 1) := by decide +kernel
theorem dX9_waits_4 : decode cX9_waits 4 = .ok (.iload_n 3, 1) := by decide +kernel
theorem dX9_waits_5 : decode cX9_waits 5 = .ok (.aload_n 0, 1) := by decide +kernel
theorem dX9_waits_6 : decode cX9_waits 6 = .ok (.getfield 16, 3) := by decide +kernel
theorem dX9_waits_9 : decode cX9_waits 9 = .ok (.iconst 0, 1) := by decide +kernel
theorem dX9_waits_10 : decode cX9_waits 10 = .ok (.iaload, 1) := by decide +kernel
theorem dX9_waits_11 : decode cX9_waits 11 = .ok (.if_icmp .ge 63, 3) := by decide +kernel
theorem dX9_waits_14 : decode cX9_waits 14 = .ok (.aload_n 0, 1) := by decide +kernel
theorem dX9_waits_15 : decode cX9_waits 15 = .ok (.getfield 16, 3) := by decide +kernel
theorem dX9_waits_18 : decode cX9_waits 18 = .ok (.bipush 13, 2) := by decide +kernel
theorem dX9_waits_20 : decode cX9_waits 20 = .ok (.iload_n 3, 1) := by decide +kernel
theorem dX9_waits_21 : decode cX9_waits 21 = .ok (.iadd, 1) := by decide +kernel
theorem dX9_waits_22 : decode cX9_waits 22 = .ok (.dup2, 1) := by decide +kernel
theorem dX9_waits_23 : decode cX9_waits 23 = .ok (.iaload, 1) := by decide +kernel
theorem dX9_waits_24 : decode cX9_waits 24 = .ok (.iload_n 3, 1) := by decide +kernel
theorem dX9_waits_25 : decode cX9_waits 25 = .ok (.iload_n 1, 1) := by decide +kernel
theorem dX9_waits_26 : decode cX9_waits 26 = .ok (.if_icmp .eq 19, 3) := by decide +kernel
theorem dX9_waits_29 : decode cX9_waits 29 = .ok (.aload_n 0, 1) := by decide +kernel
theorem dX9_waits_30 : decode cX9_waits 30 = .ok (.getfield 16, 3) := by decide +kernel
theorem dX9_waits_33 : decode cX9_waits 33 = .ok (.bipush 13, 2) := by decide +kernel
theorem dX9_waits_35 : decode cX9_waits 35 = .ok (.iload_n 3, 1) := by decide +kernel
theorem dX9_waits_36 : decode cX9_waits 36 = .ok (.iadd, 1) := by decide +kernel
theorem dX9_waits_37 : decode cX9_waits 37 = .ok (.iaload, 1) := by decide +kernel
theorem dX9_waits_38 : decode cX9_waits 38 = .ok (.ifCond .le 7, 3) := by decide +kernel
theorem dX9_waits_41 : decode cX9_waits 41 = .ok (.iconst 1, 1) := by decide +kernel
theorem dX9_waits_42 : decode cX9_waits 42 = .ok (.goto 4, 3) := by decide +kernel
theorem dX9_waits_45 : decode cX9_waits 45 = .ok (.iconst 0, 1) := by decide +kernel
theorem dX9_waits_46 : decode cX9_waits 46 = .ok (.isub, 1) := by decide +kernel
theorem dX9_waits_47 : decode cX9_waits 47 = .ok (.iastore, 1) := by decide +kernel
theorem dX9_waits_48 : decode cX9_waits 48 = .ok (.iload_n 2, 1) := by decide +kernel
theorem dX9_waits_49 : decode cX9_waits 49 = .ok (.aload_n 0, 1) := by decide +kernel
theorem dX9_waits_50 : decode cX9_waits 50 = .ok (.getfield 16, 3) := by decide +kernel
theorem dX9_waits_53 : decode cX9_waits 53 = .ok (.bipush 13, 2) := by decide +kernel
theorem dX9_waits_55 : decode cX9_waits 55 = .ok (.iload_n 3, 1) := by decide +kernel
theorem dX9_waits_56 : decode cX9_waits 56 = .ok (.iadd, 1) := by decide +kernel
theorem dX9_waits_57 : decode cX9_waits 57 = .ok (.iaload, 1) := by decide +kernel
theorem dX9_waits_58 : decode cX9_waits 58 = .ok (.ifCond .le 7, 3) := by decide +kernel
theorem dX9_waits_61 : decode cX9_waits 61 = .ok (.iconst 1, 1) := by decide +kernel
theorem dX9_waits_62 : decode cX9_waits 62 = .ok (.goto 4, 3) := by decide +kernel
theorem dX9_waits_65 : decode cX9_waits 65 = .ok (.iconst 0, 1) := by decide +kernel
theorem dX9_waits_66 : decode cX9_waits 66 = .ok (.iadd, 1) := by decide +kernel
theorem dX9_waits_67 : decode cX9_waits 67 = .ok (.istore_n 2, 1) := by decide +kernel
theorem dX9_waits_68 : decode cX9_waits 68 = .ok (.iinc 3 1, 3) := by decide +kernel
theorem dX9_waits_71 : decode cX9_waits 71 = .ok (.goto (-67), 3) := by decide +kernel
theorem dX9_waits_74 : decode cX9_waits 74 = .ok (.iload_n 2, 1) := by decide +kernel
theorem dX9_waits_75 : decode cX9_waits 75 = .ok (.ireturn, 1) := by decide +kernel
theorem dX9_drops_0 : decode cX9_drops 0 = .ok (.aload_n 0, 1) := by decide +kernel
theorem dX9_drops_1 : decode cX9_drops 1 = .ok (.iload_n 1, 1) := by decide +kernel
theorem dX9_drops_2 : decode cX9_drops 2 = .ok (.invokevirtual 102, 3) := by decide +kernel
theorem dX9_drops_5 : decode cX9_drops 5 = .ok (.ifCond .eq 10, 3) := by decide +kernel
theorem dX9_drops_8 : decode cX9_drops 8 = .ok (.iload_n 2, 1) := by decide +kernel
theorem dX9_drops_9 : decode cX9_drops 9 = .ok (.invokestatic 105, 3) := by decide +kernel
theorem dX9_drops_12 : decode cX9_drops 12 = .ok (.ifCond .ne 9, 3) := by decide +kernel
theorem dX9_drops_15 : decode cX9_drops 15 = .ok (.aload_n 0, 1) := by decide +kernel
theorem dX9_drops_16 : decode cX9_drops 16 = .ok (.iconst 1, 1) := by decide +kernel
theorem dX9_drops_17 : decode cX9_drops 17 = .ok (.invokevirtual 87, 3) := by decide +kernel
theorem dX9_drops_20 : decode cX9_drops 20 = .ok (.ireturn, 1) := by decide +kernel
theorem dX9_drops_21 : decode cX9_drops 21 = .ok (.iload_n 3, 1) := by decide +kernel
theorem dX9_drops_22 : decode cX9_drops 22 = .ok (.iconst 1, 1) := by decide +kernel
theorem dX9_drops_23 : decode cX9_drops 23 = .ok (.bipush 9, 2) := by decide +kernel
theorem dX9_drops_25 : decode cX9_drops 25 = .ok (.invokestatic 57, 3) := by decide +kernel
theorem dX9_drops_28 : decode cX9_drops 28 = .ok (.ifCond .ne 9, 3) := by decide +kernel
theorem dX9_drops_31 : decode cX9_drops 31 = .ok (.aload_n 0, 1) := by decide +kernel
theorem dX9_drops_32 : decode cX9_drops 32 = .ok (.iconst 2, 1) := by decide +kernel
theorem dX9_drops_33 : decode cX9_drops 33 = .ok (.invokevirtual 87, 3) := by decide +kernel
theorem dX9_drops_36 : decode cX9_drops 36 = .ok (.ireturn, 1) := by decide +kernel
theorem dX9_drops_37 : decode cX9_drops 37 = .ok (.aload_n 0, 1) := by decide +kernel
theorem dX9_drops_38 : decode cX9_drops 38 = .ok (.getfield 16, 3) := by decide +kernel
theorem dX9_drops_41 : decode cX9_drops 41 = .ok (.bipush 13, 2) := by decide +kernel
theorem dX9_drops_43 : decode cX9_drops 43 = .ok (.iload_n 1, 1) := by decide +kernel
theorem dX9_drops_44 : decode cX9_drops 44 = .ok (.iadd, 1) := by decide +kernel
theorem dX9_drops_45 : decode cX9_drops 45 = .ok (.iaload, 1) := by decide +kernel
theorem dX9_drops_46 : decode cX9_drops 46 = .ok (.ifCond .gt 15, 3) := by decide +kernel
theorem dX9_drops_49 : decode cX9_drops 49 = .ok (.aload_n 0, 1) := by decide +kernel
theorem dX9_drops_50 : decode cX9_drops 50 = .ok (.invokevirtual 108, 3) := by decide +kernel
theorem dX9_drops_53 : decode cX9_drops 53 = .ok (.iload_n 3, 1) := by decide +kernel
theorem dX9_drops_54 : decode cX9_drops 54 = .ok (.iadd, 1) := by decide +kernel
theorem dX9_drops_55 : decode cX9_drops 55 = .ok (.sipush 300, 3) := by decide +kernel
theorem dX9_drops_58 : decode cX9_drops 58 = .ok (.if_icmp .le 9, 3) := by decide +kernel
theorem dX9_drops_61 : decode cX9_drops 61 = .ok (.aload_n 0, 1) := by decide +kernel
theorem dX9_drops_62 : decode cX9_drops 62 = .ok (.iconst 3, 1) := by decide +kernel
theorem dX9_drops_63 : decode cX9_drops 63 = .ok (.invokevirtual 87, 3) := by decide +kernel
theorem dX9_drops_66 : decode cX9_drops 66 = .ok (.ireturn, 1) := by decide +kernel
theorem dX9_drops_67 : decode cX9_drops 67 = .ok (.aload_n 0, 1) := by decide +kernel
theorem dX9_drops_68 : decode cX9_drops 68 = .ok (.getfield 16, 3) := by decide +kernel
theorem dX9_drops_71 : decode cX9_drops 71 = .ok (.bipush 9, 2) := by decide +kernel
theorem dX9_drops_73 : decode cX9_drops 73 = .ok (.iload_n 1, 1) := by decide +kernel
theorem dX9_drops_74 : decode cX9_drops 74 = .ok (.iadd, 1) := by decide +kernel
theorem dX9_drops_75 : decode cX9_drops 75 = .ok (.iaload, 1) := by decide +kernel
theorem dX9_drops_76 : decode cX9_drops 76 = .ok (.iload_n 3, 1) := by decide +kernel
theorem dX9_drops_77 : decode cX9_drops 77 = .ok (.if_icmp .ge 9, 3) := by decide +kernel
theorem dX9_drops_80 : decode cX9_drops 80 = .ok (.aload_n 0, 1) := by decide +kernel
theorem dX9_drops_81 : decode cX9_drops 81 = .ok (.iconst 4, 1) := by decide +kernel
theorem dX9_drops_82 : decode cX9_drops 82 = .ok (.invokevirtual 87, 3) := by decide +kernel
theorem dX9_drops_85 : decode cX9_drops 85 = .ok (.ireturn, 1) := by decide +kernel
theorem dX9_drops_86 : decode cX9_drops 86 = .ok (.aload_n 0, 1) := by decide +kernel
theorem dX9_drops_87 : decode cX9_drops 87 = .ok (.iload_n 1, 1) := by decide +kernel
theorem dX9_drops_88 : decode cX9_drops 88 = .ok (.invokevirtual 111, 3) := by decide +kernel
theorem dX9_drops_91 : decode cX9_drops 91 = .ok (.istore 4, 2) := by decide +kernel
theorem dX9_drops_93 : decode cX9_drops 93 = .ok (.aload_n 0, 1) := by decide +kernel
theorem dX9_drops_94 : decode cX9_drops 94 = .ok (.getfield 16, 3) := by decide +kernel
theorem dX9_drops_97 : decode cX9_drops 97 = .ok (.bipush 9, 2) := by decide +kernel
theorem dX9_drops_99 : decode cX9_drops 99 = .ok (.iload_n 1, 1) := by decide +kernel
theorem dX9_drops_100 : decode cX9_drops 100 = .ok (.iadd, 1) := by decide +kernel
theorem dX9_drops_101 : decode cX9_drops 101 = .ok (.dup2, 1) := by decide +kernel
theorem dX9_drops_102 : decode cX9_drops 102 = .ok (.iaload, 1) := by decide +kernel
theorem dX9_drops_103 : decode cX9_drops 103 = .ok (.iload_n 3, 1) := by decide +kernel
theorem dX9_drops_104 : decode cX9_drops 104 = .ok (.isub, 1) := by decide +kernel
theorem dX9_drops_105 : decode cX9_drops 105 = .ok (.iastore, 1) := by decide +kernel
theorem dX9_drops_106 : decode cX9_drops 106 = .ok (.aload_n 0, 1) := by decide +kernel
theorem dX9_drops_107 : decode cX9_drops 107 = .ok (.iload_n 2, 1) := by decide +kernel
theorem dX9_drops_108 : decode cX9_drops 108 = .ok (.iload_n 3, 1) := by decide +kernel
theorem dX9_drops_109 : decode cX9_drops 109 = .ok (.iload_n 1, 1) := by decide +kernel
theorem dX9_drops_110 : decode cX9_drops 110 = .ok (.iconst 1, 1) := by decide +kernel
theorem dX9_drops_111 : decode cX9_drops 111 = .ok (.iadd, 1) := by decide +kernel
theorem dX9_drops_112 : decode cX9_drops 112 = .ok (.invokevirtual 114, 3) := by decide +kernel
theorem dX9_drops_115 : decode cX9_drops 115 = .ok (.istore 5, 2) := by decide +kernel
theorem dX9_drops_117 : decode cX9_drops 117 = .ok (.iload 5, 2) := by decide +kernel
theorem dX9_drops_119 : decode cX9_drops 119 = .ok (.ifCond .le 16, 3) := by decide +kernel
theorem dX9_drops_122 : decode cX9_drops 122 = .ok (.aload_n 0, 1) := by decide +kernel
theorem dX9_drops_123 : decode cX9_drops 123 = .ok (.getfield 16, 3) := by decide +kernel
theorem dX9_drops_126 : decode cX9_drops 126 = .ok (.bipush 13, 2) := by decide +kernel
theorem dX9_drops_128 : decode cX9_drops 128 = .ok (.iload_n 1, 1) := by decide +kernel
theorem dX9_drops_129 : decode cX9_drops 129 = .ok (.iadd, 1) := by decide +kernel
theorem dX9_drops_130 : decode cX9_drops 130 = .ok (.iload 5, 2) := by decide +kernel
theorem dX9_drops_132 : decode cX9_drops 132 = .ok (.iconst 4, 1) := by decide +kernel
theorem dX9_drops_133 : decode cX9_drops 133 = .ok (.idiv, 1) := by decide +kernel
theorem dX9_drops_134 : decode cX9_drops 134 = .ok (.iastore, 1) := by decide +kernel
theorem dX9_drops_135 : decode cX9_drops 135 = .ok (.iload 5, 2) := by decide +kernel
theorem dX9_drops_137 : decode cX9_drops 137 = .ok (.ireturn, 1) := by decide +kernel
theorem dX9_drop_0 : decode cX9_drop 0 = .ok (.aload_n 0, 1) := by decide +kernel
theorem dX9_drop_1 : decode cX9_drop 1 = .ok (.invokevirtual 90, 3) := by decide +kernel
theorem dX9_drop_4 : decode cX9_drop 4 = .ok (.aload_n 0, 1) := by decide +kernel
theorem dX9_drop_5 : decode cX9_drop 5 = .ok (.aload_n 0, 1) := by decide +kernel
theorem dX9_drop_6 : decode cX9_drop 6 = .ok (.iload_n 1, 1) := by decide +kernel
theorem dX9_drop_7 : decode cX9_drop 7 = .ok (.iload_n 2, 1) := by decide +kernel
theorem dX9_drop_8 : decode cX9_drop 8 = .ok (.iload_n 3, 1) := by decide +kernel
theorem dX9_drop_9 : decode cX9_drop 9 = .ok (.invokevirtual 118, 3) := by decide +kernel
theorem dX9_drop_12 : decode cX9_drop 12 = .ok (.invokevirtual 96, 3) := by decide +kernel
theorem dX9_drop_15 : decode cX9_drop 15 = .ok (.ireturn, 1) := by decide +kernel
theorem dX9_piles_0 : decode cX9_piles 0 = .ok (.iload_n 1, 1) := by decide +kernel
theorem dX9_piles_1 : decode cX9_piles 1 = .ok (.invokestatic 105, 3) := by decide +kernel
theorem dX9_piles_4 : decode cX9_piles 4 = .ok (.ifCond .ne 9, 3) := by decide +kernel
theorem dX9_piles_7 : decode cX9_piles 7 = .ok (.aload_n 0, 1) := by decide +kernel
theorem dX9_piles_8 : decode cX9_piles 8 = .ok (.iconst 1, 1) := by decide +kernel
theorem dX9_piles_9 : decode cX9_piles 9 = .ok (.invokevirtual 87, 3) := by decide +kernel
theorem dX9_piles_12 : decode cX9_piles 12 = .ok (.ireturn, 1) := by decide +kernel
theorem dX9_piles_13 : decode cX9_piles 13 = .ok (.iload_n 2, 1) := by decide +kernel
theorem dX9_piles_14 : decode cX9_piles 14 = .ok (.iconst 1, 1) := by decide +kernel
theorem dX9_piles_15 : decode cX9_piles 15 = .ok (.bipush 9, 2) := by decide +kernel
theorem dX9_piles_17 : decode cX9_piles 17 = .ok (.invokestatic 57, 3) := by decide +kernel
theorem dX9_piles_20 : decode cX9_piles 20 = .ok (.ifCond .ne 9, 3) := by decide +kernel
theorem dX9_piles_23 : decode cX9_piles 23 = .ok (.aload_n 0, 1) := by decide +kernel
theorem dX9_piles_24 : decode cX9_piles 24 = .ok (.iconst 2, 1) := by decide +kernel
theorem dX9_piles_25 : decode cX9_piles 25 = .ok (.invokevirtual 87, 3) := by decide +kernel
theorem dX9_piles_28 : decode cX9_piles 28 = .ok (.ireturn, 1) := by decide +kernel
theorem dX9_piles_29 : decode cX9_piles 29 = .ok (.aload_n 0, 1) := by decide +kernel
theorem dX9_piles_30 : decode cX9_piles 30 = .ok (.invokevirtual 108, 3) := by decide +kernel
theorem dX9_piles_33 : decode cX9_piles 33 = .ok (.iload_n 2, 1) := by decide +kernel
theorem dX9_piles_34 : decode cX9_piles 34 = .ok (.iadd, 1) := by decide +kernel
theorem dX9_piles_35 : decode cX9_piles 35 = .ok (.sipush 300, 3) := by decide +kernel
theorem dX9_piles_38 : decode cX9_piles 38 = .ok (.if_icmp .le 9, 3) := by decide +kernel
theorem dX9_piles_41 : decode cX9_piles 41 = .ok (.aload_n 0, 1) := by decide +kernel
theorem dX9_piles_42 : decode cX9_piles 42 = .ok (.iconst 3, 1) := by decide +kernel
theorem dX9_piles_43 : decode cX9_piles 43 = .ok (.invokevirtual 87, 3) := by decide +kernel
theorem dX9_piles_46 : decode cX9_piles 46 = .ok (.ireturn, 1) := by decide +kernel
theorem dX9_piles_47 : decode cX9_piles 47 = .ok (.aload_n 0, 1) := by decide +kernel
theorem dX9_piles_48 : decode cX9_piles 48 = .ok (.iload_n 1, 1) := by decide +kernel
theorem dX9_piles_49 : decode cX9_piles 49 = .ok (.iload_n 2, 1) := by decide +kernel
theorem dX9_piles_50 : decode cX9_piles 50 = .ok (.iconst 0, 1) := by decide +kernel
theorem dX9_piles_51 : decode cX9_piles 51 = .ok (.invokevirtual 114, 3) := by decide +kernel
theorem dX9_piles_54 : decode cX9_piles 54 = .ok (.ireturn, 1) := by decide +kernel
theorem dX9_pile_0 : decode cX9_pile 0 = .ok (.aload_n 0, 1) := by decide +kernel
theorem dX9_pile_1 : decode cX9_pile 1 = .ok (.invokevirtual 90, 3) := by decide +kernel
theorem dX9_pile_4 : decode cX9_pile 4 = .ok (.aload_n 0, 1) := by decide +kernel
theorem dX9_pile_5 : decode cX9_pile 5 = .ok (.aload_n 0, 1) := by decide +kernel
theorem dX9_pile_6 : decode cX9_pile 6 = .ok (.iload_n 1, 1) := by decide +kernel
theorem dX9_pile_7 : decode cX9_pile 7 = .ok (.iload_n 2, 1) := by decide +kernel
theorem dX9_pile_8 : decode cX9_pile 8 = .ok (.invokevirtual 121, 3) := by decide +kernel
theorem dX9_pile_11 : decode cX9_pile 11 = .ok (.invokevirtual 96, 3) := by decide +kernel
theorem dX9_pile_14 : decode cX9_pile 14 = .ok (.ireturn, 1) := by decide +kernel
theorem dX9_takes_0 : decode cX9_takes 0 = .ok (.aload_n 0, 1) := by decide +kernel
theorem dX9_takes_1 : decode cX9_takes 1 = .ok (.iload_n 1, 1) := by decide +kernel
theorem dX9_takes_2 : decode cX9_takes 2 = .ok (.invokevirtual 102, 3) := by decide +kernel
theorem dX9_takes_5 : decode cX9_takes 5 = .ok (.ifCond .eq 10, 3) := by decide +kernel
theorem dX9_takes_8 : decode cX9_takes 8 = .ok (.iload_n 2, 1) := by decide +kernel
theorem dX9_takes_9 : decode cX9_takes 9 = .ok (.invokestatic 105, 3) := by decide +kernel
theorem dX9_takes_12 : decode cX9_takes 12 = .ok (.ifCond .ne 9, 3) := by decide +kernel
theorem dX9_takes_15 : decode cX9_takes 15 = .ok (.aload_n 0, 1) := by decide +kernel
theorem dX9_takes_16 : decode cX9_takes 16 = .ok (.iconst 1, 1) := by decide +kernel
theorem dX9_takes_17 : decode cX9_takes 17 = .ok (.invokevirtual 87, 3) := by decide +kernel
theorem dX9_takes_20 : decode cX9_takes 20 = .ok (.ireturn, 1) := by decide +kernel
theorem dX9_takes_21 : decode cX9_takes 21 = .ok (.aload_n 0, 1) := by decide +kernel
theorem dX9_takes_22 : decode cX9_takes 22 = .ok (.getfield 16, 3) := by decide +kernel
theorem dX9_takes_25 : decode cX9_takes 25 = .ok (.bipush 17, 2) := by decide +kernel
theorem dX9_takes_27 : decode cX9_takes 27 = .ok (.iload_n 2, 1) := by decide +kernel
theorem dX9_takes_28 : decode cX9_takes 28 = .ok (.iadd, 1) := by decide +kernel
theorem dX9_takes_29 : decode cX9_takes 29 = .ok (.iaload, 1) := by decide +kernel
theorem dX9_takes_30 : decode cX9_takes 30 = .ok (.ifCond .ne 9, 3) := by decide +kernel
theorem dX9_takes_33 : decode cX9_takes 33 = .ok (.aload_n 0, 1) := by decide +kernel
theorem dX9_takes_34 : decode cX9_takes 34 = .ok (.iconst 2, 1) := by decide +kernel
theorem dX9_takes_35 : decode cX9_takes 35 = .ok (.invokevirtual 87, 3) := by decide +kernel
theorem dX9_takes_38 : decode cX9_takes 38 = .ok (.ireturn, 1) := by decide +kernel
theorem dX9_takes_39 : decode cX9_takes 39 = .ok (.aload_n 0, 1) := by decide +kernel
theorem dX9_takes_40 : decode cX9_takes 40 = .ok (.getfield 16, 3) := by decide +kernel
theorem dX9_takes_43 : decode cX9_takes 43 = .ok (.bipush 42, 2) := by decide +kernel
theorem dX9_takes_45 : decode cX9_takes 45 = .ok (.iload_n 2, 1) := by decide +kernel
theorem dX9_takes_46 : decode cX9_takes 46 = .ok (.iadd, 1) := by decide +kernel
theorem dX9_takes_47 : decode cX9_takes 47 = .ok (.iaload, 1) := by decide +kernel
theorem dX9_takes_48 : decode cX9_takes 48 = .ok (.iload_n 1, 1) := by decide +kernel
theorem dX9_takes_49 : decode cX9_takes 49 = .ok (.iconst 1, 1) := by decide +kernel
theorem dX9_takes_50 : decode cX9_takes 50 = .ok (.iadd, 1) := by decide +kernel
theorem dX9_takes_51 : decode cX9_takes 51 = .ok (.if_icmp .eq 9, 3) := by decide +kernel
theorem dX9_takes_54 : decode cX9_takes 54 = .ok (.aload_n 0, 1) := by decide +kernel
theorem dX9_takes_55 : decode cX9_takes 55 = .ok (.iconst 3, 1) := by decide +kernel
theorem dX9_takes_56 : decode cX9_takes 56 = .ok (.invokevirtual 87, 3) := by decide +kernel
theorem dX9_takes_59 : decode cX9_takes 59 = .ok (.ireturn, 1) := by decide +kernel
theorem dX9_takes_60 : decode cX9_takes 60 = .ok (.aload_n 0, 1) := by decide +kernel
theorem dX9_takes_61 : decode cX9_takes 61 = .ok (.getfield 16, 3) := by decide +kernel
theorem dX9_takes_64 : decode cX9_takes 64 = .ok (.bipush 17, 2) := by decide +kernel
theorem dX9_takes_66 : decode cX9_takes 66 = .ok (.iload_n 2, 1) := by decide +kernel
theorem dX9_takes_67 : decode cX9_takes 67 = .ok (.iadd, 1) := by decide +kernel
theorem dX9_takes_68 : decode cX9_takes 68 = .ok (.dup2, 1) := by decide +kernel
theorem dX9_takes_69 : decode cX9_takes 69 = .ok (.iaload, 1) := by decide +kernel
theorem dX9_takes_70 : decode cX9_takes 70 = .ok (.iconst 1, 1) := by decide +kernel
theorem dX9_takes_71 : decode cX9_takes 71 = .ok (.isub, 1) := by decide +kernel
theorem dX9_takes_72 : decode cX9_takes 72 = .ok (.iastore, 1) := by decide +kernel
theorem dX9_takes_73 : decode cX9_takes 73 = .ok (.aload_n 0, 1) := by decide +kernel
theorem dX9_takes_74 : decode cX9_takes 74 = .ok (.getfield 16, 3) := by decide +kernel
theorem dX9_takes_77 : decode cX9_takes 77 = .ok (.bipush 17, 2) := by decide +kernel
theorem dX9_takes_79 : decode cX9_takes 79 = .ok (.iload_n 2, 1) := by decide +kernel
theorem dX9_takes_80 : decode cX9_takes 80 = .ok (.iadd, 1) := by decide +kernel
theorem dX9_takes_81 : decode cX9_takes 81 = .ok (.iaload, 1) := by decide +kernel
theorem dX9_takes_82 : decode cX9_takes 82 = .ok (.ifCond .ne 13, 3) := by decide +kernel
theorem dX9_takes_85 : decode cX9_takes 85 = .ok (.aload_n 0, 1) := by decide +kernel
theorem dX9_takes_86 : decode cX9_takes 86 = .ok (.getfield 16, 3) := by decide +kernel
theorem dX9_takes_89 : decode cX9_takes 89 = .ok (.bipush 42, 2) := by decide +kernel
theorem dX9_takes_91 : decode cX9_takes 91 = .ok (.iload_n 2, 1) := by decide +kernel
theorem dX9_takes_92 : decode cX9_takes 92 = .ok (.iadd, 1) := by decide +kernel
theorem dX9_takes_93 : decode cX9_takes 93 = .ok (.iconst 0, 1) := by decide +kernel
theorem dX9_takes_94 : decode cX9_takes 94 = .ok (.iastore, 1) := by decide +kernel
theorem dX9_takes_95 : decode cX9_takes 95 = .ok (.aload_n 0, 1) := by decide +kernel
theorem dX9_takes_96 : decode cX9_takes 96 = .ok (.getfield 16, 3) := by decide +kernel
theorem dX9_takes_99 : decode cX9_takes 99 = .ok (.bipush 9, 2) := by decide +kernel
theorem dX9_takes_101 : decode cX9_takes 101 = .ok (.iload_n 1, 1) := by decide +kernel
theorem dX9_takes_102 : decode cX9_takes 102 = .ok (.iadd, 1) := by decide +kernel
theorem dX9_takes_103 : decode cX9_takes 103 = .ok (.dup2, 1) := by decide +kernel
theorem dX9_takes_104 : decode cX9_takes 104 = .ok (.iaload, 1) := by decide +kernel
theorem dX9_takes_105 : decode cX9_takes 105 = .ok (.iconst 1, 1) := by decide +kernel
theorem dX9_takes_106 : decode cX9_takes 106 = .ok (.iadd, 1) := by decide +kernel
theorem dX9_takes_107 : decode cX9_takes 107 = .ok (.iastore, 1) := by decide +kernel
theorem dX9_takes_108 : decode cX9_takes 108 = .ok (.aload_n 0, 1) := by decide +kernel
theorem dX9_takes_109 : decode cX9_takes 109 = .ok (.getfield 16, 3) := by decide +kernel
theorem dX9_takes_112 : decode cX9_takes 112 = .ok (.bipush 8, 2) := by decide +kernel
theorem dX9_takes_114 : decode cX9_takes 114 = .ok (.dup2, 1) := by decide +kernel
theorem dX9_takes_115 : decode cX9_takes 115 = .ok (.iaload, 1) := by decide +kernel
theorem dX9_takes_116 : decode cX9_takes 116 = .ok (.iconst 1, 1) := by decide +kernel
theorem dX9_takes_117 : decode cX9_takes 117 = .ok (.iadd, 1) := by decide +kernel
theorem dX9_takes_118 : decode cX9_takes 118 = .ok (.iastore, 1) := by decide +kernel
theorem dX9_takes_119 : decode cX9_takes 119 = .ok (.aload_n 0, 1) := by decide +kernel
theorem dX9_takes_120 : decode cX9_takes 120 = .ok (.invokevirtual 99, 3) := by decide +kernel
theorem dX9_takes_123 : decode cX9_takes 123 = .ok (.ireturn, 1) := by decide +kernel
theorem dX9_take_0 : decode cX9_take 0 = .ok (.aload_n 0, 1) := by decide +kernel
theorem dX9_take_1 : decode cX9_take 1 = .ok (.invokevirtual 90, 3) := by decide +kernel
theorem dX9_take_4 : decode cX9_take 4 = .ok (.aload_n 0, 1) := by decide +kernel
theorem dX9_take_5 : decode cX9_take 5 = .ok (.aload_n 0, 1) := by decide +kernel
theorem dX9_take_6 : decode cX9_take 6 = .ok (.iload_n 1, 1) := by decide +kernel
theorem dX9_take_7 : decode cX9_take 7 = .ok (.iload_n 2, 1) := by decide +kernel
theorem dX9_take_8 : decode cX9_take 8 = .ok (.invokevirtual 124, 3) := by decide +kernel
theorem dX9_take_11 : decode cX9_take 11 = .ok (.invokevirtual 96, 3) := by decide +kernel
theorem dX9_take_14 : decode cX9_take 14 = .ok (.ireturn, 1) := by decide +kernel
theorem dX9_skip_0 : decode cX9_skip 0 = .ok (.aload_n 0, 1) := by decide +kernel
theorem dX9_skip_1 : decode cX9_skip 1 = .ok (.invokevirtual 90, 3) := by decide +kernel
theorem dX9_skip_4 : decode cX9_skip 4 = .ok (.aload_n 0, 1) := by decide +kernel
theorem dX9_skip_5 : decode cX9_skip 5 = .ok (.aload_n 0, 1) := by decide +kernel
theorem dX9_skip_6 : decode cX9_skip 6 = .ok (.iconst (-1), 1) := by decide +kernel
theorem dX9_skip_7 : decode cX9_skip 7 = .ok (.invokevirtual 111, 3) := by decide +kernel
theorem dX9_skip_10 : decode cX9_skip 10 = .ok (.invokevirtual 96, 3) := by decide +kernel
theorem dX9_skip_13 : decode cX9_skip 13 = .ok (.ireturn, 1) := by decide +kernel
theorem dX9_slopes_0 : decode cX9_slopes 0 = .ok (.iload_n 1, 1) := by decide +kernel
theorem dX9_slopes_1 : decode cX9_slopes 1 = .ok (.iconst 2, 1) := by decide +kernel
theorem dX9_slopes_2 : decode cX9_slopes 2 = .ok (.bipush 6, 2) := by decide +kernel
theorem dX9_slopes_4 : decode cX9_slopes 4 = .ok (.invokestatic 57, 3) := by decide +kernel
theorem dX9_slopes_7 : decode cX9_slopes 7 = .ok (.ifCond .ne 9, 3) := by decide +kernel
theorem dX9_slopes_10 : decode cX9_slopes 10 = .ok (.aload_n 0, 1) := by decide +kernel
theorem dX9_slopes_11 : decode cX9_slopes 11 = .ok (.iconst 1, 1) := by decide +kernel
theorem dX9_slopes_12 : decode cX9_slopes 12 = .ok (.invokevirtual 87, 3) := by decide +kernel
theorem dX9_slopes_15 : decode cX9_slopes 15 = .ok (.ireturn, 1) := by decide +kernel
theorem dX9_slopes_16 : decode cX9_slopes 16 = .ok (.aload_n 0, 1) := by decide +kernel
theorem dX9_slopes_17 : decode cX9_slopes 17 = .ok (.getfield 16, 3) := by decide +kernel
theorem dX9_slopes_20 : decode cX9_slopes 20 = .ok (.iconst 1, 1) := by decide +kernel
theorem dX9_slopes_21 : decode cX9_slopes 21 = .ok (.iload_n 1, 1) := by decide +kernel
theorem dX9_slopes_22 : decode cX9_slopes 22 = .ok (.iastore, 1) := by decide +kernel
theorem dX9_slopes_23 : decode cX9_slopes 23 = .ok (.aload_n 0, 1) := by decide +kernel
theorem dX9_slopes_24 : decode cX9_slopes 24 = .ok (.invokevirtual 99, 3) := by decide +kernel
theorem dX9_slopes_27 : decode cX9_slopes 27 = .ok (.ireturn, 1) := by decide +kernel
theorem dX9_setSlope_0 : decode cX9_setSlope 0 = .ok (.aload_n 0, 1) := by decide +kernel
theorem dX9_setSlope_1 : decode cX9_setSlope 1 = .ok (.invokevirtual 90, 3) := by decide +kernel
theorem dX9_setSlope_4 : decode cX9_setSlope 4 = .ok (.aload_n 0, 1) := by decide +kernel
theorem dX9_setSlope_5 : decode cX9_setSlope 5 = .ok (.aload_n 0, 1) := by decide +kernel
theorem dX9_setSlope_6 : decode cX9_setSlope 6 = .ok (.iload_n 1, 1) := by decide +kernel
theorem dX9_setSlope_7 : decode cX9_setSlope 7 = .ok (.invokevirtual 127, 3) := by decide +kernel
theorem dX9_setSlope_10 : decode cX9_setSlope 10 = .ok (.invokevirtual 96, 3) := by decide +kernel
theorem dX9_setSlope_13 : decode cX9_setSlope 13 = .ok (.ireturn, 1) := by decide +kernel
theorem dX9_opens_0 : decode cX9_opens 0 = .ok (.aload_n 0, 1) := by decide +kernel
theorem dX9_opens_1 : decode cX9_opens 1 = .ok (.getfield 16, 3) := by decide +kernel
theorem dX9_opens_4 : decode cX9_opens 4 = .ok (.iconst 2, 1) := by decide +kernel
theorem dX9_opens_5 : decode cX9_opens 5 = .ok (.iaload, 1) := by decide +kernel
theorem dX9_opens_6 : decode cX9_opens 6 = .ok (.istore_n 2, 1) := by decide +kernel
theorem dX9_opens_7 : decode cX9_opens 7 = .ok (.aload_n 0, 1) := by decide +kernel
theorem dX9_opens_8 : decode cX9_opens 8 = .ok (.getfield 16, 3) := by decide +kernel
theorem dX9_opens_11 : decode cX9_opens 11 = .ok (.iconst 2, 1) := by decide +kernel
theorem dX9_opens_12 : decode cX9_opens 12 = .ok (.iload_n 1, 1) := by decide +kernel
theorem dX9_opens_13 : decode cX9_opens 13 = .ok (.iastore, 1) := by decide +kernel
theorem dX9_opens_14 : decode cX9_opens 14 = .ok (.aload_n 0, 1) := by decide +kernel
theorem dX9_opens_15 : decode cX9_opens 15 = .ok (.invokevirtual 99, 3) := by decide +kernel
theorem dX9_opens_18 : decode cX9_opens 18 = .ok (.istore_n 3, 1) := by decide +kernel
theorem dX9_opens_19 : decode cX9_opens 19 = .ok (.iload_n 2, 1) := by decide +kernel
theorem dX9_opens_20 : decode cX9_opens 20 = .ok (.ireturn, 1) := by decide +kernel
theorem dX9_setBorder_0 : decode cX9_setBorder 0 = .ok (.aload_n 0, 1) := by decide +kernel
theorem dX9_setBorder_1 : decode cX9_setBorder 1 = .ok (.invokevirtual 90, 3) := by decide +kernel
theorem dX9_setBorder_4 : decode cX9_setBorder 4 = .ok (.aload_n 0, 1) := by decide +kernel
theorem dX9_setBorder_5 : decode cX9_setBorder 5 = .ok (.aload_n 0, 1) := by decide +kernel
theorem dX9_setBorder_6 : decode cX9_setBorder 6 = .ok (.iload_n 1, 1) := by decide +kernel
theorem dX9_setBorder_7 : decode cX9_setBorder 7 = .ok (.ifCond .eq 7, 3) := by decide +kernel
theorem dX9_setBorder_10 : decode cX9_setBorder 10 = .ok (.iconst 1, 1) := by decide +kernel
theorem dX9_setBorder_11 : decode cX9_setBorder 11 = .ok (.goto 4, 3) := by decide +kernel
theorem dX9_setBorder_14 : decode cX9_setBorder 14 = .ok (.iconst 0, 1) := by decide +kernel
theorem dX9_setBorder_15 : decode cX9_setBorder 15 = .ok (.invokevirtual 130, 3) := by decide +kernel
theorem dX9_setBorder_18 : decode cX9_setBorder 18 = .ok (.invokevirtual 96, 3) := by decide +kernel
theorem dX9_setBorder_21 : decode cX9_setBorder 21 = .ok (.iconst 1, 1) := by decide +kernel
theorem dX9_setBorder_22 : decode cX9_setBorder 22 = .ok (.if_icmp .ne 7, 3) := by decide +kernel
theorem dX9_setBorder_25 : decode cX9_setBorder 25 = .ok (.iconst 1, 1) := by decide +kernel
theorem dX9_setBorder_26 : decode cX9_setBorder 26 = .ok (.goto 4, 3) := by decide +kernel
theorem dX9_setBorder_29 : decode cX9_setBorder 29 = .ok (.iconst 0, 1) := by decide +kernel
theorem dX9_setBorder_30 : decode cX9_setBorder 30 = .ok (.ireturn, 1) := by decide +kernel
theorem dX9_playerCount_0 : decode cX9_playerCount 0 = .ok (.aload_n 0, 1) := by decide +kernel
theorem dX9_playerCount_1 : decode cX9_playerCount 1 = .ok (.iconst 0, 1) := by decide +kernel
theorem dX9_playerCount_2 : decode cX9_playerCount 2 = .ok (.putfield 47, 3) := by decide +kernel
theorem dX9_playerCount_5 : decode cX9_playerCount 5 = .ok (.aload_n 0, 1) := by decide +kernel
theorem dX9_playerCount_6 : decode cX9_playerCount 6 = .ok (.getfield 16, 3) := by decide +kernel
theorem dX9_playerCount_9 : decode cX9_playerCount 9 = .ok (.iconst 0, 1) := by decide +kernel
theorem dX9_playerCount_10 : decode cX9_playerCount 10 = .ok (.iaload, 1) := by decide +kernel
theorem dX9_playerCount_11 : decode cX9_playerCount 11 = .ok (.ireturn, 1) := by decide +kernel
theorem dX9_hand_0 : decode cX9_hand 0 = .ok (.aload_n 0, 1) := by decide +kernel
theorem dX9_hand_1 : decode cX9_hand 1 = .ok (.aload_n 0, 1) := by decide +kernel
theorem dX9_hand_2 : decode cX9_hand 2 = .ok (.iload_n 1, 1) := by decide +kernel
theorem dX9_hand_3 : decode cX9_hand 3 = .ok (.invokevirtual 102, 3) := by decide +kernel
theorem dX9_hand_6 : decode cX9_hand 6 = .ok (.ifCond .eq 7, 3) := by decide +kernel
theorem dX9_hand_9 : decode cX9_hand 9 = .ok (.iconst 0, 1) := by decide +kernel
theorem dX9_hand_10 : decode cX9_hand 10 = .ok (.goto 4, 3) := by decide +kernel
theorem dX9_hand_13 : decode cX9_hand 13 = .ok (.iconst 1, 1) := by decide +kernel
theorem dX9_hand_14 : decode cX9_hand 14 = .ok (.putfield 47, 3) := by decide +kernel
theorem dX9_hand_17 : decode cX9_hand 17 = .ok (.aload_n 0, 1) := by decide +kernel
theorem dX9_hand_18 : decode cX9_hand 18 = .ok (.getfield 47, 3) := by decide +kernel
theorem dX9_hand_21 : decode cX9_hand 21 = .ok (.ifCond .ne 15, 3) := by decide +kernel
theorem dX9_hand_24 : decode cX9_hand 24 = .ok (.aload_n 0, 1) := by decide +kernel
theorem dX9_hand_25 : decode cX9_hand 25 = .ok (.getfield 16, 3) := by decide +kernel
theorem dX9_hand_28 : decode cX9_hand 28 = .ok (.bipush 9, 2) := by decide +kernel
theorem dX9_hand_30 : decode cX9_hand 30 = .ok (.iload_n 1, 1) := by decide +kernel
theorem dX9_hand_31 : decode cX9_hand 31 = .ok (.iadd, 1) := by decide +kernel
theorem dX9_hand_32 : decode cX9_hand 32 = .ok (.iaload, 1) := by decide +kernel
theorem dX9_hand_33 : decode cX9_hand 33 = .ok (.goto 4, 3) := by decide +kernel
theorem dX9_hand_36 : decode cX9_hand 36 = .ok (.iconst 0, 1) := by decide +kernel
theorem dX9_hand_37 : decode cX9_hand 37 = .ok (.ireturn, 1) := by decide +kernel
theorem dX9_rest_0 : decode cX9_rest 0 = .ok (.aload_n 0, 1) := by decide +kernel
theorem dX9_rest_1 : decode cX9_rest 1 = .ok (.aload_n 0, 1) := by decide +kernel
theorem dX9_rest_2 : decode cX9_rest 2 = .ok (.iload_n 1, 1) := by decide +kernel
theorem dX9_rest_3 : decode cX9_rest 3 = .ok (.invokevirtual 102, 3) := by decide +kernel
theorem dX9_rest_6 : decode cX9_rest 6 = .ok (.ifCond .eq 7, 3) := by decide +kernel
theorem dX9_rest_9 : decode cX9_rest 9 = .ok (.iconst 0, 1) := by decide +kernel
theorem dX9_rest_10 : decode cX9_rest 10 = .ok (.goto 4, 3) := by decide +kernel
theorem dX9_rest_13 : decode cX9_rest 13 = .ok (.iconst 1, 1) := by decide +kernel
theorem dX9_rest_14 : decode cX9_rest 14 = .ok (.putfield 47, 3) := by decide +kernel
theorem dX9_rest_17 : decode cX9_rest 17 = .ok (.aload_n 0, 1) := by decide +kernel
theorem dX9_rest_18 : decode cX9_rest 18 = .ok (.getfield 47, 3) := by decide +kernel
theorem dX9_rest_21 : decode cX9_rest 21 = .ok (.ifCond .ne 15, 3) := by decide +kernel
theorem dX9_rest_24 : decode cX9_rest 24 = .ok (.aload_n 0, 1) := by decide +kernel
theorem dX9_rest_25 : decode cX9_rest 25 = .ok (.getfield 16, 3) := by decide +kernel
theorem dX9_rest_28 : decode cX9_rest 28 = .ok (.bipush 13, 2) := by decide +kernel
theorem dX9_rest_30 : decode cX9_rest 30 = .ok (.iload_n 1, 1) := by decide +kernel
theorem dX9_rest_31 : decode cX9_rest 31 = .ok (.iadd, 1) := by decide +kernel
theorem dX9_rest_32 : decode cX9_rest 32 = .ok (.iaload, 1) := by decide +kernel
theorem dX9_rest_33 : decode cX9_rest 33 = .ok (.goto 4, 3) := by decide +kernel
theorem dX9_rest_36 : decode cX9_rest 36 = .ok (.iconst 0, 1) := by decide +kernel
theorem dX9_rest_37 : decode cX9_rest 37 = .ok (.ireturn, 1) := by decide +kernel
theorem dX9_criticalSlope_0 : decode cX9_criticalSlope 0 = .ok (.aload_n 0, 1) := by decide +kernel
theorem dX9_criticalSlope_1 : decode cX9_criticalSlope 1 = .ok (.iconst 0, 1) := by decide +kernel
theorem dX9_criticalSlope_2 : decode cX9_criticalSlope 2 = .ok (.putfield 47, 3) := by decide +kernel
theorem dX9_criticalSlope_5 : decode cX9_criticalSlope 5 = .ok (.aload_n 0, 1) := by decide +kernel
theorem dX9_criticalSlope_6 : decode cX9_criticalSlope 6 = .ok (.getfield 16, 3) := by decide +kernel
theorem dX9_criticalSlope_9 : decode cX9_criticalSlope 9 = .ok (.iconst 1, 1) := by decide +kernel
theorem dX9_criticalSlope_10 : decode cX9_criticalSlope 10 = .ok (.iaload, 1) := by decide +kernel
theorem dX9_criticalSlope_11 : decode cX9_criticalSlope 11 = .ok (.ireturn, 1) := by decide +kernel
theorem dX9_isBorderOpen_0 : decode cX9_isBorderOpen 0 = .ok (.aload_n 0, 1) := by decide +kernel
theorem dX9_isBorderOpen_1 : decode cX9_isBorderOpen 1 = .ok (.iconst 0, 1) := by decide +kernel
theorem dX9_isBorderOpen_2 : decode cX9_isBorderOpen 2 = .ok (.putfield 47, 3) := by decide +kernel
theorem dX9_isBorderOpen_5 : decode cX9_isBorderOpen 5 = .ok (.aload_n 0, 1) := by decide +kernel
theorem dX9_isBorderOpen_6 : decode cX9_isBorderOpen 6 = .ok (.getfield 16, 3) := by decide +kernel
theorem dX9_isBorderOpen_9 : decode cX9_isBorderOpen 9 = .ok (.iconst 2, 1) := by decide +kernel
theorem dX9_isBorderOpen_10 : decode cX9_isBorderOpen 10 = .ok (.iaload, 1) := by decide +kernel
theorem dX9_isBorderOpen_11 : decode cX9_isBorderOpen 11 = .ok (.iconst 1, 1) := by decide +kernel
theorem dX9_isBorderOpen_12 : decode cX9_isBorderOpen 12 = .ok (.if_icmp .ne 7, 3) := by decide +kernel
theorem dX9_isBorderOpen_15 : decode cX9_isBorderOpen 15 = .ok (.iconst 1, 1) := by decide +kernel
theorem dX9_isBorderOpen_16 : decode cX9_isBorderOpen 16 = .ok (.goto 4, 3) := by decide +kernel
theorem dX9_isBorderOpen_19 : decode cX9_isBorderOpen 19 = .ok (.iconst 0, 1) := by decide +kernel
theorem dX9_isBorderOpen_20 : decode cX9_isBorderOpen 20 = .ok (.ireturn, 1) := by decide +kernel
theorem dX9_height_0 : decode cX9_height 0 = .ok (.aload_n 0, 1) := by decide +kernel
theorem dX9_height_1 : decode cX9_height 1 = .ok (.iload_n 1, 1) := by decide +kernel
theorem dX9_height_2 : decode cX9_height 2 = .ok (.invokestatic 105, 3) := by decide +kernel
theorem dX9_height_5 : decode cX9_height 5 = .ok (.ifCond .eq 7, 3) := by decide +kernel
theorem dX9_height_8 : decode cX9_height 8 = .ok (.iconst 0, 1) := by decide +kernel
theorem dX9_height_9 : decode cX9_height 9 = .ok (.goto 4, 3) := by decide +kernel
theorem dX9_height_12 : decode cX9_height 12 = .ok (.iconst 1, 1) := by decide +kernel
theorem dX9_height_13 : decode cX9_height 13 = .ok (.putfield 47, 3) := by decide +kernel
theorem dX9_height_16 : decode cX9_height 16 = .ok (.aload_n 0, 1) := by decide +kernel
theorem dX9_height_17 : decode cX9_height 17 = .ok (.getfield 47, 3) := by decide +kernel
theorem dX9_height_20 : decode cX9_height 20 = .ok (.ifCond .ne 15, 3) := by decide +kernel
theorem dX9_height_23 : decode cX9_height 23 = .ok (.aload_n 0, 1) := by decide +kernel
theorem dX9_height_24 : decode cX9_height 24 = .ok (.getfield 16, 3) := by decide +kernel
theorem dX9_height_27 : decode cX9_height 27 = .ok (.bipush 17, 2) := by decide +kernel
theorem dX9_height_29 : decode cX9_height 29 = .ok (.iload_n 1, 1) := by decide +kernel
theorem dX9_height_30 : decode cX9_height 30 = .ok (.iadd, 1) := by decide +kernel
theorem dX9_height_31 : decode cX9_height 31 = .ok (.iaload, 1) := by decide +kernel
theorem dX9_height_32 : decode cX9_height 32 = .ok (.goto 4, 3) := by decide +kernel
theorem dX9_height_35 : decode cX9_height 35 = .ok (.iconst 0, 1) := by decide +kernel
theorem dX9_height_36 : decode cX9_height 36 = .ok (.ireturn, 1) := by decide +kernel
theorem dX9_owner_0 : decode cX9_owner 0 = .ok (.aload_n 0, 1) := by decide +kernel
theorem dX9_owner_1 : decode cX9_owner 1 = .ok (.iload_n 1, 1) := by decide +kernel
theorem dX9_owner_2 : decode cX9_owner 2 = .ok (.invokestatic 105, 3) := by decide +kernel
theorem dX9_owner_5 : decode cX9_owner 5 = .ok (.ifCond .ne 7, 3) := by decide +kernel
theorem dX9_owner_8 : decode cX9_owner 8 = .ok (.iconst 1, 1) := by decide +kernel
theorem dX9_owner_9 : decode cX9_owner 9 = .ok (.goto 20, 3) := by decide +kernel
theorem dX9_owner_12 : decode cX9_owner 12 = .ok (.aload_n 0, 1) := by decide +kernel
theorem dX9_owner_13 : decode cX9_owner 13 = .ok (.getfield 16, 3) := by decide +kernel
theorem dX9_owner_16 : decode cX9_owner 16 = .ok (.bipush 42, 2) := by decide +kernel
theorem dX9_owner_18 : decode cX9_owner 18 = .ok (.iload_n 1, 1) := by decide +kernel
theorem dX9_owner_19 : decode cX9_owner 19 = .ok (.iadd, 1) := by decide +kernel
theorem dX9_owner_20 : decode cX9_owner 20 = .ok (.iaload, 1) := by decide +kernel
theorem dX9_owner_21 : decode cX9_owner 21 = .ok (.ifCond .ne 7, 3) := by decide +kernel
theorem dX9_owner_24 : decode cX9_owner 24 = .ok (.iconst 2, 1) := by decide +kernel
theorem dX9_owner_25 : decode cX9_owner 25 = .ok (.goto 4, 3) := by decide +kernel
theorem dX9_owner_28 : decode cX9_owner 28 = .ok (.iconst 0, 1) := by decide +kernel
theorem dX9_owner_29 : decode cX9_owner 29 = .ok (.putfield 47, 3) := by decide +kernel
theorem dX9_owner_32 : decode cX9_owner 32 = .ok (.aload_n 0, 1) := by decide +kernel
theorem dX9_owner_33 : decode cX9_owner 33 = .ok (.getfield 47, 3) := by decide +kernel
theorem dX9_owner_36 : decode cX9_owner 36 = .ok (.ifCond .ne 17, 3) := by decide +kernel
theorem dX9_owner_39 : decode cX9_owner 39 = .ok (.aload_n 0, 1) := by decide +kernel
theorem dX9_owner_40 : decode cX9_owner 40 = .ok (.getfield 16, 3) := by decide +kernel
theorem dX9_owner_43 : decode cX9_owner 43 = .ok (.bipush 42, 2) := by decide +kernel
theorem dX9_owner_45 : decode cX9_owner 45 = .ok (.iload_n 1, 1) := by decide +kernel
theorem dX9_owner_46 : decode cX9_owner 46 = .ok (.iadd, 1) := by decide +kernel
theorem dX9_owner_47 : decode cX9_owner 47 = .ok (.iaload, 1) := by decide +kernel
theorem dX9_owner_48 : decode cX9_owner 48 = .ok (.iconst 1, 1) := by decide +kernel
theorem dX9_owner_49 : decode cX9_owner 49 = .ok (.isub, 1) := by decide +kernel
theorem dX9_owner_50 : decode cX9_owner 50 = .ok (.goto 4, 3) := by decide +kernel
theorem dX9_owner_53 : decode cX9_owner 53 = .ok (.iconst 0, 1) := by decide +kernel
theorem dX9_owner_54 : decode cX9_owner 54 = .ok (.ireturn, 1) := by decide +kernel
theorem dX9_steepness_0 : decode cX9_steepness 0 = .ok (.aload_n 0, 1) := by decide +kernel
theorem dX9_steepness_1 : decode cX9_steepness 1 = .ok (.iload_n 1, 1) := by decide +kernel
theorem dX9_steepness_2 : decode cX9_steepness 2 = .ok (.invokestatic 105, 3) := by decide +kernel
theorem dX9_steepness_5 : decode cX9_steepness 5 = .ok (.ifCond .eq 7, 3) := by decide +kernel
theorem dX9_steepness_8 : decode cX9_steepness 8 = .ok (.iconst 0, 1) := by decide +kernel
theorem dX9_steepness_9 : decode cX9_steepness 9 = .ok (.goto 4, 3) := by decide +kernel
theorem dX9_steepness_12 : decode cX9_steepness 12 = .ok (.iconst 1, 1) := by decide +kernel
theorem dX9_steepness_13 : decode cX9_steepness 13 = .ok (.putfield 47, 3) := by decide +kernel
theorem dX9_steepness_16 : decode cX9_steepness 16 = .ok (.aload_n 0, 1) := by decide +kernel
theorem dX9_steepness_17 : decode cX9_steepness 17 = .ok (.getfield 47, 3) := by decide +kernel
theorem dX9_steepness_20 : decode cX9_steepness 20 = .ok (.ifCond .ne 11, 3) := by decide +kernel
theorem dX9_steepness_23 : decode cX9_steepness 23 = .ok (.aload_n 0, 1) := by decide +kernel
theorem dX9_steepness_24 : decode cX9_steepness 24 = .ok (.iload_n 1, 1) := by decide +kernel
theorem dX9_steepness_25 : decode cX9_steepness 25 = .ok (.invokevirtual 76, 3) := by decide +kernel
theorem dX9_steepness_28 : decode cX9_steepness 28 = .ok (.goto 4, 3) := by decide +kernel
theorem dX9_steepness_31 : decode cX9_steepness 31 = .ok (.iconst 0, 1) := by decide +kernel
theorem dX9_steepness_32 : decode cX9_steepness 32 = .ok (.ireturn, 1) := by decide +kernel
theorem dX9_lowestNeighbour_0 : decode cX9_lowestNeighbour 0 = .ok (.aload_n 0, 1) := by decide +kernel
theorem dX9_lowestNeighbour_1 : decode cX9_lowestNeighbour 1 = .ok (.iload_n 1, 1) := by decide +kernel
theorem dX9_lowestNeighbour_2 : decode cX9_lowestNeighbour 2 = .ok (.invokestatic 105, 3) := by decide +kernel
theorem dX9_lowestNeighbour_5 : decode cX9_lowestNeighbour 5 = .ok (.ifCond .eq 7, 3) := by decide +kernel
theorem dX9_lowestNeighbour_8 : decode cX9_lowestNeighbour 8 = .ok (.iconst 0, 1) := by decide +kernel
theorem dX9_lowestNeighbour_9 : decode cX9_lowestNeighbour 9 = .ok (.goto 4, 3) := by decide +kernel
theorem dX9_lowestNeighbour_12 : decode cX9_lowestNeighbour 12 = .ok (.iconst 1, 1) := by decide +kernel
theorem dX9_lowestNeighbour_13 : decode cX9_lowestNeighbour 13 = .ok (.putfield 47, 3) := by decide +kernel
theorem dX9_lowestNeighbour_16 : decode cX9_lowestNeighbour 16 = .ok (.aload_n 0, 1) := by decide +kernel
theorem dX9_lowestNeighbour_17 : decode cX9_lowestNeighbour 17 = .ok (.getfield 47, 3) := by decide +kernel
theorem dX9_lowestNeighbour_20 : decode cX9_lowestNeighbour 20 = .ok (.ifCond .ne 11, 3) := by decide +kernel
theorem dX9_lowestNeighbour_23 : decode cX9_lowestNeighbour 23 = .ok (.aload_n 0, 1) := by decide +kernel
theorem dX9_lowestNeighbour_24 : decode cX9_lowestNeighbour 24 = .ok (.iload_n 1, 1) := by decide +kernel
theorem dX9_lowestNeighbour_25 : decode cX9_lowestNeighbour 25 = .ok (.invokevirtual 73, 3) := by decide +kernel
theorem dX9_lowestNeighbour_28 : decode cX9_lowestNeighbour 28 = .ok (.goto 4, 3) := by decide +kernel
theorem dX9_lowestNeighbour_31 : decode cX9_lowestNeighbour 31 = .ok (.iconst 0, 1) := by decide +kernel
theorem dX9_lowestNeighbour_32 : decode cX9_lowestNeighbour 32 = .ok (.ireturn, 1) := by decide +kernel
theorem dX9_stonesOnHill_0 : decode cX9_stonesOnHill 0 = .ok (.aload_n 0, 1) := by decide +kernel
theorem dX9_stonesOnHill_1 : decode cX9_stonesOnHill 1 = .ok (.iconst 0, 1) := by decide +kernel
theorem dX9_stonesOnHill_2 : decode cX9_stonesOnHill 2 = .ok (.putfield 47, 3) := by decide +kernel
theorem dX9_stonesOnHill_5 : decode cX9_stonesOnHill 5 = .ok (.aload_n 0, 1) := by decide +kernel
theorem dX9_stonesOnHill_6 : decode cX9_stonesOnHill 6 = .ok (.invokevirtual 108, 3) := by decide +kernel
theorem dX9_stonesOnHill_9 : decode cX9_stonesOnHill 9 = .ok (.ireturn, 1) := by decide +kernel
theorem dX9_stonesByLevels_0 : decode cX9_stonesByLevels 0 = .ok (.aload_n 0, 1) := by decide +kernel
theorem dX9_stonesByLevels_1 : decode cX9_stonesByLevels 1 = .ok (.iconst 0, 1) := by decide +kernel
theorem dX9_stonesByLevels_2 : decode cX9_stonesByLevels 2 = .ok (.putfield 47, 3) := by decide +kernel
theorem dX9_stonesByLevels_5 : decode cX9_stonesByLevels 5 = .ok (.aload_n 0, 1) := by decide +kernel
theorem dX9_stonesByLevels_6 : decode cX9_stonesByLevels 6 = .ok (.invokevirtual 108, 3) := by decide +kernel
theorem dX9_stonesByLevels_9 : decode cX9_stonesByLevels 9 = .ok (.ireturn, 1) := by decide +kernel
theorem dX9_highestCell_0 : decode cX9_highestCell 0 = .ok (.aload_n 0, 1) := by decide +kernel
theorem dX9_highestCell_1 : decode cX9_highestCell 1 = .ok (.iconst 0, 1) := by decide +kernel
theorem dX9_highestCell_2 : decode cX9_highestCell 2 = .ok (.putfield 47, 3) := by decide +kernel
theorem dX9_highestCell_5 : decode cX9_highestCell 5 = .ok (.iconst 0, 1) := by decide +kernel
theorem dX9_highestCell_6 : decode cX9_highestCell 6 = .ok (.istore_n 1, 1) := by decide +kernel
theorem dX9_highestCell_7 : decode cX9_highestCell 7 = .ok (.iconst 1, 1) := by decide +kernel
theorem dX9_highestCell_8 : decode cX9_highestCell 8 = .ok (.istore_n 2, 1) := by decide +kernel
theorem dX9_highestCell_9 : decode cX9_highestCell 9 = .ok (.iload_n 2, 1) := by decide +kernel
theorem dX9_highestCell_10 : decode cX9_highestCell 10 = .ok (.bipush 25, 2) := by decide +kernel
theorem dX9_highestCell_12 : decode cX9_highestCell 12 = .ok (.if_icmp .ge 32, 3) := by decide +kernel
theorem dX9_highestCell_15 : decode cX9_highestCell 15 = .ok (.aload_n 0, 1) := by decide +kernel
theorem dX9_highestCell_16 : decode cX9_highestCell 16 = .ok (.getfield 16, 3) := by decide +kernel
theorem dX9_highestCell_19 : decode cX9_highestCell 19 = .ok (.bipush 17, 2) := by decide +kernel
theorem dX9_highestCell_21 : decode cX9_highestCell 21 = .ok (.iload_n 2, 1) := by decide +kernel
theorem dX9_highestCell_22 : decode cX9_highestCell 22 = .ok (.iadd, 1) := by decide +kernel
theorem dX9_highestCell_23 : decode cX9_highestCell 23 = .ok (.iaload, 1) := by decide +kernel
theorem dX9_highestCell_24 : decode cX9_highestCell 24 = .ok (.aload_n 0, 1) := by decide +kernel
theorem dX9_highestCell_25 : decode cX9_highestCell 25 = .ok (.getfield 16, 3) := by decide +kernel
theorem dX9_highestCell_28 : decode cX9_highestCell 28 = .ok (.bipush 17, 2) := by decide +kernel
theorem dX9_highestCell_30 : decode cX9_highestCell 30 = .ok (.iload_n 1, 1) := by decide +kernel
theorem dX9_highestCell_31 : decode cX9_highestCell 31 = .ok (.iadd, 1) := by decide +kernel
theorem dX9_highestCell_32 : decode cX9_highestCell 32 = .ok (.iaload, 1) := by decide +kernel
theorem dX9_highestCell_33 : decode cX9_highestCell 33 = .ok (.if_icmp .le 5, 3) := by decide +kernel
theorem dX9_highestCell_36 : decode cX9_highestCell 36 = .ok (.iload_n 2, 1) := by decide +kernel
theorem dX9_highestCell_37 : decode cX9_highestCell 37 = .ok (.istore_n 1, 1) := by decide +kernel
theorem dX9_highestCell_38 : decode cX9_highestCell 38 = .ok (.iinc 2 1, 3) := by decide +kernel
theorem dX9_highestCell_41 : decode cX9_highestCell 41 = .ok (.goto (-32), 3) := by decide +kernel
theorem dX9_highestCell_44 : decode cX9_highestCell 44 = .ok (.iload_n 1, 1) := by decide +kernel
theorem dX9_highestCell_45 : decode cX9_highestCell 45 = .ok (.ireturn, 1) := by decide +kernel
theorem dX9_topplesIf_0 : decode cX9_topplesIf 0 = .ok (.aload_n 0, 1) := by decide +kernel
theorem dX9_topplesIf_1 : decode cX9_topplesIf 1 = .ok (.iload_n 1, 1) := by decide +kernel
theorem dX9_topplesIf_2 : decode cX9_topplesIf 2 = .ok (.invokestatic 105, 3) := by decide +kernel
theorem dX9_topplesIf_5 : decode cX9_topplesIf 5 = .ok (.ifCond .ne 7, 3) := by decide +kernel
theorem dX9_topplesIf_8 : decode cX9_topplesIf 8 = .ok (.iconst 1, 1) := by decide +kernel
theorem dX9_topplesIf_9 : decode cX9_topplesIf 9 = .ok (.goto 18, 3) := by decide +kernel
theorem dX9_topplesIf_12 : decode cX9_topplesIf 12 = .ok (.iload_n 2, 1) := by decide +kernel
theorem dX9_topplesIf_13 : decode cX9_topplesIf 13 = .ok (.iconst 1, 1) := by decide +kernel
theorem dX9_topplesIf_14 : decode cX9_topplesIf 14 = .ok (.bipush 9, 2) := by decide +kernel
theorem dX9_topplesIf_16 : decode cX9_topplesIf 16 = .ok (.invokestatic 57, 3) := by decide +kernel
theorem dX9_topplesIf_19 : decode cX9_topplesIf 19 = .ok (.ifCond .eq 7, 3) := by decide +kernel
theorem dX9_topplesIf_22 : decode cX9_topplesIf 22 = .ok (.iconst 0, 1) := by decide +kernel
theorem dX9_topplesIf_23 : decode cX9_topplesIf 23 = .ok (.goto 4, 3) := by decide +kernel
theorem dX9_topplesIf_26 : decode cX9_topplesIf 26 = .ok (.iconst 2, 1) := by decide +kernel
theorem dX9_topplesIf_27 : decode cX9_topplesIf 27 = .ok (.putfield 47, 3) := by decide +kernel
theorem dX9_topplesIf_30 : decode cX9_topplesIf 30 = .ok (.aload_n 0, 1) := by decide +kernel
theorem dX9_topplesIf_31 : decode cX9_topplesIf 31 = .ok (.getfield 47, 3) := by decide +kernel
theorem dX9_topplesIf_34 : decode cX9_topplesIf 34 = .ok (.ifCond .eq 5, 3) := by decide +kernel
theorem dX9_topplesIf_37 : decode cX9_topplesIf 37 = .ok (.iconst 0, 1) := by decide +kernel
theorem dX9_topplesIf_38 : decode cX9_topplesIf 38 = .ok (.ireturn, 1) := by decide +kernel
theorem dX9_topplesIf_39 : decode cX9_topplesIf 39 = .ok (.aload_n 0, 1) := by decide +kernel
theorem dX9_topplesIf_40 : decode cX9_topplesIf 40 = .ok (.getfield 26, 3) := by decide +kernel
theorem dX9_topplesIf_43 : decode cX9_topplesIf 43 = .ok (.aload_n 0, 1) := by decide +kernel
theorem dX9_topplesIf_44 : decode cX9_topplesIf 44 = .ok (.getfield 16, 3) := by decide +kernel
theorem dX9_topplesIf_47 : decode cX9_topplesIf 47 = .ok (.invokestatic 50, 3) := by decide +kernel
theorem dX9_topplesIf_50 : decode cX9_topplesIf 50 = .ok (.aload_n 0, 1) := by decide +kernel
theorem dX9_topplesIf_51 : decode cX9_topplesIf 51 = .ok (.iload_n 1, 1) := by decide +kernel
theorem dX9_topplesIf_52 : decode cX9_topplesIf 52 = .ok (.iload_n 2, 1) := by decide +kernel
theorem dX9_topplesIf_53 : decode cX9_topplesIf 53 = .ok (.iconst 0, 1) := by decide +kernel
theorem dX9_topplesIf_54 : decode cX9_topplesIf 54 = .ok (.invokevirtual 114, 3) := by decide +kernel
theorem dX9_topplesIf_57 : decode cX9_topplesIf 57 = .ok (.istore_n 3, 1) := by decide +kernel
theorem dX9_topplesIf_58 : decode cX9_topplesIf 58 = .ok (.aload_n 0, 1) := by decide +kernel
theorem dX9_topplesIf_59 : decode cX9_topplesIf 59 = .ok (.getfield 16, 3) := by decide +kernel
theorem dX9_topplesIf_62 : decode cX9_topplesIf 62 = .ok (.aload_n 0, 1) := by decide +kernel
theorem dX9_topplesIf_63 : decode cX9_topplesIf 63 = .ok (.getfield 26, 3) := by decide +kernel
theorem dX9_topplesIf_66 : decode cX9_topplesIf 66 = .ok (.invokestatic 50, 3) := by decide +kernel
theorem dX9_topplesIf_69 : decode cX9_topplesIf 69 = .ok (.iload_n 3, 1) := by decide +kernel
theorem dX9_topplesIf_70 : decode cX9_topplesIf 70 = .ok (.ireturn, 1) := by decide +kernel
theorem dX9_topplesIfByScan_0 : decode cX9_topplesIfByScan 0 = .ok (.aload_n 0, 1) := by decide +kernel
theorem dX9_topplesIfByScan_1 : decode cX9_topplesIfByScan 1 = .ok (.iload_n 1, 1) := by decide +kernel
theorem dX9_topplesIfByScan_2 : decode cX9_topplesIfByScan 2 = .ok (.iload_n 2, 1) := by decide +kernel
theorem dX9_topplesIfByScan_3 : decode cX9_topplesIfByScan 3 = .ok (.invokevirtual 133, 3) := by decide +kernel
theorem dX9_topplesIfByScan_6 : decode cX9_topplesIfByScan 6 = .ok (.ireturn, 1) := by decide +kernel
theorem dX9_isTop_0 : decode cX9_isTop 0 = .ok (.aload_n 0, 1) := by decide +kernel
theorem dX9_isTop_1 : decode cX9_isTop 1 = .ok (.getfield 16, 3) := by decide +kernel
theorem dX9_isTop_4 : decode cX9_isTop 4 = .ok (.bipush 17, 2) := by decide +kernel
theorem dX9_isTop_6 : decode cX9_isTop 6 = .ok (.iload_n 1, 1) := by decide +kernel
theorem dX9_isTop_7 : decode cX9_isTop 7 = .ok (.iadd, 1) := by decide +kernel
theorem dX9_isTop_8 : decode cX9_isTop 8 = .ok (.iaload, 1) := by decide +kernel
theorem dX9_isTop_9 : decode cX9_isTop 9 = .ok (.istore_n 2, 1) := by decide +kernel
theorem dX9_isTop_10 : decode cX9_isTop 10 = .ok (.iload_n 2, 1) := by decide +kernel
theorem dX9_isTop_11 : decode cX9_isTop 11 = .ok (.ifCond .le 48, 3) := by decide +kernel
theorem dX9_isTop_14 : decode cX9_isTop 14 = .ok (.iload_n 1, 1) := by decide +kernel
theorem dX9_isTop_15 : decode cX9_isTop 15 = .ok (.iconst 5, 1) := by decide +kernel
theorem dX9_isTop_16 : decode cX9_isTop 16 = .ok (.if_icmp .lt 18, 3) := by decide +kernel
theorem dX9_isTop_19 : decode cX9_isTop 19 = .ok (.iload_n 2, 1) := by decide +kernel
theorem dX9_isTop_20 : decode cX9_isTop 20 = .ok (.aload_n 0, 1) := by decide +kernel
theorem dX9_isTop_21 : decode cX9_isTop 21 = .ok (.getfield 16, 3) := by decide +kernel
theorem dX9_isTop_24 : decode cX9_isTop 24 = .ok (.bipush 17, 2) := by decide +kernel
theorem dX9_isTop_26 : decode cX9_isTop 26 = .ok (.iload_n 1, 1) := by decide +kernel
theorem dX9_isTop_27 : decode cX9_isTop 27 = .ok (.iadd, 1) := by decide +kernel
theorem dX9_isTop_28 : decode cX9_isTop 28 = .ok (.iconst 5, 1) := by decide +kernel
theorem dX9_isTop_29 : decode cX9_isTop 29 = .ok (.isub, 1) := by decide +kernel
theorem dX9_isTop_30 : decode cX9_isTop 30 = .ok (.iaload, 1) := by decide +kernel
theorem dX9_isTop_31 : decode cX9_isTop 31 = .ok (.if_icmp .le 28, 3) := by decide +kernel
theorem dX9_isTop_34 : decode cX9_isTop 34 = .ok (.iload_n 1, 1) := by decide +kernel
theorem dX9_isTop_35 : decode cX9_isTop 35 = .ok (.bipush 20, 2) := by decide +kernel
theorem dX9_isTop_37 : decode cX9_isTop 37 = .ok (.if_icmp .ge 18, 3) := by decide +kernel
theorem dX9_isTop_40 : decode cX9_isTop 40 = .ok (.iload_n 2, 1) := by decide +kernel
theorem dX9_isTop_41 : decode cX9_isTop 41 = .ok (.aload_n 0, 1) := by decide +kernel
theorem dX9_isTop_42 : decode cX9_isTop 42 = .ok (.getfield 16, 3) := by decide +kernel
theorem dX9_isTop_45 : decode cX9_isTop 45 = .ok (.bipush 17, 2) := by decide +kernel
theorem dX9_isTop_47 : decode cX9_isTop 47 = .ok (.iload_n 1, 1) := by decide +kernel
theorem dX9_isTop_48 : decode cX9_isTop 48 = .ok (.iadd, 1) := by decide +kernel
theorem dX9_isTop_49 : decode cX9_isTop 49 = .ok (.iconst 5, 1) := by decide +kernel
theorem dX9_isTop_50 : decode cX9_isTop 50 = .ok (.iadd, 1) := by decide +kernel
theorem dX9_isTop_51 : decode cX9_isTop 51 = .ok (.iaload, 1) := by decide +kernel
theorem dX9_isTop_52 : decode cX9_isTop 52 = .ok (.if_icmp .le 7, 3) := by decide +kernel
theorem dX9_isTop_55 : decode cX9_isTop 55 = .ok (.iconst 1, 1) := by decide +kernel
theorem dX9_isTop_56 : decode cX9_isTop 56 = .ok (.goto 4, 3) := by decide +kernel
theorem dX9_isTop_59 : decode cX9_isTop 59 = .ok (.iconst 0, 1) := by decide +kernel
theorem dX9_isTop_60 : decode cX9_isTop 60 = .ok (.istore_n 3, 1) := by decide +kernel
theorem dX9_isTop_61 : decode cX9_isTop 61 = .ok (.iload_n 3, 1) := by decide +kernel
theorem dX9_isTop_62 : decode cX9_isTop 62 = .ok (.ifCond .eq 50, 3) := by decide +kernel
theorem dX9_isTop_65 : decode cX9_isTop 65 = .ok (.iload_n 1, 1) := by decide +kernel
theorem dX9_isTop_66 : decode cX9_isTop 66 = .ok (.iconst 5, 1) := by decide +kernel
theorem dX9_isTop_67 : decode cX9_isTop 67 = .ok (.irem, 1) := by decide +kernel
theorem dX9_isTop_68 : decode cX9_isTop 68 = .ok (.ifCond .eq 18, 3) := by decide +kernel
theorem dX9_isTop_71 : decode cX9_isTop 71 = .ok (.iload_n 2, 1) := by decide +kernel
theorem dX9_isTop_72 : decode cX9_isTop 72 = .ok (.aload_n 0, 1) := by decide +kernel
theorem dX9_isTop_73 : decode cX9_isTop 73 = .ok (.getfield 16, 3) := by decide +kernel
theorem dX9_isTop_76 : decode cX9_isTop 76 = .ok (.bipush 17, 2) := by decide +kernel
theorem dX9_isTop_78 : decode cX9_isTop 78 = .ok (.iload_n 1, 1) := by decide +kernel
theorem dX9_isTop_79 : decode cX9_isTop 79 = .ok (.iadd, 1) := by decide +kernel
theorem dX9_isTop_80 : decode cX9_isTop 80 = .ok (.iconst 1, 1) := by decide +kernel
theorem dX9_isTop_81 : decode cX9_isTop 81 = .ok (.isub, 1) := by decide +kernel
theorem dX9_isTop_82 : decode cX9_isTop 82 = .ok (.iaload, 1) := by decide +kernel
theorem dX9_isTop_83 : decode cX9_isTop 83 = .ok (.if_icmp .le 29, 3) := by decide +kernel
theorem dX9_isTop_86 : decode cX9_isTop 86 = .ok (.iload_n 1, 1) := by decide +kernel
theorem dX9_isTop_87 : decode cX9_isTop 87 = .ok (.iconst 5, 1) := by decide +kernel
theorem dX9_isTop_88 : decode cX9_isTop 88 = .ok (.irem, 1) := by decide +kernel
theorem dX9_isTop_89 : decode cX9_isTop 89 = .ok (.iconst 4, 1) := by decide +kernel
theorem dX9_isTop_90 : decode cX9_isTop 90 = .ok (.if_icmp .eq 18, 3) := by decide +kernel
theorem dX9_isTop_93 : decode cX9_isTop 93 = .ok (.iload_n 2, 1) := by decide +kernel
theorem dX9_isTop_94 : decode cX9_isTop 94 = .ok (.aload_n 0, 1) := by decide +kernel
theorem dX9_isTop_95 : decode cX9_isTop 95 = .ok (.getfield 16, 3) := by decide +kernel
theorem dX9_isTop_98 : decode cX9_isTop 98 = .ok (.bipush 17, 2) := by decide +kernel
theorem dX9_isTop_100 : decode cX9_isTop 100 = .ok (.iload_n 1, 1) := by decide +kernel
theorem dX9_isTop_101 : decode cX9_isTop 101 = .ok (.iadd, 1) := by decide +kernel
theorem dX9_isTop_102 : decode cX9_isTop 102 = .ok (.iconst 1, 1) := by decide +kernel
theorem dX9_isTop_103 : decode cX9_isTop 103 = .ok (.iadd, 1) := by decide +kernel
theorem dX9_isTop_104 : decode cX9_isTop 104 = .ok (.iaload, 1) := by decide +kernel
theorem dX9_isTop_105 : decode cX9_isTop 105 = .ok (.if_icmp .le 7, 3) := by decide +kernel
theorem dX9_isTop_108 : decode cX9_isTop 108 = .ok (.iconst 1, 1) := by decide +kernel
theorem dX9_isTop_109 : decode cX9_isTop 109 = .ok (.goto 4, 3) := by decide +kernel
theorem dX9_isTop_112 : decode cX9_isTop 112 = .ok (.iconst 0, 1) := by decide +kernel
theorem dX9_isTop_113 : decode cX9_isTop 113 = .ok (.ireturn, 1) := by decide +kernel
theorem dX9_isPeak_0 : decode cX9_isPeak 0 = .ok (.aload_n 0, 1) := by decide +kernel
theorem dX9_isPeak_1 : decode cX9_isPeak 1 = .ok (.iload_n 1, 1) := by decide +kernel
theorem dX9_isPeak_2 : decode cX9_isPeak 2 = .ok (.invokestatic 105, 3) := by decide +kernel
theorem dX9_isPeak_5 : decode cX9_isPeak 5 = .ok (.ifCond .eq 7, 3) := by decide +kernel
theorem dX9_isPeak_8 : decode cX9_isPeak 8 = .ok (.iconst 0, 1) := by decide +kernel
theorem dX9_isPeak_9 : decode cX9_isPeak 9 = .ok (.goto 4, 3) := by decide +kernel
theorem dX9_isPeak_12 : decode cX9_isPeak 12 = .ok (.iconst 1, 1) := by decide +kernel
theorem dX9_isPeak_13 : decode cX9_isPeak 13 = .ok (.putfield 47, 3) := by decide +kernel
theorem dX9_isPeak_16 : decode cX9_isPeak 16 = .ok (.aload_n 0, 1) := by decide +kernel
theorem dX9_isPeak_17 : decode cX9_isPeak 17 = .ok (.getfield 47, 3) := by decide +kernel
theorem dX9_isPeak_20 : decode cX9_isPeak 20 = .ok (.ifCond .ne 15, 3) := by decide +kernel
theorem dX9_isPeak_23 : decode cX9_isPeak 23 = .ok (.aload_n 0, 1) := by decide +kernel
theorem dX9_isPeak_24 : decode cX9_isPeak 24 = .ok (.iload_n 1, 1) := by decide +kernel
theorem dX9_isPeak_25 : decode cX9_isPeak 25 = .ok (.invokevirtual 136, 3) := by decide +kernel
theorem dX9_isPeak_28 : decode cX9_isPeak 28 = .ok (.ifCond .eq 7, 3) := by decide +kernel
theorem dX9_isPeak_31 : decode cX9_isPeak 31 = .ok (.iconst 1, 1) := by decide +kernel
theorem dX9_isPeak_32 : decode cX9_isPeak 32 = .ok (.goto 4, 3) := by decide +kernel
theorem dX9_isPeak_35 : decode cX9_isPeak 35 = .ok (.iconst 0, 1) := by decide +kernel
theorem dX9_isPeak_36 : decode cX9_isPeak 36 = .ok (.ireturn, 1) := by decide +kernel
theorem dX9_peaks_0 : decode cX9_peaks 0 = .ok (.iconst 0, 1) := by decide +kernel
theorem dX9_peaks_1 : decode cX9_peaks 1 = .ok (.istore_n 1, 1) := by decide +kernel
theorem dX9_peaks_2 : decode cX9_peaks 2 = .ok (.iconst 0, 1) := by decide +kernel
theorem dX9_peaks_3 : decode cX9_peaks 3 = .ok (.istore_n 2, 1) := by decide +kernel
theorem dX9_peaks_4 : decode cX9_peaks 4 = .ok (.iload_n 2, 1) := by decide +kernel
theorem dX9_peaks_5 : decode cX9_peaks 5 = .ok (.bipush 25, 2) := by decide +kernel
theorem dX9_peaks_7 : decode cX9_peaks 7 = .ok (.if_icmp .ge 25, 3) := by decide +kernel
theorem dX9_peaks_10 : decode cX9_peaks 10 = .ok (.iload_n 1, 1) := by decide +kernel
theorem dX9_peaks_11 : decode cX9_peaks 11 = .ok (.aload_n 0, 1) := by decide +kernel
theorem dX9_peaks_12 : decode cX9_peaks 12 = .ok (.iload_n 2, 1) := by decide +kernel
theorem dX9_peaks_13 : decode cX9_peaks 13 = .ok (.invokevirtual 136, 3) := by decide +kernel
theorem dX9_peaks_16 : decode cX9_peaks 16 = .ok (.ifCond .eq 7, 3) := by decide +kernel
theorem dX9_peaks_19 : decode cX9_peaks 19 = .ok (.iconst 1, 1) := by decide +kernel
theorem dX9_peaks_20 : decode cX9_peaks 20 = .ok (.goto 4, 3) := by decide +kernel
theorem dX9_peaks_23 : decode cX9_peaks 23 = .ok (.iconst 0, 1) := by decide +kernel
theorem dX9_peaks_24 : decode cX9_peaks 24 = .ok (.iadd, 1) := by decide +kernel
theorem dX9_peaks_25 : decode cX9_peaks 25 = .ok (.istore_n 1, 1) := by decide +kernel
theorem dX9_peaks_26 : decode cX9_peaks 26 = .ok (.iinc 2 1, 3) := by decide +kernel
theorem dX9_peaks_29 : decode cX9_peaks 29 = .ok (.goto (-25), 3) := by decide +kernel
theorem dX9_peaks_32 : decode cX9_peaks 32 = .ok (.iload_n 1, 1) := by decide +kernel
theorem dX9_peaks_33 : decode cX9_peaks 33 = .ok (.ireturn, 1) := by decide +kernel
theorem dX9_peakCount_0 : decode cX9_peakCount 0 = .ok (.aload_n 0, 1) := by decide +kernel
theorem dX9_peakCount_1 : decode cX9_peakCount 1 = .ok (.iconst 0, 1) := by decide +kernel
theorem dX9_peakCount_2 : decode cX9_peakCount 2 = .ok (.putfield 47, 3) := by decide +kernel
theorem dX9_peakCount_5 : decode cX9_peakCount 5 = .ok (.aload_n 0, 1) := by decide +kernel
theorem dX9_peakCount_6 : decode cX9_peakCount 6 = .ok (.invokevirtual 139, 3) := by decide +kernel
theorem dX9_peakCount_9 : decode cX9_peakCount 9 = .ok (.ireturn, 1) := by decide +kernel
theorem dX9_peakAt_0 : decode cX9_peakAt 0 = .ok (.aload_n 0, 1) := by decide +kernel
theorem dX9_peakAt_1 : decode cX9_peakAt 1 = .ok (.iconst 0, 1) := by decide +kernel
theorem dX9_peakAt_2 : decode cX9_peakAt 2 = .ok (.putfield 47, 3) := by decide +kernel
theorem dX9_peakAt_5 : decode cX9_peakAt 5 = .ok (.iconst 0, 1) := by decide +kernel
theorem dX9_peakAt_6 : decode cX9_peakAt 6 = .ok (.istore_n 2, 1) := by decide +kernel
theorem dX9_peakAt_7 : decode cX9_peakAt 7 = .ok (.iload_n 2, 1) := by decide +kernel
theorem dX9_peakAt_8 : decode cX9_peakAt 8 = .ok (.bipush 25, 2) := by decide +kernel
theorem dX9_peakAt_10 : decode cX9_peakAt 10 = .ok (.if_icmp .ge 112, 3) := by decide +kernel
theorem dX9_peakAt_13 : decode cX9_peakAt 13 = .ok (.aload_n 0, 1) := by decide +kernel
theorem dX9_peakAt_14 : decode cX9_peakAt 14 = .ok (.iload_n 2, 1) := by decide +kernel
theorem dX9_peakAt_15 : decode cX9_peakAt 15 = .ok (.invokevirtual 136, 3) := by decide +kernel
theorem dX9_peakAt_18 : decode cX9_peakAt 18 = .ok (.ifCond .ne 6, 3) := by decide +kernel
theorem dX9_peakAt_21 : decode cX9_peakAt 21 = .ok (.goto 95, 3) := by decide +kernel
theorem dX9_peakAt_24 : decode cX9_peakAt 24 = .ok (.iconst 0, 1) := by decide +kernel
theorem dX9_peakAt_25 : decode cX9_peakAt 25 = .ok (.istore_n 3, 1) := by decide +kernel
theorem dX9_peakAt_26 : decode cX9_peakAt 26 = .ok (.iconst 0, 1) := by decide +kernel
theorem dX9_peakAt_27 : decode cX9_peakAt 27 = .ok (.istore 4, 2) := by decide +kernel
theorem dX9_peakAt_29 : decode cX9_peakAt 29 = .ok (.iload 4, 2) := by decide +kernel
theorem dX9_peakAt_31 : decode cX9_peakAt 31 = .ok (.bipush 25, 2) := by decide +kernel
theorem dX9_peakAt_33 : decode cX9_peakAt 33 = .ok (.if_icmp .ge 76, 3) := by decide +kernel
theorem dX9_peakAt_36 : decode cX9_peakAt 36 = .ok (.iload_n 3, 1) := by decide +kernel
theorem dX9_peakAt_37 : decode cX9_peakAt 37 = .ok (.aload_n 0, 1) := by decide +kernel
theorem dX9_peakAt_38 : decode cX9_peakAt 38 = .ok (.iload 4, 2) := by decide +kernel
theorem dX9_peakAt_40 : decode cX9_peakAt 40 = .ok (.invokevirtual 136, 3) := by decide +kernel
theorem dX9_peakAt_43 : decode cX9_peakAt 43 = .ok (.ifCond .eq 57, 3) := by decide +kernel
theorem dX9_peakAt_46 : decode cX9_peakAt 46 = .ok (.aload_n 0, 1) := by decide +kernel
theorem dX9_peakAt_47 : decode cX9_peakAt 47 = .ok (.getfield 16, 3) := by decide +kernel
theorem dX9_peakAt_50 : decode cX9_peakAt 50 = .ok (.bipush 17, 2) := by decide +kernel
theorem dX9_peakAt_52 : decode cX9_peakAt 52 = .ok (.iload 4, 2) := by decide +kernel
theorem dX9_peakAt_54 : decode cX9_peakAt 54 = .ok (.iadd, 1) := by decide +kernel
theorem dX9_peakAt_55 : decode cX9_peakAt 55 = .ok (.iaload, 1) := by decide +kernel
theorem dX9_peakAt_56 : decode cX9_peakAt 56 = .ok (.aload_n 0, 1) := by decide +kernel
theorem dX9_peakAt_57 : decode cX9_peakAt 57 = .ok (.getfield 16, 3) := by decide +kernel
theorem dX9_peakAt_60 : decode cX9_peakAt 60 = .ok (.bipush 17, 2) := by decide +kernel
theorem dX9_peakAt_62 : decode cX9_peakAt 62 = .ok (.iload_n 2, 1) := by decide +kernel
theorem dX9_peakAt_63 : decode cX9_peakAt 63 = .ok (.iadd, 1) := by decide +kernel
theorem dX9_peakAt_64 : decode cX9_peakAt 64 = .ok (.iaload, 1) := by decide +kernel
theorem dX9_peakAt_65 : decode cX9_peakAt 65 = .ok (.if_icmp .gt 31, 3) := by decide +kernel
theorem dX9_peakAt_68 : decode cX9_peakAt 68 = .ok (.aload_n 0, 1) := by decide +kernel
theorem dX9_peakAt_69 : decode cX9_peakAt 69 = .ok (.getfield 16, 3) := by decide +kernel
theorem dX9_peakAt_72 : decode cX9_peakAt 72 = .ok (.bipush 17, 2) := by decide +kernel
theorem dX9_peakAt_74 : decode cX9_peakAt 74 = .ok (.iload 4, 2) := by decide +kernel
theorem dX9_peakAt_76 : decode cX9_peakAt 76 = .ok (.iadd, 1) := by decide +kernel
theorem dX9_peakAt_77 : decode cX9_peakAt 77 = .ok (.iaload, 1) := by decide +kernel
theorem dX9_peakAt_78 : decode cX9_peakAt 78 = .ok (.aload_n 0, 1) := by decide +kernel
theorem dX9_peakAt_79 : decode cX9_peakAt 79 = .ok (.getfield 16, 3) := by decide +kernel
theorem dX9_peakAt_82 : decode cX9_peakAt 82 = .ok (.bipush 17, 2) := by decide +kernel
theorem dX9_peakAt_84 : decode cX9_peakAt 84 = .ok (.iload_n 2, 1) := by decide +kernel
theorem dX9_peakAt_85 : decode cX9_peakAt 85 = .ok (.iadd, 1) := by decide +kernel
theorem dX9_peakAt_86 : decode cX9_peakAt 86 = .ok (.iaload, 1) := by decide +kernel
theorem dX9_peakAt_87 : decode cX9_peakAt 87 = .ok (.if_icmp .ne 13, 3) := by decide +kernel
theorem dX9_peakAt_90 : decode cX9_peakAt 90 = .ok (.iload 4, 2) := by decide +kernel
theorem dX9_peakAt_92 : decode cX9_peakAt 92 = .ok (.iload_n 2, 1) := by decide +kernel
theorem dX9_peakAt_93 : decode cX9_peakAt 93 = .ok (.if_icmp .ge 7, 3) := by decide +kernel
theorem dX9_peakAt_96 : decode cX9_peakAt 96 = .ok (.iconst 1, 1) := by decide +kernel
theorem dX9_peakAt_97 : decode cX9_peakAt 97 = .ok (.goto 4, 3) := by decide +kernel
theorem dX9_peakAt_100 : decode cX9_peakAt 100 = .ok (.iconst 0, 1) := by decide +kernel
theorem dX9_peakAt_101 : decode cX9_peakAt 101 = .ok (.iadd, 1) := by decide +kernel
theorem dX9_peakAt_102 : decode cX9_peakAt 102 = .ok (.istore_n 3, 1) := by decide +kernel
theorem dX9_peakAt_103 : decode cX9_peakAt 103 = .ok (.iinc 4 1, 3) := by decide +kernel
theorem dX9_peakAt_106 : decode cX9_peakAt 106 = .ok (.goto (-77), 3) := by decide +kernel
theorem dX9_peakAt_109 : decode cX9_peakAt 109 = .ok (.iload_n 3, 1) := by decide +kernel
theorem dX9_peakAt_110 : decode cX9_peakAt 110 = .ok (.iload_n 1, 1) := by decide +kernel
theorem dX9_peakAt_111 : decode cX9_peakAt 111 = .ok (.if_icmp .ne 5, 3) := by decide +kernel
theorem dX9_peakAt_114 : decode cX9_peakAt 114 = .ok (.iload_n 2, 1) := by decide +kernel
theorem dX9_peakAt_115 : decode cX9_peakAt 115 = .ok (.ireturn, 1) := by decide +kernel
theorem dX9_peakAt_116 : decode cX9_peakAt 116 = .ok (.iinc 2 1, 3) := by decide +kernel
theorem dX9_peakAt_119 : decode cX9_peakAt 119 = .ok (.goto (-112), 3) := by decide +kernel
theorem dX9_peakAt_122 : decode cX9_peakAt 122 = .ok (.aload_n 0, 1) := by decide +kernel
theorem dX9_peakAt_123 : decode cX9_peakAt 123 = .ok (.iconst 1, 1) := by decide +kernel
theorem dX9_peakAt_124 : decode cX9_peakAt 124 = .ok (.invokevirtual 87, 3) := by decide +kernel
theorem dX9_peakAt_127 : decode cX9_peakAt 127 = .ok (.ireturn, 1) := by decide +kernel
theorem dX9_owned_0 : decode cX9_owned 0 = .ok (.iconst 0, 1) := by decide +kernel
theorem dX9_owned_1 : decode cX9_owned 1 = .ok (.istore_n 3, 1) := by decide +kernel
theorem dX9_owned_2 : decode cX9_owned 2 = .ok (.iconst 0, 1) := by decide +kernel
theorem dX9_owned_3 : decode cX9_owned 3 = .ok (.istore 4, 2) := by decide +kernel
theorem dX9_owned_5 : decode cX9_owned 5 = .ok (.iload 4, 2) := by decide +kernel
theorem dX9_owned_7 : decode cX9_owned 7 = .ok (.bipush 25, 2) := by decide +kernel
theorem dX9_owned_9 : decode cX9_owned 9 = .ok (.if_icmp .ge 55, 3) := by decide +kernel
theorem dX9_owned_12 : decode cX9_owned 12 = .ok (.aload_n 0, 1) := by decide +kernel
theorem dX9_owned_13 : decode cX9_owned 13 = .ok (.iload 4, 2) := by decide +kernel
theorem dX9_owned_15 : decode cX9_owned 15 = .ok (.invokevirtual 136, 3) := by decide +kernel
theorem dX9_owned_18 : decode cX9_owned 18 = .ok (.ifCond .eq 40, 3) := by decide +kernel
theorem dX9_owned_21 : decode cX9_owned 21 = .ok (.aload_n 0, 1) := by decide +kernel
theorem dX9_owned_22 : decode cX9_owned 22 = .ok (.getfield 16, 3) := by decide +kernel
theorem dX9_owned_25 : decode cX9_owned 25 = .ok (.bipush 42, 2) := by decide +kernel
theorem dX9_owned_27 : decode cX9_owned 27 = .ok (.iload 4, 2) := by decide +kernel
theorem dX9_owned_29 : decode cX9_owned 29 = .ok (.iadd, 1) := by decide +kernel
theorem dX9_owned_30 : decode cX9_owned 30 = .ok (.iaload, 1) := by decide +kernel
theorem dX9_owned_31 : decode cX9_owned 31 = .ok (.iload_n 1, 1) := by decide +kernel
theorem dX9_owned_32 : decode cX9_owned 32 = .ok (.iconst 1, 1) := by decide +kernel
theorem dX9_owned_33 : decode cX9_owned 33 = .ok (.iadd, 1) := by decide +kernel
theorem dX9_owned_34 : decode cX9_owned 34 = .ok (.if_icmp .ne 24, 3) := by decide +kernel
theorem dX9_owned_37 : decode cX9_owned 37 = .ok (.iload_n 3, 1) := by decide +kernel
theorem dX9_owned_38 : decode cX9_owned 38 = .ok (.iload_n 2, 1) := by decide +kernel
theorem dX9_owned_39 : decode cX9_owned 39 = .ok (.ifCond .eq 16, 3) := by decide +kernel
theorem dX9_owned_42 : decode cX9_owned 42 = .ok (.aload_n 0, 1) := by decide +kernel
theorem dX9_owned_43 : decode cX9_owned 43 = .ok (.getfield 16, 3) := by decide +kernel
theorem dX9_owned_46 : decode cX9_owned 46 = .ok (.bipush 17, 2) := by decide +kernel
theorem dX9_owned_48 : decode cX9_owned 48 = .ok (.iload 4, 2) := by decide +kernel
theorem dX9_owned_50 : decode cX9_owned 50 = .ok (.iadd, 1) := by decide +kernel
theorem dX9_owned_51 : decode cX9_owned 51 = .ok (.iaload, 1) := by decide +kernel
theorem dX9_owned_52 : decode cX9_owned 52 = .ok (.goto 4, 3) := by decide +kernel
theorem dX9_owned_55 : decode cX9_owned 55 = .ok (.iconst 1, 1) := by decide +kernel
theorem dX9_owned_56 : decode cX9_owned 56 = .ok (.iadd, 1) := by decide +kernel
theorem dX9_owned_57 : decode cX9_owned 57 = .ok (.istore_n 3, 1) := by decide +kernel
theorem dX9_owned_58 : decode cX9_owned 58 = .ok (.iinc 4 1, 3) := by decide +kernel
theorem dX9_owned_61 : decode cX9_owned 61 = .ok (.goto (-56), 3) := by decide +kernel
theorem dX9_owned_64 : decode cX9_owned 64 = .ok (.iload_n 3, 1) := by decide +kernel
theorem dX9_owned_65 : decode cX9_owned 65 = .ok (.ireturn, 1) := by decide +kernel
theorem dX9_crowns_0 : decode cX9_crowns 0 = .ok (.aload_n 0, 1) := by decide +kernel
theorem dX9_crowns_1 : decode cX9_crowns 1 = .ok (.aload_n 0, 1) := by decide +kernel
theorem dX9_crowns_2 : decode cX9_crowns 2 = .ok (.iload_n 1, 1) := by decide +kernel
theorem dX9_crowns_3 : decode cX9_crowns 3 = .ok (.invokevirtual 102, 3) := by decide +kernel
theorem dX9_crowns_6 : decode cX9_crowns 6 = .ok (.ifCond .eq 7, 3) := by decide +kernel
theorem dX9_crowns_9 : decode cX9_crowns 9 = .ok (.iconst 0, 1) := by decide +kernel
theorem dX9_crowns_10 : decode cX9_crowns 10 = .ok (.goto 4, 3) := by decide +kernel
theorem dX9_crowns_13 : decode cX9_crowns 13 = .ok (.iconst 1, 1) := by decide +kernel
theorem dX9_crowns_14 : decode cX9_crowns 14 = .ok (.putfield 47, 3) := by decide +kernel
theorem dX9_crowns_17 : decode cX9_crowns 17 = .ok (.aload_n 0, 1) := by decide +kernel
theorem dX9_crowns_18 : decode cX9_crowns 18 = .ok (.getfield 47, 3) := by decide +kernel
theorem dX9_crowns_21 : decode cX9_crowns 21 = .ok (.ifCond .ne 12, 3) := by decide +kernel
theorem dX9_crowns_24 : decode cX9_crowns 24 = .ok (.aload_n 0, 1) := by decide +kernel
theorem dX9_crowns_25 : decode cX9_crowns 25 = .ok (.iload_n 1, 1) := by decide +kernel
theorem dX9_crowns_26 : decode cX9_crowns 26 = .ok (.iconst 0, 1) := by decide +kernel
theorem dX9_crowns_27 : decode cX9_crowns 27 = .ok (.invokevirtual 142, 3) := by decide +kernel
theorem dX9_crowns_30 : decode cX9_crowns 30 = .ok (.goto 4, 3) := by decide +kernel
theorem dX9_crowns_33 : decode cX9_crowns 33 = .ok (.iconst 0, 1) := by decide +kernel
theorem dX9_crowns_34 : decode cX9_crowns 34 = .ok (.ireturn, 1) := by decide +kernel
theorem dX9_score_0 : decode cX9_score 0 = .ok (.aload_n 0, 1) := by decide +kernel
theorem dX9_score_1 : decode cX9_score 1 = .ok (.aload_n 0, 1) := by decide +kernel
theorem dX9_score_2 : decode cX9_score 2 = .ok (.iload_n 1, 1) := by decide +kernel
theorem dX9_score_3 : decode cX9_score 3 = .ok (.invokevirtual 102, 3) := by decide +kernel
theorem dX9_score_6 : decode cX9_score 6 = .ok (.ifCond .eq 7, 3) := by decide +kernel
theorem dX9_score_9 : decode cX9_score 9 = .ok (.iconst 0, 1) := by decide +kernel
theorem dX9_score_10 : decode cX9_score 10 = .ok (.goto 4, 3) := by decide +kernel
theorem dX9_score_13 : decode cX9_score 13 = .ok (.iconst 1, 1) := by decide +kernel
theorem dX9_score_14 : decode cX9_score 14 = .ok (.putfield 47, 3) := by decide +kernel
theorem dX9_score_17 : decode cX9_score 17 = .ok (.aload_n 0, 1) := by decide +kernel
theorem dX9_score_18 : decode cX9_score 18 = .ok (.getfield 47, 3) := by decide +kernel
theorem dX9_score_21 : decode cX9_score 21 = .ok (.ifCond .ne 12, 3) := by decide +kernel
theorem dX9_score_24 : decode cX9_score 24 = .ok (.aload_n 0, 1) := by decide +kernel
theorem dX9_score_25 : decode cX9_score 25 = .ok (.iload_n 1, 1) := by decide +kernel
theorem dX9_score_26 : decode cX9_score 26 = .ok (.iconst 1, 1) := by decide +kernel
theorem dX9_score_27 : decode cX9_score 27 = .ok (.invokevirtual 142, 3) := by decide +kernel
theorem dX9_score_30 : decode cX9_score 30 = .ok (.goto 4, 3) := by decide +kernel
theorem dX9_score_33 : decode cX9_score 33 = .ok (.iconst 0, 1) := by decide +kernel
theorem dX9_score_34 : decode cX9_score 34 = .ok (.ireturn, 1) := by decide +kernel
theorem dX9_playerAtRank_0 : decode cX9_playerAtRank 0 = .ok (.aload_n 0, 1) := by decide +kernel
theorem dX9_playerAtRank_1 : decode cX9_playerAtRank 1 = .ok (.iconst 0, 1) := by decide +kernel
theorem dX9_playerAtRank_2 : decode cX9_playerAtRank 2 = .ok (.putfield 47, 3) := by decide +kernel
theorem dX9_playerAtRank_5 : decode cX9_playerAtRank 5 = .ok (.iconst 0, 1) := by decide +kernel
theorem dX9_playerAtRank_6 : decode cX9_playerAtRank 6 = .ok (.istore_n 2, 1) := by decide +kernel
theorem dX9_playerAtRank_7 : decode cX9_playerAtRank 7 = .ok (.iload_n 2, 1) := by decide +kernel
theorem dX9_playerAtRank_8 : decode cX9_playerAtRank 8 = .ok (.aload_n 0, 1) := by decide +kernel
theorem dX9_playerAtRank_9 : decode cX9_playerAtRank 9 = .ok (.getfield 16, 3) := by decide +kernel
theorem dX9_playerAtRank_12 : decode cX9_playerAtRank 12 = .ok (.iconst 0, 1) := by decide +kernel
theorem dX9_playerAtRank_13 : decode cX9_playerAtRank 13 = .ok (.iaload, 1) := by decide +kernel
theorem dX9_playerAtRank_14 : decode cX9_playerAtRank 14 = .ok (.if_icmp .ge 110, 3) := by decide +kernel
theorem dX9_playerAtRank_17 : decode cX9_playerAtRank 17 = .ok (.iconst 0, 1) := by decide +kernel
theorem dX9_playerAtRank_18 : decode cX9_playerAtRank 18 = .ok (.istore_n 3, 1) := by decide +kernel
theorem dX9_playerAtRank_19 : decode cX9_playerAtRank 19 = .ok (.iconst 0, 1) := by decide +kernel
theorem dX9_playerAtRank_20 : decode cX9_playerAtRank 20 = .ok (.istore 4, 2) := by decide +kernel
theorem dX9_playerAtRank_22 : decode cX9_playerAtRank 22 = .ok (.iload 4, 2) := by decide +kernel
theorem dX9_playerAtRank_24 : decode cX9_playerAtRank 24 = .ok (.aload_n 0, 1) := by decide +kernel
theorem dX9_playerAtRank_25 : decode cX9_playerAtRank 25 = .ok (.getfield 16, 3) := by decide +kernel
theorem dX9_playerAtRank_28 : decode cX9_playerAtRank 28 = .ok (.iconst 0, 1) := by decide +kernel
theorem dX9_playerAtRank_29 : decode cX9_playerAtRank 29 = .ok (.iaload, 1) := by decide +kernel
theorem dX9_playerAtRank_30 : decode cX9_playerAtRank 30 = .ok (.if_icmp .ge 81, 3) := by decide +kernel
theorem dX9_playerAtRank_33 : decode cX9_playerAtRank 33 = .ok (.aload_n 0, 1) := by decide +kernel
theorem dX9_playerAtRank_34 : decode cX9_playerAtRank 34 = .ok (.iload 4, 2) := by decide +kernel
theorem dX9_playerAtRank_36 : decode cX9_playerAtRank 36 = .ok (.iconst 1, 1) := by decide +kernel
theorem dX9_playerAtRank_37 : decode cX9_playerAtRank 37 = .ok (.invokevirtual 142, 3) := by decide +kernel
theorem dX9_playerAtRank_40 : decode cX9_playerAtRank 40 = .ok (.aload_n 0, 1) := by decide +kernel
theorem dX9_playerAtRank_41 : decode cX9_playerAtRank 41 = .ok (.iload_n 2, 1) := by decide +kernel
theorem dX9_playerAtRank_42 : decode cX9_playerAtRank 42 = .ok (.iconst 1, 1) := by decide +kernel
theorem dX9_playerAtRank_43 : decode cX9_playerAtRank 43 = .ok (.invokevirtual 142, 3) := by decide +kernel
theorem dX9_playerAtRank_46 : decode cX9_playerAtRank 46 = .ok (.isub, 1) := by decide +kernel
theorem dX9_playerAtRank_47 : decode cX9_playerAtRank 47 = .ok (.istore 5, 2) := by decide +kernel
theorem dX9_playerAtRank_49 : decode cX9_playerAtRank 49 = .ok (.iload 5, 2) := by decide +kernel
theorem dX9_playerAtRank_51 : decode cX9_playerAtRank 51 = .ok (.ifCond .eq 8, 3) := by decide +kernel
theorem dX9_playerAtRank_54 : decode cX9_playerAtRank 54 = .ok (.iload 5, 2) := by decide +kernel
theorem dX9_playerAtRank_56 : decode cX9_playerAtRank 56 = .ok (.goto 23, 3) := by decide +kernel
theorem dX9_playerAtRank_59 : decode cX9_playerAtRank 59 = .ok (.aload_n 0, 1) := by decide +kernel
theorem dX9_playerAtRank_60 : decode cX9_playerAtRank 60 = .ok (.getfield 16, 3) := by decide +kernel
theorem dX9_playerAtRank_63 : decode cX9_playerAtRank 63 = .ok (.bipush 9, 2) := by decide +kernel
theorem dX9_playerAtRank_65 : decode cX9_playerAtRank 65 = .ok (.iload 4, 2) := by decide +kernel
theorem dX9_playerAtRank_67 : decode cX9_playerAtRank 67 = .ok (.iadd, 1) := by decide +kernel
theorem dX9_playerAtRank_68 : decode cX9_playerAtRank 68 = .ok (.iaload, 1) := by decide +kernel
theorem dX9_playerAtRank_69 : decode cX9_playerAtRank 69 = .ok (.aload_n 0, 1) := by decide +kernel
theorem dX9_playerAtRank_70 : decode cX9_playerAtRank 70 = .ok (.getfield 16, 3) := by decide +kernel
theorem dX9_playerAtRank_73 : decode cX9_playerAtRank 73 = .ok (.bipush 9, 2) := by decide +kernel
theorem dX9_playerAtRank_75 : decode cX9_playerAtRank 75 = .ok (.iload_n 2, 1) := by decide +kernel
theorem dX9_playerAtRank_76 : decode cX9_playerAtRank 76 = .ok (.iadd, 1) := by decide +kernel
theorem dX9_playerAtRank_77 : decode cX9_playerAtRank 77 = .ok (.iaload, 1) := by decide +kernel
theorem dX9_playerAtRank_78 : decode cX9_playerAtRank 78 = .ok (.isub, 1) := by decide +kernel
theorem dX9_playerAtRank_79 : decode cX9_playerAtRank 79 = .ok (.istore 5, 2) := by decide +kernel
theorem dX9_playerAtRank_81 : decode cX9_playerAtRank 81 = .ok (.iload_n 3, 1) := by decide +kernel
theorem dX9_playerAtRank_82 : decode cX9_playerAtRank 82 = .ok (.iload 5, 2) := by decide +kernel
theorem dX9_playerAtRank_84 : decode cX9_playerAtRank 84 = .ok (.ifCond .gt 14, 3) := by decide +kernel
theorem dX9_playerAtRank_87 : decode cX9_playerAtRank 87 = .ok (.iload 5, 2) := by decide +kernel
theorem dX9_playerAtRank_89 : decode cX9_playerAtRank 89 = .ok (.ifCond .ne 13, 3) := by decide +kernel
theorem dX9_playerAtRank_92 : decode cX9_playerAtRank 92 = .ok (.iload 4, 2) := by decide +kernel
theorem dX9_playerAtRank_94 : decode cX9_playerAtRank 94 = .ok (.iload_n 2, 1) := by decide +kernel
theorem dX9_playerAtRank_95 : decode cX9_playerAtRank 95 = .ok (.if_icmp .ge 7, 3) := by decide +kernel
theorem dX9_playerAtRank_98 : decode cX9_playerAtRank 98 = .ok (.iconst 1, 1) := by decide +kernel
theorem dX9_playerAtRank_99 : decode cX9_playerAtRank 99 = .ok (.goto 4, 3) := by decide +kernel
theorem dX9_playerAtRank_102 : decode cX9_playerAtRank 102 = .ok (.iconst 0, 1) := by decide +kernel
theorem dX9_playerAtRank_103 : decode cX9_playerAtRank 103 = .ok (.iadd, 1) := by decide +kernel
theorem dX9_playerAtRank_104 : decode cX9_playerAtRank 104 = .ok (.istore_n 3, 1) := by decide +kernel
theorem dX9_playerAtRank_105 : decode cX9_playerAtRank 105 = .ok (.iinc 4 1, 3) := by decide +kernel
theorem dX9_playerAtRank_108 : decode cX9_playerAtRank 108 = .ok (.goto (-86), 3) := by decide +kernel
theorem dX9_playerAtRank_111 : decode cX9_playerAtRank 111 = .ok (.iload_n 3, 1) := by decide +kernel
theorem dX9_playerAtRank_112 : decode cX9_playerAtRank 112 = .ok (.iload_n 1, 1) := by decide +kernel
theorem dX9_playerAtRank_113 : decode cX9_playerAtRank 113 = .ok (.if_icmp .ne 5, 3) := by decide +kernel
theorem dX9_playerAtRank_116 : decode cX9_playerAtRank 116 = .ok (.iload_n 2, 1) := by decide +kernel
theorem dX9_playerAtRank_117 : decode cX9_playerAtRank 117 = .ok (.ireturn, 1) := by decide +kernel
theorem dX9_playerAtRank_118 : decode cX9_playerAtRank 118 = .ok (.iinc 2 1, 3) := by decide +kernel
theorem dX9_playerAtRank_121 : decode cX9_playerAtRank 121 = .ok (.goto (-114), 3) := by decide +kernel
theorem dX9_playerAtRank_124 : decode cX9_playerAtRank 124 = .ok (.aload_n 0, 1) := by decide +kernel
theorem dX9_playerAtRank_125 : decode cX9_playerAtRank 125 = .ok (.iconst 1, 1) := by decide +kernel
theorem dX9_playerAtRank_126 : decode cX9_playerAtRank 126 = .ok (.invokevirtual 87, 3) := by decide +kernel
theorem dX9_playerAtRank_129 : decode cX9_playerAtRank 129 = .ok (.ireturn, 1) := by decide +kernel
theorem dX9_crownShare_0 : decode cX9_crownShare 0 = .ok (.aload_n 0, 1) := by decide +kernel
theorem dX9_crownShare_1 : decode cX9_crownShare 1 = .ok (.aload_n 0, 1) := by decide +kernel
theorem dX9_crownShare_2 : decode cX9_crownShare 2 = .ok (.iload_n 1, 1) := by decide +kernel
theorem dX9_crownShare_3 : decode cX9_crownShare 3 = .ok (.invokevirtual 102, 3) := by decide +kernel
theorem dX9_crownShare_6 : decode cX9_crownShare 6 = .ok (.ifCond .ne 7, 3) := by decide +kernel
theorem dX9_crownShare_9 : decode cX9_crownShare 9 = .ok (.iconst 1, 1) := by decide +kernel
theorem dX9_crownShare_10 : decode cX9_crownShare 10 = .ok (.goto 15, 3) := by decide +kernel
theorem dX9_crownShare_13 : decode cX9_crownShare 13 = .ok (.aload_n 0, 1) := by decide +kernel
theorem dX9_crownShare_14 : decode cX9_crownShare 14 = .ok (.invokevirtual 139, 3) := by decide +kernel
theorem dX9_crownShare_17 : decode cX9_crownShare 17 = .ok (.ifCond .ne 7, 3) := by decide +kernel
theorem dX9_crownShare_20 : decode cX9_crownShare 20 = .ok (.iconst 2, 1) := by decide +kernel
theorem dX9_crownShare_21 : decode cX9_crownShare 21 = .ok (.goto 4, 3) := by decide +kernel
theorem dX9_crownShare_24 : decode cX9_crownShare 24 = .ok (.iconst 0, 1) := by decide +kernel
theorem dX9_crownShare_25 : decode cX9_crownShare 25 = .ok (.putfield 47, 3) := by decide +kernel
theorem dX9_crownShare_28 : decode cX9_crownShare 28 = .ok (.aload_n 0, 1) := by decide +kernel
theorem dX9_crownShare_29 : decode cX9_crownShare 29 = .ok (.getfield 47, 3) := by decide +kernel
theorem dX9_crownShare_32 : decode cX9_crownShare 32 = .ok (.ifCond .ne 19, 3) := by decide +kernel
theorem dX9_crownShare_35 : decode cX9_crownShare 35 = .ok (.aload_n 0, 1) := by decide +kernel
theorem dX9_crownShare_36 : decode cX9_crownShare 36 = .ok (.iload_n 1, 1) := by decide +kernel
theorem dX9_crownShare_37 : decode cX9_crownShare 37 = .ok (.iconst 0, 1) := by decide +kernel
theorem dX9_crownShare_38 : decode cX9_crownShare 38 = .ok (.invokevirtual 142, 3) := by decide +kernel
theorem dX9_crownShare_41 : decode cX9_crownShare 41 = .ok (.i2f, 1) := by decide +kernel
theorem dX9_crownShare_42 : decode cX9_crownShare 42 = .ok (.aload_n 0, 1) := by decide +kernel
theorem dX9_crownShare_43 : decode cX9_crownShare 43 = .ok (.invokevirtual 139, 3) := by decide +kernel
theorem dX9_crownShare_46 : decode cX9_crownShare 46 = .ok (.i2f, 1) := by decide +kernel
theorem dX9_crownShare_47 : decode cX9_crownShare 47 = .ok (.fdiv, 1) := by decide +kernel
theorem dX9_crownShare_48 : decode cX9_crownShare 48 = .ok (.goto 4, 3) := by decide +kernel
theorem dX9_crownShare_51 : decode cX9_crownShare 51 = .ok (.fconst 0, 1) := by decide +kernel
theorem dX9_crownShare_52 : decode cX9_crownShare 52 = .ok (.freturn, 1) := by decide +kernel
theorem dX9_tells_0 : decode cX9_tells 0 = .ok (.aload_n 0, 1) := by decide +kernel
theorem dX9_tells_1 : decode cX9_tells 1 = .ok (.iconst 0, 1) := by decide +kernel
theorem dX9_tells_2 : decode cX9_tells 2 = .ok (.putfield 47, 3) := by decide +kernel
theorem dX9_tells_5 : decode cX9_tells 5 = .ok (.aload_n 0, 1) := by decide +kernel
theorem dX9_tells_6 : decode cX9_tells 6 = .ok (.getfield 16, 3) := by decide +kernel
theorem dX9_tells_9 : decode cX9_tells 9 = .ok (.iload_n 1, 1) := by decide +kernel
theorem dX9_tells_10 : decode cX9_tells 10 = .ok (.iaload, 1) := by decide +kernel
theorem dX9_tells_11 : decode cX9_tells 11 = .ok (.ireturn, 1) := by decide +kernel
theorem dX9_toppleTotal_0 : decode cX9_toppleTotal 0 = .ok (.aload_n 0, 1) := by decide +kernel
theorem dX9_toppleTotal_1 : decode cX9_toppleTotal 1 = .ok (.iconst 3, 1) := by decide +kernel
theorem dX9_toppleTotal_2 : decode cX9_toppleTotal 2 = .ok (.invokevirtual 146, 3) := by decide +kernel
theorem dX9_toppleTotal_5 : decode cX9_toppleTotal 5 = .ok (.ireturn, 1) := by decide +kernel
theorem dX9_avalancheCount_0 : decode cX9_avalancheCount 0 = .ok (.aload_n 0, 1) := by decide +kernel
theorem dX9_avalancheCount_1 : decode cX9_avalancheCount 1 = .ok (.iconst 4, 1) := by decide +kernel
theorem dX9_avalancheCount_2 : decode cX9_avalancheCount 2 = .ok (.invokevirtual 146, 3) := by decide +kernel
theorem dX9_avalancheCount_5 : decode cX9_avalancheCount 5 = .ok (.ireturn, 1) := by decide +kernel
theorem dX9_largestAvalanche_0 : decode cX9_largestAvalanche 0 = .ok (.aload_n 0, 1) := by decide +kernel
theorem dX9_largestAvalanche_1 : decode cX9_largestAvalanche 1 = .ok (.iconst 5, 1) := by decide +kernel
theorem dX9_largestAvalanche_2 : decode cX9_largestAvalanche 2 = .ok (.invokevirtual 146, 3) := by decide +kernel
theorem dX9_largestAvalanche_5 : decode cX9_largestAvalanche 5 = .ok (.ireturn, 1) := by decide +kernel
theorem dX9_placedTotal_0 : decode cX9_placedTotal 0 = .ok (.aload_n 0, 1) := by decide +kernel
theorem dX9_placedTotal_1 : decode cX9_placedTotal 1 = .ok (.bipush 6, 2) := by decide +kernel
theorem dX9_placedTotal_3 : decode cX9_placedTotal 3 = .ok (.invokevirtual 146, 3) := by decide +kernel
theorem dX9_placedTotal_6 : decode cX9_placedTotal 6 = .ok (.ireturn, 1) := by decide +kernel
theorem dX9_lostTotal_0 : decode cX9_lostTotal 0 = .ok (.aload_n 0, 1) := by decide +kernel
theorem dX9_lostTotal_1 : decode cX9_lostTotal 1 = .ok (.bipush 7, 2) := by decide +kernel
theorem dX9_lostTotal_3 : decode cX9_lostTotal 3 = .ok (.invokevirtual 146, 3) := by decide +kernel
theorem dX9_lostTotal_6 : decode cX9_lostTotal 6 = .ok (.ireturn, 1) := by decide +kernel
theorem dX9_takenTotal_0 : decode cX9_takenTotal 0 = .ok (.aload_n 0, 1) := by decide +kernel
theorem dX9_takenTotal_1 : decode cX9_takenTotal 1 = .ok (.bipush 8, 2) := by decide +kernel
theorem dX9_takenTotal_3 : decode cX9_takenTotal 3 = .ok (.invokevirtual 146, 3) := by decide +kernel
theorem dX9_takenTotal_6 : decode cX9_takenTotal 6 = .ok (.ireturn, 1) := by decide +kernel
theorem dX9_append_0 : decode cX9_append 0 = .ok (.aload_n 0, 1) := by decide +kernel
theorem dX9_append_1 : decode cX9_append 1 = .ok (.iload_n 1, 1) := by decide +kernel
theorem dX9_append_2 : decode cX9_append 2 = .ok (.bipush 32, 2) := by decide +kernel
theorem dX9_append_4 : decode cX9_append 4 = .ok (.bipush 126, 2) := by decide +kernel
theorem dX9_append_6 : decode cX9_append 6 = .ok (.invokestatic 57, 3) := by decide +kernel
theorem dX9_append_9 : decode cX9_append 9 = .ok (.ifCond .ne 7, 3) := by decide +kernel
theorem dX9_append_12 : decode cX9_append 12 = .ok (.iconst 1, 1) := by decide +kernel
theorem dX9_append_13 : decode cX9_append 13 = .ok (.goto 17, 3) := by decide +kernel
theorem dX9_append_16 : decode cX9_append 16 = .ok (.aload_n 0, 1) := by decide +kernel
theorem dX9_append_17 : decode cX9_append 17 = .ok (.getfield 149, 3) := by decide +kernel
theorem dX9_append_20 : decode cX9_append 20 = .ok (.bipush 60, 2) := by decide +kernel
theorem dX9_append_22 : decode cX9_append 22 = .ok (.if_icmp .ne 7, 3) := by decide +kernel
theorem dX9_append_25 : decode cX9_append 25 = .ok (.iconst 2, 1) := by decide +kernel
theorem dX9_append_26 : decode cX9_append 26 = .ok (.goto 4, 3) := by decide +kernel
theorem dX9_append_29 : decode cX9_append 29 = .ok (.iconst 0, 1) := by decide +kernel
theorem dX9_append_30 : decode cX9_append 30 = .ok (.putfield 47, 3) := by decide +kernel
theorem dX9_append_33 : decode cX9_append 33 = .ok (.aload_n 0, 1) := by decide +kernel
theorem dX9_append_34 : decode cX9_append 34 = .ok (.getfield 47, 3) := by decide +kernel
theorem dX9_append_37 : decode cX9_append 37 = .ok (.ifCond .eq 5, 3) := by decide +kernel
theorem dX9_append_40 : decode cX9_append 40 = .ok (.iconst 0, 1) := by decide +kernel
theorem dX9_append_41 : decode cX9_append 41 = .ok (.ireturn, 1) := by decide +kernel
theorem dX9_append_42 : decode cX9_append 42 = .ok (.aload_n 0, 1) := by decide +kernel
theorem dX9_append_43 : decode cX9_append 43 = .ok (.getfield 32, 3) := by decide +kernel
theorem dX9_append_46 : decode cX9_append 46 = .ok (.aload_n 0, 1) := by decide +kernel
theorem dX9_append_47 : decode cX9_append 47 = .ok (.getfield 149, 3) := by decide +kernel
theorem dX9_append_50 : decode cX9_append 50 = .ok (.iload_n 1, 1) := by decide +kernel
theorem dX9_append_51 : decode cX9_append 51 = .ok (.iastore, 1) := by decide +kernel
theorem dX9_append_52 : decode cX9_append 52 = .ok (.aload_n 0, 1) := by decide +kernel
theorem dX9_append_53 : decode cX9_append 53 = .ok (.dup, 1) := by decide +kernel
theorem dX9_append_54 : decode cX9_append 54 = .ok (.getfield 149, 3) := by decide +kernel
theorem dX9_append_57 : decode cX9_append 57 = .ok (.iconst 1, 1) := by decide +kernel
theorem dX9_append_58 : decode cX9_append 58 = .ok (.iadd, 1) := by decide +kernel
theorem dX9_append_59 : decode cX9_append 59 = .ok (.putfield 149, 3) := by decide +kernel
theorem dX9_append_62 : decode cX9_append 62 = .ok (.aload_n 0, 1) := by decide +kernel
theorem dX9_append_63 : decode cX9_append 63 = .ok (.getfield 149, 3) := by decide +kernel
theorem dX9_append_66 : decode cX9_append 66 = .ok (.ireturn, 1) := by decide +kernel
theorem dX9_sign_0 : decode cX9_sign 0 = .ok (.aload_n 0, 1) := by decide +kernel
theorem dX9_sign_1 : decode cX9_sign 1 = .ok (.getfield 152, 3) := by decide +kernel
theorem dX9_sign_4 : decode cX9_sign 4 = .ok (.aload_n 0, 1) := by decide +kernel
theorem dX9_sign_5 : decode cX9_sign 5 = .ok (.getfield 155, 3) := by decide +kernel
theorem dX9_sign_8 : decode cX9_sign 8 = .ok (.if_icmp .ge 15, 3) := by decide +kernel
theorem dX9_sign_11 : decode cX9_sign 11 = .ok (.aload_n 0, 1) := by decide +kernel
theorem dX9_sign_12 : decode cX9_sign 12 = .ok (.getfield 32, 3) := by decide +kernel
theorem dX9_sign_15 : decode cX9_sign 15 = .ok (.aload_n 0, 1) := by decide +kernel
theorem dX9_sign_16 : decode cX9_sign 16 = .ok (.getfield 152, 3) := by decide +kernel
theorem dX9_sign_19 : decode cX9_sign 19 = .ok (.iaload, 1) := by decide +kernel
theorem dX9_sign_20 : decode cX9_sign 20 = .ok (.goto 4, 3) := by decide +kernel
theorem dX9_sign_23 : decode cX9_sign 23 = .ok (.iconst (-1), 1) := by decide +kernel
theorem dX9_sign_24 : decode cX9_sign 24 = .ok (.ireturn, 1) := by decide +kernel
theorem dX9_mark_0 : decode cX9_mark 0 = .ok (.aload_n 0, 1) := by decide +kernel
theorem dX9_mark_1 : decode cX9_mark 1 = .ok (.getfield 158, 3) := by decide +kernel
theorem dX9_mark_4 : decode cX9_mark 4 = .ok (.ifCond .eq 4, 3) := by decide +kernel
theorem dX9_mark_7 : decode cX9_mark 7 = .ok (.return_, 1) := by decide +kernel
theorem dX9_mark_8 : decode cX9_mark 8 = .ok (.aload_n 0, 1) := by decide +kernel
theorem dX9_mark_9 : decode cX9_mark 9 = .ok (.aload_n 0, 1) := by decide +kernel
theorem dX9_mark_10 : decode cX9_mark 10 = .ok (.invokevirtual 162, 3) := by decide +kernel
theorem dX9_mark_13 : decode cX9_mark 13 = .ok (.iload_n 1, 1) := by decide +kernel
theorem dX9_mark_14 : decode cX9_mark 14 = .ok (.if_icmp .eq 7, 3) := by decide +kernel
theorem dX9_mark_17 : decode cX9_mark 17 = .ok (.iconst 1, 1) := by decide +kernel
theorem dX9_mark_18 : decode cX9_mark 18 = .ok (.goto 4, 3) := by decide +kernel
theorem dX9_mark_21 : decode cX9_mark 21 = .ok (.iconst 0, 1) := by decide +kernel
theorem dX9_mark_22 : decode cX9_mark 22 = .ok (.putfield 158, 3) := by decide +kernel
theorem dX9_mark_25 : decode cX9_mark 25 = .ok (.aload_n 0, 1) := by decide +kernel
theorem dX9_mark_26 : decode cX9_mark 26 = .ok (.dup, 1) := by decide +kernel
theorem dX9_mark_27 : decode cX9_mark 27 = .ok (.getfield 152, 3) := by decide +kernel
theorem dX9_mark_30 : decode cX9_mark 30 = .ok (.aload_n 0, 1) := by decide +kernel
theorem dX9_mark_31 : decode cX9_mark 31 = .ok (.getfield 158, 3) := by decide +kernel
theorem dX9_mark_34 : decode cX9_mark 34 = .ok (.ifCond .eq 7, 3) := by decide +kernel
theorem dX9_mark_37 : decode cX9_mark 37 = .ok (.iconst 0, 1) := by decide +kernel
theorem dX9_mark_38 : decode cX9_mark 38 = .ok (.goto 4, 3) := by decide +kernel
theorem dX9_mark_41 : decode cX9_mark 41 = .ok (.iconst 1, 1) := by decide +kernel
theorem dX9_mark_42 : decode cX9_mark 42 = .ok (.iadd, 1) := by decide +kernel
theorem dX9_mark_43 : decode cX9_mark 43 = .ok (.putfield 152, 3) := by decide +kernel
theorem dX9_mark_46 : decode cX9_mark 46 = .ok (.return_, 1) := by decide +kernel
theorem dX9_digits_0 : decode cX9_digits 0 = .ok (.iconst 0, 1) := by decide +kernel
theorem dX9_digits_1 : decode cX9_digits 1 = .ok (.istore_n 2, 1) := by decide +kernel
theorem dX9_digits_2 : decode cX9_digits 2 = .ok (.iconst 0, 1) := by decide +kernel
theorem dX9_digits_3 : decode cX9_digits 3 = .ok (.istore_n 3, 1) := by decide +kernel
theorem dX9_digits_4 : decode cX9_digits 4 = .ok (.aload_n 0, 1) := by decide +kernel
theorem dX9_digits_5 : decode cX9_digits 5 = .ok (.getfield 158, 3) := by decide +kernel
theorem dX9_digits_8 : decode cX9_digits 8 = .ok (.ifCond .ne 51, 3) := by decide +kernel
theorem dX9_digits_11 : decode cX9_digits 11 = .ok (.iload_n 3, 1) := by decide +kernel
theorem dX9_digits_12 : decode cX9_digits 12 = .ok (.iload_n 1, 1) := by decide +kernel
theorem dX9_digits_13 : decode cX9_digits 13 = .ok (.if_icmp .ge 46, 3) := by decide +kernel
theorem dX9_digits_16 : decode cX9_digits 16 = .ok (.aload_n 0, 1) := by decide +kernel
theorem dX9_digits_17 : decode cX9_digits 17 = .ok (.invokevirtual 162, 3) := by decide +kernel
theorem dX9_digits_20 : decode cX9_digits 20 = .ok (.bipush 48, 2) := by decide +kernel
theorem dX9_digits_22 : decode cX9_digits 22 = .ok (.bipush 57, 2) := by decide +kernel
theorem dX9_digits_24 : decode cX9_digits 24 = .ok (.invokestatic 57, 3) := by decide +kernel
theorem dX9_digits_27 : decode cX9_digits 27 = .ok (.ifCond .eq 32, 3) := by decide +kernel
theorem dX9_digits_30 : decode cX9_digits 30 = .ok (.bipush 10, 2) := by decide +kernel
theorem dX9_digits_32 : decode cX9_digits 32 = .ok (.iload_n 2, 1) := by decide +kernel
theorem dX9_digits_33 : decode cX9_digits 33 = .ok (.imul, 1) := by decide +kernel
theorem dX9_digits_34 : decode cX9_digits 34 = .ok (.aload_n 0, 1) := by decide +kernel
theorem dX9_digits_35 : decode cX9_digits 35 = .ok (.invokevirtual 162, 3) := by decide +kernel
theorem dX9_digits_38 : decode cX9_digits 38 = .ok (.iadd, 1) := by decide +kernel
theorem dX9_digits_39 : decode cX9_digits 39 = .ok (.bipush 48, 2) := by decide +kernel
theorem dX9_digits_41 : decode cX9_digits 41 = .ok (.isub, 1) := by decide +kernel
theorem dX9_digits_42 : decode cX9_digits 42 = .ok (.istore_n 2, 1) := by decide +kernel
theorem dX9_digits_43 : decode cX9_digits 43 = .ok (.aload_n 0, 1) := by decide +kernel
theorem dX9_digits_44 : decode cX9_digits 44 = .ok (.dup, 1) := by decide +kernel
theorem dX9_digits_45 : decode cX9_digits 45 = .ok (.getfield 152, 3) := by decide +kernel
theorem dX9_digits_48 : decode cX9_digits 48 = .ok (.iconst 1, 1) := by decide +kernel
theorem dX9_digits_49 : decode cX9_digits 49 = .ok (.iadd, 1) := by decide +kernel
theorem dX9_digits_50 : decode cX9_digits 50 = .ok (.putfield 152, 3) := by decide +kernel
theorem dX9_digits_53 : decode cX9_digits 53 = .ok (.iinc 3 1, 3) := by decide +kernel
theorem dX9_digits_56 : decode cX9_digits 56 = .ok (.goto (-52), 3) := by decide +kernel
theorem dX9_digits_59 : decode cX9_digits 59 = .ok (.aload_n 0, 1) := by decide +kernel
theorem dX9_digits_60 : decode cX9_digits 60 = .ok (.dup, 1) := by decide +kernel
theorem dX9_digits_61 : decode cX9_digits 61 = .ok (.getfield 158, 3) := by decide +kernel
theorem dX9_digits_64 : decode cX9_digits 64 = .ok (.iload_n 3, 1) := by decide +kernel
theorem dX9_digits_65 : decode cX9_digits 65 = .ok (.ifCond .ne 7, 3) := by decide +kernel
theorem dX9_digits_68 : decode cX9_digits 68 = .ok (.iconst 1, 1) := by decide +kernel
theorem dX9_digits_69 : decode cX9_digits 69 = .ok (.goto 4, 3) := by decide +kernel
theorem dX9_digits_72 : decode cX9_digits 72 = .ok (.iconst 0, 1) := by decide +kernel
theorem dX9_digits_73 : decode cX9_digits 73 = .ok (.ior, 1) := by decide +kernel
theorem dX9_digits_74 : decode cX9_digits 74 = .ok (.putfield 158, 3) := by decide +kernel
theorem dX9_digits_77 : decode cX9_digits 77 = .ok (.iload_n 2, 1) := by decide +kernel
theorem dX9_digits_78 : decode cX9_digits 78 = .ok (.ireturn, 1) := by decide +kernel
theorem dX9_behind_0 : decode cX9_behind 0 = .ok (.aload_n 0, 1) := by decide +kernel
theorem dX9_behind_1 : decode cX9_behind 1 = .ok (.bipush 32, 2) := by decide +kernel
theorem dX9_behind_3 : decode cX9_behind 3 = .ok (.invokevirtual 165, 3) := by decide +kernel
theorem dX9_behind_6 : decode cX9_behind 6 = .ok (.aload_n 0, 1) := by decide +kernel
theorem dX9_behind_7 : decode cX9_behind 7 = .ok (.getfield 158, 3) := by decide +kernel
theorem dX9_behind_10 : decode cX9_behind 10 = .ok (.ifCond .eq 7, 3) := by decide +kernel
theorem dX9_behind_13 : decode cX9_behind 13 = .ok (.iconst 0, 1) := by decide +kernel
theorem dX9_behind_14 : decode cX9_behind 14 = .ok (.goto 8, 3) := by decide +kernel
theorem dX9_behind_17 : decode cX9_behind 17 = .ok (.aload_n 0, 1) := by decide +kernel
theorem dX9_behind_18 : decode cX9_behind 18 = .ok (.iload_n 1, 1) := by decide +kernel
theorem dX9_behind_19 : decode cX9_behind 19 = .ok (.invokevirtual 168, 3) := by decide +kernel
theorem dX9_behind_22 : decode cX9_behind 22 = .ok (.ireturn, 1) := by decide +kernel
theorem dX9_word_0 : decode cX9_word 0 = .ok (.iconst 0, 1) := by decide +kernel
theorem dX9_word_1 : decode cX9_word 1 = .ok (.istore_n 1, 1) := by decide +kernel
theorem dX9_word_2 : decode cX9_word 2 = .ok (.iload_n 1, 1) := by decide +kernel
theorem dX9_word_3 : decode cX9_word 3 = .ok (.bipush 8, 2) := by decide +kernel
theorem dX9_word_5 : decode cX9_word 5 = .ok (.if_icmp .ge 16, 3) := by decide +kernel
theorem dX9_word_8 : decode cX9_word 8 = .ok (.aload_n 0, 1) := by decide +kernel
theorem dX9_word_9 : decode cX9_word 9 = .ok (.getfield 38, 3) := by decide +kernel
theorem dX9_word_12 : decode cX9_word 12 = .ok (.iload_n 1, 1) := by decide +kernel
theorem dX9_word_13 : decode cX9_word 13 = .ok (.iconst 1, 1) := by decide +kernel
theorem dX9_word_14 : decode cX9_word 14 = .ok (.iastore, 1) := by decide +kernel
theorem dX9_word_15 : decode cX9_word 15 = .ok (.iinc 1 1, 3) := by decide +kernel
theorem dX9_word_18 : decode cX9_word 18 = .ok (.goto (-16), 3) := by decide +kernel
theorem dX9_word_21 : decode cX9_word 21 = .ok (.iconst 0, 1) := by decide +kernel
theorem dX9_word_22 : decode cX9_word 22 = .ok (.istore_n 1, 1) := by decide +kernel
theorem dX9_word_23 : decode cX9_word 23 = .ok (.iconst (-1), 1) := by decide +kernel
theorem dX9_word_24 : decode cX9_word 24 = .ok (.istore_n 2, 1) := by decide +kernel
theorem dX9_word_25 : decode cX9_word 25 = .ok (.iload_n 2, 1) := by decide +kernel
theorem dX9_word_26 : decode cX9_word 26 = .ok (.ifCond .ge 196, 3) := by decide +kernel
theorem dX9_word_29 : decode cX9_word 29 = .ok (.aload_n 0, 1) := by decide +kernel
theorem dX9_word_30 : decode cX9_word 30 = .ok (.getfield 158, 3) := by decide +kernel
theorem dX9_word_33 : decode cX9_word 33 = .ok (.ifCond .ne 189, 3) := by decide +kernel
theorem dX9_word_36 : decode cX9_word 36 = .ok (.iconst 0, 1) := by decide +kernel
theorem dX9_word_37 : decode cX9_word 37 = .ok (.istore_n 3, 1) := by decide +kernel
theorem dX9_word_38 : decode cX9_word 38 = .ok (.iconst 0, 1) := by decide +kernel
theorem dX9_word_39 : decode cX9_word 39 = .ok (.istore 4, 2) := by decide +kernel
theorem dX9_word_41 : decode cX9_word 41 = .ok (.iload 4, 2) := by decide +kernel
theorem dX9_word_43 : decode cX9_word 43 = .ok (.bipush 8, 2) := by decide +kernel
theorem dX9_word_45 : decode cX9_word 45 = .ok (.if_icmp .ge 85, 3) := by decide +kernel
theorem dX9_word_48 : decode cX9_word 48 = .ok (.aload_n 0, 1) := by decide +kernel
theorem dX9_word_49 : decode cX9_word 49 = .ok (.getfield 38, 3) := by decide +kernel
theorem dX9_word_52 : decode cX9_word 52 = .ok (.iload 4, 2) := by decide +kernel
theorem dX9_word_54 : decode cX9_word 54 = .ok (.dup2, 1) := by decide +kernel
theorem dX9_word_55 : decode cX9_word 55 = .ok (.iaload, 1) := by decide +kernel
theorem dX9_word_56 : decode cX9_word 56 = .ok (.aload_n 0, 1) := by decide +kernel
theorem dX9_word_57 : decode cX9_word 57 = .ok (.getfield 44, 3) := by decide +kernel
theorem dX9_word_60 : decode cX9_word 60 = .ok (.iload 4, 2) := by decide +kernel
theorem dX9_word_62 : decode cX9_word 62 = .ok (.iaload, 1) := by decide +kernel
theorem dX9_word_63 : decode cX9_word 63 = .ok (.iload_n 1, 1) := by decide +kernel
theorem dX9_word_64 : decode cX9_word 64 = .ok (.iadd, 1) := by decide +kernel
theorem dX9_word_65 : decode cX9_word 65 = .ok (.aload_n 0, 1) := by decide +kernel
theorem dX9_word_66 : decode cX9_word 66 = .ok (.getfield 44, 3) := by decide +kernel
theorem dX9_word_69 : decode cX9_word 69 = .ok (.iload 4, 2) := by decide +kernel
theorem dX9_word_71 : decode cX9_word 71 = .ok (.iconst 1, 1) := by decide +kernel
theorem dX9_word_72 : decode cX9_word 72 = .ok (.iadd, 1) := by decide +kernel
theorem dX9_word_73 : decode cX9_word 73 = .ok (.iaload, 1) := by decide +kernel
theorem dX9_word_74 : decode cX9_word 74 = .ok (.if_icmp .ge 28, 3) := by decide +kernel
theorem dX9_word_77 : decode cX9_word 77 = .ok (.aload_n 0, 1) := by decide +kernel
theorem dX9_word_78 : decode cX9_word 78 = .ok (.getfield 41, 3) := by decide +kernel
theorem dX9_word_81 : decode cX9_word 81 = .ok (.aload_n 0, 1) := by decide +kernel
theorem dX9_word_82 : decode cX9_word 82 = .ok (.getfield 44, 3) := by decide +kernel
theorem dX9_word_85 : decode cX9_word 85 = .ok (.iload 4, 2) := by decide +kernel
theorem dX9_word_87 : decode cX9_word 87 = .ok (.iaload, 1) := by decide +kernel
theorem dX9_word_88 : decode cX9_word 88 = .ok (.iload_n 1, 1) := by decide +kernel
theorem dX9_word_89 : decode cX9_word 89 = .ok (.iadd, 1) := by decide +kernel
theorem dX9_word_90 : decode cX9_word 90 = .ok (.iaload, 1) := by decide +kernel
theorem dX9_word_91 : decode cX9_word 91 = .ok (.aload_n 0, 1) := by decide +kernel
theorem dX9_word_92 : decode cX9_word 92 = .ok (.invokevirtual 162, 3) := by decide +kernel
theorem dX9_word_95 : decode cX9_word 95 = .ok (.if_icmp .ne 7, 3) := by decide +kernel
theorem dX9_word_98 : decode cX9_word 98 = .ok (.iconst 1, 1) := by decide +kernel
theorem dX9_word_99 : decode cX9_word 99 = .ok (.goto 4, 3) := by decide +kernel
theorem dX9_word_102 : decode cX9_word 102 = .ok (.iconst 0, 1) := by decide +kernel
theorem dX9_word_103 : decode cX9_word 103 = .ok (.iand, 1) := by decide +kernel
theorem dX9_word_104 : decode cX9_word 104 = .ok (.iastore, 1) := by decide +kernel
theorem dX9_word_105 : decode cX9_word 105 = .ok (.iload_n 3, 1) := by decide +kernel
theorem dX9_word_106 : decode cX9_word 106 = .ok (.aload_n 0, 1) := by decide +kernel
theorem dX9_word_107 : decode cX9_word 107 = .ok (.getfield 38, 3) := by decide +kernel
theorem dX9_word_110 : decode cX9_word 110 = .ok (.iload 4, 2) := by decide +kernel
theorem dX9_word_112 : decode cX9_word 112 = .ok (.iaload, 1) := by decide +kernel
theorem dX9_word_113 : decode cX9_word 113 = .ok (.iconst 1, 1) := by decide +kernel
theorem dX9_word_114 : decode cX9_word 114 = .ok (.if_icmp .ne 7, 3) := by decide +kernel
theorem dX9_word_117 : decode cX9_word 117 = .ok (.iconst 1, 1) := by decide +kernel
theorem dX9_word_118 : decode cX9_word 118 = .ok (.goto 4, 3) := by decide +kernel
theorem dX9_word_121 : decode cX9_word 121 = .ok (.iconst 0, 1) := by decide +kernel
theorem dX9_word_122 : decode cX9_word 122 = .ok (.ior, 1) := by decide +kernel
theorem dX9_word_123 : decode cX9_word 123 = .ok (.istore_n 3, 1) := by decide +kernel
theorem dX9_word_124 : decode cX9_word 124 = .ok (.iinc 4 1, 3) := by decide +kernel
theorem dX9_word_127 : decode cX9_word 127 = .ok (.goto (-86), 3) := by decide +kernel
theorem dX9_word_130 : decode cX9_word 130 = .ok (.aload_n 0, 1) := by decide +kernel
theorem dX9_word_131 : decode cX9_word 131 = .ok (.iload_n 3, 1) := by decide +kernel
theorem dX9_word_132 : decode cX9_word 132 = .ok (.ifCond .ne 7, 3) := by decide +kernel
theorem dX9_word_135 : decode cX9_word 135 = .ok (.iconst 1, 1) := by decide +kernel
theorem dX9_word_136 : decode cX9_word 136 = .ok (.goto 4, 3) := by decide +kernel
theorem dX9_word_139 : decode cX9_word 139 = .ok (.iconst 0, 1) := by decide +kernel
theorem dX9_word_140 : decode cX9_word 140 = .ok (.putfield 158, 3) := by decide +kernel
theorem dX9_word_143 : decode cX9_word 143 = .ok (.aload_n 0, 1) := by decide +kernel
theorem dX9_word_144 : decode cX9_word 144 = .ok (.dup, 1) := by decide +kernel
theorem dX9_word_145 : decode cX9_word 145 = .ok (.getfield 152, 3) := by decide +kernel
theorem dX9_word_148 : decode cX9_word 148 = .ok (.iload_n 3, 1) := by decide +kernel
theorem dX9_word_149 : decode cX9_word 149 = .ok (.ifCond .eq 7, 3) := by decide +kernel
theorem dX9_word_152 : decode cX9_word 152 = .ok (.iconst 1, 1) := by decide +kernel
theorem dX9_word_153 : decode cX9_word 153 = .ok (.goto 4, 3) := by decide +kernel
theorem dX9_word_156 : decode cX9_word 156 = .ok (.iconst 0, 1) := by decide +kernel
theorem dX9_word_157 : decode cX9_word 157 = .ok (.iadd, 1) := by decide +kernel
theorem dX9_word_158 : decode cX9_word 158 = .ok (.putfield 152, 3) := by decide +kernel
theorem dX9_word_161 : decode cX9_word 161 = .ok (.iinc 1 1, 3) := by decide +kernel
theorem dX9_word_164 : decode cX9_word 164 = .ok (.iconst 0, 1) := by decide +kernel
theorem dX9_word_165 : decode cX9_word 165 = .ok (.istore 4, 2) := by decide +kernel
theorem dX9_word_167 : decode cX9_word 167 = .ok (.iload 4, 2) := by decide +kernel
theorem dX9_word_169 : decode cX9_word 169 = .ok (.bipush 8, 2) := by decide +kernel
theorem dX9_word_171 : decode cX9_word 171 = .ok (.if_icmp .ge 48, 3) := by decide +kernel
theorem dX9_word_174 : decode cX9_word 174 = .ok (.aload_n 0, 1) := by decide +kernel
theorem dX9_word_175 : decode cX9_word 175 = .ok (.getfield 38, 3) := by decide +kernel
theorem dX9_word_178 : decode cX9_word 178 = .ok (.iload 4, 2) := by decide +kernel
theorem dX9_word_180 : decode cX9_word 180 = .ok (.iaload, 1) := by decide +kernel
theorem dX9_word_181 : decode cX9_word 181 = .ok (.iconst 1, 1) := by decide +kernel
theorem dX9_word_182 : decode cX9_word 182 = .ok (.if_icmp .ne 29, 3) := by decide +kernel
theorem dX9_word_185 : decode cX9_word 185 = .ok (.aload_n 0, 1) := by decide +kernel
theorem dX9_word_186 : decode cX9_word 186 = .ok (.getfield 44, 3) := by decide +kernel
theorem dX9_word_189 : decode cX9_word 189 = .ok (.iload 4, 2) := by decide +kernel
theorem dX9_word_191 : decode cX9_word 191 = .ok (.iaload, 1) := by decide +kernel
theorem dX9_word_192 : decode cX9_word 192 = .ok (.iload_n 1, 1) := by decide +kernel
theorem dX9_word_193 : decode cX9_word 193 = .ok (.iadd, 1) := by decide +kernel
theorem dX9_word_194 : decode cX9_word 194 = .ok (.aload_n 0, 1) := by decide +kernel
theorem dX9_word_195 : decode cX9_word 195 = .ok (.getfield 44, 3) := by decide +kernel
theorem dX9_word_198 : decode cX9_word 198 = .ok (.iload 4, 2) := by decide +kernel
theorem dX9_word_200 : decode cX9_word 200 = .ok (.iconst 1, 1) := by decide +kernel
theorem dX9_word_201 : decode cX9_word 201 = .ok (.iadd, 1) := by decide +kernel
theorem dX9_word_202 : decode cX9_word 202 = .ok (.iaload, 1) := by decide +kernel
theorem dX9_word_203 : decode cX9_word 203 = .ok (.if_icmp .ne 8, 3) := by decide +kernel
theorem dX9_word_206 : decode cX9_word 206 = .ok (.iload 4, 2) := by decide +kernel
theorem dX9_word_208 : decode cX9_word 208 = .ok (.goto 4, 3) := by decide +kernel
theorem dX9_word_211 : decode cX9_word 211 = .ok (.iload_n 2, 1) := by decide +kernel
theorem dX9_word_212 : decode cX9_word 212 = .ok (.istore_n 2, 1) := by decide +kernel
theorem dX9_word_213 : decode cX9_word 213 = .ok (.iinc 4 1, 3) := by decide +kernel
theorem dX9_word_216 : decode cX9_word 216 = .ok (.goto (-49), 3) := by decide +kernel
theorem dX9_word_219 : decode cX9_word 219 = .ok (.goto (-194), 3) := by decide +kernel
theorem dX9_word_222 : decode cX9_word 222 = .ok (.iload_n 2, 1) := by decide +kernel
theorem dX9_word_223 : decode cX9_word 223 = .ok (.ireturn, 1) := by decide +kernel
theorem dX9_does_0 : decode cX9_does 0 = .ok (.iload_n 1, 1) := by decide +kernel
theorem dX9_does_1 : decode cX9_does 1 = .ok (.tableswitch 80 0 5 #[39, 45, 54, 61, 68, 74], 39) := by decide +kernel
theorem dX9_does_40 : decode cX9_does 40 = .ok (.aload_n 0, 1) := by decide +kernel
theorem dX9_does_41 : decode cX9_does 41 = .ok (.iload_n 2, 1) := by decide +kernel
theorem dX9_does_42 : decode cX9_does 42 = .ok (.invokevirtual 93, 3) := by decide +kernel
theorem dX9_does_45 : decode cX9_does 45 = .ok (.ireturn, 1) := by decide +kernel
theorem dX9_does_46 : decode cX9_does 46 = .ok (.aload_n 0, 1) := by decide +kernel
theorem dX9_does_47 : decode cX9_does 47 = .ok (.iload_n 2, 1) := by decide +kernel
theorem dX9_does_48 : decode cX9_does 48 = .ok (.iload_n 3, 1) := by decide +kernel
theorem dX9_does_49 : decode cX9_does 49 = .ok (.iload 4, 2) := by decide +kernel
theorem dX9_does_51 : decode cX9_does 51 = .ok (.invokevirtual 118, 3) := by decide +kernel
theorem dX9_does_54 : decode cX9_does 54 = .ok (.ireturn, 1) := by decide +kernel
theorem dX9_does_55 : decode cX9_does 55 = .ok (.aload_n 0, 1) := by decide +kernel
theorem dX9_does_56 : decode cX9_does 56 = .ok (.iload_n 2, 1) := by decide +kernel
theorem dX9_does_57 : decode cX9_does 57 = .ok (.iload_n 3, 1) := by decide +kernel
theorem dX9_does_58 : decode cX9_does 58 = .ok (.invokevirtual 121, 3) := by decide +kernel
theorem dX9_does_61 : decode cX9_does 61 = .ok (.ireturn, 1) := by decide +kernel
theorem dX9_does_62 : decode cX9_does 62 = .ok (.aload_n 0, 1) := by decide +kernel
theorem dX9_does_63 : decode cX9_does 63 = .ok (.iload_n 2, 1) := by decide +kernel
theorem dX9_does_64 : decode cX9_does 64 = .ok (.iload_n 3, 1) := by decide +kernel
theorem dX9_does_65 : decode cX9_does 65 = .ok (.invokevirtual 124, 3) := by decide +kernel
theorem dX9_does_68 : decode cX9_does 68 = .ok (.ireturn, 1) := by decide +kernel
theorem dX9_does_69 : decode cX9_does 69 = .ok (.aload_n 0, 1) := by decide +kernel
theorem dX9_does_70 : decode cX9_does 70 = .ok (.iconst (-1), 1) := by decide +kernel
theorem dX9_does_71 : decode cX9_does 71 = .ok (.invokevirtual 111, 3) := by decide +kernel
theorem dX9_does_74 : decode cX9_does 74 = .ok (.ireturn, 1) := by decide +kernel
theorem dX9_does_75 : decode cX9_does 75 = .ok (.aload_n 0, 1) := by decide +kernel
theorem dX9_does_76 : decode cX9_does 76 = .ok (.iload_n 2, 1) := by decide +kernel
theorem dX9_does_77 : decode cX9_does 77 = .ok (.invokevirtual 127, 3) := by decide +kernel
theorem dX9_does_80 : decode cX9_does 80 = .ok (.ireturn, 1) := by decide +kernel
theorem dX9_does_81 : decode cX9_does 81 = .ok (.aload_n 0, 1) := by decide +kernel
theorem dX9_does_82 : decode cX9_does 82 = .ok (.iload_n 1, 1) := by decide +kernel
theorem dX9_does_83 : decode cX9_does 83 = .ok (.bipush 6, 2) := by decide +kernel
theorem dX9_does_85 : decode cX9_does 85 = .ok (.if_icmp .ne 7, 3) := by decide +kernel
theorem dX9_does_88 : decode cX9_does 88 = .ok (.iconst 1, 1) := by decide +kernel
theorem dX9_does_89 : decode cX9_does 89 = .ok (.goto 4, 3) := by decide +kernel
theorem dX9_does_92 : decode cX9_does 92 = .ok (.iconst 0, 1) := by decide +kernel
theorem dX9_does_93 : decode cX9_does 93 = .ok (.invokevirtual 130, 3) := by decide +kernel
theorem dX9_does_96 : decode cX9_does 96 = .ok (.ireturn, 1) := by decide +kernel
theorem dX9_command_0 : decode cX9_command 0 = .ok (.aload_n 0, 1) := by decide +kernel
theorem dX9_command_1 : decode cX9_command 1 = .ok (.invokevirtual 171, 3) := by decide +kernel
theorem dX9_command_4 : decode cX9_command 4 = .ok (.istore_n 1, 1) := by decide +kernel
theorem dX9_command_5 : decode cX9_command 5 = .ok (.iconst 0, 1) := by decide +kernel
theorem dX9_command_6 : decode cX9_command 6 = .ok (.istore_n 2, 1) := by decide +kernel
theorem dX9_command_7 : decode cX9_command 7 = .ok (.iconst 0, 1) := by decide +kernel
theorem dX9_command_8 : decode cX9_command 8 = .ok (.istore_n 3, 1) := by decide +kernel
theorem dX9_command_9 : decode cX9_command 9 = .ok (.iconst 0, 1) := by decide +kernel
theorem dX9_command_10 : decode cX9_command 10 = .ok (.istore 4, 2) := by decide +kernel
theorem dX9_command_12 : decode cX9_command 12 = .ok (.aload_n 0, 1) := by decide +kernel
theorem dX9_command_13 : decode cX9_command 13 = .ok (.getfield 158, 3) := by decide +kernel
theorem dX9_command_16 : decode cX9_command 16 = .ok (.ifCond .eq 4, 3) := by decide +kernel
theorem dX9_command_19 : decode cX9_command 19 = .ok (.return_, 1) := by decide +kernel
theorem dX9_command_20 : decode cX9_command 20 = .ok (.iload_n 1, 1) := by decide +kernel
theorem dX9_command_21 : decode cX9_command 21 = .ok (.iconst 4, 1) := by decide +kernel
theorem dX9_command_22 : decode cX9_command 22 = .ok (.if_icmp .lt 8, 3) := by decide +kernel
theorem dX9_command_25 : decode cX9_command 25 = .ok (.iload_n 1, 1) := by decide +kernel
theorem dX9_command_26 : decode cX9_command 26 = .ok (.iconst 5, 1) := by decide +kernel
theorem dX9_command_27 : decode cX9_command 27 = .ok (.if_icmp .ne 22, 3) := by decide +kernel
theorem dX9_command_30 : decode cX9_command 30 = .ok (.aload_n 0, 1) := by decide +kernel
theorem dX9_command_31 : decode cX9_command 31 = .ok (.iload_n 1, 1) := by decide +kernel
theorem dX9_command_32 : decode cX9_command 32 = .ok (.ifCond .eq 8, 3) := by decide +kernel
theorem dX9_command_35 : decode cX9_command 35 = .ok (.iload_n 1, 1) := by decide +kernel
theorem dX9_command_36 : decode cX9_command 36 = .ok (.iconst 2, 1) := by decide +kernel
theorem dX9_command_37 : decode cX9_command 37 = .ok (.if_icmp .ne 7, 3) := by decide +kernel
theorem dX9_command_40 : decode cX9_command 40 = .ok (.iconst 2, 1) := by decide +kernel
theorem dX9_command_41 : decode cX9_command 41 = .ok (.goto 4, 3) := by decide +kernel
theorem dX9_command_44 : decode cX9_command 44 = .ok (.iconst 1, 1) := by decide +kernel
theorem dX9_command_45 : decode cX9_command 45 = .ok (.invokevirtual 168, 3) := by decide +kernel
theorem dX9_command_48 : decode cX9_command 48 = .ok (.istore_n 2, 1) := by decide +kernel
theorem dX9_command_49 : decode cX9_command 49 = .ok (.iload_n 1, 1) := by decide +kernel
theorem dX9_command_50 : decode cX9_command 50 = .ok (.iconst 1, 1) := by decide +kernel
theorem dX9_command_51 : decode cX9_command 51 = .ok (.if_icmp .eq 8, 3) := by decide +kernel
theorem dX9_command_54 : decode cX9_command 54 = .ok (.iload_n 1, 1) := by decide +kernel
theorem dX9_command_55 : decode cX9_command 55 = .ok (.iconst 3, 1) := by decide +kernel
theorem dX9_command_56 : decode cX9_command 56 = .ok (.if_icmp .ne 16, 3) := by decide +kernel
theorem dX9_command_59 : decode cX9_command 59 = .ok (.aload_n 0, 1) := by decide +kernel
theorem dX9_command_60 : decode cX9_command 60 = .ok (.getfield 158, 3) := by decide +kernel
theorem dX9_command_63 : decode cX9_command 63 = .ok (.ifCond .ne 9, 3) := by decide +kernel
theorem dX9_command_66 : decode cX9_command 66 = .ok (.aload_n 0, 1) := by decide +kernel
theorem dX9_command_67 : decode cX9_command 67 = .ok (.iconst 2, 1) := by decide +kernel
theorem dX9_command_68 : decode cX9_command 68 = .ok (.invokevirtual 174, 3) := by decide +kernel
theorem dX9_command_71 : decode cX9_command 71 = .ok (.istore_n 3, 1) := by decide +kernel
theorem dX9_command_72 : decode cX9_command 72 = .ok (.iload_n 1, 1) := by decide +kernel
theorem dX9_command_73 : decode cX9_command 73 = .ok (.iconst 2, 1) := by decide +kernel
theorem dX9_command_74 : decode cX9_command 74 = .ok (.if_icmp .ne 16, 3) := by decide +kernel
theorem dX9_command_77 : decode cX9_command 77 = .ok (.aload_n 0, 1) := by decide +kernel
theorem dX9_command_78 : decode cX9_command 78 = .ok (.getfield 158, 3) := by decide +kernel
theorem dX9_command_81 : decode cX9_command 81 = .ok (.ifCond .ne 9, 3) := by decide +kernel
theorem dX9_command_84 : decode cX9_command 84 = .ok (.aload_n 0, 1) := by decide +kernel
theorem dX9_command_85 : decode cX9_command 85 = .ok (.iconst 1, 1) := by decide +kernel
theorem dX9_command_86 : decode cX9_command 86 = .ok (.invokevirtual 174, 3) := by decide +kernel
theorem dX9_command_89 : decode cX9_command 89 = .ok (.istore_n 3, 1) := by decide +kernel
theorem dX9_command_90 : decode cX9_command 90 = .ok (.iload_n 1, 1) := by decide +kernel
theorem dX9_command_91 : decode cX9_command 91 = .ok (.iconst 1, 1) := by decide +kernel
theorem dX9_command_92 : decode cX9_command 92 = .ok (.if_icmp .ne 17, 3) := by decide +kernel
theorem dX9_command_95 : decode cX9_command 95 = .ok (.aload_n 0, 1) := by decide +kernel
theorem dX9_command_96 : decode cX9_command 96 = .ok (.getfield 158, 3) := by decide +kernel
theorem dX9_command_99 : decode cX9_command 99 = .ok (.ifCond .ne 10, 3) := by decide +kernel
theorem dX9_command_102 : decode cX9_command 102 = .ok (.aload_n 0, 1) := by decide +kernel
theorem dX9_command_103 : decode cX9_command 103 = .ok (.iconst 1, 1) := by decide +kernel
theorem dX9_command_104 : decode cX9_command 104 = .ok (.invokevirtual 174, 3) := by decide +kernel
theorem dX9_command_107 : decode cX9_command 107 = .ok (.istore 4, 2) := by decide +kernel
theorem dX9_command_109 : decode cX9_command 109 = .ok (.aload_n 0, 1) := by decide +kernel
theorem dX9_command_110 : decode cX9_command 110 = .ok (.getfield 158, 3) := by decide +kernel
theorem dX9_command_113 : decode cX9_command 113 = .ok (.ifCond .ne 10, 3) := by decide +kernel
theorem dX9_command_116 : decode cX9_command 116 = .ok (.aload_n 0, 1) := by decide +kernel
theorem dX9_command_117 : decode cX9_command 117 = .ok (.getfield 177, 3) := by decide +kernel
theorem dX9_command_120 : decode cX9_command 120 = .ok (.ifCond .ne 4, 3) := by decide +kernel
theorem dX9_command_123 : decode cX9_command 123 = .ok (.return_, 1) := by decide +kernel
theorem dX9_command_124 : decode cX9_command 124 = .ok (.aload_n 0, 1) := by decide +kernel
theorem dX9_command_125 : decode cX9_command 125 = .ok (.iload_n 1, 1) := by decide +kernel
theorem dX9_command_126 : decode cX9_command 126 = .ok (.iload_n 2, 1) := by decide +kernel
theorem dX9_command_127 : decode cX9_command 127 = .ok (.iload_n 3, 1) := by decide +kernel
theorem dX9_command_128 : decode cX9_command 128 = .ok (.iload 4, 2) := by decide +kernel
theorem dX9_command_130 : decode cX9_command 130 = .ok (.invokevirtual 180, 3) := by decide +kernel
theorem dX9_command_133 : decode cX9_command 133 = .ok (.istore 5, 2) := by decide +kernel
theorem dX9_command_135 : decode cX9_command 135 = .ok (.return_, 1) := by decide +kernel
theorem dX9_commands_0 : decode cX9_commands 0 = .ok (.aload_n 0, 1) := by decide +kernel
theorem dX9_commands_1 : decode cX9_commands 1 = .ok (.iconst 0, 1) := by decide +kernel
theorem dX9_commands_2 : decode cX9_commands 2 = .ok (.putfield 152, 3) := by decide +kernel
theorem dX9_commands_5 : decode cX9_commands 5 = .ok (.aload_n 0, 1) := by decide +kernel
theorem dX9_commands_6 : decode cX9_commands 6 = .ok (.iconst 0, 1) := by decide +kernel
theorem dX9_commands_7 : decode cX9_commands 7 = .ok (.putfield 158, 3) := by decide +kernel
theorem dX9_commands_10 : decode cX9_commands 10 = .ok (.iconst 1, 1) := by decide +kernel
theorem dX9_commands_11 : decode cX9_commands 11 = .ok (.istore_n 1, 1) := by decide +kernel
theorem dX9_commands_12 : decode cX9_commands 12 = .ok (.aload_n 0, 1) := by decide +kernel
theorem dX9_commands_13 : decode cX9_commands 13 = .ok (.invokevirtual 184, 3) := by decide +kernel
theorem dX9_commands_16 : decode cX9_commands 16 = .ok (.aload_n 0, 1) := by decide +kernel
theorem dX9_commands_17 : decode cX9_commands 17 = .ok (.getfield 158, 3) := by decide +kernel
theorem dX9_commands_20 : decode cX9_commands 20 = .ok (.ifCond .ne 44, 3) := by decide +kernel
theorem dX9_commands_23 : decode cX9_commands 23 = .ok (.aload_n 0, 1) := by decide +kernel
theorem dX9_commands_24 : decode cX9_commands 24 = .ok (.getfield 47, 3) := by decide +kernel
theorem dX9_commands_27 : decode cX9_commands 27 = .ok (.ifCond .ne 37, 3) := by decide +kernel
theorem dX9_commands_30 : decode cX9_commands 30 = .ok (.aload_n 0, 1) := by decide +kernel
theorem dX9_commands_31 : decode cX9_commands 31 = .ok (.getfield 152, 3) := by decide +kernel
theorem dX9_commands_34 : decode cX9_commands 34 = .ok (.aload_n 0, 1) := by decide +kernel
theorem dX9_commands_35 : decode cX9_commands 35 = .ok (.getfield 155, 3) := by decide +kernel
theorem dX9_commands_38 : decode cX9_commands 38 = .ok (.if_icmp .ge 26, 3) := by decide +kernel
theorem dX9_commands_41 : decode cX9_commands 41 = .ok (.aload_n 0, 1) := by decide +kernel
theorem dX9_commands_42 : decode cX9_commands 42 = .ok (.bipush 59, 2) := by decide +kernel
theorem dX9_commands_44 : decode cX9_commands 44 = .ok (.invokevirtual 165, 3) := by decide +kernel
theorem dX9_commands_47 : decode cX9_commands 47 = .ok (.aload_n 0, 1) := by decide +kernel
theorem dX9_commands_48 : decode cX9_commands 48 = .ok (.getfield 158, 3) := by decide +kernel
theorem dX9_commands_51 : decode cX9_commands 51 = .ok (.ifCond .ne 7, 3) := by decide +kernel
theorem dX9_commands_54 : decode cX9_commands 54 = .ok (.aload_n 0, 1) := by decide +kernel
theorem dX9_commands_55 : decode cX9_commands 55 = .ok (.invokevirtual 184, 3) := by decide +kernel
theorem dX9_commands_58 : decode cX9_commands 58 = .ok (.iinc 1 1, 3) := by decide +kernel
theorem dX9_commands_61 : decode cX9_commands 61 = .ok (.goto (-45), 3) := by decide +kernel
theorem dX9_commands_64 : decode cX9_commands 64 = .ok (.iload_n 1, 1) := by decide +kernel
theorem dX9_commands_65 : decode cX9_commands 65 = .ok (.ireturn, 1) := by decide +kernel
theorem dX9_run_0 : decode cX9_run 0 = .ok (.aload_n 0, 1) := by decide +kernel
theorem dX9_run_1 : decode cX9_run 1 = .ok (.invokevirtual 90, 3) := by decide +kernel
theorem dX9_run_4 : decode cX9_run 4 = .ok (.aload_n 0, 1) := by decide +kernel
theorem dX9_run_5 : decode cX9_run 5 = .ok (.aload_n 0, 1) := by decide +kernel
theorem dX9_run_6 : decode cX9_run 6 = .ok (.getfield 149, 3) := by decide +kernel
theorem dX9_run_9 : decode cX9_run 9 = .ok (.putfield 155, 3) := by decide +kernel
theorem dX9_run_12 : decode cX9_run 12 = .ok (.aload_n 0, 1) := by decide +kernel
theorem dX9_run_13 : decode cX9_run 13 = .ok (.iconst 0, 1) := by decide +kernel
theorem dX9_run_14 : decode cX9_run 14 = .ok (.putfield 149, 3) := by decide +kernel
theorem dX9_run_17 : decode cX9_run 17 = .ok (.aload_n 0, 1) := by decide +kernel
theorem dX9_run_18 : decode cX9_run 18 = .ok (.iconst 0, 1) := by decide +kernel
theorem dX9_run_19 : decode cX9_run 19 = .ok (.putfield 177, 3) := by decide +kernel
theorem dX9_run_22 : decode cX9_run 22 = .ok (.aload_n 0, 1) := by decide +kernel
theorem dX9_run_23 : decode cX9_run 23 = .ok (.invokevirtual 187, 3) := by decide +kernel
theorem dX9_run_26 : decode cX9_run 26 = .ok (.istore_n 1, 1) := by decide +kernel
theorem dX9_run_27 : decode cX9_run 27 = .ok (.aload_n 0, 1) := by decide +kernel
theorem dX9_run_28 : decode cX9_run 28 = .ok (.getfield 158, 3) := by decide +kernel
theorem dX9_run_31 : decode cX9_run 31 = .ok (.ifCond .eq 17, 3) := by decide +kernel
theorem dX9_run_34 : decode cX9_run 34 = .ok (.aload_n 0, 1) := by decide +kernel
theorem dX9_run_35 : decode cX9_run 35 = .ok (.aload_n 0, 1) := by decide +kernel
theorem dX9_run_36 : decode cX9_run 36 = .ok (.getfield 152, 3) := by decide +kernel
theorem dX9_run_39 : decode cX9_run 39 = .ok (.putfield 7, 3) := by decide +kernel
theorem dX9_run_42 : decode cX9_run 42 = .ok (.aload_n 0, 1) := by decide +kernel
theorem dX9_run_43 : decode cX9_run 43 = .ok (.iconst 1, 1) := by decide +kernel
theorem dX9_run_44 : decode cX9_run 44 = .ok (.invokevirtual 87, 3) := by decide +kernel
theorem dX9_run_47 : decode cX9_run 47 = .ok (.ireturn, 1) := by decide +kernel
theorem dX9_run_48 : decode cX9_run 48 = .ok (.aload_n 0, 1) := by decide +kernel
theorem dX9_run_49 : decode cX9_run 49 = .ok (.iconst 1, 1) := by decide +kernel
theorem dX9_run_50 : decode cX9_run 50 = .ok (.putfield 177, 3) := by decide +kernel
theorem dX9_run_53 : decode cX9_run 53 = .ok (.aload_n 0, 1) := by decide +kernel
theorem dX9_run_54 : decode cX9_run 54 = .ok (.invokevirtual 187, 3) := by decide +kernel
theorem dX9_run_57 : decode cX9_run 57 = .ok (.istore_n 1, 1) := by decide +kernel
theorem dX9_run_58 : decode cX9_run 58 = .ok (.aload_n 0, 1) := by decide +kernel
theorem dX9_run_59 : decode cX9_run 59 = .ok (.getfield 47, 3) := by decide +kernel
theorem dX9_run_62 : decode cX9_run 62 = .ok (.ifCond .eq 15, 3) := by decide +kernel
theorem dX9_run_65 : decode cX9_run 65 = .ok (.aload_n 0, 1) := by decide +kernel
theorem dX9_run_66 : decode cX9_run 66 = .ok (.iload_n 1, 1) := by decide +kernel
theorem dX9_run_67 : decode cX9_run 67 = .ok (.iconst 1, 1) := by decide +kernel
theorem dX9_run_68 : decode cX9_run 68 = .ok (.isub, 1) := by decide +kernel
theorem dX9_run_69 : decode cX9_run 69 = .ok (.putfield 13, 3) := by decide +kernel
theorem dX9_run_72 : decode cX9_run 72 = .ok (.aload_n 0, 1) := by decide +kernel
theorem dX9_run_73 : decode cX9_run 73 = .ok (.iconst 2, 1) := by decide +kernel
theorem dX9_run_74 : decode cX9_run 74 = .ok (.putfield 47, 3) := by decide +kernel
theorem dX9_run_77 : decode cX9_run 77 = .ok (.aload_n 0, 1) := by decide +kernel
theorem dX9_run_78 : decode cX9_run 78 = .ok (.iload_n 1, 1) := by decide +kernel
theorem dX9_run_79 : decode cX9_run 79 = .ok (.invokevirtual 96, 3) := by decide +kernel
theorem dX9_run_82 : decode cX9_run 82 = .ok (.ireturn, 1) := by decide +kernel
theorem dX9_errorPosition_0 : decode cX9_errorPosition 0 = .ok (.aload_n 0, 1) := by decide +kernel
theorem dX9_errorPosition_1 : decode cX9_errorPosition 1 = .ok (.aload_n 0, 1) := by decide +kernel
theorem dX9_errorPosition_2 : decode cX9_errorPosition 2 = .ok (.getfield 7, 3) := by decide +kernel
theorem dX9_errorPosition_5 : decode cX9_errorPosition 5 = .ok (.ifCond .ge 7, 3) := by decide +kernel
theorem dX9_errorPosition_8 : decode cX9_errorPosition 8 = .ok (.iconst 1, 1) := by decide +kernel
theorem dX9_errorPosition_9 : decode cX9_errorPosition 9 = .ok (.goto 4, 3) := by decide +kernel
theorem dX9_errorPosition_12 : decode cX9_errorPosition 12 = .ok (.iconst 0, 1) := by decide +kernel
theorem dX9_errorPosition_13 : decode cX9_errorPosition 13 = .ok (.putfield 47, 3) := by decide +kernel
theorem dX9_errorPosition_16 : decode cX9_errorPosition 16 = .ok (.aload_n 0, 1) := by decide +kernel
theorem dX9_errorPosition_17 : decode cX9_errorPosition 17 = .ok (.getfield 47, 3) := by decide +kernel
theorem dX9_errorPosition_20 : decode cX9_errorPosition 20 = .ok (.ifCond .ne 10, 3) := by decide +kernel
theorem dX9_errorPosition_23 : decode cX9_errorPosition 23 = .ok (.aload_n 0, 1) := by decide +kernel
theorem dX9_errorPosition_24 : decode cX9_errorPosition 24 = .ok (.getfield 7, 3) := by decide +kernel
theorem dX9_errorPosition_27 : decode cX9_errorPosition 27 = .ok (.goto 4, 3) := by decide +kernel
theorem dX9_errorPosition_30 : decode cX9_errorPosition 30 = .ok (.iconst 0, 1) := by decide +kernel
theorem dX9_errorPosition_31 : decode cX9_errorPosition 31 = .ok (.ireturn, 1) := by decide +kernel
theorem dX9_failedCommand_0 : decode cX9_failedCommand 0 = .ok (.aload_n 0, 1) := by decide +kernel
theorem dX9_failedCommand_1 : decode cX9_failedCommand 1 = .ok (.aload_n 0, 1) := by decide +kernel
theorem dX9_failedCommand_2 : decode cX9_failedCommand 2 = .ok (.getfield 13, 3) := by decide +kernel
theorem dX9_failedCommand_5 : decode cX9_failedCommand 5 = .ok (.ifCond .ge 7, 3) := by decide +kernel
theorem dX9_failedCommand_8 : decode cX9_failedCommand 8 = .ok (.iconst 1, 1) := by decide +kernel
theorem dX9_failedCommand_9 : decode cX9_failedCommand 9 = .ok (.goto 4, 3) := by decide +kernel
theorem dX9_failedCommand_12 : decode cX9_failedCommand 12 = .ok (.iconst 0, 1) := by decide +kernel
theorem dX9_failedCommand_13 : decode cX9_failedCommand 13 = .ok (.putfield 47, 3) := by decide +kernel
theorem dX9_failedCommand_16 : decode cX9_failedCommand 16 = .ok (.aload_n 0, 1) := by decide +kernel
theorem dX9_failedCommand_17 : decode cX9_failedCommand 17 = .ok (.getfield 47, 3) := by decide +kernel
theorem dX9_failedCommand_20 : decode cX9_failedCommand 20 = .ok (.ifCond .ne 10, 3) := by decide +kernel
theorem dX9_failedCommand_23 : decode cX9_failedCommand 23 = .ok (.aload_n 0, 1) := by decide +kernel
theorem dX9_failedCommand_24 : decode cX9_failedCommand 24 = .ok (.getfield 13, 3) := by decide +kernel
theorem dX9_failedCommand_27 : decode cX9_failedCommand 27 = .ok (.goto 4, 3) := by decide +kernel
theorem dX9_failedCommand_30 : decode cX9_failedCommand 30 = .ok (.iconst 0, 1) := by decide +kernel
theorem dX9_failedCommand_31 : decode cX9_failedCommand 31 = .ok (.ireturn, 1) := by decide +kernel
theorem dX9_writes_0 : decode cX9_writes 0 = .ok (.aload_n 0, 1) := by decide +kernel
theorem dX9_writes_1 : decode cX9_writes 1 = .ok (.getfield 35, 3) := by decide +kernel
theorem dX9_writes_4 : decode cX9_writes 4 = .ok (.aload_n 0, 1) := by decide +kernel
theorem dX9_writes_5 : decode cX9_writes 5 = .ok (.getfield 190, 3) := by decide +kernel
theorem dX9_writes_8 : decode cX9_writes 8 = .ok (.iload_n 1, 1) := by decide +kernel
theorem dX9_writes_9 : decode cX9_writes 9 = .ok (.iastore, 1) := by decide +kernel
theorem dX9_writes_10 : decode cX9_writes 10 = .ok (.aload_n 0, 1) := by decide +kernel
theorem dX9_writes_11 : decode cX9_writes 11 = .ok (.dup, 1) := by decide +kernel
theorem dX9_writes_12 : decode cX9_writes 12 = .ok (.getfield 190, 3) := by decide +kernel
theorem dX9_writes_15 : decode cX9_writes 15 = .ok (.iconst 1, 1) := by decide +kernel
theorem dX9_writes_16 : decode cX9_writes 16 = .ok (.iadd, 1) := by decide +kernel
theorem dX9_writes_17 : decode cX9_writes 17 = .ok (.putfield 190, 3) := by decide +kernel
theorem dX9_writes_20 : decode cX9_writes 20 = .ok (.return_, 1) := by decide +kernel
theorem dX9_writesNumber_0 : decode cX9_writesNumber 0 = .ok (.iconst 1, 1) := by decide +kernel
theorem dX9_writesNumber_1 : decode cX9_writesNumber 1 = .ok (.istore_n 2, 1) := by decide +kernel
theorem dX9_writesNumber_2 : decode cX9_writesNumber 2 = .ok (.iload_n 1, 1) := by decide +kernel
theorem dX9_writesNumber_3 : decode cX9_writesNumber 3 = .ok (.iload_n 2, 1) := by decide +kernel
theorem dX9_writesNumber_4 : decode cX9_writesNumber 4 = .ok (.idiv, 1) := by decide +kernel
theorem dX9_writesNumber_5 : decode cX9_writesNumber 5 = .ok (.bipush 10, 2) := by decide +kernel
theorem dX9_writesNumber_7 : decode cX9_writesNumber 7 = .ok (.if_icmp .lt 11, 3) := by decide +kernel
theorem dX9_writesNumber_10 : decode cX9_writesNumber 10 = .ok (.iload_n 2, 1) := by decide +kernel
theorem dX9_writesNumber_11 : decode cX9_writesNumber 11 = .ok (.bipush 10, 2) := by decide +kernel
theorem dX9_writesNumber_13 : decode cX9_writesNumber 13 = .ok (.imul, 1) := by decide +kernel
theorem dX9_writesNumber_14 : decode cX9_writesNumber 14 = .ok (.istore_n 2, 1) := by decide +kernel
theorem dX9_writesNumber_15 : decode cX9_writesNumber 15 = .ok (.goto (-13), 3) := by decide +kernel
theorem dX9_writesNumber_18 : decode cX9_writesNumber 18 = .ok (.iload_n 2, 1) := by decide +kernel
theorem dX9_writesNumber_19 : decode cX9_writesNumber 19 = .ok (.ifCond .le 24, 3) := by decide +kernel
theorem dX9_writesNumber_22 : decode cX9_writesNumber 22 = .ok (.aload_n 0, 1) := by decide +kernel
theorem dX9_writesNumber_23 : decode cX9_writesNumber 23 = .ok (.bipush 48, 2) := by decide +kernel
theorem dX9_writesNumber_25 : decode cX9_writesNumber 25 = .ok (.iload_n 1, 1) := by decide +kernel
theorem dX9_writesNumber_26 : decode cX9_writesNumber 26 = .ok (.iload_n 2, 1) := by decide +kernel
theorem dX9_writesNumber_27 : decode cX9_writesNumber 27 = .ok (.idiv, 1) := by decide +kernel
theorem dX9_writesNumber_28 : decode cX9_writesNumber 28 = .ok (.bipush 10, 2) := by decide +kernel
theorem dX9_writesNumber_30 : decode cX9_writesNumber 30 = .ok (.irem, 1) := by decide +kernel
theorem dX9_writesNumber_31 : decode cX9_writesNumber 31 = .ok (.iadd, 1) := by decide +kernel
theorem dX9_writesNumber_32 : decode cX9_writesNumber 32 = .ok (.invokevirtual 193, 3) := by decide +kernel
theorem dX9_writesNumber_35 : decode cX9_writesNumber 35 = .ok (.iload_n 2, 1) := by decide +kernel
theorem dX9_writesNumber_36 : decode cX9_writesNumber 36 = .ok (.bipush 10, 2) := by decide +kernel
theorem dX9_writesNumber_38 : decode cX9_writesNumber 38 = .ok (.idiv, 1) := by decide +kernel
theorem dX9_writesNumber_39 : decode cX9_writesNumber 39 = .ok (.istore_n 2, 1) := by decide +kernel
theorem dX9_writesNumber_40 : decode cX9_writesNumber 40 = .ok (.goto (-22), 3) := by decide +kernel
theorem dX9_writesNumber_43 : decode cX9_writesNumber 43 = .ok (.return_, 1) := by decide +kernel
theorem dX9_describeRow_0 : decode cX9_describeRow 0 = .ok (.aload_n 0, 1) := by decide +kernel
theorem dX9_describeRow_1 : decode cX9_describeRow 1 = .ok (.iload_n 1, 1) := by decide +kernel
theorem dX9_describeRow_2 : decode cX9_describeRow 2 = .ok (.iconst 0, 1) := by decide +kernel
theorem dX9_describeRow_3 : decode cX9_describeRow 3 = .ok (.iconst 4, 1) := by decide +kernel
theorem dX9_describeRow_4 : decode cX9_describeRow 4 = .ok (.invokestatic 57, 3) := by decide +kernel
theorem dX9_describeRow_7 : decode cX9_describeRow 7 = .ok (.ifCond .eq 7, 3) := by decide +kernel
theorem dX9_describeRow_10 : decode cX9_describeRow 10 = .ok (.iconst 0, 1) := by decide +kernel
theorem dX9_describeRow_11 : decode cX9_describeRow 11 = .ok (.goto 4, 3) := by decide +kernel
theorem dX9_describeRow_14 : decode cX9_describeRow 14 = .ok (.iconst 1, 1) := by decide +kernel
theorem dX9_describeRow_15 : decode cX9_describeRow 15 = .ok (.putfield 47, 3) := by decide +kernel
theorem dX9_describeRow_18 : decode cX9_describeRow 18 = .ok (.aload_n 0, 1) := by decide +kernel
theorem dX9_describeRow_19 : decode cX9_describeRow 19 = .ok (.getfield 47, 3) := by decide +kernel
theorem dX9_describeRow_22 : decode cX9_describeRow 22 = .ok (.ifCond .eq 5, 3) := by decide +kernel
theorem dX9_describeRow_25 : decode cX9_describeRow 25 = .ok (.iconst 0, 1) := by decide +kernel
theorem dX9_describeRow_26 : decode cX9_describeRow 26 = .ok (.ireturn, 1) := by decide +kernel
theorem dX9_describeRow_27 : decode cX9_describeRow 27 = .ok (.aload_n 0, 1) := by decide +kernel
theorem dX9_describeRow_28 : decode cX9_describeRow 28 = .ok (.iconst 0, 1) := by decide +kernel
theorem dX9_describeRow_29 : decode cX9_describeRow 29 = .ok (.putfield 190, 3) := by decide +kernel
theorem dX9_describeRow_32 : decode cX9_describeRow 32 = .ok (.iconst 5, 1) := by decide +kernel
theorem dX9_describeRow_33 : decode cX9_describeRow 33 = .ok (.iload_n 1, 1) := by decide +kernel
theorem dX9_describeRow_34 : decode cX9_describeRow 34 = .ok (.imul, 1) := by decide +kernel
theorem dX9_describeRow_35 : decode cX9_describeRow 35 = .ok (.istore_n 2, 1) := by decide +kernel
theorem dX9_describeRow_36 : decode cX9_describeRow 36 = .ok (.iload_n 2, 1) := by decide +kernel
theorem dX9_describeRow_37 : decode cX9_describeRow 37 = .ok (.iconst 5, 1) := by decide +kernel
theorem dX9_describeRow_38 : decode cX9_describeRow 38 = .ok (.iload_n 1, 1) := by decide +kernel
theorem dX9_describeRow_39 : decode cX9_describeRow 39 = .ok (.imul, 1) := by decide +kernel
theorem dX9_describeRow_40 : decode cX9_describeRow 40 = .ok (.iconst 5, 1) := by decide +kernel
theorem dX9_describeRow_41 : decode cX9_describeRow 41 = .ok (.iadd, 1) := by decide +kernel
theorem dX9_describeRow_42 : decode cX9_describeRow 42 = .ok (.if_icmp .ge 79, 3) := by decide +kernel
theorem dX9_describeRow_45 : decode cX9_describeRow 45 = .ok (.aload_n 0, 1) := by decide +kernel
theorem dX9_describeRow_46 : decode cX9_describeRow 46 = .ok (.getfield 190, 3) := by decide +kernel
theorem dX9_describeRow_49 : decode cX9_describeRow 49 = .ok (.ifCond .le 9, 3) := by decide +kernel
theorem dX9_describeRow_52 : decode cX9_describeRow 52 = .ok (.aload_n 0, 1) := by decide +kernel
theorem dX9_describeRow_53 : decode cX9_describeRow 53 = .ok (.bipush 32, 2) := by decide +kernel
theorem dX9_describeRow_55 : decode cX9_describeRow 55 = .ok (.invokevirtual 193, 3) := by decide +kernel
theorem dX9_describeRow_58 : decode cX9_describeRow 58 = .ok (.aload_n 0, 1) := by decide +kernel
theorem dX9_describeRow_59 : decode cX9_describeRow 59 = .ok (.aload_n 0, 1) := by decide +kernel
theorem dX9_describeRow_60 : decode cX9_describeRow 60 = .ok (.getfield 16, 3) := by decide +kernel
theorem dX9_describeRow_63 : decode cX9_describeRow 63 = .ok (.bipush 17, 2) := by decide +kernel
theorem dX9_describeRow_65 : decode cX9_describeRow 65 = .ok (.iload_n 2, 1) := by decide +kernel
theorem dX9_describeRow_66 : decode cX9_describeRow 66 = .ok (.iadd, 1) := by decide +kernel
theorem dX9_describeRow_67 : decode cX9_describeRow 67 = .ok (.iaload, 1) := by decide +kernel
theorem dX9_describeRow_68 : decode cX9_describeRow 68 = .ok (.invokevirtual 196, 3) := by decide +kernel
theorem dX9_describeRow_71 : decode cX9_describeRow 71 = .ok (.aload_n 0, 1) := by decide +kernel
theorem dX9_describeRow_72 : decode cX9_describeRow 72 = .ok (.getfield 16, 3) := by decide +kernel
theorem dX9_describeRow_75 : decode cX9_describeRow 75 = .ok (.bipush 42, 2) := by decide +kernel
theorem dX9_describeRow_77 : decode cX9_describeRow 77 = .ok (.iload_n 2, 1) := by decide +kernel
theorem dX9_describeRow_78 : decode cX9_describeRow 78 = .ok (.iadd, 1) := by decide +kernel
theorem dX9_describeRow_79 : decode cX9_describeRow 79 = .ok (.iaload, 1) := by decide +kernel
theorem dX9_describeRow_80 : decode cX9_describeRow 80 = .ok (.ifCond .le 21, 3) := by decide +kernel
theorem dX9_describeRow_83 : decode cX9_describeRow 83 = .ok (.aload_n 0, 1) := by decide +kernel
theorem dX9_describeRow_84 : decode cX9_describeRow 84 = .ok (.bipush 97, 2) := by decide +kernel
theorem dX9_describeRow_86 : decode cX9_describeRow 86 = .ok (.aload_n 0, 1) := by decide +kernel
theorem dX9_describeRow_87 : decode cX9_describeRow 87 = .ok (.getfield 16, 3) := by decide +kernel
theorem dX9_describeRow_90 : decode cX9_describeRow 90 = .ok (.bipush 42, 2) := by decide +kernel
theorem dX9_describeRow_92 : decode cX9_describeRow 92 = .ok (.iload_n 2, 1) := by decide +kernel
theorem dX9_describeRow_93 : decode cX9_describeRow 93 = .ok (.iadd, 1) := by decide +kernel
theorem dX9_describeRow_94 : decode cX9_describeRow 94 = .ok (.iaload, 1) := by decide +kernel
theorem dX9_describeRow_95 : decode cX9_describeRow 95 = .ok (.iadd, 1) := by decide +kernel
theorem dX9_describeRow_96 : decode cX9_describeRow 96 = .ok (.iconst 1, 1) := by decide +kernel
theorem dX9_describeRow_97 : decode cX9_describeRow 97 = .ok (.isub, 1) := by decide +kernel
theorem dX9_describeRow_98 : decode cX9_describeRow 98 = .ok (.invokevirtual 193, 3) := by decide +kernel
theorem dX9_describeRow_101 : decode cX9_describeRow 101 = .ok (.aload_n 0, 1) := by decide +kernel
theorem dX9_describeRow_102 : decode cX9_describeRow 102 = .ok (.iload_n 2, 1) := by decide +kernel
theorem dX9_describeRow_103 : decode cX9_describeRow 103 = .ok (.invokevirtual 136, 3) := by decide +kernel
theorem dX9_describeRow_106 : decode cX9_describeRow 106 = .ok (.ifCond .eq 9, 3) := by decide +kernel
theorem dX9_describeRow_109 : decode cX9_describeRow 109 = .ok (.aload_n 0, 1) := by decide +kernel
theorem dX9_describeRow_110 : decode cX9_describeRow 110 = .ok (.bipush 42, 2) := by decide +kernel
theorem dX9_describeRow_112 : decode cX9_describeRow 112 = .ok (.invokevirtual 193, 3) := by decide +kernel
theorem dX9_describeRow_115 : decode cX9_describeRow 115 = .ok (.iinc 2 1, 3) := by decide +kernel
theorem dX9_describeRow_118 : decode cX9_describeRow 118 = .ok (.goto (-82), 3) := by decide +kernel
theorem dX9_describeRow_121 : decode cX9_describeRow 121 = .ok (.aload_n 0, 1) := by decide +kernel
theorem dX9_describeRow_122 : decode cX9_describeRow 122 = .ok (.getfield 190, 3) := by decide +kernel
theorem dX9_describeRow_125 : decode cX9_describeRow 125 = .ok (.ireturn, 1) := by decide +kernel
theorem dX9_lineAt_0 : decode cX9_lineAt 0 = .ok (.aload_n 0, 1) := by decide +kernel
theorem dX9_lineAt_1 : decode cX9_lineAt 1 = .ok (.iload_n 1, 1) := by decide +kernel
theorem dX9_lineAt_2 : decode cX9_lineAt 2 = .ok (.iconst 0, 1) := by decide +kernel
theorem dX9_lineAt_3 : decode cX9_lineAt 3 = .ok (.aload_n 0, 1) := by decide +kernel
theorem dX9_lineAt_4 : decode cX9_lineAt 4 = .ok (.getfield 190, 3) := by decide +kernel
theorem dX9_lineAt_7 : decode cX9_lineAt 7 = .ok (.iconst 1, 1) := by decide +kernel
theorem dX9_lineAt_8 : decode cX9_lineAt 8 = .ok (.isub, 1) := by decide +kernel
theorem dX9_lineAt_9 : decode cX9_lineAt 9 = .ok (.invokestatic 57, 3) := by decide +kernel
theorem dX9_lineAt_12 : decode cX9_lineAt 12 = .ok (.ifCond .eq 7, 3) := by decide +kernel
theorem dX9_lineAt_15 : decode cX9_lineAt 15 = .ok (.iconst 0, 1) := by decide +kernel
theorem dX9_lineAt_16 : decode cX9_lineAt 16 = .ok (.goto 4, 3) := by decide +kernel
theorem dX9_lineAt_19 : decode cX9_lineAt 19 = .ok (.iconst 1, 1) := by decide +kernel
theorem dX9_lineAt_20 : decode cX9_lineAt 20 = .ok (.putfield 47, 3) := by decide +kernel
theorem dX9_lineAt_23 : decode cX9_lineAt 23 = .ok (.aload_n 0, 1) := by decide +kernel
theorem dX9_lineAt_24 : decode cX9_lineAt 24 = .ok (.getfield 47, 3) := by decide +kernel
theorem dX9_lineAt_27 : decode cX9_lineAt 27 = .ok (.ifCond .ne 13, 3) := by decide +kernel
theorem dX9_lineAt_30 : decode cX9_lineAt 30 = .ok (.aload_n 0, 1) := by decide +kernel
theorem dX9_lineAt_31 : decode cX9_lineAt 31 = .ok (.getfield 35, 3) := by decide +kernel
theorem dX9_lineAt_34 : decode cX9_lineAt 34 = .ok (.iload_n 1, 1) := by decide +kernel
theorem dX9_lineAt_35 : decode cX9_lineAt 35 = .ok (.iaload, 1) := by decide +kernel
theorem dX9_lineAt_36 : decode cX9_lineAt 36 = .ok (.i2c, 1) := by decide +kernel
theorem dX9_lineAt_37 : decode cX9_lineAt 37 = .ok (.goto 5, 3) := by decide +kernel
theorem dX9_lineAt_40 : decode cX9_lineAt 40 = .ok (.bipush 97, 2) := by decide +kernel
theorem dX9_lineAt_42 : decode cX9_lineAt 42 = .ok (.ireturn, 1) := by decide +kernel
theorem dX9_meanAvalanche_0 : decode cX9_meanAvalanche 0 = .ok (.aload_n 0, 1) := by decide +kernel
theorem dX9_meanAvalanche_1 : decode cX9_meanAvalanche 1 = .ok (.aload_n 0, 1) := by decide +kernel
theorem dX9_meanAvalanche_2 : decode cX9_meanAvalanche 2 = .ok (.getfield 16, 3) := by decide +kernel
theorem dX9_meanAvalanche_5 : decode cX9_meanAvalanche 5 = .ok (.iconst 4, 1) := by decide +kernel
theorem dX9_meanAvalanche_6 : decode cX9_meanAvalanche 6 = .ok (.iaload, 1) := by decide +kernel
theorem dX9_meanAvalanche_7 : decode cX9_meanAvalanche 7 = .ok (.ifCond .ne 7, 3) := by decide +kernel
theorem dX9_meanAvalanche_10 : decode cX9_meanAvalanche 10 = .ok (.iconst 1, 1) := by decide +kernel
theorem dX9_meanAvalanche_11 : decode cX9_meanAvalanche 11 = .ok (.goto 4, 3) := by decide +kernel
theorem dX9_meanAvalanche_14 : decode cX9_meanAvalanche 14 = .ok (.iconst 0, 1) := by decide +kernel
theorem dX9_meanAvalanche_15 : decode cX9_meanAvalanche 15 = .ok (.putfield 47, 3) := by decide +kernel
theorem dX9_meanAvalanche_18 : decode cX9_meanAvalanche 18 = .ok (.aload_n 0, 1) := by decide +kernel
theorem dX9_meanAvalanche_19 : decode cX9_meanAvalanche 19 = .ok (.getfield 47, 3) := by decide +kernel
theorem dX9_meanAvalanche_22 : decode cX9_meanAvalanche 22 = .ok (.ifCond .ne 21, 3) := by decide +kernel
theorem dX9_meanAvalanche_25 : decode cX9_meanAvalanche 25 = .ok (.aload_n 0, 1) := by decide +kernel
theorem dX9_meanAvalanche_26 : decode cX9_meanAvalanche 26 = .ok (.getfield 16, 3) := by decide +kernel
theorem dX9_meanAvalanche_29 : decode cX9_meanAvalanche 29 = .ok (.iconst 3, 1) := by decide +kernel
theorem dX9_meanAvalanche_30 : decode cX9_meanAvalanche 30 = .ok (.iaload, 1) := by decide +kernel
theorem dX9_meanAvalanche_31 : decode cX9_meanAvalanche 31 = .ok (.i2d, 1) := by decide +kernel
theorem dX9_meanAvalanche_32 : decode cX9_meanAvalanche 32 = .ok (.aload_n 0, 1) := by decide +kernel
theorem dX9_meanAvalanche_33 : decode cX9_meanAvalanche 33 = .ok (.getfield 16, 3) := by decide +kernel
theorem dX9_meanAvalanche_36 : decode cX9_meanAvalanche 36 = .ok (.iconst 4, 1) := by decide +kernel
theorem dX9_meanAvalanche_37 : decode cX9_meanAvalanche 37 = .ok (.iaload, 1) := by decide +kernel
theorem dX9_meanAvalanche_38 : decode cX9_meanAvalanche 38 = .ok (.i2d, 1) := by decide +kernel
theorem dX9_meanAvalanche_39 : decode cX9_meanAvalanche 39 = .ok (.ddiv, 1) := by decide +kernel
theorem dX9_meanAvalanche_40 : decode cX9_meanAvalanche 40 = .ok (.goto 4, 3) := by decide +kernel
theorem dX9_meanAvalanche_43 : decode cX9_meanAvalanche 43 = .ok (.dconst 0, 1) := by decide +kernel
theorem dX9_meanAvalanche_44 : decode cX9_meanAvalanche 44 = .ok (.dreturn, 1) := by decide +kernel
theorem dX9_isConsistent_0 : decode cX9_isConsistent 0 = .ok (.aload_n 0, 1) := by decide +kernel
theorem dX9_isConsistent_1 : decode cX9_isConsistent 1 = .ok (.iconst 0, 1) := by decide +kernel
theorem dX9_isConsistent_2 : decode cX9_isConsistent 2 = .ok (.putfield 47, 3) := by decide +kernel
theorem dX9_isConsistent_5 : decode cX9_isConsistent 5 = .ok (.aload_n 0, 1) := by decide +kernel
theorem dX9_isConsistent_6 : decode cX9_isConsistent 6 = .ok (.invokevirtual 79, 3) := by decide +kernel
theorem dX9_isConsistent_9 : decode cX9_isConsistent 9 = .ok (.ifCond .ge 37, 3) := by decide +kernel
theorem dX9_isConsistent_12 : decode cX9_isConsistent 12 = .ok (.aload_n 0, 1) := by decide +kernel
theorem dX9_isConsistent_13 : decode cX9_isConsistent 13 = .ok (.getfield 16, 3) := by decide +kernel
theorem dX9_isConsistent_16 : decode cX9_isConsistent 16 = .ok (.bipush 6, 2) := by decide +kernel
theorem dX9_isConsistent_18 : decode cX9_isConsistent 18 = .ok (.iaload, 1) := by decide +kernel
theorem dX9_isConsistent_19 : decode cX9_isConsistent 19 = .ok (.aload_n 0, 1) := by decide +kernel
theorem dX9_isConsistent_20 : decode cX9_isConsistent 20 = .ok (.invokevirtual 108, 3) := by decide +kernel
theorem dX9_isConsistent_23 : decode cX9_isConsistent 23 = .ok (.aload_n 0, 1) := by decide +kernel
theorem dX9_isConsistent_24 : decode cX9_isConsistent 24 = .ok (.getfield 16, 3) := by decide +kernel
theorem dX9_isConsistent_27 : decode cX9_isConsistent 27 = .ok (.bipush 7, 2) := by decide +kernel
theorem dX9_isConsistent_29 : decode cX9_isConsistent 29 = .ok (.iaload, 1) := by decide +kernel
theorem dX9_isConsistent_30 : decode cX9_isConsistent 30 = .ok (.iadd, 1) := by decide +kernel
theorem dX9_isConsistent_31 : decode cX9_isConsistent 31 = .ok (.aload_n 0, 1) := by decide +kernel
theorem dX9_isConsistent_32 : decode cX9_isConsistent 32 = .ok (.getfield 16, 3) := by decide +kernel
theorem dX9_isConsistent_35 : decode cX9_isConsistent 35 = .ok (.bipush 8, 2) := by decide +kernel
theorem dX9_isConsistent_37 : decode cX9_isConsistent 37 = .ok (.iaload, 1) := by decide +kernel
theorem dX9_isConsistent_38 : decode cX9_isConsistent 38 = .ok (.iadd, 1) := by decide +kernel
theorem dX9_isConsistent_39 : decode cX9_isConsistent 39 = .ok (.if_icmp .ne 7, 3) := by decide +kernel
theorem dX9_isConsistent_42 : decode cX9_isConsistent 42 = .ok (.iconst 1, 1) := by decide +kernel
theorem dX9_isConsistent_43 : decode cX9_isConsistent 43 = .ok (.goto 4, 3) := by decide +kernel
theorem dX9_isConsistent_46 : decode cX9_isConsistent 46 = .ok (.iconst 0, 1) := by decide +kernel
theorem dX9_isConsistent_47 : decode cX9_isConsistent 47 = .ok (.ireturn, 1) := by decide +kernel
theorem dX9_undo_0 : decode cX9_undo 0 = .ok (.aload_n 0, 1) := by decide +kernel
theorem dX9_undo_1 : decode cX9_undo 1 = .ok (.aload_n 0, 1) := by decide +kernel
theorem dX9_undo_2 : decode cX9_undo 2 = .ok (.getfield 54, 3) := by decide +kernel
theorem dX9_undo_5 : decode cX9_undo 5 = .ok (.ifCond .ne 7, 3) := by decide +kernel
theorem dX9_undo_8 : decode cX9_undo 8 = .ok (.iconst 1, 1) := by decide +kernel
theorem dX9_undo_9 : decode cX9_undo 9 = .ok (.goto 4, 3) := by decide +kernel
theorem dX9_undo_12 : decode cX9_undo 12 = .ok (.iconst 0, 1) := by decide +kernel
theorem dX9_undo_13 : decode cX9_undo 13 = .ok (.putfield 47, 3) := by decide +kernel
theorem dX9_undo_16 : decode cX9_undo 16 = .ok (.aload_n 0, 1) := by decide +kernel
theorem dX9_undo_17 : decode cX9_undo 17 = .ok (.getfield 47, 3) := by decide +kernel
theorem dX9_undo_20 : decode cX9_undo 20 = .ok (.ifCond .eq 5, 3) := by decide +kernel
theorem dX9_undo_23 : decode cX9_undo 23 = .ok (.iconst 0, 1) := by decide +kernel
theorem dX9_undo_24 : decode cX9_undo 24 = .ok (.ireturn, 1) := by decide +kernel
theorem dX9_undo_25 : decode cX9_undo 25 = .ok (.aload_n 0, 1) := by decide +kernel
theorem dX9_undo_26 : decode cX9_undo 26 = .ok (.dup, 1) := by decide +kernel
theorem dX9_undo_27 : decode cX9_undo 27 = .ok (.getfield 54, 3) := by decide +kernel
theorem dX9_undo_30 : decode cX9_undo 30 = .ok (.iconst 1, 1) := by decide +kernel
theorem dX9_undo_31 : decode cX9_undo 31 = .ok (.isub, 1) := by decide +kernel
theorem dX9_undo_32 : decode cX9_undo 32 = .ok (.putfield 54, 3) := by decide +kernel
theorem dX9_undo_35 : decode cX9_undo 35 = .ok (.iconst 0, 1) := by decide +kernel
theorem dX9_undo_36 : decode cX9_undo 36 = .ok (.istore_n 1, 1) := by decide +kernel
theorem dX9_undo_37 : decode cX9_undo 37 = .ok (.iload_n 1, 1) := by decide +kernel
theorem dX9_undo_38 : decode cX9_undo 38 = .ok (.bipush 67, 2) := by decide +kernel
theorem dX9_undo_40 : decode cX9_undo 40 = .ok (.if_icmp .ge 29, 3) := by decide +kernel
theorem dX9_undo_43 : decode cX9_undo 43 = .ok (.aload_n 0, 1) := by decide +kernel
theorem dX9_undo_44 : decode cX9_undo 44 = .ok (.getfield 16, 3) := by decide +kernel
theorem dX9_undo_47 : decode cX9_undo 47 = .ok (.iload_n 1, 1) := by decide +kernel
theorem dX9_undo_48 : decode cX9_undo 48 = .ok (.aload_n 0, 1) := by decide +kernel
theorem dX9_undo_49 : decode cX9_undo 49 = .ok (.getfield 29, 3) := by decide +kernel
theorem dX9_undo_52 : decode cX9_undo 52 = .ok (.aload_n 0, 1) := by decide +kernel
theorem dX9_undo_53 : decode cX9_undo 53 = .ok (.getfield 54, 3) := by decide +kernel
theorem dX9_undo_56 : decode cX9_undo 56 = .ok (.bipush 67, 2) := by decide +kernel
theorem dX9_undo_58 : decode cX9_undo 58 = .ok (.imul, 1) := by decide +kernel
theorem dX9_undo_59 : decode cX9_undo 59 = .ok (.iload_n 1, 1) := by decide +kernel
theorem dX9_undo_60 : decode cX9_undo 60 = .ok (.iadd, 1) := by decide +kernel
theorem dX9_undo_61 : decode cX9_undo 61 = .ok (.iaload, 1) := by decide +kernel
theorem dX9_undo_62 : decode cX9_undo 62 = .ok (.iastore, 1) := by decide +kernel
theorem dX9_undo_63 : decode cX9_undo 63 = .ok (.iinc 1 1, 3) := by decide +kernel
theorem dX9_undo_66 : decode cX9_undo 66 = .ok (.goto (-29), 3) := by decide +kernel
theorem dX9_undo_69 : decode cX9_undo 69 = .ok (.aload_n 0, 1) := by decide +kernel
theorem dX9_undo_70 : decode cX9_undo 70 = .ok (.getfield 54, 3) := by decide +kernel
theorem dX9_undo_73 : decode cX9_undo 73 = .ok (.ireturn, 1) := by decide +kernel
theorem dX9_save_0 : decode cX9_save 0 = .ok (.aload_n 0, 1) := by decide +kernel
theorem dX9_save_1 : decode cX9_save 1 = .ok (.iconst 0, 1) := by decide +kernel
theorem dX9_save_2 : decode cX9_save 2 = .ok (.putfield 47, 3) := by decide +kernel
theorem dX9_save_5 : decode cX9_save 5 = .ok (.aload_n 0, 1) := by decide +kernel
theorem dX9_save_6 : decode cX9_save 6 = .ok (.getfield 23, 3) := by decide +kernel
theorem dX9_save_9 : decode cX9_save 9 = .ok (.aload_n 0, 1) := by decide +kernel
theorem dX9_save_10 : decode cX9_save 10 = .ok (.getfield 16, 3) := by decide +kernel
theorem dX9_save_13 : decode cX9_save 13 = .ok (.invokestatic 50, 3) := by decide +kernel
theorem dX9_save_16 : decode cX9_save 16 = .ok (.aload_n 0, 1) := by decide +kernel
theorem dX9_save_17 : decode cX9_save 17 = .ok (.iconst 1, 1) := by decide +kernel
theorem dX9_save_18 : decode cX9_save 18 = .ok (.putfield 199, 3) := by decide +kernel
theorem dX9_save_21 : decode cX9_save 21 = .ok (.aload_n 0, 1) := by decide +kernel
theorem dX9_save_22 : decode cX9_save 22 = .ok (.invokevirtual 108, 3) := by decide +kernel
theorem dX9_save_25 : decode cX9_save 25 = .ok (.ireturn, 1) := by decide +kernel
theorem dX9_restore_0 : decode cX9_restore 0 = .ok (.aload_n 0, 1) := by decide +kernel
theorem dX9_restore_1 : decode cX9_restore 1 = .ok (.aload_n 0, 1) := by decide +kernel
theorem dX9_restore_2 : decode cX9_restore 2 = .ok (.getfield 199, 3) := by decide +kernel
theorem dX9_restore_5 : decode cX9_restore 5 = .ok (.ifCond .eq 7, 3) := by decide +kernel
theorem dX9_restore_8 : decode cX9_restore 8 = .ok (.iconst 0, 1) := by decide +kernel
theorem dX9_restore_9 : decode cX9_restore 9 = .ok (.goto 4, 3) := by decide +kernel
theorem dX9_restore_12 : decode cX9_restore 12 = .ok (.iconst 1, 1) := by decide +kernel
theorem dX9_restore_13 : decode cX9_restore 13 = .ok (.putfield 47, 3) := by decide +kernel
theorem dX9_restore_16 : decode cX9_restore 16 = .ok (.aload_n 0, 1) := by decide +kernel
theorem dX9_restore_17 : decode cX9_restore 17 = .ok (.getfield 47, 3) := by decide +kernel
theorem dX9_restore_20 : decode cX9_restore 20 = .ok (.ifCond .eq 5, 3) := by decide +kernel
theorem dX9_restore_23 : decode cX9_restore 23 = .ok (.iconst 0, 1) := by decide +kernel
theorem dX9_restore_24 : decode cX9_restore 24 = .ok (.ireturn, 1) := by decide +kernel
theorem dX9_restore_25 : decode cX9_restore 25 = .ok (.aload_n 0, 1) := by decide +kernel
theorem dX9_restore_26 : decode cX9_restore 26 = .ok (.getfield 16, 3) := by decide +kernel
theorem dX9_restore_29 : decode cX9_restore 29 = .ok (.aload_n 0, 1) := by decide +kernel
theorem dX9_restore_30 : decode cX9_restore 30 = .ok (.getfield 23, 3) := by decide +kernel
theorem dX9_restore_33 : decode cX9_restore 33 = .ok (.invokestatic 50, 3) := by decide +kernel
theorem dX9_restore_36 : decode cX9_restore 36 = .ok (.aload_n 0, 1) := by decide +kernel
theorem dX9_restore_37 : decode cX9_restore 37 = .ok (.iconst 0, 1) := by decide +kernel
theorem dX9_restore_38 : decode cX9_restore 38 = .ok (.putfield 54, 3) := by decide +kernel
theorem dX9_restore_41 : decode cX9_restore 41 = .ok (.aload_n 0, 1) := by decide +kernel
theorem dX9_restore_42 : decode cX9_restore 42 = .ok (.invokevirtual 108, 3) := by decide +kernel
theorem dX9_restore_45 : decode cX9_restore 45 = .ok (.ireturn, 1) := by decide +kernel

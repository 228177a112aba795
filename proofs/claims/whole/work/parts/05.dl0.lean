theorem d_L_solve_0 : decode b_L_solve 0 = .ok (.aload_n 2, 1) := by decide +kernel
theorem d_L_solve_1 : decode b_L_solve 1 = .ok (.iconst 0, 1) := by decide +kernel
theorem d_L_solve_2 : decode b_L_solve 2 = .ok (.aload_n 0, 1) := by decide +kernel
theorem d_L_solve_3 : decode b_L_solve 3 = .ok (.iload_n 1, 1) := by decide +kernel
theorem d_L_solve_4 : decode b_L_solve 4 = .ok (.invokevirtual 7, 3) := by decide +kernel
theorem d_L_solve_7 : decode b_L_solve 7 = .ok (.i2l, 1) := by decide +kernel
theorem d_L_solve_8 : decode b_L_solve 8 = .ok (.lastore, 1) := by decide +kernel
theorem d_L_solve_9 : decode b_L_solve 9 = .ok (.goto 9, 3) := by decide +kernel
theorem d_L_solve_12 : decode b_L_solve 12 = .ok (.astore_n 3, 1) := by decide +kernel
theorem d_L_solve_13 : decode b_L_solve 13 = .ok (.iconst 1, 1) := by decide +kernel
theorem d_L_solve_14 : decode b_L_solve 14 = .ok (.ireturn, 1) := by decide +kernel
theorem d_L_solve_15 : decode b_L_solve 15 = .ok (.astore_n 3, 1) := by decide +kernel
theorem d_L_solve_16 : decode b_L_solve 16 = .ok (.iconst 2, 1) := by decide +kernel
theorem d_L_solve_17 : decode b_L_solve 17 = .ok (.ireturn, 1) := by decide +kernel
theorem d_L_solve_18 : decode b_L_solve 18 = .ok (.iconst 0, 1) := by decide +kernel
theorem d_L_solve_19 : decode b_L_solve 19 = .ok (.ireturn, 1) := by decide +kernel
theorem d_L_core_0 : decode b_L_core 0 = .ok (.aload_n 2, 1) := by decide +kernel
theorem d_L_core_1 : decode b_L_core 1 = .ok (.iconst 0, 1) := by decide +kernel
theorem d_L_core_2 : decode b_L_core 2 = .ok (.aload_n 0, 1) := by decide +kernel
theorem d_L_core_3 : decode b_L_core 3 = .ok (.iload_n 1, 1) := by decide +kernel
theorem d_L_core_4 : decode b_L_core 4 = .ok (.invokevirtual 17, 3) := by decide +kernel
theorem d_L_core_7 : decode b_L_core 7 = .ok (.i2l, 1) := by decide +kernel
theorem d_L_core_8 : decode b_L_core 8 = .ok (.lastore, 1) := by decide +kernel
theorem d_L_core_9 : decode b_L_core 9 = .ok (.goto 6, 3) := by decide +kernel
theorem d_L_core_12 : decode b_L_core 12 = .ok (.astore_n 3, 1) := by decide +kernel
theorem d_L_core_13 : decode b_L_core 13 = .ok (.iconst 1, 1) := by decide +kernel
theorem d_L_core_14 : decode b_L_core 14 = .ok (.ireturn, 1) := by decide +kernel
theorem d_L_core_15 : decode b_L_core 15 = .ok (.iconst 0, 1) := by decide +kernel
theorem d_L_core_16 : decode b_L_core 16 = .ok (.ireturn, 1) := by decide +kernel
theorem d_L_law_0 : decode code 0 = .ok (.new 8, 3) := by decide +kernel
theorem d_L_law_3 : decode code 3 = .ok (.dup, 1) := by decide +kernel
theorem d_L_law_4 : decode code 4 = .ok (.invokespecial 22, 3) := by decide +kernel
theorem d_L_law_7 : decode code 7 = .ok (.astore_n 1, 1) := by decide +kernel
theorem d_L_law_8 : decode code 8 = .ok (.new 23, 3) := by decide +kernel
theorem d_L_law_11 : decode code 11 = .ok (.dup, 1) := by decide +kernel
theorem d_L_law_12 : decode code 12 = .ok (.invokespecial 25, 3) := by decide +kernel
theorem d_L_law_15 : decode code 15 = .ok (.astore_n 2, 1) := by decide +kernel
theorem d_L_law_16 : decode code 16 = .ok (.iconst 1, 1) := by decide +kernel
theorem d_L_law_17 : decode code 17 = .ok (.newarray .long, 2) := by decide +kernel
theorem d_L_law_19 : decode code 19 = .ok (.astore_n 3, 1) := by decide +kernel
theorem d_L_law_20 : decode code 20 = .ok (.iconst 0, 1) := by decide +kernel
theorem d_L_law_21 : decode code 21 = .ok (.istore 4, 2) := by decide +kernel
theorem d_L_law_23 : decode code 23 = .ok (.iload 4, 2) := by decide +kernel
theorem d_L_law_25 : decode code 25 = .ok (.aload_n 0, 1) := by decide +kernel
theorem d_L_law_26 : decode code 26 = .ok (.arraylength, 1) := by decide +kernel
theorem d_L_law_27 : decode code 27 = .ok (.bipush 6, 2) := by decide +kernel
theorem d_L_law_29 : decode code 29 = .ok (.isub, 1) := by decide +kernel
theorem d_L_law_30 : decode code 30 = .ok (.if_icmp .gt 579, 3) := by decide +kernel
theorem d_L_law_33 : decode code 33 = .ok (.aload_n 0, 1) := by decide +kernel
theorem d_L_law_34 : decode code 34 = .ok (.iload 4, 2) := by decide +kernel
theorem d_L_law_36 : decode code 36 = .ok (.iaload, 1) := by decide +kernel
theorem d_L_law_37 : decode code 37 = .ok (.bipush 15, 2) := by decide +kernel
theorem d_L_law_39 : decode code 39 = .ok (.iand, 1) := by decide +kernel
theorem d_L_law_40 : decode code 40 = .ok (.tableswitch 563 0 12 #[68, 105, 178, 215, 276, 325, 350, 406, 419, 444, 457, 482, 538], 68) := by decide +kernel
theorem d_L_law_108 : decode code 108 = .ok (.aload_n 1, 1) := by decide +kernel
theorem d_L_law_109 : decode code 109 = .ok (.aload_n 0, 1) := by decide +kernel
theorem d_L_law_110 : decode code 110 = .ok (.iload 4, 2) := by decide +kernel
theorem d_L_law_112 : decode code 112 = .ok (.iconst 1, 1) := by decide +kernel
theorem d_L_law_113 : decode code 113 = .ok (.iadd, 1) := by decide +kernel
theorem d_L_law_114 : decode code 114 = .ok (.iaload, 1) := by decide +kernel
theorem d_L_law_115 : decode code 115 = .ok (.aload_n 0, 1) := by decide +kernel
theorem d_L_law_116 : decode code 116 = .ok (.iload 4, 2) := by decide +kernel
theorem d_L_law_118 : decode code 118 = .ok (.iconst 2, 1) := by decide +kernel
theorem d_L_law_119 : decode code 119 = .ok (.iadd, 1) := by decide +kernel
theorem d_L_law_120 : decode code 120 = .ok (.iaload, 1) := by decide +kernel
theorem d_L_law_121 : decode code 121 = .ok (.invokevirtual 26, 3) := by decide +kernel
theorem d_L_law_124 : decode code 124 = .ok (.aload_n 2, 1) := by decide +kernel
theorem d_L_law_125 : decode code 125 = .ok (.aload_n 0, 1) := by decide +kernel
theorem d_L_law_126 : decode code 126 = .ok (.iload 4, 2) := by decide +kernel
theorem d_L_law_128 : decode code 128 = .ok (.iconst 1, 1) := by decide +kernel
theorem d_L_law_129 : decode code 129 = .ok (.iadd, 1) := by decide +kernel
theorem d_L_law_130 : decode code 130 = .ok (.iaload, 1) := by decide +kernel
theorem d_L_law_131 : decode code 131 = .ok (.aload_n 0, 1) := by decide +kernel
theorem d_L_law_132 : decode code 132 = .ok (.iload 4, 2) := by decide +kernel
theorem d_L_law_134 : decode code 134 = .ok (.iconst 2, 1) := by decide +kernel
theorem d_L_law_135 : decode code 135 = .ok (.iadd, 1) := by decide +kernel
theorem d_L_law_136 : decode code 136 = .ok (.iaload, 1) := by decide +kernel
theorem d_L_law_137 : decode code 137 = .ok (.invokevirtual 30, 3) := by decide +kernel
theorem d_L_law_140 : decode code 140 = .ok (.if_icmp .eq 463, 3) := by decide +kernel
theorem d_L_law_143 : decode code 143 = .ok (.iconst 0, 1) := by decide +kernel
theorem d_L_law_144 : decode code 144 = .ok (.ireturn, 1) := by decide +kernel
theorem d_L_law_145 : decode code 145 = .ok (.aload_n 1, 1) := by decide +kernel
theorem d_L_law_146 : decode code 146 = .ok (.aload_n 0, 1) := by decide +kernel
theorem d_L_law_147 : decode code 147 = .ok (.iload 4, 2) := by decide +kernel
theorem d_L_law_149 : decode code 149 = .ok (.iconst 1, 1) := by decide +kernel
theorem d_L_law_150 : decode code 150 = .ok (.iadd, 1) := by decide +kernel
theorem d_L_law_151 : decode code 151 = .ok (.iaload, 1) := by decide +kernel
theorem d_L_law_152 : decode code 152 = .ok (.aload_n 0, 1) := by decide +kernel
theorem d_L_law_153 : decode code 153 = .ok (.iload 4, 2) := by decide +kernel
theorem d_L_law_155 : decode code 155 = .ok (.iconst 2, 1) := by decide +kernel
theorem d_L_law_156 : decode code 156 = .ok (.iadd, 1) := by decide +kernel
theorem d_L_law_157 : decode code 157 = .ok (.iaload, 1) := by decide +kernel
theorem d_L_law_158 : decode code 158 = .ok (.aload_n 0, 1) := by decide +kernel
theorem d_L_law_159 : decode code 159 = .ok (.iload 4, 2) := by decide +kernel
theorem d_L_law_161 : decode code 161 = .ok (.iconst 3, 1) := by decide +kernel
theorem d_L_law_162 : decode code 162 = .ok (.iadd, 1) := by decide +kernel
theorem d_L_law_163 : decode code 163 = .ok (.iaload, 1) := by decide +kernel
theorem d_L_law_164 : decode code 164 = .ok (.aload_n 0, 1) := by decide +kernel
theorem d_L_law_165 : decode code 165 = .ok (.iload 4, 2) := by decide +kernel
theorem d_L_law_167 : decode code 167 = .ok (.iconst 4, 1) := by decide +kernel
theorem d_L_law_168 : decode code 168 = .ok (.iadd, 1) := by decide +kernel
theorem d_L_law_169 : decode code 169 = .ok (.iaload, 1) := by decide +kernel
theorem d_L_law_170 : decode code 170 = .ok (.aload_n 0, 1) := by decide +kernel
theorem d_L_law_171 : decode code 171 = .ok (.iload 4, 2) := by decide +kernel
theorem d_L_law_173 : decode code 173 = .ok (.iconst 5, 1) := by decide +kernel
theorem d_L_law_174 : decode code 174 = .ok (.iadd, 1) := by decide +kernel
theorem d_L_law_175 : decode code 175 = .ok (.iaload, 1) := by decide +kernel
theorem d_L_law_176 : decode code 176 = .ok (.invokevirtual 31, 3) := by decide +kernel
theorem d_L_law_179 : decode code 179 = .ok (.aload_n 2, 1) := by decide +kernel
theorem d_L_law_180 : decode code 180 = .ok (.aload_n 0, 1) := by decide +kernel
theorem d_L_law_181 : decode code 181 = .ok (.iload 4, 2) := by decide +kernel
theorem d_L_law_183 : decode code 183 = .ok (.iconst 1, 1) := by decide +kernel
theorem d_L_law_184 : decode code 184 = .ok (.iadd, 1) := by decide +kernel
theorem d_L_law_185 : decode code 185 = .ok (.iaload, 1) := by decide +kernel
theorem d_L_law_186 : decode code 186 = .ok (.aload_n 0, 1) := by decide +kernel
theorem d_L_law_187 : decode code 187 = .ok (.iload 4, 2) := by decide +kernel
theorem d_L_law_189 : decode code 189 = .ok (.iconst 2, 1) := by decide +kernel
theorem d_L_law_190 : decode code 190 = .ok (.iadd, 1) := by decide +kernel
theorem d_L_law_191 : decode code 191 = .ok (.iaload, 1) := by decide +kernel
theorem d_L_law_192 : decode code 192 = .ok (.aload_n 0, 1) := by decide +kernel
theorem d_L_law_193 : decode code 193 = .ok (.iload 4, 2) := by decide +kernel
theorem d_L_law_195 : decode code 195 = .ok (.iconst 3, 1) := by decide +kernel
theorem d_L_law_196 : decode code 196 = .ok (.iadd, 1) := by decide +kernel
theorem d_L_law_197 : decode code 197 = .ok (.iaload, 1) := by decide +kernel
theorem d_L_law_198 : decode code 198 = .ok (.aload_n 0, 1) := by decide +kernel
theorem d_L_law_199 : decode code 199 = .ok (.iload 4, 2) := by decide +kernel
theorem d_L_law_201 : decode code 201 = .ok (.iconst 4, 1) := by decide +kernel
theorem d_L_law_202 : decode code 202 = .ok (.iadd, 1) := by decide +kernel
theorem d_L_law_203 : decode code 203 = .ok (.iaload, 1) := by decide +kernel
theorem d_L_law_204 : decode code 204 = .ok (.aload_n 0, 1) := by decide +kernel
theorem d_L_law_205 : decode code 205 = .ok (.iload 4, 2) := by decide +kernel
theorem d_L_law_207 : decode code 207 = .ok (.iconst 5, 1) := by decide +kernel
theorem d_L_law_208 : decode code 208 = .ok (.iadd, 1) := by decide +kernel
theorem d_L_law_209 : decode code 209 = .ok (.iaload, 1) := by decide +kernel
theorem d_L_law_210 : decode code 210 = .ok (.invokevirtual 35, 3) := by decide +kernel
theorem d_L_law_213 : decode code 213 = .ok (.if_icmp .eq 390, 3) := by decide +kernel
theorem d_L_law_216 : decode code 216 = .ok (.iconst 0, 1) := by decide +kernel
theorem d_L_law_217 : decode code 217 = .ok (.ireturn, 1) := by decide +kernel
theorem d_L_law_218 : decode code 218 = .ok (.aload_n 1, 1) := by decide +kernel
theorem d_L_law_219 : decode code 219 = .ok (.aload_n 0, 1) := by decide +kernel
theorem d_L_law_220 : decode code 220 = .ok (.iload 4, 2) := by decide +kernel
theorem d_L_law_222 : decode code 222 = .ok (.iconst 1, 1) := by decide +kernel
theorem d_L_law_223 : decode code 223 = .ok (.iadd, 1) := by decide +kernel
theorem d_L_law_224 : decode code 224 = .ok (.iaload, 1) := by decide +kernel
theorem d_L_law_225 : decode code 225 = .ok (.aload_n 0, 1) := by decide +kernel
theorem d_L_law_226 : decode code 226 = .ok (.iload 4, 2) := by decide +kernel
theorem d_L_law_228 : decode code 228 = .ok (.iconst 2, 1) := by decide +kernel
theorem d_L_law_229 : decode code 229 = .ok (.iadd, 1) := by decide +kernel
theorem d_L_law_230 : decode code 230 = .ok (.iaload, 1) := by decide +kernel
theorem d_L_law_231 : decode code 231 = .ok (.invokevirtual 36, 3) := by decide +kernel
theorem d_L_law_234 : decode code 234 = .ok (.aload_n 2, 1) := by decide +kernel
theorem d_L_law_235 : decode code 235 = .ok (.aload_n 0, 1) := by decide +kernel
theorem d_L_law_236 : decode code 236 = .ok (.iload 4, 2) := by decide +kernel
theorem d_L_law_238 : decode code 238 = .ok (.iconst 1, 1) := by decide +kernel
theorem d_L_law_239 : decode code 239 = .ok (.iadd, 1) := by decide +kernel
theorem d_L_law_240 : decode code 240 = .ok (.iaload, 1) := by decide +kernel
theorem d_L_law_241 : decode code 241 = .ok (.aload_n 0, 1) := by decide +kernel
theorem d_L_law_242 : decode code 242 = .ok (.iload 4, 2) := by decide +kernel
theorem d_L_law_244 : decode code 244 = .ok (.iconst 2, 1) := by decide +kernel
theorem d_L_law_245 : decode code 245 = .ok (.iadd, 1) := by decide +kernel
theorem d_L_law_246 : decode code 246 = .ok (.iaload, 1) := by decide +kernel
theorem d_L_law_247 : decode code 247 = .ok (.invokevirtual 39, 3) := by decide +kernel
theorem d_L_law_250 : decode code 250 = .ok (.if_icmp .eq 353, 3) := by decide +kernel
theorem d_L_law_253 : decode code 253 = .ok (.iconst 0, 1) := by decide +kernel
theorem d_L_law_254 : decode code 254 = .ok (.ireturn, 1) := by decide +kernel
theorem d_L_law_255 : decode code 255 = .ok (.aload_n 1, 1) := by decide +kernel
theorem d_L_law_256 : decode code 256 = .ok (.aload_n 0, 1) := by decide +kernel
theorem d_L_law_257 : decode code 257 = .ok (.iload 4, 2) := by decide +kernel
theorem d_L_law_259 : decode code 259 = .ok (.iconst 1, 1) := by decide +kernel
theorem d_L_law_260 : decode code 260 = .ok (.iadd, 1) := by decide +kernel
theorem d_L_law_261 : decode code 261 = .ok (.iaload, 1) := by decide +kernel
theorem d_L_law_262 : decode code 262 = .ok (.aload_n 0, 1) := by decide +kernel
theorem d_L_law_263 : decode code 263 = .ok (.iload 4, 2) := by decide +kernel
theorem d_L_law_265 : decode code 265 = .ok (.iconst 2, 1) := by decide +kernel
theorem d_L_law_266 : decode code 266 = .ok (.iadd, 1) := by decide +kernel
theorem d_L_law_267 : decode code 267 = .ok (.iaload, 1) := by decide +kernel
theorem d_L_law_268 : decode code 268 = .ok (.aload_n 0, 1) := by decide +kernel
theorem d_L_law_269 : decode code 269 = .ok (.iload 4, 2) := by decide +kernel
theorem d_L_law_271 : decode code 271 = .ok (.iconst 3, 1) := by decide +kernel
theorem d_L_law_272 : decode code 272 = .ok (.iadd, 1) := by decide +kernel
theorem d_L_law_273 : decode code 273 = .ok (.iaload, 1) := by decide +kernel
theorem d_L_law_274 : decode code 274 = .ok (.aload_n 0, 1) := by decide +kernel
theorem d_L_law_275 : decode code 275 = .ok (.iload 4, 2) := by decide +kernel
theorem d_L_law_277 : decode code 277 = .ok (.iconst 4, 1) := by decide +kernel
theorem d_L_law_278 : decode code 278 = .ok (.iadd, 1) := by decide +kernel
theorem d_L_law_279 : decode code 279 = .ok (.iaload, 1) := by decide +kernel
theorem d_L_law_280 : decode code 280 = .ok (.invokevirtual 40, 3) := by decide +kernel
theorem d_L_law_283 : decode code 283 = .ok (.aload_n 2, 1) := by decide +kernel
theorem d_L_law_284 : decode code 284 = .ok (.aload_n 0, 1) := by decide +kernel
theorem d_L_law_285 : decode code 285 = .ok (.iload 4, 2) := by decide +kernel
theorem d_L_law_287 : decode code 287 = .ok (.iconst 1, 1) := by decide +kernel
theorem d_L_law_288 : decode code 288 = .ok (.iadd, 1) := by decide +kernel
theorem d_L_law_289 : decode code 289 = .ok (.iaload, 1) := by decide +kernel
theorem d_L_law_290 : decode code 290 = .ok (.aload_n 0, 1) := by decide +kernel
theorem d_L_law_291 : decode code 291 = .ok (.iload 4, 2) := by decide +kernel
theorem d_L_law_293 : decode code 293 = .ok (.iconst 2, 1) := by decide +kernel
theorem d_L_law_294 : decode code 294 = .ok (.iadd, 1) := by decide +kernel
theorem d_L_law_295 : decode code 295 = .ok (.iaload, 1) := by decide +kernel
theorem d_L_law_296 : decode code 296 = .ok (.aload_n 0, 1) := by decide +kernel
theorem d_L_law_297 : decode code 297 = .ok (.iload 4, 2) := by decide +kernel
theorem d_L_law_299 : decode code 299 = .ok (.iconst 3, 1) := by decide +kernel
theorem d_L_law_300 : decode code 300 = .ok (.iadd, 1) := by decide +kernel
theorem d_L_law_301 : decode code 301 = .ok (.iaload, 1) := by decide +kernel
theorem d_L_law_302 : decode code 302 = .ok (.aload_n 0, 1) := by decide +kernel
theorem d_L_law_303 : decode code 303 = .ok (.iload 4, 2) := by decide +kernel
theorem d_L_law_305 : decode code 305 = .ok (.iconst 4, 1) := by decide +kernel
theorem d_L_law_306 : decode code 306 = .ok (.iadd, 1) := by decide +kernel
theorem d_L_law_307 : decode code 307 = .ok (.iaload, 1) := by decide +kernel
theorem d_L_law_308 : decode code 308 = .ok (.invokevirtual 44, 3) := by decide +kernel
theorem d_L_law_311 : decode code 311 = .ok (.if_icmp .eq 292, 3) := by decide +kernel
theorem d_L_law_314 : decode code 314 = .ok (.iconst 0, 1) := by decide +kernel
theorem d_L_law_315 : decode code 315 = .ok (.ireturn, 1) := by decide +kernel
theorem d_L_law_316 : decode code 316 = .ok (.aload_n 1, 1) := by decide +kernel
theorem d_L_law_317 : decode code 317 = .ok (.aload_n 0, 1) := by decide +kernel
theorem d_L_law_318 : decode code 318 = .ok (.iload 4, 2) := by decide +kernel
theorem d_L_law_320 : decode code 320 = .ok (.iconst 1, 1) := by decide +kernel
theorem d_L_law_321 : decode code 321 = .ok (.iadd, 1) := by decide +kernel
theorem d_L_law_322 : decode code 322 = .ok (.iaload, 1) := by decide +kernel
theorem d_L_law_323 : decode code 323 = .ok (.aload_n 0, 1) := by decide +kernel
theorem d_L_law_324 : decode code 324 = .ok (.iload 4, 2) := by decide +kernel
theorem d_L_law_326 : decode code 326 = .ok (.iconst 2, 1) := by decide +kernel
theorem d_L_law_327 : decode code 327 = .ok (.iadd, 1) := by decide +kernel
theorem d_L_law_328 : decode code 328 = .ok (.iaload, 1) := by decide +kernel
theorem d_L_law_329 : decode code 329 = .ok (.aload_n 0, 1) := by decide +kernel
theorem d_L_law_330 : decode code 330 = .ok (.iload 4, 2) := by decide +kernel
theorem d_L_law_332 : decode code 332 = .ok (.iconst 3, 1) := by decide +kernel
theorem d_L_law_333 : decode code 333 = .ok (.iadd, 1) := by decide +kernel
theorem d_L_law_334 : decode code 334 = .ok (.iaload, 1) := by decide +kernel
theorem d_L_law_335 : decode code 335 = .ok (.invokevirtual 45, 3) := by decide +kernel
theorem d_L_law_338 : decode code 338 = .ok (.aload_n 2, 1) := by decide +kernel
theorem d_L_law_339 : decode code 339 = .ok (.aload_n 0, 1) := by decide +kernel
theorem d_L_law_340 : decode code 340 = .ok (.iload 4, 2) := by decide +kernel
theorem d_L_law_342 : decode code 342 = .ok (.iconst 1, 1) := by decide +kernel
theorem d_L_law_343 : decode code 343 = .ok (.iadd, 1) := by decide +kernel
theorem d_L_law_344 : decode code 344 = .ok (.iaload, 1) := by decide +kernel
theorem d_L_law_345 : decode code 345 = .ok (.aload_n 0, 1) := by decide +kernel
theorem d_L_law_346 : decode code 346 = .ok (.iload 4, 2) := by decide +kernel
theorem d_L_law_348 : decode code 348 = .ok (.iconst 2, 1) := by decide +kernel
theorem d_L_law_349 : decode code 349 = .ok (.iadd, 1) := by decide +kernel
theorem d_L_law_350 : decode code 350 = .ok (.iaload, 1) := by decide +kernel
theorem d_L_law_351 : decode code 351 = .ok (.aload_n 0, 1) := by decide +kernel
theorem d_L_law_352 : decode code 352 = .ok (.iload 4, 2) := by decide +kernel
theorem d_L_law_354 : decode code 354 = .ok (.iconst 3, 1) := by decide +kernel
theorem d_L_law_355 : decode code 355 = .ok (.iadd, 1) := by decide +kernel
theorem d_L_law_356 : decode code 356 = .ok (.iaload, 1) := by decide +kernel
theorem d_L_law_357 : decode code 357 = .ok (.invokevirtual 49, 3) := by decide +kernel
theorem d_L_law_360 : decode code 360 = .ok (.if_icmp .eq 243, 3) := by decide +kernel
theorem d_L_law_363 : decode code 363 = .ok (.iconst 0, 1) := by decide +kernel
theorem d_L_law_364 : decode code 364 = .ok (.ireturn, 1) := by decide +kernel
theorem d_L_law_365 : decode code 365 = .ok (.aload_n 1, 1) := by decide +kernel
theorem d_L_law_366 : decode code 366 = .ok (.aload_n 0, 1) := by decide +kernel
theorem d_L_law_367 : decode code 367 = .ok (.iload 4, 2) := by decide +kernel
theorem d_L_law_369 : decode code 369 = .ok (.iconst 1, 1) := by decide +kernel
theorem d_L_law_370 : decode code 370 = .ok (.iadd, 1) := by decide +kernel
theorem d_L_law_371 : decode code 371 = .ok (.iaload, 1) := by decide +kernel
theorem d_L_law_372 : decode code 372 = .ok (.invokevirtual 50, 3) := by decide +kernel
theorem d_L_law_375 : decode code 375 = .ok (.aload_n 2, 1) := by decide +kernel
theorem d_L_law_376 : decode code 376 = .ok (.aload_n 0, 1) := by decide +kernel
theorem d_L_law_377 : decode code 377 = .ok (.iload 4, 2) := by decide +kernel
theorem d_L_law_379 : decode code 379 = .ok (.iconst 1, 1) := by decide +kernel
theorem d_L_law_380 : decode code 380 = .ok (.iadd, 1) := by decide +kernel
theorem d_L_law_381 : decode code 381 = .ok (.iaload, 1) := by decide +kernel
theorem d_L_law_382 : decode code 382 = .ok (.invokevirtual 54, 3) := by decide +kernel
theorem d_L_law_385 : decode code 385 = .ok (.if_icmp .eq 218, 3) := by decide +kernel
theorem d_L_law_388 : decode code 388 = .ok (.iconst 0, 1) := by decide +kernel
theorem d_L_law_389 : decode code 389 = .ok (.ireturn, 1) := by decide +kernel
theorem d_L_law_390 : decode code 390 = .ok (.aload_n 1, 1) := by decide +kernel
theorem d_L_law_391 : decode code 391 = .ok (.aload_n 0, 1) := by decide +kernel
theorem d_L_law_392 : decode code 392 = .ok (.iload 4, 2) := by decide +kernel
theorem d_L_law_394 : decode code 394 = .ok (.iconst 1, 1) := by decide +kernel
theorem d_L_law_395 : decode code 395 = .ok (.iadd, 1) := by decide +kernel
theorem d_L_law_396 : decode code 396 = .ok (.iaload, 1) := by decide +kernel
theorem d_L_law_397 : decode code 397 = .ok (.aload_n 3, 1) := by decide +kernel
theorem d_L_law_398 : decode code 398 = .ok (.invokestatic 55, 3) := by decide +kernel
theorem d_L_law_401 : decode code 401 = .ok (.istore 5, 2) := by decide +kernel
theorem d_L_law_403 : decode code 403 = .ok (.aload_n 2, 1) := by decide +kernel
theorem d_L_law_404 : decode code 404 = .ok (.aload_n 0, 1) := by decide +kernel
theorem d_L_law_405 : decode code 405 = .ok (.iload 4, 2) := by decide +kernel
theorem d_L_law_407 : decode code 407 = .ok (.iconst 1, 1) := by decide +kernel
theorem d_L_law_408 : decode code 408 = .ok (.iadd, 1) := by decide +kernel
theorem d_L_law_409 : decode code 409 = .ok (.iaload, 1) := by decide +kernel
theorem d_L_law_410 : decode code 410 = .ok (.invokevirtual 60, 3) := by decide +kernel
theorem d_L_law_413 : decode code 413 = .ok (.istore 6, 2) := by decide +kernel
theorem d_L_law_415 : decode code 415 = .ok (.aload_n 2, 1) := by decide +kernel
theorem d_L_law_416 : decode code 416 = .ok (.invokevirtual 61, 3) := by decide +kernel
theorem d_L_law_419 : decode code 419 = .ok (.iload 5, 2) := by decide +kernel
theorem d_L_law_421 : decode code 421 = .ok (.if_icmp .eq 5, 3) := by decide +kernel
theorem d_L_law_424 : decode code 424 = .ok (.iconst 0, 1) := by decide +kernel
theorem d_L_law_425 : decode code 425 = .ok (.ireturn, 1) := by decide +kernel
theorem d_L_law_426 : decode code 426 = .ok (.iload 5, 2) := by decide +kernel
theorem d_L_law_428 : decode code 428 = .ok (.ifCond .ne 15, 3) := by decide +kernel
theorem d_L_law_431 : decode code 431 = .ok (.aload_n 3, 1) := by decide +kernel
theorem d_L_law_432 : decode code 432 = .ok (.iconst 0, 1) := by decide +kernel
theorem d_L_law_433 : decode code 433 = .ok (.laload, 1) := by decide +kernel
theorem d_L_law_434 : decode code 434 = .ok (.iload 6, 2) := by decide +kernel
theorem d_L_law_436 : decode code 436 = .ok (.i2l, 1) := by decide +kernel
theorem d_L_law_437 : decode code 437 = .ok (.lcmp, 1) := by decide +kernel
theorem d_L_law_438 : decode code 438 = .ok (.ifCond .eq 5, 3) := by decide +kernel
theorem d_L_law_441 : decode code 441 = .ok (.iconst 0, 1) := by decide +kernel
theorem d_L_law_442 : decode code 442 = .ok (.ireturn, 1) := by decide +kernel
theorem d_L_law_443 : decode code 443 = .ok (.goto 160, 3) := by decide +kernel
theorem d_L_law_446 : decode code 446 = .ok (.aload_n 1, 1) := by decide +kernel
theorem d_L_law_447 : decode code 447 = .ok (.invokevirtual 65, 3) := by decide +kernel
theorem d_L_law_450 : decode code 450 = .ok (.aload_n 2, 1) := by decide +kernel
theorem d_L_law_451 : decode code 451 = .ok (.invokevirtual 68, 3) := by decide +kernel
theorem d_L_law_454 : decode code 454 = .ok (.if_icmp .eq 149, 3) := by decide +kernel
theorem d_L_law_457 : decode code 457 = .ok (.iconst 0, 1) := by decide +kernel
theorem d_L_law_458 : decode code 458 = .ok (.ireturn, 1) := by decide +kernel
theorem d_L_law_459 : decode code 459 = .ok (.aload_n 1, 1) := by decide +kernel
theorem d_L_law_460 : decode code 460 = .ok (.aload_n 0, 1) := by decide +kernel
theorem d_L_law_461 : decode code 461 = .ok (.iload 4, 2) := by decide +kernel
theorem d_L_law_463 : decode code 463 = .ok (.iconst 1, 1) := by decide +kernel
theorem d_L_law_464 : decode code 464 = .ok (.iadd, 1) := by decide +kernel
theorem d_L_law_465 : decode code 465 = .ok (.iaload, 1) := by decide +kernel
theorem d_L_law_466 : decode code 466 = .ok (.invokevirtual 69, 3) := by decide +kernel
theorem d_L_law_469 : decode code 469 = .ok (.aload_n 2, 1) := by decide +kernel
theorem d_L_law_470 : decode code 470 = .ok (.aload_n 0, 1) := by decide +kernel
theorem d_L_law_471 : decode code 471 = .ok (.iload 4, 2) := by decide +kernel
theorem d_L_law_473 : decode code 473 = .ok (.iconst 1, 1) := by decide +kernel
theorem d_L_law_474 : decode code 474 = .ok (.iadd, 1) := by decide +kernel
theorem d_L_law_475 : decode code 475 = .ok (.iaload, 1) := by decide +kernel
theorem d_L_law_476 : decode code 476 = .ok (.invokevirtual 72, 3) := by decide +kernel
theorem d_L_law_479 : decode code 479 = .ok (.if_icmp .eq 124, 3) := by decide +kernel
theorem d_L_law_482 : decode code 482 = .ok (.iconst 0, 1) := by decide +kernel
theorem d_L_law_483 : decode code 483 = .ok (.ireturn, 1) := by decide +kernel
theorem d_L_law_484 : decode code 484 = .ok (.aload_n 1, 1) := by decide +kernel
theorem d_L_law_485 : decode code 485 = .ok (.invokevirtual 73, 3) := by decide +kernel
theorem d_L_law_488 : decode code 488 = .ok (.aload_n 2, 1) := by decide +kernel
theorem d_L_law_489 : decode code 489 = .ok (.invokevirtual 76, 3) := by decide +kernel
theorem d_L_law_492 : decode code 492 = .ok (.if_icmp .eq 111, 3) := by decide +kernel
theorem d_L_law_495 : decode code 495 = .ok (.iconst 0, 1) := by decide +kernel
theorem d_L_law_496 : decode code 496 = .ok (.ireturn, 1) := by decide +kernel
theorem d_L_law_497 : decode code 497 = .ok (.aload_n 1, 1) := by decide +kernel
theorem d_L_law_498 : decode code 498 = .ok (.aload_n 0, 1) := by decide +kernel
theorem d_L_law_499 : decode code 499 = .ok (.iload 4, 2) := by decide +kernel
theorem d_L_law_501 : decode code 501 = .ok (.iconst 1, 1) := by decide +kernel
theorem d_L_law_502 : decode code 502 = .ok (.iadd, 1) := by decide +kernel
theorem d_L_law_503 : decode code 503 = .ok (.iaload, 1) := by decide +kernel
theorem d_L_law_504 : decode code 504 = .ok (.invokevirtual 77, 3) := by decide +kernel
theorem d_L_law_507 : decode code 507 = .ok (.aload_n 2, 1) := by decide +kernel
theorem d_L_law_508 : decode code 508 = .ok (.aload_n 0, 1) := by decide +kernel
theorem d_L_law_509 : decode code 509 = .ok (.iload 4, 2) := by decide +kernel
theorem d_L_law_511 : decode code 511 = .ok (.iconst 1, 1) := by decide +kernel
theorem d_L_law_512 : decode code 512 = .ok (.iadd, 1) := by decide +kernel
theorem d_L_law_513 : decode code 513 = .ok (.iaload, 1) := by decide +kernel
theorem d_L_law_514 : decode code 514 = .ok (.invokevirtual 80, 3) := by decide +kernel
theorem d_L_law_517 : decode code 517 = .ok (.if_icmp .eq 86, 3) := by decide +kernel
theorem d_L_law_520 : decode code 520 = .ok (.iconst 0, 1) := by decide +kernel
theorem d_L_law_521 : decode code 521 = .ok (.ireturn, 1) := by decide +kernel
theorem d_L_law_522 : decode code 522 = .ok (.aload_n 1, 1) := by decide +kernel
theorem d_L_law_523 : decode code 523 = .ok (.aload_n 0, 1) := by decide +kernel
theorem d_L_law_524 : decode code 524 = .ok (.iload 4, 2) := by decide +kernel
theorem d_L_law_526 : decode code 526 = .ok (.iconst 1, 1) := by decide +kernel
theorem d_L_law_527 : decode code 527 = .ok (.iadd, 1) := by decide +kernel
theorem d_L_law_528 : decode code 528 = .ok (.iaload, 1) := by decide +kernel
theorem d_L_law_529 : decode code 529 = .ok (.aload_n 3, 1) := by decide +kernel
theorem d_L_law_530 : decode code 530 = .ok (.invokestatic 81, 3) := by decide +kernel
theorem d_L_law_533 : decode code 533 = .ok (.istore 5, 2) := by decide +kernel
theorem d_L_law_535 : decode code 535 = .ok (.aload_n 2, 1) := by decide +kernel
theorem d_L_law_536 : decode code 536 = .ok (.aload_n 0, 1) := by decide +kernel
theorem d_L_law_537 : decode code 537 = .ok (.iload 4, 2) := by decide +kernel
theorem d_L_law_539 : decode code 539 = .ok (.iconst 1, 1) := by decide +kernel
theorem d_L_law_540 : decode code 540 = .ok (.iadd, 1) := by decide +kernel
theorem d_L_law_541 : decode code 541 = .ok (.iaload, 1) := by decide +kernel
theorem d_L_law_542 : decode code 542 = .ok (.invokevirtual 83, 3) := by decide +kernel
theorem d_L_law_545 : decode code 545 = .ok (.istore 6, 2) := by decide +kernel
theorem d_L_law_547 : decode code 547 = .ok (.aload_n 2, 1) := by decide +kernel
theorem d_L_law_548 : decode code 548 = .ok (.invokevirtual 61, 3) := by decide +kernel
theorem d_L_law_551 : decode code 551 = .ok (.iload 5, 2) := by decide +kernel
theorem d_L_law_553 : decode code 553 = .ok (.if_icmp .eq 5, 3) := by decide +kernel
theorem d_L_law_556 : decode code 556 = .ok (.iconst 0, 1) := by decide +kernel
theorem d_L_law_557 : decode code 557 = .ok (.ireturn, 1) := by decide +kernel
theorem d_L_law_558 : decode code 558 = .ok (.iload 5, 2) := by decide +kernel
theorem d_L_law_560 : decode code 560 = .ok (.ifCond .ne 15, 3) := by decide +kernel
theorem d_L_law_563 : decode code 563 = .ok (.aload_n 3, 1) := by decide +kernel
theorem d_L_law_564 : decode code 564 = .ok (.iconst 0, 1) := by decide +kernel
theorem d_L_law_565 : decode code 565 = .ok (.laload, 1) := by decide +kernel
theorem d_L_law_566 : decode code 566 = .ok (.iload 6, 2) := by decide +kernel
theorem d_L_law_568 : decode code 568 = .ok (.i2l, 1) := by decide +kernel
theorem d_L_law_569 : decode code 569 = .ok (.lcmp, 1) := by decide +kernel
theorem d_L_law_570 : decode code 570 = .ok (.ifCond .eq 5, 3) := by decide +kernel
theorem d_L_law_573 : decode code 573 = .ok (.iconst 0, 1) := by decide +kernel
theorem d_L_law_574 : decode code 574 = .ok (.ireturn, 1) := by decide +kernel
theorem d_L_law_575 : decode code 575 = .ok (.goto 28, 3) := by decide +kernel
theorem d_L_law_578 : decode code 578 = .ok (.aload_n 1, 1) := by decide +kernel
theorem d_L_law_579 : decode code 579 = .ok (.aload_n 0, 1) := by decide +kernel
theorem d_L_law_580 : decode code 580 = .ok (.iload 4, 2) := by decide +kernel
theorem d_L_law_582 : decode code 582 = .ok (.iconst 1, 1) := by decide +kernel
theorem d_L_law_583 : decode code 583 = .ok (.iadd, 1) := by decide +kernel
theorem d_L_law_584 : decode code 584 = .ok (.iaload, 1) := by decide +kernel
theorem d_L_law_585 : decode code 585 = .ok (.invokevirtual 84, 3) := by decide +kernel
theorem d_L_law_588 : decode code 588 = .ok (.aload_n 2, 1) := by decide +kernel
theorem d_L_law_589 : decode code 589 = .ok (.aload_n 0, 1) := by decide +kernel
theorem d_L_law_590 : decode code 590 = .ok (.iload 4, 2) := by decide +kernel
theorem d_L_law_592 : decode code 592 = .ok (.iconst 1, 1) := by decide +kernel
theorem d_L_law_593 : decode code 593 = .ok (.iadd, 1) := by decide +kernel
theorem d_L_law_594 : decode code 594 = .ok (.iaload, 1) := by decide +kernel
theorem d_L_law_595 : decode code 595 = .ok (.invokevirtual 87, 3) := by decide +kernel
theorem d_L_law_598 : decode code 598 = .ok (.if_icmp .eq 5, 3) := by decide +kernel
theorem d_L_law_601 : decode code 601 = .ok (.iconst 0, 1) := by decide +kernel
theorem d_L_law_602 : decode code 602 = .ok (.ireturn, 1) := by decide +kernel
theorem d_L_law_603 : decode code 603 = .ok (.iinc 4 6, 3) := by decide +kernel
theorem d_L_law_606 : decode code 606 = .ok (.goto (-583), 3) := by decide +kernel
theorem d_L_law_609 : decode code 609 = .ok (.iconst 1, 1) := by decide +kernel
theorem d_L_law_610 : decode code 610 = .ok (.ireturn, 1) := by decide +kernel

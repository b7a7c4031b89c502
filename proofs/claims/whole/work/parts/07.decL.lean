theorem d_L_law_0 : decode code 0 = .ok (.new 7, 3) := by decide +kernel
theorem d_L_law_3 : decode code 3 = .ok (.dup, 1) := by decide +kernel
theorem d_L_law_4 : decode code 4 = .ok (.invokespecial 9, 3) := by decide +kernel
theorem d_L_law_7 : decode code 7 = .ok (.astore_n 1, 1) := by decide +kernel
theorem d_L_law_8 : decode code 8 = .ok (.new 10, 3) := by decide +kernel
theorem d_L_law_11 : decode code 11 = .ok (.dup, 1) := by decide +kernel
theorem d_L_law_12 : decode code 12 = .ok (.invokespecial 12, 3) := by decide +kernel
theorem d_L_law_15 : decode code 15 = .ok (.astore_n 2, 1) := by decide +kernel
theorem d_L_law_16 : decode code 16 = .ok (.iconst 0, 1) := by decide +kernel
theorem d_L_law_17 : decode code 17 = .ok (.istore_n 3, 1) := by decide +kernel
theorem d_L_law_18 : decode code 18 = .ok (.iload_n 3, 1) := by decide +kernel
theorem d_L_law_19 : decode code 19 = .ok (.aload_n 0, 1) := by decide +kernel
theorem d_L_law_20 : decode code 20 = .ok (.arraylength, 1) := by decide +kernel
theorem d_L_law_21 : decode code 21 = .ok (.bipush 6, 2) := by decide +kernel
theorem d_L_law_23 : decode code 23 = .ok (.isub, 1) := by decide +kernel
theorem d_L_law_24 : decode code 24 = .ok (.if_icmp .gt 443, 3) := by decide +kernel
theorem d_L_law_27 : decode code 27 = .ok (.aload_n 0, 1) := by decide +kernel
theorem d_L_law_28 : decode code 28 = .ok (.iload_n 3, 1) := by decide +kernel
theorem d_L_law_29 : decode code 29 = .ok (.iaload, 1) := by decide +kernel
theorem d_L_law_30 : decode code 30 = .ok (.bipush 15, 2) := by decide +kernel
theorem d_L_law_32 : decode code 32 = .ok (.iand, 1) := by decide +kernel
theorem d_L_law_33 : decode code 33 = .ok (.tableswitch 428 0 12 #[67, 110, 173, 196, 219, 242, 265, 288, 311, 324, 348, 382, 405], 67) := by decide +kernel
theorem d_L_law_100 : decode code 100 = .ok (.aload_n 1, 1) := by decide +kernel
theorem d_L_law_101 : decode code 101 = .ok (.aload_n 0, 1) := by decide +kernel
theorem d_L_law_102 : decode code 102 = .ok (.iload_n 3, 1) := by decide +kernel
theorem d_L_law_103 : decode code 103 = .ok (.iconst 1, 1) := by decide +kernel
theorem d_L_law_104 : decode code 104 = .ok (.iadd, 1) := by decide +kernel
theorem d_L_law_105 : decode code 105 = .ok (.iaload, 1) := by decide +kernel
theorem d_L_law_106 : decode code 106 = .ok (.aload_n 0, 1) := by decide +kernel
theorem d_L_law_107 : decode code 107 = .ok (.iload_n 3, 1) := by decide +kernel
theorem d_L_law_108 : decode code 108 = .ok (.iconst 2, 1) := by decide +kernel
theorem d_L_law_109 : decode code 109 = .ok (.iadd, 1) := by decide +kernel
theorem d_L_law_110 : decode code 110 = .ok (.iaload, 1) := by decide +kernel
theorem d_L_law_111 : decode code 111 = .ok (.aload_n 0, 1) := by decide +kernel
theorem d_L_law_112 : decode code 112 = .ok (.iload_n 3, 1) := by decide +kernel
theorem d_L_law_113 : decode code 113 = .ok (.iconst 3, 1) := by decide +kernel
theorem d_L_law_114 : decode code 114 = .ok (.iadd, 1) := by decide +kernel
theorem d_L_law_115 : decode code 115 = .ok (.iaload, 1) := by decide +kernel
theorem d_L_law_116 : decode code 116 = .ok (.invokevirtual 13, 3) := by decide +kernel
theorem d_L_law_119 : decode code 119 = .ok (.aload_n 2, 1) := by decide +kernel
theorem d_L_law_120 : decode code 120 = .ok (.aload_n 0, 1) := by decide +kernel
theorem d_L_law_121 : decode code 121 = .ok (.iload_n 3, 1) := by decide +kernel
theorem d_L_law_122 : decode code 122 = .ok (.iconst 1, 1) := by decide +kernel
theorem d_L_law_123 : decode code 123 = .ok (.iadd, 1) := by decide +kernel
theorem d_L_law_124 : decode code 124 = .ok (.iaload, 1) := by decide +kernel
theorem d_L_law_125 : decode code 125 = .ok (.aload_n 0, 1) := by decide +kernel
theorem d_L_law_126 : decode code 126 = .ok (.iload_n 3, 1) := by decide +kernel
theorem d_L_law_127 : decode code 127 = .ok (.iconst 2, 1) := by decide +kernel
theorem d_L_law_128 : decode code 128 = .ok (.iadd, 1) := by decide +kernel
theorem d_L_law_129 : decode code 129 = .ok (.iaload, 1) := by decide +kernel
theorem d_L_law_130 : decode code 130 = .ok (.aload_n 0, 1) := by decide +kernel
theorem d_L_law_131 : decode code 131 = .ok (.iload_n 3, 1) := by decide +kernel
theorem d_L_law_132 : decode code 132 = .ok (.iconst 3, 1) := by decide +kernel
theorem d_L_law_133 : decode code 133 = .ok (.iadd, 1) := by decide +kernel
theorem d_L_law_134 : decode code 134 = .ok (.iaload, 1) := by decide +kernel
theorem d_L_law_135 : decode code 135 = .ok (.invokevirtual 17, 3) := by decide +kernel
theorem d_L_law_138 : decode code 138 = .ok (.if_icmp .eq 323, 3) := by decide +kernel
theorem d_L_law_141 : decode code 141 = .ok (.iconst 0, 1) := by decide +kernel
theorem d_L_law_142 : decode code 142 = .ok (.ireturn, 1) := by decide +kernel
theorem d_L_law_143 : decode code 143 = .ok (.aload_n 1, 1) := by decide +kernel
theorem d_L_law_144 : decode code 144 = .ok (.aload_n 0, 1) := by decide +kernel
theorem d_L_law_145 : decode code 145 = .ok (.iload_n 3, 1) := by decide +kernel
theorem d_L_law_146 : decode code 146 = .ok (.iconst 1, 1) := by decide +kernel
theorem d_L_law_147 : decode code 147 = .ok (.iadd, 1) := by decide +kernel
theorem d_L_law_148 : decode code 148 = .ok (.iaload, 1) := by decide +kernel
theorem d_L_law_149 : decode code 149 = .ok (.aload_n 0, 1) := by decide +kernel
theorem d_L_law_150 : decode code 150 = .ok (.iload_n 3, 1) := by decide +kernel
theorem d_L_law_151 : decode code 151 = .ok (.iconst 2, 1) := by decide +kernel
theorem d_L_law_152 : decode code 152 = .ok (.iadd, 1) := by decide +kernel
theorem d_L_law_153 : decode code 153 = .ok (.iaload, 1) := by decide +kernel
theorem d_L_law_154 : decode code 154 = .ok (.aload_n 0, 1) := by decide +kernel
theorem d_L_law_155 : decode code 155 = .ok (.iload_n 3, 1) := by decide +kernel
theorem d_L_law_156 : decode code 156 = .ok (.iconst 3, 1) := by decide +kernel
theorem d_L_law_157 : decode code 157 = .ok (.iadd, 1) := by decide +kernel
theorem d_L_law_158 : decode code 158 = .ok (.iaload, 1) := by decide +kernel
theorem d_L_law_159 : decode code 159 = .ok (.aload_n 0, 1) := by decide +kernel
theorem d_L_law_160 : decode code 160 = .ok (.iload_n 3, 1) := by decide +kernel
theorem d_L_law_161 : decode code 161 = .ok (.iconst 4, 1) := by decide +kernel
theorem d_L_law_162 : decode code 162 = .ok (.iadd, 1) := by decide +kernel
theorem d_L_law_163 : decode code 163 = .ok (.iaload, 1) := by decide +kernel
theorem d_L_law_164 : decode code 164 = .ok (.aload_n 0, 1) := by decide +kernel
theorem d_L_law_165 : decode code 165 = .ok (.iload_n 3, 1) := by decide +kernel
theorem d_L_law_166 : decode code 166 = .ok (.iconst 5, 1) := by decide +kernel
theorem d_L_law_167 : decode code 167 = .ok (.iadd, 1) := by decide +kernel
theorem d_L_law_168 : decode code 168 = .ok (.iaload, 1) := by decide +kernel
theorem d_L_law_169 : decode code 169 = .ok (.invokevirtual 18, 3) := by decide +kernel
theorem d_L_law_172 : decode code 172 = .ok (.aload_n 2, 1) := by decide +kernel
theorem d_L_law_173 : decode code 173 = .ok (.aload_n 0, 1) := by decide +kernel
theorem d_L_law_174 : decode code 174 = .ok (.iload_n 3, 1) := by decide +kernel
theorem d_L_law_175 : decode code 175 = .ok (.iconst 1, 1) := by decide +kernel
theorem d_L_law_176 : decode code 176 = .ok (.iadd, 1) := by decide +kernel
theorem d_L_law_177 : decode code 177 = .ok (.iaload, 1) := by decide +kernel
theorem d_L_law_178 : decode code 178 = .ok (.aload_n 0, 1) := by decide +kernel
theorem d_L_law_179 : decode code 179 = .ok (.iload_n 3, 1) := by decide +kernel
theorem d_L_law_180 : decode code 180 = .ok (.iconst 2, 1) := by decide +kernel
theorem d_L_law_181 : decode code 181 = .ok (.iadd, 1) := by decide +kernel
theorem d_L_law_182 : decode code 182 = .ok (.iaload, 1) := by decide +kernel
theorem d_L_law_183 : decode code 183 = .ok (.aload_n 0, 1) := by decide +kernel
theorem d_L_law_184 : decode code 184 = .ok (.iload_n 3, 1) := by decide +kernel
theorem d_L_law_185 : decode code 185 = .ok (.iconst 3, 1) := by decide +kernel
theorem d_L_law_186 : decode code 186 = .ok (.iadd, 1) := by decide +kernel
theorem d_L_law_187 : decode code 187 = .ok (.iaload, 1) := by decide +kernel
theorem d_L_law_188 : decode code 188 = .ok (.aload_n 0, 1) := by decide +kernel
theorem d_L_law_189 : decode code 189 = .ok (.iload_n 3, 1) := by decide +kernel
theorem d_L_law_190 : decode code 190 = .ok (.iconst 4, 1) := by decide +kernel
theorem d_L_law_191 : decode code 191 = .ok (.iadd, 1) := by decide +kernel
theorem d_L_law_192 : decode code 192 = .ok (.iaload, 1) := by decide +kernel
theorem d_L_law_193 : decode code 193 = .ok (.aload_n 0, 1) := by decide +kernel
theorem d_L_law_194 : decode code 194 = .ok (.iload_n 3, 1) := by decide +kernel
theorem d_L_law_195 : decode code 195 = .ok (.iconst 5, 1) := by decide +kernel
theorem d_L_law_196 : decode code 196 = .ok (.iadd, 1) := by decide +kernel
theorem d_L_law_197 : decode code 197 = .ok (.iaload, 1) := by decide +kernel
theorem d_L_law_198 : decode code 198 = .ok (.invokevirtual 22, 3) := by decide +kernel
theorem d_L_law_201 : decode code 201 = .ok (.if_icmp .eq 260, 3) := by decide +kernel
theorem d_L_law_204 : decode code 204 = .ok (.iconst 0, 1) := by decide +kernel
theorem d_L_law_205 : decode code 205 = .ok (.ireturn, 1) := by decide +kernel
theorem d_L_law_206 : decode code 206 = .ok (.aload_n 1, 1) := by decide +kernel
theorem d_L_law_207 : decode code 207 = .ok (.aload_n 0, 1) := by decide +kernel
theorem d_L_law_208 : decode code 208 = .ok (.iload_n 3, 1) := by decide +kernel
theorem d_L_law_209 : decode code 209 = .ok (.iconst 1, 1) := by decide +kernel
theorem d_L_law_210 : decode code 210 = .ok (.iadd, 1) := by decide +kernel
theorem d_L_law_211 : decode code 211 = .ok (.iaload, 1) := by decide +kernel
theorem d_L_law_212 : decode code 212 = .ok (.invokevirtual 23, 3) := by decide +kernel
theorem d_L_law_215 : decode code 215 = .ok (.aload_n 2, 1) := by decide +kernel
theorem d_L_law_216 : decode code 216 = .ok (.aload_n 0, 1) := by decide +kernel
theorem d_L_law_217 : decode code 217 = .ok (.iload_n 3, 1) := by decide +kernel
theorem d_L_law_218 : decode code 218 = .ok (.iconst 1, 1) := by decide +kernel
theorem d_L_law_219 : decode code 219 = .ok (.iadd, 1) := by decide +kernel
theorem d_L_law_220 : decode code 220 = .ok (.iaload, 1) := by decide +kernel
theorem d_L_law_221 : decode code 221 = .ok (.invokevirtual 27, 3) := by decide +kernel
theorem d_L_law_224 : decode code 224 = .ok (.if_icmp .eq 237, 3) := by decide +kernel
theorem d_L_law_227 : decode code 227 = .ok (.iconst 0, 1) := by decide +kernel
theorem d_L_law_228 : decode code 228 = .ok (.ireturn, 1) := by decide +kernel
theorem d_L_law_229 : decode code 229 = .ok (.aload_n 1, 1) := by decide +kernel
theorem d_L_law_230 : decode code 230 = .ok (.aload_n 0, 1) := by decide +kernel
theorem d_L_law_231 : decode code 231 = .ok (.iload_n 3, 1) := by decide +kernel
theorem d_L_law_232 : decode code 232 = .ok (.iconst 1, 1) := by decide +kernel
theorem d_L_law_233 : decode code 233 = .ok (.iadd, 1) := by decide +kernel
theorem d_L_law_234 : decode code 234 = .ok (.iaload, 1) := by decide +kernel
theorem d_L_law_235 : decode code 235 = .ok (.invokevirtual 28, 3) := by decide +kernel
theorem d_L_law_238 : decode code 238 = .ok (.aload_n 2, 1) := by decide +kernel
theorem d_L_law_239 : decode code 239 = .ok (.aload_n 0, 1) := by decide +kernel
theorem d_L_law_240 : decode code 240 = .ok (.iload_n 3, 1) := by decide +kernel
theorem d_L_law_241 : decode code 241 = .ok (.iconst 1, 1) := by decide +kernel
theorem d_L_law_242 : decode code 242 = .ok (.iadd, 1) := by decide +kernel
theorem d_L_law_243 : decode code 243 = .ok (.iaload, 1) := by decide +kernel
theorem d_L_law_244 : decode code 244 = .ok (.invokevirtual 31, 3) := by decide +kernel
theorem d_L_law_247 : decode code 247 = .ok (.if_icmp .eq 214, 3) := by decide +kernel
theorem d_L_law_250 : decode code 250 = .ok (.iconst 0, 1) := by decide +kernel
theorem d_L_law_251 : decode code 251 = .ok (.ireturn, 1) := by decide +kernel
theorem d_L_law_252 : decode code 252 = .ok (.aload_n 1, 1) := by decide +kernel
theorem d_L_law_253 : decode code 253 = .ok (.aload_n 0, 1) := by decide +kernel
theorem d_L_law_254 : decode code 254 = .ok (.iload_n 3, 1) := by decide +kernel
theorem d_L_law_255 : decode code 255 = .ok (.iconst 1, 1) := by decide +kernel
theorem d_L_law_256 : decode code 256 = .ok (.iadd, 1) := by decide +kernel
theorem d_L_law_257 : decode code 257 = .ok (.iaload, 1) := by decide +kernel
theorem d_L_law_258 : decode code 258 = .ok (.invokevirtual 32, 3) := by decide +kernel
theorem d_L_law_261 : decode code 261 = .ok (.aload_n 2, 1) := by decide +kernel
theorem d_L_law_262 : decode code 262 = .ok (.aload_n 0, 1) := by decide +kernel
theorem d_L_law_263 : decode code 263 = .ok (.iload_n 3, 1) := by decide +kernel
theorem d_L_law_264 : decode code 264 = .ok (.iconst 1, 1) := by decide +kernel
theorem d_L_law_265 : decode code 265 = .ok (.iadd, 1) := by decide +kernel
theorem d_L_law_266 : decode code 266 = .ok (.iaload, 1) := by decide +kernel
theorem d_L_law_267 : decode code 267 = .ok (.invokevirtual 35, 3) := by decide +kernel
theorem d_L_law_270 : decode code 270 = .ok (.if_icmp .eq 191, 3) := by decide +kernel
theorem d_L_law_273 : decode code 273 = .ok (.iconst 0, 1) := by decide +kernel
theorem d_L_law_274 : decode code 274 = .ok (.ireturn, 1) := by decide +kernel
theorem d_L_law_275 : decode code 275 = .ok (.aload_n 1, 1) := by decide +kernel
theorem d_L_law_276 : decode code 276 = .ok (.aload_n 0, 1) := by decide +kernel
theorem d_L_law_277 : decode code 277 = .ok (.iload_n 3, 1) := by decide +kernel
theorem d_L_law_278 : decode code 278 = .ok (.iconst 1, 1) := by decide +kernel
theorem d_L_law_279 : decode code 279 = .ok (.iadd, 1) := by decide +kernel
theorem d_L_law_280 : decode code 280 = .ok (.iaload, 1) := by decide +kernel
theorem d_L_law_281 : decode code 281 = .ok (.invokevirtual 36, 3) := by decide +kernel
theorem d_L_law_284 : decode code 284 = .ok (.aload_n 2, 1) := by decide +kernel
theorem d_L_law_285 : decode code 285 = .ok (.aload_n 0, 1) := by decide +kernel
theorem d_L_law_286 : decode code 286 = .ok (.iload_n 3, 1) := by decide +kernel
theorem d_L_law_287 : decode code 287 = .ok (.iconst 1, 1) := by decide +kernel
theorem d_L_law_288 : decode code 288 = .ok (.iadd, 1) := by decide +kernel
theorem d_L_law_289 : decode code 289 = .ok (.iaload, 1) := by decide +kernel
theorem d_L_law_290 : decode code 290 = .ok (.invokevirtual 39, 3) := by decide +kernel
theorem d_L_law_293 : decode code 293 = .ok (.if_icmp .eq 168, 3) := by decide +kernel
theorem d_L_law_296 : decode code 296 = .ok (.iconst 0, 1) := by decide +kernel
theorem d_L_law_297 : decode code 297 = .ok (.ireturn, 1) := by decide +kernel
theorem d_L_law_298 : decode code 298 = .ok (.aload_n 1, 1) := by decide +kernel
theorem d_L_law_299 : decode code 299 = .ok (.aload_n 0, 1) := by decide +kernel
theorem d_L_law_300 : decode code 300 = .ok (.iload_n 3, 1) := by decide +kernel
theorem d_L_law_301 : decode code 301 = .ok (.iconst 1, 1) := by decide +kernel
theorem d_L_law_302 : decode code 302 = .ok (.iadd, 1) := by decide +kernel
theorem d_L_law_303 : decode code 303 = .ok (.iaload, 1) := by decide +kernel
theorem d_L_law_304 : decode code 304 = .ok (.invokevirtual 40, 3) := by decide +kernel
theorem d_L_law_307 : decode code 307 = .ok (.aload_n 2, 1) := by decide +kernel
theorem d_L_law_308 : decode code 308 = .ok (.aload_n 0, 1) := by decide +kernel
theorem d_L_law_309 : decode code 309 = .ok (.iload_n 3, 1) := by decide +kernel
theorem d_L_law_310 : decode code 310 = .ok (.iconst 1, 1) := by decide +kernel
theorem d_L_law_311 : decode code 311 = .ok (.iadd, 1) := by decide +kernel
theorem d_L_law_312 : decode code 312 = .ok (.iaload, 1) := by decide +kernel
theorem d_L_law_313 : decode code 313 = .ok (.invokevirtual 43, 3) := by decide +kernel
theorem d_L_law_316 : decode code 316 = .ok (.if_icmp .eq 145, 3) := by decide +kernel
theorem d_L_law_319 : decode code 319 = .ok (.iconst 0, 1) := by decide +kernel
theorem d_L_law_320 : decode code 320 = .ok (.ireturn, 1) := by decide +kernel
theorem d_L_law_321 : decode code 321 = .ok (.aload_n 1, 1) := by decide +kernel
theorem d_L_law_322 : decode code 322 = .ok (.aload_n 0, 1) := by decide +kernel
theorem d_L_law_323 : decode code 323 = .ok (.iload_n 3, 1) := by decide +kernel
theorem d_L_law_324 : decode code 324 = .ok (.iconst 1, 1) := by decide +kernel
theorem d_L_law_325 : decode code 325 = .ok (.iadd, 1) := by decide +kernel
theorem d_L_law_326 : decode code 326 = .ok (.iaload, 1) := by decide +kernel
theorem d_L_law_327 : decode code 327 = .ok (.invokevirtual 44, 3) := by decide +kernel
theorem d_L_law_330 : decode code 330 = .ok (.aload_n 2, 1) := by decide +kernel
theorem d_L_law_331 : decode code 331 = .ok (.aload_n 0, 1) := by decide +kernel
theorem d_L_law_332 : decode code 332 = .ok (.iload_n 3, 1) := by decide +kernel
theorem d_L_law_333 : decode code 333 = .ok (.iconst 1, 1) := by decide +kernel
theorem d_L_law_334 : decode code 334 = .ok (.iadd, 1) := by decide +kernel
theorem d_L_law_335 : decode code 335 = .ok (.iaload, 1) := by decide +kernel
theorem d_L_law_336 : decode code 336 = .ok (.invokevirtual 47, 3) := by decide +kernel
theorem d_L_law_339 : decode code 339 = .ok (.if_icmp .eq 122, 3) := by decide +kernel
theorem d_L_law_342 : decode code 342 = .ok (.iconst 0, 1) := by decide +kernel
theorem d_L_law_343 : decode code 343 = .ok (.ireturn, 1) := by decide +kernel
theorem d_L_law_344 : decode code 344 = .ok (.aload_n 1, 1) := by decide +kernel
theorem d_L_law_345 : decode code 345 = .ok (.invokevirtual 48, 3) := by decide +kernel
theorem d_L_law_348 : decode code 348 = .ok (.aload_n 2, 1) := by decide +kernel
theorem d_L_law_349 : decode code 349 = .ok (.invokevirtual 52, 3) := by decide +kernel
theorem d_L_law_352 : decode code 352 = .ok (.if_icmp .eq 109, 3) := by decide +kernel
theorem d_L_law_355 : decode code 355 = .ok (.iconst 0, 1) := by decide +kernel
theorem d_L_law_356 : decode code 356 = .ok (.ireturn, 1) := by decide +kernel
theorem d_L_law_357 : decode code 357 = .ok (.aload_n 1, 1) := by decide +kernel
theorem d_L_law_358 : decode code 358 = .ok (.aload_n 0, 1) := by decide +kernel
theorem d_L_law_359 : decode code 359 = .ok (.iload_n 3, 1) := by decide +kernel
theorem d_L_law_360 : decode code 360 = .ok (.iconst 1, 1) := by decide +kernel
theorem d_L_law_361 : decode code 361 = .ok (.iadd, 1) := by decide +kernel
theorem d_L_law_362 : decode code 362 = .ok (.iaload, 1) := by decide +kernel
theorem d_L_law_363 : decode code 363 = .ok (.invokevirtual 53, 3) := by decide +kernel
theorem d_L_law_366 : decode code 366 = .ok (.aload_n 2, 1) := by decide +kernel
theorem d_L_law_367 : decode code 367 = .ok (.aload_n 0, 1) := by decide +kernel
theorem d_L_law_368 : decode code 368 = .ok (.iload_n 3, 1) := by decide +kernel
theorem d_L_law_369 : decode code 369 = .ok (.iconst 1, 1) := by decide +kernel
theorem d_L_law_370 : decode code 370 = .ok (.iadd, 1) := by decide +kernel
theorem d_L_law_371 : decode code 371 = .ok (.iaload, 1) := by decide +kernel
theorem d_L_law_372 : decode code 372 = .ok (.invokevirtual 57, 3) := by decide +kernel
theorem d_L_law_375 : decode code 375 = .ok (.lcmp, 1) := by decide +kernel
theorem d_L_law_376 : decode code 376 = .ok (.ifCond .eq 85, 3) := by decide +kernel
theorem d_L_law_379 : decode code 379 = .ok (.iconst 0, 1) := by decide +kernel
theorem d_L_law_380 : decode code 380 = .ok (.ireturn, 1) := by decide +kernel
theorem d_L_law_381 : decode code 381 = .ok (.aload_n 1, 1) := by decide +kernel
theorem d_L_law_382 : decode code 382 = .ok (.aload_n 0, 1) := by decide +kernel
theorem d_L_law_383 : decode code 383 = .ok (.iload_n 3, 1) := by decide +kernel
theorem d_L_law_384 : decode code 384 = .ok (.iconst 1, 1) := by decide +kernel
theorem d_L_law_385 : decode code 385 = .ok (.iadd, 1) := by decide +kernel
theorem d_L_law_386 : decode code 386 = .ok (.iaload, 1) := by decide +kernel
theorem d_L_law_387 : decode code 387 = .ok (.aload_n 0, 1) := by decide +kernel
theorem d_L_law_388 : decode code 388 = .ok (.iload_n 3, 1) := by decide +kernel
theorem d_L_law_389 : decode code 389 = .ok (.iconst 2, 1) := by decide +kernel
theorem d_L_law_390 : decode code 390 = .ok (.iadd, 1) := by decide +kernel
theorem d_L_law_391 : decode code 391 = .ok (.iaload, 1) := by decide +kernel
theorem d_L_law_392 : decode code 392 = .ok (.invokevirtual 58, 3) := by decide +kernel
theorem d_L_law_395 : decode code 395 = .ok (.aload_n 2, 1) := by decide +kernel
theorem d_L_law_396 : decode code 396 = .ok (.aload_n 0, 1) := by decide +kernel
theorem d_L_law_397 : decode code 397 = .ok (.iload_n 3, 1) := by decide +kernel
theorem d_L_law_398 : decode code 398 = .ok (.iconst 1, 1) := by decide +kernel
theorem d_L_law_399 : decode code 399 = .ok (.iadd, 1) := by decide +kernel
theorem d_L_law_400 : decode code 400 = .ok (.iaload, 1) := by decide +kernel
theorem d_L_law_401 : decode code 401 = .ok (.aload_n 0, 1) := by decide +kernel
theorem d_L_law_402 : decode code 402 = .ok (.iload_n 3, 1) := by decide +kernel
theorem d_L_law_403 : decode code 403 = .ok (.iconst 2, 1) := by decide +kernel
theorem d_L_law_404 : decode code 404 = .ok (.iadd, 1) := by decide +kernel
theorem d_L_law_405 : decode code 405 = .ok (.iaload, 1) := by decide +kernel
theorem d_L_law_406 : decode code 406 = .ok (.invokevirtual 62, 3) := by decide +kernel
theorem d_L_law_409 : decode code 409 = .ok (.lcmp, 1) := by decide +kernel
theorem d_L_law_410 : decode code 410 = .ok (.ifCond .eq 51, 3) := by decide +kernel
theorem d_L_law_413 : decode code 413 = .ok (.iconst 0, 1) := by decide +kernel
theorem d_L_law_414 : decode code 414 = .ok (.ireturn, 1) := by decide +kernel
theorem d_L_law_415 : decode code 415 = .ok (.aload_n 1, 1) := by decide +kernel
theorem d_L_law_416 : decode code 416 = .ok (.aload_n 0, 1) := by decide +kernel
theorem d_L_law_417 : decode code 417 = .ok (.iload_n 3, 1) := by decide +kernel
theorem d_L_law_418 : decode code 418 = .ok (.iconst 1, 1) := by decide +kernel
theorem d_L_law_419 : decode code 419 = .ok (.iadd, 1) := by decide +kernel
theorem d_L_law_420 : decode code 420 = .ok (.iaload, 1) := by decide +kernel
theorem d_L_law_421 : decode code 421 = .ok (.invokevirtual 63, 3) := by decide +kernel
theorem d_L_law_424 : decode code 424 = .ok (.aload_n 2, 1) := by decide +kernel
theorem d_L_law_425 : decode code 425 = .ok (.aload_n 0, 1) := by decide +kernel
theorem d_L_law_426 : decode code 426 = .ok (.iload_n 3, 1) := by decide +kernel
theorem d_L_law_427 : decode code 427 = .ok (.iconst 1, 1) := by decide +kernel
theorem d_L_law_428 : decode code 428 = .ok (.iadd, 1) := by decide +kernel
theorem d_L_law_429 : decode code 429 = .ok (.iaload, 1) := by decide +kernel
theorem d_L_law_430 : decode code 430 = .ok (.invokevirtual 66, 3) := by decide +kernel
theorem d_L_law_433 : decode code 433 = .ok (.if_icmp .eq 28, 3) := by decide +kernel
theorem d_L_law_436 : decode code 436 = .ok (.iconst 0, 1) := by decide +kernel
theorem d_L_law_437 : decode code 437 = .ok (.ireturn, 1) := by decide +kernel
theorem d_L_law_438 : decode code 438 = .ok (.aload_n 1, 1) := by decide +kernel
theorem d_L_law_439 : decode code 439 = .ok (.aload_n 0, 1) := by decide +kernel
theorem d_L_law_440 : decode code 440 = .ok (.iload_n 3, 1) := by decide +kernel
theorem d_L_law_441 : decode code 441 = .ok (.iconst 1, 1) := by decide +kernel
theorem d_L_law_442 : decode code 442 = .ok (.iadd, 1) := by decide +kernel
theorem d_L_law_443 : decode code 443 = .ok (.iaload, 1) := by decide +kernel
theorem d_L_law_444 : decode code 444 = .ok (.invokevirtual 67, 3) := by decide +kernel
theorem d_L_law_447 : decode code 447 = .ok (.aload_n 2, 1) := by decide +kernel
theorem d_L_law_448 : decode code 448 = .ok (.aload_n 0, 1) := by decide +kernel
theorem d_L_law_449 : decode code 449 = .ok (.iload_n 3, 1) := by decide +kernel
theorem d_L_law_450 : decode code 450 = .ok (.iconst 1, 1) := by decide +kernel
theorem d_L_law_451 : decode code 451 = .ok (.iadd, 1) := by decide +kernel
theorem d_L_law_452 : decode code 452 = .ok (.iaload, 1) := by decide +kernel
theorem d_L_law_453 : decode code 453 = .ok (.invokevirtual 70, 3) := by decide +kernel
theorem d_L_law_456 : decode code 456 = .ok (.if_icmp .eq 5, 3) := by decide +kernel
theorem d_L_law_459 : decode code 459 = .ok (.iconst 0, 1) := by decide +kernel
theorem d_L_law_460 : decode code 460 = .ok (.ireturn, 1) := by decide +kernel
theorem d_L_law_461 : decode code 461 = .ok (.iinc 3 6, 3) := by decide +kernel
theorem d_L_law_464 : decode code 464 = .ok (.goto (-446), 3) := by decide +kernel
theorem d_L_law_467 : decode code 467 = .ok (.iconst 1, 1) := by decide +kernel
theorem d_L_law_468 : decode code 468 = .ok (.ireturn, 1) := by decide +kernel

theorem d_L_law_0 : decode code 0 = .ok (.new 7, 3) := by decide +kernel
theorem d_L_law_3 : decode code 3 = .ok (.dup, 1) := by decide +kernel
theorem d_L_law_4 : decode code 4 = .ok (.aload_n 0, 1) := by decide +kernel
theorem d_L_law_5 : decode code 5 = .ok (.iconst 0, 1) := by decide +kernel
theorem d_L_law_6 : decode code 6 = .ok (.invokestatic 9, 3) := by decide +kernel
theorem d_L_law_9 : decode code 9 = .ok (.aload_n 0, 1) := by decide +kernel
theorem d_L_law_10 : decode code 10 = .ok (.iconst 1, 1) := by decide +kernel
theorem d_L_law_11 : decode code 11 = .ok (.invokestatic 9, 3) := by decide +kernel
theorem d_L_law_14 : decode code 14 = .ok (.invokespecial 15, 3) := by decide +kernel
theorem d_L_law_17 : decode code 17 = .ok (.astore_n 1, 1) := by decide +kernel
theorem d_L_law_18 : decode code 18 = .ok (.new 18, 3) := by decide +kernel
theorem d_L_law_21 : decode code 21 = .ok (.dup, 1) := by decide +kernel
theorem d_L_law_22 : decode code 22 = .ok (.aload_n 0, 1) := by decide +kernel
theorem d_L_law_23 : decode code 23 = .ok (.iconst 0, 1) := by decide +kernel
theorem d_L_law_24 : decode code 24 = .ok (.invokestatic 9, 3) := by decide +kernel
theorem d_L_law_27 : decode code 27 = .ok (.aload_n 0, 1) := by decide +kernel
theorem d_L_law_28 : decode code 28 = .ok (.iconst 1, 1) := by decide +kernel
theorem d_L_law_29 : decode code 29 = .ok (.invokestatic 9, 3) := by decide +kernel
theorem d_L_law_32 : decode code 32 = .ok (.invokespecial 20, 3) := by decide +kernel
theorem d_L_law_35 : decode code 35 = .ok (.astore_n 2, 1) := by decide +kernel
theorem d_L_law_36 : decode code 36 = .ok (.iconst 2, 1) := by decide +kernel
theorem d_L_law_37 : decode code 37 = .ok (.istore_n 3, 1) := by decide +kernel
theorem d_L_law_38 : decode code 38 = .ok (.iload_n 3, 1) := by decide +kernel
theorem d_L_law_39 : decode code 39 = .ok (.aload_n 0, 1) := by decide +kernel
theorem d_L_law_40 : decode code 40 = .ok (.arraylength, 1) := by decide +kernel
theorem d_L_law_41 : decode code 41 = .ok (.iconst 5, 1) := by decide +kernel
theorem d_L_law_42 : decode code 42 = .ok (.isub, 1) := by decide +kernel
theorem d_L_law_43 : decode code 43 = .ok (.if_icmp .gt 343, 3) := by decide +kernel
theorem d_L_law_46 : decode code 46 = .ok (.aload_n 0, 1) := by decide +kernel
theorem d_L_law_47 : decode code 47 = .ok (.iload_n 3, 1) := by decide +kernel
theorem d_L_law_48 : decode code 48 = .ok (.iaload, 1) := by decide +kernel
theorem d_L_law_49 : decode code 49 = .ok (.bipush 15, 2) := by decide +kernel
theorem d_L_law_51 : decode code 51 = .ok (.iand, 1) := by decide +kernel
theorem d_L_law_52 : decode code 52 = .ok (.tableswitch 328 0 11 #[64, 87, 140, 153, 166, 189, 202, 235, 268, 291, 304, 317], 64) := by decide +kernel
theorem d_L_law_116 : decode code 116 = .ok (.aload_n 1, 1) := by decide +kernel
theorem d_L_law_117 : decode code 117 = .ok (.aload_n 0, 1) := by decide +kernel
theorem d_L_law_118 : decode code 118 = .ok (.iload_n 3, 1) := by decide +kernel
theorem d_L_law_119 : decode code 119 = .ok (.iconst 1, 1) := by decide +kernel
theorem d_L_law_120 : decode code 120 = .ok (.iadd, 1) := by decide +kernel
theorem d_L_law_121 : decode code 121 = .ok (.iaload, 1) := by decide +kernel
theorem d_L_law_122 : decode code 122 = .ok (.invokevirtual 21, 3) := by decide +kernel
theorem d_L_law_125 : decode code 125 = .ok (.aload_n 2, 1) := by decide +kernel
theorem d_L_law_126 : decode code 126 = .ok (.aload_n 0, 1) := by decide +kernel
theorem d_L_law_127 : decode code 127 = .ok (.iload_n 3, 1) := by decide +kernel
theorem d_L_law_128 : decode code 128 = .ok (.iconst 1, 1) := by decide +kernel
theorem d_L_law_129 : decode code 129 = .ok (.iadd, 1) := by decide +kernel
theorem d_L_law_130 : decode code 130 = .ok (.iaload, 1) := by decide +kernel
theorem d_L_law_131 : decode code 131 = .ok (.invokevirtual 25, 3) := by decide +kernel
theorem d_L_law_134 : decode code 134 = .ok (.if_icmp .eq 246, 3) := by decide +kernel
theorem d_L_law_137 : decode code 137 = .ok (.iconst 0, 1) := by decide +kernel
theorem d_L_law_138 : decode code 138 = .ok (.ireturn, 1) := by decide +kernel
theorem d_L_law_139 : decode code 139 = .ok (.aload_n 1, 1) := by decide +kernel
theorem d_L_law_140 : decode code 140 = .ok (.aload_n 0, 1) := by decide +kernel
theorem d_L_law_141 : decode code 141 = .ok (.iload_n 3, 1) := by decide +kernel
theorem d_L_law_142 : decode code 142 = .ok (.iconst 1, 1) := by decide +kernel
theorem d_L_law_143 : decode code 143 = .ok (.iadd, 1) := by decide +kernel
theorem d_L_law_144 : decode code 144 = .ok (.iaload, 1) := by decide +kernel
theorem d_L_law_145 : decode code 145 = .ok (.aload_n 0, 1) := by decide +kernel
theorem d_L_law_146 : decode code 146 = .ok (.iload_n 3, 1) := by decide +kernel
theorem d_L_law_147 : decode code 147 = .ok (.iconst 2, 1) := by decide +kernel
theorem d_L_law_148 : decode code 148 = .ok (.iadd, 1) := by decide +kernel
theorem d_L_law_149 : decode code 149 = .ok (.iaload, 1) := by decide +kernel
theorem d_L_law_150 : decode code 150 = .ok (.aload_n 0, 1) := by decide +kernel
theorem d_L_law_151 : decode code 151 = .ok (.iload_n 3, 1) := by decide +kernel
theorem d_L_law_152 : decode code 152 = .ok (.iconst 3, 1) := by decide +kernel
theorem d_L_law_153 : decode code 153 = .ok (.iadd, 1) := by decide +kernel
theorem d_L_law_154 : decode code 154 = .ok (.iaload, 1) := by decide +kernel
theorem d_L_law_155 : decode code 155 = .ok (.aload_n 0, 1) := by decide +kernel
theorem d_L_law_156 : decode code 156 = .ok (.iload_n 3, 1) := by decide +kernel
theorem d_L_law_157 : decode code 157 = .ok (.iconst 4, 1) := by decide +kernel
theorem d_L_law_158 : decode code 158 = .ok (.iadd, 1) := by decide +kernel
theorem d_L_law_159 : decode code 159 = .ok (.iaload, 1) := by decide +kernel
theorem d_L_law_160 : decode code 160 = .ok (.invokevirtual 26, 3) := by decide +kernel
theorem d_L_law_163 : decode code 163 = .ok (.aload_n 2, 1) := by decide +kernel
theorem d_L_law_164 : decode code 164 = .ok (.aload_n 0, 1) := by decide +kernel
theorem d_L_law_165 : decode code 165 = .ok (.iload_n 3, 1) := by decide +kernel
theorem d_L_law_166 : decode code 166 = .ok (.iconst 1, 1) := by decide +kernel
theorem d_L_law_167 : decode code 167 = .ok (.iadd, 1) := by decide +kernel
theorem d_L_law_168 : decode code 168 = .ok (.iaload, 1) := by decide +kernel
theorem d_L_law_169 : decode code 169 = .ok (.aload_n 0, 1) := by decide +kernel
theorem d_L_law_170 : decode code 170 = .ok (.iload_n 3, 1) := by decide +kernel
theorem d_L_law_171 : decode code 171 = .ok (.iconst 2, 1) := by decide +kernel
theorem d_L_law_172 : decode code 172 = .ok (.iadd, 1) := by decide +kernel
theorem d_L_law_173 : decode code 173 = .ok (.iaload, 1) := by decide +kernel
theorem d_L_law_174 : decode code 174 = .ok (.aload_n 0, 1) := by decide +kernel
theorem d_L_law_175 : decode code 175 = .ok (.iload_n 3, 1) := by decide +kernel
theorem d_L_law_176 : decode code 176 = .ok (.iconst 3, 1) := by decide +kernel
theorem d_L_law_177 : decode code 177 = .ok (.iadd, 1) := by decide +kernel
theorem d_L_law_178 : decode code 178 = .ok (.iaload, 1) := by decide +kernel
theorem d_L_law_179 : decode code 179 = .ok (.aload_n 0, 1) := by decide +kernel
theorem d_L_law_180 : decode code 180 = .ok (.iload_n 3, 1) := by decide +kernel
theorem d_L_law_181 : decode code 181 = .ok (.iconst 4, 1) := by decide +kernel
theorem d_L_law_182 : decode code 182 = .ok (.iadd, 1) := by decide +kernel
theorem d_L_law_183 : decode code 183 = .ok (.iaload, 1) := by decide +kernel
theorem d_L_law_184 : decode code 184 = .ok (.invokevirtual 30, 3) := by decide +kernel
theorem d_L_law_187 : decode code 187 = .ok (.if_icmp .eq 193, 3) := by decide +kernel
theorem d_L_law_190 : decode code 190 = .ok (.iconst 0, 1) := by decide +kernel
theorem d_L_law_191 : decode code 191 = .ok (.ireturn, 1) := by decide +kernel
theorem d_L_law_192 : decode code 192 = .ok (.aload_n 1, 1) := by decide +kernel
theorem d_L_law_193 : decode code 193 = .ok (.invokevirtual 31, 3) := by decide +kernel
theorem d_L_law_196 : decode code 196 = .ok (.aload_n 2, 1) := by decide +kernel
theorem d_L_law_197 : decode code 197 = .ok (.invokevirtual 35, 3) := by decide +kernel
theorem d_L_law_200 : decode code 200 = .ok (.if_icmp .eq 180, 3) := by decide +kernel
theorem d_L_law_203 : decode code 203 = .ok (.iconst 0, 1) := by decide +kernel
theorem d_L_law_204 : decode code 204 = .ok (.ireturn, 1) := by decide +kernel
theorem d_L_law_205 : decode code 205 = .ok (.aload_n 1, 1) := by decide +kernel
theorem d_L_law_206 : decode code 206 = .ok (.invokevirtual 36, 3) := by decide +kernel
theorem d_L_law_209 : decode code 209 = .ok (.aload_n 2, 1) := by decide +kernel
theorem d_L_law_210 : decode code 210 = .ok (.invokevirtual 39, 3) := by decide +kernel
theorem d_L_law_213 : decode code 213 = .ok (.if_icmp .eq 167, 3) := by decide +kernel
theorem d_L_law_216 : decode code 216 = .ok (.iconst 0, 1) := by decide +kernel
theorem d_L_law_217 : decode code 217 = .ok (.ireturn, 1) := by decide +kernel
theorem d_L_law_218 : decode code 218 = .ok (.aload_n 1, 1) := by decide +kernel
theorem d_L_law_219 : decode code 219 = .ok (.aload_n 0, 1) := by decide +kernel
theorem d_L_law_220 : decode code 220 = .ok (.iload_n 3, 1) := by decide +kernel
theorem d_L_law_221 : decode code 221 = .ok (.iconst 1, 1) := by decide +kernel
theorem d_L_law_222 : decode code 222 = .ok (.iadd, 1) := by decide +kernel
theorem d_L_law_223 : decode code 223 = .ok (.iaload, 1) := by decide +kernel
theorem d_L_law_224 : decode code 224 = .ok (.invokevirtual 40, 3) := by decide +kernel
theorem d_L_law_227 : decode code 227 = .ok (.aload_n 2, 1) := by decide +kernel
theorem d_L_law_228 : decode code 228 = .ok (.aload_n 0, 1) := by decide +kernel
theorem d_L_law_229 : decode code 229 = .ok (.iload_n 3, 1) := by decide +kernel
theorem d_L_law_230 : decode code 230 = .ok (.iconst 1, 1) := by decide +kernel
theorem d_L_law_231 : decode code 231 = .ok (.iadd, 1) := by decide +kernel
theorem d_L_law_232 : decode code 232 = .ok (.iaload, 1) := by decide +kernel
theorem d_L_law_233 : decode code 233 = .ok (.invokevirtual 43, 3) := by decide +kernel
theorem d_L_law_236 : decode code 236 = .ok (.if_icmp .eq 144, 3) := by decide +kernel
theorem d_L_law_239 : decode code 239 = .ok (.iconst 0, 1) := by decide +kernel
theorem d_L_law_240 : decode code 240 = .ok (.ireturn, 1) := by decide +kernel
theorem d_L_law_241 : decode code 241 = .ok (.aload_n 1, 1) := by decide +kernel
theorem d_L_law_242 : decode code 242 = .ok (.invokevirtual 44, 3) := by decide +kernel
theorem d_L_law_245 : decode code 245 = .ok (.aload_n 2, 1) := by decide +kernel
theorem d_L_law_246 : decode code 246 = .ok (.invokevirtual 47, 3) := by decide +kernel
theorem d_L_law_249 : decode code 249 = .ok (.if_icmp .eq 131, 3) := by decide +kernel
theorem d_L_law_252 : decode code 252 = .ok (.iconst 0, 1) := by decide +kernel
theorem d_L_law_253 : decode code 253 = .ok (.ireturn, 1) := by decide +kernel
theorem d_L_law_254 : decode code 254 = .ok (.aload_n 1, 1) := by decide +kernel
theorem d_L_law_255 : decode code 255 = .ok (.aload_n 0, 1) := by decide +kernel
theorem d_L_law_256 : decode code 256 = .ok (.iload_n 3, 1) := by decide +kernel
theorem d_L_law_257 : decode code 257 = .ok (.iconst 1, 1) := by decide +kernel
theorem d_L_law_258 : decode code 258 = .ok (.iadd, 1) := by decide +kernel
theorem d_L_law_259 : decode code 259 = .ok (.iaload, 1) := by decide +kernel
theorem d_L_law_260 : decode code 260 = .ok (.aload_n 0, 1) := by decide +kernel
theorem d_L_law_261 : decode code 261 = .ok (.iload_n 3, 1) := by decide +kernel
theorem d_L_law_262 : decode code 262 = .ok (.iconst 2, 1) := by decide +kernel
theorem d_L_law_263 : decode code 263 = .ok (.iadd, 1) := by decide +kernel
theorem d_L_law_264 : decode code 264 = .ok (.iaload, 1) := by decide +kernel
theorem d_L_law_265 : decode code 265 = .ok (.invokevirtual 48, 3) := by decide +kernel
theorem d_L_law_268 : decode code 268 = .ok (.aload_n 2, 1) := by decide +kernel
theorem d_L_law_269 : decode code 269 = .ok (.aload_n 0, 1) := by decide +kernel
theorem d_L_law_270 : decode code 270 = .ok (.iload_n 3, 1) := by decide +kernel
theorem d_L_law_271 : decode code 271 = .ok (.iconst 1, 1) := by decide +kernel
theorem d_L_law_272 : decode code 272 = .ok (.iadd, 1) := by decide +kernel
theorem d_L_law_273 : decode code 273 = .ok (.iaload, 1) := by decide +kernel
theorem d_L_law_274 : decode code 274 = .ok (.aload_n 0, 1) := by decide +kernel
theorem d_L_law_275 : decode code 275 = .ok (.iload_n 3, 1) := by decide +kernel
theorem d_L_law_276 : decode code 276 = .ok (.iconst 2, 1) := by decide +kernel
theorem d_L_law_277 : decode code 277 = .ok (.iadd, 1) := by decide +kernel
theorem d_L_law_278 : decode code 278 = .ok (.iaload, 1) := by decide +kernel
theorem d_L_law_279 : decode code 279 = .ok (.invokevirtual 52, 3) := by decide +kernel
theorem d_L_law_282 : decode code 282 = .ok (.if_icmp .eq 98, 3) := by decide +kernel
theorem d_L_law_285 : decode code 285 = .ok (.iconst 0, 1) := by decide +kernel
theorem d_L_law_286 : decode code 286 = .ok (.ireturn, 1) := by decide +kernel
theorem d_L_law_287 : decode code 287 = .ok (.aload_n 1, 1) := by decide +kernel
theorem d_L_law_288 : decode code 288 = .ok (.aload_n 0, 1) := by decide +kernel
theorem d_L_law_289 : decode code 289 = .ok (.iload_n 3, 1) := by decide +kernel
theorem d_L_law_290 : decode code 290 = .ok (.iconst 1, 1) := by decide +kernel
theorem d_L_law_291 : decode code 291 = .ok (.iadd, 1) := by decide +kernel
theorem d_L_law_292 : decode code 292 = .ok (.iaload, 1) := by decide +kernel
theorem d_L_law_293 : decode code 293 = .ok (.aload_n 0, 1) := by decide +kernel
theorem d_L_law_294 : decode code 294 = .ok (.iload_n 3, 1) := by decide +kernel
theorem d_L_law_295 : decode code 295 = .ok (.iconst 2, 1) := by decide +kernel
theorem d_L_law_296 : decode code 296 = .ok (.iadd, 1) := by decide +kernel
theorem d_L_law_297 : decode code 297 = .ok (.iaload, 1) := by decide +kernel
theorem d_L_law_298 : decode code 298 = .ok (.invokevirtual 53, 3) := by decide +kernel
theorem d_L_law_301 : decode code 301 = .ok (.aload_n 2, 1) := by decide +kernel
theorem d_L_law_302 : decode code 302 = .ok (.aload_n 0, 1) := by decide +kernel
theorem d_L_law_303 : decode code 303 = .ok (.iload_n 3, 1) := by decide +kernel
theorem d_L_law_304 : decode code 304 = .ok (.iconst 1, 1) := by decide +kernel
theorem d_L_law_305 : decode code 305 = .ok (.iadd, 1) := by decide +kernel
theorem d_L_law_306 : decode code 306 = .ok (.iaload, 1) := by decide +kernel
theorem d_L_law_307 : decode code 307 = .ok (.aload_n 0, 1) := by decide +kernel
theorem d_L_law_308 : decode code 308 = .ok (.iload_n 3, 1) := by decide +kernel
theorem d_L_law_309 : decode code 309 = .ok (.iconst 2, 1) := by decide +kernel
theorem d_L_law_310 : decode code 310 = .ok (.iadd, 1) := by decide +kernel
theorem d_L_law_311 : decode code 311 = .ok (.iaload, 1) := by decide +kernel
theorem d_L_law_312 : decode code 312 = .ok (.invokevirtual 56, 3) := by decide +kernel
theorem d_L_law_315 : decode code 315 = .ok (.if_icmp .eq 65, 3) := by decide +kernel
theorem d_L_law_318 : decode code 318 = .ok (.iconst 0, 1) := by decide +kernel
theorem d_L_law_319 : decode code 319 = .ok (.ireturn, 1) := by decide +kernel
theorem d_L_law_320 : decode code 320 = .ok (.aload_n 1, 1) := by decide +kernel
theorem d_L_law_321 : decode code 321 = .ok (.aload_n 0, 1) := by decide +kernel
theorem d_L_law_322 : decode code 322 = .ok (.iload_n 3, 1) := by decide +kernel
theorem d_L_law_323 : decode code 323 = .ok (.iconst 1, 1) := by decide +kernel
theorem d_L_law_324 : decode code 324 = .ok (.iadd, 1) := by decide +kernel
theorem d_L_law_325 : decode code 325 = .ok (.iaload, 1) := by decide +kernel
theorem d_L_law_326 : decode code 326 = .ok (.invokevirtual 57, 3) := by decide +kernel
theorem d_L_law_329 : decode code 329 = .ok (.aload_n 2, 1) := by decide +kernel
theorem d_L_law_330 : decode code 330 = .ok (.aload_n 0, 1) := by decide +kernel
theorem d_L_law_331 : decode code 331 = .ok (.iload_n 3, 1) := by decide +kernel
theorem d_L_law_332 : decode code 332 = .ok (.iconst 1, 1) := by decide +kernel
theorem d_L_law_333 : decode code 333 = .ok (.iadd, 1) := by decide +kernel
theorem d_L_law_334 : decode code 334 = .ok (.iaload, 1) := by decide +kernel
theorem d_L_law_335 : decode code 335 = .ok (.invokevirtual 60, 3) := by decide +kernel
theorem d_L_law_338 : decode code 338 = .ok (.if_icmp .eq 42, 3) := by decide +kernel
theorem d_L_law_341 : decode code 341 = .ok (.iconst 0, 1) := by decide +kernel
theorem d_L_law_342 : decode code 342 = .ok (.ireturn, 1) := by decide +kernel
theorem d_L_law_343 : decode code 343 = .ok (.aload_n 1, 1) := by decide +kernel
theorem d_L_law_344 : decode code 344 = .ok (.invokevirtual 61, 3) := by decide +kernel
theorem d_L_law_347 : decode code 347 = .ok (.aload_n 2, 1) := by decide +kernel
theorem d_L_law_348 : decode code 348 = .ok (.invokevirtual 64, 3) := by decide +kernel
theorem d_L_law_351 : decode code 351 = .ok (.if_icmp .eq 29, 3) := by decide +kernel
theorem d_L_law_354 : decode code 354 = .ok (.iconst 0, 1) := by decide +kernel
theorem d_L_law_355 : decode code 355 = .ok (.ireturn, 1) := by decide +kernel
theorem d_L_law_356 : decode code 356 = .ok (.aload_n 1, 1) := by decide +kernel
theorem d_L_law_357 : decode code 357 = .ok (.invokevirtual 65, 3) := by decide +kernel
theorem d_L_law_360 : decode code 360 = .ok (.aload_n 2, 1) := by decide +kernel
theorem d_L_law_361 : decode code 361 = .ok (.invokevirtual 68, 3) := by decide +kernel
theorem d_L_law_364 : decode code 364 = .ok (.if_icmp .eq 16, 3) := by decide +kernel
theorem d_L_law_367 : decode code 367 = .ok (.iconst 0, 1) := by decide +kernel
theorem d_L_law_368 : decode code 368 = .ok (.ireturn, 1) := by decide +kernel
theorem d_L_law_369 : decode code 369 = .ok (.aload_n 1, 1) := by decide +kernel
theorem d_L_law_370 : decode code 370 = .ok (.invokevirtual 69, 3) := by decide +kernel
theorem d_L_law_373 : decode code 373 = .ok (.aload_n 2, 1) := by decide +kernel
theorem d_L_law_374 : decode code 374 = .ok (.invokevirtual 72, 3) := by decide +kernel
theorem d_L_law_377 : decode code 377 = .ok (.goto 3, 3) := by decide +kernel
theorem d_L_law_380 : decode code 380 = .ok (.iinc 3 5, 3) := by decide +kernel
theorem d_L_law_383 : decode code 383 = .ok (.goto (-345), 3) := by decide +kernel
theorem d_L_law_386 : decode code 386 = .ok (.iconst 1, 1) := by decide +kernel
theorem d_L_law_387 : decode code 387 = .ok (.ireturn, 1) := by decide +kernel
theorem d_L_cell_0 : decode method_2_code 0 = .ok (.iload_n 1, 1) := by decide +kernel
theorem d_L_cell_1 : decode method_2_code 1 = .ok (.aload_n 0, 1) := by decide +kernel
theorem d_L_cell_2 : decode method_2_code 2 = .ok (.arraylength, 1) := by decide +kernel
theorem d_L_cell_3 : decode method_2_code 3 = .ok (.if_icmp .ge 9, 3) := by decide +kernel
theorem d_L_cell_6 : decode method_2_code 6 = .ok (.aload_n 0, 1) := by decide +kernel
theorem d_L_cell_7 : decode method_2_code 7 = .ok (.iload_n 1, 1) := by decide +kernel
theorem d_L_cell_8 : decode method_2_code 8 = .ok (.iaload, 1) := by decide +kernel
theorem d_L_cell_9 : decode method_2_code 9 = .ok (.goto 4, 3) := by decide +kernel
theorem d_L_cell_12 : decode method_2_code 12 = .ok (.iconst 0, 1) := by decide +kernel
theorem d_L_cell_13 : decode method_2_code 13 = .ok (.ireturn, 1) := by decide +kernel
theorem kw_0 : Cond.initialized "SquareCodeLaw" ∈ zW := zin 0 (by decide +kernel) (by decide +kernel)
theorem kw_11 : Cond.classLink "SquareCodeLaw" 7 "SquareCode" ∈ zW := zin 11 (by decide +kernel) (by decide +kernel)
theorem kw_12 : Cond.instantiable "SquareCode" 7 ∈ zW := zin 12 (by decide +kernel) (by decide +kernel)
theorem kw_13 : Cond.methodLink "SquareCodeLaw" 15 y_X_init ∈ zW := zin 13 (by decide +kernel) (by decide +kernel)
theorem kw_14 : Cond.instanceMethod y_X_init ∈ zW := zin 14 (by decide +kernel) (by decide +kernel)
theorem kw_15 : Cond.code y_X_init prog_1_method_1_code 5 none ∈ zW := zin 15 (by decide +kernel) (by decide +kernel)
theorem kw_125 : Cond.methodLink "SquareCodeLaw" 21 y_X_feed ∈ zW := zin 125 (by decide +kernel) (by decide +kernel)
theorem kw_126 : Cond.instanceMethod y_X_feed ∈ zW := zin 126 (by decide +kernel) (by decide +kernel)
theorem kw_127 : Cond.selects "SquareCode" y_X_feed y_X_feed ∈ zW := zin 127 (by decide +kernel) (by decide +kernel)
theorem kw_128 : Cond.code y_X_feed prog_1_method_2_code 2 (some .int) ∈ zW := zin 128 (by decide +kernel) (by decide +kernel)
theorem kw_145 : Cond.methodLink "SquareCodeLaw" 26 y_X_setInput ∈ zW := zin 145 (by decide +kernel) (by decide +kernel)
theorem kw_146 : Cond.instanceMethod y_X_setInput ∈ zW := zin 146 (by decide +kernel) (by decide +kernel)
theorem kw_147 : Cond.selects "SquareCode" y_X_setInput y_X_setInput ∈ zW := zin 147 (by decide +kernel) (by decide +kernel)
theorem kw_148 : Cond.code y_X_setInput prog_1_method_3_code 5 (some .int) ∈ zW := zin 148 (by decide +kernel) (by decide +kernel)
theorem kw_164 : Cond.methodLink "SquareCodeLaw" 31 y_X_compile ∈ zW := zin 164 (by decide +kernel) (by decide +kernel)
theorem kw_165 : Cond.instanceMethod y_X_compile ∈ zW := zin 165 (by decide +kernel) (by decide +kernel)
theorem kw_166 : Cond.selects "SquareCode" y_X_compile y_X_compile ∈ zW := zin 166 (by decide +kernel) (by decide +kernel)
theorem kw_167 : Cond.code y_X_compile prog_1_method_4_code 2 (some .int) ∈ zW := zin 167 (by decide +kernel) (by decide +kernel)
theorem kw_235 : Cond.methodLink "SquareCodeLaw" 36 y_X_optimise ∈ zW := zin 235 (by decide +kernel) (by decide +kernel)
theorem kw_236 : Cond.instanceMethod y_X_optimise ∈ zW := zin 236 (by decide +kernel) (by decide +kernel)
theorem kw_237 : Cond.selects "SquareCode" y_X_optimise y_X_optimise ∈ zW := zin 237 (by decide +kernel) (by decide +kernel)
theorem kw_238 : Cond.code y_X_optimise prog_1_method_5_code 1 (some .int) ∈ zW := zin 238 (by decide +kernel) (by decide +kernel)
theorem kw_318 : Cond.methodLink "SquareCodeLaw" 40 y_X_run ∈ zW := zin 318 (by decide +kernel) (by decide +kernel)
theorem kw_319 : Cond.instanceMethod y_X_run ∈ zW := zin 319 (by decide +kernel) (by decide +kernel)
theorem kw_320 : Cond.selects "SquareCode" y_X_run y_X_run ∈ zW := zin 320 (by decide +kernel) (by decide +kernel)
theorem kw_321 : Cond.code y_X_run prog_1_method_6_code 5 (some .int) ∈ zW := zin 321 (by decide +kernel) (by decide +kernel)
theorem kw_375 : Cond.methodLink "SquareCodeLaw" 44 y_X_evalDirect ∈ zW := zin 375 (by decide +kernel) (by decide +kernel)
theorem kw_376 : Cond.instanceMethod y_X_evalDirect ∈ zW := zin 376 (by decide +kernel) (by decide +kernel)
theorem kw_377 : Cond.selects "SquareCode" y_X_evalDirect y_X_evalDirect ∈ zW := zin 377 (by decide +kernel) (by decide +kernel)
theorem kw_378 : Cond.code y_X_evalDirect prog_1_method_7_code 2 (some .int) ∈ zW := zin 378 (by decide +kernel) (by decide +kernel)
theorem kw_394 : Cond.methodLink "SquareCodeLaw" 48 y_X_out ∈ zW := zin 394 (by decide +kernel) (by decide +kernel)
theorem kw_395 : Cond.instanceMethod y_X_out ∈ zW := zin 395 (by decide +kernel) (by decide +kernel)
theorem kw_396 : Cond.selects "SquareCode" y_X_out y_X_out ∈ zW := zin 396 (by decide +kernel) (by decide +kernel)
theorem kw_397 : Cond.code y_X_out prog_1_method_8_code 3 (some .int) ∈ zW := zin 397 (by decide +kernel) (by decide +kernel)
theorem kw_400 : Cond.methodLink "SquareCodeLaw" 53 y_X_outDirect ∈ zW := zin 400 (by decide +kernel) (by decide +kernel)
theorem kw_401 : Cond.instanceMethod y_X_outDirect ∈ zW := zin 401 (by decide +kernel) (by decide +kernel)
theorem kw_402 : Cond.selects "SquareCode" y_X_outDirect y_X_outDirect ∈ zW := zin 402 (by decide +kernel) (by decide +kernel)
theorem kw_403 : Cond.code y_X_outDirect prog_1_method_9_code 3 (some .int) ∈ zW := zin 403 (by decide +kernel) (by decide +kernel)
theorem kw_404 : Cond.methodLink "SquareCodeLaw" 57 y_X_codeAt ∈ zW := zin 404 (by decide +kernel) (by decide +kernel)
theorem kw_405 : Cond.instanceMethod y_X_codeAt ∈ zW := zin 405 (by decide +kernel) (by decide +kernel)
theorem kw_406 : Cond.selects "SquareCode" y_X_codeAt y_X_codeAt ∈ zW := zin 406 (by decide +kernel) (by decide +kernel)
theorem kw_407 : Cond.code y_X_codeAt prog_1_method_10_code 2 (some .int) ∈ zW := zin 407 (by decide +kernel) (by decide +kernel)
theorem kw_412 : Cond.methodLink "SquareCodeLaw" 61 y_X_codeSize ∈ zW := zin 412 (by decide +kernel) (by decide +kernel)
theorem kw_413 : Cond.instanceMethod y_X_codeSize ∈ zW := zin 413 (by decide +kernel) (by decide +kernel)
theorem kw_414 : Cond.selects "SquareCode" y_X_codeSize y_X_codeSize ∈ zW := zin 414 (by decide +kernel) (by decide +kernel)
theorem kw_415 : Cond.code y_X_codeSize prog_1_method_11_code 1 (some .int) ∈ zW := zin 415 (by decide +kernel) (by decide +kernel)
theorem kw_416 : Cond.methodLink "SquareCodeLaw" 65 y_X_products ∈ zW := zin 416 (by decide +kernel) (by decide +kernel)
theorem kw_417 : Cond.instanceMethod y_X_products ∈ zW := zin 417 (by decide +kernel) (by decide +kernel)
theorem kw_418 : Cond.selects "SquareCode" y_X_products y_X_products ∈ zW := zin 418 (by decide +kernel) (by decide +kernel)
theorem kw_419 : Cond.code y_X_products prog_1_method_12_code 1 (some .int) ∈ zW := zin 419 (by decide +kernel) (by decide +kernel)
theorem kw_425 : Cond.methodLink "SquareCodeLaw" 69 y_X_reset ∈ zW := zin 425 (by decide +kernel) (by decide +kernel)
theorem kw_426 : Cond.instanceMethod y_X_reset ∈ zW := zin 426 (by decide +kernel) (by decide +kernel)
theorem kw_427 : Cond.selects "SquareCode" y_X_reset y_X_reset ∈ zW := zin 427 (by decide +kernel) (by decide +kernel)
theorem kw_428 : Cond.code y_X_reset prog_1_method_13_code 2 none ∈ zW := zin 428 (by decide +kernel) (by decide +kernel)
theorem kw_435 : Cond.methodLink "SquareCodeLaw" 9 y_L_cell ∈ zW := zin 435 (by decide +kernel) (by decide +kernel)
theorem kw_436 : Cond.static y_L_cell ∈ zW := zin 436 (by decide +kernel) (by decide +kernel)
theorem kw_437 : Cond.code y_L_cell method_2_code 2 (some .int) ∈ zW := zin 437 (by decide +kernel) (by decide +kernel)
theorem kw_438 : Cond.classLink "SquareCodeLaw" 18 "SquareCodeModel" ∈ zW := zin 438 (by decide +kernel) (by decide +kernel)
theorem kw_439 : Cond.instantiable "SquareCodeModel" 24 ∈ zW := zin 439 (by decide +kernel) (by decide +kernel)
theorem kw_440 : Cond.methodLink "SquareCodeLaw" 20 y_N_init ∈ zW := zin 440 (by decide +kernel) (by decide +kernel)
theorem kw_441 : Cond.instanceMethod y_N_init ∈ zW := zin 441 (by decide +kernel) (by decide +kernel)
theorem kw_442 : Cond.code y_N_init prog_8_method_1_code 3 none ∈ zW := zin 442 (by decide +kernel) (by decide +kernel)
theorem kw_517 : Cond.methodLink "SquareCodeLaw" 25 y_N_feed ∈ zW := zin 517 (by decide +kernel) (by decide +kernel)
theorem kw_518 : Cond.instanceMethod y_N_feed ∈ zW := zin 518 (by decide +kernel) (by decide +kernel)
theorem kw_519 : Cond.selects "SquareCodeModel" y_N_feed y_N_feed ∈ zW := zin 519 (by decide +kernel) (by decide +kernel)
theorem kw_520 : Cond.code y_N_feed prog_8_method_10_code 2 (some .int) ∈ zW := zin 520 (by decide +kernel) (by decide +kernel)
theorem kw_521 : Cond.methodLink "SquareCodeLaw" 30 y_N_setInput ∈ zW := zin 521 (by decide +kernel) (by decide +kernel)
theorem kw_522 : Cond.instanceMethod y_N_setInput ∈ zW := zin 522 (by decide +kernel) (by decide +kernel)
theorem kw_523 : Cond.selects "SquareCodeModel" y_N_setInput y_N_setInput ∈ zW := zin 523 (by decide +kernel) (by decide +kernel)
theorem kw_524 : Cond.code y_N_setInput prog_8_method_11_code 5 (some .int) ∈ zW := zin 524 (by decide +kernel) (by decide +kernel)
theorem kw_540 : Cond.methodLink "SquareCodeLaw" 47 y_N_evalDirect ∈ zW := zin 540 (by decide +kernel) (by decide +kernel)
theorem kw_541 : Cond.instanceMethod y_N_evalDirect ∈ zW := zin 541 (by decide +kernel) (by decide +kernel)
theorem kw_542 : Cond.selects "SquareCodeModel" y_N_evalDirect y_N_evalDirect ∈ zW := zin 542 (by decide +kernel) (by decide +kernel)
theorem kw_543 : Cond.code y_N_evalDirect prog_8_method_16_code 6 (some .int) ∈ zW := zin 543 (by decide +kernel) (by decide +kernel)
theorem kw_573 : Cond.methodLink "SquareCodeLaw" 35 y_N_compile ∈ zW := zin 573 (by decide +kernel) (by decide +kernel)
theorem kw_574 : Cond.instanceMethod y_N_compile ∈ zW := zin 574 (by decide +kernel) (by decide +kernel)
theorem kw_575 : Cond.selects "SquareCodeModel" y_N_compile y_N_compile ∈ zW := zin 575 (by decide +kernel) (by decide +kernel)
theorem kw_576 : Cond.code y_N_compile prog_8_method_21_code 7 (some .int) ∈ zW := zin 576 (by decide +kernel) (by decide +kernel)
theorem kw_591 : Cond.methodLink "SquareCodeLaw" 39 y_N_optimise ∈ zW := zin 591 (by decide +kernel) (by decide +kernel)
theorem kw_592 : Cond.instanceMethod y_N_optimise ∈ zW := zin 592 (by decide +kernel) (by decide +kernel)
theorem kw_593 : Cond.selects "SquareCodeModel" y_N_optimise y_N_optimise ∈ zW := zin 593 (by decide +kernel) (by decide +kernel)
theorem kw_594 : Cond.code y_N_optimise prog_8_method_30_code 2 (some .int) ∈ zW := zin 594 (by decide +kernel) (by decide +kernel)
theorem kw_627 : Cond.methodLink "SquareCodeLaw" 43 y_N_run ∈ zW := zin 627 (by decide +kernel) (by decide +kernel)
theorem kw_628 : Cond.instanceMethod y_N_run ∈ zW := zin 628 (by decide +kernel) (by decide +kernel)
theorem kw_629 : Cond.selects "SquareCodeModel" y_N_run y_N_run ∈ zW := zin 629 (by decide +kernel) (by decide +kernel)
theorem kw_630 : Cond.code y_N_run prog_8_method_31_code 3 (some .int) ∈ zW := zin 630 (by decide +kernel) (by decide +kernel)
theorem kw_631 : Cond.methodLink "SquareCodeLaw" 52 y_N_out ∈ zW := zin 631 (by decide +kernel) (by decide +kernel)
theorem kw_632 : Cond.instanceMethod y_N_out ∈ zW := zin 632 (by decide +kernel) (by decide +kernel)
theorem kw_633 : Cond.selects "SquareCodeModel" y_N_out y_N_out ∈ zW := zin 633 (by decide +kernel) (by decide +kernel)
theorem kw_634 : Cond.code y_N_out prog_8_method_32_code 3 (some .int) ∈ zW := zin 634 (by decide +kernel) (by decide +kernel)
theorem kw_635 : Cond.methodLink "SquareCodeLaw" 56 y_N_outDirect ∈ zW := zin 635 (by decide +kernel) (by decide +kernel)
theorem kw_636 : Cond.instanceMethod y_N_outDirect ∈ zW := zin 636 (by decide +kernel) (by decide +kernel)
theorem kw_637 : Cond.selects "SquareCodeModel" y_N_outDirect y_N_outDirect ∈ zW := zin 637 (by decide +kernel) (by decide +kernel)
theorem kw_638 : Cond.code y_N_outDirect prog_8_method_33_code 3 (some .int) ∈ zW := zin 638 (by decide +kernel) (by decide +kernel)
theorem kw_639 : Cond.methodLink "SquareCodeLaw" 60 y_N_codeAt ∈ zW := zin 639 (by decide +kernel) (by decide +kernel)
theorem kw_640 : Cond.instanceMethod y_N_codeAt ∈ zW := zin 640 (by decide +kernel) (by decide +kernel)
theorem kw_641 : Cond.selects "SquareCodeModel" y_N_codeAt y_N_codeAt ∈ zW := zin 641 (by decide +kernel) (by decide +kernel)
theorem kw_642 : Cond.code y_N_codeAt prog_8_method_34_code 3 (some .int) ∈ zW := zin 642 (by decide +kernel) (by decide +kernel)
theorem kw_643 : Cond.methodLink "SquareCodeLaw" 64 y_N_codeSize ∈ zW := zin 643 (by decide +kernel) (by decide +kernel)
theorem kw_644 : Cond.instanceMethod y_N_codeSize ∈ zW := zin 644 (by decide +kernel) (by decide +kernel)
theorem kw_645 : Cond.selects "SquareCodeModel" y_N_codeSize y_N_codeSize ∈ zW := zin 645 (by decide +kernel) (by decide +kernel)
theorem kw_646 : Cond.code y_N_codeSize prog_8_method_35_code 1 (some .int) ∈ zW := zin 646 (by decide +kernel) (by decide +kernel)
theorem kw_647 : Cond.methodLink "SquareCodeLaw" 68 y_N_products ∈ zW := zin 647 (by decide +kernel) (by decide +kernel)
theorem kw_648 : Cond.instanceMethod y_N_products ∈ zW := zin 648 (by decide +kernel) (by decide +kernel)
theorem kw_649 : Cond.selects "SquareCodeModel" y_N_products y_N_products ∈ zW := zin 649 (by decide +kernel) (by decide +kernel)
theorem kw_650 : Cond.code y_N_products prog_8_method_36_code 3 (some .int) ∈ zW := zin 650 (by decide +kernel) (by decide +kernel)
theorem kw_651 : Cond.methodLink "SquareCodeLaw" 72 y_N_reset ∈ zW := zin 651 (by decide +kernel) (by decide +kernel)
theorem kw_652 : Cond.instanceMethod y_N_reset ∈ zW := zin 652 (by decide +kernel) (by decide +kernel)
theorem kw_653 : Cond.selects "SquareCodeModel" y_N_reset y_N_reset ∈ zW := zin 653 (by decide +kernel) (by decide +kernel)
theorem kw_654 : Cond.code y_N_reset prog_8_method_37_code 2 none ∈ zW := zin 654 (by decide +kernel) (by decide +kernel)
theorem mw_X_feed : zVW y_X_feed prog_1_method_2_code 2 ((some .int)) 1 := ⟨kw_128, kw_1, kw_126, kw_127, ⟨by decide +kernel, by decide +kernel, by decide +kernel⟩⟩
theorem mw_N_feed : zVW y_N_feed prog_8_method_10_code 2 ((some .int)) 1 := ⟨kw_520, kw_7, kw_518, kw_519, ⟨by decide +kernel, by decide +kernel, by decide +kernel⟩⟩
theorem mw_X_setInput : zVW y_X_setInput prog_1_method_3_code 5 ((some .int)) 4 := ⟨kw_148, kw_1, kw_146, kw_147, ⟨by decide +kernel, by decide +kernel, by decide +kernel⟩⟩
theorem mw_N_setInput : zVW y_N_setInput prog_8_method_11_code 5 ((some .int)) 4 := ⟨kw_524, kw_7, kw_522, kw_523, ⟨by decide +kernel, by decide +kernel, by decide +kernel⟩⟩
theorem mw_X_compile : zVW y_X_compile prog_1_method_4_code 2 ((some .int)) 0 := ⟨kw_167, kw_1, kw_165, kw_166, ⟨by decide +kernel, by decide +kernel, by decide +kernel⟩⟩
theorem mw_N_compile : zVW y_N_compile prog_8_method_21_code 7 ((some .int)) 0 := ⟨kw_576, kw_7, kw_574, kw_575, ⟨by decide +kernel, by decide +kernel, by decide +kernel⟩⟩
theorem mw_X_optimise : zVW y_X_optimise prog_1_method_5_code 1 ((some .int)) 0 := ⟨kw_238, kw_1, kw_236, kw_237, ⟨by decide +kernel, by decide +kernel, by decide +kernel⟩⟩
theorem mw_N_optimise : zVW y_N_optimise prog_8_method_30_code 2 ((some .int)) 0 := ⟨kw_594, kw_7, kw_592, kw_593, ⟨by decide +kernel, by decide +kernel, by decide +kernel⟩⟩
theorem mw_X_run : zVW y_X_run prog_1_method_6_code 5 ((some .int)) 1 := ⟨kw_321, kw_1, kw_319, kw_320, ⟨by decide +kernel, by decide +kernel, by decide +kernel⟩⟩
theorem mw_N_run : zVW y_N_run prog_8_method_31_code 3 ((some .int)) 1 := ⟨kw_630, kw_7, kw_628, kw_629, ⟨by decide +kernel, by decide +kernel, by decide +kernel⟩⟩
theorem mw_X_evalDirect : zVW y_X_evalDirect prog_1_method_7_code 2 ((some .int)) 0 := ⟨kw_378, kw_1, kw_376, kw_377, ⟨by decide +kernel, by decide +kernel, by decide +kernel⟩⟩
theorem mw_N_evalDirect : zVW y_N_evalDirect prog_8_method_16_code 6 ((some .int)) 0 := ⟨kw_543, kw_7, kw_541, kw_542, ⟨by decide +kernel, by decide +kernel, by decide +kernel⟩⟩
theorem mw_X_out : zVW y_X_out prog_1_method_8_code 3 ((some .int)) 2 := ⟨kw_397, kw_1, kw_395, kw_396, ⟨by decide +kernel, by decide +kernel, by decide +kernel⟩⟩
theorem mw_N_out : zVW y_N_out prog_8_method_32_code 3 ((some .int)) 2 := ⟨kw_634, kw_7, kw_632, kw_633, ⟨by decide +kernel, by decide +kernel, by decide +kernel⟩⟩
theorem mw_X_outDirect : zVW y_X_outDirect prog_1_method_9_code 3 ((some .int)) 2 := ⟨kw_403, kw_1, kw_401, kw_402, ⟨by decide +kernel, by decide +kernel, by decide +kernel⟩⟩
theorem mw_N_outDirect : zVW y_N_outDirect prog_8_method_33_code 3 ((some .int)) 2 := ⟨kw_638, kw_7, kw_636, kw_637, ⟨by decide +kernel, by decide +kernel, by decide +kernel⟩⟩
theorem mw_X_codeAt : zVW y_X_codeAt prog_1_method_10_code 2 ((some .int)) 1 := ⟨kw_407, kw_1, kw_405, kw_406, ⟨by decide +kernel, by decide +kernel, by decide +kernel⟩⟩
theorem mw_N_codeAt : zVW y_N_codeAt prog_8_method_34_code 3 ((some .int)) 1 := ⟨kw_642, kw_7, kw_640, kw_641, ⟨by decide +kernel, by decide +kernel, by decide +kernel⟩⟩
theorem mw_X_codeSize : zVW y_X_codeSize prog_1_method_11_code 1 ((some .int)) 0 := ⟨kw_415, kw_1, kw_413, kw_414, ⟨by decide +kernel, by decide +kernel, by decide +kernel⟩⟩
theorem mw_N_codeSize : zVW y_N_codeSize prog_8_method_35_code 1 ((some .int)) 0 := ⟨kw_646, kw_7, kw_644, kw_645, ⟨by decide +kernel, by decide +kernel, by decide +kernel⟩⟩
theorem mw_X_products : zVW y_X_products prog_1_method_12_code 1 ((some .int)) 0 := ⟨kw_419, kw_1, kw_417, kw_418, ⟨by decide +kernel, by decide +kernel, by decide +kernel⟩⟩
theorem mw_N_products : zVW y_N_products prog_8_method_36_code 3 ((some .int)) 0 := ⟨kw_650, kw_7, kw_648, kw_649, ⟨by decide +kernel, by decide +kernel, by decide +kernel⟩⟩
theorem mw_X_reset : zVW y_X_reset prog_1_method_13_code 2 none 0 := ⟨kw_428, kw_1, kw_426, kw_427, ⟨by decide +kernel, by decide +kernel, by decide +kernel⟩⟩
theorem mw_N_reset : zVW y_N_reset prog_8_method_37_code 2 none 0 := ⟨kw_654, kw_7, kw_652, kw_653, ⟨by decide +kernel, by decide +kernel, by decide +kernel⟩⟩
theorem mw_L_cell : zSW y_L_cell method_2_code 2 ((some .int)) 2 := ⟨kw_437, kw_0, kw_436, ⟨by decide +kernel, by decide +kernel, by decide +kernel⟩⟩
theorem mw_X_init : zIW y_X_init prog_1_method_1_code 5 2 := ⟨kw_15, kw_1, kw_14, rfl, ⟨by decide +kernel, by decide +kernel, by decide +kernel⟩⟩
theorem mw_N_init : zIW y_N_init prog_8_method_1_code 3 2 := ⟨kw_442, kw_7, kw_441, rfl, ⟨by decide +kernel, by decide +kernel, by decide +kernel⟩⟩
abbrev W_XMRCPOVN (kI kZ : ClassId) (qX qM qR qC qP qO qV qN : Nat → Nat) (M_nc M_nf : Nat) (X_instructionsDone X_isWorkedOut M_modulus M_side M_size : Int32) (M_cells M_fresh : Nat → Int32) (R_length : Int32) (R_words : Nat → Int32) (C_length : Int32) (C_instructions P_registers : Nat → Int32) (O_modulus : Int32) (O_valueOf O_isNeeded O_registerOf : Nat → Int32) (V_length : Int32) (V_instructions : Nat → Int32) (N_p N_n N_words N_hasDirect N_compiled N_size N_outcome N_done N_values : Int32) (N_word N_table N_direct N_op N_a N_b N_x N_there N_vOp N_vA N_vB N_vX N_needed N_valueOf N_place : Nat → Int32) : va_W := [(qX 0, .inr (5, [.ref (qM 0), .ref (qR 0), .ref (qC 0), .ref (qP 0), .ref (qO 0), .int X_instructionsDone, .int X_isWorkedOut])), (qM 0, .inr (2, [.int M_modulus, .int M_side, .int M_size, .ref (qM 1), .ref (qM 2)])), (qM 1, .inl (kI, M_nc, .inl M_cells)), (qM 2, .inl (kI, M_nf, .inl M_fresh)), (qR 0, .inr (4, [.ref (qR 1), .int R_length])), (qR 1, .inl (kI, 24, .inl R_words)), (qC 0, .inr (0, [.ref (qC 1), .int C_length])), (qC 1, .inl (kI, 40, .inl C_instructions)), (qP 0, .inr (1, [.ref (qP 1)])), (qP 1, .inl (kI, 24, .inl P_registers)), (qO 0, .inr (3, [.int O_modulus, .ref (qV 0), .ref (qO 1), .ref (qO 2), .ref (qO 3)])), (qO 1, .inl (kI, 40, .inl O_valueOf)), (qO 2, .inl (kZ, 40, .inl O_isNeeded)), (qO 3, .inl (kI, 40, .inl O_registerOf)), (qV 0, .inr (0, [.ref (qV 1), .int V_length])), (qV 1, .inl (kI, 40, .inl V_instructions)), (qN 0, .inr (6, [.int N_p, .int N_n, .int N_words, .ref (qN 1), .ref (qN 2), .ref (qN 3), .int N_hasDirect, .int N_compiled, .int N_size, .ref (qN 4), .ref (qN 5), .ref (qN 6), .ref (qN 7), .int N_outcome, .int N_done, .ref (qN 8), .int N_values, .ref (qN 9), .ref (qN 10), .ref (qN 11), .ref (qN 12), .ref (qN 13), .ref (qN 14), .ref (qN 15)])), (qN 1, .inl (kI, 24, .inl N_word)), (qN 2, .inl (kI, 1136, .inl N_table)), (qN 3, .inl (kI, 16, .inl N_direct)), (qN 4, .inl (kI, 48, .inl N_op)), (qN 5, .inl (kI, 48, .inl N_a)), (qN 6, .inl (kI, 48, .inl N_b)), (qN 7, .inl (kI, 48, .inl N_x)), (qN 8, .inl (kI, 25, .inl N_there)), (qN 9, .inl (kI, 48, .inl N_vOp)), (qN 10, .inl (kI, 48, .inl N_vA)), (qN 11, .inl (kI, 48, .inl N_vB)), (qN 12, .inl (kI, 48, .inl N_vX)), (qN 13, .inl (kZ, 48, .inl N_needed)), (qN 14, .inl (kI, 48, .inl N_valueOf)), (qN 15, .inl (kI, 48, .inl N_place))]
def f_L_law_38 (L : Nat) (xs : Nat → Int32) (M_nc M_nf : Nat) (M_modulus M_side M_size O_modulus N_p N_n : Int32) : Nat → Int32 → Int32 → Int32 → (Nat → Int32) → (Nat → Int32) → (Nat → Int32) → Int32 → (Nat → Int32) → Int32 → (Nat → Int32) → (Nat → Int32) → (Nat → Int32) → (Nat → Int32) → (Nat → Int32) → Int32 → Int32 → (Nat → Int32) → (Nat → Int32) → (Nat → Int32) → Int32 → Int32 → Int32 → (Nat → Int32) → (Nat → Int32) → (Nat → Int32) → (Nat → Int32) → Int32 → Int32 → (Nat → Int32) → Int32 → (Nat → Int32) → (Nat → Int32) → (Nat → Int32) → (Nat → Int32) → (Nat → Int32) → (Nat → Int32) → (Nat → Int32) → Option (Int32)
  | 0, _, _, _, _, _, _, _, _, _, _, _, _, _, _, _, _, _, _, _, _, _, _, _, _, _, _, _, _, _, _, _, _, _, _, _, _, _ => none
  | fu + 1, v3, X_instructionsDone, X_isWorkedOut, M_cells, M_fresh, R_words, R_length, C_instructions, C_length, P_registers, O_valueOf, O_isNeeded, O_registerOf, V_instructions, V_length, N_words, N_word, N_table, N_direct, N_hasDirect, N_compiled, N_size, N_op, N_a, N_b, N_x, N_outcome, N_done, N_there, N_values, N_vOp, N_vA, N_vB, N_vX, N_needed, N_valueOf, N_place =>
    if ((Int32.ofNat L) - (5 : Int32)) < v3 then
      some (1 : Int32)
    else
      gd v3 L <|
      if ((xs v3.toNatClampNeg) &&& (15 : Int32)) = (0 : Int32) then
        gd (v3 + (1 : Int32)) L <|
        (f_X_feed R_words R_length C_length (xs (v3 + (1 : Int32)).toNatClampNeg)).bind fun r1 =>
        gd (v3 + (1 : Int32)) L <|
        (f_N_feed N_words N_word N_compiled (xs (v3 + (1 : Int32)).toNatClampNeg)).bind fun r2 =>
        if r1.1 = r2.1 then
          f_L_law_38 L xs M_nc M_nf M_modulus M_side M_size O_modulus N_p N_n fu (v3 + (5 : Int32)) X_instructionsDone X_isWorkedOut M_cells M_fresh r1.2.1 r1.2.2 C_instructions C_length P_registers O_valueOf O_isNeeded O_registerOf V_instructions V_length r2.2.1 r2.2.2 N_table N_direct N_hasDirect N_compiled N_size N_op N_a N_b N_x N_outcome N_done N_there N_values N_vOp N_vA N_vB N_vX N_needed N_valueOf N_place
        else
          some (0 : Int32)
      else
      if ((xs v3.toNatClampNeg) &&& (15 : Int32)) = (1 : Int32) then
        gd (v3 + (1 : Int32)) L <|
        gd (v3 + (2 : Int32)) L <|
        gd (v3 + (3 : Int32)) L <|
        gd (v3 + (4 : Int32)) L <|
        (f_X_setInput M_nc X_instructionsDone M_modulus M_side M_size M_cells (xs (v3 + (1 : Int32)).toNatClampNeg) (xs (v3 + (2 : Int32)).toNatClampNeg) (xs (v3 + (3 : Int32)).toNatClampNeg) (xs (v3 + (4 : Int32)).toNatClampNeg)).bind fun r3 =>
        gd (v3 + (1 : Int32)) L <|
        gd (v3 + (2 : Int32)) L <|
        gd (v3 + (3 : Int32)) L <|
        gd (v3 + (4 : Int32)) L <|
        (f_N_setInput N_p N_n N_table N_done (xs (v3 + (1 : Int32)).toNatClampNeg) (xs (v3 + (2 : Int32)).toNatClampNeg) (xs (v3 + (3 : Int32)).toNatClampNeg) (xs (v3 + (4 : Int32)).toNatClampNeg)).bind fun r4 =>
        if r3.1 = r4.1 then
          f_L_law_38 L xs M_nc M_nf M_modulus M_side M_size O_modulus N_p N_n fu (v3 + (5 : Int32)) r3.2.1 X_isWorkedOut r3.2.2 M_fresh R_words R_length C_instructions C_length P_registers O_valueOf O_isNeeded O_registerOf V_instructions V_length N_words N_word r4.2.1 N_direct N_hasDirect N_compiled N_size N_op N_a N_b N_x N_outcome r4.2.2 N_there N_values N_vOp N_vA N_vB N_vX N_needed N_valueOf N_place
        else
          some (0 : Int32)
      else
      if ((xs v3.toNatClampNeg) &&& (15 : Int32)) = (2 : Int32) then
        (f_X_compile X_instructionsDone R_words R_length C_instructions C_length P_registers).bind fun r5 =>
        (f_N_compile N_words N_word N_compiled N_size N_op N_a N_b N_x N_outcome N_done N_there).bind fun r6 =>
        if r5.1 = r6.1 then
          f_L_law_38 L xs M_nc M_nf M_modulus M_side M_size O_modulus N_p N_n fu (v3 + (5 : Int32)) r5.2.1 X_isWorkedOut M_cells M_fresh R_words R_length r5.2.2.1 r5.2.2.2.1 r5.2.2.2.2 O_valueOf O_isNeeded O_registerOf V_instructions V_length N_words N_word N_table N_direct N_hasDirect r6.2.1 r6.2.2.1 r6.2.2.2.1 r6.2.2.2.2.1 r6.2.2.2.2.2.1 r6.2.2.2.2.2.2.1 r6.2.2.2.2.2.2.2.1 r6.2.2.2.2.2.2.2.2.1 r6.2.2.2.2.2.2.2.2.2 N_values N_vOp N_vA N_vB N_vX N_needed N_valueOf N_place
        else
          some (0 : Int32)
      else
      if ((xs v3.toNatClampNeg) &&& (15 : Int32)) = (3 : Int32) then
        (f_X_optimise X_instructionsDone C_instructions C_length O_modulus O_valueOf O_isNeeded O_registerOf V_instructions V_length).bind fun r7 =>
        (f_N_optimise N_p N_compiled N_size N_op N_a N_b N_x N_outcome N_done N_values N_vOp N_vA N_vB N_vX N_needed N_valueOf N_place).bind fun r8 =>
        if r7.1 = r8.1 then
          f_L_law_38 L xs M_nc M_nf M_modulus M_side M_size O_modulus N_p N_n fu (v3 + (5 : Int32)) r7.2.1 X_isWorkedOut M_cells M_fresh R_words R_length r7.2.2.1 r7.2.2.2.1 P_registers r7.2.2.2.2.1 r7.2.2.2.2.2.1 r7.2.2.2.2.2.2.1 r7.2.2.2.2.2.2.2.1 r7.2.2.2.2.2.2.2.2 N_words N_word N_table N_direct N_hasDirect N_compiled r8.2.1 r8.2.2.1 r8.2.2.2.1 r8.2.2.2.2.1 r8.2.2.2.2.2.1 r8.2.2.2.2.2.2.1 r8.2.2.2.2.2.2.2.1 N_there r8.2.2.2.2.2.2.2.2.1 r8.2.2.2.2.2.2.2.2.2.1 r8.2.2.2.2.2.2.2.2.2.2.1 r8.2.2.2.2.2.2.2.2.2.2.2.1 r8.2.2.2.2.2.2.2.2.2.2.2.2.1 r8.2.2.2.2.2.2.2.2.2.2.2.2.2.1 r8.2.2.2.2.2.2.2.2.2.2.2.2.2.2.1 r8.2.2.2.2.2.2.2.2.2.2.2.2.2.2.2
        else
          some (0 : Int32)
      else
      if ((xs v3.toNatClampNeg) &&& (15 : Int32)) = (4 : Int32) then
        gd (v3 + (1 : Int32)) L <|
        (f_X_run M_nc M_nf X_instructionsDone M_modulus M_side M_size M_cells M_fresh C_instructions C_length (xs (v3 + (1 : Int32)).toNatClampNeg)).bind fun r9 =>
        gd (v3 + (1 : Int32)) L <|
        (f_N_run N_p N_n N_table N_compiled N_size N_op N_a N_b N_x N_done (xs (v3 + (1 : Int32)).toNatClampNeg)).bind fun r10 =>
        if r9.1 = r10.1 then
          f_L_law_38 L xs M_nc M_nf M_modulus M_side M_size O_modulus N_p N_n fu (v3 + (5 : Int32)) r9.2.1 X_isWorkedOut r9.2.2.1 r9.2.2.2 R_words R_length C_instructions C_length P_registers O_valueOf O_isNeeded O_registerOf V_instructions V_length N_words N_word r10.2.1 N_direct N_hasDirect N_compiled N_size N_op N_a N_b N_x N_outcome r10.2.2 N_there N_values N_vOp N_vA N_vB N_vX N_needed N_valueOf N_place
        else
          some (0 : Int32)
      else
      if ((xs v3.toNatClampNeg) &&& (15 : Int32)) = (5 : Int32) then
        (f_X_evalDirect M_nc M_nf X_isWorkedOut M_modulus M_side M_size M_cells M_fresh R_words R_length).bind fun r11 =>
        (f_N_evalDirect N_p N_n N_words N_word N_table N_direct N_hasDirect).bind fun r12 =>
        if r11.1 = r12.1 then
          f_L_law_38 L xs M_nc M_nf M_modulus M_side M_size O_modulus N_p N_n fu (v3 + (5 : Int32)) X_instructionsDone r11.2.1 r11.2.2.1 r11.2.2.2 R_words R_length C_instructions C_length P_registers O_valueOf O_isNeeded O_registerOf V_instructions V_length N_words N_word r12.2.1 r12.2.2.1 r12.2.2.2 N_compiled N_size N_op N_a N_b N_x N_outcome N_done N_there N_values N_vOp N_vA N_vB N_vX N_needed N_valueOf N_place
        else
          some (0 : Int32)
      else
      if ((xs v3.toNatClampNeg) &&& (15 : Int32)) = (6 : Int32) then
        gd (v3 + (1 : Int32)) L <|
        gd (v3 + (2 : Int32)) L <|
        (f_X_out M_nc X_instructionsDone M_side M_size M_cells C_length (xs (v3 + (1 : Int32)).toNatClampNeg) (xs (v3 + (2 : Int32)).toNatClampNeg)).bind fun r13 =>
        gd (v3 + (1 : Int32)) L <|
        gd (v3 + (2 : Int32)) L <|
        (f_N_out N_n N_table N_compiled N_size N_outcome N_done (xs (v3 + (1 : Int32)).toNatClampNeg) (xs (v3 + (2 : Int32)).toNatClampNeg)).bind fun r14 =>
        if r13 = r14 then
          f_L_law_38 L xs M_nc M_nf M_modulus M_side M_size O_modulus N_p N_n fu (v3 + (5 : Int32)) X_instructionsDone X_isWorkedOut M_cells M_fresh R_words R_length C_instructions C_length P_registers O_valueOf O_isNeeded O_registerOf V_instructions V_length N_words N_word N_table N_direct N_hasDirect N_compiled N_size N_op N_a N_b N_x N_outcome N_done N_there N_values N_vOp N_vA N_vB N_vX N_needed N_valueOf N_place
        else
          some (0 : Int32)
      else
      if ((xs v3.toNatClampNeg) &&& (15 : Int32)) = (7 : Int32) then
        gd (v3 + (1 : Int32)) L <|
        gd (v3 + (2 : Int32)) L <|
        (f_X_outDirect M_nc X_isWorkedOut M_side M_size M_cells (xs (v3 + (1 : Int32)).toNatClampNeg) (xs (v3 + (2 : Int32)).toNatClampNeg)).bind fun r15 =>
        gd (v3 + (1 : Int32)) L <|
        gd (v3 + (2 : Int32)) L <|
        (f_N_outDirect N_n N_direct N_hasDirect (xs (v3 + (1 : Int32)).toNatClampNeg) (xs (v3 + (2 : Int32)).toNatClampNeg)).bind fun r16 =>
        if r15 = r16 then
          f_L_law_38 L xs M_nc M_nf M_modulus M_side M_size O_modulus N_p N_n fu (v3 + (5 : Int32)) X_instructionsDone X_isWorkedOut M_cells M_fresh R_words R_length C_instructions C_length P_registers O_valueOf O_isNeeded O_registerOf V_instructions V_length N_words N_word N_table N_direct N_hasDirect N_compiled N_size N_op N_a N_b N_x N_outcome N_done N_there N_values N_vOp N_vA N_vB N_vX N_needed N_valueOf N_place
        else
          some (0 : Int32)
      else
      if ((xs v3.toNatClampNeg) &&& (15 : Int32)) = (8 : Int32) then
        gd (v3 + (1 : Int32)) L <|
        (f_X_codeAt C_instructions C_length (xs (v3 + (1 : Int32)).toNatClampNeg)).bind fun r17 =>
        gd (v3 + (1 : Int32)) L <|
        (f_N_codeAt N_compiled N_size N_op N_a N_b N_x (xs (v3 + (1 : Int32)).toNatClampNeg)).bind fun r18 =>
        if r17 = r18 then
          f_L_law_38 L xs M_nc M_nf M_modulus M_side M_size O_modulus N_p N_n fu (v3 + (5 : Int32)) X_instructionsDone X_isWorkedOut M_cells M_fresh R_words R_length C_instructions C_length P_registers O_valueOf O_isNeeded O_registerOf V_instructions V_length N_words N_word N_table N_direct N_hasDirect N_compiled N_size N_op N_a N_b N_x N_outcome N_done N_there N_values N_vOp N_vA N_vB N_vX N_needed N_valueOf N_place
        else
          some (0 : Int32)
      else
      if ((xs v3.toNatClampNeg) &&& (15 : Int32)) = (9 : Int32) then
        (f_X_codeSize C_length).bind fun r19 =>
        (f_N_codeSize N_compiled N_size).bind fun r20 =>
        if r19 = r20 then
          f_L_law_38 L xs M_nc M_nf M_modulus M_side M_size O_modulus N_p N_n fu (v3 + (5 : Int32)) X_instructionsDone X_isWorkedOut M_cells M_fresh R_words R_length C_instructions C_length P_registers O_valueOf O_isNeeded O_registerOf V_instructions V_length N_words N_word N_table N_direct N_hasDirect N_compiled N_size N_op N_a N_b N_x N_outcome N_done N_there N_values N_vOp N_vA N_vB N_vX N_needed N_valueOf N_place
        else
          some (0 : Int32)
      else
      if ((xs v3.toNatClampNeg) &&& (15 : Int32)) = (10 : Int32) then
        (f_X_products C_instructions C_length).bind fun r21 =>
        (f_N_products N_compiled N_size N_op).bind fun r22 =>
        if r21 = r22 then
          f_L_law_38 L xs M_nc M_nf M_modulus M_side M_size O_modulus N_p N_n fu (v3 + (5 : Int32)) X_instructionsDone X_isWorkedOut M_cells M_fresh R_words R_length C_instructions C_length P_registers O_valueOf O_isNeeded O_registerOf V_instructions V_length N_words N_word N_table N_direct N_hasDirect N_compiled N_size N_op N_a N_b N_x N_outcome N_done N_there N_values N_vOp N_vA N_vB N_vX N_needed N_valueOf N_place
        else
          some (0 : Int32)
      else
      if ((xs v3.toNatClampNeg) &&& (15 : Int32)) = (11 : Int32) then
        (f_X_reset M_nc X_instructionsDone X_isWorkedOut M_size M_cells R_length C_length).bind fun r23 =>
        (f_N_reset N_words N_table N_hasDirect N_compiled N_size N_done).bind fun r24 =>
        f_L_law_38 L xs M_nc M_nf M_modulus M_side M_size O_modulus N_p N_n fu (v3 + (5 : Int32)) r23.1 r23.2.1 r23.2.2.1 M_fresh R_words r23.2.2.2.1 C_instructions r23.2.2.2.2 P_registers O_valueOf O_isNeeded O_registerOf V_instructions V_length r24.1 N_word r24.2.1 N_direct r24.2.2.1 r24.2.2.2.1 r24.2.2.2.2.1 N_op N_a N_b N_x N_outcome r24.2.2.2.2.2 N_there N_values N_vOp N_vA N_vB N_vX N_needed N_valueOf N_place
      else
      f_L_law_38 L xs M_nc M_nf M_modulus M_side M_size O_modulus N_p N_n fu (v3 + (5 : Int32)) X_instructionsDone X_isWorkedOut M_cells M_fresh R_words R_length C_instructions C_length P_registers O_valueOf O_isNeeded O_registerOf V_instructions V_length N_words N_word N_table N_direct N_hasDirect N_compiled N_size N_op N_a N_b N_x N_outcome N_done N_there N_values N_vOp N_vA N_vB N_vX N_needed N_valueOf N_place
def f_L_law (L M_nc M_nf : Nat) (xs : Nat → Int32) (X_instructionsDone X_isWorkedOut M_modulus M_side M_size : Int32) (M_cells M_fresh R_words : Nat → Int32) (R_length : Int32) (C_instructions : Nat → Int32) (C_length : Int32) (P_registers : Nat → Int32) (O_modulus : Int32) (O_valueOf O_isNeeded O_registerOf V_instructions : Nat → Int32) (V_length N_p N_n N_words : Int32) (N_word N_table N_direct : Nat → Int32) (N_hasDirect N_compiled N_size : Int32) (N_op N_a N_b N_x : Nat → Int32) (N_outcome N_done : Int32) (N_there : Nat → Int32) (N_values : Int32) (N_vOp N_vA N_vB N_vX N_needed N_valueOf N_place : Nat → Int32) : Option (Int32) :=
  f_L_law_38 L xs M_nc M_nf M_modulus M_side M_size O_modulus N_p N_n zFU (2 : Int32) X_instructionsDone X_isWorkedOut M_cells M_fresh R_words R_length C_instructions C_length P_registers O_valueOf O_isNeeded O_registerOf V_instructions V_length N_words N_word N_table N_direct N_hasDirect N_compiled N_size N_op N_a N_b N_x N_outcome N_done N_there N_values N_vOp N_vA N_vB N_vX N_needed N_valueOf N_place

theorem d_lw_law_0 : bgd code 0 (.new 8) 3 3 := ⟨by decide +kernel, rfl⟩
theorem d_lw_law_3 : bgd code 3 (.dup) 1 4 := ⟨by decide +kernel, rfl⟩
theorem d_lw_law_4 : bgd code 4 (.invokespecial 67) 3 7 := ⟨by decide +kernel, rfl⟩
theorem d_lw_law_7 : bgd code 7 (.astore_n 1) 1 8 := ⟨by decide +kernel, rfl⟩
theorem d_lw_law_8 : bgd code 8 (.new 68) 3 11 := ⟨by decide +kernel, rfl⟩
theorem d_lw_law_11 : bgd code 11 (.dup) 1 12 := ⟨by decide +kernel, rfl⟩
theorem d_lw_law_12 : bgd code 12 (.invokespecial 70) 3 15 := ⟨by decide +kernel, rfl⟩
theorem d_lw_law_15 : bgd code 15 (.astore_n 2) 1 16 := ⟨by decide +kernel, rfl⟩
theorem d_lw_law_16 : bgd code 16 (.iconst 1) 1 17 := ⟨by decide +kernel, rfl⟩
theorem d_lw_law_17 : bgd code 17 (.newarray .long) 2 19 := ⟨by decide +kernel, rfl⟩
theorem d_lw_law_19 : bgd code 19 (.astore_n 3) 1 20 := ⟨by decide +kernel, rfl⟩
theorem d_lw_law_20 : bgd code 20 (.iconst 0) 1 21 := ⟨by decide +kernel, rfl⟩
theorem d_lw_law_21 : bgd code 21 (.istore 4) 2 23 := ⟨by decide +kernel, rfl⟩
theorem d_lw_law_23 : bgd code 23 (.iload 4) 2 25 := ⟨by decide +kernel, rfl⟩
theorem d_lw_law_25 : bgd code 25 (.aload_n 0) 1 26 := ⟨by decide +kernel, rfl⟩
theorem d_lw_law_26 : bgd code 26 (.arraylength) 1 27 := ⟨by decide +kernel, rfl⟩
theorem d_lw_law_27 : bgd code 27 (.iconst 4) 1 28 := ⟨by decide +kernel, rfl⟩
theorem d_lw_law_28 : bgd code 28 (.isub) 1 29 := ⟨by decide +kernel, rfl⟩
theorem d_lw_law_29 : bgd code 29 (.if_icmp .gt 522) 3 32 := ⟨by decide +kernel, rfl⟩
theorem d_lw_law_32 : bgd code 32 (.aload_n 0) 1 33 := ⟨by decide +kernel, rfl⟩
theorem d_lw_law_33 : bgd code 33 (.iload 4) 2 35 := ⟨by decide +kernel, rfl⟩
theorem d_lw_law_35 : bgd code 35 (.iaload) 1 36 := ⟨by decide +kernel, rfl⟩
theorem d_lw_law_36 : bgd code 36 (.bipush 15) 2 38 := ⟨by decide +kernel, rfl⟩
theorem d_lw_law_38 : bgd code 38 (.iand) 1 39 := ⟨by decide +kernel, rfl⟩
theorem d_lw_law_39 : decode code 39 = .ok (.tableswitch 506 0 15 #[77, 90, 103, 155, 180, 196, 212, 248, 261, 301, 326, 354, 382, 410, 450, 478], 77) := by decide +kernel
theorem d_lw_law_116 : bgd code 116 (.aload_n 1) 1 117 := ⟨by decide +kernel, rfl⟩
theorem d_lw_law_117 : bgd code 117 (.invokevirtual 71) 3 120 := ⟨by decide +kernel, rfl⟩
theorem d_lw_law_120 : bgd code 120 (.pop) 1 121 := ⟨by decide +kernel, rfl⟩
theorem d_lw_law_121 : bgd code 121 (.aload_n 2) 1 122 := ⟨by decide +kernel, rfl⟩
theorem d_lw_law_122 : bgd code 122 (.invokevirtual 74) 3 125 := ⟨by decide +kernel, rfl⟩
theorem d_lw_law_125 : bgd code 125 (.pop) 1 126 := ⟨by decide +kernel, rfl⟩
theorem d_lw_law_126 : bgd code 126 (.goto 419) 3 129 := ⟨by decide +kernel, rfl⟩
theorem d_lw_law_129 : bgd code 129 (.aload_n 1) 1 130 := ⟨by decide +kernel, rfl⟩
theorem d_lw_law_130 : bgd code 130 (.invokestatic 75) 3 133 := ⟨by decide +kernel, rfl⟩
theorem d_lw_law_133 : bgd code 133 (.istore 5) 2 135 := ⟨by decide +kernel, rfl⟩
theorem d_lw_law_135 : bgd code 135 (.aload_n 2) 1 136 := ⟨by decide +kernel, rfl⟩
theorem d_lw_law_136 : bgd code 136 (.invokevirtual 80) 3 139 := ⟨by decide +kernel, rfl⟩
theorem d_lw_law_139 : bgd code 139 (.goto 406) 3 142 := ⟨by decide +kernel, rfl⟩
theorem d_lw_law_142 : bgd code 142 (.aload_n 1) 1 143 := ⟨by decide +kernel, rfl⟩
theorem d_lw_law_143 : bgd code 143 (.aload_n 0) 1 144 := ⟨by decide +kernel, rfl⟩
theorem d_lw_law_144 : bgd code 144 (.iload 4) 2 146 := ⟨by decide +kernel, rfl⟩
theorem d_lw_law_146 : bgd code 146 (.iconst 1) 1 147 := ⟨by decide +kernel, rfl⟩
theorem d_lw_law_147 : bgd code 147 (.iadd) 1 148 := ⟨by decide +kernel, rfl⟩
theorem d_lw_law_148 : bgd code 148 (.iaload) 1 149 := ⟨by decide +kernel, rfl⟩
theorem d_lw_law_149 : bgd code 149 (.aload_n 0) 1 150 := ⟨by decide +kernel, rfl⟩
theorem d_lw_law_150 : bgd code 150 (.iload 4) 2 152 := ⟨by decide +kernel, rfl⟩
theorem d_lw_law_152 : bgd code 152 (.iconst 2) 1 153 := ⟨by decide +kernel, rfl⟩
theorem d_lw_law_153 : bgd code 153 (.iadd) 1 154 := ⟨by decide +kernel, rfl⟩
theorem d_lw_law_154 : bgd code 154 (.iaload) 1 155 := ⟨by decide +kernel, rfl⟩
theorem d_lw_law_155 : bgd code 155 (.aload_n 0) 1 156 := ⟨by decide +kernel, rfl⟩
theorem d_lw_law_156 : bgd code 156 (.iload 4) 2 158 := ⟨by decide +kernel, rfl⟩
theorem d_lw_law_158 : bgd code 158 (.iconst 3) 1 159 := ⟨by decide +kernel, rfl⟩
theorem d_lw_law_159 : bgd code 159 (.iadd) 1 160 := ⟨by decide +kernel, rfl⟩
theorem d_lw_law_160 : bgd code 160 (.iaload) 1 161 := ⟨by decide +kernel, rfl⟩
theorem d_lw_law_161 : bgd code 161 (.aload_n 3) 1 162 := ⟨by decide +kernel, rfl⟩
theorem d_lw_law_162 : bgd code 162 (.invokestatic 81) 3 165 := ⟨by decide +kernel, rfl⟩
theorem d_lw_law_165 : bgd code 165 (.istore 5) 2 167 := ⟨by decide +kernel, rfl⟩
theorem d_lw_law_167 : bgd code 167 (.aload_n 2) 1 168 := ⟨by decide +kernel, rfl⟩
theorem d_lw_law_168 : bgd code 168 (.aload_n 0) 1 169 := ⟨by decide +kernel, rfl⟩
theorem d_lw_law_169 : bgd code 169 (.iload 4) 2 171 := ⟨by decide +kernel, rfl⟩
theorem d_lw_law_171 : bgd code 171 (.iconst 1) 1 172 := ⟨by decide +kernel, rfl⟩
theorem d_lw_law_172 : bgd code 172 (.iadd) 1 173 := ⟨by decide +kernel, rfl⟩
theorem d_lw_law_173 : bgd code 173 (.iaload) 1 174 := ⟨by decide +kernel, rfl⟩
theorem d_lw_law_174 : bgd code 174 (.aload_n 0) 1 175 := ⟨by decide +kernel, rfl⟩
theorem d_lw_law_175 : bgd code 175 (.iload 4) 2 177 := ⟨by decide +kernel, rfl⟩
theorem d_lw_law_177 : bgd code 177 (.iconst 2) 1 178 := ⟨by decide +kernel, rfl⟩
theorem d_lw_law_178 : bgd code 178 (.iadd) 1 179 := ⟨by decide +kernel, rfl⟩
theorem d_lw_law_179 : bgd code 179 (.iaload) 1 180 := ⟨by decide +kernel, rfl⟩
theorem d_lw_law_180 : bgd code 180 (.aload_n 0) 1 181 := ⟨by decide +kernel, rfl⟩
theorem d_lw_law_181 : bgd code 181 (.iload 4) 2 183 := ⟨by decide +kernel, rfl⟩
theorem d_lw_law_183 : bgd code 183 (.iconst 3) 1 184 := ⟨by decide +kernel, rfl⟩
theorem d_lw_law_184 : bgd code 184 (.iadd) 1 185 := ⟨by decide +kernel, rfl⟩
theorem d_lw_law_185 : bgd code 185 (.iaload) 1 186 := ⟨by decide +kernel, rfl⟩
theorem d_lw_law_186 : bgd code 186 (.invokevirtual 84) 3 189 := ⟨by decide +kernel, rfl⟩
theorem d_lw_law_189 : bgd code 189 (.istore 6) 2 191 := ⟨by decide +kernel, rfl⟩
theorem d_lw_law_191 : bgd code 191 (.goto 354) 3 194 := ⟨by decide +kernel, rfl⟩
theorem d_lw_law_194 : bgd code 194 (.aload_n 1) 1 195 := ⟨by decide +kernel, rfl⟩
theorem d_lw_law_195 : bgd code 195 (.aload_n 0) 1 196 := ⟨by decide +kernel, rfl⟩
theorem d_lw_law_196 : bgd code 196 (.iload 4) 2 198 := ⟨by decide +kernel, rfl⟩
theorem d_lw_law_198 : bgd code 198 (.iconst 1) 1 199 := ⟨by decide +kernel, rfl⟩
theorem d_lw_law_199 : bgd code 199 (.iadd) 1 200 := ⟨by decide +kernel, rfl⟩
theorem d_lw_law_200 : bgd code 200 (.iaload) 1 201 := ⟨by decide +kernel, rfl⟩
theorem d_lw_law_201 : bgd code 201 (.invokestatic 85) 3 204 := ⟨by decide +kernel, rfl⟩
theorem d_lw_law_204 : bgd code 204 (.istore 5) 2 206 := ⟨by decide +kernel, rfl⟩
theorem d_lw_law_206 : bgd code 206 (.aload_n 2) 1 207 := ⟨by decide +kernel, rfl⟩
theorem d_lw_law_207 : bgd code 207 (.aload_n 0) 1 208 := ⟨by decide +kernel, rfl⟩
theorem d_lw_law_208 : bgd code 208 (.iload 4) 2 210 := ⟨by decide +kernel, rfl⟩
theorem d_lw_law_210 : bgd code 210 (.iconst 1) 1 211 := ⟨by decide +kernel, rfl⟩
theorem d_lw_law_211 : bgd code 211 (.iadd) 1 212 := ⟨by decide +kernel, rfl⟩
theorem d_lw_law_212 : bgd code 212 (.iaload) 1 213 := ⟨by decide +kernel, rfl⟩
theorem d_lw_law_213 : bgd code 213 (.invokevirtual 88) 3 216 := ⟨by decide +kernel, rfl⟩
theorem d_lw_law_216 : bgd code 216 (.goto 329) 3 219 := ⟨by decide +kernel, rfl⟩
theorem d_lw_law_219 : bgd code 219 (.aload_n 1) 1 220 := ⟨by decide +kernel, rfl⟩
theorem d_lw_law_220 : bgd code 220 (.aload_n 3) 1 221 := ⟨by decide +kernel, rfl⟩
theorem d_lw_law_221 : bgd code 221 (.invokestatic 89) 3 224 := ⟨by decide +kernel, rfl⟩
theorem d_lw_law_224 : bgd code 224 (.istore 5) 2 226 := ⟨by decide +kernel, rfl⟩
theorem d_lw_law_226 : bgd code 226 (.aload_n 2) 1 227 := ⟨by decide +kernel, rfl⟩
theorem d_lw_law_227 : bgd code 227 (.invokevirtual 92) 3 230 := ⟨by decide +kernel, rfl⟩
theorem d_lw_law_230 : bgd code 230 (.istore 6) 2 232 := ⟨by decide +kernel, rfl⟩
theorem d_lw_law_232 : bgd code 232 (.goto 313) 3 235 := ⟨by decide +kernel, rfl⟩
theorem d_lw_law_235 : bgd code 235 (.aload_n 1) 1 236 := ⟨by decide +kernel, rfl⟩
theorem d_lw_law_236 : bgd code 236 (.aload_n 3) 1 237 := ⟨by decide +kernel, rfl⟩
theorem d_lw_law_237 : bgd code 237 (.invokestatic 93) 3 240 := ⟨by decide +kernel, rfl⟩
theorem d_lw_law_240 : bgd code 240 (.istore 5) 2 242 := ⟨by decide +kernel, rfl⟩
theorem d_lw_law_242 : bgd code 242 (.aload_n 2) 1 243 := ⟨by decide +kernel, rfl⟩
theorem d_lw_law_243 : bgd code 243 (.invokevirtual 95) 3 246 := ⟨by decide +kernel, rfl⟩
theorem d_lw_law_246 : bgd code 246 (.istore 6) 2 248 := ⟨by decide +kernel, rfl⟩
theorem d_lw_law_248 : bgd code 248 (.goto 297) 3 251 := ⟨by decide +kernel, rfl⟩
theorem d_lw_law_251 : bgd code 251 (.aload_n 1) 1 252 := ⟨by decide +kernel, rfl⟩
theorem d_lw_law_252 : bgd code 252 (.aload_n 0) 1 253 := ⟨by decide +kernel, rfl⟩
theorem d_lw_law_253 : bgd code 253 (.iload 4) 2 255 := ⟨by decide +kernel, rfl⟩
theorem d_lw_law_255 : bgd code 255 (.iconst 1) 1 256 := ⟨by decide +kernel, rfl⟩
theorem d_lw_law_256 : bgd code 256 (.iadd) 1 257 := ⟨by decide +kernel, rfl⟩
theorem d_lw_law_257 : bgd code 257 (.iaload) 1 258 := ⟨by decide +kernel, rfl⟩
theorem d_lw_law_258 : bgd code 258 (.invokestatic 96) 3 261 := ⟨by decide +kernel, rfl⟩
theorem d_lw_law_261 : bgd code 261 (.istore 5) 2 263 := ⟨by decide +kernel, rfl⟩
theorem d_lw_law_263 : bgd code 263 (.aload_n 2) 1 264 := ⟨by decide +kernel, rfl⟩
theorem d_lw_law_264 : bgd code 264 (.aload_n 0) 1 265 := ⟨by decide +kernel, rfl⟩
theorem d_lw_law_265 : bgd code 265 (.iload 4) 2 267 := ⟨by decide +kernel, rfl⟩
theorem d_lw_law_267 : bgd code 267 (.iconst 1) 1 268 := ⟨by decide +kernel, rfl⟩
theorem d_lw_law_268 : bgd code 268 (.iadd) 1 269 := ⟨by decide +kernel, rfl⟩
theorem d_lw_law_269 : bgd code 269 (.iaload) 1 270 := ⟨by decide +kernel, rfl⟩
theorem d_lw_law_270 : bgd code 270 (.invokevirtual 98) 3 273 := ⟨by decide +kernel, rfl⟩
theorem d_lw_law_273 : bgd code 273 (.aload_n 2) 1 274 := ⟨by decide +kernel, rfl⟩
theorem d_lw_law_274 : bgd code 274 (.invokevirtual 99) 3 277 := ⟨by decide +kernel, rfl⟩
theorem d_lw_law_277 : bgd code 277 (.iload 5) 2 279 := ⟨by decide +kernel, rfl⟩
theorem d_lw_law_279 : bgd code 279 (.if_icmp .eq 5) 3 282 := ⟨by decide +kernel, rfl⟩
theorem d_lw_law_284 : bgd code 284 (.goto 261) 3 287 := ⟨by decide +kernel, rfl⟩
theorem d_lw_law_287 : bgd code 287 (.aload_n 1) 1 288 := ⟨by decide +kernel, rfl⟩
theorem d_lw_law_288 : bgd code 288 (.invokevirtual 102) 3 291 := ⟨by decide +kernel, rfl⟩
theorem d_lw_law_291 : bgd code 291 (.pop) 1 292 := ⟨by decide +kernel, rfl⟩
theorem d_lw_law_292 : bgd code 292 (.aload_n 2) 1 293 := ⟨by decide +kernel, rfl⟩
theorem d_lw_law_293 : bgd code 293 (.invokevirtual 105) 3 296 := ⟨by decide +kernel, rfl⟩
theorem d_lw_law_296 : bgd code 296 (.pop) 1 297 := ⟨by decide +kernel, rfl⟩
theorem d_lw_law_297 : bgd code 297 (.goto 248) 3 300 := ⟨by decide +kernel, rfl⟩
theorem d_lw_law_300 : bgd code 300 (.aload_n 1) 1 301 := ⟨by decide +kernel, rfl⟩
theorem d_lw_law_301 : bgd code 301 (.aload_n 0) 1 302 := ⟨by decide +kernel, rfl⟩
theorem d_lw_law_302 : bgd code 302 (.iload 4) 2 304 := ⟨by decide +kernel, rfl⟩
theorem d_lw_law_304 : bgd code 304 (.iconst 1) 1 305 := ⟨by decide +kernel, rfl⟩
theorem d_lw_law_305 : bgd code 305 (.iadd) 1 306 := ⟨by decide +kernel, rfl⟩
theorem d_lw_law_306 : bgd code 306 (.iaload) 1 307 := ⟨by decide +kernel, rfl⟩
theorem d_lw_law_307 : bgd code 307 (.aload_n 0) 1 308 := ⟨by decide +kernel, rfl⟩
theorem d_lw_law_308 : bgd code 308 (.iload 4) 2 310 := ⟨by decide +kernel, rfl⟩
theorem d_lw_law_310 : bgd code 310 (.iconst 2) 1 311 := ⟨by decide +kernel, rfl⟩
theorem d_lw_law_311 : bgd code 311 (.iadd) 1 312 := ⟨by decide +kernel, rfl⟩
theorem d_lw_law_312 : bgd code 312 (.iaload) 1 313 := ⟨by decide +kernel, rfl⟩
theorem d_lw_law_313 : bgd code 313 (.aload_n 3) 1 314 := ⟨by decide +kernel, rfl⟩
theorem d_lw_law_314 : bgd code 314 (.invokestatic 106) 3 317 := ⟨by decide +kernel, rfl⟩
theorem d_lw_law_317 : bgd code 317 (.istore 5) 2 319 := ⟨by decide +kernel, rfl⟩
theorem d_lw_law_319 : bgd code 319 (.aload_n 2) 1 320 := ⟨by decide +kernel, rfl⟩
theorem d_lw_law_320 : bgd code 320 (.aload_n 0) 1 321 := ⟨by decide +kernel, rfl⟩
theorem d_lw_law_321 : bgd code 321 (.iload 4) 2 323 := ⟨by decide +kernel, rfl⟩
theorem d_lw_law_323 : bgd code 323 (.iconst 1) 1 324 := ⟨by decide +kernel, rfl⟩
theorem d_lw_law_324 : bgd code 324 (.iadd) 1 325 := ⟨by decide +kernel, rfl⟩
theorem d_lw_law_325 : bgd code 325 (.iaload) 1 326 := ⟨by decide +kernel, rfl⟩
theorem d_lw_law_326 : bgd code 326 (.aload_n 0) 1 327 := ⟨by decide +kernel, rfl⟩
theorem d_lw_law_327 : bgd code 327 (.iload 4) 2 329 := ⟨by decide +kernel, rfl⟩
theorem d_lw_law_329 : bgd code 329 (.iconst 2) 1 330 := ⟨by decide +kernel, rfl⟩
theorem d_lw_law_330 : bgd code 330 (.iadd) 1 331 := ⟨by decide +kernel, rfl⟩
theorem d_lw_law_331 : bgd code 331 (.iaload) 1 332 := ⟨by decide +kernel, rfl⟩
theorem d_lw_law_332 : bgd code 332 (.invokevirtual 109) 3 335 := ⟨by decide +kernel, rfl⟩
theorem d_lw_law_335 : bgd code 335 (.istore 6) 2 337 := ⟨by decide +kernel, rfl⟩
theorem d_lw_law_337 : bgd code 337 (.goto 208) 3 340 := ⟨by decide +kernel, rfl⟩
theorem d_lw_law_340 : bgd code 340 (.aload_n 1) 1 341 := ⟨by decide +kernel, rfl⟩
theorem d_lw_law_341 : bgd code 341 (.aload_n 0) 1 342 := ⟨by decide +kernel, rfl⟩
theorem d_lw_law_342 : bgd code 342 (.iload 4) 2 344 := ⟨by decide +kernel, rfl⟩
theorem d_lw_law_344 : bgd code 344 (.iconst 1) 1 345 := ⟨by decide +kernel, rfl⟩
theorem d_lw_law_345 : bgd code 345 (.iadd) 1 346 := ⟨by decide +kernel, rfl⟩
theorem d_lw_law_346 : bgd code 346 (.iaload) 1 347 := ⟨by decide +kernel, rfl⟩
theorem d_lw_law_347 : bgd code 347 (.invokestatic 110) 3 350 := ⟨by decide +kernel, rfl⟩
theorem d_lw_law_350 : bgd code 350 (.istore 5) 2 352 := ⟨by decide +kernel, rfl⟩
theorem d_lw_law_352 : bgd code 352 (.aload_n 2) 1 353 := ⟨by decide +kernel, rfl⟩
theorem d_lw_law_353 : bgd code 353 (.aload_n 0) 1 354 := ⟨by decide +kernel, rfl⟩
theorem d_lw_law_354 : bgd code 354 (.iload 4) 2 356 := ⟨by decide +kernel, rfl⟩
theorem d_lw_law_356 : bgd code 356 (.iconst 1) 1 357 := ⟨by decide +kernel, rfl⟩
theorem d_lw_law_357 : bgd code 357 (.iadd) 1 358 := ⟨by decide +kernel, rfl⟩
theorem d_lw_law_358 : bgd code 358 (.iaload) 1 359 := ⟨by decide +kernel, rfl⟩
theorem d_lw_law_359 : bgd code 359 (.invokevirtual 112) 3 362 := ⟨by decide +kernel, rfl⟩
theorem d_lw_law_362 : bgd code 362 (.goto 183) 3 365 := ⟨by decide +kernel, rfl⟩
theorem d_lw_law_365 : bgd code 365 (.aload_n 1) 1 366 := ⟨by decide +kernel, rfl⟩
theorem d_lw_law_366 : bgd code 366 (.aload_n 0) 1 367 := ⟨by decide +kernel, rfl⟩
theorem d_lw_law_367 : bgd code 367 (.iload 4) 2 369 := ⟨by decide +kernel, rfl⟩
theorem d_lw_law_369 : bgd code 369 (.iconst 1) 1 370 := ⟨by decide +kernel, rfl⟩
theorem d_lw_law_370 : bgd code 370 (.iadd) 1 371 := ⟨by decide +kernel, rfl⟩
theorem d_lw_law_371 : bgd code 371 (.iaload) 1 372 := ⟨by decide +kernel, rfl⟩
theorem d_lw_law_372 : bgd code 372 (.aload_n 3) 1 373 := ⟨by decide +kernel, rfl⟩
theorem d_lw_law_373 : bgd code 373 (.invokestatic 113) 3 376 := ⟨by decide +kernel, rfl⟩
theorem d_lw_law_376 : bgd code 376 (.istore 5) 2 378 := ⟨by decide +kernel, rfl⟩
theorem d_lw_law_378 : bgd code 378 (.aload_n 2) 1 379 := ⟨by decide +kernel, rfl⟩
theorem d_lw_law_379 : bgd code 379 (.aload_n 0) 1 380 := ⟨by decide +kernel, rfl⟩
theorem d_lw_law_380 : bgd code 380 (.iload 4) 2 382 := ⟨by decide +kernel, rfl⟩
theorem d_lw_law_382 : bgd code 382 (.iconst 1) 1 383 := ⟨by decide +kernel, rfl⟩
theorem d_lw_law_383 : bgd code 383 (.iadd) 1 384 := ⟨by decide +kernel, rfl⟩
theorem d_lw_law_384 : bgd code 384 (.iaload) 1 385 := ⟨by decide +kernel, rfl⟩
theorem d_lw_law_385 : bgd code 385 (.invokevirtual 116) 3 388 := ⟨by decide +kernel, rfl⟩
theorem d_lw_law_388 : bgd code 388 (.istore 6) 2 390 := ⟨by decide +kernel, rfl⟩
theorem d_lw_law_390 : bgd code 390 (.goto 155) 3 393 := ⟨by decide +kernel, rfl⟩
theorem d_lw_law_393 : bgd code 393 (.aload_n 1) 1 394 := ⟨by decide +kernel, rfl⟩
theorem d_lw_law_394 : bgd code 394 (.aload_n 0) 1 395 := ⟨by decide +kernel, rfl⟩
theorem d_lw_law_395 : bgd code 395 (.iload 4) 2 397 := ⟨by decide +kernel, rfl⟩
theorem d_lw_law_397 : bgd code 397 (.iconst 1) 1 398 := ⟨by decide +kernel, rfl⟩
theorem d_lw_law_398 : bgd code 398 (.iadd) 1 399 := ⟨by decide +kernel, rfl⟩
theorem d_lw_law_399 : bgd code 399 (.iaload) 1 400 := ⟨by decide +kernel, rfl⟩
theorem d_lw_law_400 : bgd code 400 (.aload_n 3) 1 401 := ⟨by decide +kernel, rfl⟩
theorem d_lw_law_401 : bgd code 401 (.invokestatic 117) 3 404 := ⟨by decide +kernel, rfl⟩
theorem d_lw_law_404 : bgd code 404 (.istore 5) 2 406 := ⟨by decide +kernel, rfl⟩
theorem d_lw_law_406 : bgd code 406 (.aload_n 2) 1 407 := ⟨by decide +kernel, rfl⟩
theorem d_lw_law_407 : bgd code 407 (.aload_n 0) 1 408 := ⟨by decide +kernel, rfl⟩
theorem d_lw_law_408 : bgd code 408 (.iload 4) 2 410 := ⟨by decide +kernel, rfl⟩
theorem d_lw_law_410 : bgd code 410 (.iconst 1) 1 411 := ⟨by decide +kernel, rfl⟩
theorem d_lw_law_411 : bgd code 411 (.iadd) 1 412 := ⟨by decide +kernel, rfl⟩
theorem d_lw_law_412 : bgd code 412 (.iaload) 1 413 := ⟨by decide +kernel, rfl⟩
theorem d_lw_law_413 : bgd code 413 (.invokevirtual 119) 3 416 := ⟨by decide +kernel, rfl⟩
theorem d_lw_law_416 : bgd code 416 (.istore 6) 2 418 := ⟨by decide +kernel, rfl⟩
theorem d_lw_law_418 : bgd code 418 (.goto 127) 3 421 := ⟨by decide +kernel, rfl⟩
theorem d_lw_law_421 : bgd code 421 (.aload_n 1) 1 422 := ⟨by decide +kernel, rfl⟩
theorem d_lw_law_422 : bgd code 422 (.aload_n 0) 1 423 := ⟨by decide +kernel, rfl⟩
theorem d_lw_law_423 : bgd code 423 (.iload 4) 2 425 := ⟨by decide +kernel, rfl⟩
theorem d_lw_law_425 : bgd code 425 (.iconst 1) 1 426 := ⟨by decide +kernel, rfl⟩
theorem d_lw_law_426 : bgd code 426 (.iadd) 1 427 := ⟨by decide +kernel, rfl⟩
theorem d_lw_law_427 : bgd code 427 (.iaload) 1 428 := ⟨by decide +kernel, rfl⟩
theorem d_lw_law_428 : bgd code 428 (.aload_n 3) 1 429 := ⟨by decide +kernel, rfl⟩
theorem d_lw_law_429 : bgd code 429 (.invokestatic 120) 3 432 := ⟨by decide +kernel, rfl⟩
theorem d_lw_law_432 : bgd code 432 (.istore 5) 2 434 := ⟨by decide +kernel, rfl⟩
theorem d_lw_law_434 : bgd code 434 (.aload_n 2) 1 435 := ⟨by decide +kernel, rfl⟩
theorem d_lw_law_435 : bgd code 435 (.aload_n 0) 1 436 := ⟨by decide +kernel, rfl⟩
theorem d_lw_law_436 : bgd code 436 (.iload 4) 2 438 := ⟨by decide +kernel, rfl⟩
theorem d_lw_law_438 : bgd code 438 (.iconst 1) 1 439 := ⟨by decide +kernel, rfl⟩
theorem d_lw_law_439 : bgd code 439 (.iadd) 1 440 := ⟨by decide +kernel, rfl⟩
theorem d_lw_law_440 : bgd code 440 (.iaload) 1 441 := ⟨by decide +kernel, rfl⟩
theorem d_lw_law_441 : bgd code 441 (.invokevirtual 122) 3 444 := ⟨by decide +kernel, rfl⟩
theorem d_lw_law_444 : bgd code 444 (.istore 6) 2 446 := ⟨by decide +kernel, rfl⟩
theorem d_lw_law_446 : bgd code 446 (.goto 99) 3 449 := ⟨by decide +kernel, rfl⟩
theorem d_lw_law_449 : bgd code 449 (.aload_n 1) 1 450 := ⟨by decide +kernel, rfl⟩
theorem d_lw_law_450 : bgd code 450 (.aload_n 0) 1 451 := ⟨by decide +kernel, rfl⟩
theorem d_lw_law_451 : bgd code 451 (.iload 4) 2 453 := ⟨by decide +kernel, rfl⟩
theorem d_lw_law_453 : bgd code 453 (.iconst 1) 1 454 := ⟨by decide +kernel, rfl⟩
theorem d_lw_law_454 : bgd code 454 (.iadd) 1 455 := ⟨by decide +kernel, rfl⟩
theorem d_lw_law_455 : bgd code 455 (.iaload) 1 456 := ⟨by decide +kernel, rfl⟩
theorem d_lw_law_456 : bgd code 456 (.aload_n 0) 1 457 := ⟨by decide +kernel, rfl⟩
theorem d_lw_law_457 : bgd code 457 (.iload 4) 2 459 := ⟨by decide +kernel, rfl⟩
theorem d_lw_law_459 : bgd code 459 (.iconst 2) 1 460 := ⟨by decide +kernel, rfl⟩
theorem d_lw_law_460 : bgd code 460 (.iadd) 1 461 := ⟨by decide +kernel, rfl⟩
theorem d_lw_law_461 : bgd code 461 (.iaload) 1 462 := ⟨by decide +kernel, rfl⟩
theorem d_lw_law_462 : bgd code 462 (.aload_n 3) 1 463 := ⟨by decide +kernel, rfl⟩
theorem d_lw_law_463 : bgd code 463 (.invokestatic 123) 3 466 := ⟨by decide +kernel, rfl⟩
theorem d_lw_law_466 : bgd code 466 (.istore 5) 2 468 := ⟨by decide +kernel, rfl⟩
theorem d_lw_law_468 : bgd code 468 (.aload_n 2) 1 469 := ⟨by decide +kernel, rfl⟩
theorem d_lw_law_469 : bgd code 469 (.aload_n 0) 1 470 := ⟨by decide +kernel, rfl⟩
theorem d_lw_law_470 : bgd code 470 (.iload 4) 2 472 := ⟨by decide +kernel, rfl⟩
theorem d_lw_law_472 : bgd code 472 (.iconst 1) 1 473 := ⟨by decide +kernel, rfl⟩
theorem d_lw_law_473 : bgd code 473 (.iadd) 1 474 := ⟨by decide +kernel, rfl⟩
theorem d_lw_law_474 : bgd code 474 (.iaload) 1 475 := ⟨by decide +kernel, rfl⟩
theorem d_lw_law_475 : bgd code 475 (.aload_n 0) 1 476 := ⟨by decide +kernel, rfl⟩
theorem d_lw_law_476 : bgd code 476 (.iload 4) 2 478 := ⟨by decide +kernel, rfl⟩
theorem d_lw_law_478 : bgd code 478 (.iconst 2) 1 479 := ⟨by decide +kernel, rfl⟩
theorem d_lw_law_479 : bgd code 479 (.iadd) 1 480 := ⟨by decide +kernel, rfl⟩
theorem d_lw_law_480 : bgd code 480 (.iaload) 1 481 := ⟨by decide +kernel, rfl⟩
theorem d_lw_law_481 : bgd code 481 (.invokevirtual 125) 3 484 := ⟨by decide +kernel, rfl⟩
theorem d_lw_law_484 : bgd code 484 (.istore 6) 2 486 := ⟨by decide +kernel, rfl⟩
theorem d_lw_law_486 : bgd code 486 (.goto 59) 3 489 := ⟨by decide +kernel, rfl⟩
theorem d_lw_law_489 : bgd code 489 (.aload_n 1) 1 490 := ⟨by decide +kernel, rfl⟩
theorem d_lw_law_490 : bgd code 490 (.aload_n 0) 1 491 := ⟨by decide +kernel, rfl⟩
theorem d_lw_law_491 : bgd code 491 (.iload 4) 2 493 := ⟨by decide +kernel, rfl⟩
theorem d_lw_law_493 : bgd code 493 (.iconst 1) 1 494 := ⟨by decide +kernel, rfl⟩
theorem d_lw_law_494 : bgd code 494 (.iadd) 1 495 := ⟨by decide +kernel, rfl⟩
theorem d_lw_law_495 : bgd code 495 (.iaload) 1 496 := ⟨by decide +kernel, rfl⟩
theorem d_lw_law_496 : bgd code 496 (.aload_n 3) 1 497 := ⟨by decide +kernel, rfl⟩
theorem d_lw_law_497 : bgd code 497 (.invokestatic 126) 3 500 := ⟨by decide +kernel, rfl⟩
theorem d_lw_law_500 : bgd code 500 (.istore 5) 2 502 := ⟨by decide +kernel, rfl⟩
theorem d_lw_law_502 : bgd code 502 (.aload_n 2) 1 503 := ⟨by decide +kernel, rfl⟩
theorem d_lw_law_503 : bgd code 503 (.aload_n 0) 1 504 := ⟨by decide +kernel, rfl⟩
theorem d_lw_law_504 : bgd code 504 (.iload 4) 2 506 := ⟨by decide +kernel, rfl⟩
theorem d_lw_law_506 : bgd code 506 (.iconst 1) 1 507 := ⟨by decide +kernel, rfl⟩
theorem d_lw_law_507 : bgd code 507 (.iadd) 1 508 := ⟨by decide +kernel, rfl⟩
theorem d_lw_law_508 : bgd code 508 (.iaload) 1 509 := ⟨by decide +kernel, rfl⟩
theorem d_lw_law_509 : bgd code 509 (.invokevirtual 128) 3 512 := ⟨by decide +kernel, rfl⟩
theorem d_lw_law_512 : bgd code 512 (.istore 6) 2 514 := ⟨by decide +kernel, rfl⟩
theorem d_lw_law_514 : bgd code 514 (.goto 31) 3 517 := ⟨by decide +kernel, rfl⟩
theorem d_lw_law_517 : bgd code 517 (.aload_n 1) 1 518 := ⟨by decide +kernel, rfl⟩
theorem d_lw_law_518 : bgd code 518 (.aload_n 0) 1 519 := ⟨by decide +kernel, rfl⟩
theorem d_lw_law_519 : bgd code 519 (.iload 4) 2 521 := ⟨by decide +kernel, rfl⟩
theorem d_lw_law_521 : bgd code 521 (.iconst 1) 1 522 := ⟨by decide +kernel, rfl⟩
theorem d_lw_law_522 : bgd code 522 (.iadd) 1 523 := ⟨by decide +kernel, rfl⟩
theorem d_lw_law_523 : bgd code 523 (.iaload) 1 524 := ⟨by decide +kernel, rfl⟩
theorem d_lw_law_524 : bgd code 524 (.aload_n 3) 1 525 := ⟨by decide +kernel, rfl⟩
theorem d_lw_law_525 : bgd code 525 (.invokestatic 129) 3 528 := ⟨by decide +kernel, rfl⟩
theorem d_lw_law_528 : bgd code 528 (.istore 5) 2 530 := ⟨by decide +kernel, rfl⟩
theorem d_lw_law_530 : bgd code 530 (.aload_n 2) 1 531 := ⟨by decide +kernel, rfl⟩
theorem d_lw_law_531 : bgd code 531 (.aload_n 0) 1 532 := ⟨by decide +kernel, rfl⟩
theorem d_lw_law_532 : bgd code 532 (.iload 4) 2 534 := ⟨by decide +kernel, rfl⟩
theorem d_lw_law_534 : bgd code 534 (.iconst 1) 1 535 := ⟨by decide +kernel, rfl⟩
theorem d_lw_law_535 : bgd code 535 (.iadd) 1 536 := ⟨by decide +kernel, rfl⟩
theorem d_lw_law_536 : bgd code 536 (.iaload) 1 537 := ⟨by decide +kernel, rfl⟩
theorem d_lw_law_537 : bgd code 537 (.invokevirtual 131) 3 540 := ⟨by decide +kernel, rfl⟩
theorem d_lw_law_540 : bgd code 540 (.istore 6) 2 542 := ⟨by decide +kernel, rfl⟩
theorem d_lw_law_542 : bgd code 542 (.goto 3) 3 545 := ⟨by decide +kernel, rfl⟩
theorem d_lw_law_545 : bgd code 545 (.iinc 4 4) 3 548 := ⟨by decide +kernel, rfl⟩
theorem d_lw_law_548 : bgd code 548 (.goto (-525)) 3 551 := ⟨by decide +kernel, rfl⟩
theorem d_lw_law_551 : bgd code 551 (.iconst 1) 1 552 := ⟨by decide +kernel, rfl⟩
theorem d_lw_law_552 : bgd code 552 (.ireturn) 1 553 := ⟨by decide +kernel, rfl⟩
theorem tw_34 : (Jvm.Cond.initialized "BlockGraphLaw") ∈ bgTs := bg_tw 34 (by decide +kernel) (by decide +kernel)
theorem tw_54 : (Jvm.Cond.classLink "BlockGraphLaw" (8 : Nat) "BlockGraph") ∈ bgTs := bg_tw 54 (by decide +kernel) (by decide +kernel)
theorem tw_55 : (Jvm.Cond.instantiable "BlockGraph" (9 : Nat)) ∈ bgTs := bg_tw 55 (by decide +kernel) (by decide +kernel)
theorem tw_56 : (Jvm.Cond.methodLink "BlockGraphLaw" (67 : Nat) ({ cls := "BlockGraph", name := "<init>", desc := "()V" } : Jvm.MethodName)) ∈ bgTs := bg_tw 56 (by decide +kernel) (by decide +kernel)
theorem tw_232 : (Jvm.Cond.methodLink "BlockGraphLaw" (71 : Nat) ({ cls := "BlockGraph", name := "format", desc := "()Z" } : Jvm.MethodName)) ∈ bgTs := bg_tw 232 (by decide +kernel) (by decide +kernel)
theorem tw_301 : (Jvm.Cond.methodLink "BlockGraphLaw" (102 : Nat) ({ cls := "BlockGraph", name := "recover", desc := "()I" } : Jvm.MethodName)) ∈ bgTs := bg_tw 301 (by decide +kernel) (by decide +kernel)
theorem tw_327 : (Jvm.Cond.methodLink "BlockGraphLaw" (75 : Nat) ({ cls := "BlockGraphLaw", name := "begin", desc := "(LBlockGraph;)I" } : Jvm.MethodName)) ∈ bgTs := bg_tw 327 (by decide +kernel) (by decide +kernel)
theorem tw_408 : (Jvm.Cond.arrayClass Jvm.ClassFile.FieldType.byte) ∈ bgTs := bg_tw 408 (by decide +kernel) (by decide +kernel)
theorem tw_410 : (Jvm.Cond.methodLink "BlockGraphLaw" (81 : Nat) ({ cls := "BlockGraphLaw", name := "add", desc := "(LBlockGraph;III[J)I" } : Jvm.MethodName)) ∈ bgTs := bg_tw 410 (by decide +kernel) (by decide +kernel)
theorem tw_479 : (Jvm.Cond.methodLink "BlockGraphLaw" (85 : Nat) ({ cls := "BlockGraphLaw", name := "remove", desc := "(LBlockGraph;I)I" } : Jvm.MethodName)) ∈ bgTs := bg_tw 479 (by decide +kernel) (by decide +kernel)
theorem tw_511 : (Jvm.Cond.methodLink "BlockGraphLaw" (89 : Nat) ({ cls := "BlockGraphLaw", name := "commit", desc := "(LBlockGraph;[J)I" } : Jvm.MethodName)) ∈ bgTs := bg_tw 511 (by decide +kernel) (by decide +kernel)
theorem tw_530 : (Jvm.Cond.methodLink "BlockGraphLaw" (93 : Nat) ({ cls := "BlockGraphLaw", name := "abort", desc := "(LBlockGraph;[J)I" } : Jvm.MethodName)) ∈ bgTs := bg_tw 530 (by decide +kernel) (by decide +kernel)
theorem tw_538 : (Jvm.Cond.methodLink "BlockGraphLaw" (96 : Nat) ({ cls := "BlockGraphLaw", name := "arm", desc := "(LBlockGraph;I)I" } : Jvm.MethodName)) ∈ bgTs := bg_tw 538 (by decide +kernel) (by decide +kernel)
theorem tw_546 : (Jvm.Cond.methodLink "BlockGraphLaw" (106 : Nat) ({ cls := "BlockGraphLaw", name := "edge", desc := "(LBlockGraph;II[J)I" } : Jvm.MethodName)) ∈ bgTs := bg_tw 546 (by decide +kernel) (by decide +kernel)
theorem tw_559 : (Jvm.Cond.methodLink "BlockGraphLaw" (110 : Nat) ({ cls := "BlockGraphLaw", name := "room", desc := "(LBlockGraph;I)I" } : Jvm.MethodName)) ∈ bgTs := bg_tw 559 (by decide +kernel) (by decide +kernel)
theorem tw_571 : (Jvm.Cond.methodLink "BlockGraphLaw" (113 : Nat) ({ cls := "BlockGraphLaw", name := "run", desc := "(LBlockGraph;I[J)I" } : Jvm.MethodName)) ∈ bgTs := bg_tw 571 (by decide +kernel) (by decide +kernel)
theorem tw_600 : (Jvm.Cond.methodLink "BlockGraphLaw" (117 : Nat) ({ cls := "BlockGraphLaw", name := "distance", desc := "(LBlockGraph;I[J)I" } : Jvm.MethodName)) ∈ bgTs := bg_tw 600 (by decide +kernel) (by decide +kernel)
theorem tw_612 : (Jvm.Cond.methodLink "BlockGraphLaw" (120 : Nat) ({ cls := "BlockGraphLaw", name := "parent", desc := "(LBlockGraph;I[J)I" } : Jvm.MethodName)) ∈ bgTs := bg_tw 612 (by decide +kernel) (by decide +kernel)
theorem tw_619 : (Jvm.Cond.methodLink "BlockGraphLaw" (123 : Nat) ({ cls := "BlockGraphLaw", name := "way", desc := "(LBlockGraph;II[J)I" } : Jvm.MethodName)) ∈ bgTs := bg_tw 619 (by decide +kernel) (by decide +kernel)
theorem tw_651 : (Jvm.Cond.methodLink "BlockGraphLaw" (126 : Nat) ({ cls := "BlockGraphLaw", name := "atHand", desc := "(LBlockGraph;I[J)I" } : Jvm.MethodName)) ∈ bgTs := bg_tw 651 (by decide +kernel) (by decide +kernel)
theorem tw_659 : (Jvm.Cond.methodLink "BlockGraphLaw" (129 : Nat) ({ cls := "BlockGraphLaw", name := "count", desc := "(LBlockGraph;I[J)I" } : Jvm.MethodName)) ∈ bgTs := bg_tw 659 (by decide +kernel) (by decide +kernel)
theorem tw_667 : (Jvm.Cond.classLink "BlockGraphLaw" (68 : Nat) "BlockGraphModel") ∈ bgTs := bg_tw 667 (by decide +kernel) (by decide +kernel)
theorem tw_668 : (Jvm.Cond.instantiable "BlockGraphModel" (23 : Nat)) ∈ bgTs := bg_tw 668 (by decide +kernel) (by decide +kernel)
theorem tw_669 : (Jvm.Cond.methodLink "BlockGraphLaw" (70 : Nat) ({ cls := "BlockGraphModel", name := "<init>", desc := "()V" } : Jvm.MethodName)) ∈ bgTs := bg_tw 669 (by decide +kernel) (by decide +kernel)
theorem tw_748 : (Jvm.Cond.methodLink "BlockGraphLaw" (99 : Nat) ({ cls := "BlockGraphModel", name := "thrown", desc := "()I" } : Jvm.MethodName)) ∈ bgTs := bg_tw 748 (by decide +kernel) (by decide +kernel)
theorem tw_752 : (Jvm.Cond.methodLink "BlockGraphLaw" (74 : Nat) ({ cls := "BlockGraphModel", name := "format", desc := "()Z" } : Jvm.MethodName)) ∈ bgTs := bg_tw 752 (by decide +kernel) (by decide +kernel)
theorem tw_772 : (Jvm.Cond.methodLink "BlockGraphLaw" (80 : Nat) ({ cls := "BlockGraphModel", name := "begin", desc := "()V" } : Jvm.MethodName)) ∈ bgTs := bg_tw 772 (by decide +kernel) (by decide +kernel)
theorem tw_780 : (Jvm.Cond.methodLink "BlockGraphLaw" (84 : Nat) ({ cls := "BlockGraphModel", name := "add", desc := "(III)I" } : Jvm.MethodName)) ∈ bgTs := bg_tw 780 (by decide +kernel) (by decide +kernel)
theorem tw_791 : (Jvm.Cond.methodLink "BlockGraphLaw" (88 : Nat) ({ cls := "BlockGraphModel", name := "remove", desc := "(I)V" } : Jvm.MethodName)) ∈ bgTs := bg_tw 791 (by decide +kernel) (by decide +kernel)
theorem tw_799 : (Jvm.Cond.methodLink "BlockGraphLaw" (92 : Nat) ({ cls := "BlockGraphModel", name := "commit", desc := "()Z" } : Jvm.MethodName)) ∈ bgTs := bg_tw 799 (by decide +kernel) (by decide +kernel)
theorem tw_811 : (Jvm.Cond.methodLink "BlockGraphLaw" (95 : Nat) ({ cls := "BlockGraphModel", name := "abort", desc := "()I" } : Jvm.MethodName)) ∈ bgTs := bg_tw 811 (by decide +kernel) (by decide +kernel)
theorem tw_815 : (Jvm.Cond.methodLink "BlockGraphLaw" (98 : Nat) ({ cls := "BlockGraphModel", name := "arm", desc := "(I)V" } : Jvm.MethodName)) ∈ bgTs := bg_tw 815 (by decide +kernel) (by decide +kernel)
theorem tw_819 : (Jvm.Cond.methodLink "BlockGraphLaw" (105 : Nat) ({ cls := "BlockGraphModel", name := "recover", desc := "()I" } : Jvm.MethodName)) ∈ bgTs := bg_tw 819 (by decide +kernel) (by decide +kernel)
theorem tw_823 : (Jvm.Cond.methodLink "BlockGraphLaw" (109 : Nat) ({ cls := "BlockGraphModel", name := "edge", desc := "(II)I" } : Jvm.MethodName)) ∈ bgTs := bg_tw 823 (by decide +kernel) (by decide +kernel)
theorem tw_831 : (Jvm.Cond.methodLink "BlockGraphLaw" (112 : Nat) ({ cls := "BlockGraphModel", name := "room", desc := "(I)V" } : Jvm.MethodName)) ∈ bgTs := bg_tw 831 (by decide +kernel) (by decide +kernel)
theorem tw_835 : (Jvm.Cond.methodLink "BlockGraphLaw" (116 : Nat) ({ cls := "BlockGraphModel", name := "run", desc := "(I)I" } : Jvm.MethodName)) ∈ bgTs := bg_tw 835 (by decide +kernel) (by decide +kernel)
theorem tw_839 : (Jvm.Cond.methodLink "BlockGraphLaw" (119 : Nat) ({ cls := "BlockGraphModel", name := "distance", desc := "(I)I" } : Jvm.MethodName)) ∈ bgTs := bg_tw 839 (by decide +kernel) (by decide +kernel)
theorem tw_847 : (Jvm.Cond.methodLink "BlockGraphLaw" (122 : Nat) ({ cls := "BlockGraphModel", name := "parent", desc := "(I)I" } : Jvm.MethodName)) ∈ bgTs := bg_tw 847 (by decide +kernel) (by decide +kernel)
theorem tw_855 : (Jvm.Cond.methodLink "BlockGraphLaw" (125 : Nat) ({ cls := "BlockGraphModel", name := "way", desc := "(II)I" } : Jvm.MethodName)) ∈ bgTs := bg_tw 855 (by decide +kernel) (by decide +kernel)
theorem tw_859 : (Jvm.Cond.methodLink "BlockGraphLaw" (128 : Nat) ({ cls := "BlockGraphModel", name := "atHand", desc := "(I)I" } : Jvm.MethodName)) ∈ bgTs := bg_tw 859 (by decide +kernel) (by decide +kernel)
theorem tw_863 : (Jvm.Cond.methodLink "BlockGraphLaw" (131 : Nat) ({ cls := "BlockGraphModel", name := "count", desc := "(I)I" } : Jvm.MethodName)) ∈ bgTs := bg_tw 863 (by decide +kernel) (by decide +kernel)
theorem tw_867 : (Jvm.Cond.arrayClass Jvm.ClassFile.FieldType.long) ∈ bgTs := bg_tw 867 (by decide +kernel) (by decide +kernel)

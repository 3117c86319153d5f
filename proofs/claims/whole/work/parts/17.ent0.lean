theorem q0 : amCs.getD 0 [] = amC_0 := rfl
theorem r0 {pc pc' len op : Nat} {i : Instr} (h : amC_0.lookup pc = some (i, len, op)) (h2 : pc + len = pc') : amT 0 pc pc' i op := ⟨len, by unfold amEnt; rw [q0]; exact h, h2⟩
theorem e0_0 : amT 0 0 3 (.new 7) 11 := r0 (len := 3) (by decide +kernel) rfl
theorem e0_3 : amT 0 3 4 (.dup) 0 := r0 (len := 1) (by decide +kernel) rfl
theorem e0_4 : amT 0 4 7 (.invokespecial 9) 110 := r0 (len := 3) (by decide +kernel) rfl
theorem e0_7 : amT 0 7 8 (.astore_n 1) 0 := r0 (len := 1) (by decide +kernel) rfl
theorem e0_8 : amT 0 8 11 (.new 10) 12 := r0 (len := 3) (by decide +kernel) rfl
theorem e0_11 : amT 0 11 12 (.dup) 0 := r0 (len := 1) (by decide +kernel) rfl
theorem e0_12 : amT 0 12 15 (.invokespecial 12) 156 := r0 (len := 3) (by decide +kernel) rfl
theorem e0_15 : amT 0 15 16 (.astore_n 2) 0 := r0 (len := 1) (by decide +kernel) rfl
theorem e0_16 : amT 0 16 17 (.iconst 0) 0 := r0 (len := 1) (by decide +kernel) rfl
theorem e0_17 : amT 0 17 18 (.istore_n 3) 0 := r0 (len := 1) (by decide +kernel) rfl
theorem e0_18 : amT 0 18 19 (.iload_n 3) 0 := r0 (len := 1) (by decide +kernel) rfl
theorem e0_19 : amT 0 19 20 (.aload_n 0) 0 := r0 (len := 1) (by decide +kernel) rfl
theorem e0_20 : amT 0 20 21 (.arraylength) 0 := r0 (len := 1) (by decide +kernel) rfl
theorem e0_21 : amT 0 21 23 (.bipush 6) 0 := r0 (len := 2) (by decide +kernel) rfl
theorem e0_23 : amT 0 23 24 (.isub) 0 := r0 (len := 1) (by decide +kernel) rfl
theorem e0_24 : amT 0 24 27 (.if_icmp .gt 1256) 0 := r0 (len := 3) (by decide +kernel) rfl
theorem t0_24 : amTg 24 1256 = some 1280 := by decide
theorem e0_27 : amT 0 27 28 (.aload_n 0) 0 := r0 (len := 1) (by decide +kernel) rfl
theorem e0_28 : amT 0 28 29 (.iload_n 3) 0 := r0 (len := 1) (by decide +kernel) rfl
theorem e0_29 : amT 0 29 30 (.iaload) 0 := r0 (len := 1) (by decide +kernel) rfl
theorem e0_30 : amT 0 30 32 (.bipush 31) 0 := r0 (len := 2) (by decide +kernel) rfl
theorem e0_32 : amT 0 32 33 (.iand) 0 := r0 (len := 1) (by decide +kernel) rfl
theorem e0_33 : amT 0 33 172 (.tableswitch 1241 0 30 #[139, 202, 245, 258, 292, 325, 369, 413, 456, 479, 542, 565, 619, 652, 685, 729, 763, 817, 861, 884, 897, 920, 943, 986, 1039, 1072, 1115, 1149, 1192, 1205, 1218]) 0 := r0 (len := 139) (by decide +kernel) rfl
theorem t0_33_1072 : amTg 33 1072 = some 1105 := by decide
theorem t0_33_861 : amTg 33 861 = some 894 := by decide
theorem t0_33_986 : amTg 33 986 = some 1019 := by decide
theorem t0_33_1241 : amTg 33 1241 = some 1274 := by decide
theorem t0_33_920 : amTg 33 920 = some 953 := by decide
theorem t0_33_729 : amTg 33 729 = some 762 := by decide
theorem t0_33_1218 : amTg 33 1218 = some 1251 := by decide
theorem t0_33_479 : amTg 33 479 = some 512 := by decide
theorem t0_33_456 : amTg 33 456 = some 489 := by decide
theorem t0_33_763 : amTg 33 763 = some 796 := by decide
theorem t0_33_1205 : amTg 33 1205 = some 1238 := by decide
theorem t0_33_1149 : amTg 33 1149 = some 1182 := by decide
theorem t0_33_292 : amTg 33 292 = some 325 := by decide
theorem t0_33_245 : amTg 33 245 = some 278 := by decide
theorem t0_33_817 : amTg 33 817 = some 850 := by decide
theorem t0_33_1039 : amTg 33 1039 = some 1072 := by decide
theorem t0_33_943 : amTg 33 943 = some 976 := by decide
theorem t0_33_652 : amTg 33 652 = some 685 := by decide
theorem t0_33_897 : amTg 33 897 = some 930 := by decide
theorem t0_33_565 : amTg 33 565 = some 598 := by decide
theorem t0_33_369 : amTg 33 369 = some 402 := by decide
theorem t0_33_258 : amTg 33 258 = some 291 := by decide
theorem t0_33_325 : amTg 33 325 = some 358 := by decide
theorem t0_33_884 : amTg 33 884 = some 917 := by decide
theorem t0_33_685 : amTg 33 685 = some 718 := by decide
theorem t0_33_619 : amTg 33 619 = some 652 := by decide
theorem t0_33_202 : amTg 33 202 = some 235 := by decide
theorem t0_33_1115 : amTg 33 1115 = some 1148 := by decide
theorem t0_33_1192 : amTg 33 1192 = some 1225 := by decide
theorem t0_33_139 : amTg 33 139 = some 172 := by decide
theorem t0_33_542 : amTg 33 542 = some 575 := by decide
theorem t0_33_413 : amTg 33 413 = some 446 := by decide
theorem e0_172 : amT 0 172 173 (.aload_n 1) 0 := r0 (len := 1) (by decide +kernel) rfl
theorem e0_173 : amT 0 173 174 (.aload_n 0) 0 := r0 (len := 1) (by decide +kernel) rfl
theorem e0_174 : amT 0 174 175 (.iload_n 3) 0 := r0 (len := 1) (by decide +kernel) rfl
theorem e0_175 : amT 0 175 176 (.iconst 1) 0 := r0 (len := 1) (by decide +kernel) rfl
theorem e0_176 : amT 0 176 177 (.iadd) 0 := r0 (len := 1) (by decide +kernel) rfl
theorem e0_177 : amT 0 177 178 (.iaload) 0 := r0 (len := 1) (by decide +kernel) rfl
theorem e0_178 : amT 0 178 179 (.aload_n 0) 0 := r0 (len := 1) (by decide +kernel) rfl
theorem e0_179 : amT 0 179 180 (.iload_n 3) 0 := r0 (len := 1) (by decide +kernel) rfl
theorem e0_180 : amT 0 180 181 (.iconst 2) 0 := r0 (len := 1) (by decide +kernel) rfl
theorem e0_181 : amT 0 181 182 (.iadd) 0 := r0 (len := 1) (by decide +kernel) rfl
theorem e0_182 : amT 0 182 183 (.iaload) 0 := r0 (len := 1) (by decide +kernel) rfl
theorem e0_183 : amT 0 183 184 (.aload_n 0) 0 := r0 (len := 1) (by decide +kernel) rfl
theorem e0_184 : amT 0 184 185 (.iload_n 3) 0 := r0 (len := 1) (by decide +kernel) rfl
theorem e0_185 : amT 0 185 186 (.iconst 3) 0 := r0 (len := 1) (by decide +kernel) rfl
theorem e0_186 : amT 0 186 187 (.iadd) 0 := r0 (len := 1) (by decide +kernel) rfl
theorem e0_187 : amT 0 187 188 (.iaload) 0 := r0 (len := 1) (by decide +kernel) rfl
theorem e0_188 : amT 0 188 189 (.aload_n 0) 0 := r0 (len := 1) (by decide +kernel) rfl
theorem e0_189 : amT 0 189 190 (.iload_n 3) 0 := r0 (len := 1) (by decide +kernel) rfl
theorem e0_190 : amT 0 190 191 (.iconst 4) 0 := r0 (len := 1) (by decide +kernel) rfl
theorem e0_191 : amT 0 191 192 (.iadd) 0 := r0 (len := 1) (by decide +kernel) rfl
theorem e0_192 : amT 0 192 193 (.iaload) 0 := r0 (len := 1) (by decide +kernel) rfl
theorem e0_193 : amT 0 193 194 (.aload_n 0) 0 := r0 (len := 1) (by decide +kernel) rfl
theorem e0_194 : amT 0 194 195 (.iload_n 3) 0 := r0 (len := 1) (by decide +kernel) rfl
theorem e0_195 : amT 0 195 196 (.iconst 5) 0 := r0 (len := 1) (by decide +kernel) rfl
theorem e0_196 : amT 0 196 197 (.iadd) 0 := r0 (len := 1) (by decide +kernel) rfl
theorem e0_197 : amT 0 197 198 (.iaload) 0 := r0 (len := 1) (by decide +kernel) rfl
theorem e0_198 : amT 0 198 201 (.invokevirtual 13) 111 := r0 (len := 3) (by decide +kernel) rfl
theorem e0_201 : amT 0 201 202 (.aload_n 2) 0 := r0 (len := 1) (by decide +kernel) rfl
theorem e0_202 : amT 0 202 203 (.aload_n 0) 0 := r0 (len := 1) (by decide +kernel) rfl
theorem e0_203 : amT 0 203 204 (.iload_n 3) 0 := r0 (len := 1) (by decide +kernel) rfl
theorem e0_204 : amT 0 204 205 (.iconst 1) 0 := r0 (len := 1) (by decide +kernel) rfl
theorem e0_205 : amT 0 205 206 (.iadd) 0 := r0 (len := 1) (by decide +kernel) rfl
theorem e0_206 : amT 0 206 207 (.iaload) 0 := r0 (len := 1) (by decide +kernel) rfl
theorem e0_207 : amT 0 207 208 (.aload_n 0) 0 := r0 (len := 1) (by decide +kernel) rfl
theorem e0_208 : amT 0 208 209 (.iload_n 3) 0 := r0 (len := 1) (by decide +kernel) rfl
theorem e0_209 : amT 0 209 210 (.iconst 2) 0 := r0 (len := 1) (by decide +kernel) rfl
theorem e0_210 : amT 0 210 211 (.iadd) 0 := r0 (len := 1) (by decide +kernel) rfl
theorem e0_211 : amT 0 211 212 (.iaload) 0 := r0 (len := 1) (by decide +kernel) rfl
theorem e0_212 : amT 0 212 213 (.aload_n 0) 0 := r0 (len := 1) (by decide +kernel) rfl
theorem e0_213 : amT 0 213 214 (.iload_n 3) 0 := r0 (len := 1) (by decide +kernel) rfl
theorem e0_214 : amT 0 214 215 (.iconst 3) 0 := r0 (len := 1) (by decide +kernel) rfl
theorem e0_215 : amT 0 215 216 (.iadd) 0 := r0 (len := 1) (by decide +kernel) rfl
theorem e0_216 : amT 0 216 217 (.iaload) 0 := r0 (len := 1) (by decide +kernel) rfl
theorem e0_217 : amT 0 217 218 (.aload_n 0) 0 := r0 (len := 1) (by decide +kernel) rfl
theorem e0_218 : amT 0 218 219 (.iload_n 3) 0 := r0 (len := 1) (by decide +kernel) rfl
theorem e0_219 : amT 0 219 220 (.iconst 4) 0 := r0 (len := 1) (by decide +kernel) rfl
theorem e0_220 : amT 0 220 221 (.iadd) 0 := r0 (len := 1) (by decide +kernel) rfl
theorem e0_221 : amT 0 221 222 (.iaload) 0 := r0 (len := 1) (by decide +kernel) rfl
theorem e0_222 : amT 0 222 223 (.aload_n 0) 0 := r0 (len := 1) (by decide +kernel) rfl
theorem e0_223 : amT 0 223 224 (.iload_n 3) 0 := r0 (len := 1) (by decide +kernel) rfl
theorem e0_224 : amT 0 224 225 (.iconst 5) 0 := r0 (len := 1) (by decide +kernel) rfl
theorem e0_225 : amT 0 225 226 (.iadd) 0 := r0 (len := 1) (by decide +kernel) rfl
theorem e0_226 : amT 0 226 227 (.iaload) 0 := r0 (len := 1) (by decide +kernel) rfl
theorem e0_227 : amT 0 227 230 (.invokevirtual 17) 160 := r0 (len := 3) (by decide +kernel) rfl
theorem e0_230 : amT 0 230 233 (.if_icmp .eq 1044) 0 := r0 (len := 3) (by decide +kernel) rfl
theorem t0_230 : amTg 230 1044 = some 1274 := by decide
theorem e0_233 : amT 0 233 234 (.iconst 0) 0 := r0 (len := 1) (by decide +kernel) rfl
theorem e0_234 : amT 0 234 235 (.ireturn) 0 := r0 (len := 1) (by decide +kernel) rfl
theorem e0_235 : amT 0 235 236 (.aload_n 1) 0 := r0 (len := 1) (by decide +kernel) rfl
theorem e0_236 : amT 0 236 237 (.aload_n 0) 0 := r0 (len := 1) (by decide +kernel) rfl
theorem e0_237 : amT 0 237 238 (.iload_n 3) 0 := r0 (len := 1) (by decide +kernel) rfl
theorem e0_238 : amT 0 238 239 (.iconst 1) 0 := r0 (len := 1) (by decide +kernel) rfl
theorem e0_239 : amT 0 239 240 (.iadd) 0 := r0 (len := 1) (by decide +kernel) rfl
theorem e0_240 : amT 0 240 241 (.iaload) 0 := r0 (len := 1) (by decide +kernel) rfl
theorem e0_241 : amT 0 241 242 (.aload_n 0) 0 := r0 (len := 1) (by decide +kernel) rfl
theorem e0_242 : amT 0 242 243 (.iload_n 3) 0 := r0 (len := 1) (by decide +kernel) rfl
theorem e0_243 : amT 0 243 244 (.iconst 2) 0 := r0 (len := 1) (by decide +kernel) rfl
theorem e0_244 : amT 0 244 245 (.iadd) 0 := r0 (len := 1) (by decide +kernel) rfl
theorem e0_245 : amT 0 245 246 (.iaload) 0 := r0 (len := 1) (by decide +kernel) rfl
theorem e0_246 : amT 0 246 247 (.aload_n 0) 0 := r0 (len := 1) (by decide +kernel) rfl
theorem e0_247 : amT 0 247 248 (.iload_n 3) 0 := r0 (len := 1) (by decide +kernel) rfl
theorem e0_248 : amT 0 248 249 (.iconst 3) 0 := r0 (len := 1) (by decide +kernel) rfl
theorem e0_249 : amT 0 249 250 (.iadd) 0 := r0 (len := 1) (by decide +kernel) rfl
theorem e0_250 : amT 0 250 251 (.iaload) 0 := r0 (len := 1) (by decide +kernel) rfl
theorem e0_251 : amT 0 251 254 (.invokevirtual 18) 112 := r0 (len := 3) (by decide +kernel) rfl
theorem e0_254 : amT 0 254 255 (.aload_n 2) 0 := r0 (len := 1) (by decide +kernel) rfl
theorem e0_255 : amT 0 255 256 (.aload_n 0) 0 := r0 (len := 1) (by decide +kernel) rfl
theorem e0_256 : amT 0 256 257 (.iload_n 3) 0 := r0 (len := 1) (by decide +kernel) rfl
theorem e0_257 : amT 0 257 258 (.iconst 1) 0 := r0 (len := 1) (by decide +kernel) rfl
theorem e0_258 : amT 0 258 259 (.iadd) 0 := r0 (len := 1) (by decide +kernel) rfl
theorem e0_259 : amT 0 259 260 (.iaload) 0 := r0 (len := 1) (by decide +kernel) rfl
theorem e0_260 : amT 0 260 261 (.aload_n 0) 0 := r0 (len := 1) (by decide +kernel) rfl
theorem e0_261 : amT 0 261 262 (.iload_n 3) 0 := r0 (len := 1) (by decide +kernel) rfl
theorem e0_262 : amT 0 262 263 (.iconst 2) 0 := r0 (len := 1) (by decide +kernel) rfl
theorem e0_263 : amT 0 263 264 (.iadd) 0 := r0 (len := 1) (by decide +kernel) rfl
theorem e0_264 : amT 0 264 265 (.iaload) 0 := r0 (len := 1) (by decide +kernel) rfl
theorem e0_265 : amT 0 265 266 (.aload_n 0) 0 := r0 (len := 1) (by decide +kernel) rfl
theorem e0_266 : amT 0 266 267 (.iload_n 3) 0 := r0 (len := 1) (by decide +kernel) rfl
theorem e0_267 : amT 0 267 268 (.iconst 3) 0 := r0 (len := 1) (by decide +kernel) rfl
theorem e0_268 : amT 0 268 269 (.iadd) 0 := r0 (len := 1) (by decide +kernel) rfl
theorem e0_269 : amT 0 269 270 (.iaload) 0 := r0 (len := 1) (by decide +kernel) rfl
theorem e0_270 : amT 0 270 273 (.invokevirtual 22) 219 := r0 (len := 3) (by decide +kernel) rfl
theorem e0_273 : amT 0 273 276 (.if_icmp .eq 1001) 0 := r0 (len := 3) (by decide +kernel) rfl
theorem t0_273 : amTg 273 1001 = some 1274 := by decide
theorem e0_276 : amT 0 276 277 (.iconst 0) 0 := r0 (len := 1) (by decide +kernel) rfl
theorem e0_277 : amT 0 277 278 (.ireturn) 0 := r0 (len := 1) (by decide +kernel) rfl
theorem e0_278 : amT 0 278 279 (.aload_n 1) 0 := r0 (len := 1) (by decide +kernel) rfl
theorem e0_279 : amT 0 279 282 (.invokevirtual 23) 113 := r0 (len := 3) (by decide +kernel) rfl
theorem e0_282 : amT 0 282 283 (.aload_n 2) 0 := r0 (len := 1) (by decide +kernel) rfl
theorem e0_283 : amT 0 283 286 (.invokevirtual 27) 161 := r0 (len := 3) (by decide +kernel) rfl
theorem e0_286 : amT 0 286 289 (.if_icmp .eq 988) 0 := r0 (len := 3) (by decide +kernel) rfl
theorem t0_286 : amTg 286 988 = some 1274 := by decide
theorem e0_289 : amT 0 289 290 (.iconst 0) 0 := r0 (len := 1) (by decide +kernel) rfl
theorem e0_290 : amT 0 290 291 (.ireturn) 0 := r0 (len := 1) (by decide +kernel) rfl
theorem e0_291 : amT 0 291 292 (.aload_n 1) 0 := r0 (len := 1) (by decide +kernel) rfl
theorem e0_292 : amT 0 292 293 (.aload_n 0) 0 := r0 (len := 1) (by decide +kernel) rfl
theorem e0_293 : amT 0 293 294 (.iload_n 3) 0 := r0 (len := 1) (by decide +kernel) rfl
theorem e0_294 : amT 0 294 295 (.iconst 1) 0 := r0 (len := 1) (by decide +kernel) rfl
theorem e0_295 : amT 0 295 296 (.iadd) 0 := r0 (len := 1) (by decide +kernel) rfl
theorem e0_296 : amT 0 296 297 (.iaload) 0 := r0 (len := 1) (by decide +kernel) rfl
theorem e0_297 : amT 0 297 298 (.aload_n 0) 0 := r0 (len := 1) (by decide +kernel) rfl
theorem e0_298 : amT 0 298 299 (.iload_n 3) 0 := r0 (len := 1) (by decide +kernel) rfl
theorem e0_299 : amT 0 299 300 (.iconst 2) 0 := r0 (len := 1) (by decide +kernel) rfl
theorem e0_300 : amT 0 300 301 (.iadd) 0 := r0 (len := 1) (by decide +kernel) rfl
theorem e0_301 : amT 0 301 302 (.iaload) 0 := r0 (len := 1) (by decide +kernel) rfl
theorem e0_302 : amT 0 302 305 (.invokevirtual 28) 114 := r0 (len := 3) (by decide +kernel) rfl
theorem e0_305 : amT 0 305 306 (.aload_n 2) 0 := r0 (len := 1) (by decide +kernel) rfl
theorem e0_306 : amT 0 306 307 (.aload_n 0) 0 := r0 (len := 1) (by decide +kernel) rfl
theorem e0_307 : amT 0 307 308 (.iload_n 3) 0 := r0 (len := 1) (by decide +kernel) rfl
theorem e0_308 : amT 0 308 309 (.iconst 1) 0 := r0 (len := 1) (by decide +kernel) rfl
theorem e0_309 : amT 0 309 310 (.iadd) 0 := r0 (len := 1) (by decide +kernel) rfl
theorem e0_310 : amT 0 310 311 (.iaload) 0 := r0 (len := 1) (by decide +kernel) rfl
theorem e0_311 : amT 0 311 312 (.aload_n 0) 0 := r0 (len := 1) (by decide +kernel) rfl
theorem e0_312 : amT 0 312 313 (.iload_n 3) 0 := r0 (len := 1) (by decide +kernel) rfl
theorem e0_313 : amT 0 313 314 (.iconst 2) 0 := r0 (len := 1) (by decide +kernel) rfl
theorem e0_314 : amT 0 314 315 (.iadd) 0 := r0 (len := 1) (by decide +kernel) rfl
theorem e0_315 : amT 0 315 316 (.iaload) 0 := r0 (len := 1) (by decide +kernel) rfl
theorem e0_316 : amT 0 316 319 (.invokevirtual 32) 162 := r0 (len := 3) (by decide +kernel) rfl
theorem e0_319 : amT 0 319 320 (.lcmp) 0 := r0 (len := 1) (by decide +kernel) rfl
theorem e0_320 : amT 0 320 323 (.ifCond .eq 954) 0 := r0 (len := 3) (by decide +kernel) rfl
theorem t0_320 : amTg 320 954 = some 1274 := by decide
theorem e0_323 : amT 0 323 324 (.iconst 0) 0 := r0 (len := 1) (by decide +kernel) rfl
theorem e0_324 : amT 0 324 325 (.ireturn) 0 := r0 (len := 1) (by decide +kernel) rfl
theorem e0_325 : amT 0 325 326 (.aload_n 1) 0 := r0 (len := 1) (by decide +kernel) rfl
theorem e0_326 : amT 0 326 327 (.aload_n 0) 0 := r0 (len := 1) (by decide +kernel) rfl
theorem e0_327 : amT 0 327 328 (.iload_n 3) 0 := r0 (len := 1) (by decide +kernel) rfl
theorem e0_328 : amT 0 328 329 (.iconst 1) 0 := r0 (len := 1) (by decide +kernel) rfl
theorem e0_329 : amT 0 329 330 (.iadd) 0 := r0 (len := 1) (by decide +kernel) rfl
theorem e0_330 : amT 0 330 331 (.iaload) 0 := r0 (len := 1) (by decide +kernel) rfl
theorem e0_331 : amT 0 331 332 (.aload_n 0) 0 := r0 (len := 1) (by decide +kernel) rfl
theorem e0_332 : amT 0 332 333 (.iload_n 3) 0 := r0 (len := 1) (by decide +kernel) rfl
theorem e0_333 : amT 0 333 334 (.iconst 2) 0 := r0 (len := 1) (by decide +kernel) rfl
theorem e0_334 : amT 0 334 335 (.iadd) 0 := r0 (len := 1) (by decide +kernel) rfl
theorem e0_335 : amT 0 335 336 (.iaload) 0 := r0 (len := 1) (by decide +kernel) rfl
theorem e0_336 : amT 0 336 339 (.invokevirtual 33) 115 := r0 (len := 3) (by decide +kernel) rfl
theorem e0_339 : amT 0 339 340 (.aload_n 2) 0 := r0 (len := 1) (by decide +kernel) rfl
theorem e0_340 : amT 0 340 341 (.aload_n 0) 0 := r0 (len := 1) (by decide +kernel) rfl
theorem e0_341 : amT 0 341 342 (.iload_n 3) 0 := r0 (len := 1) (by decide +kernel) rfl
theorem e0_342 : amT 0 342 343 (.iconst 1) 0 := r0 (len := 1) (by decide +kernel) rfl
theorem e0_343 : amT 0 343 344 (.iadd) 0 := r0 (len := 1) (by decide +kernel) rfl
theorem e0_344 : amT 0 344 345 (.iaload) 0 := r0 (len := 1) (by decide +kernel) rfl
theorem e0_345 : amT 0 345 346 (.aload_n 0) 0 := r0 (len := 1) (by decide +kernel) rfl
theorem e0_346 : amT 0 346 347 (.iload_n 3) 0 := r0 (len := 1) (by decide +kernel) rfl
theorem e0_347 : amT 0 347 348 (.iconst 2) 0 := r0 (len := 1) (by decide +kernel) rfl
theorem e0_348 : amT 0 348 349 (.iadd) 0 := r0 (len := 1) (by decide +kernel) rfl
theorem e0_349 : amT 0 349 350 (.iaload) 0 := r0 (len := 1) (by decide +kernel) rfl
theorem e0_350 : amT 0 350 353 (.invokevirtual 37) 166 := r0 (len := 3) (by decide +kernel) rfl
theorem e0_353 : amT 0 353 356 (.if_icmp .eq 921) 0 := r0 (len := 3) (by decide +kernel) rfl
theorem t0_353 : amTg 353 921 = some 1274 := by decide
theorem e0_356 : amT 0 356 357 (.iconst 0) 0 := r0 (len := 1) (by decide +kernel) rfl
theorem e0_357 : amT 0 357 358 (.ireturn) 0 := r0 (len := 1) (by decide +kernel) rfl
theorem e0_358 : amT 0 358 359 (.aload_n 1) 0 := r0 (len := 1) (by decide +kernel) rfl
theorem e0_359 : amT 0 359 360 (.aload_n 0) 0 := r0 (len := 1) (by decide +kernel) rfl
theorem e0_360 : amT 0 360 361 (.iload_n 3) 0 := r0 (len := 1) (by decide +kernel) rfl
theorem e0_361 : amT 0 361 362 (.iconst 1) 0 := r0 (len := 1) (by decide +kernel) rfl
theorem e0_362 : amT 0 362 363 (.iadd) 0 := r0 (len := 1) (by decide +kernel) rfl
theorem e0_363 : amT 0 363 364 (.iaload) 0 := r0 (len := 1) (by decide +kernel) rfl
theorem e0_364 : amT 0 364 365 (.aload_n 0) 0 := r0 (len := 1) (by decide +kernel) rfl
theorem e0_365 : amT 0 365 366 (.iload_n 3) 0 := r0 (len := 1) (by decide +kernel) rfl
theorem e0_366 : amT 0 366 367 (.iconst 2) 0 := r0 (len := 1) (by decide +kernel) rfl
theorem e0_367 : amT 0 367 368 (.iadd) 0 := r0 (len := 1) (by decide +kernel) rfl
theorem e0_368 : amT 0 368 369 (.iaload) 0 := r0 (len := 1) (by decide +kernel) rfl
theorem e0_369 : amT 0 369 370 (.aload_n 0) 0 := r0 (len := 1) (by decide +kernel) rfl
theorem e0_370 : amT 0 370 371 (.iload_n 3) 0 := r0 (len := 1) (by decide +kernel) rfl
theorem e0_371 : amT 0 371 372 (.iconst 3) 0 := r0 (len := 1) (by decide +kernel) rfl
theorem e0_372 : amT 0 372 373 (.iadd) 0 := r0 (len := 1) (by decide +kernel) rfl
theorem e0_373 : amT 0 373 374 (.iaload) 0 := r0 (len := 1) (by decide +kernel) rfl
theorem e0_374 : amT 0 374 377 (.invokevirtual 38) 116 := r0 (len := 3) (by decide +kernel) rfl
theorem e0_377 : amT 0 377 378 (.aload_n 2) 0 := r0 (len := 1) (by decide +kernel) rfl
theorem e0_378 : amT 0 378 379 (.aload_n 0) 0 := r0 (len := 1) (by decide +kernel) rfl
theorem e0_379 : amT 0 379 380 (.iload_n 3) 0 := r0 (len := 1) (by decide +kernel) rfl
theorem e0_380 : amT 0 380 381 (.iconst 1) 0 := r0 (len := 1) (by decide +kernel) rfl
theorem e0_381 : amT 0 381 382 (.iadd) 0 := r0 (len := 1) (by decide +kernel) rfl
theorem e0_382 : amT 0 382 383 (.iaload) 0 := r0 (len := 1) (by decide +kernel) rfl
theorem e0_383 : amT 0 383 384 (.aload_n 0) 0 := r0 (len := 1) (by decide +kernel) rfl
theorem e0_384 : amT 0 384 385 (.iload_n 3) 0 := r0 (len := 1) (by decide +kernel) rfl
theorem e0_385 : amT 0 385 386 (.iconst 2) 0 := r0 (len := 1) (by decide +kernel) rfl
theorem e0_386 : amT 0 386 387 (.iadd) 0 := r0 (len := 1) (by decide +kernel) rfl
theorem e0_387 : amT 0 387 388 (.iaload) 0 := r0 (len := 1) (by decide +kernel) rfl
theorem e0_388 : amT 0 388 389 (.aload_n 0) 0 := r0 (len := 1) (by decide +kernel) rfl
theorem e0_389 : amT 0 389 390 (.iload_n 3) 0 := r0 (len := 1) (by decide +kernel) rfl
theorem e0_390 : amT 0 390 391 (.iconst 3) 0 := r0 (len := 1) (by decide +kernel) rfl
theorem e0_391 : amT 0 391 392 (.iadd) 0 := r0 (len := 1) (by decide +kernel) rfl
theorem e0_392 : amT 0 392 393 (.iaload) 0 := r0 (len := 1) (by decide +kernel) rfl
theorem e0_393 : amT 0 393 396 (.invokevirtual 42) 170 := r0 (len := 3) (by decide +kernel) rfl
theorem e0_396 : amT 0 396 397 (.lcmp) 0 := r0 (len := 1) (by decide +kernel) rfl
theorem e0_397 : amT 0 397 400 (.ifCond .eq 877) 0 := r0 (len := 3) (by decide +kernel) rfl
theorem t0_397 : amTg 397 877 = some 1274 := by decide
theorem e0_400 : amT 0 400 401 (.iconst 0) 0 := r0 (len := 1) (by decide +kernel) rfl
theorem e0_401 : amT 0 401 402 (.ireturn) 0 := r0 (len := 1) (by decide +kernel) rfl
theorem e0_402 : amT 0 402 403 (.aload_n 1) 0 := r0 (len := 1) (by decide +kernel) rfl
theorem e0_403 : amT 0 403 404 (.aload_n 0) 0 := r0 (len := 1) (by decide +kernel) rfl
theorem e0_404 : amT 0 404 405 (.iload_n 3) 0 := r0 (len := 1) (by decide +kernel) rfl
theorem e0_405 : amT 0 405 406 (.iconst 1) 0 := r0 (len := 1) (by decide +kernel) rfl
theorem e0_406 : amT 0 406 407 (.iadd) 0 := r0 (len := 1) (by decide +kernel) rfl
theorem e0_407 : amT 0 407 408 (.iaload) 0 := r0 (len := 1) (by decide +kernel) rfl
theorem e0_408 : amT 0 408 409 (.aload_n 0) 0 := r0 (len := 1) (by decide +kernel) rfl
theorem e0_409 : amT 0 409 410 (.iload_n 3) 0 := r0 (len := 1) (by decide +kernel) rfl
theorem e0_410 : amT 0 410 411 (.iconst 2) 0 := r0 (len := 1) (by decide +kernel) rfl
theorem e0_411 : amT 0 411 412 (.iadd) 0 := r0 (len := 1) (by decide +kernel) rfl
theorem e0_412 : amT 0 412 413 (.iaload) 0 := r0 (len := 1) (by decide +kernel) rfl
theorem e0_413 : amT 0 413 414 (.aload_n 0) 0 := r0 (len := 1) (by decide +kernel) rfl
theorem e0_414 : amT 0 414 415 (.iload_n 3) 0 := r0 (len := 1) (by decide +kernel) rfl
theorem e0_415 : amT 0 415 416 (.iconst 3) 0 := r0 (len := 1) (by decide +kernel) rfl
theorem e0_416 : amT 0 416 417 (.iadd) 0 := r0 (len := 1) (by decide +kernel) rfl
theorem e0_417 : amT 0 417 418 (.iaload) 0 := r0 (len := 1) (by decide +kernel) rfl
theorem e0_418 : amT 0 418 421 (.invokevirtual 43) 117 := r0 (len := 3) (by decide +kernel) rfl
theorem e0_421 : amT 0 421 422 (.aload_n 2) 0 := r0 (len := 1) (by decide +kernel) rfl
theorem e0_422 : amT 0 422 423 (.aload_n 0) 0 := r0 (len := 1) (by decide +kernel) rfl
theorem e0_423 : amT 0 423 424 (.iload_n 3) 0 := r0 (len := 1) (by decide +kernel) rfl
theorem e0_424 : amT 0 424 425 (.iconst 1) 0 := r0 (len := 1) (by decide +kernel) rfl
theorem e0_425 : amT 0 425 426 (.iadd) 0 := r0 (len := 1) (by decide +kernel) rfl
theorem e0_426 : amT 0 426 427 (.iaload) 0 := r0 (len := 1) (by decide +kernel) rfl
theorem e0_427 : amT 0 427 428 (.aload_n 0) 0 := r0 (len := 1) (by decide +kernel) rfl
theorem e0_428 : amT 0 428 429 (.iload_n 3) 0 := r0 (len := 1) (by decide +kernel) rfl
theorem e0_429 : amT 0 429 430 (.iconst 2) 0 := r0 (len := 1) (by decide +kernel) rfl
theorem e0_430 : amT 0 430 431 (.iadd) 0 := r0 (len := 1) (by decide +kernel) rfl
theorem e0_431 : amT 0 431 432 (.iaload) 0 := r0 (len := 1) (by decide +kernel) rfl
theorem e0_432 : amT 0 432 433 (.aload_n 0) 0 := r0 (len := 1) (by decide +kernel) rfl
theorem e0_433 : amT 0 433 434 (.iload_n 3) 0 := r0 (len := 1) (by decide +kernel) rfl
theorem e0_434 : amT 0 434 435 (.iconst 3) 0 := r0 (len := 1) (by decide +kernel) rfl
theorem e0_435 : amT 0 435 436 (.iadd) 0 := r0 (len := 1) (by decide +kernel) rfl
theorem e0_436 : amT 0 436 437 (.iaload) 0 := r0 (len := 1) (by decide +kernel) rfl
theorem e0_437 : amT 0 437 440 (.invokevirtual 46) 190 := r0 (len := 3) (by decide +kernel) rfl
theorem e0_440 : amT 0 440 441 (.lcmp) 0 := r0 (len := 1) (by decide +kernel) rfl
theorem e0_441 : amT 0 441 444 (.ifCond .eq 833) 0 := r0 (len := 3) (by decide +kernel) rfl
theorem t0_441 : amTg 441 833 = some 1274 := by decide
theorem e0_444 : amT 0 444 445 (.iconst 0) 0 := r0 (len := 1) (by decide +kernel) rfl
theorem e0_445 : amT 0 445 446 (.ireturn) 0 := r0 (len := 1) (by decide +kernel) rfl
theorem e0_446 : amT 0 446 447 (.aload_n 1) 0 := r0 (len := 1) (by decide +kernel) rfl
theorem e0_447 : amT 0 447 448 (.aload_n 0) 0 := r0 (len := 1) (by decide +kernel) rfl
theorem e0_448 : amT 0 448 449 (.iload_n 3) 0 := r0 (len := 1) (by decide +kernel) rfl
theorem e0_449 : amT 0 449 450 (.iconst 1) 0 := r0 (len := 1) (by decide +kernel) rfl
theorem e0_450 : amT 0 450 451 (.iadd) 0 := r0 (len := 1) (by decide +kernel) rfl
theorem e0_451 : amT 0 451 452 (.iaload) 0 := r0 (len := 1) (by decide +kernel) rfl
theorem e0_452 : amT 0 452 453 (.aload_n 0) 0 := r0 (len := 1) (by decide +kernel) rfl
theorem e0_453 : amT 0 453 454 (.iload_n 3) 0 := r0 (len := 1) (by decide +kernel) rfl
theorem e0_454 : amT 0 454 455 (.iconst 2) 0 := r0 (len := 1) (by decide +kernel) rfl
theorem e0_455 : amT 0 455 456 (.iadd) 0 := r0 (len := 1) (by decide +kernel) rfl
theorem e0_456 : amT 0 456 457 (.iaload) 0 := r0 (len := 1) (by decide +kernel) rfl
theorem e0_457 : amT 0 457 458 (.aload_n 0) 0 := r0 (len := 1) (by decide +kernel) rfl
theorem e0_458 : amT 0 458 459 (.iload_n 3) 0 := r0 (len := 1) (by decide +kernel) rfl
theorem e0_459 : amT 0 459 460 (.iconst 3) 0 := r0 (len := 1) (by decide +kernel) rfl
theorem e0_460 : amT 0 460 461 (.iadd) 0 := r0 (len := 1) (by decide +kernel) rfl
theorem e0_461 : amT 0 461 462 (.iaload) 0 := r0 (len := 1) (by decide +kernel) rfl
theorem e0_462 : amT 0 462 465 (.invokevirtual 47) 118 := r0 (len := 3) (by decide +kernel) rfl
theorem e0_465 : amT 0 465 466 (.aload_n 2) 0 := r0 (len := 1) (by decide +kernel) rfl
theorem e0_466 : amT 0 466 467 (.aload_n 0) 0 := r0 (len := 1) (by decide +kernel) rfl
theorem e0_467 : amT 0 467 468 (.iload_n 3) 0 := r0 (len := 1) (by decide +kernel) rfl
theorem e0_468 : amT 0 468 469 (.iconst 1) 0 := r0 (len := 1) (by decide +kernel) rfl
theorem e0_469 : amT 0 469 470 (.iadd) 0 := r0 (len := 1) (by decide +kernel) rfl
theorem e0_470 : amT 0 470 471 (.iaload) 0 := r0 (len := 1) (by decide +kernel) rfl
theorem e0_471 : amT 0 471 472 (.aload_n 0) 0 := r0 (len := 1) (by decide +kernel) rfl
theorem e0_472 : amT 0 472 473 (.iload_n 3) 0 := r0 (len := 1) (by decide +kernel) rfl
theorem e0_473 : amT 0 473 474 (.iconst 2) 0 := r0 (len := 1) (by decide +kernel) rfl
theorem e0_474 : amT 0 474 475 (.iadd) 0 := r0 (len := 1) (by decide +kernel) rfl
theorem e0_475 : amT 0 475 476 (.iaload) 0 := r0 (len := 1) (by decide +kernel) rfl
theorem e0_476 : amT 0 476 477 (.aload_n 0) 0 := r0 (len := 1) (by decide +kernel) rfl
theorem e0_477 : amT 0 477 478 (.iload_n 3) 0 := r0 (len := 1) (by decide +kernel) rfl
theorem e0_478 : amT 0 478 479 (.iconst 3) 0 := r0 (len := 1) (by decide +kernel) rfl
theorem e0_479 : amT 0 479 480 (.iadd) 0 := r0 (len := 1) (by decide +kernel) rfl
theorem e0_480 : amT 0 480 481 (.iaload) 0 := r0 (len := 1) (by decide +kernel) rfl
theorem e0_481 : amT 0 481 484 (.invokevirtual 50) 191 := r0 (len := 3) (by decide +kernel) rfl
theorem e0_484 : amT 0 484 487 (.if_icmp .eq 790) 0 := r0 (len := 3) (by decide +kernel) rfl
theorem t0_484 : amTg 484 790 = some 1274 := by decide
theorem e0_487 : amT 0 487 488 (.iconst 0) 0 := r0 (len := 1) (by decide +kernel) rfl
theorem e0_488 : amT 0 488 489 (.ireturn) 0 := r0 (len := 1) (by decide +kernel) rfl
theorem e0_489 : amT 0 489 490 (.aload_n 1) 0 := r0 (len := 1) (by decide +kernel) rfl
theorem e0_490 : amT 0 490 491 (.aload_n 0) 0 := r0 (len := 1) (by decide +kernel) rfl
theorem e0_491 : amT 0 491 492 (.iload_n 3) 0 := r0 (len := 1) (by decide +kernel) rfl
theorem e0_492 : amT 0 492 493 (.iconst 1) 0 := r0 (len := 1) (by decide +kernel) rfl
theorem e0_493 : amT 0 493 494 (.iadd) 0 := r0 (len := 1) (by decide +kernel) rfl
theorem e0_494 : amT 0 494 495 (.iaload) 0 := r0 (len := 1) (by decide +kernel) rfl
theorem e0_495 : amT 0 495 498 (.invokevirtual 51) 119 := r0 (len := 3) (by decide +kernel) rfl
theorem e0_498 : amT 0 498 499 (.aload_n 2) 0 := r0 (len := 1) (by decide +kernel) rfl
theorem e0_499 : amT 0 499 500 (.aload_n 0) 0 := r0 (len := 1) (by decide +kernel) rfl
theorem e0_500 : amT 0 500 501 (.iload_n 3) 0 := r0 (len := 1) (by decide +kernel) rfl
theorem e0_501 : amT 0 501 502 (.iconst 1) 0 := r0 (len := 1) (by decide +kernel) rfl
theorem e0_502 : amT 0 502 503 (.iadd) 0 := r0 (len := 1) (by decide +kernel) rfl
theorem e0_503 : amT 0 503 504 (.iaload) 0 := r0 (len := 1) (by decide +kernel) rfl
theorem e0_504 : amT 0 504 507 (.invokevirtual 55) 192 := r0 (len := 3) (by decide +kernel) rfl
theorem e0_507 : amT 0 507 510 (.if_icmp .eq 767) 0 := r0 (len := 3) (by decide +kernel) rfl
theorem t0_507 : amTg 507 767 = some 1274 := by decide
theorem e0_510 : amT 0 510 511 (.iconst 0) 0 := r0 (len := 1) (by decide +kernel) rfl
theorem e0_511 : amT 0 511 512 (.ireturn) 0 := r0 (len := 1) (by decide +kernel) rfl
theorem e0_512 : amT 0 512 513 (.aload_n 1) 0 := r0 (len := 1) (by decide +kernel) rfl
theorem e0_513 : amT 0 513 514 (.aload_n 0) 0 := r0 (len := 1) (by decide +kernel) rfl
theorem e0_514 : amT 0 514 515 (.iload_n 3) 0 := r0 (len := 1) (by decide +kernel) rfl
theorem e0_515 : amT 0 515 516 (.iconst 1) 0 := r0 (len := 1) (by decide +kernel) rfl
theorem e0_516 : amT 0 516 517 (.iadd) 0 := r0 (len := 1) (by decide +kernel) rfl
theorem e0_517 : amT 0 517 518 (.iaload) 0 := r0 (len := 1) (by decide +kernel) rfl
theorem e0_518 : amT 0 518 519 (.aload_n 0) 0 := r0 (len := 1) (by decide +kernel) rfl
theorem e0_519 : amT 0 519 520 (.iload_n 3) 0 := r0 (len := 1) (by decide +kernel) rfl
theorem e0_520 : amT 0 520 521 (.iconst 2) 0 := r0 (len := 1) (by decide +kernel) rfl
theorem e0_521 : amT 0 521 522 (.iadd) 0 := r0 (len := 1) (by decide +kernel) rfl
theorem e0_522 : amT 0 522 523 (.iaload) 0 := r0 (len := 1) (by decide +kernel) rfl
theorem e0_523 : amT 0 523 524 (.aload_n 0) 0 := r0 (len := 1) (by decide +kernel) rfl
theorem e0_524 : amT 0 524 525 (.iload_n 3) 0 := r0 (len := 1) (by decide +kernel) rfl
theorem e0_525 : amT 0 525 526 (.iconst 3) 0 := r0 (len := 1) (by decide +kernel) rfl
theorem e0_526 : amT 0 526 527 (.iadd) 0 := r0 (len := 1) (by decide +kernel) rfl
theorem e0_527 : amT 0 527 528 (.iaload) 0 := r0 (len := 1) (by decide +kernel) rfl
theorem e0_528 : amT 0 528 529 (.aload_n 0) 0 := r0 (len := 1) (by decide +kernel) rfl
theorem e0_529 : amT 0 529 530 (.iload_n 3) 0 := r0 (len := 1) (by decide +kernel) rfl
theorem e0_530 : amT 0 530 531 (.iconst 4) 0 := r0 (len := 1) (by decide +kernel) rfl
theorem e0_531 : amT 0 531 532 (.iadd) 0 := r0 (len := 1) (by decide +kernel) rfl
theorem e0_532 : amT 0 532 533 (.iaload) 0 := r0 (len := 1) (by decide +kernel) rfl
theorem e0_533 : amT 0 533 534 (.aload_n 0) 0 := r0 (len := 1) (by decide +kernel) rfl
theorem e0_534 : amT 0 534 535 (.iload_n 3) 0 := r0 (len := 1) (by decide +kernel) rfl
theorem e0_535 : amT 0 535 536 (.iconst 5) 0 := r0 (len := 1) (by decide +kernel) rfl
theorem e0_536 : amT 0 536 537 (.iadd) 0 := r0 (len := 1) (by decide +kernel) rfl
theorem e0_537 : amT 0 537 538 (.iaload) 0 := r0 (len := 1) (by decide +kernel) rfl
theorem e0_538 : amT 0 538 541 (.invokevirtual 56) 120 := r0 (len := 3) (by decide +kernel) rfl
theorem e0_541 : amT 0 541 542 (.aload_n 2) 0 := r0 (len := 1) (by decide +kernel) rfl
theorem e0_542 : amT 0 542 543 (.aload_n 0) 0 := r0 (len := 1) (by decide +kernel) rfl
theorem e0_543 : amT 0 543 544 (.iload_n 3) 0 := r0 (len := 1) (by decide +kernel) rfl
theorem e0_544 : amT 0 544 545 (.iconst 1) 0 := r0 (len := 1) (by decide +kernel) rfl
theorem e0_545 : amT 0 545 546 (.iadd) 0 := r0 (len := 1) (by decide +kernel) rfl
theorem e0_546 : amT 0 546 547 (.iaload) 0 := r0 (len := 1) (by decide +kernel) rfl
theorem e0_547 : amT 0 547 548 (.aload_n 0) 0 := r0 (len := 1) (by decide +kernel) rfl
theorem e0_548 : amT 0 548 549 (.iload_n 3) 0 := r0 (len := 1) (by decide +kernel) rfl
theorem e0_549 : amT 0 549 550 (.iconst 2) 0 := r0 (len := 1) (by decide +kernel) rfl
theorem e0_550 : amT 0 550 551 (.iadd) 0 := r0 (len := 1) (by decide +kernel) rfl
theorem e0_551 : amT 0 551 552 (.iaload) 0 := r0 (len := 1) (by decide +kernel) rfl
theorem e0_552 : amT 0 552 553 (.aload_n 0) 0 := r0 (len := 1) (by decide +kernel) rfl
theorem e0_553 : amT 0 553 554 (.iload_n 3) 0 := r0 (len := 1) (by decide +kernel) rfl
theorem e0_554 : amT 0 554 555 (.iconst 3) 0 := r0 (len := 1) (by decide +kernel) rfl
theorem e0_555 : amT 0 555 556 (.iadd) 0 := r0 (len := 1) (by decide +kernel) rfl
theorem e0_556 : amT 0 556 557 (.iaload) 0 := r0 (len := 1) (by decide +kernel) rfl
theorem e0_557 : amT 0 557 558 (.aload_n 0) 0 := r0 (len := 1) (by decide +kernel) rfl
theorem e0_558 : amT 0 558 559 (.iload_n 3) 0 := r0 (len := 1) (by decide +kernel) rfl
theorem e0_559 : amT 0 559 560 (.iconst 4) 0 := r0 (len := 1) (by decide +kernel) rfl
theorem e0_560 : amT 0 560 561 (.iadd) 0 := r0 (len := 1) (by decide +kernel) rfl
theorem e0_561 : amT 0 561 562 (.iaload) 0 := r0 (len := 1) (by decide +kernel) rfl
theorem e0_562 : amT 0 562 563 (.aload_n 0) 0 := r0 (len := 1) (by decide +kernel) rfl
theorem e0_563 : amT 0 563 564 (.iload_n 3) 0 := r0 (len := 1) (by decide +kernel) rfl
theorem e0_564 : amT 0 564 565 (.iconst 5) 0 := r0 (len := 1) (by decide +kernel) rfl
theorem e0_565 : amT 0 565 566 (.iadd) 0 := r0 (len := 1) (by decide +kernel) rfl
theorem e0_566 : amT 0 566 567 (.iaload) 0 := r0 (len := 1) (by decide +kernel) rfl
theorem e0_567 : amT 0 567 570 (.invokevirtual 59) 193 := r0 (len := 3) (by decide +kernel) rfl
theorem e0_570 : amT 0 570 573 (.if_icmp .eq 704) 0 := r0 (len := 3) (by decide +kernel) rfl
theorem t0_570 : amTg 570 704 = some 1274 := by decide
theorem e0_573 : amT 0 573 574 (.iconst 0) 0 := r0 (len := 1) (by decide +kernel) rfl
theorem e0_574 : amT 0 574 575 (.ireturn) 0 := r0 (len := 1) (by decide +kernel) rfl
theorem e0_575 : amT 0 575 576 (.aload_n 1) 0 := r0 (len := 1) (by decide +kernel) rfl
theorem e0_576 : amT 0 576 577 (.aload_n 0) 0 := r0 (len := 1) (by decide +kernel) rfl
theorem e0_577 : amT 0 577 578 (.iload_n 3) 0 := r0 (len := 1) (by decide +kernel) rfl
theorem e0_578 : amT 0 578 579 (.iconst 1) 0 := r0 (len := 1) (by decide +kernel) rfl
theorem e0_579 : amT 0 579 580 (.iadd) 0 := r0 (len := 1) (by decide +kernel) rfl
theorem e0_580 : amT 0 580 581 (.iaload) 0 := r0 (len := 1) (by decide +kernel) rfl
theorem e0_581 : amT 0 581 584 (.invokevirtual 60) 121 := r0 (len := 3) (by decide +kernel) rfl
theorem e0_584 : amT 0 584 585 (.aload_n 2) 0 := r0 (len := 1) (by decide +kernel) rfl
theorem e0_585 : amT 0 585 586 (.aload_n 0) 0 := r0 (len := 1) (by decide +kernel) rfl
theorem e0_586 : amT 0 586 587 (.iload_n 3) 0 := r0 (len := 1) (by decide +kernel) rfl
theorem e0_587 : amT 0 587 588 (.iconst 1) 0 := r0 (len := 1) (by decide +kernel) rfl
theorem e0_588 : amT 0 588 589 (.iadd) 0 := r0 (len := 1) (by decide +kernel) rfl
theorem e0_589 : amT 0 589 590 (.iaload) 0 := r0 (len := 1) (by decide +kernel) rfl
theorem e0_590 : amT 0 590 593 (.invokevirtual 63) 195 := r0 (len := 3) (by decide +kernel) rfl
theorem e0_593 : amT 0 593 596 (.if_icmp .eq 681) 0 := r0 (len := 3) (by decide +kernel) rfl
theorem t0_593 : amTg 593 681 = some 1274 := by decide
theorem e0_596 : amT 0 596 597 (.iconst 0) 0 := r0 (len := 1) (by decide +kernel) rfl
theorem e0_597 : amT 0 597 598 (.ireturn) 0 := r0 (len := 1) (by decide +kernel) rfl
theorem e0_598 : amT 0 598 599 (.aload_n 1) 0 := r0 (len := 1) (by decide +kernel) rfl
theorem e0_599 : amT 0 599 600 (.aload_n 0) 0 := r0 (len := 1) (by decide +kernel) rfl
theorem e0_600 : amT 0 600 601 (.iload_n 3) 0 := r0 (len := 1) (by decide +kernel) rfl
theorem e0_601 : amT 0 601 602 (.iconst 1) 0 := r0 (len := 1) (by decide +kernel) rfl
theorem e0_602 : amT 0 602 603 (.iadd) 0 := r0 (len := 1) (by decide +kernel) rfl
theorem e0_603 : amT 0 603 604 (.iaload) 0 := r0 (len := 1) (by decide +kernel) rfl
theorem e0_604 : amT 0 604 605 (.aload_n 0) 0 := r0 (len := 1) (by decide +kernel) rfl
theorem e0_605 : amT 0 605 606 (.iload_n 3) 0 := r0 (len := 1) (by decide +kernel) rfl
theorem e0_606 : amT 0 606 607 (.iconst 2) 0 := r0 (len := 1) (by decide +kernel) rfl
theorem e0_607 : amT 0 607 608 (.iadd) 0 := r0 (len := 1) (by decide +kernel) rfl
theorem e0_608 : amT 0 608 609 (.iaload) 0 := r0 (len := 1) (by decide +kernel) rfl
theorem e0_609 : amT 0 609 610 (.aload_n 0) 0 := r0 (len := 1) (by decide +kernel) rfl
theorem e0_610 : amT 0 610 611 (.iload_n 3) 0 := r0 (len := 1) (by decide +kernel) rfl
theorem e0_611 : amT 0 611 612 (.iconst 3) 0 := r0 (len := 1) (by decide +kernel) rfl
theorem e0_612 : amT 0 612 613 (.iadd) 0 := r0 (len := 1) (by decide +kernel) rfl
theorem e0_613 : amT 0 613 614 (.iaload) 0 := r0 (len := 1) (by decide +kernel) rfl
theorem e0_614 : amT 0 614 615 (.aload_n 0) 0 := r0 (len := 1) (by decide +kernel) rfl
theorem e0_615 : amT 0 615 616 (.iload_n 3) 0 := r0 (len := 1) (by decide +kernel) rfl
theorem e0_616 : amT 0 616 617 (.iconst 4) 0 := r0 (len := 1) (by decide +kernel) rfl
theorem e0_617 : amT 0 617 618 (.iadd) 0 := r0 (len := 1) (by decide +kernel) rfl
theorem e0_618 : amT 0 618 619 (.iaload) 0 := r0 (len := 1) (by decide +kernel) rfl
theorem e0_619 : amT 0 619 622 (.invokevirtual 64) 122 := r0 (len := 3) (by decide +kernel) rfl
theorem e0_622 : amT 0 622 623 (.aload_n 2) 0 := r0 (len := 1) (by decide +kernel) rfl
theorem e0_623 : amT 0 623 624 (.aload_n 0) 0 := r0 (len := 1) (by decide +kernel) rfl
theorem e0_624 : amT 0 624 625 (.iload_n 3) 0 := r0 (len := 1) (by decide +kernel) rfl
theorem e0_625 : amT 0 625 626 (.iconst 1) 0 := r0 (len := 1) (by decide +kernel) rfl
theorem e0_626 : amT 0 626 627 (.iadd) 0 := r0 (len := 1) (by decide +kernel) rfl
theorem e0_627 : amT 0 627 628 (.iaload) 0 := r0 (len := 1) (by decide +kernel) rfl
theorem e0_628 : amT 0 628 629 (.aload_n 0) 0 := r0 (len := 1) (by decide +kernel) rfl
theorem e0_629 : amT 0 629 630 (.iload_n 3) 0 := r0 (len := 1) (by decide +kernel) rfl
theorem e0_630 : amT 0 630 631 (.iconst 2) 0 := r0 (len := 1) (by decide +kernel) rfl
theorem e0_631 : amT 0 631 632 (.iadd) 0 := r0 (len := 1) (by decide +kernel) rfl
theorem e0_632 : amT 0 632 633 (.iaload) 0 := r0 (len := 1) (by decide +kernel) rfl
theorem e0_633 : amT 0 633 634 (.aload_n 0) 0 := r0 (len := 1) (by decide +kernel) rfl
theorem e0_634 : amT 0 634 635 (.iload_n 3) 0 := r0 (len := 1) (by decide +kernel) rfl
theorem e0_635 : amT 0 635 636 (.iconst 3) 0 := r0 (len := 1) (by decide +kernel) rfl
theorem e0_636 : amT 0 636 637 (.iadd) 0 := r0 (len := 1) (by decide +kernel) rfl
theorem e0_637 : amT 0 637 638 (.iaload) 0 := r0 (len := 1) (by decide +kernel) rfl
theorem e0_638 : amT 0 638 639 (.aload_n 0) 0 := r0 (len := 1) (by decide +kernel) rfl
theorem e0_639 : amT 0 639 640 (.iload_n 3) 0 := r0 (len := 1) (by decide +kernel) rfl
theorem e0_640 : amT 0 640 641 (.iconst 4) 0 := r0 (len := 1) (by decide +kernel) rfl
theorem e0_641 : amT 0 641 642 (.iadd) 0 := r0 (len := 1) (by decide +kernel) rfl
theorem e0_642 : amT 0 642 643 (.iaload) 0 := r0 (len := 1) (by decide +kernel) rfl
theorem e0_643 : amT 0 643 646 (.invokevirtual 68) 198 := r0 (len := 3) (by decide +kernel) rfl
theorem e0_646 : amT 0 646 647 (.lcmp) 0 := r0 (len := 1) (by decide +kernel) rfl
theorem e0_647 : amT 0 647 650 (.ifCond .eq 627) 0 := r0 (len := 3) (by decide +kernel) rfl
theorem t0_647 : amTg 647 627 = some 1274 := by decide
theorem e0_650 : amT 0 650 651 (.iconst 0) 0 := r0 (len := 1) (by decide +kernel) rfl
theorem e0_651 : amT 0 651 652 (.ireturn) 0 := r0 (len := 1) (by decide +kernel) rfl
theorem e0_652 : amT 0 652 653 (.aload_n 1) 0 := r0 (len := 1) (by decide +kernel) rfl
theorem e0_653 : amT 0 653 654 (.aload_n 0) 0 := r0 (len := 1) (by decide +kernel) rfl
theorem e0_654 : amT 0 654 655 (.iload_n 3) 0 := r0 (len := 1) (by decide +kernel) rfl
theorem e0_655 : amT 0 655 656 (.iconst 1) 0 := r0 (len := 1) (by decide +kernel) rfl
theorem e0_656 : amT 0 656 657 (.iadd) 0 := r0 (len := 1) (by decide +kernel) rfl
theorem e0_657 : amT 0 657 658 (.iaload) 0 := r0 (len := 1) (by decide +kernel) rfl
theorem e0_658 : amT 0 658 659 (.aload_n 0) 0 := r0 (len := 1) (by decide +kernel) rfl
theorem e0_659 : amT 0 659 660 (.iload_n 3) 0 := r0 (len := 1) (by decide +kernel) rfl
theorem e0_660 : amT 0 660 661 (.iconst 2) 0 := r0 (len := 1) (by decide +kernel) rfl
theorem e0_661 : amT 0 661 662 (.iadd) 0 := r0 (len := 1) (by decide +kernel) rfl
theorem e0_662 : amT 0 662 663 (.iaload) 0 := r0 (len := 1) (by decide +kernel) rfl
theorem e0_663 : amT 0 663 666 (.invokevirtual 69) 123 := r0 (len := 3) (by decide +kernel) rfl
theorem e0_666 : amT 0 666 667 (.aload_n 2) 0 := r0 (len := 1) (by decide +kernel) rfl
theorem e0_667 : amT 0 667 668 (.aload_n 0) 0 := r0 (len := 1) (by decide +kernel) rfl
theorem e0_668 : amT 0 668 669 (.iload_n 3) 0 := r0 (len := 1) (by decide +kernel) rfl
theorem e0_669 : amT 0 669 670 (.iconst 1) 0 := r0 (len := 1) (by decide +kernel) rfl
theorem e0_670 : amT 0 670 671 (.iadd) 0 := r0 (len := 1) (by decide +kernel) rfl
theorem e0_671 : amT 0 671 672 (.iaload) 0 := r0 (len := 1) (by decide +kernel) rfl
theorem e0_672 : amT 0 672 673 (.aload_n 0) 0 := r0 (len := 1) (by decide +kernel) rfl
theorem e0_673 : amT 0 673 674 (.iload_n 3) 0 := r0 (len := 1) (by decide +kernel) rfl
theorem e0_674 : amT 0 674 675 (.iconst 2) 0 := r0 (len := 1) (by decide +kernel) rfl
theorem e0_675 : amT 0 675 676 (.iadd) 0 := r0 (len := 1) (by decide +kernel) rfl
theorem e0_676 : amT 0 676 677 (.iaload) 0 := r0 (len := 1) (by decide +kernel) rfl
theorem e0_677 : amT 0 677 680 (.invokevirtual 72) 201 := r0 (len := 3) (by decide +kernel) rfl
theorem e0_680 : amT 0 680 683 (.if_icmp .eq 594) 0 := r0 (len := 3) (by decide +kernel) rfl
theorem t0_680 : amTg 680 594 = some 1274 := by decide
theorem e0_683 : amT 0 683 684 (.iconst 0) 0 := r0 (len := 1) (by decide +kernel) rfl
theorem e0_684 : amT 0 684 685 (.ireturn) 0 := r0 (len := 1) (by decide +kernel) rfl
theorem e0_685 : amT 0 685 686 (.aload_n 1) 0 := r0 (len := 1) (by decide +kernel) rfl
theorem e0_686 : amT 0 686 687 (.aload_n 0) 0 := r0 (len := 1) (by decide +kernel) rfl
theorem e0_687 : amT 0 687 688 (.iload_n 3) 0 := r0 (len := 1) (by decide +kernel) rfl
theorem e0_688 : amT 0 688 689 (.iconst 1) 0 := r0 (len := 1) (by decide +kernel) rfl
theorem e0_689 : amT 0 689 690 (.iadd) 0 := r0 (len := 1) (by decide +kernel) rfl
theorem e0_690 : amT 0 690 691 (.iaload) 0 := r0 (len := 1) (by decide +kernel) rfl
theorem e0_691 : amT 0 691 692 (.aload_n 0) 0 := r0 (len := 1) (by decide +kernel) rfl
theorem e0_692 : amT 0 692 693 (.iload_n 3) 0 := r0 (len := 1) (by decide +kernel) rfl
theorem e0_693 : amT 0 693 694 (.iconst 2) 0 := r0 (len := 1) (by decide +kernel) rfl
theorem e0_694 : amT 0 694 695 (.iadd) 0 := r0 (len := 1) (by decide +kernel) rfl
theorem e0_695 : amT 0 695 696 (.iaload) 0 := r0 (len := 1) (by decide +kernel) rfl
theorem e0_696 : amT 0 696 699 (.invokevirtual 73) 124 := r0 (len := 3) (by decide +kernel) rfl
theorem e0_699 : amT 0 699 700 (.aload_n 2) 0 := r0 (len := 1) (by decide +kernel) rfl
theorem e0_700 : amT 0 700 701 (.aload_n 0) 0 := r0 (len := 1) (by decide +kernel) rfl
theorem e0_701 : amT 0 701 702 (.iload_n 3) 0 := r0 (len := 1) (by decide +kernel) rfl
theorem e0_702 : amT 0 702 703 (.iconst 1) 0 := r0 (len := 1) (by decide +kernel) rfl
theorem e0_703 : amT 0 703 704 (.iadd) 0 := r0 (len := 1) (by decide +kernel) rfl
theorem e0_704 : amT 0 704 705 (.iaload) 0 := r0 (len := 1) (by decide +kernel) rfl
theorem e0_705 : amT 0 705 706 (.aload_n 0) 0 := r0 (len := 1) (by decide +kernel) rfl
theorem e0_706 : amT 0 706 707 (.iload_n 3) 0 := r0 (len := 1) (by decide +kernel) rfl
theorem e0_707 : amT 0 707 708 (.iconst 2) 0 := r0 (len := 1) (by decide +kernel) rfl
theorem e0_708 : amT 0 708 709 (.iadd) 0 := r0 (len := 1) (by decide +kernel) rfl
theorem e0_709 : amT 0 709 710 (.iaload) 0 := r0 (len := 1) (by decide +kernel) rfl
theorem e0_710 : amT 0 710 713 (.invokevirtual 76) 203 := r0 (len := 3) (by decide +kernel) rfl
theorem e0_713 : amT 0 713 716 (.if_icmp .eq 561) 0 := r0 (len := 3) (by decide +kernel) rfl
theorem t0_713 : amTg 713 561 = some 1274 := by decide
theorem e0_716 : amT 0 716 717 (.iconst 0) 0 := r0 (len := 1) (by decide +kernel) rfl
theorem e0_717 : amT 0 717 718 (.ireturn) 0 := r0 (len := 1) (by decide +kernel) rfl
theorem e0_718 : amT 0 718 719 (.aload_n 1) 0 := r0 (len := 1) (by decide +kernel) rfl
theorem e0_719 : amT 0 719 720 (.aload_n 0) 0 := r0 (len := 1) (by decide +kernel) rfl
theorem e0_720 : amT 0 720 721 (.iload_n 3) 0 := r0 (len := 1) (by decide +kernel) rfl
theorem e0_721 : amT 0 721 722 (.iconst 1) 0 := r0 (len := 1) (by decide +kernel) rfl
theorem e0_722 : amT 0 722 723 (.iadd) 0 := r0 (len := 1) (by decide +kernel) rfl
theorem e0_723 : amT 0 723 724 (.iaload) 0 := r0 (len := 1) (by decide +kernel) rfl
theorem e0_724 : amT 0 724 725 (.aload_n 0) 0 := r0 (len := 1) (by decide +kernel) rfl
theorem e0_725 : amT 0 725 726 (.iload_n 3) 0 := r0 (len := 1) (by decide +kernel) rfl
theorem e0_726 : amT 0 726 727 (.iconst 2) 0 := r0 (len := 1) (by decide +kernel) rfl
theorem e0_727 : amT 0 727 728 (.iadd) 0 := r0 (len := 1) (by decide +kernel) rfl
theorem e0_728 : amT 0 728 729 (.iaload) 0 := r0 (len := 1) (by decide +kernel) rfl
theorem e0_729 : amT 0 729 730 (.aload_n 0) 0 := r0 (len := 1) (by decide +kernel) rfl
theorem e0_730 : amT 0 730 731 (.iload_n 3) 0 := r0 (len := 1) (by decide +kernel) rfl
theorem e0_731 : amT 0 731 732 (.iconst 3) 0 := r0 (len := 1) (by decide +kernel) rfl
theorem e0_732 : amT 0 732 733 (.iadd) 0 := r0 (len := 1) (by decide +kernel) rfl
theorem e0_733 : amT 0 733 734 (.iaload) 0 := r0 (len := 1) (by decide +kernel) rfl
theorem e0_734 : amT 0 734 737 (.invokevirtual 77) 125 := r0 (len := 3) (by decide +kernel) rfl
theorem e0_737 : amT 0 737 738 (.aload_n 2) 0 := r0 (len := 1) (by decide +kernel) rfl
theorem e0_738 : amT 0 738 739 (.aload_n 0) 0 := r0 (len := 1) (by decide +kernel) rfl
theorem e0_739 : amT 0 739 740 (.iload_n 3) 0 := r0 (len := 1) (by decide +kernel) rfl
theorem e0_740 : amT 0 740 741 (.iconst 1) 0 := r0 (len := 1) (by decide +kernel) rfl
theorem e0_741 : amT 0 741 742 (.iadd) 0 := r0 (len := 1) (by decide +kernel) rfl
theorem e0_742 : amT 0 742 743 (.iaload) 0 := r0 (len := 1) (by decide +kernel) rfl
theorem e0_743 : amT 0 743 744 (.aload_n 0) 0 := r0 (len := 1) (by decide +kernel) rfl
theorem e0_744 : amT 0 744 745 (.iload_n 3) 0 := r0 (len := 1) (by decide +kernel) rfl
theorem e0_745 : amT 0 745 746 (.iconst 2) 0 := r0 (len := 1) (by decide +kernel) rfl
theorem e0_746 : amT 0 746 747 (.iadd) 0 := r0 (len := 1) (by decide +kernel) rfl
theorem e0_747 : amT 0 747 748 (.iaload) 0 := r0 (len := 1) (by decide +kernel) rfl
theorem e0_748 : amT 0 748 749 (.aload_n 0) 0 := r0 (len := 1) (by decide +kernel) rfl
theorem e0_749 : amT 0 749 750 (.iload_n 3) 0 := r0 (len := 1) (by decide +kernel) rfl
theorem e0_750 : amT 0 750 751 (.iconst 3) 0 := r0 (len := 1) (by decide +kernel) rfl
theorem e0_751 : amT 0 751 752 (.iadd) 0 := r0 (len := 1) (by decide +kernel) rfl
theorem e0_752 : amT 0 752 753 (.iaload) 0 := r0 (len := 1) (by decide +kernel) rfl
theorem e0_753 : amT 0 753 756 (.invokevirtual 80) 204 := r0 (len := 3) (by decide +kernel) rfl
theorem e0_756 : amT 0 756 757 (.lcmp) 0 := r0 (len := 1) (by decide +kernel) rfl
theorem e0_757 : amT 0 757 760 (.ifCond .eq 517) 0 := r0 (len := 3) (by decide +kernel) rfl
theorem t0_757 : amTg 757 517 = some 1274 := by decide
theorem e0_760 : amT 0 760 761 (.iconst 0) 0 := r0 (len := 1) (by decide +kernel) rfl
theorem e0_761 : amT 0 761 762 (.ireturn) 0 := r0 (len := 1) (by decide +kernel) rfl
theorem e0_762 : amT 0 762 763 (.aload_n 1) 0 := r0 (len := 1) (by decide +kernel) rfl
theorem e0_763 : amT 0 763 764 (.aload_n 0) 0 := r0 (len := 1) (by decide +kernel) rfl
theorem e0_764 : amT 0 764 765 (.iload_n 3) 0 := r0 (len := 1) (by decide +kernel) rfl
theorem e0_765 : amT 0 765 766 (.iconst 1) 0 := r0 (len := 1) (by decide +kernel) rfl
theorem e0_766 : amT 0 766 767 (.iadd) 0 := r0 (len := 1) (by decide +kernel) rfl
theorem e0_767 : amT 0 767 768 (.iaload) 0 := r0 (len := 1) (by decide +kernel) rfl
theorem e0_768 : amT 0 768 769 (.aload_n 0) 0 := r0 (len := 1) (by decide +kernel) rfl
theorem e0_769 : amT 0 769 770 (.iload_n 3) 0 := r0 (len := 1) (by decide +kernel) rfl
theorem e0_770 : amT 0 770 771 (.iconst 2) 0 := r0 (len := 1) (by decide +kernel) rfl
theorem e0_771 : amT 0 771 772 (.iadd) 0 := r0 (len := 1) (by decide +kernel) rfl
theorem e0_772 : amT 0 772 773 (.iaload) 0 := r0 (len := 1) (by decide +kernel) rfl
theorem e0_773 : amT 0 773 776 (.invokevirtual 81) 126 := r0 (len := 3) (by decide +kernel) rfl
theorem e0_776 : amT 0 776 777 (.aload_n 2) 0 := r0 (len := 1) (by decide +kernel) rfl
theorem e0_777 : amT 0 777 778 (.aload_n 0) 0 := r0 (len := 1) (by decide +kernel) rfl
theorem e0_778 : amT 0 778 779 (.iload_n 3) 0 := r0 (len := 1) (by decide +kernel) rfl
theorem e0_779 : amT 0 779 780 (.iconst 1) 0 := r0 (len := 1) (by decide +kernel) rfl
theorem e0_780 : amT 0 780 781 (.iadd) 0 := r0 (len := 1) (by decide +kernel) rfl
theorem e0_781 : amT 0 781 782 (.iaload) 0 := r0 (len := 1) (by decide +kernel) rfl
theorem e0_782 : amT 0 782 783 (.aload_n 0) 0 := r0 (len := 1) (by decide +kernel) rfl
theorem e0_783 : amT 0 783 784 (.iload_n 3) 0 := r0 (len := 1) (by decide +kernel) rfl
theorem e0_784 : amT 0 784 785 (.iconst 2) 0 := r0 (len := 1) (by decide +kernel) rfl
theorem e0_785 : amT 0 785 786 (.iadd) 0 := r0 (len := 1) (by decide +kernel) rfl
theorem e0_786 : amT 0 786 787 (.iaload) 0 := r0 (len := 1) (by decide +kernel) rfl
theorem e0_787 : amT 0 787 790 (.invokevirtual 84) 206 := r0 (len := 3) (by decide +kernel) rfl
theorem e0_790 : amT 0 790 791 (.lcmp) 0 := r0 (len := 1) (by decide +kernel) rfl
theorem e0_791 : amT 0 791 794 (.ifCond .eq 483) 0 := r0 (len := 3) (by decide +kernel) rfl
theorem t0_791 : amTg 791 483 = some 1274 := by decide
theorem e0_794 : amT 0 794 795 (.iconst 0) 0 := r0 (len := 1) (by decide +kernel) rfl
theorem e0_795 : amT 0 795 796 (.ireturn) 0 := r0 (len := 1) (by decide +kernel) rfl
theorem e0_796 : amT 0 796 797 (.aload_n 1) 0 := r0 (len := 1) (by decide +kernel) rfl
theorem e0_797 : amT 0 797 798 (.aload_n 0) 0 := r0 (len := 1) (by decide +kernel) rfl
theorem e0_798 : amT 0 798 799 (.iload_n 3) 0 := r0 (len := 1) (by decide +kernel) rfl
theorem e0_799 : amT 0 799 800 (.iconst 1) 0 := r0 (len := 1) (by decide +kernel) rfl
theorem e0_800 : amT 0 800 801 (.iadd) 0 := r0 (len := 1) (by decide +kernel) rfl
theorem e0_801 : amT 0 801 802 (.iaload) 0 := r0 (len := 1) (by decide +kernel) rfl
theorem e0_802 : amT 0 802 803 (.aload_n 0) 0 := r0 (len := 1) (by decide +kernel) rfl
theorem e0_803 : amT 0 803 804 (.iload_n 3) 0 := r0 (len := 1) (by decide +kernel) rfl
theorem e0_804 : amT 0 804 805 (.iconst 2) 0 := r0 (len := 1) (by decide +kernel) rfl
theorem e0_805 : amT 0 805 806 (.iadd) 0 := r0 (len := 1) (by decide +kernel) rfl
theorem e0_806 : amT 0 806 807 (.iaload) 0 := r0 (len := 1) (by decide +kernel) rfl
theorem e0_807 : amT 0 807 808 (.aload_n 0) 0 := r0 (len := 1) (by decide +kernel) rfl
theorem e0_808 : amT 0 808 809 (.iload_n 3) 0 := r0 (len := 1) (by decide +kernel) rfl
theorem e0_809 : amT 0 809 810 (.iconst 3) 0 := r0 (len := 1) (by decide +kernel) rfl
theorem e0_810 : amT 0 810 811 (.iadd) 0 := r0 (len := 1) (by decide +kernel) rfl
theorem e0_811 : amT 0 811 812 (.iaload) 0 := r0 (len := 1) (by decide +kernel) rfl
theorem e0_812 : amT 0 812 813 (.aload_n 0) 0 := r0 (len := 1) (by decide +kernel) rfl
theorem e0_813 : amT 0 813 814 (.iload_n 3) 0 := r0 (len := 1) (by decide +kernel) rfl
theorem e0_814 : amT 0 814 815 (.iconst 4) 0 := r0 (len := 1) (by decide +kernel) rfl
theorem e0_815 : amT 0 815 816 (.iadd) 0 := r0 (len := 1) (by decide +kernel) rfl
theorem e0_816 : amT 0 816 817 (.iaload) 0 := r0 (len := 1) (by decide +kernel) rfl
theorem e0_817 : amT 0 817 820 (.invokevirtual 85) 127 := r0 (len := 3) (by decide +kernel) rfl
theorem e0_820 : amT 0 820 821 (.aload_n 2) 0 := r0 (len := 1) (by decide +kernel) rfl
theorem e0_821 : amT 0 821 822 (.aload_n 0) 0 := r0 (len := 1) (by decide +kernel) rfl
theorem e0_822 : amT 0 822 823 (.iload_n 3) 0 := r0 (len := 1) (by decide +kernel) rfl
theorem e0_823 : amT 0 823 824 (.iconst 1) 0 := r0 (len := 1) (by decide +kernel) rfl
theorem e0_824 : amT 0 824 825 (.iadd) 0 := r0 (len := 1) (by decide +kernel) rfl
theorem e0_825 : amT 0 825 826 (.iaload) 0 := r0 (len := 1) (by decide +kernel) rfl
theorem e0_826 : amT 0 826 827 (.aload_n 0) 0 := r0 (len := 1) (by decide +kernel) rfl
theorem e0_827 : amT 0 827 828 (.iload_n 3) 0 := r0 (len := 1) (by decide +kernel) rfl
theorem e0_828 : amT 0 828 829 (.iconst 2) 0 := r0 (len := 1) (by decide +kernel) rfl
theorem e0_829 : amT 0 829 830 (.iadd) 0 := r0 (len := 1) (by decide +kernel) rfl
theorem e0_830 : amT 0 830 831 (.iaload) 0 := r0 (len := 1) (by decide +kernel) rfl
theorem e0_831 : amT 0 831 832 (.aload_n 0) 0 := r0 (len := 1) (by decide +kernel) rfl
theorem e0_832 : amT 0 832 833 (.iload_n 3) 0 := r0 (len := 1) (by decide +kernel) rfl
theorem e0_833 : amT 0 833 834 (.iconst 3) 0 := r0 (len := 1) (by decide +kernel) rfl
theorem e0_834 : amT 0 834 835 (.iadd) 0 := r0 (len := 1) (by decide +kernel) rfl
theorem e0_835 : amT 0 835 836 (.iaload) 0 := r0 (len := 1) (by decide +kernel) rfl
theorem e0_836 : amT 0 836 837 (.aload_n 0) 0 := r0 (len := 1) (by decide +kernel) rfl
theorem e0_837 : amT 0 837 838 (.iload_n 3) 0 := r0 (len := 1) (by decide +kernel) rfl
theorem e0_838 : amT 0 838 839 (.iconst 4) 0 := r0 (len := 1) (by decide +kernel) rfl
theorem e0_839 : amT 0 839 840 (.iadd) 0 := r0 (len := 1) (by decide +kernel) rfl
theorem e0_840 : amT 0 840 841 (.iaload) 0 := r0 (len := 1) (by decide +kernel) rfl
theorem e0_841 : amT 0 841 844 (.invokevirtual 88) 209 := r0 (len := 3) (by decide +kernel) rfl
theorem e0_844 : amT 0 844 845 (.lcmp) 0 := r0 (len := 1) (by decide +kernel) rfl
theorem e0_845 : amT 0 845 848 (.ifCond .eq 429) 0 := r0 (len := 3) (by decide +kernel) rfl
theorem t0_845 : amTg 845 429 = some 1274 := by decide
theorem e0_848 : amT 0 848 849 (.iconst 0) 0 := r0 (len := 1) (by decide +kernel) rfl
theorem e0_849 : amT 0 849 850 (.ireturn) 0 := r0 (len := 1) (by decide +kernel) rfl
theorem e0_850 : amT 0 850 851 (.aload_n 1) 0 := r0 (len := 1) (by decide +kernel) rfl
theorem e0_851 : amT 0 851 852 (.aload_n 0) 0 := r0 (len := 1) (by decide +kernel) rfl
theorem e0_852 : amT 0 852 853 (.iload_n 3) 0 := r0 (len := 1) (by decide +kernel) rfl
theorem e0_853 : amT 0 853 854 (.iconst 1) 0 := r0 (len := 1) (by decide +kernel) rfl
theorem e0_854 : amT 0 854 855 (.iadd) 0 := r0 (len := 1) (by decide +kernel) rfl
theorem e0_855 : amT 0 855 856 (.iaload) 0 := r0 (len := 1) (by decide +kernel) rfl
theorem e0_856 : amT 0 856 857 (.aload_n 0) 0 := r0 (len := 1) (by decide +kernel) rfl
theorem e0_857 : amT 0 857 858 (.iload_n 3) 0 := r0 (len := 1) (by decide +kernel) rfl
theorem e0_858 : amT 0 858 859 (.iconst 2) 0 := r0 (len := 1) (by decide +kernel) rfl
theorem e0_859 : amT 0 859 860 (.iadd) 0 := r0 (len := 1) (by decide +kernel) rfl
theorem e0_860 : amT 0 860 861 (.iaload) 0 := r0 (len := 1) (by decide +kernel) rfl
theorem e0_861 : amT 0 861 862 (.aload_n 0) 0 := r0 (len := 1) (by decide +kernel) rfl
theorem e0_862 : amT 0 862 863 (.iload_n 3) 0 := r0 (len := 1) (by decide +kernel) rfl
theorem e0_863 : amT 0 863 864 (.iconst 3) 0 := r0 (len := 1) (by decide +kernel) rfl
theorem e0_864 : amT 0 864 865 (.iadd) 0 := r0 (len := 1) (by decide +kernel) rfl
theorem e0_865 : amT 0 865 866 (.iaload) 0 := r0 (len := 1) (by decide +kernel) rfl
theorem e0_866 : amT 0 866 869 (.invokevirtual 89) 128 := r0 (len := 3) (by decide +kernel) rfl
theorem e0_869 : amT 0 869 870 (.aload_n 2) 0 := r0 (len := 1) (by decide +kernel) rfl
theorem e0_870 : amT 0 870 871 (.aload_n 0) 0 := r0 (len := 1) (by decide +kernel) rfl
theorem e0_871 : amT 0 871 872 (.iload_n 3) 0 := r0 (len := 1) (by decide +kernel) rfl
theorem e0_872 : amT 0 872 873 (.iconst 1) 0 := r0 (len := 1) (by decide +kernel) rfl
theorem e0_873 : amT 0 873 874 (.iadd) 0 := r0 (len := 1) (by decide +kernel) rfl
theorem e0_874 : amT 0 874 875 (.iaload) 0 := r0 (len := 1) (by decide +kernel) rfl
theorem e0_875 : amT 0 875 876 (.aload_n 0) 0 := r0 (len := 1) (by decide +kernel) rfl
theorem e0_876 : amT 0 876 877 (.iload_n 3) 0 := r0 (len := 1) (by decide +kernel) rfl
theorem e0_877 : amT 0 877 878 (.iconst 2) 0 := r0 (len := 1) (by decide +kernel) rfl
theorem e0_878 : amT 0 878 879 (.iadd) 0 := r0 (len := 1) (by decide +kernel) rfl
theorem e0_879 : amT 0 879 880 (.iaload) 0 := r0 (len := 1) (by decide +kernel) rfl
theorem e0_880 : amT 0 880 881 (.aload_n 0) 0 := r0 (len := 1) (by decide +kernel) rfl
theorem e0_881 : amT 0 881 882 (.iload_n 3) 0 := r0 (len := 1) (by decide +kernel) rfl
theorem e0_882 : amT 0 882 883 (.iconst 3) 0 := r0 (len := 1) (by decide +kernel) rfl
theorem e0_883 : amT 0 883 884 (.iadd) 0 := r0 (len := 1) (by decide +kernel) rfl
theorem e0_884 : amT 0 884 885 (.iaload) 0 := r0 (len := 1) (by decide +kernel) rfl
theorem e0_885 : amT 0 885 888 (.invokevirtual 92) 212 := r0 (len := 3) (by decide +kernel) rfl
theorem e0_888 : amT 0 888 889 (.lcmp) 0 := r0 (len := 1) (by decide +kernel) rfl
theorem e0_889 : amT 0 889 892 (.ifCond .eq 385) 0 := r0 (len := 3) (by decide +kernel) rfl
theorem t0_889 : amTg 889 385 = some 1274 := by decide
theorem e0_892 : amT 0 892 893 (.iconst 0) 0 := r0 (len := 1) (by decide +kernel) rfl
theorem e0_893 : amT 0 893 894 (.ireturn) 0 := r0 (len := 1) (by decide +kernel) rfl
theorem e0_894 : amT 0 894 895 (.aload_n 1) 0 := r0 (len := 1) (by decide +kernel) rfl
theorem e0_895 : amT 0 895 896 (.aload_n 0) 0 := r0 (len := 1) (by decide +kernel) rfl
theorem e0_896 : amT 0 896 897 (.iload_n 3) 0 := r0 (len := 1) (by decide +kernel) rfl
theorem e0_897 : amT 0 897 898 (.iconst 1) 0 := r0 (len := 1) (by decide +kernel) rfl
theorem e0_898 : amT 0 898 899 (.iadd) 0 := r0 (len := 1) (by decide +kernel) rfl
theorem e0_899 : amT 0 899 900 (.iaload) 0 := r0 (len := 1) (by decide +kernel) rfl
theorem e0_900 : amT 0 900 903 (.invokevirtual 93) 129 := r0 (len := 3) (by decide +kernel) rfl
theorem e0_903 : amT 0 903 904 (.aload_n 2) 0 := r0 (len := 1) (by decide +kernel) rfl
theorem e0_904 : amT 0 904 905 (.aload_n 0) 0 := r0 (len := 1) (by decide +kernel) rfl
theorem e0_905 : amT 0 905 906 (.iload_n 3) 0 := r0 (len := 1) (by decide +kernel) rfl
theorem e0_906 : amT 0 906 907 (.iconst 1) 0 := r0 (len := 1) (by decide +kernel) rfl
theorem e0_907 : amT 0 907 908 (.iadd) 0 := r0 (len := 1) (by decide +kernel) rfl
theorem e0_908 : amT 0 908 909 (.iaload) 0 := r0 (len := 1) (by decide +kernel) rfl
theorem e0_909 : amT 0 909 912 (.invokevirtual 96) 220 := r0 (len := 3) (by decide +kernel) rfl
theorem e0_912 : amT 0 912 915 (.if_icmp .eq 362) 0 := r0 (len := 3) (by decide +kernel) rfl
theorem t0_912 : amTg 912 362 = some 1274 := by decide
theorem e0_915 : amT 0 915 916 (.iconst 0) 0 := r0 (len := 1) (by decide +kernel) rfl
theorem e0_916 : amT 0 916 917 (.ireturn) 0 := r0 (len := 1) (by decide +kernel) rfl
theorem e0_917 : amT 0 917 918 (.aload_n 1) 0 := r0 (len := 1) (by decide +kernel) rfl
theorem e0_918 : amT 0 918 921 (.invokevirtual 97) 130 := r0 (len := 3) (by decide +kernel) rfl
theorem e0_921 : amT 0 921 922 (.aload_n 2) 0 := r0 (len := 1) (by decide +kernel) rfl
theorem e0_922 : amT 0 922 925 (.invokevirtual 100) 231 := r0 (len := 3) (by decide +kernel) rfl
theorem e0_925 : amT 0 925 928 (.if_icmp .eq 349) 0 := r0 (len := 3) (by decide +kernel) rfl
theorem t0_925 : amTg 925 349 = some 1274 := by decide
theorem e0_928 : amT 0 928 929 (.iconst 0) 0 := r0 (len := 1) (by decide +kernel) rfl
theorem e0_929 : amT 0 929 930 (.ireturn) 0 := r0 (len := 1) (by decide +kernel) rfl
theorem e0_930 : amT 0 930 931 (.aload_n 1) 0 := r0 (len := 1) (by decide +kernel) rfl
theorem e0_931 : amT 0 931 932 (.aload_n 0) 0 := r0 (len := 1) (by decide +kernel) rfl
theorem e0_932 : amT 0 932 933 (.iload_n 3) 0 := r0 (len := 1) (by decide +kernel) rfl
theorem e0_933 : amT 0 933 934 (.iconst 1) 0 := r0 (len := 1) (by decide +kernel) rfl
theorem e0_934 : amT 0 934 935 (.iadd) 0 := r0 (len := 1) (by decide +kernel) rfl
theorem e0_935 : amT 0 935 936 (.iaload) 0 := r0 (len := 1) (by decide +kernel) rfl
theorem e0_936 : amT 0 936 939 (.invokevirtual 101) 131 := r0 (len := 3) (by decide +kernel) rfl
theorem e0_939 : amT 0 939 940 (.aload_n 2) 0 := r0 (len := 1) (by decide +kernel) rfl
theorem e0_940 : amT 0 940 941 (.aload_n 0) 0 := r0 (len := 1) (by decide +kernel) rfl
theorem e0_941 : amT 0 941 942 (.iload_n 3) 0 := r0 (len := 1) (by decide +kernel) rfl
theorem e0_942 : amT 0 942 943 (.iconst 1) 0 := r0 (len := 1) (by decide +kernel) rfl
theorem e0_943 : amT 0 943 944 (.iadd) 0 := r0 (len := 1) (by decide +kernel) rfl
theorem e0_944 : amT 0 944 945 (.iaload) 0 := r0 (len := 1) (by decide +kernel) rfl
theorem e0_945 : amT 0 945 948 (.invokevirtual 104) 234 := r0 (len := 3) (by decide +kernel) rfl
theorem e0_948 : amT 0 948 951 (.if_icmp .eq 326) 0 := r0 (len := 3) (by decide +kernel) rfl
theorem t0_948 : amTg 948 326 = some 1274 := by decide
theorem e0_951 : amT 0 951 952 (.iconst 0) 0 := r0 (len := 1) (by decide +kernel) rfl
theorem e0_952 : amT 0 952 953 (.ireturn) 0 := r0 (len := 1) (by decide +kernel) rfl
theorem e0_953 : amT 0 953 954 (.aload_n 1) 0 := r0 (len := 1) (by decide +kernel) rfl
theorem e0_954 : amT 0 954 955 (.aload_n 0) 0 := r0 (len := 1) (by decide +kernel) rfl
theorem e0_955 : amT 0 955 956 (.iload_n 3) 0 := r0 (len := 1) (by decide +kernel) rfl
theorem e0_956 : amT 0 956 957 (.iconst 1) 0 := r0 (len := 1) (by decide +kernel) rfl
theorem e0_957 : amT 0 957 958 (.iadd) 0 := r0 (len := 1) (by decide +kernel) rfl
theorem e0_958 : amT 0 958 959 (.iaload) 0 := r0 (len := 1) (by decide +kernel) rfl
theorem e0_959 : amT 0 959 962 (.invokevirtual 105) 132 := r0 (len := 3) (by decide +kernel) rfl
theorem e0_962 : amT 0 962 963 (.aload_n 2) 0 := r0 (len := 1) (by decide +kernel) rfl
theorem e0_963 : amT 0 963 964 (.aload_n 0) 0 := r0 (len := 1) (by decide +kernel) rfl
theorem e0_964 : amT 0 964 965 (.iload_n 3) 0 := r0 (len := 1) (by decide +kernel) rfl
theorem e0_965 : amT 0 965 966 (.iconst 1) 0 := r0 (len := 1) (by decide +kernel) rfl
theorem e0_966 : amT 0 966 967 (.iadd) 0 := r0 (len := 1) (by decide +kernel) rfl
theorem e0_967 : amT 0 967 968 (.iaload) 0 := r0 (len := 1) (by decide +kernel) rfl
theorem e0_968 : amT 0 968 971 (.invokevirtual 108) 235 := r0 (len := 3) (by decide +kernel) rfl
theorem e0_971 : amT 0 971 974 (.if_icmp .eq 303) 0 := r0 (len := 3) (by decide +kernel) rfl
theorem t0_971 : amTg 971 303 = some 1274 := by decide
theorem e0_974 : amT 0 974 975 (.iconst 0) 0 := r0 (len := 1) (by decide +kernel) rfl
theorem e0_975 : amT 0 975 976 (.ireturn) 0 := r0 (len := 1) (by decide +kernel) rfl
theorem e0_976 : amT 0 976 977 (.aload_n 1) 0 := r0 (len := 1) (by decide +kernel) rfl
theorem e0_977 : amT 0 977 978 (.aload_n 0) 0 := r0 (len := 1) (by decide +kernel) rfl
theorem e0_978 : amT 0 978 979 (.iload_n 3) 0 := r0 (len := 1) (by decide +kernel) rfl
theorem e0_979 : amT 0 979 980 (.iconst 1) 0 := r0 (len := 1) (by decide +kernel) rfl
theorem e0_980 : amT 0 980 981 (.iadd) 0 := r0 (len := 1) (by decide +kernel) rfl
theorem e0_981 : amT 0 981 982 (.iaload) 0 := r0 (len := 1) (by decide +kernel) rfl
theorem e0_982 : amT 0 982 983 (.aload_n 0) 0 := r0 (len := 1) (by decide +kernel) rfl
theorem e0_983 : amT 0 983 984 (.iload_n 3) 0 := r0 (len := 1) (by decide +kernel) rfl
theorem e0_984 : amT 0 984 985 (.iconst 2) 0 := r0 (len := 1) (by decide +kernel) rfl
theorem e0_985 : amT 0 985 986 (.iadd) 0 := r0 (len := 1) (by decide +kernel) rfl
theorem e0_986 : amT 0 986 987 (.iaload) 0 := r0 (len := 1) (by decide +kernel) rfl
theorem e0_987 : amT 0 987 988 (.aload_n 0) 0 := r0 (len := 1) (by decide +kernel) rfl
theorem e0_988 : amT 0 988 989 (.iload_n 3) 0 := r0 (len := 1) (by decide +kernel) rfl
theorem e0_989 : amT 0 989 990 (.iconst 3) 0 := r0 (len := 1) (by decide +kernel) rfl
theorem e0_990 : amT 0 990 991 (.iadd) 0 := r0 (len := 1) (by decide +kernel) rfl
theorem e0_991 : amT 0 991 992 (.iaload) 0 := r0 (len := 1) (by decide +kernel) rfl
theorem e0_992 : amT 0 992 995 (.invokevirtual 109) 133 := r0 (len := 3) (by decide +kernel) rfl
theorem e0_995 : amT 0 995 996 (.aload_n 2) 0 := r0 (len := 1) (by decide +kernel) rfl
theorem e0_996 : amT 0 996 997 (.aload_n 0) 0 := r0 (len := 1) (by decide +kernel) rfl
theorem e0_997 : amT 0 997 998 (.iload_n 3) 0 := r0 (len := 1) (by decide +kernel) rfl
theorem e0_998 : amT 0 998 999 (.iconst 1) 0 := r0 (len := 1) (by decide +kernel) rfl
theorem e0_999 : amT 0 999 1000 (.iadd) 0 := r0 (len := 1) (by decide +kernel) rfl
theorem e0_1000 : amT 0 1000 1001 (.iaload) 0 := r0 (len := 1) (by decide +kernel) rfl
theorem e0_1001 : amT 0 1001 1002 (.aload_n 0) 0 := r0 (len := 1) (by decide +kernel) rfl
theorem e0_1002 : amT 0 1002 1003 (.iload_n 3) 0 := r0 (len := 1) (by decide +kernel) rfl
theorem e0_1003 : amT 0 1003 1004 (.iconst 2) 0 := r0 (len := 1) (by decide +kernel) rfl
theorem e0_1004 : amT 0 1004 1005 (.iadd) 0 := r0 (len := 1) (by decide +kernel) rfl
theorem e0_1005 : amT 0 1005 1006 (.iaload) 0 := r0 (len := 1) (by decide +kernel) rfl
theorem e0_1006 : amT 0 1006 1007 (.aload_n 0) 0 := r0 (len := 1) (by decide +kernel) rfl
theorem e0_1007 : amT 0 1007 1008 (.iload_n 3) 0 := r0 (len := 1) (by decide +kernel) rfl
theorem e0_1008 : amT 0 1008 1009 (.iconst 3) 0 := r0 (len := 1) (by decide +kernel) rfl
theorem e0_1009 : amT 0 1009 1010 (.iadd) 0 := r0 (len := 1) (by decide +kernel) rfl
theorem e0_1010 : amT 0 1010 1011 (.iaload) 0 := r0 (len := 1) (by decide +kernel) rfl
theorem e0_1011 : amT 0 1011 1014 (.invokevirtual 112) 237 := r0 (len := 3) (by decide +kernel) rfl
theorem e0_1014 : amT 0 1014 1017 (.if_icmp .eq 260) 0 := r0 (len := 3) (by decide +kernel) rfl
theorem t0_1014 : amTg 1014 260 = some 1274 := by decide
theorem e0_1017 : amT 0 1017 1018 (.iconst 0) 0 := r0 (len := 1) (by decide +kernel) rfl
theorem e0_1018 : amT 0 1018 1019 (.ireturn) 0 := r0 (len := 1) (by decide +kernel) rfl
theorem e0_1019 : amT 0 1019 1020 (.aload_n 1) 0 := r0 (len := 1) (by decide +kernel) rfl
theorem e0_1020 : amT 0 1020 1021 (.aload_n 0) 0 := r0 (len := 1) (by decide +kernel) rfl
theorem e0_1021 : amT 0 1021 1022 (.iload_n 3) 0 := r0 (len := 1) (by decide +kernel) rfl
theorem e0_1022 : amT 0 1022 1023 (.iconst 1) 0 := r0 (len := 1) (by decide +kernel) rfl
theorem e0_1023 : amT 0 1023 1024 (.iadd) 0 := r0 (len := 1) (by decide +kernel) rfl
theorem e0_1024 : amT 0 1024 1025 (.iaload) 0 := r0 (len := 1) (by decide +kernel) rfl
theorem e0_1025 : amT 0 1025 1026 (.aload_n 0) 0 := r0 (len := 1) (by decide +kernel) rfl
theorem e0_1026 : amT 0 1026 1027 (.iload_n 3) 0 := r0 (len := 1) (by decide +kernel) rfl
theorem e0_1027 : amT 0 1027 1028 (.iconst 2) 0 := r0 (len := 1) (by decide +kernel) rfl
theorem e0_1028 : amT 0 1028 1029 (.iadd) 0 := r0 (len := 1) (by decide +kernel) rfl
theorem e0_1029 : amT 0 1029 1030 (.iaload) 0 := r0 (len := 1) (by decide +kernel) rfl
theorem e0_1030 : amT 0 1030 1031 (.aload_n 0) 0 := r0 (len := 1) (by decide +kernel) rfl
theorem e0_1031 : amT 0 1031 1032 (.iload_n 3) 0 := r0 (len := 1) (by decide +kernel) rfl
theorem e0_1032 : amT 0 1032 1033 (.iconst 3) 0 := r0 (len := 1) (by decide +kernel) rfl
theorem e0_1033 : amT 0 1033 1034 (.iadd) 0 := r0 (len := 1) (by decide +kernel) rfl
theorem e0_1034 : amT 0 1034 1035 (.iaload) 0 := r0 (len := 1) (by decide +kernel) rfl
theorem e0_1035 : amT 0 1035 1036 (.aload_n 0) 0 := r0 (len := 1) (by decide +kernel) rfl
theorem e0_1036 : amT 0 1036 1037 (.iload_n 3) 0 := r0 (len := 1) (by decide +kernel) rfl
theorem e0_1037 : amT 0 1037 1038 (.iconst 4) 0 := r0 (len := 1) (by decide +kernel) rfl
theorem e0_1038 : amT 0 1038 1039 (.iadd) 0 := r0 (len := 1) (by decide +kernel) rfl
theorem e0_1039 : amT 0 1039 1040 (.iaload) 0 := r0 (len := 1) (by decide +kernel) rfl
theorem e0_1040 : amT 0 1040 1043 (.invokevirtual 113) 134 := r0 (len := 3) (by decide +kernel) rfl
theorem e0_1043 : amT 0 1043 1044 (.aload_n 2) 0 := r0 (len := 1) (by decide +kernel) rfl
theorem e0_1044 : amT 0 1044 1045 (.aload_n 0) 0 := r0 (len := 1) (by decide +kernel) rfl
theorem e0_1045 : amT 0 1045 1046 (.iload_n 3) 0 := r0 (len := 1) (by decide +kernel) rfl
theorem e0_1046 : amT 0 1046 1047 (.iconst 1) 0 := r0 (len := 1) (by decide +kernel) rfl
theorem e0_1047 : amT 0 1047 1048 (.iadd) 0 := r0 (len := 1) (by decide +kernel) rfl
theorem e0_1048 : amT 0 1048 1049 (.iaload) 0 := r0 (len := 1) (by decide +kernel) rfl
theorem e0_1049 : amT 0 1049 1050 (.aload_n 0) 0 := r0 (len := 1) (by decide +kernel) rfl
theorem e0_1050 : amT 0 1050 1051 (.iload_n 3) 0 := r0 (len := 1) (by decide +kernel) rfl
theorem e0_1051 : amT 0 1051 1052 (.iconst 2) 0 := r0 (len := 1) (by decide +kernel) rfl
theorem e0_1052 : amT 0 1052 1053 (.iadd) 0 := r0 (len := 1) (by decide +kernel) rfl
theorem e0_1053 : amT 0 1053 1054 (.iaload) 0 := r0 (len := 1) (by decide +kernel) rfl
theorem e0_1054 : amT 0 1054 1055 (.aload_n 0) 0 := r0 (len := 1) (by decide +kernel) rfl
theorem e0_1055 : amT 0 1055 1056 (.iload_n 3) 0 := r0 (len := 1) (by decide +kernel) rfl
theorem e0_1056 : amT 0 1056 1057 (.iconst 3) 0 := r0 (len := 1) (by decide +kernel) rfl
theorem e0_1057 : amT 0 1057 1058 (.iadd) 0 := r0 (len := 1) (by decide +kernel) rfl
theorem e0_1058 : amT 0 1058 1059 (.iaload) 0 := r0 (len := 1) (by decide +kernel) rfl
theorem e0_1059 : amT 0 1059 1060 (.aload_n 0) 0 := r0 (len := 1) (by decide +kernel) rfl
theorem e0_1060 : amT 0 1060 1061 (.iload_n 3) 0 := r0 (len := 1) (by decide +kernel) rfl
theorem e0_1061 : amT 0 1061 1062 (.iconst 4) 0 := r0 (len := 1) (by decide +kernel) rfl
theorem e0_1062 : amT 0 1062 1063 (.iadd) 0 := r0 (len := 1) (by decide +kernel) rfl
theorem e0_1063 : amT 0 1063 1064 (.iaload) 0 := r0 (len := 1) (by decide +kernel) rfl
theorem e0_1064 : amT 0 1064 1067 (.invokevirtual 117) 239 := r0 (len := 3) (by decide +kernel) rfl
theorem e0_1067 : amT 0 1067 1070 (.if_icmp .eq 207) 0 := r0 (len := 3) (by decide +kernel) rfl
theorem t0_1067 : amTg 1067 207 = some 1274 := by decide
theorem e0_1070 : amT 0 1070 1071 (.iconst 0) 0 := r0 (len := 1) (by decide +kernel) rfl
theorem e0_1071 : amT 0 1071 1072 (.ireturn) 0 := r0 (len := 1) (by decide +kernel) rfl
theorem e0_1072 : amT 0 1072 1073 (.aload_n 1) 0 := r0 (len := 1) (by decide +kernel) rfl
theorem e0_1073 : amT 0 1073 1074 (.aload_n 0) 0 := r0 (len := 1) (by decide +kernel) rfl
theorem e0_1074 : amT 0 1074 1075 (.iload_n 3) 0 := r0 (len := 1) (by decide +kernel) rfl
theorem e0_1075 : amT 0 1075 1076 (.iconst 1) 0 := r0 (len := 1) (by decide +kernel) rfl
theorem e0_1076 : amT 0 1076 1077 (.iadd) 0 := r0 (len := 1) (by decide +kernel) rfl
theorem e0_1077 : amT 0 1077 1078 (.iaload) 0 := r0 (len := 1) (by decide +kernel) rfl
theorem e0_1078 : amT 0 1078 1079 (.aload_n 0) 0 := r0 (len := 1) (by decide +kernel) rfl
theorem e0_1079 : amT 0 1079 1080 (.iload_n 3) 0 := r0 (len := 1) (by decide +kernel) rfl
theorem e0_1080 : amT 0 1080 1081 (.iconst 2) 0 := r0 (len := 1) (by decide +kernel) rfl
theorem e0_1081 : amT 0 1081 1082 (.iadd) 0 := r0 (len := 1) (by decide +kernel) rfl
theorem e0_1082 : amT 0 1082 1083 (.iaload) 0 := r0 (len := 1) (by decide +kernel) rfl
theorem e0_1083 : amT 0 1083 1086 (.invokevirtual 118) 135 := r0 (len := 3) (by decide +kernel) rfl
theorem e0_1086 : amT 0 1086 1087 (.aload_n 2) 0 := r0 (len := 1) (by decide +kernel) rfl
theorem e0_1087 : amT 0 1087 1088 (.aload_n 0) 0 := r0 (len := 1) (by decide +kernel) rfl
theorem e0_1088 : amT 0 1088 1089 (.iload_n 3) 0 := r0 (len := 1) (by decide +kernel) rfl
theorem e0_1089 : amT 0 1089 1090 (.iconst 1) 0 := r0 (len := 1) (by decide +kernel) rfl
theorem e0_1090 : amT 0 1090 1091 (.iadd) 0 := r0 (len := 1) (by decide +kernel) rfl
theorem e0_1091 : amT 0 1091 1092 (.iaload) 0 := r0 (len := 1) (by decide +kernel) rfl
theorem e0_1092 : amT 0 1092 1093 (.aload_n 0) 0 := r0 (len := 1) (by decide +kernel) rfl
theorem e0_1093 : amT 0 1093 1094 (.iload_n 3) 0 := r0 (len := 1) (by decide +kernel) rfl
theorem e0_1094 : amT 0 1094 1095 (.iconst 2) 0 := r0 (len := 1) (by decide +kernel) rfl
theorem e0_1095 : amT 0 1095 1096 (.iadd) 0 := r0 (len := 1) (by decide +kernel) rfl
theorem e0_1096 : amT 0 1096 1097 (.iaload) 0 := r0 (len := 1) (by decide +kernel) rfl
theorem e0_1097 : amT 0 1097 1100 (.invokevirtual 121) 241 := r0 (len := 3) (by decide +kernel) rfl
theorem e0_1100 : amT 0 1100 1103 (.if_icmp .eq 174) 0 := r0 (len := 3) (by decide +kernel) rfl
theorem t0_1100 : amTg 1100 174 = some 1274 := by decide
theorem e0_1103 : amT 0 1103 1104 (.iconst 0) 0 := r0 (len := 1) (by decide +kernel) rfl
theorem e0_1104 : amT 0 1104 1105 (.ireturn) 0 := r0 (len := 1) (by decide +kernel) rfl
theorem e0_1105 : amT 0 1105 1106 (.aload_n 1) 0 := r0 (len := 1) (by decide +kernel) rfl
theorem e0_1106 : amT 0 1106 1107 (.aload_n 0) 0 := r0 (len := 1) (by decide +kernel) rfl
theorem e0_1107 : amT 0 1107 1108 (.iload_n 3) 0 := r0 (len := 1) (by decide +kernel) rfl
theorem e0_1108 : amT 0 1108 1109 (.iconst 1) 0 := r0 (len := 1) (by decide +kernel) rfl
theorem e0_1109 : amT 0 1109 1110 (.iadd) 0 := r0 (len := 1) (by decide +kernel) rfl
theorem e0_1110 : amT 0 1110 1111 (.iaload) 0 := r0 (len := 1) (by decide +kernel) rfl
theorem e0_1111 : amT 0 1111 1112 (.aload_n 0) 0 := r0 (len := 1) (by decide +kernel) rfl
theorem e0_1112 : amT 0 1112 1113 (.iload_n 3) 0 := r0 (len := 1) (by decide +kernel) rfl
theorem e0_1113 : amT 0 1113 1114 (.iconst 2) 0 := r0 (len := 1) (by decide +kernel) rfl
theorem e0_1114 : amT 0 1114 1115 (.iadd) 0 := r0 (len := 1) (by decide +kernel) rfl
theorem e0_1115 : amT 0 1115 1116 (.iaload) 0 := r0 (len := 1) (by decide +kernel) rfl
theorem e0_1116 : amT 0 1116 1117 (.aload_n 0) 0 := r0 (len := 1) (by decide +kernel) rfl
theorem e0_1117 : amT 0 1117 1118 (.iload_n 3) 0 := r0 (len := 1) (by decide +kernel) rfl
theorem e0_1118 : amT 0 1118 1119 (.iconst 3) 0 := r0 (len := 1) (by decide +kernel) rfl
theorem e0_1119 : amT 0 1119 1120 (.iadd) 0 := r0 (len := 1) (by decide +kernel) rfl
theorem e0_1120 : amT 0 1120 1121 (.iaload) 0 := r0 (len := 1) (by decide +kernel) rfl
theorem e0_1121 : amT 0 1121 1124 (.invokevirtual 122) 136 := r0 (len := 3) (by decide +kernel) rfl
theorem e0_1124 : amT 0 1124 1125 (.aload_n 2) 0 := r0 (len := 1) (by decide +kernel) rfl
theorem e0_1125 : amT 0 1125 1126 (.aload_n 0) 0 := r0 (len := 1) (by decide +kernel) rfl
theorem e0_1126 : amT 0 1126 1127 (.iload_n 3) 0 := r0 (len := 1) (by decide +kernel) rfl
theorem e0_1127 : amT 0 1127 1128 (.iconst 1) 0 := r0 (len := 1) (by decide +kernel) rfl
theorem e0_1128 : amT 0 1128 1129 (.iadd) 0 := r0 (len := 1) (by decide +kernel) rfl
theorem e0_1129 : amT 0 1129 1130 (.iaload) 0 := r0 (len := 1) (by decide +kernel) rfl
theorem e0_1130 : amT 0 1130 1131 (.aload_n 0) 0 := r0 (len := 1) (by decide +kernel) rfl
theorem e0_1131 : amT 0 1131 1132 (.iload_n 3) 0 := r0 (len := 1) (by decide +kernel) rfl
theorem e0_1132 : amT 0 1132 1133 (.iconst 2) 0 := r0 (len := 1) (by decide +kernel) rfl
theorem e0_1133 : amT 0 1133 1134 (.iadd) 0 := r0 (len := 1) (by decide +kernel) rfl
theorem e0_1134 : amT 0 1134 1135 (.iaload) 0 := r0 (len := 1) (by decide +kernel) rfl
theorem e0_1135 : amT 0 1135 1136 (.aload_n 0) 0 := r0 (len := 1) (by decide +kernel) rfl
theorem e0_1136 : amT 0 1136 1137 (.iload_n 3) 0 := r0 (len := 1) (by decide +kernel) rfl
theorem e0_1137 : amT 0 1137 1138 (.iconst 3) 0 := r0 (len := 1) (by decide +kernel) rfl
theorem e0_1138 : amT 0 1138 1139 (.iadd) 0 := r0 (len := 1) (by decide +kernel) rfl
theorem e0_1139 : amT 0 1139 1140 (.iaload) 0 := r0 (len := 1) (by decide +kernel) rfl
theorem e0_1140 : amT 0 1140 1143 (.invokevirtual 125) 242 := r0 (len := 3) (by decide +kernel) rfl
theorem e0_1143 : amT 0 1143 1146 (.if_icmp .eq 131) 0 := r0 (len := 3) (by decide +kernel) rfl
theorem t0_1143 : amTg 1143 131 = some 1274 := by decide
theorem e0_1146 : amT 0 1146 1147 (.iconst 0) 0 := r0 (len := 1) (by decide +kernel) rfl
theorem e0_1147 : amT 0 1147 1148 (.ireturn) 0 := r0 (len := 1) (by decide +kernel) rfl
theorem e0_1148 : amT 0 1148 1149 (.aload_n 1) 0 := r0 (len := 1) (by decide +kernel) rfl
theorem e0_1149 : amT 0 1149 1150 (.aload_n 0) 0 := r0 (len := 1) (by decide +kernel) rfl
theorem e0_1150 : amT 0 1150 1151 (.iload_n 3) 0 := r0 (len := 1) (by decide +kernel) rfl
theorem e0_1151 : amT 0 1151 1152 (.iconst 1) 0 := r0 (len := 1) (by decide +kernel) rfl
theorem e0_1152 : amT 0 1152 1153 (.iadd) 0 := r0 (len := 1) (by decide +kernel) rfl
theorem e0_1153 : amT 0 1153 1154 (.iaload) 0 := r0 (len := 1) (by decide +kernel) rfl
theorem e0_1154 : amT 0 1154 1155 (.aload_n 0) 0 := r0 (len := 1) (by decide +kernel) rfl
theorem e0_1155 : amT 0 1155 1156 (.iload_n 3) 0 := r0 (len := 1) (by decide +kernel) rfl
theorem e0_1156 : amT 0 1156 1157 (.iconst 2) 0 := r0 (len := 1) (by decide +kernel) rfl
theorem e0_1157 : amT 0 1157 1158 (.iadd) 0 := r0 (len := 1) (by decide +kernel) rfl
theorem e0_1158 : amT 0 1158 1159 (.iaload) 0 := r0 (len := 1) (by decide +kernel) rfl
theorem e0_1159 : amT 0 1159 1162 (.invokevirtual 126) 137 := r0 (len := 3) (by decide +kernel) rfl
theorem e0_1162 : amT 0 1162 1163 (.aload_n 2) 0 := r0 (len := 1) (by decide +kernel) rfl
theorem e0_1163 : amT 0 1163 1164 (.aload_n 0) 0 := r0 (len := 1) (by decide +kernel) rfl
theorem e0_1164 : amT 0 1164 1165 (.iload_n 3) 0 := r0 (len := 1) (by decide +kernel) rfl
theorem e0_1165 : amT 0 1165 1166 (.iconst 1) 0 := r0 (len := 1) (by decide +kernel) rfl
theorem e0_1166 : amT 0 1166 1167 (.iadd) 0 := r0 (len := 1) (by decide +kernel) rfl
theorem e0_1167 : amT 0 1167 1168 (.iaload) 0 := r0 (len := 1) (by decide +kernel) rfl
theorem e0_1168 : amT 0 1168 1169 (.aload_n 0) 0 := r0 (len := 1) (by decide +kernel) rfl
theorem e0_1169 : amT 0 1169 1170 (.iload_n 3) 0 := r0 (len := 1) (by decide +kernel) rfl
theorem e0_1170 : amT 0 1170 1171 (.iconst 2) 0 := r0 (len := 1) (by decide +kernel) rfl
theorem e0_1171 : amT 0 1171 1172 (.iadd) 0 := r0 (len := 1) (by decide +kernel) rfl
theorem e0_1172 : amT 0 1172 1173 (.iaload) 0 := r0 (len := 1) (by decide +kernel) rfl
theorem e0_1173 : amT 0 1173 1176 (.invokevirtual 129) 243 := r0 (len := 3) (by decide +kernel) rfl
theorem e0_1176 : amT 0 1176 1177 (.lcmp) 0 := r0 (len := 1) (by decide +kernel) rfl
theorem e0_1177 : amT 0 1177 1180 (.ifCond .eq 97) 0 := r0 (len := 3) (by decide +kernel) rfl
theorem t0_1177 : amTg 1177 97 = some 1274 := by decide
theorem e0_1180 : amT 0 1180 1181 (.iconst 0) 0 := r0 (len := 1) (by decide +kernel) rfl
theorem e0_1181 : amT 0 1181 1182 (.ireturn) 0 := r0 (len := 1) (by decide +kernel) rfl
theorem e0_1182 : amT 0 1182 1183 (.aload_n 1) 0 := r0 (len := 1) (by decide +kernel) rfl
theorem e0_1183 : amT 0 1183 1184 (.aload_n 0) 0 := r0 (len := 1) (by decide +kernel) rfl
theorem e0_1184 : amT 0 1184 1185 (.iload_n 3) 0 := r0 (len := 1) (by decide +kernel) rfl
theorem e0_1185 : amT 0 1185 1186 (.iconst 1) 0 := r0 (len := 1) (by decide +kernel) rfl
theorem e0_1186 : amT 0 1186 1187 (.iadd) 0 := r0 (len := 1) (by decide +kernel) rfl
theorem e0_1187 : amT 0 1187 1188 (.iaload) 0 := r0 (len := 1) (by decide +kernel) rfl
theorem e0_1188 : amT 0 1188 1189 (.aload_n 0) 0 := r0 (len := 1) (by decide +kernel) rfl
theorem e0_1189 : amT 0 1189 1190 (.iload_n 3) 0 := r0 (len := 1) (by decide +kernel) rfl
theorem e0_1190 : amT 0 1190 1191 (.iconst 2) 0 := r0 (len := 1) (by decide +kernel) rfl
theorem e0_1191 : amT 0 1191 1192 (.iadd) 0 := r0 (len := 1) (by decide +kernel) rfl
theorem e0_1192 : amT 0 1192 1193 (.iaload) 0 := r0 (len := 1) (by decide +kernel) rfl
theorem e0_1193 : amT 0 1193 1194 (.aload_n 0) 0 := r0 (len := 1) (by decide +kernel) rfl
theorem e0_1194 : amT 0 1194 1195 (.iload_n 3) 0 := r0 (len := 1) (by decide +kernel) rfl
theorem e0_1195 : amT 0 1195 1196 (.iconst 3) 0 := r0 (len := 1) (by decide +kernel) rfl
theorem e0_1196 : amT 0 1196 1197 (.iadd) 0 := r0 (len := 1) (by decide +kernel) rfl
theorem e0_1197 : amT 0 1197 1198 (.iaload) 0 := r0 (len := 1) (by decide +kernel) rfl
theorem e0_1198 : amT 0 1198 1201 (.invokevirtual 130) 138 := r0 (len := 3) (by decide +kernel) rfl
theorem e0_1201 : amT 0 1201 1202 (.aload_n 2) 0 := r0 (len := 1) (by decide +kernel) rfl
theorem e0_1202 : amT 0 1202 1203 (.aload_n 0) 0 := r0 (len := 1) (by decide +kernel) rfl
theorem e0_1203 : amT 0 1203 1204 (.iload_n 3) 0 := r0 (len := 1) (by decide +kernel) rfl
theorem e0_1204 : amT 0 1204 1205 (.iconst 1) 0 := r0 (len := 1) (by decide +kernel) rfl
theorem e0_1205 : amT 0 1205 1206 (.iadd) 0 := r0 (len := 1) (by decide +kernel) rfl
theorem e0_1206 : amT 0 1206 1207 (.iaload) 0 := r0 (len := 1) (by decide +kernel) rfl
theorem e0_1207 : amT 0 1207 1208 (.aload_n 0) 0 := r0 (len := 1) (by decide +kernel) rfl
theorem e0_1208 : amT 0 1208 1209 (.iload_n 3) 0 := r0 (len := 1) (by decide +kernel) rfl
theorem e0_1209 : amT 0 1209 1210 (.iconst 2) 0 := r0 (len := 1) (by decide +kernel) rfl
theorem e0_1210 : amT 0 1210 1211 (.iadd) 0 := r0 (len := 1) (by decide +kernel) rfl
theorem e0_1211 : amT 0 1211 1212 (.iaload) 0 := r0 (len := 1) (by decide +kernel) rfl
theorem e0_1212 : amT 0 1212 1213 (.aload_n 0) 0 := r0 (len := 1) (by decide +kernel) rfl
theorem e0_1213 : amT 0 1213 1214 (.iload_n 3) 0 := r0 (len := 1) (by decide +kernel) rfl
theorem e0_1214 : amT 0 1214 1215 (.iconst 3) 0 := r0 (len := 1) (by decide +kernel) rfl
theorem e0_1215 : amT 0 1215 1216 (.iadd) 0 := r0 (len := 1) (by decide +kernel) rfl
theorem e0_1216 : amT 0 1216 1217 (.iaload) 0 := r0 (len := 1) (by decide +kernel) rfl
theorem e0_1217 : amT 0 1217 1220 (.invokevirtual 133) 244 := r0 (len := 3) (by decide +kernel) rfl
theorem e0_1220 : amT 0 1220 1223 (.if_icmp .eq 54) 0 := r0 (len := 3) (by decide +kernel) rfl
theorem t0_1220 : amTg 1220 54 = some 1274 := by decide
theorem e0_1223 : amT 0 1223 1224 (.iconst 0) 0 := r0 (len := 1) (by decide +kernel) rfl
theorem e0_1224 : amT 0 1224 1225 (.ireturn) 0 := r0 (len := 1) (by decide +kernel) rfl
theorem e0_1225 : amT 0 1225 1226 (.aload_n 1) 0 := r0 (len := 1) (by decide +kernel) rfl
theorem e0_1226 : amT 0 1226 1229 (.invokevirtual 134) 139 := r0 (len := 3) (by decide +kernel) rfl
theorem e0_1229 : amT 0 1229 1230 (.aload_n 2) 0 := r0 (len := 1) (by decide +kernel) rfl
theorem e0_1230 : amT 0 1230 1233 (.invokevirtual 137) 245 := r0 (len := 3) (by decide +kernel) rfl
theorem e0_1233 : amT 0 1233 1236 (.if_icmp .eq 41) 0 := r0 (len := 3) (by decide +kernel) rfl
theorem t0_1233 : amTg 1233 41 = some 1274 := by decide
theorem e0_1236 : amT 0 1236 1237 (.iconst 0) 0 := r0 (len := 1) (by decide +kernel) rfl
theorem e0_1237 : amT 0 1237 1238 (.ireturn) 0 := r0 (len := 1) (by decide +kernel) rfl
theorem e0_1238 : amT 0 1238 1239 (.aload_n 1) 0 := r0 (len := 1) (by decide +kernel) rfl
theorem e0_1239 : amT 0 1239 1242 (.invokevirtual 138) 140 := r0 (len := 3) (by decide +kernel) rfl
theorem e0_1242 : amT 0 1242 1243 (.aload_n 2) 0 := r0 (len := 1) (by decide +kernel) rfl
theorem e0_1243 : amT 0 1243 1246 (.invokevirtual 141) 246 := r0 (len := 3) (by decide +kernel) rfl
theorem e0_1246 : amT 0 1246 1249 (.if_icmp .eq 28) 0 := r0 (len := 3) (by decide +kernel) rfl
theorem t0_1246 : amTg 1246 28 = some 1274 := by decide
theorem e0_1249 : amT 0 1249 1250 (.iconst 0) 0 := r0 (len := 1) (by decide +kernel) rfl
theorem e0_1250 : amT 0 1250 1251 (.ireturn) 0 := r0 (len := 1) (by decide +kernel) rfl
theorem e0_1251 : amT 0 1251 1252 (.aload_n 1) 0 := r0 (len := 1) (by decide +kernel) rfl
theorem e0_1252 : amT 0 1252 1253 (.aload_n 0) 0 := r0 (len := 1) (by decide +kernel) rfl
theorem e0_1253 : amT 0 1253 1254 (.iload_n 3) 0 := r0 (len := 1) (by decide +kernel) rfl
theorem e0_1254 : amT 0 1254 1255 (.iconst 1) 0 := r0 (len := 1) (by decide +kernel) rfl
theorem e0_1255 : amT 0 1255 1256 (.iadd) 0 := r0 (len := 1) (by decide +kernel) rfl
theorem e0_1256 : amT 0 1256 1257 (.iaload) 0 := r0 (len := 1) (by decide +kernel) rfl
theorem e0_1257 : amT 0 1257 1260 (.invokevirtual 142) 141 := r0 (len := 3) (by decide +kernel) rfl
theorem e0_1260 : amT 0 1260 1261 (.aload_n 2) 0 := r0 (len := 1) (by decide +kernel) rfl
theorem e0_1261 : amT 0 1261 1262 (.aload_n 0) 0 := r0 (len := 1) (by decide +kernel) rfl
theorem e0_1262 : amT 0 1262 1263 (.iload_n 3) 0 := r0 (len := 1) (by decide +kernel) rfl
theorem e0_1263 : amT 0 1263 1264 (.iconst 1) 0 := r0 (len := 1) (by decide +kernel) rfl
theorem e0_1264 : amT 0 1264 1265 (.iadd) 0 := r0 (len := 1) (by decide +kernel) rfl
theorem e0_1265 : amT 0 1265 1266 (.iaload) 0 := r0 (len := 1) (by decide +kernel) rfl
theorem e0_1266 : amT 0 1266 1269 (.invokevirtual 145) 247 := r0 (len := 3) (by decide +kernel) rfl
theorem e0_1269 : amT 0 1269 1272 (.if_icmp .eq 5) 0 := r0 (len := 3) (by decide +kernel) rfl
theorem t0_1269 : amTg 1269 5 = some 1274 := by decide
theorem e0_1272 : amT 0 1272 1273 (.iconst 0) 0 := r0 (len := 1) (by decide +kernel) rfl
theorem e0_1273 : amT 0 1273 1274 (.ireturn) 0 := r0 (len := 1) (by decide +kernel) rfl
theorem e0_1274 : amT 0 1274 1277 (.iinc 3 6) 0 := r0 (len := 3) (by decide +kernel) rfl
theorem e0_1277 : amT 0 1277 1280 (.goto (-1259)) 0 := r0 (len := 3) (by decide +kernel) rfl
theorem t0_1277 : amTg 1277 (-1259) = some 18 := by decide
theorem e0_1280 : amT 0 1280 1281 (.iconst 1) 0 := r0 (len := 1) (by decide +kernel) rfl
theorem e0_1281 : amT 0 1281 1282 (.ireturn) 0 := r0 (len := 1) (by decide +kernel) rfl
theorem q1 : amCs.getD 1 [] = amC_1 := rfl
theorem r1 {pc pc' len op : Nat} {i : Instr} (h : amC_1.lookup pc = some (i, len, op)) (h2 : pc + len = pc') : amT 1 pc pc' i op := ⟨len, by unfold amEnt; rw [q1]; exact h, h2⟩
theorem e1_0 : amT 1 0 1 (.lload_n 0) 0 := r1 (len := 1) (by decide +kernel) rfl
theorem e1_1 : amT 1 1 3 (.bipush 63) 0 := r1 (len := 2) (by decide +kernel) rfl
theorem e1_3 : amT 1 3 4 (.lshr) 0 := r1 (len := 1) (by decide +kernel) rfl
theorem e1_4 : amT 1 4 5 (.lload_n 0) 0 := r1 (len := 1) (by decide +kernel) rfl
theorem e1_5 : amT 1 5 6 (.lneg) 0 := r1 (len := 1) (by decide +kernel) rfl
theorem e1_6 : amT 1 6 8 (.bipush 63) 0 := r1 (len := 2) (by decide +kernel) rfl
theorem e1_8 : amT 1 8 9 (.lushr) 0 := r1 (len := 1) (by decide +kernel) rfl
theorem e1_9 : amT 1 9 10 (.lor) 0 := r1 (len := 1) (by decide +kernel) rfl
theorem e1_10 : amT 1 10 11 (.l2i) 0 := r1 (len := 1) (by decide +kernel) rfl
theorem e1_11 : amT 1 11 12 (.ireturn) 0 := r1 (len := 1) (by decide +kernel) rfl
theorem q3 : amCs.getD 3 [] = amC_3 := rfl
theorem r3 {pc pc' len op : Nat} {i : Instr} (h : amC_3.lookup pc = some (i, len, op)) (h2 : pc + len = pc') : amT 3 pc pc' i op := ⟨len, by unfold amEnt; rw [q3]; exact h, h2⟩
theorem e3_0 : amT 3 0 1 (.iload_n 1) 0 := r3 (len := 1) (by decide +kernel) rfl
theorem e3_1 : amT 3 1 4 (.ifCond .lt 18) 0 := r3 (len := 3) (by decide +kernel) rfl
theorem t3_1 : amTg 1 18 = some 19 := by decide
theorem e3_4 : amT 3 4 5 (.iload_n 1) 0 := r3 (len := 1) (by decide +kernel) rfl
theorem e3_5 : amT 3 5 7 (.bipush 9) 0 := r3 (len := 2) (by decide +kernel) rfl
theorem e3_7 : amT 3 7 10 (.if_icmp .ge 12) 0 := r3 (len := 3) (by decide +kernel) rfl
theorem t3_7 : amTg 7 12 = some 19 := by decide
theorem e3_10 : amT 3 10 11 (.aload_n 0) 0 := r3 (len := 1) (by decide +kernel) rfl
theorem e3_11 : amT 3 11 14 (.getfield 9) 448 := r3 (len := 3) (by decide +kernel) rfl
theorem e3_14 : amT 3 14 15 (.iload_n 1) 0 := r3 (len := 1) (by decide +kernel) rfl
theorem e3_15 : amT 3 15 16 (.laload) 0 := r3 (len := 1) (by decide +kernel) rfl
theorem e3_16 : amT 3 16 19 (.goto 4) 0 := r3 (len := 3) (by decide +kernel) rfl
theorem t3_16 : amTg 16 4 = some 20 := by decide
theorem e3_19 : amT 3 19 20 (.lconst 0) 0 := r3 (len := 1) (by decide +kernel) rfl
theorem e3_20 : amT 3 20 21 (.lreturn) 0 := r3 (len := 1) (by decide +kernel) rfl
theorem q4 : amCs.getD 4 [] = amC_4 := rfl
theorem r4 {pc pc' len op : Nat} {i : Instr} (h : amC_4.lookup pc = some (i, len, op)) (h2 : pc + len = pc') : amT 4 pc pc' i op := ⟨len, by unfold amEnt; rw [q4]; exact h, h2⟩
theorem e4_0 : amT 4 0 1 (.iload_n 1) 0 := r4 (len := 1) (by decide +kernel) rfl
theorem e4_1 : amT 4 1 4 (.ifCond .lt 16) 0 := r4 (len := 3) (by decide +kernel) rfl
theorem t4_1 : amTg 1 16 = some 17 := by decide
theorem e4_4 : amT 4 4 5 (.iload_n 1) 0 := r4 (len := 1) (by decide +kernel) rfl
theorem e4_5 : amT 4 5 7 (.bipush 9) 0 := r4 (len := 2) (by decide +kernel) rfl
theorem e4_7 : amT 4 7 10 (.if_icmp .ge 10) 0 := r4 (len := 3) (by decide +kernel) rfl
theorem t4_7 : amTg 7 10 = some 17 := by decide
theorem e4_10 : amT 4 10 11 (.aload_n 0) 0 := r4 (len := 1) (by decide +kernel) rfl
theorem e4_11 : amT 4 11 14 (.getfield 9) 448 := r4 (len := 3) (by decide +kernel) rfl
theorem e4_14 : amT 4 14 15 (.iload_n 1) 0 := r4 (len := 1) (by decide +kernel) rfl
theorem e4_15 : amT 4 15 16 (.lload_n 2) 0 := r4 (len := 1) (by decide +kernel) rfl
theorem e4_16 : amT 4 16 17 (.lastore) 0 := r4 (len := 1) (by decide +kernel) rfl
theorem e4_17 : amT 4 17 18 (.return_) 0 := r4 (len := 1) (by decide +kernel) rfl
theorem q5 : amCs.getD 5 [] = amC_5 := rfl
theorem r5 {pc pc' len op : Nat} {i : Instr} (h : amC_5.lookup pc = some (i, len, op)) (h2 : pc + len = pc') : amT 5 pc pc' i op := ⟨len, by unfold amEnt; rw [q5]; exact h, h2⟩
theorem e5_0 : amT 5 0 2 (.bipush 8) 0 := r5 (len := 2) (by decide +kernel) rfl
theorem e5_2 : amT 5 2 3 (.istore_n 1) 0 := r5 (len := 1) (by decide +kernel) rfl
theorem e5_3 : amT 5 3 4 (.iload_n 1) 0 := r5 (len := 1) (by decide +kernel) rfl
theorem e5_4 : amT 5 4 7 (.ifCond .lt 20) 0 := r5 (len := 3) (by decide +kernel) rfl
theorem t5_4 : amTg 4 20 = some 24 := by decide
theorem e5_7 : amT 5 7 8 (.aload_n 0) 0 := r5 (len := 1) (by decide +kernel) rfl
theorem e5_8 : amT 5 8 11 (.getfield 9) 448 := r5 (len := 3) (by decide +kernel) rfl
theorem e5_11 : amT 5 11 12 (.iload_n 1) 0 := r5 (len := 1) (by decide +kernel) rfl
theorem e5_12 : amT 5 12 13 (.laload) 0 := r5 (len := 1) (by decide +kernel) rfl
theorem e5_13 : amT 5 13 14 (.lconst 0) 0 := r5 (len := 1) (by decide +kernel) rfl
theorem e5_14 : amT 5 14 15 (.lcmp) 0 := r5 (len := 1) (by decide +kernel) rfl
theorem e5_15 : amT 5 15 18 (.ifCond .ne 9) 0 := r5 (len := 3) (by decide +kernel) rfl
theorem t5_15 : amTg 15 9 = some 24 := by decide
theorem e5_18 : amT 5 18 21 (.iinc 1 (-1)) 0 := r5 (len := 3) (by decide +kernel) rfl
theorem e5_21 : amT 5 21 24 (.goto (-18)) 0 := r5 (len := 3) (by decide +kernel) rfl
theorem t5_21 : amTg 21 (-18) = some 3 := by decide
theorem e5_24 : amT 5 24 25 (.iload_n 1) 0 := r5 (len := 1) (by decide +kernel) rfl
theorem e5_25 : amT 5 25 26 (.ireturn) 0 := r5 (len := 1) (by decide +kernel) rfl
theorem q6 : amCs.getD 6 [] = amC_6 := rfl
theorem r6 {pc pc' len op : Nat} {i : Instr} (h : amC_6.lookup pc = some (i, len, op)) (h2 : pc + len = pc') : amT 6 pc pc' i op := ⟨len, by unfold amEnt; rw [q6]; exact h, h2⟩
theorem e6_0 : amT 6 0 1 (.aload_n 0) 0 := r6 (len := 1) (by decide +kernel) rfl
theorem e6_1 : amT 6 1 2 (.aload_n 0) 0 := r6 (len := 1) (by decide +kernel) rfl
theorem e6_2 : amT 6 2 5 (.invokevirtual 13) 5 := r6 (len := 3) (by decide +kernel) rfl
theorem e6_5 : amT 6 5 8 (.invokevirtual 17) 3 := r6 (len := 3) (by decide +kernel) rfl
theorem e6_8 : amT 6 8 9 (.lreturn) 0 := r6 (len := 1) (by decide +kernel) rfl
theorem q7 : amCs.getD 7 [] = amC_7 := rfl
theorem r7 {pc pc' len op : Nat} {i : Instr} (h : amC_7.lookup pc = some (i, len, op)) (h2 : pc + len = pc') : amT 7 pc pc' i op := ⟨len, by unfold amEnt; rw [q7]; exact h, h2⟩
theorem e7_0 : amT 7 0 1 (.iconst 0) 0 := r7 (len := 1) (by decide +kernel) rfl
theorem e7_1 : amT 7 1 2 (.istore_n 1) 0 := r7 (len := 1) (by decide +kernel) rfl
theorem e7_2 : amT 7 2 3 (.iload_n 1) 0 := r7 (len := 1) (by decide +kernel) rfl
theorem e7_3 : amT 7 3 5 (.bipush 9) 0 := r7 (len := 2) (by decide +kernel) rfl
theorem e7_5 : amT 7 5 8 (.if_icmp .ge 16) 0 := r7 (len := 3) (by decide +kernel) rfl
theorem t7_5 : amTg 5 16 = some 21 := by decide
theorem e7_8 : amT 7 8 9 (.aload_n 0) 0 := r7 (len := 1) (by decide +kernel) rfl
theorem e7_9 : amT 7 9 12 (.getfield 9) 448 := r7 (len := 3) (by decide +kernel) rfl
theorem e7_12 : amT 7 12 13 (.iload_n 1) 0 := r7 (len := 1) (by decide +kernel) rfl
theorem e7_13 : amT 7 13 14 (.lconst 0) 0 := r7 (len := 1) (by decide +kernel) rfl
theorem e7_14 : amT 7 14 15 (.lastore) 0 := r7 (len := 1) (by decide +kernel) rfl
theorem e7_15 : amT 7 15 18 (.iinc 1 1) 0 := r7 (len := 3) (by decide +kernel) rfl
theorem e7_18 : amT 7 18 21 (.goto (-16)) 0 := r7 (len := 3) (by decide +kernel) rfl
theorem t7_18 : amTg 18 (-16) = some 2 := by decide
theorem e7_21 : amT 7 21 22 (.return_) 0 := r7 (len := 1) (by decide +kernel) rfl
theorem q8 : amCs.getD 8 [] = amC_8 := rfl
theorem r8 {pc pc' len op : Nat} {i : Instr} (h : amC_8.lookup pc = some (i, len, op)) (h2 : pc + len = pc') : amT 8 pc pc' i op := ⟨len, by unfold amEnt; rw [q8]; exact h, h2⟩
theorem e8_0 : amT 8 0 1 (.iconst 0) 0 := r8 (len := 1) (by decide +kernel) rfl
theorem e8_1 : amT 8 1 2 (.istore_n 2) 0 := r8 (len := 1) (by decide +kernel) rfl
theorem e8_2 : amT 8 2 3 (.iload_n 2) 0 := r8 (len := 1) (by decide +kernel) rfl
theorem e8_3 : amT 8 3 5 (.bipush 9) 0 := r8 (len := 2) (by decide +kernel) rfl
theorem e8_5 : amT 8 5 8 (.if_icmp .ge 21) 0 := r8 (len := 3) (by decide +kernel) rfl
theorem t8_5 : amTg 5 21 = some 26 := by decide
theorem e8_8 : amT 8 8 9 (.aload_n 0) 0 := r8 (len := 1) (by decide +kernel) rfl
theorem e8_9 : amT 8 9 12 (.getfield 9) 448 := r8 (len := 3) (by decide +kernel) rfl
theorem e8_12 : amT 8 12 13 (.iload_n 2) 0 := r8 (len := 1) (by decide +kernel) rfl
theorem e8_13 : amT 8 13 14 (.aload_n 1) 0 := r8 (len := 1) (by decide +kernel) rfl
theorem e8_14 : amT 8 14 17 (.getfield 9) 448 := r8 (len := 3) (by decide +kernel) rfl
theorem e8_17 : amT 8 17 18 (.iload_n 2) 0 := r8 (len := 1) (by decide +kernel) rfl
theorem e8_18 : amT 8 18 19 (.laload) 0 := r8 (len := 1) (by decide +kernel) rfl
theorem e8_19 : amT 8 19 20 (.lastore) 0 := r8 (len := 1) (by decide +kernel) rfl
theorem e8_20 : amT 8 20 23 (.iinc 2 1) 0 := r8 (len := 3) (by decide +kernel) rfl
theorem e8_23 : amT 8 23 26 (.goto (-21)) 0 := r8 (len := 3) (by decide +kernel) rfl
theorem t8_23 : amTg 23 (-21) = some 2 := by decide
theorem e8_26 : amT 8 26 27 (.return_) 0 := r8 (len := 1) (by decide +kernel) rfl
theorem q9 : amCs.getD 9 [] = amC_9 := rfl
theorem r9 {pc pc' len op : Nat} {i : Instr} (h : amC_9.lookup pc = some (i, len, op)) (h2 : pc + len = pc') : amT 9 pc pc' i op := ⟨len, by unfold amEnt; rw [q9]; exact h, h2⟩
theorem e9_0 : amT 9 0 1 (.iconst 0) 0 := r9 (len := 1) (by decide +kernel) rfl
theorem e9_1 : amT 9 1 2 (.istore_n 2) 0 := r9 (len := 1) (by decide +kernel) rfl
theorem e9_2 : amT 9 2 3 (.iload_n 2) 0 := r9 (len := 1) (by decide +kernel) rfl
theorem e9_3 : amT 9 3 5 (.bipush 9) 0 := r9 (len := 2) (by decide +kernel) rfl
theorem e9_5 : amT 9 5 8 (.if_icmp .ge 27) 0 := r9 (len := 3) (by decide +kernel) rfl
theorem t9_5 : amTg 5 27 = some 32 := by decide
theorem e9_8 : amT 9 8 9 (.aload_n 0) 0 := r9 (len := 1) (by decide +kernel) rfl
theorem e9_9 : amT 9 9 12 (.getfield 9) 448 := r9 (len := 3) (by decide +kernel) rfl
theorem e9_12 : amT 9 12 13 (.iload_n 2) 0 := r9 (len := 1) (by decide +kernel) rfl
theorem e9_13 : amT 9 13 14 (.laload) 0 := r9 (len := 1) (by decide +kernel) rfl
theorem e9_14 : amT 9 14 15 (.aload_n 1) 0 := r9 (len := 1) (by decide +kernel) rfl
theorem e9_15 : amT 9 15 18 (.getfield 9) 448 := r9 (len := 3) (by decide +kernel) rfl
theorem e9_18 : amT 9 18 19 (.iload_n 2) 0 := r9 (len := 1) (by decide +kernel) rfl
theorem e9_19 : amT 9 19 20 (.laload) 0 := r9 (len := 1) (by decide +kernel) rfl
theorem e9_20 : amT 9 20 21 (.lcmp) 0 := r9 (len := 1) (by decide +kernel) rfl
theorem e9_21 : amT 9 21 24 (.ifCond .eq 5) 0 := r9 (len := 3) (by decide +kernel) rfl
theorem t9_21 : amTg 21 5 = some 26 := by decide
theorem e9_24 : amT 9 24 25 (.iconst 0) 0 := r9 (len := 1) (by decide +kernel) rfl
theorem e9_25 : amT 9 25 26 (.ireturn) 0 := r9 (len := 1) (by decide +kernel) rfl
theorem e9_26 : amT 9 26 29 (.iinc 2 1) 0 := r9 (len := 3) (by decide +kernel) rfl
theorem e9_29 : amT 9 29 32 (.goto (-27)) 0 := r9 (len := 3) (by decide +kernel) rfl
theorem t9_29 : amTg 29 (-27) = some 2 := by decide
theorem e9_32 : amT 9 32 33 (.iconst 1) 0 := r9 (len := 1) (by decide +kernel) rfl
theorem e9_33 : amT 9 33 34 (.ireturn) 0 := r9 (len := 1) (by decide +kernel) rfl
theorem q10 : amCs.getD 10 [] = amC_10 := rfl
theorem r10 {pc pc' len op : Nat} {i : Instr} (h : amC_10.lookup pc = some (i, len, op)) (h2 : pc + len = pc') : amT 10 pc pc' i op := ⟨len, by unfold amEnt; rw [q10]; exact h, h2⟩
theorem e10_0 : amT 10 0 1 (.lconst 0) 0 := r10 (len := 1) (by decide +kernel) rfl
theorem e10_1 : amT 10 1 2 (.lstore_n 1) 0 := r10 (len := 1) (by decide +kernel) rfl
theorem e10_2 : amT 10 2 3 (.iconst 0) 0 := r10 (len := 1) (by decide +kernel) rfl
theorem e10_3 : amT 10 3 4 (.istore_n 3) 0 := r10 (len := 1) (by decide +kernel) rfl
theorem e10_4 : amT 10 4 5 (.iload_n 3) 0 := r10 (len := 1) (by decide +kernel) rfl
theorem e10_5 : amT 10 5 7 (.bipush 9) 0 := r10 (len := 2) (by decide +kernel) rfl
theorem e10_7 : amT 10 7 10 (.if_icmp .ge 23) 0 := r10 (len := 3) (by decide +kernel) rfl
theorem t10_7 : amTg 7 23 = some 30 := by decide
theorem e10_10 : amT 10 10 11 (.lload_n 1) 0 := r10 (len := 1) (by decide +kernel) rfl
theorem e10_11 : amT 10 11 12 (.aload_n 0) 0 := r10 (len := 1) (by decide +kernel) rfl
theorem e10_12 : amT 10 12 15 (.getfield 9) 448 := r10 (len := 3) (by decide +kernel) rfl
theorem e10_15 : amT 10 15 16 (.iload_n 3) 0 := r10 (len := 1) (by decide +kernel) rfl
theorem e10_16 : amT 10 16 17 (.laload) 0 := r10 (len := 1) (by decide +kernel) rfl
theorem e10_17 : amT 10 17 20 (.invokestatic 21) 903 := r10 (len := 3) (by decide +kernel) rfl
theorem e10_20 : amT 10 20 23 (.invokestatic 27) 902 := r10 (len := 3) (by decide +kernel) rfl
theorem e10_23 : amT 10 23 24 (.lstore_n 1) 0 := r10 (len := 1) (by decide +kernel) rfl
theorem e10_24 : amT 10 24 27 (.iinc 3 1) 0 := r10 (len := 3) (by decide +kernel) rfl
theorem e10_27 : amT 10 27 30 (.goto (-23)) 0 := r10 (len := 3) (by decide +kernel) rfl
theorem t10_27 : amTg 27 (-23) = some 4 := by decide
theorem e10_30 : amT 10 30 31 (.lload_n 1) 0 := r10 (len := 1) (by decide +kernel) rfl
theorem e10_31 : amT 10 31 32 (.lreturn) 0 := r10 (len := 1) (by decide +kernel) rfl
theorem q11 : amCs.getD 11 [] = amC_11 := rfl
theorem r11 {pc pc' len op : Nat} {i : Instr} (h : amC_11.lookup pc = some (i, len, op)) (h2 : pc + len = pc') : amT 11 pc pc' i op := ⟨len, by unfold amEnt; rw [q11]; exact h, h2⟩
theorem e11_0 : amT 11 0 1 (.iconst 0) 0 := r11 (len := 1) (by decide +kernel) rfl
theorem e11_1 : amT 11 1 2 (.istore_n 1) 0 := r11 (len := 1) (by decide +kernel) rfl
theorem e11_2 : amT 11 2 3 (.iconst 0) 0 := r11 (len := 1) (by decide +kernel) rfl
theorem e11_3 : amT 11 3 4 (.istore_n 2) 0 := r11 (len := 1) (by decide +kernel) rfl
theorem e11_4 : amT 11 4 5 (.iconst 0) 0 := r11 (len := 1) (by decide +kernel) rfl
theorem e11_5 : amT 11 5 6 (.istore_n 3) 0 := r11 (len := 1) (by decide +kernel) rfl
theorem e11_6 : amT 11 6 7 (.iload_n 3) 0 := r11 (len := 1) (by decide +kernel) rfl
theorem e11_7 : amT 11 7 9 (.bipush 9) 0 := r11 (len := 2) (by decide +kernel) rfl
theorem e11_9 : amT 11 9 12 (.if_icmp .ge 38) 0 := r11 (len := 3) (by decide +kernel) rfl
theorem t11_9 : amTg 9 38 = some 47 := by decide
theorem e11_12 : amT 11 12 13 (.aload_n 0) 0 := r11 (len := 1) (by decide +kernel) rfl
theorem e11_13 : amT 11 13 16 (.getfield 9) 448 := r11 (len := 3) (by decide +kernel) rfl
theorem e11_16 : amT 11 16 17 (.iload_n 3) 0 := r11 (len := 1) (by decide +kernel) rfl
theorem e11_17 : amT 11 17 18 (.laload) 0 := r11 (len := 1) (by decide +kernel) rfl
theorem e11_18 : amT 11 18 21 (.invokestatic 31) 1 := r11 (len := 3) (by decide +kernel) rfl
theorem e11_21 : amT 11 21 23 (.istore 4) 0 := r11 (len := 2) (by decide +kernel) rfl
theorem e11_23 : amT 11 23 25 (.iload 4) 0 := r11 (len := 2) (by decide +kernel) rfl
theorem e11_25 : amT 11 25 26 (.iload_n 2) 0 := r11 (len := 1) (by decide +kernel) rfl
theorem e11_26 : amT 11 26 27 (.imul) 0 := r11 (len := 1) (by decide +kernel) rfl
theorem e11_27 : amT 11 27 30 (.ifCond .ge 6) 0 := r11 (len := 3) (by decide +kernel) rfl
theorem t11_27 : amTg 27 6 = some 33 := by decide
theorem e11_30 : amT 11 30 33 (.iinc 1 1) 0 := r11 (len := 3) (by decide +kernel) rfl
theorem e11_33 : amT 11 33 35 (.iload 4) 0 := r11 (len := 2) (by decide +kernel) rfl
theorem e11_35 : amT 11 35 38 (.ifCond .eq 6) 0 := r11 (len := 3) (by decide +kernel) rfl
theorem t11_35 : amTg 35 6 = some 41 := by decide
theorem e11_38 : amT 11 38 40 (.iload 4) 0 := r11 (len := 2) (by decide +kernel) rfl
theorem e11_40 : amT 11 40 41 (.istore_n 2) 0 := r11 (len := 1) (by decide +kernel) rfl
theorem e11_41 : amT 11 41 44 (.iinc 3 1) 0 := r11 (len := 3) (by decide +kernel) rfl
theorem e11_44 : amT 11 44 47 (.goto (-38)) 0 := r11 (len := 3) (by decide +kernel) rfl
theorem t11_44 : amTg 44 (-38) = some 6 := by decide
theorem e11_47 : amT 11 47 48 (.iload_n 1) 0 := r11 (len := 1) (by decide +kernel) rfl
theorem e11_48 : amT 11 48 49 (.ireturn) 0 := r11 (len := 1) (by decide +kernel) rfl
theorem q12 : amCs.getD 12 [] = amC_12 := rfl
theorem r12 {pc pc' len op : Nat} {i : Instr} (h : amC_12.lookup pc = some (i, len, op)) (h2 : pc + len = pc') : amT 12 pc pc' i op := ⟨len, by unfold amEnt; rw [q12]; exact h, h2⟩
theorem e12_0 : amT 12 0 1 (.iconst 0) 0 := r12 (len := 1) (by decide +kernel) rfl
theorem e12_1 : amT 12 1 2 (.istore_n 1) 0 := r12 (len := 1) (by decide +kernel) rfl
theorem e12_2 : amT 12 2 3 (.iload_n 1) 0 := r12 (len := 1) (by decide +kernel) rfl
theorem e12_3 : amT 12 3 5 (.bipush 9) 0 := r12 (len := 2) (by decide +kernel) rfl
theorem e12_5 : amT 12 5 8 (.if_icmp .ge 22) 0 := r12 (len := 3) (by decide +kernel) rfl
theorem t12_5 : amTg 5 22 = some 27 := by decide
theorem e12_8 : amT 12 8 9 (.aload_n 0) 0 := r12 (len := 1) (by decide +kernel) rfl
theorem e12_9 : amT 12 9 12 (.getfield 9) 448 := r12 (len := 3) (by decide +kernel) rfl
theorem e12_12 : amT 12 12 13 (.iload_n 1) 0 := r12 (len := 1) (by decide +kernel) rfl
theorem e12_13 : amT 12 13 14 (.aload_n 0) 0 := r12 (len := 1) (by decide +kernel) rfl
theorem e12_14 : amT 12 14 17 (.getfield 9) 448 := r12 (len := 3) (by decide +kernel) rfl
theorem e12_17 : amT 12 17 18 (.iload_n 1) 0 := r12 (len := 1) (by decide +kernel) rfl
theorem e12_18 : amT 12 18 19 (.laload) 0 := r12 (len := 1) (by decide +kernel) rfl
theorem e12_19 : amT 12 19 20 (.lneg) 0 := r12 (len := 1) (by decide +kernel) rfl
theorem e12_20 : amT 12 20 21 (.lastore) 0 := r12 (len := 1) (by decide +kernel) rfl
theorem e12_21 : amT 12 21 24 (.iinc 1 1) 0 := r12 (len := 3) (by decide +kernel) rfl
theorem e12_24 : amT 12 24 27 (.goto (-22)) 0 := r12 (len := 3) (by decide +kernel) rfl
theorem t12_24 : amTg 24 (-22) = some 2 := by decide
theorem e12_27 : amT 12 27 28 (.return_) 0 := r12 (len := 1) (by decide +kernel) rfl
theorem q13 : amCs.getD 13 [] = amC_13 := rfl
theorem r13 {pc pc' len op : Nat} {i : Instr} (h : amC_13.lookup pc = some (i, len, op)) (h2 : pc + len = pc') : amT 13 pc pc' i op := ⟨len, by unfold amEnt; rw [q13]; exact h, h2⟩
theorem e13_0 : amT 13 0 1 (.aload_n 0) 0 := r13 (len := 1) (by decide +kernel) rfl
theorem e13_1 : amT 13 1 2 (.aload_n 0) 0 := r13 (len := 1) (by decide +kernel) rfl
theorem e13_2 : amT 13 2 5 (.invokevirtual 13) 5 := r13 (len := 3) (by decide +kernel) rfl
theorem e13_5 : amT 13 5 8 (.invokevirtual 17) 3 := r13 (len := 3) (by decide +kernel) rfl
theorem e13_8 : amT 13 8 9 (.lconst 0) 0 := r13 (len := 1) (by decide +kernel) rfl
theorem e13_9 : amT 13 9 10 (.lcmp) 0 := r13 (len := 1) (by decide +kernel) rfl
theorem e13_10 : amT 13 10 13 (.ifCond .ge 7) 0 := r13 (len := 3) (by decide +kernel) rfl
theorem t13_10 : amTg 10 7 = some 17 := by decide
theorem e13_13 : amT 13 13 14 (.aload_n 0) 0 := r13 (len := 1) (by decide +kernel) rfl
theorem e13_14 : amT 13 14 17 (.invokevirtual 37) 12 := r13 (len := 3) (by decide +kernel) rfl
theorem e13_17 : amT 13 17 18 (.return_) 0 := r13 (len := 1) (by decide +kernel) rfl
theorem q14 : amCs.getD 14 [] = amC_14 := rfl
theorem r14 {pc pc' len op : Nat} {i : Instr} (h : amC_14.lookup pc = some (i, len, op)) (h2 : pc + len = pc') : amT 14 pc pc' i op := ⟨len, by unfold amEnt; rw [q14]; exact h, h2⟩
theorem e14_0 : amT 14 0 1 (.iconst 0) 0 := r14 (len := 1) (by decide +kernel) rfl
theorem e14_1 : amT 14 1 3 (.istore 4) 0 := r14 (len := 2) (by decide +kernel) rfl
theorem e14_3 : amT 14 3 5 (.iload 4) 0 := r14 (len := 2) (by decide +kernel) rfl
theorem e14_5 : amT 14 5 7 (.bipush 9) 0 := r14 (len := 2) (by decide +kernel) rfl
theorem e14_7 : amT 14 7 10 (.if_icmp .ge 28) 0 := r14 (len := 3) (by decide +kernel) rfl
theorem t14_7 : amTg 7 28 = some 35 := by decide
theorem e14_10 : amT 14 10 11 (.aload_n 0) 0 := r14 (len := 1) (by decide +kernel) rfl
theorem e14_11 : amT 14 11 14 (.getfield 9) 448 := r14 (len := 3) (by decide +kernel) rfl
theorem e14_14 : amT 14 14 16 (.iload 4) 0 := r14 (len := 2) (by decide +kernel) rfl
theorem e14_16 : amT 14 16 17 (.dup2) 0 := r14 (len := 1) (by decide +kernel) rfl
theorem e14_17 : amT 14 17 18 (.laload) 0 := r14 (len := 1) (by decide +kernel) rfl
theorem e14_18 : amT 14 18 19 (.aload_n 1) 0 := r14 (len := 1) (by decide +kernel) rfl
theorem e14_19 : amT 14 19 22 (.getfield 9) 448 := r14 (len := 3) (by decide +kernel) rfl
theorem e14_22 : amT 14 22 24 (.iload 4) 0 := r14 (len := 2) (by decide +kernel) rfl
theorem e14_24 : amT 14 24 25 (.laload) 0 := r14 (len := 1) (by decide +kernel) rfl
theorem e14_25 : amT 14 25 26 (.lload_n 2) 0 := r14 (len := 1) (by decide +kernel) rfl
theorem e14_26 : amT 14 26 27 (.lmul) 0 := r14 (len := 1) (by decide +kernel) rfl
theorem e14_27 : amT 14 27 28 (.ladd) 0 := r14 (len := 1) (by decide +kernel) rfl
theorem e14_28 : amT 14 28 29 (.lastore) 0 := r14 (len := 1) (by decide +kernel) rfl
theorem e14_29 : amT 14 29 32 (.iinc 4 1) 0 := r14 (len := 3) (by decide +kernel) rfl
theorem e14_32 : amT 14 32 35 (.goto (-29)) 0 := r14 (len := 3) (by decide +kernel) rfl
theorem t14_32 : amTg 32 (-29) = some 3 := by decide
theorem e14_35 : amT 14 35 36 (.return_) 0 := r14 (len := 1) (by decide +kernel) rfl
theorem q15 : amCs.getD 15 [] = amC_15 := rfl
theorem r15 {pc pc' len op : Nat} {i : Instr} (h : amC_15.lookup pc = some (i, len, op)) (h2 : pc + len = pc') : amT 15 pc pc' i op := ⟨len, by unfold amEnt; rw [q15]; exact h, h2⟩
theorem e15_0 : amT 15 0 1 (.aload_n 0) 0 := r15 (len := 1) (by decide +kernel) rfl
theorem e15_1 : amT 15 1 4 (.invokevirtual 40) 7 := r15 (len := 3) (by decide +kernel) rfl
theorem e15_4 : amT 15 4 5 (.iconst 0) 0 := r15 (len := 1) (by decide +kernel) rfl
theorem e15_5 : amT 15 5 6 (.istore_n 3) 0 := r15 (len := 1) (by decide +kernel) rfl
theorem e15_6 : amT 15 6 7 (.iload_n 3) 0 := r15 (len := 1) (by decide +kernel) rfl
theorem e15_7 : amT 15 7 9 (.bipush 9) 0 := r15 (len := 2) (by decide +kernel) rfl
theorem e15_9 : amT 15 9 12 (.if_icmp .ge 53) 0 := r15 (len := 3) (by decide +kernel) rfl
theorem t15_9 : amTg 9 53 = some 62 := by decide
theorem e15_12 : amT 15 12 13 (.iconst 0) 0 := r15 (len := 1) (by decide +kernel) rfl
theorem e15_13 : amT 15 13 15 (.istore 4) 0 := r15 (len := 2) (by decide +kernel) rfl
theorem e15_15 : amT 15 15 17 (.iload 4) 0 := r15 (len := 2) (by decide +kernel) rfl
theorem e15_17 : amT 15 17 19 (.bipush 9) 0 := r15 (len := 2) (by decide +kernel) rfl
theorem e15_19 : amT 15 19 20 (.iload_n 3) 0 := r15 (len := 1) (by decide +kernel) rfl
theorem e15_20 : amT 15 20 21 (.isub) 0 := r15 (len := 1) (by decide +kernel) rfl
theorem e15_21 : amT 15 21 24 (.if_icmp .ge 35) 0 := r15 (len := 3) (by decide +kernel) rfl
theorem t15_21 : amTg 21 35 = some 56 := by decide
theorem e15_24 : amT 15 24 25 (.aload_n 0) 0 := r15 (len := 1) (by decide +kernel) rfl
theorem e15_25 : amT 15 25 28 (.getfield 9) 448 := r15 (len := 3) (by decide +kernel) rfl
theorem e15_28 : amT 15 28 29 (.iload_n 3) 0 := r15 (len := 1) (by decide +kernel) rfl
theorem e15_29 : amT 15 29 31 (.iload 4) 0 := r15 (len := 2) (by decide +kernel) rfl
theorem e15_31 : amT 15 31 32 (.iadd) 0 := r15 (len := 1) (by decide +kernel) rfl
theorem e15_32 : amT 15 32 33 (.dup2) 0 := r15 (len := 1) (by decide +kernel) rfl
theorem e15_33 : amT 15 33 34 (.laload) 0 := r15 (len := 1) (by decide +kernel) rfl
theorem e15_34 : amT 15 34 35 (.aload_n 1) 0 := r15 (len := 1) (by decide +kernel) rfl
theorem e15_35 : amT 15 35 38 (.getfield 9) 448 := r15 (len := 3) (by decide +kernel) rfl
theorem e15_38 : amT 15 38 39 (.iload_n 3) 0 := r15 (len := 1) (by decide +kernel) rfl
theorem e15_39 : amT 15 39 40 (.laload) 0 := r15 (len := 1) (by decide +kernel) rfl
theorem e15_40 : amT 15 40 41 (.aload_n 2) 0 := r15 (len := 1) (by decide +kernel) rfl
theorem e15_41 : amT 15 41 44 (.getfield 9) 448 := r15 (len := 3) (by decide +kernel) rfl
theorem e15_44 : amT 15 44 46 (.iload 4) 0 := r15 (len := 2) (by decide +kernel) rfl
theorem e15_46 : amT 15 46 47 (.laload) 0 := r15 (len := 1) (by decide +kernel) rfl
theorem e15_47 : amT 15 47 48 (.lmul) 0 := r15 (len := 1) (by decide +kernel) rfl
theorem e15_48 : amT 15 48 49 (.ladd) 0 := r15 (len := 1) (by decide +kernel) rfl
theorem e15_49 : amT 15 49 50 (.lastore) 0 := r15 (len := 1) (by decide +kernel) rfl
theorem e15_50 : amT 15 50 53 (.iinc 4 1) 0 := r15 (len := 3) (by decide +kernel) rfl
theorem e15_53 : amT 15 53 56 (.goto (-38)) 0 := r15 (len := 3) (by decide +kernel) rfl
theorem t15_53 : amTg 53 (-38) = some 15 := by decide
theorem e15_56 : amT 15 56 59 (.iinc 3 1) 0 := r15 (len := 3) (by decide +kernel) rfl
theorem e15_59 : amT 15 59 62 (.goto (-53)) 0 := r15 (len := 3) (by decide +kernel) rfl
theorem t15_59 : amTg 59 (-53) = some 6 := by decide
theorem e15_62 : amT 15 62 63 (.return_) 0 := r15 (len := 1) (by decide +kernel) rfl
theorem q16 : amCs.getD 16 [] = amC_16 := rfl
theorem r16 {pc pc' len op : Nat} {i : Instr} (h : amC_16.lookup pc = some (i, len, op)) (h2 : pc + len = pc') : amT 16 pc pc' i op := ⟨len, by unfold amEnt; rw [q16]; exact h, h2⟩
theorem e16_0 : amT 16 0 1 (.iconst 1) 0 := r16 (len := 1) (by decide +kernel) rfl
theorem e16_1 : amT 16 1 2 (.istore_n 1) 0 := r16 (len := 1) (by decide +kernel) rfl
theorem e16_2 : amT 16 2 3 (.iload_n 1) 0 := r16 (len := 1) (by decide +kernel) rfl
theorem e16_3 : amT 16 3 5 (.bipush 9) 0 := r16 (len := 2) (by decide +kernel) rfl
theorem e16_5 : amT 16 5 8 (.if_icmp .ge 26) 0 := r16 (len := 3) (by decide +kernel) rfl
theorem t16_5 : amTg 5 26 = some 31 := by decide
theorem e16_8 : amT 16 8 9 (.aload_n 0) 0 := r16 (len := 1) (by decide +kernel) rfl
theorem e16_9 : amT 16 9 12 (.getfield 9) 448 := r16 (len := 3) (by decide +kernel) rfl
theorem e16_12 : amT 16 12 13 (.iload_n 1) 0 := r16 (len := 1) (by decide +kernel) rfl
theorem e16_13 : amT 16 13 14 (.iconst 1) 0 := r16 (len := 1) (by decide +kernel) rfl
theorem e16_14 : amT 16 14 15 (.isub) 0 := r16 (len := 1) (by decide +kernel) rfl
theorem e16_15 : amT 16 15 16 (.aload_n 0) 0 := r16 (len := 1) (by decide +kernel) rfl
theorem e16_16 : amT 16 16 19 (.getfield 9) 448 := r16 (len := 3) (by decide +kernel) rfl
theorem e16_19 : amT 16 19 20 (.iload_n 1) 0 := r16 (len := 1) (by decide +kernel) rfl
theorem e16_20 : amT 16 20 21 (.laload) 0 := r16 (len := 1) (by decide +kernel) rfl
theorem e16_21 : amT 16 21 22 (.iload_n 1) 0 := r16 (len := 1) (by decide +kernel) rfl
theorem e16_22 : amT 16 22 23 (.i2l) 0 := r16 (len := 1) (by decide +kernel) rfl
theorem e16_23 : amT 16 23 24 (.lmul) 0 := r16 (len := 1) (by decide +kernel) rfl
theorem e16_24 : amT 16 24 25 (.lastore) 0 := r16 (len := 1) (by decide +kernel) rfl
theorem e16_25 : amT 16 25 28 (.iinc 1 1) 0 := r16 (len := 3) (by decide +kernel) rfl
theorem e16_28 : amT 16 28 31 (.goto (-26)) 0 := r16 (len := 3) (by decide +kernel) rfl
theorem t16_28 : amTg 28 (-26) = some 2 := by decide
theorem e16_31 : amT 16 31 32 (.aload_n 0) 0 := r16 (len := 1) (by decide +kernel) rfl
theorem e16_32 : amT 16 32 35 (.getfield 9) 448 := r16 (len := 3) (by decide +kernel) rfl
theorem e16_35 : amT 16 35 37 (.bipush 8) 0 := r16 (len := 2) (by decide +kernel) rfl
theorem e16_37 : amT 16 37 38 (.lconst 0) 0 := r16 (len := 1) (by decide +kernel) rfl
theorem e16_38 : amT 16 38 39 (.lastore) 0 := r16 (len := 1) (by decide +kernel) rfl
theorem e16_39 : amT 16 39 40 (.return_) 0 := r16 (len := 1) (by decide +kernel) rfl
theorem q17 : amCs.getD 17 [] = amC_17 := rfl
theorem r17 {pc pc' len op : Nat} {i : Instr} (h : amC_17.lookup pc = some (i, len, op)) (h2 : pc + len = pc') : amT 17 pc pc' i op := ⟨len, by unfold amEnt; rw [q17]; exact h, h2⟩
theorem e17_0 : amT 17 0 1 (.lconst 0) 0 := r17 (len := 1) (by decide +kernel) rfl
theorem e17_1 : amT 17 1 2 (.lstore_n 1) 0 := r17 (len := 1) (by decide +kernel) rfl
theorem e17_2 : amT 17 2 3 (.iconst 0) 0 := r17 (len := 1) (by decide +kernel) rfl
theorem e17_3 : amT 17 3 4 (.istore_n 3) 0 := r17 (len := 1) (by decide +kernel) rfl
theorem e17_4 : amT 17 4 5 (.iload_n 3) 0 := r17 (len := 1) (by decide +kernel) rfl
theorem e17_5 : amT 17 5 7 (.bipush 9) 0 := r17 (len := 2) (by decide +kernel) rfl
theorem e17_7 : amT 17 7 10 (.if_icmp .ge 81) 0 := r17 (len := 3) (by decide +kernel) rfl
theorem t17_7 : amTg 7 81 = some 88 := by decide
theorem e17_10 : amT 17 10 11 (.lload_n 1) 0 := r17 (len := 1) (by decide +kernel) rfl
theorem e17_11 : amT 17 11 12 (.lconst 1) 0 := r17 (len := 1) (by decide +kernel) rfl
theorem e17_12 : amT 17 12 13 (.lcmp) 0 := r17 (len := 1) (by decide +kernel) rfl
theorem e17_13 : amT 17 13 16 (.ifCond .eq 75) 0 := r17 (len := 3) (by decide +kernel) rfl
theorem t17_13 : amTg 13 75 = some 88 := by decide
theorem e17_16 : amT 17 16 17 (.aload_n 0) 0 := r17 (len := 1) (by decide +kernel) rfl
theorem e17_17 : amT 17 17 20 (.getfield 9) 448 := r17 (len := 3) (by decide +kernel) rfl
theorem e17_20 : amT 17 20 21 (.iload_n 3) 0 := r17 (len := 1) (by decide +kernel) rfl
theorem e17_21 : amT 17 21 22 (.laload) 0 := r17 (len := 1) (by decide +kernel) rfl
theorem e17_22 : amT 17 22 23 (.lconst 0) 0 := r17 (len := 1) (by decide +kernel) rfl
theorem e17_23 : amT 17 23 24 (.lcmp) 0 := r17 (len := 1) (by decide +kernel) rfl
theorem e17_24 : amT 17 24 27 (.ifCond .ge 13) 0 := r17 (len := 3) (by decide +kernel) rfl
theorem t17_24 : amTg 24 13 = some 37 := by decide
theorem e17_27 : amT 17 27 28 (.aload_n 0) 0 := r17 (len := 1) (by decide +kernel) rfl
theorem e17_28 : amT 17 28 31 (.getfield 9) 448 := r17 (len := 3) (by decide +kernel) rfl
theorem e17_31 : amT 17 31 32 (.iload_n 3) 0 := r17 (len := 1) (by decide +kernel) rfl
theorem e17_32 : amT 17 32 33 (.laload) 0 := r17 (len := 1) (by decide +kernel) rfl
theorem e17_33 : amT 17 33 34 (.lneg) 0 := r17 (len := 1) (by decide +kernel) rfl
theorem e17_34 : amT 17 34 37 (.goto 9) 0 := r17 (len := 3) (by decide +kernel) rfl
theorem t17_34 : amTg 34 9 = some 43 := by decide
theorem e17_37 : amT 17 37 38 (.aload_n 0) 0 := r17 (len := 1) (by decide +kernel) rfl
theorem e17_38 : amT 17 38 41 (.getfield 9) 448 := r17 (len := 3) (by decide +kernel) rfl
theorem e17_41 : amT 17 41 42 (.iload_n 3) 0 := r17 (len := 1) (by decide +kernel) rfl
theorem e17_42 : amT 17 42 43 (.laload) 0 := r17 (len := 1) (by decide +kernel) rfl
theorem e17_43 : amT 17 43 45 (.lstore 4) 0 := r17 (len := 2) (by decide +kernel) rfl
theorem e17_45 : amT 17 45 46 (.iconst 0) 0 := r17 (len := 1) (by decide +kernel) rfl
theorem e17_46 : amT 17 46 48 (.istore 6) 0 := r17 (len := 2) (by decide +kernel) rfl
theorem e17_48 : amT 17 48 50 (.iload 6) 0 := r17 (len := 2) (by decide +kernel) rfl
theorem e17_50 : amT 17 50 53 (.sipush 1000) 0 := r17 (len := 3) (by decide +kernel) rfl
theorem e17_53 : amT 17 53 56 (.if_icmp .ge 29) 0 := r17 (len := 3) (by decide +kernel) rfl
theorem t17_53 : amTg 53 29 = some 82 := by decide
theorem e17_56 : amT 17 56 58 (.lload 4) 0 := r17 (len := 2) (by decide +kernel) rfl
theorem e17_58 : amT 17 58 59 (.lconst 0) 0 := r17 (len := 1) (by decide +kernel) rfl
theorem e17_59 : amT 17 59 60 (.lcmp) 0 := r17 (len := 1) (by decide +kernel) rfl
theorem e17_60 : amT 17 60 63 (.ifCond .eq 22) 0 := r17 (len := 3) (by decide +kernel) rfl
theorem t17_60 : amTg 60 22 = some 82 := by decide
theorem e17_63 : amT 17 63 64 (.lload_n 1) 0 := r17 (len := 1) (by decide +kernel) rfl
theorem e17_64 : amT 17 64 66 (.lload 4) 0 := r17 (len := 2) (by decide +kernel) rfl
theorem e17_66 : amT 17 66 67 (.lrem) 0 := r17 (len := 1) (by decide +kernel) rfl
theorem e17_67 : amT 17 67 69 (.lstore 7) 0 := r17 (len := 2) (by decide +kernel) rfl
theorem e17_69 : amT 17 69 71 (.lload 4) 0 := r17 (len := 2) (by decide +kernel) rfl
theorem e17_71 : amT 17 71 72 (.lstore_n 1) 0 := r17 (len := 1) (by decide +kernel) rfl
theorem e17_72 : amT 17 72 74 (.lload 7) 0 := r17 (len := 2) (by decide +kernel) rfl
theorem e17_74 : amT 17 74 76 (.lstore 4) 0 := r17 (len := 2) (by decide +kernel) rfl
theorem e17_76 : amT 17 76 79 (.iinc 6 1) 0 := r17 (len := 3) (by decide +kernel) rfl
theorem e17_79 : amT 17 79 82 (.goto (-31)) 0 := r17 (len := 3) (by decide +kernel) rfl
theorem t17_79 : amTg 79 (-31) = some 48 := by decide
theorem e17_82 : amT 17 82 85 (.iinc 3 1) 0 := r17 (len := 3) (by decide +kernel) rfl
theorem e17_85 : amT 17 85 88 (.goto (-81)) 0 := r17 (len := 3) (by decide +kernel) rfl
theorem t17_85 : amTg 85 (-81) = some 4 := by decide
theorem e17_88 : amT 17 88 89 (.iconst 1) 0 := r17 (len := 1) (by decide +kernel) rfl
theorem e17_89 : amT 17 89 90 (.istore_n 3) 0 := r17 (len := 1) (by decide +kernel) rfl
theorem e17_90 : amT 17 90 91 (.iconst 0) 0 := r17 (len := 1) (by decide +kernel) rfl
theorem e17_91 : amT 17 91 93 (.istore 4) 0 := r17 (len := 2) (by decide +kernel) rfl
theorem e17_93 : amT 17 93 95 (.iload 4) 0 := r17 (len := 2) (by decide +kernel) rfl
theorem e17_95 : amT 17 95 97 (.bipush 9) 0 := r17 (len := 2) (by decide +kernel) rfl
theorem e17_97 : amT 17 97 100 (.if_icmp .ge 64) 0 := r17 (len := 3) (by decide +kernel) rfl
theorem t17_97 : amTg 97 64 = some 161 := by decide
theorem e17_100 : amT 17 100 101 (.lload_n 1) 0 := r17 (len := 1) (by decide +kernel) rfl
theorem e17_101 : amT 17 101 102 (.lconst 1) 0 := r17 (len := 1) (by decide +kernel) rfl
theorem e17_102 : amT 17 102 103 (.lcmp) 0 := r17 (len := 1) (by decide +kernel) rfl
theorem e17_103 : amT 17 103 106 (.ifCond .le 14) 0 := r17 (len := 3) (by decide +kernel) rfl
theorem t17_103 : amTg 103 14 = some 117 := by decide
theorem e17_106 : amT 17 106 107 (.aload_n 0) 0 := r17 (len := 1) (by decide +kernel) rfl
theorem e17_107 : amT 17 107 110 (.getfield 9) 448 := r17 (len := 3) (by decide +kernel) rfl
theorem e17_110 : amT 17 110 112 (.iload 4) 0 := r17 (len := 2) (by decide +kernel) rfl
theorem e17_112 : amT 17 112 113 (.dup2) 0 := r17 (len := 1) (by decide +kernel) rfl
theorem e17_113 : amT 17 113 114 (.laload) 0 := r17 (len := 1) (by decide +kernel) rfl
theorem e17_114 : amT 17 114 115 (.lload_n 1) 0 := r17 (len := 1) (by decide +kernel) rfl
theorem e17_115 : amT 17 115 116 (.ldiv) 0 := r17 (len := 1) (by decide +kernel) rfl
theorem e17_116 : amT 17 116 117 (.lastore) 0 := r17 (len := 1) (by decide +kernel) rfl
theorem e17_117 : amT 17 117 118 (.iload_n 3) 0 := r17 (len := 1) (by decide +kernel) rfl
theorem e17_118 : amT 17 118 121 (.ifCond .eq 35) 0 := r17 (len := 3) (by decide +kernel) rfl
theorem t17_118 : amTg 118 35 = some 153 := by decide
theorem e17_121 : amT 17 121 122 (.aload_n 0) 0 := r17 (len := 1) (by decide +kernel) rfl
theorem e17_122 : amT 17 122 125 (.getfield 9) 448 := r17 (len := 3) (by decide +kernel) rfl
theorem e17_125 : amT 17 125 127 (.iload 4) 0 := r17 (len := 2) (by decide +kernel) rfl
theorem e17_127 : amT 17 127 128 (.laload) 0 := r17 (len := 1) (by decide +kernel) rfl
theorem e17_128 : amT 17 128 131 (.ldc2_w 43) 0 := r17 (len := 3) (by decide +kernel) rfl
theorem e17_131 : amT 17 131 132 (.lcmp) 0 := r17 (len := 1) (by decide +kernel) rfl
theorem e17_132 : amT 17 132 135 (.ifCond .lt 21) 0 := r17 (len := 3) (by decide +kernel) rfl
theorem t17_132 : amTg 132 21 = some 153 := by decide
theorem e17_135 : amT 17 135 136 (.aload_n 0) 0 := r17 (len := 1) (by decide +kernel) rfl
theorem e17_136 : amT 17 136 139 (.getfield 9) 448 := r17 (len := 3) (by decide +kernel) rfl
theorem e17_139 : amT 17 139 141 (.iload 4) 0 := r17 (len := 2) (by decide +kernel) rfl
theorem e17_141 : amT 17 141 142 (.laload) 0 := r17 (len := 1) (by decide +kernel) rfl
theorem e17_142 : amT 17 142 145 (.ldc2_w 45) 1 := r17 (len := 3) (by decide +kernel) rfl
theorem e17_145 : amT 17 145 146 (.lcmp) 0 := r17 (len := 1) (by decide +kernel) rfl
theorem e17_146 : amT 17 146 149 (.ifCond .gt 7) 0 := r17 (len := 3) (by decide +kernel) rfl
theorem t17_146 : amTg 146 7 = some 153 := by decide
theorem e17_149 : amT 17 149 150 (.iconst 1) 0 := r17 (len := 1) (by decide +kernel) rfl
theorem e17_150 : amT 17 150 153 (.goto 4) 0 := r17 (len := 3) (by decide +kernel) rfl
theorem t17_150 : amTg 150 4 = some 154 := by decide
theorem e17_153 : amT 17 153 154 (.iconst 0) 0 := r17 (len := 1) (by decide +kernel) rfl
theorem e17_154 : amT 17 154 155 (.istore_n 3) 0 := r17 (len := 1) (by decide +kernel) rfl
theorem e17_155 : amT 17 155 158 (.iinc 4 1) 0 := r17 (len := 3) (by decide +kernel) rfl
theorem e17_158 : amT 17 158 161 (.goto (-65)) 0 := r17 (len := 3) (by decide +kernel) rfl
theorem t17_158 : amTg 158 (-65) = some 93 := by decide
theorem e17_161 : amT 17 161 162 (.iload_n 3) 0 := r17 (len := 1) (by decide +kernel) rfl
theorem e17_162 : amT 17 162 163 (.ireturn) 0 := r17 (len := 1) (by decide +kernel) rfl
theorem q18 : amCs.getD 18 [] = amC_18 := rfl
theorem r18 {pc pc' len op : Nat} {i : Instr} (h : amC_18.lookup pc = some (i, len, op)) (h2 : pc + len = pc') : amT 18 pc pc' i op := ⟨len, by unfold amEnt; rw [q18]; exact h, h2⟩
theorem e18_0 : amT 18 0 1 (.aload_n 1) 0 := r18 (len := 1) (by decide +kernel) rfl
theorem e18_1 : amT 18 1 4 (.invokevirtual 13) 5 := r18 (len := 3) (by decide +kernel) rfl
theorem e18_4 : amT 18 4 5 (.istore_n 2) 0 := r18 (len := 1) (by decide +kernel) rfl
theorem e18_5 : amT 18 5 6 (.aload_n 0) 0 := r18 (len := 1) (by decide +kernel) rfl
theorem e18_6 : amT 18 6 9 (.invokevirtual 47) 17 := r18 (len := 3) (by decide +kernel) rfl
theorem e18_9 : amT 18 9 10 (.istore_n 3) 0 := r18 (len := 1) (by decide +kernel) rfl
theorem e18_10 : amT 18 10 11 (.iload_n 2) 0 := r18 (len := 1) (by decide +kernel) rfl
theorem e18_11 : amT 18 11 14 (.ifCond .ge 5) 0 := r18 (len := 3) (by decide +kernel) rfl
theorem t18_11 : amTg 11 5 = some 16 := by decide
theorem e18_14 : amT 18 14 15 (.iload_n 3) 0 := r18 (len := 1) (by decide +kernel) rfl
theorem e18_15 : amT 18 15 16 (.ireturn) 0 := r18 (len := 1) (by decide +kernel) rfl
theorem e18_16 : amT 18 16 17 (.aload_n 1) 0 := r18 (len := 1) (by decide +kernel) rfl
theorem e18_17 : amT 18 17 20 (.getfield 9) 448 := r18 (len := 3) (by decide +kernel) rfl
theorem e18_20 : amT 18 20 21 (.iload_n 2) 0 := r18 (len := 1) (by decide +kernel) rfl
theorem e18_21 : amT 18 21 22 (.laload) 0 := r18 (len := 1) (by decide +kernel) rfl
theorem e18_22 : amT 18 22 24 (.lstore 4) 0 := r18 (len := 2) (by decide +kernel) rfl
theorem e18_24 : amT 18 24 26 (.bipush 8) 0 := r18 (len := 2) (by decide +kernel) rfl
theorem e18_26 : amT 18 26 28 (.istore 6) 0 := r18 (len := 2) (by decide +kernel) rfl
theorem e18_28 : amT 18 28 30 (.iload 6) 0 := r18 (len := 2) (by decide +kernel) rfl
theorem e18_30 : amT 18 30 31 (.iload_n 2) 0 := r18 (len := 1) (by decide +kernel) rfl
theorem e18_31 : amT 18 31 34 (.if_icmp .lt 133) 0 := r18 (len := 3) (by decide +kernel) rfl
theorem t18_31 : amTg 31 133 = some 164 := by decide
theorem e18_34 : amT 18 34 35 (.iload_n 3) 0 := r18 (len := 1) (by decide +kernel) rfl
theorem e18_35 : amT 18 35 38 (.ifCond .eq 129) 0 := r18 (len := 3) (by decide +kernel) rfl
theorem t18_35 : amTg 35 129 = some 164 := by decide
theorem e18_38 : amT 18 38 40 (.lload 4) 0 := r18 (len := 2) (by decide +kernel) rfl
theorem e18_40 : amT 18 40 41 (.lconst 0) 0 := r18 (len := 1) (by decide +kernel) rfl
theorem e18_41 : amT 18 41 42 (.lcmp) 0 := r18 (len := 1) (by decide +kernel) rfl
theorem e18_42 : amT 18 42 45 (.ifCond .ge 14) 0 := r18 (len := 3) (by decide +kernel) rfl
theorem t18_42 : amTg 42 14 = some 56 := by decide
theorem e18_45 : amT 18 45 46 (.aload_n 0) 0 := r18 (len := 1) (by decide +kernel) rfl
theorem e18_46 : amT 18 46 49 (.getfield 9) 448 := r18 (len := 3) (by decide +kernel) rfl
theorem e18_49 : amT 18 49 51 (.iload 6) 0 := r18 (len := 2) (by decide +kernel) rfl
theorem e18_51 : amT 18 51 52 (.laload) 0 := r18 (len := 1) (by decide +kernel) rfl
theorem e18_52 : amT 18 52 53 (.lneg) 0 := r18 (len := 1) (by decide +kernel) rfl
theorem e18_53 : amT 18 53 56 (.goto 10) 0 := r18 (len := 3) (by decide +kernel) rfl
theorem t18_53 : amTg 53 10 = some 63 := by decide
theorem e18_56 : amT 18 56 57 (.aload_n 0) 0 := r18 (len := 1) (by decide +kernel) rfl
theorem e18_57 : amT 18 57 60 (.getfield 9) 448 := r18 (len := 3) (by decide +kernel) rfl
theorem e18_60 : amT 18 60 62 (.iload 6) 0 := r18 (len := 2) (by decide +kernel) rfl
theorem e18_62 : amT 18 62 63 (.laload) 0 := r18 (len := 1) (by decide +kernel) rfl
theorem e18_63 : amT 18 63 65 (.lstore 7) 0 := r18 (len := 2) (by decide +kernel) rfl
theorem e18_65 : amT 18 65 67 (.lload 7) 0 := r18 (len := 2) (by decide +kernel) rfl
theorem e18_67 : amT 18 67 68 (.lconst 0) 0 := r18 (len := 1) (by decide +kernel) rfl
theorem e18_68 : amT 18 68 69 (.lcmp) 0 := r18 (len := 1) (by decide +kernel) rfl
theorem e18_69 : amT 18 69 72 (.ifCond .eq 89) 0 := r18 (len := 3) (by decide +kernel) rfl
theorem t18_69 : amTg 69 89 = some 158 := by decide
theorem e18_72 : amT 18 72 73 (.iconst 0) 0 := r18 (len := 1) (by decide +kernel) rfl
theorem e18_73 : amT 18 73 75 (.istore 9) 0 := r18 (len := 2) (by decide +kernel) rfl
theorem e18_75 : amT 18 75 77 (.iload 9) 0 := r18 (len := 2) (by decide +kernel) rfl
theorem e18_77 : amT 18 77 79 (.bipush 9) 0 := r18 (len := 2) (by decide +kernel) rfl
theorem e18_79 : amT 18 79 82 (.if_icmp .ge 34) 0 := r18 (len := 3) (by decide +kernel) rfl
theorem t18_79 : amTg 79 34 = some 113 := by decide
theorem e18_82 : amT 18 82 83 (.aload_n 0) 0 := r18 (len := 1) (by decide +kernel) rfl
theorem e18_83 : amT 18 83 86 (.getfield 9) 448 := r18 (len := 3) (by decide +kernel) rfl
theorem e18_86 : amT 18 86 88 (.iload 9) 0 := r18 (len := 2) (by decide +kernel) rfl
theorem e18_88 : amT 18 88 89 (.dup2) 0 := r18 (len := 1) (by decide +kernel) rfl
theorem e18_89 : amT 18 89 90 (.laload) 0 := r18 (len := 1) (by decide +kernel) rfl
theorem e18_90 : amT 18 90 92 (.lload 4) 0 := r18 (len := 2) (by decide +kernel) rfl
theorem e18_92 : amT 18 92 93 (.lconst 0) 0 := r18 (len := 1) (by decide +kernel) rfl
theorem e18_93 : amT 18 93 94 (.lcmp) 0 := r18 (len := 1) (by decide +kernel) rfl
theorem e18_94 : amT 18 94 97 (.ifCond .ge 9) 0 := r18 (len := 3) (by decide +kernel) rfl
theorem t18_94 : amTg 94 9 = some 103 := by decide
theorem e18_97 : amT 18 97 99 (.lload 4) 0 := r18 (len := 2) (by decide +kernel) rfl
theorem e18_99 : amT 18 99 100 (.lneg) 0 := r18 (len := 1) (by decide +kernel) rfl
theorem e18_100 : amT 18 100 103 (.goto 5) 0 := r18 (len := 3) (by decide +kernel) rfl
theorem t18_100 : amTg 100 5 = some 105 := by decide
theorem e18_103 : amT 18 103 105 (.lload 4) 0 := r18 (len := 2) (by decide +kernel) rfl
theorem e18_105 : amT 18 105 106 (.lmul) 0 := r18 (len := 1) (by decide +kernel) rfl
theorem e18_106 : amT 18 106 107 (.lastore) 0 := r18 (len := 1) (by decide +kernel) rfl
theorem e18_107 : amT 18 107 110 (.iinc 9 1) 0 := r18 (len := 3) (by decide +kernel) rfl
theorem e18_110 : amT 18 110 113 (.goto (-35)) 0 := r18 (len := 3) (by decide +kernel) rfl
theorem t18_110 : amTg 110 (-35) = some 75 := by decide
theorem e18_113 : amT 18 113 114 (.iconst 0) 0 := r18 (len := 1) (by decide +kernel) rfl
theorem e18_114 : amT 18 114 116 (.istore 9) 0 := r18 (len := 2) (by decide +kernel) rfl
theorem e18_116 : amT 18 116 118 (.iload 9) 0 := r18 (len := 2) (by decide +kernel) rfl
theorem e18_118 : amT 18 118 119 (.iload_n 2) 0 := r18 (len := 1) (by decide +kernel) rfl
theorem e18_119 : amT 18 119 122 (.if_icmp .gt 34) 0 := r18 (len := 3) (by decide +kernel) rfl
theorem t18_119 : amTg 119 34 = some 153 := by decide
theorem e18_122 : amT 18 122 123 (.aload_n 0) 0 := r18 (len := 1) (by decide +kernel) rfl
theorem e18_123 : amT 18 123 126 (.getfield 9) 448 := r18 (len := 3) (by decide +kernel) rfl
theorem e18_126 : amT 18 126 128 (.iload 6) 0 := r18 (len := 2) (by decide +kernel) rfl
theorem e18_128 : amT 18 128 129 (.iload_n 2) 0 := r18 (len := 1) (by decide +kernel) rfl
theorem e18_129 : amT 18 129 130 (.isub) 0 := r18 (len := 1) (by decide +kernel) rfl
theorem e18_130 : amT 18 130 132 (.iload 9) 0 := r18 (len := 2) (by decide +kernel) rfl
theorem e18_132 : amT 18 132 133 (.iadd) 0 := r18 (len := 1) (by decide +kernel) rfl
theorem e18_133 : amT 18 133 134 (.dup2) 0 := r18 (len := 1) (by decide +kernel) rfl
theorem e18_134 : amT 18 134 135 (.laload) 0 := r18 (len := 1) (by decide +kernel) rfl
theorem e18_135 : amT 18 135 136 (.aload_n 1) 0 := r18 (len := 1) (by decide +kernel) rfl
theorem e18_136 : amT 18 136 139 (.getfield 9) 448 := r18 (len := 3) (by decide +kernel) rfl
theorem e18_139 : amT 18 139 141 (.iload 9) 0 := r18 (len := 2) (by decide +kernel) rfl
theorem e18_141 : amT 18 141 142 (.laload) 0 := r18 (len := 1) (by decide +kernel) rfl
theorem e18_142 : amT 18 142 144 (.lload 7) 0 := r18 (len := 2) (by decide +kernel) rfl
theorem e18_144 : amT 18 144 145 (.lmul) 0 := r18 (len := 1) (by decide +kernel) rfl
theorem e18_145 : amT 18 145 146 (.lsub) 0 := r18 (len := 1) (by decide +kernel) rfl
theorem e18_146 : amT 18 146 147 (.lastore) 0 := r18 (len := 1) (by decide +kernel) rfl
theorem e18_147 : amT 18 147 150 (.iinc 9 1) 0 := r18 (len := 3) (by decide +kernel) rfl
theorem e18_150 : amT 18 150 153 (.goto (-34)) 0 := r18 (len := 3) (by decide +kernel) rfl
theorem t18_150 : amTg 150 (-34) = some 116 := by decide
theorem e18_153 : amT 18 153 154 (.aload_n 0) 0 := r18 (len := 1) (by decide +kernel) rfl
theorem e18_154 : amT 18 154 157 (.invokevirtual 47) 17 := r18 (len := 3) (by decide +kernel) rfl
theorem e18_157 : amT 18 157 158 (.istore_n 3) 0 := r18 (len := 1) (by decide +kernel) rfl
theorem e18_158 : amT 18 158 161 (.iinc 6 (-1)) 0 := r18 (len := 3) (by decide +kernel) rfl
theorem e18_161 : amT 18 161 164 (.goto (-133)) 0 := r18 (len := 3) (by decide +kernel) rfl
theorem t18_161 : amTg 161 (-133) = some 28 := by decide
theorem e18_164 : amT 18 164 165 (.iload_n 3) 0 := r18 (len := 1) (by decide +kernel) rfl
theorem e18_165 : amT 18 165 166 (.ireturn) 0 := r18 (len := 1) (by decide +kernel) rfl
theorem q19 : amCs.getD 19 [] = amC_19 := rfl
theorem r19 {pc pc' len op : Nat} {i : Instr} (h : amC_19.lookup pc = some (i, len, op)) (h2 : pc + len = pc') : amT 19 pc pc' i op := ⟨len, by unfold amEnt; rw [q19]; exact h, h2⟩
theorem e19_0 : amT 19 0 1 (.aload_n 1) 0 := r19 (len := 1) (by decide +kernel) rfl
theorem e19_1 : amT 19 1 4 (.invokevirtual 13) 5 := r19 (len := 3) (by decide +kernel) rfl
theorem e19_4 : amT 19 4 5 (.istore_n 2) 0 := r19 (len := 1) (by decide +kernel) rfl
theorem e19_5 : amT 19 5 6 (.aload_n 1) 0 := r19 (len := 1) (by decide +kernel) rfl
theorem e19_6 : amT 19 6 7 (.iload_n 2) 0 := r19 (len := 1) (by decide +kernel) rfl
theorem e19_7 : amT 19 7 10 (.invokevirtual 17) 3 := r19 (len := 3) (by decide +kernel) rfl
theorem e19_10 : amT 19 10 11 (.lstore_n 3) 0 := r19 (len := 1) (by decide +kernel) rfl
theorem e19_11 : amT 19 11 12 (.lload_n 3) 0 := r19 (len := 1) (by decide +kernel) rfl
theorem e19_12 : amT 19 12 13 (.lconst 0) 0 := r19 (len := 1) (by decide +kernel) rfl
theorem e19_13 : amT 19 13 14 (.lcmp) 0 := r19 (len := 1) (by decide +kernel) rfl
theorem e19_14 : amT 19 14 17 (.ifCond .ne 4) 0 := r19 (len := 3) (by decide +kernel) rfl
theorem t19_14 : amTg 14 4 = some 18 := by decide
theorem e19_17 : amT 19 17 18 (.return_) 0 := r19 (len := 1) (by decide +kernel) rfl
theorem e19_18 : amT 19 18 20 (.bipush 8) 0 := r19 (len := 2) (by decide +kernel) rfl
theorem e19_20 : amT 19 20 22 (.istore 5) 0 := r19 (len := 2) (by decide +kernel) rfl
theorem e19_22 : amT 19 22 24 (.iload 5) 0 := r19 (len := 2) (by decide +kernel) rfl
theorem e19_24 : amT 19 24 25 (.iload_n 2) 0 := r19 (len := 1) (by decide +kernel) rfl
theorem e19_25 : amT 19 25 28 (.if_icmp .lt 65) 0 := r19 (len := 3) (by decide +kernel) rfl
theorem t19_25 : amTg 25 65 = some 90 := by decide
theorem e19_28 : amT 19 28 29 (.aload_n 0) 0 := r19 (len := 1) (by decide +kernel) rfl
theorem e19_29 : amT 19 29 32 (.getfield 9) 448 := r19 (len := 3) (by decide +kernel) rfl
theorem e19_32 : amT 19 32 34 (.iload 5) 0 := r19 (len := 2) (by decide +kernel) rfl
theorem e19_34 : amT 19 34 35 (.dup2) 0 := r19 (len := 1) (by decide +kernel) rfl
theorem e19_35 : amT 19 35 36 (.laload) 0 := r19 (len := 1) (by decide +kernel) rfl
theorem e19_36 : amT 19 36 37 (.lload_n 3) 0 := r19 (len := 1) (by decide +kernel) rfl
theorem e19_37 : amT 19 37 38 (.ldiv) 0 := r19 (len := 1) (by decide +kernel) rfl
theorem e19_38 : amT 19 38 39 (.lastore) 0 := r19 (len := 1) (by decide +kernel) rfl
theorem e19_39 : amT 19 39 40 (.iconst 1) 0 := r19 (len := 1) (by decide +kernel) rfl
theorem e19_40 : amT 19 40 42 (.istore 6) 0 := r19 (len := 2) (by decide +kernel) rfl
theorem e19_42 : amT 19 42 44 (.iload 6) 0 := r19 (len := 2) (by decide +kernel) rfl
theorem e19_44 : amT 19 44 45 (.iload_n 2) 0 := r19 (len := 1) (by decide +kernel) rfl
theorem e19_45 : amT 19 45 48 (.if_icmp .gt 39) 0 := r19 (len := 3) (by decide +kernel) rfl
theorem t19_45 : amTg 45 39 = some 84 := by decide
theorem e19_48 : amT 19 48 49 (.aload_n 0) 0 := r19 (len := 1) (by decide +kernel) rfl
theorem e19_49 : amT 19 49 52 (.getfield 9) 448 := r19 (len := 3) (by decide +kernel) rfl
theorem e19_52 : amT 19 52 54 (.iload 5) 0 := r19 (len := 2) (by decide +kernel) rfl
theorem e19_54 : amT 19 54 56 (.iload 6) 0 := r19 (len := 2) (by decide +kernel) rfl
theorem e19_56 : amT 19 56 57 (.isub) 0 := r19 (len := 1) (by decide +kernel) rfl
theorem e19_57 : amT 19 57 58 (.dup2) 0 := r19 (len := 1) (by decide +kernel) rfl
theorem e19_58 : amT 19 58 59 (.laload) 0 := r19 (len := 1) (by decide +kernel) rfl
theorem e19_59 : amT 19 59 60 (.aload_n 0) 0 := r19 (len := 1) (by decide +kernel) rfl
theorem e19_60 : amT 19 60 63 (.getfield 9) 448 := r19 (len := 3) (by decide +kernel) rfl
theorem e19_63 : amT 19 63 65 (.iload 5) 0 := r19 (len := 2) (by decide +kernel) rfl
theorem e19_65 : amT 19 65 66 (.laload) 0 := r19 (len := 1) (by decide +kernel) rfl
theorem e19_66 : amT 19 66 67 (.aload_n 1) 0 := r19 (len := 1) (by decide +kernel) rfl
theorem e19_67 : amT 19 67 70 (.getfield 9) 448 := r19 (len := 3) (by decide +kernel) rfl
theorem e19_70 : amT 19 70 71 (.iload_n 2) 0 := r19 (len := 1) (by decide +kernel) rfl
theorem e19_71 : amT 19 71 73 (.iload 6) 0 := r19 (len := 2) (by decide +kernel) rfl
theorem e19_73 : amT 19 73 74 (.isub) 0 := r19 (len := 1) (by decide +kernel) rfl
theorem e19_74 : amT 19 74 75 (.laload) 0 := r19 (len := 1) (by decide +kernel) rfl
theorem e19_75 : amT 19 75 76 (.lmul) 0 := r19 (len := 1) (by decide +kernel) rfl
theorem e19_76 : amT 19 76 77 (.lsub) 0 := r19 (len := 1) (by decide +kernel) rfl
theorem e19_77 : amT 19 77 78 (.lastore) 0 := r19 (len := 1) (by decide +kernel) rfl
theorem e19_78 : amT 19 78 81 (.iinc 6 1) 0 := r19 (len := 3) (by decide +kernel) rfl
theorem e19_81 : amT 19 81 84 (.goto (-39)) 0 := r19 (len := 3) (by decide +kernel) rfl
theorem t19_81 : amTg 81 (-39) = some 42 := by decide
theorem e19_84 : amT 19 84 87 (.iinc 5 (-1)) 0 := r19 (len := 3) (by decide +kernel) rfl
theorem e19_87 : amT 19 87 90 (.goto (-65)) 0 := r19 (len := 3) (by decide +kernel) rfl
theorem t19_87 : amTg 87 (-65) = some 22 := by decide
theorem e19_90 : amT 19 90 91 (.iconst 0) 0 := r19 (len := 1) (by decide +kernel) rfl
theorem e19_91 : amT 19 91 93 (.istore 5) 0 := r19 (len := 2) (by decide +kernel) rfl
theorem e19_93 : amT 19 93 95 (.iload 5) 0 := r19 (len := 2) (by decide +kernel) rfl
theorem e19_95 : amT 19 95 97 (.bipush 9) 0 := r19 (len := 2) (by decide +kernel) rfl
theorem e19_97 : amT 19 97 100 (.if_icmp .ge 24) 0 := r19 (len := 3) (by decide +kernel) rfl
theorem t19_97 : amTg 97 24 = some 121 := by decide
theorem e19_100 : amT 19 100 101 (.aload_n 0) 0 := r19 (len := 1) (by decide +kernel) rfl
theorem e19_101 : amT 19 101 104 (.getfield 9) 448 := r19 (len := 3) (by decide +kernel) rfl
theorem e19_104 : amT 19 104 106 (.iload 5) 0 := r19 (len := 2) (by decide +kernel) rfl
theorem e19_106 : amT 19 106 107 (.aload_n 0) 0 := r19 (len := 1) (by decide +kernel) rfl
theorem e19_107 : amT 19 107 109 (.iload 5) 0 := r19 (len := 2) (by decide +kernel) rfl
theorem e19_109 : amT 19 109 110 (.iload_n 2) 0 := r19 (len := 1) (by decide +kernel) rfl
theorem e19_110 : amT 19 110 111 (.iadd) 0 := r19 (len := 1) (by decide +kernel) rfl
theorem e19_111 : amT 19 111 114 (.invokevirtual 17) 3 := r19 (len := 3) (by decide +kernel) rfl
theorem e19_114 : amT 19 114 115 (.lastore) 0 := r19 (len := 1) (by decide +kernel) rfl
theorem e19_115 : amT 19 115 118 (.iinc 5 1) 0 := r19 (len := 3) (by decide +kernel) rfl
theorem e19_118 : amT 19 118 121 (.goto (-25)) 0 := r19 (len := 3) (by decide +kernel) rfl
theorem t19_118 : amTg 118 (-25) = some 93 := by decide
theorem e19_121 : amT 19 121 122 (.return_) 0 := r19 (len := 1) (by decide +kernel) rfl
theorem q20 : amCs.getD 20 [] = amC_20 := rfl
theorem r20 {pc pc' len op : Nat} {i : Instr} (h : amC_20.lookup pc = some (i, len, op)) (h2 : pc + len = pc') : amT 20 pc pc' i op := ⟨len, by unfold amEnt; rw [q20]; exact h, h2⟩
theorem e20_0 : amT 20 0 1 (.lconst 0) 0 := r20 (len := 1) (by decide +kernel) rfl
theorem e20_1 : amT 20 1 3 (.lstore 5) 0 := r20 (len := 2) (by decide +kernel) rfl
theorem e20_3 : amT 20 3 4 (.lconst 0) 0 := r20 (len := 1) (by decide +kernel) rfl
theorem e20_4 : amT 20 4 6 (.lstore 7) 0 := r20 (len := 2) (by decide +kernel) rfl
theorem e20_6 : amT 20 6 8 (.bipush 8) 0 := r20 (len := 2) (by decide +kernel) rfl
theorem e20_8 : amT 20 8 10 (.istore 9) 0 := r20 (len := 2) (by decide +kernel) rfl
theorem e20_10 : amT 20 10 12 (.iload 9) 0 := r20 (len := 2) (by decide +kernel) rfl
theorem e20_12 : amT 20 12 15 (.ifCond .lt 54) 0 := r20 (len := 3) (by decide +kernel) rfl
theorem t20_12 : amTg 12 54 = some 66 := by decide
theorem e20_15 : amT 20 15 17 (.lload 7) 0 := r20 (len := 2) (by decide +kernel) rfl
theorem e20_17 : amT 20 17 18 (.lconst 0) 0 := r20 (len := 1) (by decide +kernel) rfl
theorem e20_18 : amT 20 18 19 (.lcmp) 0 := r20 (len := 1) (by decide +kernel) rfl
theorem e20_19 : amT 20 19 22 (.ifCond .ne 18) 0 := r20 (len := 3) (by decide +kernel) rfl
theorem t20_19 : amTg 19 18 = some 37 := by decide
theorem e20_22 : amT 20 22 23 (.aload_n 0) 0 := r20 (len := 1) (by decide +kernel) rfl
theorem e20_23 : amT 20 23 26 (.getfield 9) 448 := r20 (len := 3) (by decide +kernel) rfl
theorem e20_26 : amT 20 26 28 (.iload 9) 0 := r20 (len := 2) (by decide +kernel) rfl
theorem e20_28 : amT 20 28 29 (.laload) 0 := r20 (len := 1) (by decide +kernel) rfl
theorem e20_29 : amT 20 29 30 (.lconst 0) 0 := r20 (len := 1) (by decide +kernel) rfl
theorem e20_30 : amT 20 30 31 (.lcmp) 0 := r20 (len := 1) (by decide +kernel) rfl
theorem e20_31 : amT 20 31 34 (.ifCond .eq 6) 0 := r20 (len := 3) (by decide +kernel) rfl
theorem t20_31 : amTg 31 6 = some 37 := by decide
theorem e20_34 : amT 20 34 35 (.lconst 1) 0 := r20 (len := 1) (by decide +kernel) rfl
theorem e20_35 : amT 20 35 37 (.lstore 7) 0 := r20 (len := 2) (by decide +kernel) rfl
theorem e20_37 : amT 20 37 39 (.lload 5) 0 := r20 (len := 2) (by decide +kernel) rfl
theorem e20_39 : amT 20 39 40 (.lload_n 1) 0 := r20 (len := 1) (by decide +kernel) rfl
theorem e20_40 : amT 20 40 41 (.lmul) 0 := r20 (len := 1) (by decide +kernel) rfl
theorem e20_41 : amT 20 41 42 (.aload_n 0) 0 := r20 (len := 1) (by decide +kernel) rfl
theorem e20_42 : amT 20 42 45 (.getfield 9) 448 := r20 (len := 3) (by decide +kernel) rfl
theorem e20_45 : amT 20 45 47 (.iload 9) 0 := r20 (len := 2) (by decide +kernel) rfl
theorem e20_47 : amT 20 47 48 (.laload) 0 := r20 (len := 1) (by decide +kernel) rfl
theorem e20_48 : amT 20 48 50 (.lload 7) 0 := r20 (len := 2) (by decide +kernel) rfl
theorem e20_50 : amT 20 50 51 (.lmul) 0 := r20 (len := 1) (by decide +kernel) rfl
theorem e20_51 : amT 20 51 52 (.ladd) 0 := r20 (len := 1) (by decide +kernel) rfl
theorem e20_52 : amT 20 52 54 (.lstore 5) 0 := r20 (len := 2) (by decide +kernel) rfl
theorem e20_54 : amT 20 54 56 (.lload 7) 0 := r20 (len := 2) (by decide +kernel) rfl
theorem e20_56 : amT 20 56 57 (.lload_n 3) 0 := r20 (len := 1) (by decide +kernel) rfl
theorem e20_57 : amT 20 57 58 (.lmul) 0 := r20 (len := 1) (by decide +kernel) rfl
theorem e20_58 : amT 20 58 60 (.lstore 7) 0 := r20 (len := 2) (by decide +kernel) rfl
theorem e20_60 : amT 20 60 63 (.iinc 9 (-1)) 0 := r20 (len := 3) (by decide +kernel) rfl
theorem e20_63 : amT 20 63 66 (.goto (-53)) 0 := r20 (len := 3) (by decide +kernel) rfl
theorem t20_63 : amTg 63 (-53) = some 10 := by decide
theorem e20_66 : amT 20 66 68 (.lload 5) 0 := r20 (len := 2) (by decide +kernel) rfl
theorem e20_68 : amT 20 68 69 (.lreturn) 0 := r20 (len := 1) (by decide +kernel) rfl
theorem q21 : amCs.getD 21 [] = amC_21 := rfl
theorem r21 {pc pc' len op : Nat} {i : Instr} (h : amC_21.lookup pc = some (i, len, op)) (h2 : pc + len = pc') : amT 21 pc pc' i op := ⟨len, by unfold amEnt; rw [q21]; exact h, h2⟩
theorem e21_0 : amT 21 0 1 (.aload_n 0) 0 := r21 (len := 1) (by decide +kernel) rfl
theorem e21_1 : amT 21 1 2 (.iload_n 1) 0 := r21 (len := 1) (by decide +kernel) rfl
theorem e21_2 : amT 21 2 3 (.i2l) 0 := r21 (len := 1) (by decide +kernel) rfl
theorem e21_3 : amT 21 3 4 (.iload_n 2) 0 := r21 (len := 1) (by decide +kernel) rfl
theorem e21_4 : amT 21 4 5 (.i2l) 0 := r21 (len := 1) (by decide +kernel) rfl
theorem e21_5 : amT 21 5 8 (.invokevirtual 51) 20 := r21 (len := 3) (by decide +kernel) rfl
theorem e21_8 : amT 21 8 11 (.invokestatic 31) 1 := r21 (len := 3) (by decide +kernel) rfl
theorem e21_11 : amT 21 11 12 (.ireturn) 0 := r21 (len := 1) (by decide +kernel) rfl
theorem q22 : amCs.getD 22 [] = amC_22 := rfl
theorem r22 {pc pc' len op : Nat} {i : Instr} (h : amC_22.lookup pc = some (i, len, op)) (h2 : pc + len = pc') : amT 22 pc pc' i op := ⟨len, by unfold amEnt; rw [q22]; exact h, h2⟩
theorem e22_0 : amT 22 0 1 (.aload_n 0) 0 := r22 (len := 1) (by decide +kernel) rfl
theorem e22_1 : amT 22 1 2 (.aload_n 0) 0 := r22 (len := 1) (by decide +kernel) rfl
theorem e22_2 : amT 22 2 5 (.invokevirtual 13) 5 := r22 (len := 3) (by decide +kernel) rfl
theorem e22_5 : amT 22 5 8 (.invokevirtual 17) 3 := r22 (len := 3) (by decide +kernel) rfl
theorem e22_8 : amT 22 8 11 (.invokestatic 31) 1 := r22 (len := 3) (by decide +kernel) rfl
theorem e22_11 : amT 22 11 12 (.ireturn) 0 := r22 (len := 1) (by decide +kernel) rfl
theorem q23 : amCs.getD 23 [] = amC_23 := rfl
theorem r23 {pc pc' len op : Nat} {i : Instr} (h : amC_23.lookup pc = some (i, len, op)) (h2 : pc + len = pc') : amT 23 pc pc' i op := ⟨len, by unfold amEnt; rw [q23]; exact h, h2⟩
theorem e23_0 : amT 23 0 1 (.aload_n 0) 0 := r23 (len := 1) (by decide +kernel) rfl
theorem e23_1 : amT 23 1 4 (.invokevirtual 13) 5 := r23 (len := 3) (by decide +kernel) rfl
theorem e23_4 : amT 23 4 5 (.istore_n 1) 0 := r23 (len := 1) (by decide +kernel) rfl
theorem e23_5 : amT 23 5 6 (.aload_n 0) 0 := r23 (len := 1) (by decide +kernel) rfl
theorem e23_6 : amT 23 6 7 (.iload_n 1) 0 := r23 (len := 1) (by decide +kernel) rfl
theorem e23_7 : amT 23 7 10 (.invokevirtual 17) 3 := r23 (len := 3) (by decide +kernel) rfl
theorem e23_10 : amT 23 10 13 (.invokestatic 31) 1 := r23 (len := 3) (by decide +kernel) rfl
theorem e23_13 : amT 23 13 14 (.istore_n 2) 0 := r23 (len := 1) (by decide +kernel) rfl
theorem e23_14 : amT 23 14 15 (.iload_n 1) 0 := r23 (len := 1) (by decide +kernel) rfl
theorem e23_15 : amT 23 15 16 (.iconst 2) 0 := r23 (len := 1) (by decide +kernel) rfl
theorem e23_16 : amT 23 16 17 (.irem) 0 := r23 (len := 1) (by decide +kernel) rfl
theorem e23_17 : amT 23 17 20 (.ifCond .ne 7) 0 := r23 (len := 3) (by decide +kernel) rfl
theorem t23_17 : amTg 17 7 = some 24 := by decide
theorem e23_20 : amT 23 20 21 (.iload_n 2) 0 := r23 (len := 1) (by decide +kernel) rfl
theorem e23_21 : amT 23 21 24 (.goto 5) 0 := r23 (len := 3) (by decide +kernel) rfl
theorem t23_21 : amTg 21 5 = some 26 := by decide
theorem e23_24 : amT 23 24 25 (.iload_n 2) 0 := r23 (len := 1) (by decide +kernel) rfl
theorem e23_25 : amT 23 25 26 (.ineg) 0 := r23 (len := 1) (by decide +kernel) rfl
theorem e23_26 : amT 23 26 27 (.ireturn) 0 := r23 (len := 1) (by decide +kernel) rfl
theorem q25 : amCs.getD 25 [] = amC_25 := rfl
theorem r25 {pc pc' len op : Nat} {i : Instr} (h : amC_25.lookup pc = some (i, len, op)) (h2 : pc + len = pc') : amT 25 pc pc' i op := ⟨len, by unfold amEnt; rw [q25]; exact h, h2⟩
theorem e25_0 : amT 25 0 1 (.aload_n 0) 0 := r25 (len := 1) (by decide +kernel) rfl
theorem e25_1 : amT 25 1 4 (.getfield 10) 64 := r25 (len := 3) (by decide +kernel) rfl
theorem e25_4 : amT 25 4 5 (.areturn) 0 := r25 (len := 1) (by decide +kernel) rfl
theorem q26 : amCs.getD 26 [] = amC_26 := rfl
theorem r26 {pc pc' len op : Nat} {i : Instr} (h : amC_26.lookup pc = some (i, len, op)) (h2 : pc + len = pc') : amT 26 pc pc' i op := ⟨len, by unfold amEnt; rw [q26]; exact h, h2⟩
theorem e26_0 : amT 26 0 1 (.aload_n 0) 0 := r26 (len := 1) (by decide +kernel) rfl
theorem e26_1 : amT 26 1 4 (.getfield 10) 64 := r26 (len := 3) (by decide +kernel) rfl
theorem e26_4 : amT 26 4 5 (.aload_n 1) 0 := r26 (len := 1) (by decide +kernel) rfl
theorem e26_5 : amT 26 5 8 (.invokevirtual 22) 8 := r26 (len := 3) (by decide +kernel) rfl
theorem e26_8 : amT 26 8 9 (.aload_n 0) 0 := r26 (len := 1) (by decide +kernel) rfl
theorem e26_9 : amT 26 9 12 (.getfield 16) 65 := r26 (len := 3) (by decide +kernel) rfl
theorem e26_12 : amT 26 12 13 (.aload_n 2) 0 := r26 (len := 1) (by decide +kernel) rfl
theorem e26_13 : amT 26 13 16 (.invokevirtual 22) 8 := r26 (len := 3) (by decide +kernel) rfl
theorem e26_16 : amT 26 16 17 (.aload_n 0) 0 := r26 (len := 1) (by decide +kernel) rfl
theorem e26_17 : amT 26 17 20 (.getfield 10) 64 := r26 (len := 3) (by decide +kernel) rfl
theorem e26_20 : amT 26 20 23 (.invokevirtual 26) 17 := r26 (len := 3) (by decide +kernel) rfl
theorem e26_23 : amT 26 23 26 (.ifCond .eq 17) 0 := r26 (len := 3) (by decide +kernel) rfl
theorem t26_23 : amTg 23 17 = some 40 := by decide
theorem e26_26 : amT 26 26 27 (.aload_n 0) 0 := r26 (len := 1) (by decide +kernel) rfl
theorem e26_27 : amT 26 27 30 (.getfield 16) 65 := r26 (len := 3) (by decide +kernel) rfl
theorem e26_30 : amT 26 30 33 (.invokevirtual 26) 17 := r26 (len := 3) (by decide +kernel) rfl
theorem e26_33 : amT 26 33 36 (.ifCond .eq 7) 0 := r26 (len := 3) (by decide +kernel) rfl
theorem t26_33 : amTg 33 7 = some 40 := by decide
theorem e26_36 : amT 26 36 37 (.iconst 1) 0 := r26 (len := 1) (by decide +kernel) rfl
theorem e26_37 : amT 26 37 40 (.goto 4) 0 := r26 (len := 3) (by decide +kernel) rfl
theorem t26_37 : amTg 37 4 = some 41 := by decide
theorem e26_40 : amT 26 40 41 (.iconst 0) 0 := r26 (len := 1) (by decide +kernel) rfl
theorem e26_41 : amT 26 41 42 (.istore_n 3) 0 := r26 (len := 1) (by decide +kernel) rfl
theorem e26_42 : amT 26 42 43 (.iconst 0) 0 := r26 (len := 1) (by decide +kernel) rfl
theorem e26_43 : amT 26 43 45 (.istore 4) 0 := r26 (len := 2) (by decide +kernel) rfl
theorem e26_45 : amT 26 45 47 (.iload 4) 0 := r26 (len := 2) (by decide +kernel) rfl
theorem e26_47 : amT 26 47 49 (.bipush 27) 0 := r26 (len := 2) (by decide +kernel) rfl
theorem e26_49 : amT 26 49 52 (.if_icmp .ge 55) 0 := r26 (len := 3) (by decide +kernel) rfl
theorem t26_49 : amTg 49 55 = some 104 := by decide
theorem e26_52 : amT 26 52 53 (.iload_n 3) 0 := r26 (len := 1) (by decide +kernel) rfl
theorem e26_53 : amT 26 53 56 (.ifCond .eq 51) 0 := r26 (len := 3) (by decide +kernel) rfl
theorem t26_53 : amTg 53 51 = some 104 := by decide
theorem e26_56 : amT 26 56 57 (.aload_n 0) 0 := r26 (len := 1) (by decide +kernel) rfl
theorem e26_57 : amT 26 57 60 (.getfield 16) 65 := r26 (len := 3) (by decide +kernel) rfl
theorem e26_60 : amT 26 60 63 (.invokevirtual 30) 5 := r26 (len := 3) (by decide +kernel) rfl
theorem e26_63 : amT 26 63 66 (.ifCond .lt 41) 0 := r26 (len := 3) (by decide +kernel) rfl
theorem t26_63 : amTg 63 41 = some 104 := by decide
theorem e26_66 : amT 26 66 67 (.aload_n 0) 0 := r26 (len := 1) (by decide +kernel) rfl
theorem e26_67 : amT 26 67 70 (.getfield 10) 64 := r26 (len := 3) (by decide +kernel) rfl
theorem e26_70 : amT 26 70 71 (.aload_n 0) 0 := r26 (len := 1) (by decide +kernel) rfl
theorem e26_71 : amT 26 71 74 (.getfield 16) 65 := r26 (len := 3) (by decide +kernel) rfl
theorem e26_74 : amT 26 74 77 (.invokevirtual 34) 18 := r26 (len := 3) (by decide +kernel) rfl
theorem e26_77 : amT 26 77 78 (.istore_n 3) 0 := r26 (len := 1) (by decide +kernel) rfl
theorem e26_78 : amT 26 78 79 (.aload_n 0) 0 := r26 (len := 1) (by decide +kernel) rfl
theorem e26_79 : amT 26 79 82 (.getfield 10) 64 := r26 (len := 3) (by decide +kernel) rfl
theorem e26_82 : amT 26 82 84 (.astore 5) 0 := r26 (len := 2) (by decide +kernel) rfl
theorem e26_84 : amT 26 84 85 (.aload_n 0) 0 := r26 (len := 1) (by decide +kernel) rfl
theorem e26_85 : amT 26 85 86 (.aload_n 0) 0 := r26 (len := 1) (by decide +kernel) rfl
theorem e26_86 : amT 26 86 89 (.getfield 16) 65 := r26 (len := 3) (by decide +kernel) rfl
theorem e26_89 : amT 26 89 92 (.putfield 10) 64 := r26 (len := 3) (by decide +kernel) rfl
theorem e26_92 : amT 26 92 93 (.aload_n 0) 0 := r26 (len := 1) (by decide +kernel) rfl
theorem e26_93 : amT 26 93 95 (.aload 5) 0 := r26 (len := 2) (by decide +kernel) rfl
theorem e26_95 : amT 26 95 98 (.putfield 16) 65 := r26 (len := 3) (by decide +kernel) rfl
theorem e26_98 : amT 26 98 101 (.iinc 4 1) 0 := r26 (len := 3) (by decide +kernel) rfl
theorem e26_101 : amT 26 101 104 (.goto (-56)) 0 := r26 (len := 3) (by decide +kernel) rfl
theorem t26_101 : amTg 101 (-56) = some 45 := by decide
theorem e26_104 : amT 26 104 105 (.aload_n 0) 0 := r26 (len := 1) (by decide +kernel) rfl
theorem e26_105 : amT 26 105 108 (.getfield 10) 64 := r26 (len := 3) (by decide +kernel) rfl
theorem e26_108 : amT 26 108 111 (.invokevirtual 38) 13 := r26 (len := 3) (by decide +kernel) rfl
theorem e26_111 : amT 26 111 112 (.iload_n 3) 0 := r26 (len := 1) (by decide +kernel) rfl
theorem e26_112 : amT 26 112 113 (.ireturn) 0 := r26 (len := 1) (by decide +kernel) rfl
theorem q27 : amCs.getD 27 [] = amC_27 := rfl
theorem r27 {pc pc' len op : Nat} {i : Instr} (h : amC_27.lookup pc = some (i, len, op)) (h2 : pc + len = pc') : amT 27 pc pc' i op := ⟨len, by unfold amEnt; rw [q27]; exact h, h2⟩
theorem e27_0 : amT 27 0 1 (.aload_n 2) 0 := r27 (len := 1) (by decide +kernel) rfl
theorem e27_1 : amT 27 1 2 (.aload_n 1) 0 := r27 (len := 1) (by decide +kernel) rfl
theorem e27_2 : amT 27 2 5 (.invokevirtual 22) 8 := r27 (len := 3) (by decide +kernel) rfl
theorem e27_5 : amT 27 5 6 (.aload_n 2) 0 := r27 (len := 1) (by decide +kernel) rfl
theorem e27_6 : amT 27 6 9 (.invokevirtual 26) 17 := r27 (len := 3) (by decide +kernel) rfl
theorem e27_9 : amT 27 9 12 (.ifCond .ne 5) 0 := r27 (len := 3) (by decide +kernel) rfl
theorem t27_9 : amTg 9 5 = some 14 := by decide
theorem e27_12 : amT 27 12 13 (.iconst 0) 0 := r27 (len := 1) (by decide +kernel) rfl
theorem e27_13 : amT 27 13 14 (.ireturn) 0 := r27 (len := 1) (by decide +kernel) rfl
theorem e27_14 : amT 27 14 15 (.aload_n 0) 0 := r27 (len := 1) (by decide +kernel) rfl
theorem e27_15 : amT 27 15 18 (.getfield 19) 66 := r27 (len := 3) (by decide +kernel) rfl
theorem e27_18 : amT 27 18 19 (.aload_n 2) 0 := r27 (len := 1) (by decide +kernel) rfl
theorem e27_19 : amT 27 19 22 (.invokevirtual 22) 8 := r27 (len := 3) (by decide +kernel) rfl
theorem e27_22 : amT 27 22 23 (.aload_n 0) 0 := r27 (len := 1) (by decide +kernel) rfl
theorem e27_23 : amT 27 23 26 (.getfield 19) 66 := r27 (len := 3) (by decide +kernel) rfl
theorem e27_26 : amT 27 26 29 (.invokevirtual 41) 16 := r27 (len := 3) (by decide +kernel) rfl
theorem e27_29 : amT 27 29 30 (.aload_n 0) 0 := r27 (len := 1) (by decide +kernel) rfl
theorem e27_30 : amT 27 30 33 (.getfield 19) 66 := r27 (len := 3) (by decide +kernel) rfl
theorem e27_33 : amT 27 33 36 (.invokevirtual 30) 5 := r27 (len := 3) (by decide +kernel) rfl
theorem e27_36 : amT 27 36 39 (.ifCond .lt 25) 0 := r27 (len := 3) (by decide +kernel) rfl
theorem t27_36 : amTg 36 25 = some 61 := by decide
theorem e27_39 : amT 27 39 40 (.aload_n 0) 0 := r27 (len := 1) (by decide +kernel) rfl
theorem e27_40 : amT 27 40 41 (.aload_n 2) 0 := r27 (len := 1) (by decide +kernel) rfl
theorem e27_41 : amT 27 41 42 (.aload_n 0) 0 := r27 (len := 1) (by decide +kernel) rfl
theorem e27_42 : amT 27 42 45 (.getfield 19) 66 := r27 (len := 3) (by decide +kernel) rfl
theorem e27_45 : amT 27 45 48 (.invokevirtual 44) 26 := r27 (len := 3) (by decide +kernel) rfl
theorem e27_48 : amT 27 48 51 (.ifCond .ne 5) 0 := r27 (len := 3) (by decide +kernel) rfl
theorem t27_48 : amTg 48 5 = some 53 := by decide
theorem e27_51 : amT 27 51 52 (.iconst 0) 0 := r27 (len := 1) (by decide +kernel) rfl
theorem e27_52 : amT 27 52 53 (.ireturn) 0 := r27 (len := 1) (by decide +kernel) rfl
theorem e27_53 : amT 27 53 54 (.aload_n 2) 0 := r27 (len := 1) (by decide +kernel) rfl
theorem e27_54 : amT 27 54 55 (.aload_n 0) 0 := r27 (len := 1) (by decide +kernel) rfl
theorem e27_55 : amT 27 55 58 (.getfield 10) 64 := r27 (len := 3) (by decide +kernel) rfl
theorem e27_58 : amT 27 58 61 (.invokevirtual 48) 19 := r27 (len := 3) (by decide +kernel) rfl
theorem e27_61 : amT 27 61 62 (.aload_n 2) 0 := r27 (len := 1) (by decide +kernel) rfl
theorem e27_62 : amT 27 62 65 (.invokevirtual 38) 13 := r27 (len := 3) (by decide +kernel) rfl
theorem e27_65 : amT 27 65 66 (.aload_n 2) 0 := r27 (len := 1) (by decide +kernel) rfl
theorem e27_66 : amT 27 66 69 (.invokevirtual 26) 17 := r27 (len := 3) (by decide +kernel) rfl
theorem e27_69 : amT 27 69 70 (.ireturn) 0 := r27 (len := 1) (by decide +kernel) rfl
theorem q29 : amCs.getD 29 [] = amC_29 := rfl
theorem r29 {pc pc' len op : Nat} {i : Instr} (h : amC_29.lookup pc = some (i, len, op)) (h2 : pc + len = pc') : amT 29 pc pc' i op := ⟨len, by unfold amEnt; rw [q29]; exact h, h2⟩
theorem e29_0 : amT 29 0 1 (.aload_n 0) 0 := r29 (len := 1) (by decide +kernel) rfl
theorem e29_1 : amT 29 1 2 (.iconst 0) 0 := r29 (len := 1) (by decide +kernel) rfl
theorem e29_2 : amT 29 2 5 (.putfield 20) 3 := r29 (len := 3) (by decide +kernel) rfl
theorem e29_5 : amT 29 5 6 (.aload_n 0) 0 := r29 (len := 1) (by decide +kernel) rfl
theorem e29_6 : amT 29 6 9 (.getfield 30) 2 := r29 (len := 3) (by decide +kernel) rfl
theorem e29_9 : amT 29 9 10 (.aload_n 1) 0 := r29 (len := 1) (by decide +kernel) rfl
theorem e29_10 : amT 29 10 11 (.aload_n 0) 0 := r29 (len := 1) (by decide +kernel) rfl
theorem e29_11 : amT 29 11 14 (.getfield 11) 0 := r29 (len := 3) (by decide +kernel) rfl
theorem e29_14 : amT 29 14 15 (.iconst 0) 0 := r29 (len := 1) (by decide +kernel) rfl
theorem e29_15 : amT 29 15 16 (.aaload) 0 := r29 (len := 1) (by decide +kernel) rfl
theorem e29_16 : amT 29 16 19 (.invokevirtual 34) 27 := r29 (len := 3) (by decide +kernel) rfl
theorem e29_19 : amT 29 19 22 (.ifCond .ne 5) 0 := r29 (len := 3) (by decide +kernel) rfl
theorem t29_19 : amTg 19 5 = some 24 := by decide
theorem e29_22 : amT 29 22 23 (.iconst 0) 0 := r29 (len := 1) (by decide +kernel) rfl
theorem e29_23 : amT 29 23 24 (.ireturn) 0 := r29 (len := 1) (by decide +kernel) rfl
theorem e29_24 : amT 29 24 25 (.aload_n 0) 0 := r29 (len := 1) (by decide +kernel) rfl
theorem e29_25 : amT 29 25 28 (.getfield 11) 0 := r29 (len := 3) (by decide +kernel) rfl
theorem e29_28 : amT 29 28 29 (.iconst 1) 0 := r29 (len := 1) (by decide +kernel) rfl
theorem e29_29 : amT 29 29 30 (.aaload) 0 := r29 (len := 1) (by decide +kernel) rfl
theorem e29_30 : amT 29 30 31 (.aload_n 0) 0 := r29 (len := 1) (by decide +kernel) rfl
theorem e29_31 : amT 29 31 34 (.getfield 11) 0 := r29 (len := 3) (by decide +kernel) rfl
theorem e29_34 : amT 29 34 35 (.iconst 0) 0 := r29 (len := 1) (by decide +kernel) rfl
theorem e29_35 : amT 29 35 36 (.aaload) 0 := r29 (len := 1) (by decide +kernel) rfl
theorem e29_36 : amT 29 36 39 (.invokevirtual 40) 8 := r29 (len := 3) (by decide +kernel) rfl
theorem e29_39 : amT 29 39 40 (.aload_n 0) 0 := r29 (len := 1) (by decide +kernel) rfl
theorem e29_40 : amT 29 40 43 (.getfield 11) 0 := r29 (len := 3) (by decide +kernel) rfl
theorem e29_43 : amT 29 43 44 (.iconst 1) 0 := r29 (len := 1) (by decide +kernel) rfl
theorem e29_44 : amT 29 44 45 (.aaload) 0 := r29 (len := 1) (by decide +kernel) rfl
theorem e29_45 : amT 29 45 48 (.invokevirtual 44) 16 := r29 (len := 3) (by decide +kernel) rfl
theorem e29_48 : amT 29 48 49 (.aload_n 0) 0 := r29 (len := 1) (by decide +kernel) rfl
theorem e29_49 : amT 29 49 52 (.getfield 11) 0 := r29 (len := 3) (by decide +kernel) rfl
theorem e29_52 : amT 29 52 53 (.iconst 1) 0 := r29 (len := 1) (by decide +kernel) rfl
theorem e29_53 : amT 29 53 54 (.aaload) 0 := r29 (len := 1) (by decide +kernel) rfl
theorem e29_54 : amT 29 54 57 (.invokevirtual 47) 17 := r29 (len := 3) (by decide +kernel) rfl
theorem e29_57 : amT 29 57 60 (.ifCond .eq 14) 0 := r29 (len := 3) (by decide +kernel) rfl
theorem t29_57 : amTg 57 14 = some 71 := by decide
theorem e29_60 : amT 29 60 61 (.aload_n 0) 0 := r29 (len := 1) (by decide +kernel) rfl
theorem e29_61 : amT 29 61 64 (.invokevirtual 51) 31 := r29 (len := 3) (by decide +kernel) rfl
theorem e29_64 : amT 29 64 67 (.ifCond .eq 7) 0 := r29 (len := 3) (by decide +kernel) rfl
theorem t29_64 : amTg 64 7 = some 71 := by decide
theorem e29_67 : amT 29 67 68 (.iconst 1) 0 := r29 (len := 1) (by decide +kernel) rfl
theorem e29_68 : amT 29 68 71 (.goto 4) 0 := r29 (len := 3) (by decide +kernel) rfl
theorem t29_68 : amTg 68 4 = some 72 := by decide
theorem e29_71 : amT 29 71 72 (.iconst 0) 0 := r29 (len := 1) (by decide +kernel) rfl
theorem e29_72 : amT 29 72 73 (.ireturn) 0 := r29 (len := 1) (by decide +kernel) rfl
theorem q30 : amCs.getD 30 [] = amC_30 := rfl
theorem r30 {pc pc' len op : Nat} {i : Instr} (h : amC_30.lookup pc = some (i, len, op)) (h2 : pc + len = pc') : amT 30 pc pc' i op := ⟨len, by unfold amEnt; rw [q30]; exact h, h2⟩
theorem e30_0 : amT 30 0 1 (.aload_n 0) 0 := r30 (len := 1) (by decide +kernel) rfl
theorem e30_1 : amT 30 1 2 (.iconst 0) 0 := r30 (len := 1) (by decide +kernel) rfl
theorem e30_2 : amT 30 2 5 (.putfield 20) 3 := r30 (len := 3) (by decide +kernel) rfl
theorem e30_5 : amT 30 5 6 (.aload_n 0) 0 := r30 (len := 1) (by decide +kernel) rfl
theorem e30_6 : amT 30 6 9 (.getfield 30) 2 := r30 (len := 3) (by decide +kernel) rfl
theorem e30_9 : amT 30 9 10 (.aload_n 1) 0 := r30 (len := 1) (by decide +kernel) rfl
theorem e30_10 : amT 30 10 11 (.aload_n 0) 0 := r30 (len := 1) (by decide +kernel) rfl
theorem e30_11 : amT 30 11 14 (.getfield 11) 0 := r30 (len := 3) (by decide +kernel) rfl
theorem e30_14 : amT 30 14 15 (.iconst 0) 0 := r30 (len := 1) (by decide +kernel) rfl
theorem e30_15 : amT 30 15 16 (.aaload) 0 := r30 (len := 1) (by decide +kernel) rfl
theorem e30_16 : amT 30 16 19 (.invokevirtual 34) 27 := r30 (len := 3) (by decide +kernel) rfl
theorem e30_19 : amT 30 19 22 (.ifCond .ne 5) 0 := r30 (len := 3) (by decide +kernel) rfl
theorem t30_19 : amTg 19 5 = some 24 := by decide
theorem e30_22 : amT 30 22 23 (.iconst 0) 0 := r30 (len := 1) (by decide +kernel) rfl
theorem e30_23 : amT 30 23 24 (.ireturn) 0 := r30 (len := 1) (by decide +kernel) rfl
theorem e30_24 : amT 30 24 25 (.aload_n 0) 0 := r30 (len := 1) (by decide +kernel) rfl
theorem e30_25 : amT 30 25 28 (.getfield 16) 1 := r30 (len := 3) (by decide +kernel) rfl
theorem e30_28 : amT 30 28 29 (.aload_n 0) 0 := r30 (len := 1) (by decide +kernel) rfl
theorem e30_29 : amT 30 29 32 (.getfield 11) 0 := r30 (len := 3) (by decide +kernel) rfl
theorem e30_32 : amT 30 32 33 (.iconst 0) 0 := r30 (len := 1) (by decide +kernel) rfl
theorem e30_33 : amT 30 33 34 (.aaload) 0 := r30 (len := 1) (by decide +kernel) rfl
theorem e30_34 : amT 30 34 37 (.invokevirtual 40) 8 := r30 (len := 3) (by decide +kernel) rfl
theorem e30_37 : amT 30 37 38 (.aload_n 0) 0 := r30 (len := 1) (by decide +kernel) rfl
theorem e30_38 : amT 30 38 41 (.getfield 16) 1 := r30 (len := 3) (by decide +kernel) rfl
theorem e30_41 : amT 30 41 44 (.invokevirtual 44) 16 := r30 (len := 3) (by decide +kernel) rfl
theorem e30_44 : amT 30 44 45 (.aload_n 0) 0 := r30 (len := 1) (by decide +kernel) rfl
theorem e30_45 : amT 30 45 48 (.getfield 11) 0 := r30 (len := 3) (by decide +kernel) rfl
theorem e30_48 : amT 30 48 49 (.iconst 1) 0 := r30 (len := 1) (by decide +kernel) rfl
theorem e30_49 : amT 30 49 50 (.aaload) 0 := r30 (len := 1) (by decide +kernel) rfl
theorem e30_50 : amT 30 50 51 (.aload_n 0) 0 := r30 (len := 1) (by decide +kernel) rfl
theorem e30_51 : amT 30 51 54 (.getfield 16) 1 := r30 (len := 3) (by decide +kernel) rfl
theorem e30_54 : amT 30 54 55 (.aload_n 2) 0 := r30 (len := 1) (by decide +kernel) rfl
theorem e30_55 : amT 30 55 58 (.invokevirtual 54) 15 := r30 (len := 3) (by decide +kernel) rfl
theorem e30_58 : amT 30 58 59 (.aload_n 0) 0 := r30 (len := 1) (by decide +kernel) rfl
theorem e30_59 : amT 30 59 62 (.getfield 11) 0 := r30 (len := 3) (by decide +kernel) rfl
theorem e30_62 : amT 30 62 63 (.iconst 1) 0 := r30 (len := 1) (by decide +kernel) rfl
theorem e30_63 : amT 30 63 64 (.aaload) 0 := r30 (len := 1) (by decide +kernel) rfl
theorem e30_64 : amT 30 64 65 (.aload_n 0) 0 := r30 (len := 1) (by decide +kernel) rfl
theorem e30_65 : amT 30 65 68 (.getfield 11) 0 := r30 (len := 3) (by decide +kernel) rfl
theorem e30_68 : amT 30 68 69 (.iconst 0) 0 := r30 (len := 1) (by decide +kernel) rfl
theorem e30_69 : amT 30 69 70 (.aaload) 0 := r30 (len := 1) (by decide +kernel) rfl
theorem e30_70 : amT 30 70 73 (.invokevirtual 58) 18 := r30 (len := 3) (by decide +kernel) rfl
theorem e30_73 : amT 30 73 76 (.ifCond .eq 14) 0 := r30 (len := 3) (by decide +kernel) rfl
theorem t30_73 : amTg 73 14 = some 87 := by decide
theorem e30_76 : amT 30 76 77 (.aload_n 0) 0 := r30 (len := 1) (by decide +kernel) rfl
theorem e30_77 : amT 30 77 80 (.invokevirtual 51) 31 := r30 (len := 3) (by decide +kernel) rfl
theorem e30_80 : amT 30 80 83 (.ifCond .eq 7) 0 := r30 (len := 3) (by decide +kernel) rfl
theorem t30_80 : amTg 80 7 = some 87 := by decide
theorem e30_83 : amT 30 83 84 (.iconst 1) 0 := r30 (len := 1) (by decide +kernel) rfl
theorem e30_84 : amT 30 84 87 (.goto 4) 0 := r30 (len := 3) (by decide +kernel) rfl
theorem t30_84 : amTg 84 4 = some 88 := by decide
theorem e30_87 : amT 30 87 88 (.iconst 0) 0 := r30 (len := 1) (by decide +kernel) rfl
theorem e30_88 : amT 30 88 89 (.ireturn) 0 := r30 (len := 1) (by decide +kernel) rfl
theorem q31 : amCs.getD 31 [] = amC_31 := rfl
theorem r31 {pc pc' len op : Nat} {i : Instr} (h : amC_31.lookup pc = some (i, len, op)) (h2 : pc + len = pc') : amT 31 pc pc' i op := ⟨len, by unfold amEnt; rw [q31]; exact h, h2⟩
theorem e31_0 : amT 31 0 1 (.aload_n 0) 0 := r31 (len := 1) (by decide +kernel) rfl
theorem e31_1 : amT 31 1 2 (.iconst 1) 0 := r31 (len := 1) (by decide +kernel) rfl
theorem e31_2 : amT 31 2 5 (.putfield 20) 3 := r31 (len := 3) (by decide +kernel) rfl
theorem e31_5 : amT 31 5 6 (.iconst 1) 0 := r31 (len := 1) (by decide +kernel) rfl
theorem e31_6 : amT 31 6 7 (.istore_n 1) 0 := r31 (len := 1) (by decide +kernel) rfl
theorem e31_7 : amT 31 7 8 (.iload_n 1) 0 := r31 (len := 1) (by decide +kernel) rfl
theorem e31_8 : amT 31 8 11 (.ifCond .eq 108) 0 := r31 (len := 3) (by decide +kernel) rfl
theorem t31_8 : amTg 8 108 = some 116 := by decide
theorem e31_11 : amT 31 11 12 (.aload_n 0) 0 := r31 (len := 1) (by decide +kernel) rfl
theorem e31_12 : amT 31 12 15 (.getfield 20) 3 := r31 (len := 3) (by decide +kernel) rfl
theorem e31_15 : amT 31 15 17 (.bipush 10) 0 := r31 (len := 2) (by decide +kernel) rfl
theorem e31_17 : amT 31 17 20 (.if_icmp .ge 99) 0 := r31 (len := 3) (by decide +kernel) rfl
theorem t31_17 : amTg 17 99 = some 116 := by decide
theorem e31_20 : amT 31 20 21 (.aload_n 0) 0 := r31 (len := 1) (by decide +kernel) rfl
theorem e31_21 : amT 31 21 24 (.getfield 11) 0 := r31 (len := 3) (by decide +kernel) rfl
theorem e31_24 : amT 31 24 25 (.aload_n 0) 0 := r31 (len := 1) (by decide +kernel) rfl
theorem e31_25 : amT 31 25 28 (.getfield 20) 3 := r31 (len := 3) (by decide +kernel) rfl
theorem e31_28 : amT 31 28 29 (.aaload) 0 := r31 (len := 1) (by decide +kernel) rfl
theorem e31_29 : amT 31 29 32 (.invokevirtual 62) 5 := r31 (len := 3) (by decide +kernel) rfl
theorem e31_32 : amT 31 32 35 (.ifCond .lt 84) 0 := r31 (len := 3) (by decide +kernel) rfl
theorem t31_32 : amTg 32 84 = some 116 := by decide
theorem e31_35 : amT 31 35 36 (.aload_n 0) 0 := r31 (len := 1) (by decide +kernel) rfl
theorem e31_36 : amT 31 36 37 (.dup) 0 := r31 (len := 1) (by decide +kernel) rfl
theorem e31_37 : amT 31 37 40 (.getfield 20) 3 := r31 (len := 3) (by decide +kernel) rfl
theorem e31_40 : amT 31 40 41 (.iconst 1) 0 := r31 (len := 1) (by decide +kernel) rfl
theorem e31_41 : amT 31 41 42 (.iadd) 0 := r31 (len := 1) (by decide +kernel) rfl
theorem e31_42 : amT 31 42 45 (.putfield 20) 3 := r31 (len := 3) (by decide +kernel) rfl
theorem e31_45 : amT 31 45 46 (.aload_n 0) 0 := r31 (len := 1) (by decide +kernel) rfl
theorem e31_46 : amT 31 46 49 (.getfield 20) 3 := r31 (len := 3) (by decide +kernel) rfl
theorem e31_49 : amT 31 49 51 (.bipush 10) 0 := r31 (len := 2) (by decide +kernel) rfl
theorem e31_51 : amT 31 51 54 (.if_icmp .ge (-44)) 0 := r31 (len := 3) (by decide +kernel) rfl
theorem t31_51 : amTg 51 (-44) = some 7 := by decide
theorem e31_54 : amT 31 54 55 (.aload_n 0) 0 := r31 (len := 1) (by decide +kernel) rfl
theorem e31_55 : amT 31 55 58 (.getfield 11) 0 := r31 (len := 3) (by decide +kernel) rfl
theorem e31_58 : amT 31 58 59 (.aload_n 0) 0 := r31 (len := 1) (by decide +kernel) rfl
theorem e31_59 : amT 31 59 62 (.getfield 20) 3 := r31 (len := 3) (by decide +kernel) rfl
theorem e31_62 : amT 31 62 63 (.aaload) 0 := r31 (len := 1) (by decide +kernel) rfl
theorem e31_63 : amT 31 63 64 (.aload_n 0) 0 := r31 (len := 1) (by decide +kernel) rfl
theorem e31_64 : amT 31 64 67 (.getfield 11) 0 := r31 (len := 3) (by decide +kernel) rfl
theorem e31_67 : amT 31 67 68 (.aload_n 0) 0 := r31 (len := 1) (by decide +kernel) rfl
theorem e31_68 : amT 31 68 71 (.getfield 20) 3 := r31 (len := 3) (by decide +kernel) rfl
theorem e31_71 : amT 31 71 72 (.iconst 2) 0 := r31 (len := 1) (by decide +kernel) rfl
theorem e31_72 : amT 31 72 73 (.isub) 0 := r31 (len := 1) (by decide +kernel) rfl
theorem e31_73 : amT 31 73 74 (.aaload) 0 := r31 (len := 1) (by decide +kernel) rfl
theorem e31_74 : amT 31 74 77 (.invokevirtual 40) 8 := r31 (len := 3) (by decide +kernel) rfl
theorem e31_77 : amT 31 77 78 (.aload_n 0) 0 := r31 (len := 1) (by decide +kernel) rfl
theorem e31_78 : amT 31 78 81 (.getfield 11) 0 := r31 (len := 3) (by decide +kernel) rfl
theorem e31_81 : amT 31 81 82 (.aload_n 0) 0 := r31 (len := 1) (by decide +kernel) rfl
theorem e31_82 : amT 31 82 85 (.getfield 20) 3 := r31 (len := 3) (by decide +kernel) rfl
theorem e31_85 : amT 31 85 86 (.aaload) 0 := r31 (len := 1) (by decide +kernel) rfl
theorem e31_86 : amT 31 86 87 (.aload_n 0) 0 := r31 (len := 1) (by decide +kernel) rfl
theorem e31_87 : amT 31 87 90 (.getfield 11) 0 := r31 (len := 3) (by decide +kernel) rfl
theorem e31_90 : amT 31 90 91 (.aload_n 0) 0 := r31 (len := 1) (by decide +kernel) rfl
theorem e31_91 : amT 31 91 94 (.getfield 20) 3 := r31 (len := 3) (by decide +kernel) rfl
theorem e31_94 : amT 31 94 95 (.iconst 1) 0 := r31 (len := 1) (by decide +kernel) rfl
theorem e31_95 : amT 31 95 96 (.isub) 0 := r31 (len := 1) (by decide +kernel) rfl
theorem e31_96 : amT 31 96 97 (.aaload) 0 := r31 (len := 1) (by decide +kernel) rfl
theorem e31_97 : amT 31 97 100 (.invokevirtual 58) 18 := r31 (len := 3) (by decide +kernel) rfl
theorem e31_100 : amT 31 100 101 (.istore_n 1) 0 := r31 (len := 1) (by decide +kernel) rfl
theorem e31_101 : amT 31 101 102 (.aload_n 0) 0 := r31 (len := 1) (by decide +kernel) rfl
theorem e31_102 : amT 31 102 105 (.getfield 11) 0 := r31 (len := 3) (by decide +kernel) rfl
theorem e31_105 : amT 31 105 106 (.aload_n 0) 0 := r31 (len := 1) (by decide +kernel) rfl
theorem e31_106 : amT 31 106 109 (.getfield 20) 3 := r31 (len := 3) (by decide +kernel) rfl
theorem e31_109 : amT 31 109 110 (.aaload) 0 := r31 (len := 1) (by decide +kernel) rfl
theorem e31_110 : amT 31 110 113 (.invokevirtual 66) 12 := r31 (len := 3) (by decide +kernel) rfl
theorem e31_113 : amT 31 113 116 (.goto (-106)) 0 := r31 (len := 3) (by decide +kernel) rfl
theorem t31_113 : amTg 113 (-106) = some 7 := by decide
theorem e31_116 : amT 31 116 117 (.aload_n 0) 0 := r31 (len := 1) (by decide +kernel) rfl
theorem e31_117 : amT 31 117 118 (.aload_n 0) 0 := r31 (len := 1) (by decide +kernel) rfl
theorem e31_118 : amT 31 118 121 (.invokevirtual 69) 35 := r31 (len := 3) (by decide +kernel) rfl
theorem e31_121 : amT 31 121 124 (.putfield 24) 4 := r31 (len := 3) (by decide +kernel) rfl
theorem e31_124 : amT 31 124 125 (.aload_n 0) 0 := r31 (len := 1) (by decide +kernel) rfl
theorem e31_125 : amT 31 125 126 (.aload_n 0) 0 := r31 (len := 1) (by decide +kernel) rfl
theorem e31_126 : amT 31 126 129 (.invokevirtual 72) 36 := r31 (len := 3) (by decide +kernel) rfl
theorem e31_129 : amT 31 129 132 (.putfield 27) 5 := r31 (len := 3) (by decide +kernel) rfl
theorem e31_132 : amT 31 132 133 (.iload_n 1) 0 := r31 (len := 1) (by decide +kernel) rfl
theorem e31_133 : amT 31 133 134 (.ireturn) 0 := r31 (len := 1) (by decide +kernel) rfl
theorem q32 : amCs.getD 32 [] = amC_32 := rfl
theorem r32 {pc pc' len op : Nat} {i : Instr} (h : amC_32.lookup pc = some (i, len, op)) (h2 : pc + len = pc') : amT 32 pc pc' i op := ⟨len, by unfold amEnt; rw [q32]; exact h, h2⟩
theorem e32_0 : amT 32 0 1 (.aload_n 0) 0 := r32 (len := 1) (by decide +kernel) rfl
theorem e32_1 : amT 32 1 4 (.getfield 20) 3 := r32 (len := 3) (by decide +kernel) rfl
theorem e32_4 : amT 32 4 5 (.ireturn) 0 := r32 (len := 1) (by decide +kernel) rfl
theorem q33 : amCs.getD 33 [] = amC_33 := rfl
theorem r33 {pc pc' len op : Nat} {i : Instr} (h : amC_33.lookup pc = some (i, len, op)) (h2 : pc + len = pc') : amT 33 pc pc' i op := ⟨len, by unfold amEnt; rw [q33]; exact h, h2⟩
theorem e33_0 : amT 33 0 1 (.iload_n 1) 0 := r33 (len := 1) (by decide +kernel) rfl
theorem e33_1 : amT 33 1 4 (.ifCond .lt 26) 0 := r33 (len := 3) (by decide +kernel) rfl
theorem t33_1 : amTg 1 26 = some 27 := by decide
theorem e33_4 : amT 33 4 5 (.iload_n 1) 0 := r33 (len := 1) (by decide +kernel) rfl
theorem e33_5 : amT 33 5 6 (.aload_n 0) 0 := r33 (len := 1) (by decide +kernel) rfl
theorem e33_6 : amT 33 6 9 (.getfield 20) 3 := r33 (len := 3) (by decide +kernel) rfl
theorem e33_9 : amT 33 9 12 (.if_icmp .ge 18) 0 := r33 (len := 3) (by decide +kernel) rfl
theorem t33_9 : amTg 9 18 = some 27 := by decide
theorem e33_12 : amT 33 12 13 (.iload_n 1) 0 := r33 (len := 1) (by decide +kernel) rfl
theorem e33_13 : amT 33 13 15 (.bipush 10) 0 := r33 (len := 2) (by decide +kernel) rfl
theorem e33_15 : amT 33 15 18 (.if_icmp .ge 12) 0 := r33 (len := 3) (by decide +kernel) rfl
theorem t33_15 : amTg 15 12 = some 27 := by decide
theorem e33_18 : amT 33 18 19 (.aload_n 0) 0 := r33 (len := 1) (by decide +kernel) rfl
theorem e33_19 : amT 33 19 22 (.getfield 11) 0 := r33 (len := 3) (by decide +kernel) rfl
theorem e33_22 : amT 33 22 23 (.iload_n 1) 0 := r33 (len := 1) (by decide +kernel) rfl
theorem e33_23 : amT 33 23 24 (.aaload) 0 := r33 (len := 1) (by decide +kernel) rfl
theorem e33_24 : amT 33 24 27 (.goto 4) 0 := r33 (len := 3) (by decide +kernel) rfl
theorem t33_24 : amTg 24 4 = some 28 := by decide
theorem e33_27 : amT 33 27 28 (.aconst_null) 0 := r33 (len := 1) (by decide +kernel) rfl
theorem e33_28 : amT 33 28 29 (.areturn) 0 := r33 (len := 1) (by decide +kernel) rfl
theorem q34 : amCs.getD 34 [] = amC_34 := rfl
theorem r34 {pc pc' len op : Nat} {i : Instr} (h : amC_34.lookup pc = some (i, len, op)) (h2 : pc + len = pc') : amT 34 pc pc' i op := ⟨len, by unfold amEnt; rw [q34]; exact h, h2⟩
theorem e34_0 : amT 34 0 1 (.iconst 0) 0 := r34 (len := 1) (by decide +kernel) rfl
theorem e34_1 : amT 34 1 2 (.istore_n 3) 0 := r34 (len := 1) (by decide +kernel) rfl
theorem e34_2 : amT 34 2 3 (.iconst 0) 0 := r34 (len := 1) (by decide +kernel) rfl
theorem e34_3 : amT 34 3 5 (.istore 4) 0 := r34 (len := 2) (by decide +kernel) rfl
theorem e34_5 : amT 34 5 6 (.iconst 0) 0 := r34 (len := 1) (by decide +kernel) rfl
theorem e34_6 : amT 34 6 8 (.istore 5) 0 := r34 (len := 2) (by decide +kernel) rfl
theorem e34_8 : amT 34 8 10 (.iload 5) 0 := r34 (len := 2) (by decide +kernel) rfl
theorem e34_10 : amT 34 10 11 (.aload_n 0) 0 := r34 (len := 1) (by decide +kernel) rfl
theorem e34_11 : amT 34 11 14 (.getfield 20) 3 := r34 (len := 3) (by decide +kernel) rfl
theorem e34_14 : amT 34 14 17 (.if_icmp .ge 43) 0 := r34 (len := 3) (by decide +kernel) rfl
theorem t34_14 : amTg 14 43 = some 57 := by decide
theorem e34_17 : amT 34 17 18 (.aload_n 0) 0 := r34 (len := 1) (by decide +kernel) rfl
theorem e34_18 : amT 34 18 21 (.getfield 11) 0 := r34 (len := 3) (by decide +kernel) rfl
theorem e34_21 : amT 34 21 23 (.iload 5) 0 := r34 (len := 2) (by decide +kernel) rfl
theorem e34_23 : amT 34 23 24 (.aaload) 0 := r34 (len := 1) (by decide +kernel) rfl
theorem e34_24 : amT 34 24 25 (.iload_n 1) 0 := r34 (len := 1) (by decide +kernel) rfl
theorem e34_25 : amT 34 25 26 (.iload_n 2) 0 := r34 (len := 1) (by decide +kernel) rfl
theorem e34_26 : amT 34 26 29 (.invokevirtual 75) 21 := r34 (len := 3) (by decide +kernel) rfl
theorem e34_29 : amT 34 29 31 (.istore 6) 0 := r34 (len := 2) (by decide +kernel) rfl
theorem e34_31 : amT 34 31 33 (.iload 6) 0 := r34 (len := 2) (by decide +kernel) rfl
theorem e34_33 : amT 34 33 35 (.iload 4) 0 := r34 (len := 2) (by decide +kernel) rfl
theorem e34_35 : amT 34 35 36 (.imul) 0 := r34 (len := 1) (by decide +kernel) rfl
theorem e34_36 : amT 34 36 39 (.ifCond .ge 6) 0 := r34 (len := 3) (by decide +kernel) rfl
theorem t34_36 : amTg 36 6 = some 42 := by decide
theorem e34_39 : amT 34 39 42 (.iinc 3 1) 0 := r34 (len := 3) (by decide +kernel) rfl
theorem e34_42 : amT 34 42 44 (.iload 6) 0 := r34 (len := 2) (by decide +kernel) rfl
theorem e34_44 : amT 34 44 47 (.ifCond .eq 7) 0 := r34 (len := 3) (by decide +kernel) rfl
theorem t34_44 : amTg 44 7 = some 51 := by decide
theorem e34_47 : amT 34 47 49 (.iload 6) 0 := r34 (len := 2) (by decide +kernel) rfl
theorem e34_49 : amT 34 49 51 (.istore 4) 0 := r34 (len := 2) (by decide +kernel) rfl
theorem e34_51 : amT 34 51 54 (.iinc 5 1) 0 := r34 (len := 3) (by decide +kernel) rfl
theorem e34_54 : amT 34 54 57 (.goto (-46)) 0 := r34 (len := 3) (by decide +kernel) rfl
theorem t34_54 : amTg 54 (-46) = some 8 := by decide
theorem e34_57 : amT 34 57 58 (.iload_n 3) 0 := r34 (len := 1) (by decide +kernel) rfl
theorem e34_58 : amT 34 58 59 (.ireturn) 0 := r34 (len := 1) (by decide +kernel) rfl
theorem q35 : amCs.getD 35 [] = amC_35 := rfl
theorem r35 {pc pc' len op : Nat} {i : Instr} (h : amC_35.lookup pc = some (i, len, op)) (h2 : pc + len = pc') : amT 35 pc pc' i op := ⟨len, by unfold amEnt; rw [q35]; exact h, h2⟩
theorem e35_0 : amT 35 0 1 (.iconst 0) 0 := r35 (len := 1) (by decide +kernel) rfl
theorem e35_1 : amT 35 1 2 (.istore_n 1) 0 := r35 (len := 1) (by decide +kernel) rfl
theorem e35_2 : amT 35 2 3 (.iconst 1) 0 := r35 (len := 1) (by decide +kernel) rfl
theorem e35_3 : amT 35 3 4 (.istore_n 2) 0 := r35 (len := 1) (by decide +kernel) rfl
theorem e35_4 : amT 35 4 5 (.iload_n 2) 0 := r35 (len := 1) (by decide +kernel) rfl
theorem e35_5 : amT 35 5 6 (.aload_n 0) 0 := r35 (len := 1) (by decide +kernel) rfl
theorem e35_6 : amT 35 6 9 (.getfield 20) 3 := r35 (len := 3) (by decide +kernel) rfl
theorem e35_9 : amT 35 9 12 (.if_icmp .ge 35) 0 := r35 (len := 3) (by decide +kernel) rfl
theorem t35_9 : amTg 9 35 = some 44 := by decide
theorem e35_12 : amT 35 12 13 (.aload_n 0) 0 := r35 (len := 1) (by decide +kernel) rfl
theorem e35_13 : amT 35 13 16 (.getfield 11) 0 := r35 (len := 3) (by decide +kernel) rfl
theorem e35_16 : amT 35 16 17 (.iload_n 2) 0 := r35 (len := 1) (by decide +kernel) rfl
theorem e35_17 : amT 35 17 18 (.iconst 1) 0 := r35 (len := 1) (by decide +kernel) rfl
theorem e35_18 : amT 35 18 19 (.isub) 0 := r35 (len := 1) (by decide +kernel) rfl
theorem e35_19 : amT 35 19 20 (.aaload) 0 := r35 (len := 1) (by decide +kernel) rfl
theorem e35_20 : amT 35 20 23 (.invokevirtual 79) 23 := r35 (len := 3) (by decide +kernel) rfl
theorem e35_23 : amT 35 23 24 (.aload_n 0) 0 := r35 (len := 1) (by decide +kernel) rfl
theorem e35_24 : amT 35 24 27 (.getfield 11) 0 := r35 (len := 3) (by decide +kernel) rfl
theorem e35_27 : amT 35 27 28 (.iload_n 2) 0 := r35 (len := 1) (by decide +kernel) rfl
theorem e35_28 : amT 35 28 29 (.aaload) 0 := r35 (len := 1) (by decide +kernel) rfl
theorem e35_29 : amT 35 29 32 (.invokevirtual 79) 23 := r35 (len := 3) (by decide +kernel) rfl
theorem e35_32 : amT 35 32 35 (.if_icmp .eq 6) 0 := r35 (len := 3) (by decide +kernel) rfl
theorem t35_32 : amTg 32 6 = some 38 := by decide
theorem e35_35 : amT 35 35 38 (.iinc 1 1) 0 := r35 (len := 3) (by decide +kernel) rfl
theorem e35_38 : amT 35 38 41 (.iinc 2 1) 0 := r35 (len := 3) (by decide +kernel) rfl
theorem e35_41 : amT 35 41 44 (.goto (-37)) 0 := r35 (len := 3) (by decide +kernel) rfl
theorem t35_41 : amTg 41 (-37) = some 4 := by decide
theorem e35_44 : amT 35 44 45 (.iload_n 1) 0 := r35 (len := 1) (by decide +kernel) rfl
theorem e35_45 : amT 35 45 46 (.ireturn) 0 := r35 (len := 1) (by decide +kernel) rfl
theorem q36 : amCs.getD 36 [] = amC_36 := rfl
theorem r36 {pc pc' len op : Nat} {i : Instr} (h : amC_36.lookup pc = some (i, len, op)) (h2 : pc + len = pc') : amT 36 pc pc' i op := ⟨len, by unfold amEnt; rw [q36]; exact h, h2⟩
theorem e36_0 : amT 36 0 1 (.iconst 0) 0 := r36 (len := 1) (by decide +kernel) rfl
theorem e36_1 : amT 36 1 2 (.istore_n 1) 0 := r36 (len := 1) (by decide +kernel) rfl
theorem e36_2 : amT 36 2 3 (.iconst 1) 0 := r36 (len := 1) (by decide +kernel) rfl
theorem e36_3 : amT 36 3 4 (.istore_n 2) 0 := r36 (len := 1) (by decide +kernel) rfl
theorem e36_4 : amT 36 4 5 (.iload_n 2) 0 := r36 (len := 1) (by decide +kernel) rfl
theorem e36_5 : amT 36 5 6 (.aload_n 0) 0 := r36 (len := 1) (by decide +kernel) rfl
theorem e36_6 : amT 36 6 9 (.getfield 20) 3 := r36 (len := 3) (by decide +kernel) rfl
theorem e36_9 : amT 36 9 12 (.if_icmp .ge 35) 0 := r36 (len := 3) (by decide +kernel) rfl
theorem t36_9 : amTg 9 35 = some 44 := by decide
theorem e36_12 : amT 36 12 13 (.aload_n 0) 0 := r36 (len := 1) (by decide +kernel) rfl
theorem e36_13 : amT 36 13 16 (.getfield 11) 0 := r36 (len := 3) (by decide +kernel) rfl
theorem e36_16 : amT 36 16 17 (.iload_n 2) 0 := r36 (len := 1) (by decide +kernel) rfl
theorem e36_17 : amT 36 17 18 (.iconst 1) 0 := r36 (len := 1) (by decide +kernel) rfl
theorem e36_18 : amT 36 18 19 (.isub) 0 := r36 (len := 1) (by decide +kernel) rfl
theorem e36_19 : amT 36 19 20 (.aaload) 0 := r36 (len := 1) (by decide +kernel) rfl
theorem e36_20 : amT 36 20 23 (.invokevirtual 82) 22 := r36 (len := 3) (by decide +kernel) rfl
theorem e36_23 : amT 36 23 24 (.aload_n 0) 0 := r36 (len := 1) (by decide +kernel) rfl
theorem e36_24 : amT 36 24 27 (.getfield 11) 0 := r36 (len := 3) (by decide +kernel) rfl
theorem e36_27 : amT 36 27 28 (.iload_n 2) 0 := r36 (len := 1) (by decide +kernel) rfl
theorem e36_28 : amT 36 28 29 (.aaload) 0 := r36 (len := 1) (by decide +kernel) rfl
theorem e36_29 : amT 36 29 32 (.invokevirtual 82) 22 := r36 (len := 3) (by decide +kernel) rfl
theorem e36_32 : amT 36 32 35 (.if_icmp .eq 6) 0 := r36 (len := 3) (by decide +kernel) rfl
theorem t36_32 : amTg 32 6 = some 38 := by decide
theorem e36_35 : amT 36 35 38 (.iinc 1 1) 0 := r36 (len := 3) (by decide +kernel) rfl
theorem e36_38 : amT 36 38 41 (.iinc 2 1) 0 := r36 (len := 3) (by decide +kernel) rfl
theorem e36_41 : amT 36 41 44 (.goto (-37)) 0 := r36 (len := 3) (by decide +kernel) rfl
theorem t36_41 : amTg 41 (-37) = some 4 := by decide
theorem e36_44 : amT 36 44 45 (.iload_n 1) 0 := r36 (len := 1) (by decide +kernel) rfl
theorem e36_45 : amT 36 45 46 (.ireturn) 0 := r36 (len := 1) (by decide +kernel) rfl
theorem q37 : amCs.getD 37 [] = amC_37 := rfl
theorem r37 {pc pc' len op : Nat} {i : Instr} (h : amC_37.lookup pc = some (i, len, op)) (h2 : pc + len = pc') : amT 37 pc pc' i op := ⟨len, by unfold amEnt; rw [q37]; exact h, h2⟩
theorem e37_0 : amT 37 0 1 (.aload_n 0) 0 := r37 (len := 1) (by decide +kernel) rfl
theorem e37_1 : amT 37 1 4 (.getfield 24) 4 := r37 (len := 3) (by decide +kernel) rfl
theorem e37_4 : amT 37 4 5 (.ireturn) 0 := r37 (len := 1) (by decide +kernel) rfl
theorem q38 : amCs.getD 38 [] = amC_38 := rfl
theorem r38 {pc pc' len op : Nat} {i : Instr} (h : amC_38.lookup pc = some (i, len, op)) (h2 : pc + len = pc') : amT 38 pc pc' i op := ⟨len, by unfold amEnt; rw [q38]; exact h, h2⟩
theorem e38_0 : amT 38 0 1 (.aload_n 0) 0 := r38 (len := 1) (by decide +kernel) rfl
theorem e38_1 : amT 38 1 4 (.getfield 27) 5 := r38 (len := 3) (by decide +kernel) rfl
theorem e38_4 : amT 38 4 5 (.ireturn) 0 := r38 (len := 1) (by decide +kernel) rfl
theorem q39 : amCs.getD 39 [] = amC_39 := rfl
theorem r39 {pc pc' len op : Nat} {i : Instr} (h : amC_39.lookup pc = some (i, len, op)) (h2 : pc + len = pc') : amT 39 pc pc' i op := ⟨len, by unfold amEnt; rw [q39]; exact h, h2⟩
theorem e39_0 : amT 39 0 1 (.aload_n 0) 0 := r39 (len := 1) (by decide +kernel) rfl
theorem e39_1 : amT 39 1 4 (.getfield 24) 4 := r39 (len := 3) (by decide +kernel) rfl
theorem e39_4 : amT 39 4 5 (.aload_n 0) 0 := r39 (len := 1) (by decide +kernel) rfl
theorem e39_5 : amT 39 5 8 (.getfield 27) 5 := r39 (len := 3) (by decide +kernel) rfl
theorem e39_8 : amT 39 8 9 (.isub) 0 := r39 (len := 1) (by decide +kernel) rfl
theorem e39_9 : amT 39 9 10 (.ireturn) 0 := r39 (len := 1) (by decide +kernel) rfl
theorem q40 : amCs.getD 40 [] = amC_40 := rfl
theorem r40 {pc pc' len op : Nat} {i : Instr} (h : amC_40.lookup pc = some (i, len, op)) (h2 : pc + len = pc') : amT 40 pc pc' i op := ⟨len, by unfold amEnt; rw [q40]; exact h, h2⟩
theorem e40_0 : amT 40 0 1 (.iload_n 1) 0 := r40 (len := 1) (by decide +kernel) rfl
theorem e40_1 : amT 40 1 4 (.ifCond .lt 15) 0 := r40 (len := 3) (by decide +kernel) rfl
theorem t40_1 : amTg 1 15 = some 16 := by decide
theorem e40_4 : amT 40 4 5 (.iload_n 1) 0 := r40 (len := 1) (by decide +kernel) rfl
theorem e40_5 : amT 40 5 6 (.aload_n 0) 0 := r40 (len := 1) (by decide +kernel) rfl
theorem e40_6 : amT 40 6 9 (.invokevirtual 85) 39 := r40 (len := 3) (by decide +kernel) rfl
theorem e40_9 : amT 40 9 12 (.if_icmp .ge 7) 0 := r40 (len := 3) (by decide +kernel) rfl
theorem t40_9 : amTg 9 7 = some 16 := by decide
theorem e40_12 : amT 40 12 13 (.iconst 1) 0 := r40 (len := 1) (by decide +kernel) rfl
theorem e40_13 : amT 40 13 16 (.goto 4) 0 := r40 (len := 3) (by decide +kernel) rfl
theorem t40_13 : amTg 13 4 = some 17 := by decide
theorem e40_16 : amT 40 16 17 (.iconst 0) 0 := r40 (len := 1) (by decide +kernel) rfl
theorem e40_17 : amT 40 17 18 (.ireturn) 0 := r40 (len := 1) (by decide +kernel) rfl
theorem q41 : amCs.getD 41 [] = amC_41 := rfl
theorem r41 {pc pc' len op : Nat} {i : Instr} (h : amC_41.lookup pc = some (i, len, op)) (h2 : pc + len = pc') : amT 41 pc pc' i op := ⟨len, by unfold amEnt; rw [q41]; exact h, h2⟩
theorem e41_0 : amT 41 0 1 (.aload_n 0) 0 := r41 (len := 1) (by decide +kernel) rfl
theorem e41_1 : amT 41 1 4 (.getfield 24) 4 := r41 (len := 3) (by decide +kernel) rfl
theorem e41_4 : amT 41 4 5 (.aload_n 0) 0 := r41 (len := 1) (by decide +kernel) rfl
theorem e41_5 : amT 41 5 6 (.iload_n 1) 0 := r41 (len := 1) (by decide +kernel) rfl
theorem e41_6 : amT 41 6 7 (.iload_n 2) 0 := r41 (len := 1) (by decide +kernel) rfl
theorem e41_7 : amT 41 7 10 (.invokevirtual 88) 34 := r41 (len := 3) (by decide +kernel) rfl
theorem e41_10 : amT 41 10 11 (.isub) 0 := r41 (len := 1) (by decide +kernel) rfl
theorem e41_11 : amT 41 11 12 (.ireturn) 0 := r41 (len := 1) (by decide +kernel) rfl
theorem q42 : amCs.getD 42 [] = amC_42 := rfl
theorem r42 {pc pc' len op : Nat} {i : Instr} (h : amC_42.lookup pc = some (i, len, op)) (h2 : pc + len = pc') : amT 42 pc pc' i op := ⟨len, by unfold amEnt; rw [q42]; exact h, h2⟩
theorem e42_0 : amT 42 0 1 (.iconst 1) 0 := r42 (len := 1) (by decide +kernel) rfl
theorem e42_1 : amT 42 1 2 (.istore_n 1) 0 := r42 (len := 1) (by decide +kernel) rfl
theorem e42_2 : amT 42 2 3 (.iload_n 1) 0 := r42 (len := 1) (by decide +kernel) rfl
theorem e42_3 : amT 42 3 6 (.sipush 512) 0 := r42 (len := 3) (by decide +kernel) rfl
theorem e42_6 : amT 42 6 9 (.if_icmp .gt 39) 0 := r42 (len := 3) (by decide +kernel) rfl
theorem t42_6 : amTg 6 39 = some 45 := by decide
theorem e42_9 : amT 42 9 10 (.aload_n 0) 0 := r42 (len := 1) (by decide +kernel) rfl
theorem e42_10 : amT 42 10 11 (.iload_n 1) 0 := r42 (len := 1) (by decide +kernel) rfl
theorem e42_11 : amT 42 11 12 (.ineg) 0 := r42 (len := 1) (by decide +kernel) rfl
theorem e42_12 : amT 42 12 13 (.iconst 1) 0 := r42 (len := 1) (by decide +kernel) rfl
theorem e42_13 : amT 42 13 16 (.invokevirtual 88) 34 := r42 (len := 3) (by decide +kernel) rfl
theorem e42_16 : amT 42 16 17 (.aload_n 0) 0 := r42 (len := 1) (by decide +kernel) rfl
theorem e42_17 : amT 42 17 20 (.getfield 24) 4 := r42 (len := 3) (by decide +kernel) rfl
theorem e42_20 : amT 42 20 23 (.if_icmp .ne 18) 0 := r42 (len := 3) (by decide +kernel) rfl
theorem t42_20 : amTg 20 18 = some 38 := by decide
theorem e42_23 : amT 42 23 24 (.aload_n 0) 0 := r42 (len := 1) (by decide +kernel) rfl
theorem e42_24 : amT 42 24 25 (.iload_n 1) 0 := r42 (len := 1) (by decide +kernel) rfl
theorem e42_25 : amT 42 25 26 (.iconst 1) 0 := r42 (len := 1) (by decide +kernel) rfl
theorem e42_26 : amT 42 26 29 (.invokevirtual 88) 34 := r42 (len := 3) (by decide +kernel) rfl
theorem e42_29 : amT 42 29 30 (.aload_n 0) 0 := r42 (len := 1) (by decide +kernel) rfl
theorem e42_30 : amT 42 30 33 (.getfield 27) 5 := r42 (len := 3) (by decide +kernel) rfl
theorem e42_33 : amT 42 33 36 (.if_icmp .ne 5) 0 := r42 (len := 3) (by decide +kernel) rfl
theorem t42_33 : amTg 33 5 = some 38 := by decide
theorem e42_36 : amT 42 36 37 (.iload_n 1) 0 := r42 (len := 1) (by decide +kernel) rfl
theorem e42_37 : amT 42 37 38 (.ireturn) 0 := r42 (len := 1) (by decide +kernel) rfl
theorem e42_38 : amT 42 38 39 (.iload_n 1) 0 := r42 (len := 1) (by decide +kernel) rfl
theorem e42_39 : amT 42 39 40 (.iconst 2) 0 := r42 (len := 1) (by decide +kernel) rfl
theorem e42_40 : amT 42 40 41 (.imul) 0 := r42 (len := 1) (by decide +kernel) rfl
theorem e42_41 : amT 42 41 42 (.istore_n 1) 0 := r42 (len := 1) (by decide +kernel) rfl
theorem e42_42 : amT 42 42 45 (.goto (-40)) 0 := r42 (len := 3) (by decide +kernel) rfl
theorem t42_42 : amTg 42 (-40) = some 2 := by decide
theorem e42_45 : amT 42 45 46 (.iconst 0) 0 := r42 (len := 1) (by decide +kernel) rfl
theorem e42_46 : amT 42 46 47 (.ireturn) 0 := r42 (len := 1) (by decide +kernel) rfl
theorem q44 : amCs.getD 44 [] = amC_44 := rfl
theorem r44 {pc pc' len op : Nat} {i : Instr} (h : amC_44.lookup pc = some (i, len, op)) (h2 : pc + len = pc') : amT 44 pc pc' i op := ⟨len, by unfold amEnt; rw [q44]; exact h, h2⟩
theorem e44_0 : amT 44 0 1 (.aload_n 0) 0 := r44 (len := 1) (by decide +kernel) rfl
theorem e44_1 : amT 44 1 4 (.getfield 11) 384 := r44 (len := 3) (by decide +kernel) rfl
theorem e44_4 : amT 44 4 5 (.iconst 0) 0 := r44 (len := 1) (by decide +kernel) rfl
theorem e44_5 : amT 44 5 6 (.aaload) 0 := r44 (len := 1) (by decide +kernel) rfl
theorem e44_6 : amT 44 6 7 (.aload_n 1) 0 := r44 (len := 1) (by decide +kernel) rfl
theorem e44_7 : amT 44 7 10 (.invokevirtual 24) 8 := r44 (len := 3) (by decide +kernel) rfl
theorem e44_10 : amT 44 10 11 (.aload_n 0) 0 := r44 (len := 1) (by decide +kernel) rfl
theorem e44_11 : amT 44 11 14 (.getfield 11) 384 := r44 (len := 3) (by decide +kernel) rfl
theorem e44_14 : amT 44 14 15 (.iconst 0) 0 := r44 (len := 1) (by decide +kernel) rfl
theorem e44_15 : amT 44 15 16 (.aaload) 0 := r44 (len := 1) (by decide +kernel) rfl
theorem e44_16 : amT 44 16 19 (.invokevirtual 28) 17 := r44 (len := 3) (by decide +kernel) rfl
theorem e44_19 : amT 44 19 20 (.istore_n 2) 0 := r44 (len := 1) (by decide +kernel) rfl
theorem e44_20 : amT 44 20 21 (.aload_n 0) 0 := r44 (len := 1) (by decide +kernel) rfl
theorem e44_21 : amT 44 21 24 (.getfield 11) 384 := r44 (len := 3) (by decide +kernel) rfl
theorem e44_24 : amT 44 24 25 (.iconst 0) 0 := r44 (len := 1) (by decide +kernel) rfl
theorem e44_25 : amT 44 25 26 (.aaload) 0 := r44 (len := 1) (by decide +kernel) rfl
theorem e44_26 : amT 44 26 29 (.invokevirtual 32) 13 := r44 (len := 3) (by decide +kernel) rfl
theorem e44_29 : amT 44 29 30 (.iconst 1) 0 := r44 (len := 1) (by decide +kernel) rfl
theorem e44_30 : amT 44 30 31 (.istore_n 3) 0 := r44 (len := 1) (by decide +kernel) rfl
theorem e44_31 : amT 44 31 32 (.iload_n 3) 0 := r44 (len := 1) (by decide +kernel) rfl
theorem e44_32 : amT 44 32 34 (.bipush 6) 0 := r44 (len := 2) (by decide +kernel) rfl
theorem e44_34 : amT 44 34 37 (.if_icmp .ge 87) 0 := r44 (len := 3) (by decide +kernel) rfl
theorem t44_34 : amTg 34 87 = some 121 := by decide
theorem e44_37 : amT 44 37 38 (.iload_n 2) 0 := r44 (len := 1) (by decide +kernel) rfl
theorem e44_38 : amT 44 38 41 (.ifCond .eq 83) 0 := r44 (len := 3) (by decide +kernel) rfl
theorem t44_38 : amTg 38 83 = some 121 := by decide
theorem e44_41 : amT 44 41 42 (.aload_n 0) 0 := r44 (len := 1) (by decide +kernel) rfl
theorem e44_42 : amT 44 42 45 (.getfield 11) 384 := r44 (len := 3) (by decide +kernel) rfl
theorem e44_45 : amT 44 45 46 (.iload_n 3) 0 := r44 (len := 1) (by decide +kernel) rfl
theorem e44_46 : amT 44 46 47 (.aaload) 0 := r44 (len := 1) (by decide +kernel) rfl
theorem e44_47 : amT 44 47 49 (.astore 4) 0 := r44 (len := 2) (by decide +kernel) rfl
theorem e44_49 : amT 44 49 51 (.aload 4) 0 := r44 (len := 2) (by decide +kernel) rfl
theorem e44_51 : amT 44 51 52 (.aload_n 0) 0 := r44 (len := 1) (by decide +kernel) rfl
theorem e44_52 : amT 44 52 55 (.getfield 11) 384 := r44 (len := 3) (by decide +kernel) rfl
theorem e44_55 : amT 44 55 56 (.iload_n 3) 0 := r44 (len := 1) (by decide +kernel) rfl
theorem e44_56 : amT 44 56 57 (.iconst 1) 0 := r44 (len := 1) (by decide +kernel) rfl
theorem e44_57 : amT 44 57 58 (.isub) 0 := r44 (len := 1) (by decide +kernel) rfl
theorem e44_58 : amT 44 58 59 (.aaload) 0 := r44 (len := 1) (by decide +kernel) rfl
theorem e44_59 : amT 44 59 62 (.invokevirtual 24) 8 := r44 (len := 3) (by decide +kernel) rfl
theorem e44_62 : amT 44 62 64 (.aload 4) 0 := r44 (len := 2) (by decide +kernel) rfl
theorem e44_64 : amT 44 64 67 (.invokevirtual 35) 16 := r44 (len := 3) (by decide +kernel) rfl
theorem e44_67 : amT 44 67 69 (.aload 4) 0 := r44 (len := 2) (by decide +kernel) rfl
theorem e44_69 : amT 44 69 72 (.invokevirtual 38) 5 := r44 (len := 3) (by decide +kernel) rfl
theorem e44_72 : amT 44 72 75 (.ifCond .ge 13) 0 := r44 (len := 3) (by decide +kernel) rfl
theorem t44_72 : amTg 72 13 = some 85 := by decide
theorem e44_75 : amT 44 75 77 (.aload 4) 0 := r44 (len := 2) (by decide +kernel) rfl
theorem e44_77 : amT 44 77 78 (.iconst 0) 0 := r44 (len := 1) (by decide +kernel) rfl
theorem e44_78 : amT 44 78 79 (.lconst 1) 0 := r44 (len := 1) (by decide +kernel) rfl
theorem e44_79 : amT 44 79 82 (.invokevirtual 42) 4 := r44 (len := 3) (by decide +kernel) rfl
theorem e44_82 : amT 44 82 85 (.goto 33) 0 := r44 (len := 3) (by decide +kernel) rfl
theorem t44_82 : amTg 82 33 = some 115 := by decide
theorem e44_85 : amT 44 85 86 (.aload_n 0) 0 := r44 (len := 1) (by decide +kernel) rfl
theorem e44_86 : amT 44 86 89 (.getfield 20) 386 := r44 (len := 3) (by decide +kernel) rfl
theorem e44_89 : amT 44 89 90 (.aload_n 0) 0 := r44 (len := 1) (by decide +kernel) rfl
theorem e44_90 : amT 44 90 93 (.getfield 11) 384 := r44 (len := 3) (by decide +kernel) rfl
theorem e44_93 : amT 44 93 94 (.iload_n 3) 0 := r44 (len := 1) (by decide +kernel) rfl
theorem e44_94 : amT 44 94 95 (.iconst 1) 0 := r44 (len := 1) (by decide +kernel) rfl
theorem e44_95 : amT 44 95 96 (.isub) 0 := r44 (len := 1) (by decide +kernel) rfl
theorem e44_96 : amT 44 96 97 (.aaload) 0 := r44 (len := 1) (by decide +kernel) rfl
theorem e44_97 : amT 44 97 99 (.aload 4) 0 := r44 (len := 2) (by decide +kernel) rfl
theorem e44_99 : amT 44 99 102 (.invokevirtual 46) 26 := r44 (len := 3) (by decide +kernel) rfl
theorem e44_102 : amT 44 102 103 (.istore_n 2) 0 := r44 (len := 1) (by decide +kernel) rfl
theorem e44_103 : amT 44 103 105 (.aload 4) 0 := r44 (len := 2) (by decide +kernel) rfl
theorem e44_105 : amT 44 105 106 (.aload_n 0) 0 := r44 (len := 1) (by decide +kernel) rfl
theorem e44_106 : amT 44 106 109 (.getfield 20) 386 := r44 (len := 3) (by decide +kernel) rfl
theorem e44_109 : amT 44 109 112 (.invokevirtual 52) 25 := r44 (len := 3) (by decide +kernel) rfl
theorem e44_112 : amT 44 112 115 (.invokevirtual 24) 8 := r44 (len := 3) (by decide +kernel) rfl
theorem e44_115 : amT 44 115 118 (.iinc 3 1) 0 := r44 (len := 3) (by decide +kernel) rfl
theorem e44_118 : amT 44 118 121 (.goto (-87)) 0 := r44 (len := 3) (by decide +kernel) rfl
theorem t44_118 : amTg 118 (-87) = some 31 := by decide
theorem e44_121 : amT 44 121 122 (.iload_n 2) 0 := r44 (len := 1) (by decide +kernel) rfl
theorem e44_122 : amT 44 122 123 (.ireturn) 0 := r44 (len := 1) (by decide +kernel) rfl
theorem q45 : amCs.getD 45 [] = amC_45 := rfl
theorem r45 {pc pc' len op : Nat} {i : Instr} (h : amC_45.lookup pc = some (i, len, op)) (h2 : pc + len = pc') : amT 45 pc pc' i op := ⟨len, by unfold amEnt; rw [q45]; exact h, h2⟩
theorem e45_0 : amT 45 0 1 (.iload_n 1) 0 := r45 (len := 1) (by decide +kernel) rfl
theorem e45_1 : amT 45 1 4 (.ifCond .lt 18) 0 := r45 (len := 3) (by decide +kernel) rfl
theorem t45_1 : amTg 1 18 = some 19 := by decide
theorem e45_4 : amT 45 4 5 (.iload_n 1) 0 := r45 (len := 1) (by decide +kernel) rfl
theorem e45_5 : amT 45 5 7 (.bipush 6) 0 := r45 (len := 2) (by decide +kernel) rfl
theorem e45_7 : amT 45 7 10 (.if_icmp .ge 12) 0 := r45 (len := 3) (by decide +kernel) rfl
theorem t45_7 : amTg 7 12 = some 19 := by decide
theorem e45_10 : amT 45 10 11 (.aload_n 0) 0 := r45 (len := 1) (by decide +kernel) rfl
theorem e45_11 : amT 45 11 14 (.getfield 11) 384 := r45 (len := 3) (by decide +kernel) rfl
theorem e45_14 : amT 45 14 15 (.iload_n 1) 0 := r45 (len := 1) (by decide +kernel) rfl
theorem e45_15 : amT 45 15 16 (.aaload) 0 := r45 (len := 1) (by decide +kernel) rfl
theorem e45_16 : amT 45 16 19 (.goto 9) 0 := r45 (len := 3) (by decide +kernel) rfl
theorem t45_16 : amTg 16 9 = some 25 := by decide
theorem e45_19 : amT 45 19 20 (.aload_n 0) 0 := r45 (len := 1) (by decide +kernel) rfl
theorem e45_20 : amT 45 20 23 (.getfield 11) 384 := r45 (len := 3) (by decide +kernel) rfl
theorem e45_23 : amT 45 23 24 (.iconst 5) 0 := r45 (len := 1) (by decide +kernel) rfl
theorem e45_24 : amT 45 24 25 (.aaload) 0 := r45 (len := 1) (by decide +kernel) rfl
theorem e45_25 : amT 45 25 26 (.areturn) 0 := r45 (len := 1) (by decide +kernel) rfl
theorem q46 : amCs.getD 46 [] = amC_46 := rfl
theorem r46 {pc pc' len op : Nat} {i : Instr} (h : amC_46.lookup pc = some (i, len, op)) (h2 : pc + len = pc') : amT 46 pc pc' i op := ⟨len, by unfold amEnt; rw [q46]; exact h, h2⟩
theorem e46_0 : amT 46 0 1 (.aload_n 2) 0 := r46 (len := 1) (by decide +kernel) rfl
theorem e46_1 : amT 46 1 2 (.aload_n 0) 0 := r46 (len := 1) (by decide +kernel) rfl
theorem e46_2 : amT 46 2 3 (.iload_n 1) 0 := r46 (len := 1) (by decide +kernel) rfl
theorem e46_3 : amT 46 3 4 (.iconst 1) 0 := r46 (len := 1) (by decide +kernel) rfl
theorem e46_4 : amT 46 4 5 (.isub) 0 := r46 (len := 1) (by decide +kernel) rfl
theorem e46_5 : amT 46 5 8 (.invokevirtual 56) 45 := r46 (len := 3) (by decide +kernel) rfl
theorem e46_8 : amT 46 8 11 (.invokevirtual 24) 8 := r46 (len := 3) (by decide +kernel) rfl
theorem e46_11 : amT 46 11 12 (.aload_n 2) 0 := r46 (len := 1) (by decide +kernel) rfl
theorem e46_12 : amT 46 12 13 (.aload_n 0) 0 := r46 (len := 1) (by decide +kernel) rfl
theorem e46_13 : amT 46 13 14 (.iload_n 1) 0 := r46 (len := 1) (by decide +kernel) rfl
theorem e46_14 : amT 46 14 17 (.invokevirtual 56) 45 := r46 (len := 3) (by decide +kernel) rfl
theorem e46_17 : amT 46 17 20 (.invokevirtual 60) 19 := r46 (len := 3) (by decide +kernel) rfl
theorem e46_20 : amT 46 20 21 (.aload_n 0) 0 := r46 (len := 1) (by decide +kernel) rfl
theorem e46_21 : amT 46 21 24 (.getfield 16) 385 := r46 (len := 3) (by decide +kernel) rfl
theorem e46_24 : amT 46 24 25 (.aload_n 0) 0 := r46 (len := 1) (by decide +kernel) rfl
theorem e46_25 : amT 46 25 26 (.iload_n 1) 0 := r46 (len := 1) (by decide +kernel) rfl
theorem e46_26 : amT 46 26 29 (.invokevirtual 56) 45 := r46 (len := 3) (by decide +kernel) rfl
theorem e46_29 : amT 46 29 32 (.invokevirtual 24) 8 := r46 (len := 3) (by decide +kernel) rfl
theorem e46_32 : amT 46 32 33 (.aload_n 0) 0 := r46 (len := 1) (by decide +kernel) rfl
theorem e46_33 : amT 46 33 36 (.getfield 16) 385 := r46 (len := 3) (by decide +kernel) rfl
theorem e46_36 : amT 46 36 37 (.aload_n 0) 0 := r46 (len := 1) (by decide +kernel) rfl
theorem e46_37 : amT 46 37 38 (.iload_n 1) 0 := r46 (len := 1) (by decide +kernel) rfl
theorem e46_38 : amT 46 38 39 (.iconst 1) 0 := r46 (len := 1) (by decide +kernel) rfl
theorem e46_39 : amT 46 39 40 (.iadd) 0 := r46 (len := 1) (by decide +kernel) rfl
theorem e46_40 : amT 46 40 43 (.invokevirtual 56) 45 := r46 (len := 3) (by decide +kernel) rfl
theorem e46_43 : amT 46 43 46 (.invokevirtual 60) 19 := r46 (len := 3) (by decide +kernel) rfl
theorem e46_46 : amT 46 46 47 (.aload_n 2) 0 := r46 (len := 1) (by decide +kernel) rfl
theorem e46_47 : amT 46 47 50 (.invokevirtual 28) 17 := r46 (len := 3) (by decide +kernel) rfl
theorem e46_50 : amT 46 50 53 (.ifCond .eq 13) 0 := r46 (len := 3) (by decide +kernel) rfl
theorem t46_50 : amTg 50 13 = some 63 := by decide
theorem e46_53 : amT 46 53 54 (.aload_n 0) 0 := r46 (len := 1) (by decide +kernel) rfl
theorem e46_54 : amT 46 54 57 (.getfield 16) 385 := r46 (len := 3) (by decide +kernel) rfl
theorem e46_57 : amT 46 57 60 (.invokevirtual 28) 17 := r46 (len := 3) (by decide +kernel) rfl
theorem e46_60 : amT 46 60 63 (.ifCond .ne 5) 0 := r46 (len := 3) (by decide +kernel) rfl
theorem t46_60 : amTg 60 5 = some 65 := by decide
theorem e46_63 : amT 46 63 64 (.iconst 0) 0 := r46 (len := 1) (by decide +kernel) rfl
theorem e46_64 : amT 46 64 65 (.ireturn) 0 := r46 (len := 1) (by decide +kernel) rfl
theorem e46_65 : amT 46 65 66 (.aload_n 2) 0 := r46 (len := 1) (by decide +kernel) rfl
theorem e46_66 : amT 46 66 67 (.aload_n 0) 0 := r46 (len := 1) (by decide +kernel) rfl
theorem e46_67 : amT 46 67 70 (.getfield 16) 385 := r46 (len := 3) (by decide +kernel) rfl
theorem e46_70 : amT 46 70 73 (.invokevirtual 60) 19 := r46 (len := 3) (by decide +kernel) rfl
theorem e46_73 : amT 46 73 74 (.aload_n 2) 0 := r46 (len := 1) (by decide +kernel) rfl
theorem e46_74 : amT 46 74 77 (.invokevirtual 28) 17 := r46 (len := 3) (by decide +kernel) rfl
theorem e46_77 : amT 46 77 78 (.ireturn) 0 := r46 (len := 1) (by decide +kernel) rfl
theorem q48 : amCs.getD 48 [] = amC_48 := rfl
theorem r48 {pc pc' len op : Nat} {i : Instr} (h : amC_48.lookup pc = some (i, len, op)) (h2 : pc + len = pc') : amT 48 pc pc' i op := ⟨len, by unfold amEnt; rw [q48]; exact h, h2⟩
theorem e48_0 : amT 48 0 2 (.aload 5) 0 := r48 (len := 2) (by decide +kernel) rfl
theorem e48_2 : amT 48 2 3 (.aload_n 2) 0 := r48 (len := 1) (by decide +kernel) rfl
theorem e48_3 : amT 48 3 6 (.invokevirtual 19) 8 := r48 (len := 3) (by decide +kernel) rfl
theorem e48_6 : amT 48 6 7 (.iconst 1) 0 := r48 (len := 1) (by decide +kernel) rfl
theorem e48_7 : amT 48 7 9 (.istore 6) 0 := r48 (len := 2) (by decide +kernel) rfl
theorem e48_9 : amT 48 9 10 (.iload_n 1) 0 := r48 (len := 1) (by decide +kernel) rfl
theorem e48_10 : amT 48 10 68 (.tableswitch 188 0 10 #[58, 68, 78, 90, 116, 124, 133, 143, 153, 162, 177]) 0 := r48 (len := 58) (by decide +kernel) rfl
theorem t48_10_58 : amTg 10 58 = some 68 := by decide
theorem t48_10_177 : amTg 10 177 = some 187 := by decide
theorem t48_10_188 : amTg 10 188 = some 198 := by decide
theorem t48_10_78 : amTg 10 78 = some 88 := by decide
theorem t48_10_133 : amTg 10 133 = some 143 := by decide
theorem t48_10_162 : amTg 10 162 = some 172 := by decide
theorem t48_10_153 : amTg 10 153 = some 163 := by decide
theorem t48_10_124 : amTg 10 124 = some 134 := by decide
theorem t48_10_116 : amTg 10 116 = some 126 := by decide
theorem t48_10_143 : amTg 10 143 = some 153 := by decide
theorem t48_10_90 : amTg 10 90 = some 100 := by decide
theorem t48_10_68 : amTg 10 68 = some 78 := by decide
theorem e48_68 : amT 48 68 70 (.aload 5) 0 := r48 (len := 2) (by decide +kernel) rfl
theorem e48_70 : amT 48 70 71 (.aload_n 3) 0 := r48 (len := 1) (by decide +kernel) rfl
theorem e48_71 : amT 48 71 72 (.lconst 1) 0 := r48 (len := 1) (by decide +kernel) rfl
theorem e48_72 : amT 48 72 75 (.invokevirtual 25) 14 := r48 (len := 3) (by decide +kernel) rfl
theorem e48_75 : amT 48 75 78 (.goto 155) 0 := r48 (len := 3) (by decide +kernel) rfl
theorem t48_75 : amTg 75 155 = some 230 := by decide
theorem e48_78 : amT 48 78 80 (.aload 5) 0 := r48 (len := 2) (by decide +kernel) rfl
theorem e48_80 : amT 48 80 81 (.aload_n 2) 0 := r48 (len := 1) (by decide +kernel) rfl
theorem e48_81 : amT 48 81 82 (.aload_n 3) 0 := r48 (len := 1) (by decide +kernel) rfl
theorem e48_82 : amT 48 82 85 (.invokevirtual 29) 15 := r48 (len := 3) (by decide +kernel) rfl
theorem e48_85 : amT 48 85 88 (.goto 145) 0 := r48 (len := 3) (by decide +kernel) rfl
theorem t48_85 : amTg 85 145 = some 230 := by decide
theorem e48_88 : amT 48 88 90 (.aload 5) 0 := r48 (len := 2) (by decide +kernel) rfl
theorem e48_90 : amT 48 90 91 (.aload_n 3) 0 := r48 (len := 1) (by decide +kernel) rfl
theorem e48_91 : amT 48 91 94 (.ldc2_w 33) 2 := r48 (len := 3) (by decide +kernel) rfl
theorem e48_94 : amT 48 94 97 (.invokevirtual 25) 14 := r48 (len := 3) (by decide +kernel) rfl
theorem e48_97 : amT 48 97 100 (.goto 133) 0 := r48 (len := 3) (by decide +kernel) rfl
theorem t48_97 : amTg 97 133 = some 230 := by decide
theorem e48_100 : amT 48 100 101 (.aload_n 0) 0 := r48 (len := 1) (by decide +kernel) rfl
theorem e48_101 : amT 48 101 104 (.getfield 9) 256 := r48 (len := 3) (by decide +kernel) rfl
theorem e48_104 : amT 48 104 105 (.aload_n 2) 0 := r48 (len := 1) (by decide +kernel) rfl
theorem e48_105 : amT 48 105 106 (.aload_n 3) 0 := r48 (len := 1) (by decide +kernel) rfl
theorem e48_106 : amT 48 106 109 (.invokevirtual 35) 26 := r48 (len := 3) (by decide +kernel) rfl
theorem e48_109 : amT 48 109 111 (.istore 6) 0 := r48 (len := 2) (by decide +kernel) rfl
theorem e48_111 : amT 48 111 113 (.aload 5) 0 := r48 (len := 2) (by decide +kernel) rfl
theorem e48_113 : amT 48 113 114 (.aload_n 0) 0 := r48 (len := 1) (by decide +kernel) rfl
theorem e48_114 : amT 48 114 117 (.getfield 9) 256 := r48 (len := 3) (by decide +kernel) rfl
theorem e48_117 : amT 48 117 120 (.invokevirtual 41) 25 := r48 (len := 3) (by decide +kernel) rfl
theorem e48_120 : amT 48 120 123 (.invokevirtual 19) 8 := r48 (len := 3) (by decide +kernel) rfl
theorem e48_123 : amT 48 123 126 (.goto 107) 0 := r48 (len := 3) (by decide +kernel) rfl
theorem t48_123 : amTg 123 107 = some 230 := by decide
theorem e48_126 : amT 48 126 128 (.aload 5) 0 := r48 (len := 2) (by decide +kernel) rfl
theorem e48_128 : amT 48 128 131 (.invokevirtual 45) 16 := r48 (len := 3) (by decide +kernel) rfl
theorem e48_131 : amT 48 131 134 (.goto 99) 0 := r48 (len := 3) (by decide +kernel) rfl
theorem t48_131 : amTg 131 99 = some 230 := by decide
theorem e48_134 : amT 48 134 136 (.aload 5) 0 := r48 (len := 2) (by decide +kernel) rfl
theorem e48_136 : amT 48 136 137 (.iconst (-1)) 0 := r48 (len := 1) (by decide +kernel) rfl
theorem e48_137 : amT 48 137 140 (.invokestatic 48) 49 := r48 (len := 3) (by decide +kernel) rfl
theorem e48_140 : amT 48 140 143 (.goto 90) 0 := r48 (len := 3) (by decide +kernel) rfl
theorem t48_140 : amTg 140 90 = some 230 := by decide
theorem e48_143 : amT 48 143 145 (.aload 5) 0 := r48 (len := 2) (by decide +kernel) rfl
theorem e48_145 : amT 48 145 147 (.iload 4) 0 := r48 (len := 2) (by decide +kernel) rfl
theorem e48_147 : amT 48 147 150 (.invokestatic 52) 50 := r48 (len := 3) (by decide +kernel) rfl
theorem e48_150 : amT 48 150 153 (.goto 80) 0 := r48 (len := 3) (by decide +kernel) rfl
theorem t48_150 : amTg 150 80 = some 230 := by decide
theorem e48_153 : amT 48 153 155 (.aload 5) 0 := r48 (len := 2) (by decide +kernel) rfl
theorem e48_155 : amT 48 155 157 (.iload 4) 0 := r48 (len := 2) (by decide +kernel) rfl
theorem e48_157 : amT 48 157 160 (.invokestatic 48) 49 := r48 (len := 3) (by decide +kernel) rfl
theorem e48_160 : amT 48 160 163 (.goto 70) 0 := r48 (len := 3) (by decide +kernel) rfl
theorem t48_160 : amTg 160 70 = some 230 := by decide
theorem e48_163 : amT 48 163 164 (.aload_n 2) 0 := r48 (len := 1) (by decide +kernel) rfl
theorem e48_164 : amT 48 164 166 (.aload 5) 0 := r48 (len := 2) (by decide +kernel) rfl
theorem e48_166 : amT 48 166 169 (.invokestatic 55) 51 := r48 (len := 3) (by decide +kernel) rfl
theorem e48_169 : amT 48 169 172 (.goto 61) 0 := r48 (len := 3) (by decide +kernel) rfl
theorem t48_169 : amTg 169 61 = some 230 := by decide
theorem e48_172 : amT 48 172 173 (.aload_n 0) 0 := r48 (len := 1) (by decide +kernel) rfl
theorem e48_173 : amT 48 173 176 (.getfield 9) 256 := r48 (len := 3) (by decide +kernel) rfl
theorem e48_176 : amT 48 176 177 (.aload_n 2) 0 := r48 (len := 1) (by decide +kernel) rfl
theorem e48_177 : amT 48 177 179 (.aload 5) 0 := r48 (len := 2) (by decide +kernel) rfl
theorem e48_179 : amT 48 179 182 (.invokevirtual 58) 27 := r48 (len := 3) (by decide +kernel) rfl
theorem e48_182 : amT 48 182 184 (.istore 6) 0 := r48 (len := 2) (by decide +kernel) rfl
theorem e48_184 : amT 48 184 187 (.goto 46) 0 := r48 (len := 3) (by decide +kernel) rfl
theorem t48_184 : amTg 184 46 = some 230 := by decide
theorem e48_187 : amT 48 187 189 (.aload 5) 0 := r48 (len := 2) (by decide +kernel) rfl
theorem e48_189 : amT 48 189 190 (.aload_n 3) 0 := r48 (len := 1) (by decide +kernel) rfl
theorem e48_190 : amT 48 190 193 (.invokevirtual 61) 18 := r48 (len := 3) (by decide +kernel) rfl
theorem e48_193 : amT 48 193 195 (.istore 6) 0 := r48 (len := 2) (by decide +kernel) rfl
theorem e48_195 : amT 48 195 198 (.goto 35) 0 := r48 (len := 3) (by decide +kernel) rfl
theorem t48_195 : amTg 195 35 = some 230 := by decide
theorem e48_198 : amT 48 198 199 (.aload_n 0) 0 := r48 (len := 1) (by decide +kernel) rfl
theorem e48_199 : amT 48 199 202 (.getfield 15) 257 := r48 (len := 3) (by decide +kernel) rfl
theorem e48_202 : amT 48 202 203 (.aload_n 2) 0 := r48 (len := 1) (by decide +kernel) rfl
theorem e48_203 : amT 48 203 206 (.invokevirtual 65) 44 := r48 (len := 3) (by decide +kernel) rfl
theorem e48_206 : amT 48 206 209 (.ifCond .eq 21) 0 := r48 (len := 3) (by decide +kernel) rfl
theorem t48_206 : amTg 206 21 = some 227 := by decide
theorem e48_209 : amT 48 209 210 (.aload_n 0) 0 := r48 (len := 1) (by decide +kernel) rfl
theorem e48_210 : amT 48 210 213 (.getfield 15) 257 := r48 (len := 3) (by decide +kernel) rfl
theorem e48_213 : amT 48 213 215 (.iload 4) 0 := r48 (len := 2) (by decide +kernel) rfl
theorem e48_215 : amT 48 215 217 (.aload 5) 0 := r48 (len := 2) (by decide +kernel) rfl
theorem e48_217 : amT 48 217 220 (.invokevirtual 70) 46 := r48 (len := 3) (by decide +kernel) rfl
theorem e48_220 : amT 48 220 223 (.ifCond .eq 7) 0 := r48 (len := 3) (by decide +kernel) rfl
theorem t48_220 : amTg 220 7 = some 227 := by decide
theorem e48_223 : amT 48 223 224 (.iconst 1) 0 := r48 (len := 1) (by decide +kernel) rfl
theorem e48_224 : amT 48 224 227 (.goto 4) 0 := r48 (len := 3) (by decide +kernel) rfl
theorem t48_224 : amTg 224 4 = some 228 := by decide
theorem e48_227 : amT 48 227 228 (.iconst 0) 0 := r48 (len := 1) (by decide +kernel) rfl
theorem e48_228 : amT 48 228 230 (.istore 6) 0 := r48 (len := 2) (by decide +kernel) rfl
theorem e48_230 : amT 48 230 232 (.iload 6) 0 := r48 (len := 2) (by decide +kernel) rfl
theorem e48_232 : amT 48 232 233 (.ireturn) 0 := r48 (len := 1) (by decide +kernel) rfl
theorem q49 : amCs.getD 49 [] = amC_49 := rfl
theorem r49 {pc pc' len op : Nat} {i : Instr} (h : amC_49.lookup pc = some (i, len, op)) (h2 : pc + len = pc') : amT 49 pc pc' i op := ⟨len, by unfold amEnt; rw [q49]; exact h, h2⟩
theorem e49_0 : amT 49 0 1 (.lconst 1) 0 := r49 (len := 1) (by decide +kernel) rfl
theorem e49_1 : amT 49 1 2 (.lstore_n 2) 0 := r49 (len := 1) (by decide +kernel) rfl
theorem e49_2 : amT 49 2 3 (.iconst 0) 0 := r49 (len := 1) (by decide +kernel) rfl
theorem e49_3 : amT 49 3 5 (.istore 4) 0 := r49 (len := 2) (by decide +kernel) rfl
theorem e49_5 : amT 49 5 7 (.iload 4) 0 := r49 (len := 2) (by decide +kernel) rfl
theorem e49_7 : amT 49 7 8 (.iconst 4) 0 := r49 (len := 1) (by decide +kernel) rfl
theorem e49_8 : amT 49 8 11 (.if_icmp .gt 28) 0 := r49 (len := 3) (by decide +kernel) rfl
theorem t49_8 : amTg 8 28 = some 36 := by decide
theorem e49_11 : amT 49 11 12 (.aload_n 0) 0 := r49 (len := 1) (by decide +kernel) rfl
theorem e49_12 : amT 49 12 14 (.iload 4) 0 := r49 (len := 2) (by decide +kernel) rfl
theorem e49_14 : amT 49 14 15 (.aload_n 0) 0 := r49 (len := 1) (by decide +kernel) rfl
theorem e49_15 : amT 49 15 17 (.iload 4) 0 := r49 (len := 2) (by decide +kernel) rfl
theorem e49_17 : amT 49 17 20 (.invokevirtual 74) 3 := r49 (len := 3) (by decide +kernel) rfl
theorem e49_20 : amT 49 20 21 (.lload_n 2) 0 := r49 (len := 1) (by decide +kernel) rfl
theorem e49_21 : amT 49 21 22 (.lmul) 0 := r49 (len := 1) (by decide +kernel) rfl
theorem e49_22 : amT 49 22 25 (.invokevirtual 78) 4 := r49 (len := 3) (by decide +kernel) rfl
theorem e49_25 : amT 49 25 26 (.lload_n 2) 0 := r49 (len := 1) (by decide +kernel) rfl
theorem e49_26 : amT 49 26 27 (.iload_n 1) 0 := r49 (len := 1) (by decide +kernel) rfl
theorem e49_27 : amT 49 27 28 (.i2l) 0 := r49 (len := 1) (by decide +kernel) rfl
theorem e49_28 : amT 49 28 29 (.lmul) 0 := r49 (len := 1) (by decide +kernel) rfl
theorem e49_29 : amT 49 29 30 (.lstore_n 2) 0 := r49 (len := 1) (by decide +kernel) rfl
theorem e49_30 : amT 49 30 33 (.iinc 4 1) 0 := r49 (len := 3) (by decide +kernel) rfl
theorem e49_33 : amT 49 33 36 (.goto (-28)) 0 := r49 (len := 3) (by decide +kernel) rfl
theorem t49_33 : amTg 33 (-28) = some 5 := by decide
theorem e49_36 : amT 49 36 37 (.return_) 0 := r49 (len := 1) (by decide +kernel) rfl
theorem q50 : amCs.getD 50 [] = amC_50 := rfl
theorem r50 {pc pc' len op : Nat} {i : Instr} (h : amC_50.lookup pc = some (i, len, op)) (h2 : pc + len = pc') : amT 50 pc pc' i op := ⟨len, by unfold amEnt; rw [q50]; exact h, h2⟩
theorem e50_0 : amT 50 0 1 (.iconst 0) 0 := r50 (len := 1) (by decide +kernel) rfl
theorem e50_1 : amT 50 1 2 (.istore_n 2) 0 := r50 (len := 1) (by decide +kernel) rfl
theorem e50_2 : amT 50 2 3 (.iload_n 2) 0 := r50 (len := 1) (by decide +kernel) rfl
theorem e50_3 : amT 50 3 4 (.iconst 4) 0 := r50 (len := 1) (by decide +kernel) rfl
theorem e50_4 : amT 50 4 7 (.if_icmp .ge 43) 0 := r50 (len := 3) (by decide +kernel) rfl
theorem t50_4 : amTg 4 43 = some 47 := by decide
theorem e50_7 : amT 50 7 8 (.iconst 3) 0 := r50 (len := 1) (by decide +kernel) rfl
theorem e50_8 : amT 50 8 9 (.istore_n 3) 0 := r50 (len := 1) (by decide +kernel) rfl
theorem e50_9 : amT 50 9 10 (.iload_n 3) 0 := r50 (len := 1) (by decide +kernel) rfl
theorem e50_10 : amT 50 10 11 (.iload_n 2) 0 := r50 (len := 1) (by decide +kernel) rfl
theorem e50_11 : amT 50 11 14 (.if_icmp .lt 30) 0 := r50 (len := 3) (by decide +kernel) rfl
theorem t50_11 : amTg 11 30 = some 41 := by decide
theorem e50_14 : amT 50 14 15 (.aload_n 0) 0 := r50 (len := 1) (by decide +kernel) rfl
theorem e50_15 : amT 50 15 16 (.iload_n 3) 0 := r50 (len := 1) (by decide +kernel) rfl
theorem e50_16 : amT 50 16 17 (.aload_n 0) 0 := r50 (len := 1) (by decide +kernel) rfl
theorem e50_17 : amT 50 17 18 (.iload_n 3) 0 := r50 (len := 1) (by decide +kernel) rfl
theorem e50_18 : amT 50 18 21 (.invokevirtual 74) 3 := r50 (len := 3) (by decide +kernel) rfl
theorem e50_21 : amT 50 21 22 (.iload_n 1) 0 := r50 (len := 1) (by decide +kernel) rfl
theorem e50_22 : amT 50 22 23 (.i2l) 0 := r50 (len := 1) (by decide +kernel) rfl
theorem e50_23 : amT 50 23 24 (.aload_n 0) 0 := r50 (len := 1) (by decide +kernel) rfl
theorem e50_24 : amT 50 24 25 (.iload_n 3) 0 := r50 (len := 1) (by decide +kernel) rfl
theorem e50_25 : amT 50 25 26 (.iconst 1) 0 := r50 (len := 1) (by decide +kernel) rfl
theorem e50_26 : amT 50 26 27 (.iadd) 0 := r50 (len := 1) (by decide +kernel) rfl
theorem e50_27 : amT 50 27 30 (.invokevirtual 74) 3 := r50 (len := 3) (by decide +kernel) rfl
theorem e50_30 : amT 50 30 31 (.lmul) 0 := r50 (len := 1) (by decide +kernel) rfl
theorem e50_31 : amT 50 31 32 (.ladd) 0 := r50 (len := 1) (by decide +kernel) rfl
theorem e50_32 : amT 50 32 35 (.invokevirtual 78) 4 := r50 (len := 3) (by decide +kernel) rfl
theorem e50_35 : amT 50 35 38 (.iinc 3 (-1)) 0 := r50 (len := 3) (by decide +kernel) rfl
theorem e50_38 : amT 50 38 41 (.goto (-29)) 0 := r50 (len := 3) (by decide +kernel) rfl
theorem t50_38 : amTg 38 (-29) = some 9 := by decide
theorem e50_41 : amT 50 41 44 (.iinc 2 1) 0 := r50 (len := 3) (by decide +kernel) rfl
theorem e50_44 : amT 50 44 47 (.goto (-42)) 0 := r50 (len := 3) (by decide +kernel) rfl
theorem t50_44 : amTg 44 (-42) = some 2 := by decide
theorem e50_47 : amT 50 47 48 (.return_) 0 := r50 (len := 1) (by decide +kernel) rfl
theorem q51 : amCs.getD 51 [] = amC_51 := rfl
theorem r51 {pc pc' len op : Nat} {i : Instr} (h : amC_51.lookup pc = some (i, len, op)) (h2 : pc + len = pc') : amT 51 pc pc' i op := ⟨len, by unfold amEnt; rw [q51]; exact h, h2⟩
theorem e51_0 : amT 51 0 1 (.aload_n 0) 0 := r51 (len := 1) (by decide +kernel) rfl
theorem e51_1 : amT 51 1 4 (.invokevirtual 82) 5 := r51 (len := 3) (by decide +kernel) rfl
theorem e51_4 : amT 51 4 5 (.istore_n 2) 0 := r51 (len := 1) (by decide +kernel) rfl
theorem e51_5 : amT 51 5 6 (.iconst 0) 0 := r51 (len := 1) (by decide +kernel) rfl
theorem e51_6 : amT 51 6 7 (.istore_n 3) 0 := r51 (len := 1) (by decide +kernel) rfl
theorem e51_7 : amT 51 7 8 (.iload_n 3) 0 := r51 (len := 1) (by decide +kernel) rfl
theorem e51_8 : amT 51 8 9 (.iload_n 2) 0 := r51 (len := 1) (by decide +kernel) rfl
theorem e51_9 : amT 51 9 12 (.if_icmp .gt 21) 0 := r51 (len := 3) (by decide +kernel) rfl
theorem t51_9 : amTg 9 21 = some 30 := by decide
theorem e51_12 : amT 51 12 13 (.aload_n 1) 0 := r51 (len := 1) (by decide +kernel) rfl
theorem e51_13 : amT 51 13 14 (.iload_n 3) 0 := r51 (len := 1) (by decide +kernel) rfl
theorem e51_14 : amT 51 14 15 (.aload_n 0) 0 := r51 (len := 1) (by decide +kernel) rfl
theorem e51_15 : amT 51 15 16 (.iload_n 2) 0 := r51 (len := 1) (by decide +kernel) rfl
theorem e51_16 : amT 51 16 17 (.iload_n 3) 0 := r51 (len := 1) (by decide +kernel) rfl
theorem e51_17 : amT 51 17 18 (.isub) 0 := r51 (len := 1) (by decide +kernel) rfl
theorem e51_18 : amT 51 18 21 (.invokevirtual 74) 3 := r51 (len := 3) (by decide +kernel) rfl
theorem e51_21 : amT 51 21 24 (.invokevirtual 78) 4 := r51 (len := 3) (by decide +kernel) rfl
theorem e51_24 : amT 51 24 27 (.iinc 3 1) 0 := r51 (len := 3) (by decide +kernel) rfl
theorem e51_27 : amT 51 27 30 (.goto (-20)) 0 := r51 (len := 3) (by decide +kernel) rfl
theorem t51_27 : amTg 27 (-20) = some 7 := by decide
theorem e51_30 : amT 51 30 31 (.return_) 0 := r51 (len := 1) (by decide +kernel) rfl
theorem q53 : amCs.getD 53 [] = amC_53 := rfl
theorem r53 {pc pc' len op : Nat} {i : Instr} (h : amC_53.lookup pc = some (i, len, op)) (h2 : pc + len = pc') : amT 53 pc pc' i op := ⟨len, by unfold amEnt; rw [q53]; exact h, h2⟩
theorem e53_0 : amT 53 0 1 (.aload_n 0) 0 := r53 (len := 1) (by decide +kernel) rfl
theorem e53_1 : amT 53 1 4 (.getfield 17) 577 := r53 (len := 3) (by decide +kernel) rfl
theorem e53_4 : amT 53 4 5 (.ireturn) 0 := r53 (len := 1) (by decide +kernel) rfl
theorem q54 : amCs.getD 54 [] = amC_54 := rfl
theorem r54 {pc pc' len op : Nat} {i : Instr} (h : amC_54.lookup pc = some (i, len, op)) (h2 : pc + len = pc') : amT 54 pc pc' i op := ⟨len, by unfold amEnt; rw [q54]; exact h, h2⟩
theorem e54_0 : amT 54 0 1 (.aload_n 0) 0 := r54 (len := 1) (by decide +kernel) rfl
theorem e54_1 : amT 54 1 4 (.getfield 17) 577 := r54 (len := 3) (by decide +kernel) rfl
theorem e54_4 : amT 54 4 6 (.bipush 8) 0 := r54 (len := 2) (by decide +kernel) rfl
theorem e54_6 : amT 54 6 9 (.if_icmp .lt 7) 0 := r54 (len := 3) (by decide +kernel) rfl
theorem t54_6 : amTg 6 7 = some 13 := by decide
theorem e54_9 : amT 54 9 10 (.iconst 1) 0 := r54 (len := 1) (by decide +kernel) rfl
theorem e54_10 : amT 54 10 13 (.goto 4) 0 := r54 (len := 3) (by decide +kernel) rfl
theorem t54_10 : amTg 10 4 = some 14 := by decide
theorem e54_13 : amT 54 13 14 (.iconst 0) 0 := r54 (len := 1) (by decide +kernel) rfl
theorem e54_14 : amT 54 14 15 (.ireturn) 0 := r54 (len := 1) (by decide +kernel) rfl
theorem q55 : amCs.getD 55 [] = amC_55 := rfl
theorem r55 {pc pc' len op : Nat} {i : Instr} (h : amC_55.lookup pc = some (i, len, op)) (h2 : pc + len = pc') : amT 55 pc pc' i op := ⟨len, by unfold amEnt; rw [q55]; exact h, h2⟩
theorem e55_0 : amT 55 0 1 (.iload_n 1) 0 := r55 (len := 1) (by decide +kernel) rfl
theorem e55_1 : amT 55 1 4 (.ifCond .lt 26) 0 := r55 (len := 3) (by decide +kernel) rfl
theorem t55_1 : amTg 1 26 = some 27 := by decide
theorem e55_4 : amT 55 4 5 (.iload_n 1) 0 := r55 (len := 1) (by decide +kernel) rfl
theorem e55_5 : amT 55 5 6 (.aload_n 0) 0 := r55 (len := 1) (by decide +kernel) rfl
theorem e55_6 : amT 55 6 9 (.getfield 17) 577 := r55 (len := 3) (by decide +kernel) rfl
theorem e55_9 : amT 55 9 12 (.if_icmp .ge 18) 0 := r55 (len := 3) (by decide +kernel) rfl
theorem t55_9 : amTg 9 18 = some 27 := by decide
theorem e55_12 : amT 55 12 13 (.iload_n 1) 0 := r55 (len := 1) (by decide +kernel) rfl
theorem e55_13 : amT 55 13 15 (.bipush 8) 0 := r55 (len := 2) (by decide +kernel) rfl
theorem e55_15 : amT 55 15 18 (.if_icmp .ge 12) 0 := r55 (len := 3) (by decide +kernel) rfl
theorem t55_15 : amTg 15 12 = some 27 := by decide
theorem e55_18 : amT 55 18 19 (.aload_n 0) 0 := r55 (len := 1) (by decide +kernel) rfl
theorem e55_19 : amT 55 19 22 (.getfield 13) 576 := r55 (len := 3) (by decide +kernel) rfl
theorem e55_22 : amT 55 22 23 (.iload_n 1) 0 := r55 (len := 1) (by decide +kernel) rfl
theorem e55_23 : amT 55 23 24 (.aaload) 0 := r55 (len := 1) (by decide +kernel) rfl
theorem e55_24 : amT 55 24 27 (.goto 4) 0 := r55 (len := 3) (by decide +kernel) rfl
theorem t55_24 : amTg 24 4 = some 28 := by decide
theorem e55_27 : amT 55 27 28 (.aconst_null) 0 := r55 (len := 1) (by decide +kernel) rfl
theorem e55_28 : amT 55 28 29 (.areturn) 0 := r55 (len := 1) (by decide +kernel) rfl
theorem q56 : amCs.getD 56 [] = amC_56 := rfl
theorem r56 {pc pc' len op : Nat} {i : Instr} (h : amC_56.lookup pc = some (i, len, op)) (h2 : pc + len = pc') : amT 56 pc pc' i op := ⟨len, by unfold amEnt; rw [q56]; exact h, h2⟩
theorem e56_0 : amT 56 0 1 (.aload_n 0) 0 := r56 (len := 1) (by decide +kernel) rfl
theorem e56_1 : amT 56 1 4 (.invokevirtual 22) 54 := r56 (len := 3) (by decide +kernel) rfl
theorem e56_4 : amT 56 4 7 (.ifCond .eq 6) 0 := r56 (len := 3) (by decide +kernel) rfl
theorem t56_4 : amTg 4 6 = some 10 := by decide
theorem e56_7 : amT 56 7 9 (.bipush (-3)) 0 := r56 (len := 2) (by decide +kernel) rfl
theorem e56_9 : amT 56 9 10 (.ireturn) 0 := r56 (len := 1) (by decide +kernel) rfl
theorem e56_10 : amT 56 10 11 (.aload_n 0) 0 := r56 (len := 1) (by decide +kernel) rfl
theorem e56_11 : amT 56 11 14 (.getfield 13) 576 := r56 (len := 3) (by decide +kernel) rfl
theorem e56_14 : amT 56 14 15 (.aload_n 0) 0 := r56 (len := 1) (by decide +kernel) rfl
theorem e56_15 : amT 56 15 18 (.getfield 17) 577 := r56 (len := 3) (by decide +kernel) rfl
theorem e56_18 : amT 56 18 19 (.aaload) 0 := r56 (len := 1) (by decide +kernel) rfl
theorem e56_19 : amT 56 19 20 (.aload_n 1) 0 := r56 (len := 1) (by decide +kernel) rfl
theorem e56_20 : amT 56 20 23 (.invokevirtual 26) 8 := r56 (len := 3) (by decide +kernel) rfl
theorem e56_23 : amT 56 23 24 (.aload_n 0) 0 := r56 (len := 1) (by decide +kernel) rfl
theorem e56_24 : amT 56 24 25 (.dup) 0 := r56 (len := 1) (by decide +kernel) rfl
theorem e56_25 : amT 56 25 28 (.getfield 17) 577 := r56 (len := 3) (by decide +kernel) rfl
theorem e56_28 : amT 56 28 29 (.iconst 1) 0 := r56 (len := 1) (by decide +kernel) rfl
theorem e56_29 : amT 56 29 30 (.iadd) 0 := r56 (len := 1) (by decide +kernel) rfl
theorem e56_30 : amT 56 30 33 (.putfield 17) 577 := r56 (len := 3) (by decide +kernel) rfl
theorem e56_33 : amT 56 33 34 (.aload_n 0) 0 := r56 (len := 1) (by decide +kernel) rfl
theorem e56_34 : amT 56 34 37 (.getfield 17) 577 := r56 (len := 3) (by decide +kernel) rfl
theorem e56_37 : amT 56 37 38 (.iconst 1) 0 := r56 (len := 1) (by decide +kernel) rfl
theorem e56_38 : amT 56 38 39 (.isub) 0 := r56 (len := 1) (by decide +kernel) rfl
theorem e56_39 : amT 56 39 40 (.ireturn) 0 := r56 (len := 1) (by decide +kernel) rfl
theorem q57 : amCs.getD 57 [] = amC_57 := rfl
theorem r57 {pc pc' len op : Nat} {i : Instr} (h : amC_57.lookup pc = some (i, len, op)) (h2 : pc + len = pc') : amT 57 pc pc' i op := ⟨len, by unfold amEnt; rw [q57]; exact h, h2⟩
theorem e57_0 : amT 57 0 1 (.iload_n 1) 0 := r57 (len := 1) (by decide +kernel) rfl
theorem e57_1 : amT 57 1 4 (.ifCond .lt 16) 0 := r57 (len := 3) (by decide +kernel) rfl
theorem t57_1 : amTg 1 16 = some 17 := by decide
theorem e57_4 : amT 57 4 5 (.iload_n 1) 0 := r57 (len := 1) (by decide +kernel) rfl
theorem e57_5 : amT 57 5 6 (.aload_n 0) 0 := r57 (len := 1) (by decide +kernel) rfl
theorem e57_6 : amT 57 6 9 (.getfield 17) 577 := r57 (len := 3) (by decide +kernel) rfl
theorem e57_9 : amT 57 9 12 (.if_icmp .ge 8) 0 := r57 (len := 3) (by decide +kernel) rfl
theorem t57_9 : amTg 9 8 = some 17 := by decide
theorem e57_12 : amT 57 12 13 (.aload_n 0) 0 := r57 (len := 1) (by decide +kernel) rfl
theorem e57_13 : amT 57 13 14 (.iload_n 1) 0 := r57 (len := 1) (by decide +kernel) rfl
theorem e57_14 : amT 57 14 17 (.putfield 17) 577 := r57 (len := 3) (by decide +kernel) rfl
theorem e57_17 : amT 57 17 18 (.return_) 0 := r57 (len := 1) (by decide +kernel) rfl
theorem q58 : amCs.getD 58 [] = amC_58 := rfl
theorem r58 {pc pc' len op : Nat} {i : Instr} (h : amC_58.lookup pc = some (i, len, op)) (h2 : pc + len = pc') : amT 58 pc pc' i op := ⟨len, by unfold amEnt; rw [q58]; exact h, h2⟩
theorem e58_0 : amT 58 0 1 (.iconst 0) 0 := r58 (len := 1) (by decide +kernel) rfl
theorem e58_1 : amT 58 1 2 (.istore_n 2) 0 := r58 (len := 1) (by decide +kernel) rfl
theorem e58_2 : amT 58 2 3 (.iconst 0) 0 := r58 (len := 1) (by decide +kernel) rfl
theorem e58_3 : amT 58 3 4 (.istore_n 3) 0 := r58 (len := 1) (by decide +kernel) rfl
theorem e58_4 : amT 58 4 5 (.iload_n 3) 0 := r58 (len := 1) (by decide +kernel) rfl
theorem e58_5 : amT 58 5 6 (.aload_n 0) 0 := r58 (len := 1) (by decide +kernel) rfl
theorem e58_6 : amT 58 6 9 (.getfield 17) 577 := r58 (len := 3) (by decide +kernel) rfl
theorem e58_9 : amT 58 9 12 (.if_icmp .ge 25) 0 := r58 (len := 3) (by decide +kernel) rfl
theorem t58_9 : amTg 9 25 = some 34 := by decide
theorem e58_12 : amT 58 12 13 (.aload_n 0) 0 := r58 (len := 1) (by decide +kernel) rfl
theorem e58_13 : amT 58 13 16 (.getfield 13) 576 := r58 (len := 3) (by decide +kernel) rfl
theorem e58_16 : amT 58 16 17 (.iload_n 3) 0 := r58 (len := 1) (by decide +kernel) rfl
theorem e58_17 : amT 58 17 18 (.aaload) 0 := r58 (len := 1) (by decide +kernel) rfl
theorem e58_18 : amT 58 18 19 (.aload_n 1) 0 := r58 (len := 1) (by decide +kernel) rfl
theorem e58_19 : amT 58 19 22 (.invokevirtual 30) 9 := r58 (len := 3) (by decide +kernel) rfl
theorem e58_22 : amT 58 22 25 (.ifCond .eq 6) 0 := r58 (len := 3) (by decide +kernel) rfl
theorem t58_22 : amTg 22 6 = some 28 := by decide
theorem e58_25 : amT 58 25 28 (.iinc 2 1) 0 := r58 (len := 3) (by decide +kernel) rfl
theorem e58_28 : amT 58 28 31 (.iinc 3 1) 0 := r58 (len := 3) (by decide +kernel) rfl
theorem e58_31 : amT 58 31 34 (.goto (-27)) 0 := r58 (len := 3) (by decide +kernel) rfl
theorem t58_31 : amTg 31 (-27) = some 4 := by decide
theorem e58_34 : amT 58 34 35 (.iload_n 2) 0 := r58 (len := 1) (by decide +kernel) rfl
theorem e58_35 : amT 58 35 36 (.ireturn) 0 := r58 (len := 1) (by decide +kernel) rfl
theorem q59 : amCs.getD 59 [] = amC_59 := rfl
theorem r59 {pc pc' len op : Nat} {i : Instr} (h : amC_59.lookup pc = some (i, len, op)) (h2 : pc + len = pc') : amT 59 pc pc' i op := ⟨len, by unfold amEnt; rw [q59]; exact h, h2⟩
theorem e59_0 : amT 59 0 1 (.aload_n 0) 0 := r59 (len := 1) (by decide +kernel) rfl
theorem e59_1 : amT 59 1 2 (.aload_n 1) 0 := r59 (len := 1) (by decide +kernel) rfl
theorem e59_2 : amT 59 2 5 (.getfield 17) 577 := r59 (len := 3) (by decide +kernel) rfl
theorem e59_5 : amT 59 5 8 (.putfield 17) 577 := r59 (len := 3) (by decide +kernel) rfl
theorem e59_8 : amT 59 8 9 (.iconst 0) 0 := r59 (len := 1) (by decide +kernel) rfl
theorem e59_9 : amT 59 9 10 (.istore_n 2) 0 := r59 (len := 1) (by decide +kernel) rfl
theorem e59_10 : amT 59 10 11 (.iload_n 2) 0 := r59 (len := 1) (by decide +kernel) rfl
theorem e59_11 : amT 59 11 12 (.aload_n 0) 0 := r59 (len := 1) (by decide +kernel) rfl
theorem e59_12 : amT 59 12 15 (.getfield 17) 577 := r59 (len := 3) (by decide +kernel) rfl
theorem e59_15 : amT 59 15 18 (.if_icmp .ge 24) 0 := r59 (len := 3) (by decide +kernel) rfl
theorem t59_15 : amTg 15 24 = some 39 := by decide
theorem e59_18 : amT 59 18 19 (.aload_n 0) 0 := r59 (len := 1) (by decide +kernel) rfl
theorem e59_19 : amT 59 19 22 (.getfield 13) 576 := r59 (len := 3) (by decide +kernel) rfl
theorem e59_22 : amT 59 22 23 (.iload_n 2) 0 := r59 (len := 1) (by decide +kernel) rfl
theorem e59_23 : amT 59 23 24 (.aaload) 0 := r59 (len := 1) (by decide +kernel) rfl
theorem e59_24 : amT 59 24 25 (.aload_n 1) 0 := r59 (len := 1) (by decide +kernel) rfl
theorem e59_25 : amT 59 25 28 (.getfield 13) 576 := r59 (len := 3) (by decide +kernel) rfl
theorem e59_28 : amT 59 28 29 (.iload_n 2) 0 := r59 (len := 1) (by decide +kernel) rfl
theorem e59_29 : amT 59 29 30 (.aaload) 0 := r59 (len := 1) (by decide +kernel) rfl
theorem e59_30 : amT 59 30 33 (.invokevirtual 26) 8 := r59 (len := 3) (by decide +kernel) rfl
theorem e59_33 : amT 59 33 36 (.iinc 2 1) 0 := r59 (len := 3) (by decide +kernel) rfl
theorem e59_36 : amT 59 36 39 (.goto (-26)) 0 := r59 (len := 3) (by decide +kernel) rfl
theorem t59_36 : amTg 36 (-26) = some 10 := by decide
theorem e59_39 : amT 59 39 40 (.return_) 0 := r59 (len := 1) (by decide +kernel) rfl
theorem q61 : amCs.getD 61 [] = amC_61 := rfl
theorem r61 {pc pc' len op : Nat} {i : Instr} (h : amC_61.lookup pc = some (i, len, op)) (h2 : pc + len = pc') : amT 61 pc pc' i op := ⟨len, by unfold amEnt; rw [q61]; exact h, h2⟩
theorem e61_0 : amT 61 0 1 (.aload_n 1) 0 := r61 (len := 1) (by decide +kernel) rfl
theorem e61_1 : amT 61 1 4 (.invokevirtual 26) 42 := r61 (len := 3) (by decide +kernel) rfl
theorem e61_4 : amT 61 4 6 (.istore 4) 0 := r61 (len := 2) (by decide +kernel) rfl
theorem e61_6 : amT 61 6 7 (.aload_n 0) 0 := r61 (len := 1) (by decide +kernel) rfl
theorem e61_7 : amT 61 7 9 (.iload 4) 0 := r61 (len := 2) (by decide +kernel) rfl
theorem e61_9 : amT 61 9 10 (.ineg) 0 := r61 (len := 1) (by decide +kernel) rfl
theorem e61_10 : amT 61 10 11 (.i2l) 0 := r61 (len := 1) (by decide +kernel) rfl
theorem e61_11 : amT 61 11 14 (.putfield 7) 128 := r61 (len := 3) (by decide +kernel) rfl
theorem e61_14 : amT 61 14 15 (.aload_n 0) 0 := r61 (len := 1) (by decide +kernel) rfl
theorem e61_15 : amT 61 15 17 (.iload 4) 0 := r61 (len := 2) (by decide +kernel) rfl
theorem e61_17 : amT 61 17 18 (.i2l) 0 := r61 (len := 1) (by decide +kernel) rfl
theorem e61_18 : amT 61 18 21 (.putfield 13) 129 := r61 (len := 3) (by decide +kernel) rfl
theorem e61_21 : amT 61 21 22 (.aload_n 0) 0 := r61 (len := 1) (by decide +kernel) rfl
theorem e61_22 : amT 61 22 23 (.lconst 1) 0 := r61 (len := 1) (by decide +kernel) rfl
theorem e61_23 : amT 61 23 26 (.putfield 16) 130 := r61 (len := 3) (by decide +kernel) rfl
theorem e61_26 : amT 61 26 27 (.aload_n 0) 0 := r61 (len := 1) (by decide +kernel) rfl
theorem e61_27 : amT 61 27 28 (.aload_n 1) 0 := r61 (len := 1) (by decide +kernel) rfl
theorem e61_28 : amT 61 28 31 (.invokevirtual 32) 37 := r61 (len := 3) (by decide +kernel) rfl
theorem e61_31 : amT 61 31 34 (.putfield 19) 131 := r61 (len := 3) (by decide +kernel) rfl
theorem e61_34 : amT 61 34 35 (.aload_n 0) 0 := r61 (len := 1) (by decide +kernel) rfl
theorem e61_35 : amT 61 35 36 (.aload_n 1) 0 := r61 (len := 1) (by decide +kernel) rfl
theorem e61_36 : amT 61 36 39 (.invokevirtual 35) 38 := r61 (len := 3) (by decide +kernel) rfl
theorem e61_39 : amT 61 39 42 (.putfield 23) 132 := r61 (len := 3) (by decide +kernel) rfl
theorem e61_42 : amT 61 42 44 (.iload 4) 0 := r61 (len := 2) (by decide +kernel) rfl
theorem e61_44 : amT 61 44 47 (.ifCond .le 17) 0 := r61 (len := 3) (by decide +kernel) rfl
theorem t61_44 : amTg 44 17 = some 61 := by decide
theorem e61_47 : amT 61 47 48 (.aload_n 0) 0 := r61 (len := 1) (by decide +kernel) rfl
theorem e61_48 : amT 61 48 49 (.aload_n 1) 0 := r61 (len := 1) (by decide +kernel) rfl
theorem e61_49 : amT 61 49 50 (.iload_n 2) 0 := r61 (len := 1) (by decide +kernel) rfl
theorem e61_50 : amT 61 50 51 (.iload_n 3) 0 := r61 (len := 1) (by decide +kernel) rfl
theorem e61_51 : amT 61 51 54 (.invokevirtual 38) 62 := r61 (len := 3) (by decide +kernel) rfl
theorem e61_54 : amT 61 54 57 (.ifCond .eq 7) 0 := r61 (len := 3) (by decide +kernel) rfl
theorem t61_54 : amTg 54 7 = some 61 := by decide
theorem e61_57 : amT 61 57 58 (.iconst 1) 0 := r61 (len := 1) (by decide +kernel) rfl
theorem e61_58 : amT 61 58 61 (.goto 4) 0 := r61 (len := 3) (by decide +kernel) rfl
theorem t61_58 : amTg 58 4 = some 62 := by decide
theorem e61_61 : amT 61 61 62 (.iconst 0) 0 := r61 (len := 1) (by decide +kernel) rfl
theorem e61_62 : amT 61 62 63 (.ireturn) 0 := r61 (len := 1) (by decide +kernel) rfl
theorem q62 : amCs.getD 62 [] = amC_62 := rfl
theorem r62 {pc pc' len op : Nat} {i : Instr} (h : amC_62.lookup pc = some (i, len, op)) (h2 : pc + len = pc') : amT 62 pc pc' i op := ⟨len, by unfold amEnt; rw [q62]; exact h, h2⟩
theorem e62_0 : amT 62 0 1 (.iconst 1) 0 := r62 (len := 1) (by decide +kernel) rfl
theorem e62_1 : amT 62 1 3 (.istore 4) 0 := r62 (len := 2) (by decide +kernel) rfl
theorem e62_3 : amT 62 3 4 (.iconst 0) 0 := r62 (len := 1) (by decide +kernel) rfl
theorem e62_4 : amT 62 4 6 (.istore 5) 0 := r62 (len := 2) (by decide +kernel) rfl
theorem e62_6 : amT 62 6 8 (.iload 5) 0 := r62 (len := 2) (by decide +kernel) rfl
theorem e62_8 : amT 62 8 10 (.bipush 100) 0 := r62 (len := 2) (by decide +kernel) rfl
theorem e62_10 : amT 62 10 13 (.if_icmp .ge 56) 0 := r62 (len := 3) (by decide +kernel) rfl
theorem t62_10 : amTg 10 56 = some 66 := by decide
theorem e62_13 : amT 62 13 15 (.iload 4) 0 := r62 (len := 2) (by decide +kernel) rfl
theorem e62_15 : amT 62 15 18 (.ifCond .eq 51) 0 := r62 (len := 3) (by decide +kernel) rfl
theorem t62_15 : amTg 15 51 = some 66 := by decide
theorem e62_18 : amT 62 18 19 (.aload_n 0) 0 := r62 (len := 1) (by decide +kernel) rfl
theorem e62_19 : amT 62 19 22 (.getfield 19) 131 := r62 (len := 3) (by decide +kernel) rfl
theorem e62_22 : amT 62 22 23 (.aload_n 0) 0 := r62 (len := 1) (by decide +kernel) rfl
theorem e62_23 : amT 62 23 26 (.getfield 23) 132 := r62 (len := 3) (by decide +kernel) rfl
theorem e62_26 : amT 62 26 27 (.isub) 0 := r62 (len := 1) (by decide +kernel) rfl
theorem e62_27 : amT 62 27 28 (.iconst 1) 0 := r62 (len := 1) (by decide +kernel) rfl
theorem e62_28 : amT 62 28 31 (.if_icmp .gt 24) 0 := r62 (len := 3) (by decide +kernel) rfl
theorem t62_28 : amTg 28 24 = some 52 := by decide
theorem e62_31 : amT 62 31 32 (.aload_n 0) 0 := r62 (len := 1) (by decide +kernel) rfl
theorem e62_32 : amT 62 32 35 (.getfield 13) 129 := r62 (len := 3) (by decide +kernel) rfl
theorem e62_35 : amT 62 35 36 (.aload_n 0) 0 := r62 (len := 1) (by decide +kernel) rfl
theorem e62_36 : amT 62 36 39 (.getfield 7) 128 := r62 (len := 3) (by decide +kernel) rfl
theorem e62_39 : amT 62 39 40 (.lsub) 0 := r62 (len := 1) (by decide +kernel) rfl
theorem e62_40 : amT 62 40 41 (.iload_n 3) 0 := r62 (len := 1) (by decide +kernel) rfl
theorem e62_41 : amT 62 41 42 (.lshl) 0 := r62 (len := 1) (by decide +kernel) rfl
theorem e62_42 : amT 62 42 43 (.aload_n 0) 0 := r62 (len := 1) (by decide +kernel) rfl
theorem e62_43 : amT 62 43 46 (.getfield 16) 130 := r62 (len := 3) (by decide +kernel) rfl
theorem e62_46 : amT 62 46 47 (.lcmp) 0 := r62 (len := 1) (by decide +kernel) rfl
theorem e62_47 : amT 62 47 50 (.ifCond .gt 5) 0 := r62 (len := 3) (by decide +kernel) rfl
theorem t62_47 : amTg 47 5 = some 52 := by decide
theorem e62_50 : amT 62 50 51 (.iconst 1) 0 := r62 (len := 1) (by decide +kernel) rfl
theorem e62_51 : amT 62 51 52 (.ireturn) 0 := r62 (len := 1) (by decide +kernel) rfl
theorem e62_52 : amT 62 52 53 (.aload_n 0) 0 := r62 (len := 1) (by decide +kernel) rfl
theorem e62_53 : amT 62 53 54 (.aload_n 1) 0 := r62 (len := 1) (by decide +kernel) rfl
theorem e62_54 : amT 62 54 55 (.iload_n 2) 0 := r62 (len := 1) (by decide +kernel) rfl
theorem e62_55 : amT 62 55 58 (.invokevirtual 42) 63 := r62 (len := 3) (by decide +kernel) rfl
theorem e62_58 : amT 62 58 60 (.istore 4) 0 := r62 (len := 2) (by decide +kernel) rfl
theorem e62_60 : amT 62 60 63 (.iinc 5 1) 0 := r62 (len := 3) (by decide +kernel) rfl
theorem e62_63 : amT 62 63 66 (.goto (-57)) 0 := r62 (len := 3) (by decide +kernel) rfl
theorem t62_63 : amTg 63 (-57) = some 6 := by decide
theorem e62_66 : amT 62 66 67 (.iconst 0) 0 := r62 (len := 1) (by decide +kernel) rfl
theorem e62_67 : amT 62 67 68 (.ireturn) 0 := r62 (len := 1) (by decide +kernel) rfl

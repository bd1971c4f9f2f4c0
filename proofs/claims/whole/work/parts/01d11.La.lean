abbrev cLa_law : ByteArray := code
def yLa_law : MethodName := ⟨RLa, "law", "([I)Z"⟩
theorem dLa_law_0 : decode cLa_law 0 = .ok (.new 7, 3) := by decide +kernel
theorem dLa_law_3 : decode cLa_law 3 = .ok (.dup, 1) := by decide +kernel
theorem dLa_law_4 : decode cLa_law 4 = .ok (.invokespecial 9, 3) := by decide +kernel
theorem dLa_law_7 : decode cLa_law 7 = .ok (.astore_n 1, 1) := by decide +kernel
theorem dLa_law_8 : decode cLa_law 8 = .ok (.new 10, 3) := by decide +kernel
theorem dLa_law_11 : decode cLa_law 11 = .ok (.dup, 1) := by decide +kernel
theorem dLa_law_12 : decode cLa_law 12 = .ok (.invokespecial 12, 3) := by decide +kernel
theorem dLa_law_15 : decode cLa_law 15 = .ok (.astore_n 2, 1) := by decide +kernel
theorem dLa_law_16 : decode cLa_law 16 = .ok (.iconst 0, 1) := by decide +kernel
theorem dLa_law_17 : decode cLa_law 17 = .ok (.istore_n 3, 1) := by decide +kernel
theorem dLa_law_18 : decode cLa_law 18 = .ok (.iload_n 3, 1) := by decide +kernel
theorem dLa_law_19 : decode cLa_law 19 = .ok (.aload_n 0, 1) := by decide +kernel
theorem dLa_law_20 : decode cLa_law 20 = .ok (.arraylength, 1) := by decide +kernel
theorem dLa_law_21 : decode cLa_law 21 = .ok (.iconst 4, 1) := by decide +kernel
theorem dLa_law_22 : decode cLa_law 22 = .ok (.isub, 1) := by decide +kernel
theorem dLa_law_23 : decode cLa_law 23 = .ok (.if_icmp .gt 706, 3) := by decide +kernel
theorem dLa_law_26 : decode cLa_law 26 = .ok (.aload_n 0, 1) := by decide +kernel
theorem dLa_law_27 : decode cLa_law 27 = .ok (.iload_n 3, 1) := by decide +kernel
theorem dLa_law_28 : decode cLa_law 28 = .ok (.iaload, 1) := by decide +kernel
theorem dLa_law_29 : decode cLa_law 29 = .ok (.bipush 31, 2) := by decide +kernel
theorem dLa_law_31 : decode cLa_law 31 = .ok (.iand, 1) := by decide +kernel
theorem dLa_law_32 : decode cLa_law 32 = .ok (.tableswitch 691 0 19 #[96, 119, 142, 185, 218, 251, 274, 307, 330, 363, 386, 400, 444, 458, 481, 515, 528, 561, 624, 667], 96) := by decide +kernel
theorem dLa_law_128 : decode cLa_law 128 = .ok (.aload_n 1, 1) := by decide +kernel
theorem dLa_law_129 : decode cLa_law 129 = .ok (.aload_n 0, 1) := by decide +kernel
theorem dLa_law_130 : decode cLa_law 130 = .ok (.iload_n 3, 1) := by decide +kernel
theorem dLa_law_131 : decode cLa_law 131 = .ok (.iconst 1, 1) := by decide +kernel
theorem dLa_law_132 : decode cLa_law 132 = .ok (.iadd, 1) := by decide +kernel
theorem dLa_law_133 : decode cLa_law 133 = .ok (.iaload, 1) := by decide +kernel
theorem dLa_law_134 : decode cLa_law 134 = .ok (.invokevirtual 13, 3) := by decide +kernel
theorem dLa_law_137 : decode cLa_law 137 = .ok (.aload_n 2, 1) := by decide +kernel
theorem dLa_law_138 : decode cLa_law 138 = .ok (.aload_n 0, 1) := by decide +kernel
theorem dLa_law_139 : decode cLa_law 139 = .ok (.iload_n 3, 1) := by decide +kernel
theorem dLa_law_140 : decode cLa_law 140 = .ok (.iconst 1, 1) := by decide +kernel
theorem dLa_law_141 : decode cLa_law 141 = .ok (.iadd, 1) := by decide +kernel
theorem dLa_law_142 : decode cLa_law 142 = .ok (.iaload, 1) := by decide +kernel
theorem dLa_law_143 : decode cLa_law 143 = .ok (.invokevirtual 17, 3) := by decide +kernel
theorem dLa_law_146 : decode cLa_law 146 = .ok (.if_icmp .eq 577, 3) := by decide +kernel
theorem dLa_law_149 : decode cLa_law 149 = .ok (.iconst 0, 1) := by decide +kernel
theorem dLa_law_150 : decode cLa_law 150 = .ok (.ireturn, 1) := by decide +kernel
theorem dLa_law_151 : decode cLa_law 151 = .ok (.aload_n 1, 1) := by decide +kernel
theorem dLa_law_152 : decode cLa_law 152 = .ok (.aload_n 0, 1) := by decide +kernel
theorem dLa_law_153 : decode cLa_law 153 = .ok (.iload_n 3, 1) := by decide +kernel
theorem dLa_law_154 : decode cLa_law 154 = .ok (.iconst 1, 1) := by decide +kernel
theorem dLa_law_155 : decode cLa_law 155 = .ok (.iadd, 1) := by decide +kernel
theorem dLa_law_156 : decode cLa_law 156 = .ok (.iaload, 1) := by decide +kernel
theorem dLa_law_157 : decode cLa_law 157 = .ok (.invokevirtual 18, 3) := by decide +kernel
theorem dLa_law_160 : decode cLa_law 160 = .ok (.aload_n 2, 1) := by decide +kernel
theorem dLa_law_161 : decode cLa_law 161 = .ok (.aload_n 0, 1) := by decide +kernel
theorem dLa_law_162 : decode cLa_law 162 = .ok (.iload_n 3, 1) := by decide +kernel
theorem dLa_law_163 : decode cLa_law 163 = .ok (.iconst 1, 1) := by decide +kernel
theorem dLa_law_164 : decode cLa_law 164 = .ok (.iadd, 1) := by decide +kernel
theorem dLa_law_165 : decode cLa_law 165 = .ok (.iaload, 1) := by decide +kernel
theorem dLa_law_166 : decode cLa_law 166 = .ok (.invokevirtual 21, 3) := by decide +kernel
theorem dLa_law_169 : decode cLa_law 169 = .ok (.if_icmp .eq 554, 3) := by decide +kernel
theorem dLa_law_172 : decode cLa_law 172 = .ok (.iconst 0, 1) := by decide +kernel
theorem dLa_law_173 : decode cLa_law 173 = .ok (.ireturn, 1) := by decide +kernel
theorem dLa_law_174 : decode cLa_law 174 = .ok (.aload_n 1, 1) := by decide +kernel
theorem dLa_law_175 : decode cLa_law 175 = .ok (.aload_n 0, 1) := by decide +kernel
theorem dLa_law_176 : decode cLa_law 176 = .ok (.iload_n 3, 1) := by decide +kernel
theorem dLa_law_177 : decode cLa_law 177 = .ok (.iconst 1, 1) := by decide +kernel
theorem dLa_law_178 : decode cLa_law 178 = .ok (.iadd, 1) := by decide +kernel
theorem dLa_law_179 : decode cLa_law 179 = .ok (.iaload, 1) := by decide +kernel
theorem dLa_law_180 : decode cLa_law 180 = .ok (.aload_n 0, 1) := by decide +kernel
theorem dLa_law_181 : decode cLa_law 181 = .ok (.iload_n 3, 1) := by decide +kernel
theorem dLa_law_182 : decode cLa_law 182 = .ok (.iconst 2, 1) := by decide +kernel
theorem dLa_law_183 : decode cLa_law 183 = .ok (.iadd, 1) := by decide +kernel
theorem dLa_law_184 : decode cLa_law 184 = .ok (.iaload, 1) := by decide +kernel
theorem dLa_law_185 : decode cLa_law 185 = .ok (.aload_n 0, 1) := by decide +kernel
theorem dLa_law_186 : decode cLa_law 186 = .ok (.iload_n 3, 1) := by decide +kernel
theorem dLa_law_187 : decode cLa_law 187 = .ok (.iconst 3, 1) := by decide +kernel
theorem dLa_law_188 : decode cLa_law 188 = .ok (.iadd, 1) := by decide +kernel
theorem dLa_law_189 : decode cLa_law 189 = .ok (.iaload, 1) := by decide +kernel
theorem dLa_law_190 : decode cLa_law 190 = .ok (.invokevirtual 22, 3) := by decide +kernel
theorem dLa_law_193 : decode cLa_law 193 = .ok (.aload_n 2, 1) := by decide +kernel
theorem dLa_law_194 : decode cLa_law 194 = .ok (.aload_n 0, 1) := by decide +kernel
theorem dLa_law_195 : decode cLa_law 195 = .ok (.iload_n 3, 1) := by decide +kernel
theorem dLa_law_196 : decode cLa_law 196 = .ok (.iconst 1, 1) := by decide +kernel
theorem dLa_law_197 : decode cLa_law 197 = .ok (.iadd, 1) := by decide +kernel
theorem dLa_law_198 : decode cLa_law 198 = .ok (.iaload, 1) := by decide +kernel
theorem dLa_law_199 : decode cLa_law 199 = .ok (.aload_n 0, 1) := by decide +kernel
theorem dLa_law_200 : decode cLa_law 200 = .ok (.iload_n 3, 1) := by decide +kernel
theorem dLa_law_201 : decode cLa_law 201 = .ok (.iconst 2, 1) := by decide +kernel
theorem dLa_law_202 : decode cLa_law 202 = .ok (.iadd, 1) := by decide +kernel
theorem dLa_law_203 : decode cLa_law 203 = .ok (.iaload, 1) := by decide +kernel
theorem dLa_law_204 : decode cLa_law 204 = .ok (.aload_n 0, 1) := by decide +kernel
theorem dLa_law_205 : decode cLa_law 205 = .ok (.iload_n 3, 1) := by decide +kernel
theorem dLa_law_206 : decode cLa_law 206 = .ok (.iconst 3, 1) := by decide +kernel
theorem dLa_law_207 : decode cLa_law 207 = .ok (.iadd, 1) := by decide +kernel
theorem dLa_law_208 : decode cLa_law 208 = .ok (.iaload, 1) := by decide +kernel
theorem dLa_law_209 : decode cLa_law 209 = .ok (.invokevirtual 26, 3) := by decide +kernel
theorem dLa_law_212 : decode cLa_law 212 = .ok (.if_icmp .eq 511, 3) := by decide +kernel
theorem dLa_law_215 : decode cLa_law 215 = .ok (.iconst 0, 1) := by decide +kernel
theorem dLa_law_216 : decode cLa_law 216 = .ok (.ireturn, 1) := by decide +kernel
theorem dLa_law_217 : decode cLa_law 217 = .ok (.aload_n 1, 1) := by decide +kernel
theorem dLa_law_218 : decode cLa_law 218 = .ok (.aload_n 0, 1) := by decide +kernel
theorem dLa_law_219 : decode cLa_law 219 = .ok (.iload_n 3, 1) := by decide +kernel
theorem dLa_law_220 : decode cLa_law 220 = .ok (.iconst 1, 1) := by decide +kernel
theorem dLa_law_221 : decode cLa_law 221 = .ok (.iadd, 1) := by decide +kernel
theorem dLa_law_222 : decode cLa_law 222 = .ok (.iaload, 1) := by decide +kernel
theorem dLa_law_223 : decode cLa_law 223 = .ok (.aload_n 0, 1) := by decide +kernel
theorem dLa_law_224 : decode cLa_law 224 = .ok (.iload_n 3, 1) := by decide +kernel
theorem dLa_law_225 : decode cLa_law 225 = .ok (.iconst 2, 1) := by decide +kernel
theorem dLa_law_226 : decode cLa_law 226 = .ok (.iadd, 1) := by decide +kernel
theorem dLa_law_227 : decode cLa_law 227 = .ok (.iaload, 1) := by decide +kernel
theorem dLa_law_228 : decode cLa_law 228 = .ok (.invokevirtual 27, 3) := by decide +kernel
theorem dLa_law_231 : decode cLa_law 231 = .ok (.aload_n 2, 1) := by decide +kernel
theorem dLa_law_232 : decode cLa_law 232 = .ok (.aload_n 0, 1) := by decide +kernel
theorem dLa_law_233 : decode cLa_law 233 = .ok (.iload_n 3, 1) := by decide +kernel
theorem dLa_law_234 : decode cLa_law 234 = .ok (.iconst 1, 1) := by decide +kernel
theorem dLa_law_235 : decode cLa_law 235 = .ok (.iadd, 1) := by decide +kernel
theorem dLa_law_236 : decode cLa_law 236 = .ok (.iaload, 1) := by decide +kernel
theorem dLa_law_237 : decode cLa_law 237 = .ok (.aload_n 0, 1) := by decide +kernel
theorem dLa_law_238 : decode cLa_law 238 = .ok (.iload_n 3, 1) := by decide +kernel
theorem dLa_law_239 : decode cLa_law 239 = .ok (.iconst 2, 1) := by decide +kernel
theorem dLa_law_240 : decode cLa_law 240 = .ok (.iadd, 1) := by decide +kernel
theorem dLa_law_241 : decode cLa_law 241 = .ok (.iaload, 1) := by decide +kernel
theorem dLa_law_242 : decode cLa_law 242 = .ok (.invokevirtual 31, 3) := by decide +kernel
theorem dLa_law_245 : decode cLa_law 245 = .ok (.if_icmp .eq 478, 3) := by decide +kernel
theorem dLa_law_248 : decode cLa_law 248 = .ok (.iconst 0, 1) := by decide +kernel
theorem dLa_law_249 : decode cLa_law 249 = .ok (.ireturn, 1) := by decide +kernel
theorem dLa_law_250 : decode cLa_law 250 = .ok (.aload_n 1, 1) := by decide +kernel
theorem dLa_law_251 : decode cLa_law 251 = .ok (.aload_n 0, 1) := by decide +kernel
theorem dLa_law_252 : decode cLa_law 252 = .ok (.iload_n 3, 1) := by decide +kernel
theorem dLa_law_253 : decode cLa_law 253 = .ok (.iconst 1, 1) := by decide +kernel
theorem dLa_law_254 : decode cLa_law 254 = .ok (.iadd, 1) := by decide +kernel
theorem dLa_law_255 : decode cLa_law 255 = .ok (.iaload, 1) := by decide +kernel
theorem dLa_law_256 : decode cLa_law 256 = .ok (.aload_n 0, 1) := by decide +kernel
theorem dLa_law_257 : decode cLa_law 257 = .ok (.iload_n 3, 1) := by decide +kernel
theorem dLa_law_258 : decode cLa_law 258 = .ok (.iconst 2, 1) := by decide +kernel
theorem dLa_law_259 : decode cLa_law 259 = .ok (.iadd, 1) := by decide +kernel
theorem dLa_law_260 : decode cLa_law 260 = .ok (.iaload, 1) := by decide +kernel
theorem dLa_law_261 : decode cLa_law 261 = .ok (.invokevirtual 32, 3) := by decide +kernel
theorem dLa_law_264 : decode cLa_law 264 = .ok (.aload_n 2, 1) := by decide +kernel
theorem dLa_law_265 : decode cLa_law 265 = .ok (.aload_n 0, 1) := by decide +kernel
theorem dLa_law_266 : decode cLa_law 266 = .ok (.iload_n 3, 1) := by decide +kernel
theorem dLa_law_267 : decode cLa_law 267 = .ok (.iconst 1, 1) := by decide +kernel
theorem dLa_law_268 : decode cLa_law 268 = .ok (.iadd, 1) := by decide +kernel
theorem dLa_law_269 : decode cLa_law 269 = .ok (.iaload, 1) := by decide +kernel
theorem dLa_law_270 : decode cLa_law 270 = .ok (.aload_n 0, 1) := by decide +kernel
theorem dLa_law_271 : decode cLa_law 271 = .ok (.iload_n 3, 1) := by decide +kernel
theorem dLa_law_272 : decode cLa_law 272 = .ok (.iconst 2, 1) := by decide +kernel
theorem dLa_law_273 : decode cLa_law 273 = .ok (.iadd, 1) := by decide +kernel
theorem dLa_law_274 : decode cLa_law 274 = .ok (.iaload, 1) := by decide +kernel
theorem dLa_law_275 : decode cLa_law 275 = .ok (.invokevirtual 35, 3) := by decide +kernel
theorem dLa_law_278 : decode cLa_law 278 = .ok (.if_icmp .eq 445, 3) := by decide +kernel
theorem dLa_law_281 : decode cLa_law 281 = .ok (.iconst 0, 1) := by decide +kernel
theorem dLa_law_282 : decode cLa_law 282 = .ok (.ireturn, 1) := by decide +kernel
theorem dLa_law_283 : decode cLa_law 283 = .ok (.aload_n 1, 1) := by decide +kernel
theorem dLa_law_284 : decode cLa_law 284 = .ok (.aload_n 0, 1) := by decide +kernel
theorem dLa_law_285 : decode cLa_law 285 = .ok (.iload_n 3, 1) := by decide +kernel
theorem dLa_law_286 : decode cLa_law 286 = .ok (.iconst 1, 1) := by decide +kernel
theorem dLa_law_287 : decode cLa_law 287 = .ok (.iadd, 1) := by decide +kernel
theorem dLa_law_288 : decode cLa_law 288 = .ok (.iaload, 1) := by decide +kernel
theorem dLa_law_289 : decode cLa_law 289 = .ok (.invokevirtual 36, 3) := by decide +kernel
theorem dLa_law_292 : decode cLa_law 292 = .ok (.aload_n 2, 1) := by decide +kernel
theorem dLa_law_293 : decode cLa_law 293 = .ok (.aload_n 0, 1) := by decide +kernel
theorem dLa_law_294 : decode cLa_law 294 = .ok (.iload_n 3, 1) := by decide +kernel
theorem dLa_law_295 : decode cLa_law 295 = .ok (.iconst 1, 1) := by decide +kernel
theorem dLa_law_296 : decode cLa_law 296 = .ok (.iadd, 1) := by decide +kernel
theorem dLa_law_297 : decode cLa_law 297 = .ok (.iaload, 1) := by decide +kernel
theorem dLa_law_298 : decode cLa_law 298 = .ok (.invokevirtual 39, 3) := by decide +kernel
theorem dLa_law_301 : decode cLa_law 301 = .ok (.if_icmp .eq 422, 3) := by decide +kernel
theorem dLa_law_304 : decode cLa_law 304 = .ok (.iconst 0, 1) := by decide +kernel
theorem dLa_law_305 : decode cLa_law 305 = .ok (.ireturn, 1) := by decide +kernel
theorem dLa_law_306 : decode cLa_law 306 = .ok (.aload_n 1, 1) := by decide +kernel
theorem dLa_law_307 : decode cLa_law 307 = .ok (.aload_n 0, 1) := by decide +kernel
theorem dLa_law_308 : decode cLa_law 308 = .ok (.iload_n 3, 1) := by decide +kernel
theorem dLa_law_309 : decode cLa_law 309 = .ok (.iconst 1, 1) := by decide +kernel
theorem dLa_law_310 : decode cLa_law 310 = .ok (.iadd, 1) := by decide +kernel
theorem dLa_law_311 : decode cLa_law 311 = .ok (.iaload, 1) := by decide +kernel
theorem dLa_law_312 : decode cLa_law 312 = .ok (.aload_n 0, 1) := by decide +kernel
theorem dLa_law_313 : decode cLa_law 313 = .ok (.iload_n 3, 1) := by decide +kernel
theorem dLa_law_314 : decode cLa_law 314 = .ok (.iconst 2, 1) := by decide +kernel
theorem dLa_law_315 : decode cLa_law 315 = .ok (.iadd, 1) := by decide +kernel
theorem dLa_law_316 : decode cLa_law 316 = .ok (.iaload, 1) := by decide +kernel
theorem dLa_law_317 : decode cLa_law 317 = .ok (.invokevirtual 40, 3) := by decide +kernel
theorem dLa_law_320 : decode cLa_law 320 = .ok (.aload_n 2, 1) := by decide +kernel
theorem dLa_law_321 : decode cLa_law 321 = .ok (.aload_n 0, 1) := by decide +kernel
theorem dLa_law_322 : decode cLa_law 322 = .ok (.iload_n 3, 1) := by decide +kernel
theorem dLa_law_323 : decode cLa_law 323 = .ok (.iconst 1, 1) := by decide +kernel
theorem dLa_law_324 : decode cLa_law 324 = .ok (.iadd, 1) := by decide +kernel
theorem dLa_law_325 : decode cLa_law 325 = .ok (.iaload, 1) := by decide +kernel
theorem dLa_law_326 : decode cLa_law 326 = .ok (.aload_n 0, 1) := by decide +kernel
theorem dLa_law_327 : decode cLa_law 327 = .ok (.iload_n 3, 1) := by decide +kernel
theorem dLa_law_328 : decode cLa_law 328 = .ok (.iconst 2, 1) := by decide +kernel
theorem dLa_law_329 : decode cLa_law 329 = .ok (.iadd, 1) := by decide +kernel
theorem dLa_law_330 : decode cLa_law 330 = .ok (.iaload, 1) := by decide +kernel
theorem dLa_law_331 : decode cLa_law 331 = .ok (.invokevirtual 43, 3) := by decide +kernel
theorem dLa_law_334 : decode cLa_law 334 = .ok (.if_icmp .eq 389, 3) := by decide +kernel
theorem dLa_law_337 : decode cLa_law 337 = .ok (.iconst 0, 1) := by decide +kernel
theorem dLa_law_338 : decode cLa_law 338 = .ok (.ireturn, 1) := by decide +kernel
theorem dLa_law_339 : decode cLa_law 339 = .ok (.aload_n 1, 1) := by decide +kernel
theorem dLa_law_340 : decode cLa_law 340 = .ok (.aload_n 0, 1) := by decide +kernel
theorem dLa_law_341 : decode cLa_law 341 = .ok (.iload_n 3, 1) := by decide +kernel
theorem dLa_law_342 : decode cLa_law 342 = .ok (.iconst 1, 1) := by decide +kernel
theorem dLa_law_343 : decode cLa_law 343 = .ok (.iadd, 1) := by decide +kernel
theorem dLa_law_344 : decode cLa_law 344 = .ok (.iaload, 1) := by decide +kernel
theorem dLa_law_345 : decode cLa_law 345 = .ok (.invokevirtual 44, 3) := by decide +kernel
theorem dLa_law_348 : decode cLa_law 348 = .ok (.aload_n 2, 1) := by decide +kernel
theorem dLa_law_349 : decode cLa_law 349 = .ok (.aload_n 0, 1) := by decide +kernel
theorem dLa_law_350 : decode cLa_law 350 = .ok (.iload_n 3, 1) := by decide +kernel
theorem dLa_law_351 : decode cLa_law 351 = .ok (.iconst 1, 1) := by decide +kernel
theorem dLa_law_352 : decode cLa_law 352 = .ok (.iadd, 1) := by decide +kernel
theorem dLa_law_353 : decode cLa_law 353 = .ok (.iaload, 1) := by decide +kernel
theorem dLa_law_354 : decode cLa_law 354 = .ok (.invokevirtual 47, 3) := by decide +kernel
theorem dLa_law_357 : decode cLa_law 357 = .ok (.if_icmp .eq 366, 3) := by decide +kernel
theorem dLa_law_360 : decode cLa_law 360 = .ok (.iconst 0, 1) := by decide +kernel
theorem dLa_law_361 : decode cLa_law 361 = .ok (.ireturn, 1) := by decide +kernel
theorem dLa_law_362 : decode cLa_law 362 = .ok (.aload_n 1, 1) := by decide +kernel
theorem dLa_law_363 : decode cLa_law 363 = .ok (.aload_n 0, 1) := by decide +kernel
theorem dLa_law_364 : decode cLa_law 364 = .ok (.iload_n 3, 1) := by decide +kernel
theorem dLa_law_365 : decode cLa_law 365 = .ok (.iconst 1, 1) := by decide +kernel
theorem dLa_law_366 : decode cLa_law 366 = .ok (.iadd, 1) := by decide +kernel
theorem dLa_law_367 : decode cLa_law 367 = .ok (.iaload, 1) := by decide +kernel
theorem dLa_law_368 : decode cLa_law 368 = .ok (.aload_n 0, 1) := by decide +kernel
theorem dLa_law_369 : decode cLa_law 369 = .ok (.iload_n 3, 1) := by decide +kernel
theorem dLa_law_370 : decode cLa_law 370 = .ok (.iconst 2, 1) := by decide +kernel
theorem dLa_law_371 : decode cLa_law 371 = .ok (.iadd, 1) := by decide +kernel
theorem dLa_law_372 : decode cLa_law 372 = .ok (.iaload, 1) := by decide +kernel
theorem dLa_law_373 : decode cLa_law 373 = .ok (.invokevirtual 48, 3) := by decide +kernel
theorem dLa_law_376 : decode cLa_law 376 = .ok (.aload_n 2, 1) := by decide +kernel
theorem dLa_law_377 : decode cLa_law 377 = .ok (.aload_n 0, 1) := by decide +kernel
theorem dLa_law_378 : decode cLa_law 378 = .ok (.iload_n 3, 1) := by decide +kernel
theorem dLa_law_379 : decode cLa_law 379 = .ok (.iconst 1, 1) := by decide +kernel
theorem dLa_law_380 : decode cLa_law 380 = .ok (.iadd, 1) := by decide +kernel
theorem dLa_law_381 : decode cLa_law 381 = .ok (.iaload, 1) := by decide +kernel
theorem dLa_law_382 : decode cLa_law 382 = .ok (.aload_n 0, 1) := by decide +kernel
theorem dLa_law_383 : decode cLa_law 383 = .ok (.iload_n 3, 1) := by decide +kernel
theorem dLa_law_384 : decode cLa_law 384 = .ok (.iconst 2, 1) := by decide +kernel
theorem dLa_law_385 : decode cLa_law 385 = .ok (.iadd, 1) := by decide +kernel
theorem dLa_law_386 : decode cLa_law 386 = .ok (.iaload, 1) := by decide +kernel
theorem dLa_law_387 : decode cLa_law 387 = .ok (.invokevirtual 51, 3) := by decide +kernel
theorem dLa_law_390 : decode cLa_law 390 = .ok (.if_icmp .eq 333, 3) := by decide +kernel
theorem dLa_law_393 : decode cLa_law 393 = .ok (.iconst 0, 1) := by decide +kernel
theorem dLa_law_394 : decode cLa_law 394 = .ok (.ireturn, 1) := by decide +kernel
theorem dLa_law_395 : decode cLa_law 395 = .ok (.aload_n 1, 1) := by decide +kernel
theorem dLa_law_396 : decode cLa_law 396 = .ok (.aload_n 0, 1) := by decide +kernel
theorem dLa_law_397 : decode cLa_law 397 = .ok (.iload_n 3, 1) := by decide +kernel
theorem dLa_law_398 : decode cLa_law 398 = .ok (.iconst 1, 1) := by decide +kernel
theorem dLa_law_399 : decode cLa_law 399 = .ok (.iadd, 1) := by decide +kernel
theorem dLa_law_400 : decode cLa_law 400 = .ok (.iaload, 1) := by decide +kernel
theorem dLa_law_401 : decode cLa_law 401 = .ok (.invokevirtual 52, 3) := by decide +kernel
theorem dLa_law_404 : decode cLa_law 404 = .ok (.aload_n 2, 1) := by decide +kernel
theorem dLa_law_405 : decode cLa_law 405 = .ok (.aload_n 0, 1) := by decide +kernel
theorem dLa_law_406 : decode cLa_law 406 = .ok (.iload_n 3, 1) := by decide +kernel
theorem dLa_law_407 : decode cLa_law 407 = .ok (.iconst 1, 1) := by decide +kernel
theorem dLa_law_408 : decode cLa_law 408 = .ok (.iadd, 1) := by decide +kernel
theorem dLa_law_409 : decode cLa_law 409 = .ok (.iaload, 1) := by decide +kernel
theorem dLa_law_410 : decode cLa_law 410 = .ok (.invokevirtual 55, 3) := by decide +kernel
theorem dLa_law_413 : decode cLa_law 413 = .ok (.if_icmp .eq 310, 3) := by decide +kernel
theorem dLa_law_416 : decode cLa_law 416 = .ok (.iconst 0, 1) := by decide +kernel
theorem dLa_law_417 : decode cLa_law 417 = .ok (.ireturn, 1) := by decide +kernel
theorem dLa_law_418 : decode cLa_law 418 = .ok (.aload_n 1, 1) := by decide +kernel
theorem dLa_law_419 : decode cLa_law 419 = .ok (.invokevirtual 56, 3) := by decide +kernel
theorem dLa_law_422 : decode cLa_law 422 = .ok (.aload_n 2, 1) := by decide +kernel
theorem dLa_law_423 : decode cLa_law 423 = .ok (.invokevirtual 60, 3) := by decide +kernel
theorem dLa_law_426 : decode cLa_law 426 = .ok (.lcmp, 1) := by decide +kernel
theorem dLa_law_427 : decode cLa_law 427 = .ok (.ifCond .eq 296, 3) := by decide +kernel
theorem dLa_law_430 : decode cLa_law 430 = .ok (.iconst 0, 1) := by decide +kernel
theorem dLa_law_431 : decode cLa_law 431 = .ok (.ireturn, 1) := by decide +kernel
theorem dLa_law_432 : decode cLa_law 432 = .ok (.aload_n 1, 1) := by decide +kernel
theorem dLa_law_433 : decode cLa_law 433 = .ok (.aload_n 0, 1) := by decide +kernel
theorem dLa_law_434 : decode cLa_law 434 = .ok (.iload_n 3, 1) := by decide +kernel
theorem dLa_law_435 : decode cLa_law 435 = .ok (.iconst 1, 1) := by decide +kernel
theorem dLa_law_436 : decode cLa_law 436 = .ok (.iadd, 1) := by decide +kernel
theorem dLa_law_437 : decode cLa_law 437 = .ok (.iaload, 1) := by decide +kernel
theorem dLa_law_438 : decode cLa_law 438 = .ok (.aload_n 0, 1) := by decide +kernel
theorem dLa_law_439 : decode cLa_law 439 = .ok (.iload_n 3, 1) := by decide +kernel
theorem dLa_law_440 : decode cLa_law 440 = .ok (.iconst 2, 1) := by decide +kernel
theorem dLa_law_441 : decode cLa_law 441 = .ok (.iadd, 1) := by decide +kernel
theorem dLa_law_442 : decode cLa_law 442 = .ok (.iaload, 1) := by decide +kernel
theorem dLa_law_443 : decode cLa_law 443 = .ok (.aload_n 0, 1) := by decide +kernel
theorem dLa_law_444 : decode cLa_law 444 = .ok (.iload_n 3, 1) := by decide +kernel
theorem dLa_law_445 : decode cLa_law 445 = .ok (.iconst 3, 1) := by decide +kernel
theorem dLa_law_446 : decode cLa_law 446 = .ok (.iadd, 1) := by decide +kernel
theorem dLa_law_447 : decode cLa_law 447 = .ok (.iaload, 1) := by decide +kernel
theorem dLa_law_448 : decode cLa_law 448 = .ok (.invokevirtual 61, 3) := by decide +kernel
theorem dLa_law_451 : decode cLa_law 451 = .ok (.aload_n 2, 1) := by decide +kernel
theorem dLa_law_452 : decode cLa_law 452 = .ok (.aload_n 0, 1) := by decide +kernel
theorem dLa_law_453 : decode cLa_law 453 = .ok (.iload_n 3, 1) := by decide +kernel
theorem dLa_law_454 : decode cLa_law 454 = .ok (.iconst 1, 1) := by decide +kernel
theorem dLa_law_455 : decode cLa_law 455 = .ok (.iadd, 1) := by decide +kernel
theorem dLa_law_456 : decode cLa_law 456 = .ok (.iaload, 1) := by decide +kernel
theorem dLa_law_457 : decode cLa_law 457 = .ok (.aload_n 0, 1) := by decide +kernel
theorem dLa_law_458 : decode cLa_law 458 = .ok (.iload_n 3, 1) := by decide +kernel
theorem dLa_law_459 : decode cLa_law 459 = .ok (.iconst 2, 1) := by decide +kernel
theorem dLa_law_460 : decode cLa_law 460 = .ok (.iadd, 1) := by decide +kernel
theorem dLa_law_461 : decode cLa_law 461 = .ok (.iaload, 1) := by decide +kernel
theorem dLa_law_462 : decode cLa_law 462 = .ok (.aload_n 0, 1) := by decide +kernel
theorem dLa_law_463 : decode cLa_law 463 = .ok (.iload_n 3, 1) := by decide +kernel
theorem dLa_law_464 : decode cLa_law 464 = .ok (.iconst 3, 1) := by decide +kernel
theorem dLa_law_465 : decode cLa_law 465 = .ok (.iadd, 1) := by decide +kernel
theorem dLa_law_466 : decode cLa_law 466 = .ok (.iaload, 1) := by decide +kernel
theorem dLa_law_467 : decode cLa_law 467 = .ok (.invokevirtual 65, 3) := by decide +kernel
theorem dLa_law_470 : decode cLa_law 470 = .ok (.lcmp, 1) := by decide +kernel
theorem dLa_law_471 : decode cLa_law 471 = .ok (.ifCond .eq 252, 3) := by decide +kernel
theorem dLa_law_474 : decode cLa_law 474 = .ok (.iconst 0, 1) := by decide +kernel
theorem dLa_law_475 : decode cLa_law 475 = .ok (.ireturn, 1) := by decide +kernel
theorem dLa_law_476 : decode cLa_law 476 = .ok (.aload_n 1, 1) := by decide +kernel
theorem dLa_law_477 : decode cLa_law 477 = .ok (.invokevirtual 66, 3) := by decide +kernel
theorem dLa_law_480 : decode cLa_law 480 = .ok (.aload_n 2, 1) := by decide +kernel
theorem dLa_law_481 : decode cLa_law 481 = .ok (.invokevirtual 69, 3) := by decide +kernel
theorem dLa_law_484 : decode cLa_law 484 = .ok (.lcmp, 1) := by decide +kernel
theorem dLa_law_485 : decode cLa_law 485 = .ok (.ifCond .eq 238, 3) := by decide +kernel
theorem dLa_law_488 : decode cLa_law 488 = .ok (.iconst 0, 1) := by decide +kernel
theorem dLa_law_489 : decode cLa_law 489 = .ok (.ireturn, 1) := by decide +kernel
theorem dLa_law_490 : decode cLa_law 490 = .ok (.aload_n 1, 1) := by decide +kernel
theorem dLa_law_491 : decode cLa_law 491 = .ok (.aload_n 0, 1) := by decide +kernel
theorem dLa_law_492 : decode cLa_law 492 = .ok (.iload_n 3, 1) := by decide +kernel
theorem dLa_law_493 : decode cLa_law 493 = .ok (.iconst 1, 1) := by decide +kernel
theorem dLa_law_494 : decode cLa_law 494 = .ok (.iadd, 1) := by decide +kernel
theorem dLa_law_495 : decode cLa_law 495 = .ok (.iaload, 1) := by decide +kernel
theorem dLa_law_496 : decode cLa_law 496 = .ok (.invokevirtual 70, 3) := by decide +kernel
theorem dLa_law_499 : decode cLa_law 499 = .ok (.aload_n 2, 1) := by decide +kernel
theorem dLa_law_500 : decode cLa_law 500 = .ok (.aload_n 0, 1) := by decide +kernel
theorem dLa_law_501 : decode cLa_law 501 = .ok (.iload_n 3, 1) := by decide +kernel
theorem dLa_law_502 : decode cLa_law 502 = .ok (.iconst 1, 1) := by decide +kernel
theorem dLa_law_503 : decode cLa_law 503 = .ok (.iadd, 1) := by decide +kernel
theorem dLa_law_504 : decode cLa_law 504 = .ok (.iaload, 1) := by decide +kernel
theorem dLa_law_505 : decode cLa_law 505 = .ok (.invokevirtual 73, 3) := by decide +kernel
theorem dLa_law_508 : decode cLa_law 508 = .ok (.if_icmp .eq 215, 3) := by decide +kernel
theorem dLa_law_511 : decode cLa_law 511 = .ok (.iconst 0, 1) := by decide +kernel
theorem dLa_law_512 : decode cLa_law 512 = .ok (.ireturn, 1) := by decide +kernel
theorem dLa_law_513 : decode cLa_law 513 = .ok (.aload_n 1, 1) := by decide +kernel
theorem dLa_law_514 : decode cLa_law 514 = .ok (.aload_n 0, 1) := by decide +kernel
theorem dLa_law_515 : decode cLa_law 515 = .ok (.iload_n 3, 1) := by decide +kernel
theorem dLa_law_516 : decode cLa_law 516 = .ok (.iconst 1, 1) := by decide +kernel
theorem dLa_law_517 : decode cLa_law 517 = .ok (.iadd, 1) := by decide +kernel
theorem dLa_law_518 : decode cLa_law 518 = .ok (.iaload, 1) := by decide +kernel
theorem dLa_law_519 : decode cLa_law 519 = .ok (.aload_n 0, 1) := by decide +kernel
theorem dLa_law_520 : decode cLa_law 520 = .ok (.iload_n 3, 1) := by decide +kernel
theorem dLa_law_521 : decode cLa_law 521 = .ok (.iconst 2, 1) := by decide +kernel
theorem dLa_law_522 : decode cLa_law 522 = .ok (.iadd, 1) := by decide +kernel
theorem dLa_law_523 : decode cLa_law 523 = .ok (.iaload, 1) := by decide +kernel
theorem dLa_law_524 : decode cLa_law 524 = .ok (.invokevirtual 74, 3) := by decide +kernel
theorem dLa_law_527 : decode cLa_law 527 = .ok (.aload_n 2, 1) := by decide +kernel
theorem dLa_law_528 : decode cLa_law 528 = .ok (.aload_n 0, 1) := by decide +kernel
theorem dLa_law_529 : decode cLa_law 529 = .ok (.iload_n 3, 1) := by decide +kernel
theorem dLa_law_530 : decode cLa_law 530 = .ok (.iconst 1, 1) := by decide +kernel
theorem dLa_law_531 : decode cLa_law 531 = .ok (.iadd, 1) := by decide +kernel
theorem dLa_law_532 : decode cLa_law 532 = .ok (.iaload, 1) := by decide +kernel
theorem dLa_law_533 : decode cLa_law 533 = .ok (.aload_n 0, 1) := by decide +kernel
theorem dLa_law_534 : decode cLa_law 534 = .ok (.iload_n 3, 1) := by decide +kernel
theorem dLa_law_535 : decode cLa_law 535 = .ok (.iconst 2, 1) := by decide +kernel
theorem dLa_law_536 : decode cLa_law 536 = .ok (.iadd, 1) := by decide +kernel
theorem dLa_law_537 : decode cLa_law 537 = .ok (.iaload, 1) := by decide +kernel
theorem dLa_law_538 : decode cLa_law 538 = .ok (.invokevirtual 78, 3) := by decide +kernel
theorem dLa_law_541 : decode cLa_law 541 = .ok (.lcmp, 1) := by decide +kernel
theorem dLa_law_542 : decode cLa_law 542 = .ok (.ifCond .eq 181, 3) := by decide +kernel
theorem dLa_law_545 : decode cLa_law 545 = .ok (.iconst 0, 1) := by decide +kernel
theorem dLa_law_546 : decode cLa_law 546 = .ok (.ireturn, 1) := by decide +kernel
theorem dLa_law_547 : decode cLa_law 547 = .ok (.aload_n 1, 1) := by decide +kernel
theorem dLa_law_548 : decode cLa_law 548 = .ok (.invokevirtual 79, 3) := by decide +kernel
theorem dLa_law_551 : decode cLa_law 551 = .ok (.aload_n 2, 1) := by decide +kernel
theorem dLa_law_552 : decode cLa_law 552 = .ok (.invokevirtual 83, 3) := by decide +kernel
theorem dLa_law_555 : decode cLa_law 555 = .ok (.if_icmp .eq 168, 3) := by decide +kernel
theorem dLa_law_558 : decode cLa_law 558 = .ok (.iconst 0, 1) := by decide +kernel
theorem dLa_law_559 : decode cLa_law 559 = .ok (.ireturn, 1) := by decide +kernel
theorem dLa_law_560 : decode cLa_law 560 = .ok (.aload_n 1, 1) := by decide +kernel
theorem dLa_law_561 : decode cLa_law 561 = .ok (.aload_n 0, 1) := by decide +kernel
theorem dLa_law_562 : decode cLa_law 562 = .ok (.iload_n 3, 1) := by decide +kernel
theorem dLa_law_563 : decode cLa_law 563 = .ok (.iconst 1, 1) := by decide +kernel
theorem dLa_law_564 : decode cLa_law 564 = .ok (.iadd, 1) := by decide +kernel
theorem dLa_law_565 : decode cLa_law 565 = .ok (.iaload, 1) := by decide +kernel
theorem dLa_law_566 : decode cLa_law 566 = .ok (.aload_n 0, 1) := by decide +kernel
theorem dLa_law_567 : decode cLa_law 567 = .ok (.iload_n 3, 1) := by decide +kernel
theorem dLa_law_568 : decode cLa_law 568 = .ok (.iconst 2, 1) := by decide +kernel
theorem dLa_law_569 : decode cLa_law 569 = .ok (.iadd, 1) := by decide +kernel
theorem dLa_law_570 : decode cLa_law 570 = .ok (.iaload, 1) := by decide +kernel
theorem dLa_law_571 : decode cLa_law 571 = .ok (.invokevirtual 84, 3) := by decide +kernel
theorem dLa_law_574 : decode cLa_law 574 = .ok (.aload_n 2, 1) := by decide +kernel
theorem dLa_law_575 : decode cLa_law 575 = .ok (.aload_n 0, 1) := by decide +kernel
theorem dLa_law_576 : decode cLa_law 576 = .ok (.iload_n 3, 1) := by decide +kernel
theorem dLa_law_577 : decode cLa_law 577 = .ok (.iconst 1, 1) := by decide +kernel
theorem dLa_law_578 : decode cLa_law 578 = .ok (.iadd, 1) := by decide +kernel
theorem dLa_law_579 : decode cLa_law 579 = .ok (.iaload, 1) := by decide +kernel
theorem dLa_law_580 : decode cLa_law 580 = .ok (.aload_n 0, 1) := by decide +kernel
theorem dLa_law_581 : decode cLa_law 581 = .ok (.iload_n 3, 1) := by decide +kernel
theorem dLa_law_582 : decode cLa_law 582 = .ok (.iconst 2, 1) := by decide +kernel
theorem dLa_law_583 : decode cLa_law 583 = .ok (.iadd, 1) := by decide +kernel
theorem dLa_law_584 : decode cLa_law 584 = .ok (.iaload, 1) := by decide +kernel
theorem dLa_law_585 : decode cLa_law 585 = .ok (.invokevirtual 87, 3) := by decide +kernel
theorem dLa_law_588 : decode cLa_law 588 = .ok (.if_icmp .eq 135, 3) := by decide +kernel
theorem dLa_law_591 : decode cLa_law 591 = .ok (.iconst 0, 1) := by decide +kernel
theorem dLa_law_592 : decode cLa_law 592 = .ok (.ireturn, 1) := by decide +kernel
theorem dLa_law_593 : decode cLa_law 593 = .ok (.aload_n 1, 1) := by decide +kernel
theorem dLa_law_594 : decode cLa_law 594 = .ok (.aload_n 0, 1) := by decide +kernel
theorem dLa_law_595 : decode cLa_law 595 = .ok (.iload_n 3, 1) := by decide +kernel
theorem dLa_law_596 : decode cLa_law 596 = .ok (.iconst 1, 1) := by decide +kernel
theorem dLa_law_597 : decode cLa_law 597 = .ok (.iadd, 1) := by decide +kernel
theorem dLa_law_598 : decode cLa_law 598 = .ok (.iaload, 1) := by decide +kernel
theorem dLa_law_599 : decode cLa_law 599 = .ok (.i2l, 1) := by decide +kernel
theorem dLa_law_600 : decode cLa_law 600 = .ok (.bipush 32, 2) := by decide +kernel
theorem dLa_law_602 : decode cLa_law 602 = .ok (.lshl, 1) := by decide +kernel
theorem dLa_law_603 : decode cLa_law 603 = .ok (.aload_n 0, 1) := by decide +kernel
theorem dLa_law_604 : decode cLa_law 604 = .ok (.iload_n 3, 1) := by decide +kernel
theorem dLa_law_605 : decode cLa_law 605 = .ok (.iconst 2, 1) := by decide +kernel
theorem dLa_law_606 : decode cLa_law 606 = .ok (.iadd, 1) := by decide +kernel
theorem dLa_law_607 : decode cLa_law 607 = .ok (.iaload, 1) := by decide +kernel
theorem dLa_law_608 : decode cLa_law 608 = .ok (.i2l, 1) := by decide +kernel
theorem dLa_law_609 : decode cLa_law 609 = .ok (.ldc2_w 88, 3) := by decide +kernel
theorem dLa_law_612 : decode cLa_law 612 = .ok (.land, 1) := by decide +kernel
theorem dLa_law_613 : decode cLa_law 613 = .ok (.lor, 1) := by decide +kernel
theorem dLa_law_614 : decode cLa_law 614 = .ok (.aload_n 0, 1) := by decide +kernel
theorem dLa_law_615 : decode cLa_law 615 = .ok (.iload_n 3, 1) := by decide +kernel
theorem dLa_law_616 : decode cLa_law 616 = .ok (.iconst 3, 1) := by decide +kernel
theorem dLa_law_617 : decode cLa_law 617 = .ok (.iadd, 1) := by decide +kernel
theorem dLa_law_618 : decode cLa_law 618 = .ok (.iaload, 1) := by decide +kernel
theorem dLa_law_619 : decode cLa_law 619 = .ok (.invokevirtual 90, 3) := by decide +kernel
theorem dLa_law_622 : decode cLa_law 622 = .ok (.aload_n 2, 1) := by decide +kernel
theorem dLa_law_623 : decode cLa_law 623 = .ok (.aload_n 0, 1) := by decide +kernel
theorem dLa_law_624 : decode cLa_law 624 = .ok (.iload_n 3, 1) := by decide +kernel
theorem dLa_law_625 : decode cLa_law 625 = .ok (.iconst 1, 1) := by decide +kernel
theorem dLa_law_626 : decode cLa_law 626 = .ok (.iadd, 1) := by decide +kernel
theorem dLa_law_627 : decode cLa_law 627 = .ok (.iaload, 1) := by decide +kernel
theorem dLa_law_628 : decode cLa_law 628 = .ok (.i2l, 1) := by decide +kernel
theorem dLa_law_629 : decode cLa_law 629 = .ok (.bipush 32, 2) := by decide +kernel
theorem dLa_law_631 : decode cLa_law 631 = .ok (.lshl, 1) := by decide +kernel
theorem dLa_law_632 : decode cLa_law 632 = .ok (.aload_n 0, 1) := by decide +kernel
theorem dLa_law_633 : decode cLa_law 633 = .ok (.iload_n 3, 1) := by decide +kernel
theorem dLa_law_634 : decode cLa_law 634 = .ok (.iconst 2, 1) := by decide +kernel
theorem dLa_law_635 : decode cLa_law 635 = .ok (.iadd, 1) := by decide +kernel
theorem dLa_law_636 : decode cLa_law 636 = .ok (.iaload, 1) := by decide +kernel
theorem dLa_law_637 : decode cLa_law 637 = .ok (.i2l, 1) := by decide +kernel
theorem dLa_law_638 : decode cLa_law 638 = .ok (.ldc2_w 88, 3) := by decide +kernel
theorem dLa_law_641 : decode cLa_law 641 = .ok (.land, 1) := by decide +kernel
theorem dLa_law_642 : decode cLa_law 642 = .ok (.lor, 1) := by decide +kernel
theorem dLa_law_643 : decode cLa_law 643 = .ok (.aload_n 0, 1) := by decide +kernel
theorem dLa_law_644 : decode cLa_law 644 = .ok (.iload_n 3, 1) := by decide +kernel
theorem dLa_law_645 : decode cLa_law 645 = .ok (.iconst 3, 1) := by decide +kernel
theorem dLa_law_646 : decode cLa_law 646 = .ok (.iadd, 1) := by decide +kernel
theorem dLa_law_647 : decode cLa_law 647 = .ok (.iaload, 1) := by decide +kernel
theorem dLa_law_648 : decode cLa_law 648 = .ok (.invokevirtual 94, 3) := by decide +kernel
theorem dLa_law_651 : decode cLa_law 651 = .ok (.if_icmp .eq 72, 3) := by decide +kernel
theorem dLa_law_654 : decode cLa_law 654 = .ok (.iconst 0, 1) := by decide +kernel
theorem dLa_law_655 : decode cLa_law 655 = .ok (.ireturn, 1) := by decide +kernel
theorem dLa_law_656 : decode cLa_law 656 = .ok (.aload_n 1, 1) := by decide +kernel
theorem dLa_law_657 : decode cLa_law 657 = .ok (.aload_n 0, 1) := by decide +kernel
theorem dLa_law_658 : decode cLa_law 658 = .ok (.iload_n 3, 1) := by decide +kernel
theorem dLa_law_659 : decode cLa_law 659 = .ok (.iconst 1, 1) := by decide +kernel
theorem dLa_law_660 : decode cLa_law 660 = .ok (.iadd, 1) := by decide +kernel
theorem dLa_law_661 : decode cLa_law 661 = .ok (.iaload, 1) := by decide +kernel
theorem dLa_law_662 : decode cLa_law 662 = .ok (.aload_n 0, 1) := by decide +kernel
theorem dLa_law_663 : decode cLa_law 663 = .ok (.iload_n 3, 1) := by decide +kernel
theorem dLa_law_664 : decode cLa_law 664 = .ok (.iconst 2, 1) := by decide +kernel
theorem dLa_law_665 : decode cLa_law 665 = .ok (.iadd, 1) := by decide +kernel
theorem dLa_law_666 : decode cLa_law 666 = .ok (.iaload, 1) := by decide +kernel
theorem dLa_law_667 : decode cLa_law 667 = .ok (.aload_n 0, 1) := by decide +kernel
theorem dLa_law_668 : decode cLa_law 668 = .ok (.iload_n 3, 1) := by decide +kernel
theorem dLa_law_669 : decode cLa_law 669 = .ok (.iconst 3, 1) := by decide +kernel
theorem dLa_law_670 : decode cLa_law 670 = .ok (.iadd, 1) := by decide +kernel
theorem dLa_law_671 : decode cLa_law 671 = .ok (.iaload, 1) := by decide +kernel
theorem dLa_law_672 : decode cLa_law 672 = .ok (.invokevirtual 95, 3) := by decide +kernel
theorem dLa_law_675 : decode cLa_law 675 = .ok (.aload_n 2, 1) := by decide +kernel
theorem dLa_law_676 : decode cLa_law 676 = .ok (.aload_n 0, 1) := by decide +kernel
theorem dLa_law_677 : decode cLa_law 677 = .ok (.iload_n 3, 1) := by decide +kernel
theorem dLa_law_678 : decode cLa_law 678 = .ok (.iconst 1, 1) := by decide +kernel
theorem dLa_law_679 : decode cLa_law 679 = .ok (.iadd, 1) := by decide +kernel
theorem dLa_law_680 : decode cLa_law 680 = .ok (.iaload, 1) := by decide +kernel
theorem dLa_law_681 : decode cLa_law 681 = .ok (.aload_n 0, 1) := by decide +kernel
theorem dLa_law_682 : decode cLa_law 682 = .ok (.iload_n 3, 1) := by decide +kernel
theorem dLa_law_683 : decode cLa_law 683 = .ok (.iconst 2, 1) := by decide +kernel
theorem dLa_law_684 : decode cLa_law 684 = .ok (.iadd, 1) := by decide +kernel
theorem dLa_law_685 : decode cLa_law 685 = .ok (.iaload, 1) := by decide +kernel
theorem dLa_law_686 : decode cLa_law 686 = .ok (.aload_n 0, 1) := by decide +kernel
theorem dLa_law_687 : decode cLa_law 687 = .ok (.iload_n 3, 1) := by decide +kernel
theorem dLa_law_688 : decode cLa_law 688 = .ok (.iconst 3, 1) := by decide +kernel
theorem dLa_law_689 : decode cLa_law 689 = .ok (.iadd, 1) := by decide +kernel
theorem dLa_law_690 : decode cLa_law 690 = .ok (.iaload, 1) := by decide +kernel
theorem dLa_law_691 : decode cLa_law 691 = .ok (.invokevirtual 98, 3) := by decide +kernel
theorem dLa_law_694 : decode cLa_law 694 = .ok (.if_icmp .eq 29, 3) := by decide +kernel
theorem dLa_law_697 : decode cLa_law 697 = .ok (.iconst 0, 1) := by decide +kernel
theorem dLa_law_698 : decode cLa_law 698 = .ok (.ireturn, 1) := by decide +kernel
theorem dLa_law_699 : decode cLa_law 699 = .ok (.aload_n 1, 1) := by decide +kernel
theorem dLa_law_700 : decode cLa_law 700 = .ok (.aload_n 0, 1) := by decide +kernel
theorem dLa_law_701 : decode cLa_law 701 = .ok (.iload_n 3, 1) := by decide +kernel
theorem dLa_law_702 : decode cLa_law 702 = .ok (.iconst 1, 1) := by decide +kernel
theorem dLa_law_703 : decode cLa_law 703 = .ok (.iadd, 1) := by decide +kernel
theorem dLa_law_704 : decode cLa_law 704 = .ok (.iaload, 1) := by decide +kernel
theorem dLa_law_705 : decode cLa_law 705 = .ok (.invokevirtual 99, 3) := by decide +kernel
theorem dLa_law_708 : decode cLa_law 708 = .ok (.aload_n 2, 1) := by decide +kernel
theorem dLa_law_709 : decode cLa_law 709 = .ok (.aload_n 0, 1) := by decide +kernel
theorem dLa_law_710 : decode cLa_law 710 = .ok (.iload_n 3, 1) := by decide +kernel
theorem dLa_law_711 : decode cLa_law 711 = .ok (.iconst 1, 1) := by decide +kernel
theorem dLa_law_712 : decode cLa_law 712 = .ok (.iadd, 1) := by decide +kernel
theorem dLa_law_713 : decode cLa_law 713 = .ok (.iaload, 1) := by decide +kernel
theorem dLa_law_714 : decode cLa_law 714 = .ok (.invokevirtual 103, 3) := by decide +kernel
theorem dLa_law_717 : decode cLa_law 717 = .ok (.lcmp, 1) := by decide +kernel
theorem dLa_law_718 : decode cLa_law 718 = .ok (.ifCond .eq 5, 3) := by decide +kernel
theorem dLa_law_721 : decode cLa_law 721 = .ok (.iconst 0, 1) := by decide +kernel
theorem dLa_law_722 : decode cLa_law 722 = .ok (.ireturn, 1) := by decide +kernel
theorem dLa_law_723 : decode cLa_law 723 = .ok (.iinc 3 4, 3) := by decide +kernel
theorem dLa_law_726 : decode cLa_law 726 = .ok (.goto (-708), 3) := by decide +kernel
theorem dLa_law_729 : decode cLa_law 729 = .ok (.iconst 1, 1) := by decide +kernel
theorem dLa_law_730 : decode cLa_law 730 = .ok (.ireturn, 1) := by decide +kernel

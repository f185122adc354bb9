theorem at_163_125 : am_at (am_m 163) 125 = some (.irem, 0) := by decide +kernel
theorem at_163_126 : am_at (am_m 163) 126 = some (.invokevirtual 94, 164) := by decide +kernel
theorem at_163_129 : am_at (am_m 163) 129 = some (.ifCond .eq 7, 136) := by decide +kernel
theorem at_163_132 : am_at (am_m 163) 132 = some (.iconst 1, 0) := by decide +kernel
theorem at_163_133 : am_at (am_m 163) 133 = some (.goto 4, 137) := by decide +kernel
theorem at_163_136 : am_at (am_m 163) 136 = some (.iconst 0, 0) := by decide +kernel
theorem at_163_137 : am_at (am_m 163) 137 = some (.ireturn, 0) := by decide +kernel
theorem at_163_138 : am_at (am_m 163) 138 = some (.aload_n 0, 0) := by decide +kernel
theorem at_163_139 : am_at (am_m 163) 139 = some (.iload_n 1, 0) := by decide +kernel
theorem at_163_140 : am_at (am_m 163) 140 = some (.bipush 21, 0) := by decide +kernel
theorem at_163_142 : am_at (am_m 163) 142 = some (.idiv, 0) := by decide +kernel
theorem at_163_143 : am_at (am_m 163) 143 = some (.iload_n 1, 0) := by decide +kernel
theorem at_163_144 : am_at (am_m 163) 144 = some (.bipush 21, 0) := by decide +kernel
theorem at_163_146 : am_at (am_m 163) 146 = some (.irem, 0) := by decide +kernel
theorem at_163_147 : am_at (am_m 163) 147 = some (.invokevirtual 98, 165) := by decide +kernel
theorem at_163_150 : am_at (am_m 163) 150 = some (.ireturn, 0) := by decide +kernel
theorem at_163_151 : am_at (am_m 163) 151 = some (.aload_n 0, 0) := by decide +kernel
theorem at_163_152 : am_at (am_m 163) 152 = some (.iload_n 1, 0) := by decide +kernel
theorem at_163_153 : am_at (am_m 163) 153 = some (.iconst 3, 0) := by decide +kernel
theorem at_163_154 : am_at (am_m 163) 154 = some (.idiv, 0) := by decide +kernel
theorem at_163_155 : am_at (am_m 163) 155 = some (.iload_n 1, 0) := by decide +kernel
theorem at_163_156 : am_at (am_m 163) 156 = some (.iconst 3, 0) := by decide +kernel
theorem at_163_157 : am_at (am_m 163) 157 = some (.irem, 0) := by decide +kernel
theorem at_163_158 : am_at (am_m 163) 158 = some (.invokevirtual 102, 167) := by decide +kernel
theorem at_163_161 : am_at (am_m 163) 161 = some (.ifCond .eq 17, 178) := by decide +kernel
theorem at_163_164 : am_at (am_m 163) 164 = some (.aload_n 0, 0) := by decide +kernel
theorem at_163_165 : am_at (am_m 163) 165 = some (.iload_n 1, 0) := by decide +kernel
theorem at_163_166 : am_at (am_m 163) 166 = some (.iconst 3, 0) := by decide +kernel
theorem at_163_167 : am_at (am_m 163) 167 = some (.idiv, 0) := by decide +kernel
theorem at_163_168 : am_at (am_m 163) 168 = some (.invokevirtual 105, 169) := by decide +kernel
theorem at_163_171 : am_at (am_m 163) 171 = some (.ifCond .eq 7, 178) := by decide +kernel
theorem at_163_174 : am_at (am_m 163) 174 = some (.iconst 1, 0) := by decide +kernel
theorem at_163_175 : am_at (am_m 163) 175 = some (.goto 4, 179) := by decide +kernel
theorem at_163_178 : am_at (am_m 163) 178 = some (.iconst 0, 0) := by decide +kernel
theorem at_163_179 : am_at (am_m 163) 179 = some (.ireturn, 0) := by decide +kernel
theorem at_163_180 : am_at (am_m 163) 180 = some (.aload_n 0, 0) := by decide +kernel
theorem at_163_181 : am_at (am_m 163) 181 = some (.iload_n 1, 0) := by decide +kernel
theorem at_163_182 : am_at (am_m 163) 182 = some (.iconst 3, 0) := by decide +kernel
theorem at_163_183 : am_at (am_m 163) 183 = some (.idiv, 0) := by decide +kernel
theorem at_163_184 : am_at (am_m 163) 184 = some (.iload_n 1, 0) := by decide +kernel
theorem at_163_185 : am_at (am_m 163) 185 = some (.iconst 3, 0) := by decide +kernel
theorem at_163_186 : am_at (am_m 163) 186 = some (.irem, 0) := by decide +kernel
theorem at_163_187 : am_at (am_m 163) 187 = some (.invokevirtual 108, 171) := by decide +kernel
theorem at_163_190 : am_at (am_m 163) 190 = some (.ifCond .eq 17, 207) := by decide +kernel
theorem at_163_193 : am_at (am_m 163) 193 = some (.aload_n 0, 0) := by decide +kernel
theorem at_163_194 : am_at (am_m 163) 194 = some (.iload_n 1, 0) := by decide +kernel
theorem at_163_195 : am_at (am_m 163) 195 = some (.iconst 3, 0) := by decide +kernel
theorem at_163_196 : am_at (am_m 163) 196 = some (.idiv, 0) := by decide +kernel
theorem at_163_197 : am_at (am_m 163) 197 = some (.invokevirtual 105, 169) := by decide +kernel
theorem at_163_200 : am_at (am_m 163) 200 = some (.ifCond .eq 7, 207) := by decide +kernel
theorem at_163_203 : am_at (am_m 163) 203 = some (.iconst 1, 0) := by decide +kernel
theorem at_163_204 : am_at (am_m 163) 204 = some (.goto 4, 208) := by decide +kernel
theorem at_163_207 : am_at (am_m 163) 207 = some (.iconst 0, 0) := by decide +kernel
theorem at_163_208 : am_at (am_m 163) 208 = some (.ireturn, 0) := by decide +kernel
theorem at_163_209 : am_at (am_m 163) 209 = some (.aload_n 0, 0) := by decide +kernel
theorem at_163_210 : am_at (am_m 163) 210 = some (.iload_n 1, 0) := by decide +kernel
theorem at_163_211 : am_at (am_m 163) 211 = some (.aload_n 0, 0) := by decide +kernel
theorem at_163_212 : am_at (am_m 163) 212 = some (.getfield 46, 8) := by decide +kernel
theorem at_163_215 : am_at (am_m 163) 215 = some (.idiv, 0) := by decide +kernel
theorem at_163_216 : am_at (am_m 163) 216 = some (.iload_n 1, 0) := by decide +kernel
theorem at_163_217 : am_at (am_m 163) 217 = some (.aload_n 0, 0) := by decide +kernel
theorem at_163_218 : am_at (am_m 163) 218 = some (.getfield 46, 8) := by decide +kernel
theorem at_163_221 : am_at (am_m 163) 221 = some (.irem, 0) := by decide +kernel
theorem at_163_222 : am_at (am_m 163) 222 = some (.invokevirtual 111, 172) := by decide +kernel
theorem at_163_225 : am_at (am_m 163) 225 = some (.ifCond .eq 20, 245) := by decide +kernel
theorem at_163_228 : am_at (am_m 163) 228 = some (.aload_n 0, 0) := by decide +kernel
theorem at_163_229 : am_at (am_m 163) 229 = some (.iload_n 1, 0) := by decide +kernel
theorem at_163_230 : am_at (am_m 163) 230 = some (.aload_n 0, 0) := by decide +kernel
theorem at_163_231 : am_at (am_m 163) 231 = some (.getfield 46, 8) := by decide +kernel
theorem at_163_234 : am_at (am_m 163) 234 = some (.idiv, 0) := by decide +kernel
theorem at_163_235 : am_at (am_m 163) 235 = some (.invokevirtual 105, 169) := by decide +kernel
theorem at_163_238 : am_at (am_m 163) 238 = some (.ifCond .eq 7, 245) := by decide +kernel
theorem at_163_241 : am_at (am_m 163) 241 = some (.iconst 1, 0) := by decide +kernel
theorem at_163_242 : am_at (am_m 163) 242 = some (.goto 4, 246) := by decide +kernel
theorem at_163_245 : am_at (am_m 163) 245 = some (.iconst 0, 0) := by decide +kernel
theorem at_163_246 : am_at (am_m 163) 246 = some (.ireturn, 0) := by decide +kernel
theorem at_163_247 : am_at (am_m 163) 247 = some (.aload_n 0, 0) := by decide +kernel
theorem at_163_248 : am_at (am_m 163) 248 = some (.getfield 36, 5) := by decide +kernel
theorem at_163_251 : am_at (am_m 163) 251 = some (.iload_n 1, 0) := by decide +kernel
theorem at_163_252 : am_at (am_m 163) 252 = some (.iconst 5, 0) := by decide +kernel
theorem at_163_253 : am_at (am_m 163) 253 = some (.idiv, 0) := by decide +kernel
theorem at_163_254 : am_at (am_m 163) 254 = some (.iconst 0, 0) := by decide +kernel
theorem at_163_255 : am_at (am_m 163) 255 = some (.invokevirtual 90, 54) := by decide +kernel
theorem at_163_258 : am_at (am_m 163) 258 = some (.ifCond .ne 21, 279) := by decide +kernel
theorem at_163_261 : am_at (am_m 163) 261 = some (.aload_n 0, 0) := by decide +kernel
theorem at_163_262 : am_at (am_m 163) 262 = some (.iload_n 1, 0) := by decide +kernel
theorem at_163_263 : am_at (am_m 163) 263 = some (.iconst 5, 0) := by decide +kernel
theorem at_163_264 : am_at (am_m 163) 264 = some (.idiv, 0) := by decide +kernel
theorem at_163_265 : am_at (am_m 163) 265 = some (.iconst 1, 0) := by decide +kernel
theorem at_163_266 : am_at (am_m 163) 266 = some (.iload_n 1, 0) := by decide +kernel
theorem at_163_267 : am_at (am_m 163) 267 = some (.iconst 5, 0) := by decide +kernel
theorem at_163_268 : am_at (am_m 163) 268 = some (.irem, 0) := by decide +kernel
theorem at_163_269 : am_at (am_m 163) 269 = some (.invokevirtual 94, 164) := by decide +kernel
theorem at_163_272 : am_at (am_m 163) 272 = some (.ifCond .eq 7, 279) := by decide +kernel
theorem at_163_275 : am_at (am_m 163) 275 = some (.iconst 1, 0) := by decide +kernel
theorem at_163_276 : am_at (am_m 163) 276 = some (.goto 4, 280) := by decide +kernel
theorem at_163_279 : am_at (am_m 163) 279 = some (.iconst 0, 0) := by decide +kernel
theorem at_163_280 : am_at (am_m 163) 280 = some (.ireturn, 0) := by decide +kernel
theorem at_163_281 : am_at (am_m 163) 281 = some (.aload_n 0, 0) := by decide +kernel
theorem at_163_282 : am_at (am_m 163) 282 = some (.iload_n 1, 0) := by decide +kernel
theorem at_163_283 : am_at (am_m 163) 283 = some (.bipush 14, 0) := by decide +kernel
theorem at_163_285 : am_at (am_m 163) 285 = some (.idiv, 0) := by decide +kernel
theorem at_163_286 : am_at (am_m 163) 286 = some (.iload_n 1, 0) := by decide +kernel
theorem at_163_287 : am_at (am_m 163) 287 = some (.bipush 14, 0) := by decide +kernel
theorem at_163_289 : am_at (am_m 163) 289 = some (.irem, 0) := by decide +kernel
theorem at_163_290 : am_at (am_m 163) 290 = some (.invokevirtual 114, 173) := by decide +kernel
theorem at_163_293 : am_at (am_m 163) 293 = some (.ireturn, 0) := by decide +kernel
theorem at_163_294 : am_at (am_m 163) 294 = some (.aload_n 0, 0) := by decide +kernel
theorem at_163_295 : am_at (am_m 163) 295 = some (.iload_n 1, 0) := by decide +kernel
theorem at_163_296 : am_at (am_m 163) 296 = some (.iconst 3, 0) := by decide +kernel
theorem at_163_297 : am_at (am_m 163) 297 = some (.idiv, 0) := by decide +kernel
theorem at_163_298 : am_at (am_m 163) 298 = some (.iload_n 1, 0) := by decide +kernel
theorem at_163_299 : am_at (am_m 163) 299 = some (.iconst 3, 0) := by decide +kernel
theorem at_163_300 : am_at (am_m 163) 300 = some (.irem, 0) := by decide +kernel
theorem at_163_301 : am_at (am_m 163) 301 = some (.iconst 1, 0) := by decide +kernel
theorem at_163_302 : am_at (am_m 163) 302 = some (.iadd, 0) := by decide +kernel
theorem at_163_303 : am_at (am_m 163) 303 = some (.invokevirtual 117, 175) := by decide +kernel
theorem at_163_306 : am_at (am_m 163) 306 = some (.ifCond .eq 21, 327) := by decide +kernel
theorem at_163_309 : am_at (am_m 163) 309 = some (.aload_n 0, 0) := by decide +kernel
theorem at_163_310 : am_at (am_m 163) 310 = some (.getfield 33, 4) := by decide +kernel
theorem at_163_313 : am_at (am_m 163) 313 = some (.aload_n 0, 0) := by decide +kernel
theorem at_163_314 : am_at (am_m 163) 314 = some (.getfield 14, 0) := by decide +kernel
theorem at_163_317 : am_at (am_m 163) 317 = some (.invokevirtual 68, 52) := by decide +kernel
theorem at_163_320 : am_at (am_m 163) 320 = some (.ifCond .ge 7, 327) := by decide +kernel
theorem at_163_323 : am_at (am_m 163) 323 = some (.iconst 1, 0) := by decide +kernel
theorem at_163_324 : am_at (am_m 163) 324 = some (.goto 4, 328) := by decide +kernel
theorem at_163_327 : am_at (am_m 163) 327 = some (.iconst 0, 0) := by decide +kernel
theorem at_163_328 : am_at (am_m 163) 328 = some (.ireturn, 0) := by decide +kernel
theorem at_163_329 : am_at (am_m 163) 329 = some (.aload_n 0, 0) := by decide +kernel
theorem at_163_330 : am_at (am_m 163) 330 = some (.iload_n 1, 0) := by decide +kernel
theorem at_163_331 : am_at (am_m 163) 331 = some (.iconst 5, 0) := by decide +kernel
theorem at_163_332 : am_at (am_m 163) 332 = some (.idiv, 0) := by decide +kernel
theorem at_163_333 : am_at (am_m 163) 333 = some (.iload_n 1, 0) := by decide +kernel
theorem at_163_334 : am_at (am_m 163) 334 = some (.iconst 5, 0) := by decide +kernel
theorem at_163_335 : am_at (am_m 163) 335 = some (.irem, 0) := by decide +kernel
theorem at_163_336 : am_at (am_m 163) 336 = some (.invokevirtual 120, 176) := by decide +kernel
theorem at_163_339 : am_at (am_m 163) 339 = some (.ifCond .eq 21, 360) := by decide +kernel
theorem at_163_342 : am_at (am_m 163) 342 = some (.aload_n 0, 0) := by decide +kernel
theorem at_163_343 : am_at (am_m 163) 343 = some (.getfield 33, 4) := by decide +kernel
theorem at_163_346 : am_at (am_m 163) 346 = some (.aload_n 0, 0) := by decide +kernel
theorem at_163_347 : am_at (am_m 163) 347 = some (.getfield 14, 0) := by decide +kernel
theorem at_163_350 : am_at (am_m 163) 350 = some (.invokevirtual 68, 52) := by decide +kernel
theorem at_163_353 : am_at (am_m 163) 353 = some (.ifCond .ge 7, 360) := by decide +kernel
theorem at_163_356 : am_at (am_m 163) 356 = some (.iconst 1, 0) := by decide +kernel
theorem at_163_357 : am_at (am_m 163) 357 = some (.goto 4, 361) := by decide +kernel
theorem at_163_360 : am_at (am_m 163) 360 = some (.iconst 0, 0) := by decide +kernel
theorem at_163_361 : am_at (am_m 163) 361 = some (.ireturn, 0) := by decide +kernel
theorem at_163_362 : am_at (am_m 163) 362 = some (.aload_n 0, 0) := by decide +kernel
theorem at_163_363 : am_at (am_m 163) 363 = some (.iload_n 1, 0) := by decide +kernel
theorem at_163_364 : am_at (am_m 163) 364 = some (.aload_n 0, 0) := by decide +kernel
theorem at_163_365 : am_at (am_m 163) 365 = some (.getfield 46, 8) := by decide +kernel
theorem at_163_368 : am_at (am_m 163) 368 = some (.idiv, 0) := by decide +kernel
theorem at_163_369 : am_at (am_m 163) 369 = some (.iload_n 1, 0) := by decide +kernel
theorem at_163_370 : am_at (am_m 163) 370 = some (.aload_n 0, 0) := by decide +kernel
theorem at_163_371 : am_at (am_m 163) 371 = some (.getfield 46, 8) := by decide +kernel
theorem at_163_374 : am_at (am_m 163) 374 = some (.irem, 0) := by decide +kernel
theorem at_163_375 : am_at (am_m 163) 375 = some (.invokevirtual 123, 177) := by decide +kernel
theorem at_163_378 : am_at (am_m 163) 378 = some (.ifCond .eq 21, 399) := by decide +kernel
theorem at_163_381 : am_at (am_m 163) 381 = some (.aload_n 0, 0) := by decide +kernel
theorem at_163_382 : am_at (am_m 163) 382 = some (.getfield 33, 4) := by decide +kernel
theorem at_163_385 : am_at (am_m 163) 385 = some (.aload_n 0, 0) := by decide +kernel
theorem at_163_386 : am_at (am_m 163) 386 = some (.getfield 14, 0) := by decide +kernel
theorem at_163_389 : am_at (am_m 163) 389 = some (.invokevirtual 68, 52) := by decide +kernel
theorem at_163_392 : am_at (am_m 163) 392 = some (.ifCond .ge 7, 399) := by decide +kernel
theorem at_163_395 : am_at (am_m 163) 395 = some (.iconst 1, 0) := by decide +kernel
theorem at_163_396 : am_at (am_m 163) 396 = some (.goto 4, 400) := by decide +kernel
theorem at_163_399 : am_at (am_m 163) 399 = some (.iconst 0, 0) := by decide +kernel
theorem at_163_400 : am_at (am_m 163) 400 = some (.ireturn, 0) := by decide +kernel
theorem at_163_401 : am_at (am_m 163) 401 = some (.aload_n 0, 0) := by decide +kernel
theorem at_163_402 : am_at (am_m 163) 402 = some (.iload_n 1, 0) := by decide +kernel
theorem at_163_403 : am_at (am_m 163) 403 = some (.iconst 5, 0) := by decide +kernel
theorem at_163_404 : am_at (am_m 163) 404 = some (.idiv, 0) := by decide +kernel
theorem at_163_405 : am_at (am_m 163) 405 = some (.iconst 0, 0) := by decide +kernel
theorem at_163_406 : am_at (am_m 163) 406 = some (.iload_n 1, 0) := by decide +kernel
theorem at_163_407 : am_at (am_m 163) 407 = some (.iconst 5, 0) := by decide +kernel
theorem at_163_408 : am_at (am_m 163) 408 = some (.irem, 0) := by decide +kernel
theorem at_163_409 : am_at (am_m 163) 409 = some (.invokevirtual 94, 164) := by decide +kernel
theorem at_163_412 : am_at (am_m 163) 412 = some (.ireturn, 0) := by decide +kernel
theorem at_163_413 : am_at (am_m 163) 413 = some (.aload_n 0, 0) := by decide +kernel
theorem at_163_414 : am_at (am_m 163) 414 = some (.iload_n 1, 0) := by decide +kernel
theorem at_163_415 : am_at (am_m 163) 415 = some (.aload_n 0, 0) := by decide +kernel
theorem at_163_416 : am_at (am_m 163) 416 = some (.getfield 46, 8) := by decide +kernel
theorem at_163_419 : am_at (am_m 163) 419 = some (.idiv, 0) := by decide +kernel
theorem at_163_420 : am_at (am_m 163) 420 = some (.iload_n 1, 0) := by decide +kernel
theorem at_163_421 : am_at (am_m 163) 421 = some (.aload_n 0, 0) := by decide +kernel
theorem at_163_422 : am_at (am_m 163) 422 = some (.getfield 46, 8) := by decide +kernel
theorem at_163_425 : am_at (am_m 163) 425 = some (.irem, 0) := by decide +kernel
theorem at_163_426 : am_at (am_m 163) 426 = some (.invokevirtual 126, 178) := by decide +kernel
theorem at_163_429 : am_at (am_m 163) 429 = some (.ireturn, 0) := by decide +kernel
theorem at_163_430 : am_at (am_m 163) 430 = some (.aload_n 0, 0) := by decide +kernel
theorem at_163_431 : am_at (am_m 163) 431 = some (.iload_n 1, 0) := by decide +kernel
theorem at_163_432 : am_at (am_m 163) 432 = some (.invokevirtual 129, 179) := by decide +kernel
theorem at_163_435 : am_at (am_m 163) 435 = some (.ireturn, 0) := by decide +kernel
theorem at_163_436 : am_at (am_m 163) 436 = some (.aload_n 0, 0) := by decide +kernel
theorem at_163_437 : am_at (am_m 163) 437 = some (.iload_n 1, 0) := by decide +kernel
theorem at_163_438 : am_at (am_m 163) 438 = some (.iconst 1, 0) := by decide +kernel
theorem at_163_439 : am_at (am_m 163) 439 = some (.iadd, 0) := by decide +kernel
theorem at_163_440 : am_at (am_m 163) 440 = some (.invokevirtual 132, 180) := by decide +kernel
theorem at_163_443 : am_at (am_m 163) 443 = some (.ireturn, 0) := by decide +kernel
theorem at_163_444 : am_at (am_m 163) 444 = some (.aload_n 0, 0) := by decide +kernel
theorem at_163_445 : am_at (am_m 163) 445 = some (.iload_n 1, 0) := by decide +kernel
theorem at_163_446 : am_at (am_m 163) 446 = some (.iconst 1, 0) := by decide +kernel
theorem at_163_447 : am_at (am_m 163) 447 = some (.iadd, 0) := by decide +kernel
theorem at_163_448 : am_at (am_m 163) 448 = some (.invokevirtual 135, 181) := by decide +kernel
theorem at_163_451 : am_at (am_m 163) 451 = some (.ireturn, 0) := by decide +kernel
theorem at_163_452 : am_at (am_m 163) 452 = some (.aload_n 0, 0) := by decide +kernel
theorem at_163_453 : am_at (am_m 163) 453 = some (.iload_n 1, 0) := by decide +kernel
theorem at_163_454 : am_at (am_m 163) 454 = some (.aload_n 0, 0) := by decide +kernel
theorem at_163_455 : am_at (am_m 163) 455 = some (.getfield 46, 8) := by decide +kernel
theorem at_163_458 : am_at (am_m 163) 458 = some (.idiv, 0) := by decide +kernel
theorem at_163_459 : am_at (am_m 163) 459 = some (.iload_n 1, 0) := by decide +kernel
theorem at_163_460 : am_at (am_m 163) 460 = some (.aload_n 0, 0) := by decide +kernel
theorem at_163_461 : am_at (am_m 163) 461 = some (.getfield 46, 8) := by decide +kernel
theorem at_163_464 : am_at (am_m 163) 464 = some (.irem, 0) := by decide +kernel
theorem at_163_465 : am_at (am_m 163) 465 = some (.iconst 1, 0) := by decide +kernel
theorem at_163_466 : am_at (am_m 163) 466 = some (.invokevirtual 138, 182) := by decide +kernel
theorem at_163_469 : am_at (am_m 163) 469 = some (.ireturn, 0) := by decide +kernel
theorem at_163_470 : am_at (am_m 163) 470 = some (.aload_n 0, 0) := by decide +kernel
theorem at_163_471 : am_at (am_m 163) 471 = some (.iload_n 1, 0) := by decide +kernel
theorem at_163_472 : am_at (am_m 163) 472 = some (.invokevirtual 141, 183) := by decide +kernel
theorem at_163_475 : am_at (am_m 163) 475 = some (.ireturn, 0) := by decide +kernel
theorem at_163_476 : am_at (am_m 163) 476 = some (.aload_n 0, 0) := by decide +kernel
theorem at_163_477 : am_at (am_m 163) 477 = some (.iload_n 1, 0) := by decide +kernel
theorem at_163_478 : am_at (am_m 163) 478 = some (.aload_n 0, 0) := by decide +kernel
theorem at_163_479 : am_at (am_m 163) 479 = some (.getfield 46, 8) := by decide +kernel
theorem at_163_482 : am_at (am_m 163) 482 = some (.idiv, 0) := by decide +kernel
theorem at_163_483 : am_at (am_m 163) 483 = some (.iload_n 1, 0) := by decide +kernel
theorem at_163_484 : am_at (am_m 163) 484 = some (.aload_n 0, 0) := by decide +kernel
theorem at_163_485 : am_at (am_m 163) 485 = some (.getfield 46, 8) := by decide +kernel
theorem at_163_488 : am_at (am_m 163) 488 = some (.irem, 0) := by decide +kernel
theorem at_163_489 : am_at (am_m 163) 489 = some (.iconst 0, 0) := by decide +kernel
theorem at_163_490 : am_at (am_m 163) 490 = some (.invokevirtual 138, 182) := by decide +kernel
theorem at_163_493 : am_at (am_m 163) 493 = some (.ireturn, 0) := by decide +kernel
theorem at_163_494 : am_at (am_m 163) 494 = some (.aload_n 0, 0) := by decide +kernel
theorem at_163_495 : am_at (am_m 163) 495 = some (.iload_n 1, 0) := by decide +kernel
theorem at_163_496 : am_at (am_m 163) 496 = some (.invokevirtual 144, 184) := by decide +kernel
theorem at_163_499 : am_at (am_m 163) 499 = some (.ireturn, 0) := by decide +kernel
theorem at_163_500 : am_at (am_m 163) 500 = some (.aload_n 0, 0) := by decide +kernel
theorem at_163_501 : am_at (am_m 163) 501 = some (.iload_n 1, 0) := by decide +kernel
theorem at_163_502 : am_at (am_m 163) 502 = some (.aload_n 0, 0) := by decide +kernel
theorem at_163_503 : am_at (am_m 163) 503 = some (.getfield 46, 8) := by decide +kernel
theorem at_163_506 : am_at (am_m 163) 506 = some (.idiv, 0) := by decide +kernel
theorem at_163_507 : am_at (am_m 163) 507 = some (.iload_n 1, 0) := by decide +kernel
theorem at_163_508 : am_at (am_m 163) 508 = some (.aload_n 0, 0) := by decide +kernel
theorem at_163_509 : am_at (am_m 163) 509 = some (.getfield 46, 8) := by decide +kernel
theorem at_163_512 : am_at (am_m 163) 512 = some (.irem, 0) := by decide +kernel
theorem at_163_513 : am_at (am_m 163) 513 = some (.invokevirtual 123, 177) := by decide +kernel
theorem at_163_516 : am_at (am_m 163) 516 = some (.ifCond .eq 19, 535) := by decide +kernel
theorem at_163_519 : am_at (am_m 163) 519 = some (.aload_n 0, 0) := by decide +kernel
theorem at_163_520 : am_at (am_m 163) 520 = some (.getfield 14, 0) := by decide +kernel
theorem at_163_523 : am_at (am_m 163) 523 = some (.getfield 80, 771) := by decide +kernel
theorem at_163_526 : am_at (am_m 163) 526 = some (.bipush 40, 0) := by decide +kernel
theorem at_163_528 : am_at (am_m 163) 528 = some (.if_icmp .gt 7, 535) := by decide +kernel
theorem at_163_531 : am_at (am_m 163) 531 = some (.iconst 1, 0) := by decide +kernel
theorem at_163_532 : am_at (am_m 163) 532 = some (.goto 4, 536) := by decide +kernel
theorem at_163_535 : am_at (am_m 163) 535 = some (.iconst 0, 0) := by decide +kernel
theorem at_163_536 : am_at (am_m 163) 536 = some (.ireturn, 0) := by decide +kernel
theorem at_164_0 : am_at (am_m 164) 0 = some (.aload_n 0, 0) := by decide +kernel
theorem at_164_1 : am_at (am_m 164) 1 = some (.getfield 36, 5) := by decide +kernel
theorem at_164_4 : am_at (am_m 164) 4 = some (.iload_n 1, 0) := by decide +kernel
theorem at_164_5 : am_at (am_m 164) 5 = some (.iload_n 2, 0) := by decide +kernel
theorem at_164_6 : am_at (am_m 164) 6 = some (.invokevirtual 90, 54) := by decide +kernel
theorem at_164_9 : am_at (am_m 164) 9 = some (.istore 4, 0) := by decide +kernel
theorem at_164_11 : am_at (am_m 164) 11 = some (.iload_n 3, 0) := by decide +kernel
theorem at_164_12 : am_at (am_m 164) 12 = some (.ifCond .ne 10, 22) := by decide +kernel
theorem at_164_15 : am_at (am_m 164) 15 = some (.iload 4, 0) := by decide +kernel
theorem at_164_17 : am_at (am_m 164) 17 = some (.iconst 1, 0) := by decide +kernel
theorem at_164_18 : am_at (am_m 164) 18 = some (.iadd, 0) := by decide +kernel
theorem at_164_19 : am_at (am_m 164) 19 = some (.goto 44, 63) := by decide +kernel
theorem at_164_22 : am_at (am_m 164) 22 = some (.iload_n 3, 0) := by decide +kernel
theorem at_164_23 : am_at (am_m 164) 23 = some (.iconst 1, 0) := by decide +kernel
theorem at_164_24 : am_at (am_m 164) 24 = some (.if_icmp .ne 10, 34) := by decide +kernel
theorem at_164_27 : am_at (am_m 164) 27 = some (.iload 4, 0) := by decide +kernel
theorem at_164_29 : am_at (am_m 164) 29 = some (.iconst 1, 0) := by decide +kernel
theorem at_164_30 : am_at (am_m 164) 30 = some (.isub, 0) := by decide +kernel
theorem at_164_31 : am_at (am_m 164) 31 = some (.goto 32, 63) := by decide +kernel
theorem at_164_34 : am_at (am_m 164) 34 = some (.iload_n 3, 0) := by decide +kernel
theorem at_164_35 : am_at (am_m 164) 35 = some (.iconst 2, 0) := by decide +kernel
theorem at_164_36 : am_at (am_m 164) 36 = some (.if_icmp .ne 11, 47) := by decide +kernel
theorem at_164_39 : am_at (am_m 164) 39 = some (.iload 4, 0) := by decide +kernel
theorem at_164_41 : am_at (am_m 164) 41 = some (.bipush 10, 0) := by decide +kernel
theorem at_164_43 : am_at (am_m 164) 43 = some (.iadd, 0) := by decide +kernel
theorem at_164_44 : am_at (am_m 164) 44 = some (.goto 19, 63) := by decide +kernel
theorem at_164_47 : am_at (am_m 164) 47 = some (.iload_n 3, 0) := by decide +kernel
theorem at_164_48 : am_at (am_m 164) 48 = some (.iconst 3, 0) := by decide +kernel
theorem at_164_49 : am_at (am_m 164) 49 = some (.if_icmp .ne 11, 60) := by decide +kernel
theorem at_164_52 : am_at (am_m 164) 52 = some (.iload 4, 0) := by decide +kernel
theorem at_164_54 : am_at (am_m 164) 54 = some (.bipush 10, 0) := by decide +kernel
theorem at_164_56 : am_at (am_m 164) 56 = some (.isub, 0) := by decide +kernel
theorem at_164_57 : am_at (am_m 164) 57 = some (.goto 6, 63) := by decide +kernel
theorem at_164_60 : am_at (am_m 164) 60 = some (.iload 4, 0) := by decide +kernel
theorem at_164_62 : am_at (am_m 164) 62 = some (.ineg, 0) := by decide +kernel
theorem at_164_63 : am_at (am_m 164) 63 = some (.istore 5, 0) := by decide +kernel
theorem at_164_65 : am_at (am_m 164) 65 = some (.iload 5, 0) := by decide +kernel
theorem at_164_67 : am_at (am_m 164) 67 = some (.iload 4, 0) := by decide +kernel
theorem at_164_69 : am_at (am_m 164) 69 = some (.if_icmp .eq 17, 86) := by decide +kernel
theorem at_164_72 : am_at (am_m 164) 72 = some (.iload 5, 0) := by decide +kernel
theorem at_164_74 : am_at (am_m 164) 74 = some (.bipush (-99), 0) := by decide +kernel
theorem at_164_76 : am_at (am_m 164) 76 = some (.if_icmp .lt 10, 86) := by decide +kernel
theorem at_164_79 : am_at (am_m 164) 79 = some (.iload 5, 0) := by decide +kernel
theorem at_164_81 : am_at (am_m 164) 81 = some (.bipush 99, 0) := by decide +kernel
theorem at_164_83 : am_at (am_m 164) 83 = some (.if_icmp .le 5, 88) := by decide +kernel
theorem at_164_86 : am_at (am_m 164) 86 = some (.iconst 0, 0) := by decide +kernel
theorem at_164_87 : am_at (am_m 164) 87 = some (.ireturn, 0) := by decide +kernel
theorem at_164_88 : am_at (am_m 164) 88 = some (.aload_n 0, 0) := by decide +kernel
theorem at_164_89 : am_at (am_m 164) 89 = some (.getfield 14, 0) := by decide +kernel
theorem at_164_92 : am_at (am_m 164) 92 = some (.aload_n 0, 0) := by decide +kernel
theorem at_164_93 : am_at (am_m 164) 93 = some (.getfield 36, 5) := by decide +kernel
theorem at_164_96 : am_at (am_m 164) 96 = some (.invokevirtual 147, 60) := by decide +kernel
theorem at_164_99 : am_at (am_m 164) 99 = some (.aload_n 0, 0) := by decide +kernel
theorem at_164_100 : am_at (am_m 164) 100 = some (.getfield 14, 0) := by decide +kernel
theorem at_164_103 : am_at (am_m 164) 103 = some (.iload_n 1, 0) := by decide +kernel
theorem at_164_104 : am_at (am_m 164) 104 = some (.iload_n 2, 0) := by decide +kernel
theorem at_164_105 : am_at (am_m 164) 105 = some (.iload 5, 0) := by decide +kernel
theorem at_164_107 : am_at (am_m 164) 107 = some (.invokevirtual 150, 51) := by decide +kernel
theorem at_164_110 : am_at (am_m 164) 110 = some (.iconst 1, 0) := by decide +kernel
theorem at_164_111 : am_at (am_m 164) 111 = some (.ireturn, 0) := by decide +kernel
theorem at_165_0 : am_at (am_m 165) 0 = some (.aload_n 0, 0) := by decide +kernel
theorem at_165_1 : am_at (am_m 165) 1 = some (.getfield 36, 5) := by decide +kernel
theorem at_165_4 : am_at (am_m 165) 4 = some (.iload_n 1, 0) := by decide +kernel
theorem at_165_5 : am_at (am_m 165) 5 = some (.iconst 0, 0) := by decide +kernel
theorem at_165_6 : am_at (am_m 165) 6 = some (.invokevirtual 90, 54) := by decide +kernel
theorem at_165_9 : am_at (am_m 165) 9 = some (.istore_n 3, 0) := by decide +kernel
theorem at_165_10 : am_at (am_m 165) 10 = some (.aload_n 0, 0) := by decide +kernel
theorem at_165_11 : am_at (am_m 165) 11 = some (.getfield 26, 2) := by decide +kernel
theorem at_165_14 : am_at (am_m 165) 14 = some (.iload_n 1, 0) := by decide +kernel
theorem at_165_15 : am_at (am_m 165) 15 = some (.iconst 1, 0) := by decide +kernel
theorem at_165_16 : am_at (am_m 165) 16 = some (.invokevirtual 154, 166) := by decide +kernel
theorem at_165_19 : am_at (am_m 165) 19 = some (.istore 4, 0) := by decide +kernel
theorem at_165_21 : am_at (am_m 165) 21 = some (.iload_n 2, 0) := by decide +kernel
theorem at_165_22 : am_at (am_m 165) 22 = some (.iload_n 3, 0) := by decide +kernel
theorem at_165_23 : am_at (am_m 165) 23 = some (.if_icmp .eq 38, 61) := by decide +kernel
theorem at_165_26 : am_at (am_m 165) 26 = some (.iload_n 2, 0) := by decide +kernel
theorem at_165_27 : am_at (am_m 165) 27 = some (.invokestatic 157, 14) := by decide +kernel
theorem at_165_30 : am_at (am_m 165) 30 = some (.iload_n 3, 0) := by decide +kernel
theorem at_165_31 : am_at (am_m 165) 31 = some (.invokestatic 157, 14) := by decide +kernel
theorem at_165_34 : am_at (am_m 165) 34 = some (.if_icmp .ne 27, 61) := by decide +kernel
theorem at_165_37 : am_at (am_m 165) 37 = some (.iload_n 2, 0) := by decide +kernel
theorem at_165_38 : am_at (am_m 165) 38 = some (.invokestatic 160, 11) := by decide +kernel
theorem at_165_41 : am_at (am_m 165) 41 = some (.iload_n 3, 0) := by decide +kernel
theorem at_165_42 : am_at (am_m 165) 42 = some (.invokestatic 160, 11) := by decide +kernel
theorem at_165_45 : am_at (am_m 165) 45 = some (.if_icmp .ne 16, 61) := by decide +kernel
theorem at_165_48 : am_at (am_m 165) 48 = some (.iload_n 2, 0) := by decide +kernel
theorem at_165_49 : am_at (am_m 165) 49 = some (.iconst 0, 0) := by decide +kernel
theorem at_165_50 : am_at (am_m 165) 50 = some (.invokestatic 163, 13) := by decide +kernel
theorem at_165_53 : am_at (am_m 165) 53 = some (.iload_n 3, 0) := by decide +kernel
theorem at_165_54 : am_at (am_m 165) 54 = some (.iconst 0, 0) := by decide +kernel
theorem at_165_55 : am_at (am_m 165) 55 = some (.invokestatic 163, 13) := by decide +kernel
theorem at_165_58 : am_at (am_m 165) 58 = some (.if_icmp .eq 5, 63) := by decide +kernel
theorem at_165_61 : am_at (am_m 165) 61 = some (.iconst 0, 0) := by decide +kernel
theorem at_165_62 : am_at (am_m 165) 62 = some (.ireturn, 0) := by decide +kernel
theorem at_165_63 : am_at (am_m 165) 63 = some (.iload_n 2, 0) := by decide +kernel
theorem at_165_64 : am_at (am_m 165) 64 = some (.iconst 5, 0) := by decide +kernel
theorem at_165_65 : am_at (am_m 165) 65 = some (.if_icmp .eq 9, 74) := by decide +kernel
theorem at_165_68 : am_at (am_m 165) 68 = some (.iload_n 2, 0) := by decide +kernel
theorem at_165_69 : am_at (am_m 165) 69 = some (.bipush 6, 0) := by decide +kernel
theorem at_165_71 : am_at (am_m 165) 71 = some (.if_icmp .ne 15, 86) := by decide +kernel
theorem at_165_74 : am_at (am_m 165) 74 = some (.aload_n 0, 0) := by decide +kernel
theorem at_165_75 : am_at (am_m 165) 75 = some (.getfield 26, 2) := by decide +kernel
theorem at_165_78 : am_at (am_m 165) 78 = some (.getfield 166, 1795) := by decide +kernel
theorem at_165_81 : am_at (am_m 165) 81 = some (.iload_n 1, 0) := by decide +kernel
theorem at_165_82 : am_at (am_m 165) 82 = some (.baload, 0) := by decide +kernel
theorem at_165_83 : am_at (am_m 165) 83 = some (.ifCond .eq 77, 160) := by decide +kernel
theorem at_165_86 : am_at (am_m 165) 86 = some (.iload_n 2, 0) := by decide +kernel
theorem at_165_87 : am_at (am_m 165) 87 = some (.bipush 19, 0) := by decide +kernel
theorem at_165_89 : am_at (am_m 165) 89 = some (.if_icmp .ne 40, 129) := by decide +kernel
theorem at_165_92 : am_at (am_m 165) 92 = some (.aload_n 0, 0) := by decide +kernel
theorem at_165_93 : am_at (am_m 165) 93 = some (.getfield 26, 2) := by decide +kernel
theorem at_165_96 : am_at (am_m 165) 96 = some (.getfield 166, 1795) := by decide +kernel
theorem at_165_99 : am_at (am_m 165) 99 = some (.iload_n 1, 0) := by decide +kernel
theorem at_165_100 : am_at (am_m 165) 100 = some (.baload, 0) := by decide +kernel
theorem at_165_101 : am_at (am_m 165) 101 = some (.ifCond .ne 59, 160) := by decide +kernel
theorem at_165_104 : am_at (am_m 165) 104 = some (.iload 4, 0) := by decide +kernel
theorem at_165_106 : am_at (am_m 165) 106 = some (.aload_n 0, 0) := by decide +kernel
theorem at_165_107 : am_at (am_m 165) 107 = some (.getfield 36, 5) := by decide +kernel
theorem at_165_110 : am_at (am_m 165) 110 = some (.getfield 80, 771) := by decide +kernel
theorem at_165_113 : am_at (am_m 165) 113 = some (.if_icmp .ge 16, 129) := by decide +kernel
theorem at_165_116 : am_at (am_m 165) 116 = some (.aload_n 0, 0) := by decide +kernel
theorem at_165_117 : am_at (am_m 165) 117 = some (.getfield 26, 2) := by decide +kernel
theorem at_165_120 : am_at (am_m 165) 120 = some (.getfield 170, 1796) := by decide +kernel
theorem at_165_123 : am_at (am_m 165) 123 = some (.iload 4, 0) := by decide +kernel
theorem at_165_125 : am_at (am_m 165) 125 = some (.baload, 0) := by decide +kernel
theorem at_165_126 : am_at (am_m 165) 126 = some (.ifCond .ne 34, 160) := by decide +kernel
theorem at_165_129 : am_at (am_m 165) 129 = some (.iload_n 3, 0) := by decide +kernel
theorem at_165_130 : am_at (am_m 165) 130 = some (.bipush 19, 0) := by decide +kernel
theorem at_165_132 : am_at (am_m 165) 132 = some (.if_icmp .ne 30, 162) := by decide +kernel
theorem at_165_135 : am_at (am_m 165) 135 = some (.iload 4, 0) := by decide +kernel
theorem at_165_137 : am_at (am_m 165) 137 = some (.aload_n 0, 0) := by decide +kernel
theorem at_165_138 : am_at (am_m 165) 138 = some (.getfield 36, 5) := by decide +kernel
theorem at_165_141 : am_at (am_m 165) 141 = some (.getfield 80, 771) := by decide +kernel
theorem at_165_144 : am_at (am_m 165) 144 = some (.if_icmp .ge 18, 162) := by decide +kernel
theorem at_165_147 : am_at (am_m 165) 147 = some (.aload_n 0, 0) := by decide +kernel
theorem at_165_148 : am_at (am_m 165) 148 = some (.getfield 26, 2) := by decide +kernel
theorem at_165_151 : am_at (am_m 165) 151 = some (.getfield 173, 1797) := by decide +kernel
theorem at_165_154 : am_at (am_m 165) 154 = some (.iload 4, 0) := by decide +kernel
theorem at_165_156 : am_at (am_m 165) 156 = some (.baload, 0) := by decide +kernel
theorem at_165_157 : am_at (am_m 165) 157 = some (.ifCond .eq 5, 162) := by decide +kernel
theorem at_165_160 : am_at (am_m 165) 160 = some (.iconst 0, 0) := by decide +kernel
theorem at_165_161 : am_at (am_m 165) 161 = some (.ireturn, 0) := by decide +kernel
theorem at_165_162 : am_at (am_m 165) 162 = some (.aload_n 0, 0) := by decide +kernel
theorem at_165_163 : am_at (am_m 165) 163 = some (.getfield 14, 0) := by decide +kernel
theorem at_165_166 : am_at (am_m 165) 166 = some (.aload_n 0, 0) := by decide +kernel
theorem at_165_167 : am_at (am_m 165) 167 = some (.getfield 36, 5) := by decide +kernel
theorem at_165_170 : am_at (am_m 165) 170 = some (.invokevirtual 147, 60) := by decide +kernel
theorem at_165_173 : am_at (am_m 165) 173 = some (.aload_n 0, 0) := by decide +kernel
theorem at_165_174 : am_at (am_m 165) 174 = some (.getfield 14, 0) := by decide +kernel
theorem at_165_177 : am_at (am_m 165) 177 = some (.iload_n 1, 0) := by decide +kernel
theorem at_165_178 : am_at (am_m 165) 178 = some (.iconst 0, 0) := by decide +kernel
theorem at_165_179 : am_at (am_m 165) 179 = some (.iload_n 2, 0) := by decide +kernel
theorem at_165_180 : am_at (am_m 165) 180 = some (.invokevirtual 150, 51) := by decide +kernel
theorem at_165_183 : am_at (am_m 165) 183 = some (.aload_n 0, 0) := by decide +kernel
theorem at_165_184 : am_at (am_m 165) 184 = some (.getfield 14, 0) := by decide +kernel
theorem at_165_187 : am_at (am_m 165) 187 = some (.iload_n 1, 0) := by decide +kernel
theorem at_165_188 : am_at (am_m 165) 188 = some (.iconst 1, 0) := by decide +kernel
theorem at_165_189 : am_at (am_m 165) 189 = some (.iload_n 2, 0) := by decide +kernel
theorem at_165_190 : am_at (am_m 165) 190 = some (.ifCond .ne 7, 197) := by decide +kernel
theorem at_165_193 : am_at (am_m 165) 193 = some (.iconst 1, 0) := by decide +kernel
theorem at_165_194 : am_at (am_m 165) 194 = some (.goto 4, 198) := by decide +kernel
theorem at_165_197 : am_at (am_m 165) 197 = some (.iconst 0, 0) := by decide +kernel
theorem at_165_198 : am_at (am_m 165) 198 = some (.invokevirtual 150, 51) := by decide +kernel
theorem at_165_201 : am_at (am_m 165) 201 = some (.iconst 1, 0) := by decide +kernel
theorem at_165_202 : am_at (am_m 165) 202 = some (.ireturn, 0) := by decide +kernel
theorem at_166_0 : am_at (am_m 166) 0 = some (.iload_n 1, 0) := by decide +kernel
theorem at_166_1 : am_at (am_m 166) 1 = some (.iconst 1, 0) := by decide +kernel
theorem at_166_2 : am_at (am_m 166) 2 = some (.iadd, 0) := by decide +kernel
theorem at_166_3 : am_at (am_m 166) 3 = some (.istore_n 3, 0) := by decide +kernel
theorem at_166_4 : am_at (am_m 166) 4 = some (.iconst 0, 0) := by decide +kernel
theorem at_166_5 : am_at (am_m 166) 5 = some (.istore 4, 0) := by decide +kernel
theorem at_166_7 : am_at (am_m 166) 7 = some (.iload 4, 0) := by decide +kernel
theorem at_166_9 : am_at (am_m 166) 9 = some (.iload_n 2, 0) := by decide +kernel
theorem at_166_10 : am_at (am_m 166) 10 = some (.if_icmp .ge 15, 25) := by decide +kernel
theorem at_166_13 : am_at (am_m 166) 13 = some (.aload_n 0, 0) := by decide +kernel
theorem at_166_14 : am_at (am_m 166) 14 = some (.iload_n 3, 0) := by decide +kernel
theorem at_166_15 : am_at (am_m 166) 15 = some (.invokevirtual 38, 100) := by decide +kernel
theorem at_166_18 : am_at (am_m 166) 18 = some (.istore_n 3, 0) := by decide +kernel
theorem at_166_19 : am_at (am_m 166) 19 = some (.iinc 4 1, 0) := by decide +kernel
theorem at_166_22 : am_at (am_m 166) 22 = some (.goto (-15), 7) := by decide +kernel
theorem at_166_25 : am_at (am_m 166) 25 = some (.iload_n 3, 0) := by decide +kernel
theorem at_166_26 : am_at (am_m 166) 26 = some (.ireturn, 0) := by decide +kernel
theorem at_167_0 : am_at (am_m 167) 0 = some (.iload_n 2, 0) := by decide +kernel
theorem at_167_1 : am_at (am_m 167) 1 = some (.iconst 1, 0) := by decide +kernel
theorem at_167_2 : am_at (am_m 167) 2 = some (.if_icmp .ne 7, 9) := by decide +kernel
theorem at_167_5 : am_at (am_m 167) 5 = some (.iconst 1, 0) := by decide +kernel
theorem at_167_6 : am_at (am_m 167) 6 = some (.goto 4, 10) := by decide +kernel
theorem at_167_9 : am_at (am_m 167) 9 = some (.iconst 0, 0) := by decide +kernel
theorem at_167_10 : am_at (am_m 167) 10 = some (.istore_n 3, 0) := by decide +kernel
theorem at_167_11 : am_at (am_m 167) 11 = some (.iload_n 2, 0) := by decide +kernel
theorem at_167_12 : am_at (am_m 167) 12 = some (.iconst 2, 0) := by decide +kernel
theorem at_167_13 : am_at (am_m 167) 13 = some (.if_icmp .ne 7, 20) := by decide +kernel
theorem at_167_16 : am_at (am_m 167) 16 = some (.iconst 1, 0) := by decide +kernel
theorem at_167_17 : am_at (am_m 167) 17 = some (.goto 4, 21) := by decide +kernel
theorem at_167_20 : am_at (am_m 167) 20 = some (.iconst 0, 0) := by decide +kernel
theorem at_167_21 : am_at (am_m 167) 21 = some (.istore 4, 0) := by decide +kernel
theorem at_167_23 : am_at (am_m 167) 23 = some (.aload_n 0, 0) := by decide +kernel
theorem at_167_24 : am_at (am_m 167) 24 = some (.getfield 36, 5) := by decide +kernel
theorem at_167_27 : am_at (am_m 167) 27 = some (.iload_n 1, 0) := by decide +kernel
theorem at_167_28 : am_at (am_m 167) 28 = some (.iconst 0, 0) := by decide +kernel
theorem at_167_29 : am_at (am_m 167) 29 = some (.invokevirtual 90, 54) := by decide +kernel
theorem at_167_32 : am_at (am_m 167) 32 = some (.istore 5, 0) := by decide +kernel
theorem at_167_34 : am_at (am_m 167) 34 = some (.iload 5, 0) := by decide +kernel
theorem at_167_36 : am_at (am_m 167) 36 = some (.invokestatic 160, 11) := by decide +kernel
theorem at_167_39 : am_at (am_m 167) 39 = some (.ifCond .ne 23, 62) := by decide +kernel
theorem at_167_42 : am_at (am_m 167) 42 = some (.iload 5, 0) := by decide +kernel
theorem at_167_44 : am_at (am_m 167) 44 = some (.iload_n 3, 0) := by decide +kernel
theorem at_167_45 : am_at (am_m 167) 45 = some (.if_icmp .ne 19, 64) := by decide +kernel
theorem at_167_48 : am_at (am_m 167) 48 = some (.aload_n 0, 0) := by decide +kernel
theorem at_167_49 : am_at (am_m 167) 49 = some (.getfield 36, 5) := by decide +kernel
theorem at_167_52 : am_at (am_m 167) 52 = some (.iload_n 1, 0) := by decide +kernel
theorem at_167_53 : am_at (am_m 167) 53 = some (.iconst 1, 0) := by decide +kernel
theorem at_167_54 : am_at (am_m 167) 54 = some (.invokevirtual 90, 54) := by decide +kernel
theorem at_167_57 : am_at (am_m 167) 57 = some (.iload 4, 0) := by decide +kernel
theorem at_167_59 : am_at (am_m 167) 59 = some (.if_icmp .ne 5, 64) := by decide +kernel
theorem at_167_62 : am_at (am_m 167) 62 = some (.iconst 0, 0) := by decide +kernel
theorem at_167_63 : am_at (am_m 167) 63 = some (.ireturn, 0) := by decide +kernel
theorem at_167_64 : am_at (am_m 167) 64 = some (.aload_n 0, 0) := by decide +kernel
theorem at_167_65 : am_at (am_m 167) 65 = some (.getfield 20, 1) := by decide +kernel
theorem at_167_68 : am_at (am_m 167) 68 = some (.iconst 0, 0) := by decide +kernel
theorem at_167_69 : am_at (am_m 167) 69 = some (.iconst 0, 0) := by decide +kernel
theorem at_167_70 : am_at (am_m 167) 70 = some (.invokevirtual 176, 34) := by decide +kernel
theorem at_167_73 : am_at (am_m 167) 73 = some (.aload_n 0, 0) := by decide +kernel
theorem at_167_74 : am_at (am_m 167) 74 = some (.getfield 20, 1) := by decide +kernel
theorem at_167_77 : am_at (am_m 167) 77 = some (.iload_n 3, 0) := by decide +kernel
theorem at_167_78 : am_at (am_m 167) 78 = some (.iload 4, 0) := by decide +kernel
theorem at_167_80 : am_at (am_m 167) 80 = some (.invokevirtual 180, 41) := by decide +kernel
theorem at_167_83 : am_at (am_m 167) 83 = some (.pop, 0) := by decide +kernel
theorem at_167_84 : am_at (am_m 167) 84 = some (.aload_n 0, 0) := by decide +kernel
theorem at_167_85 : am_at (am_m 167) 85 = some (.aload_n 0, 0) := by decide +kernel
theorem at_167_86 : am_at (am_m 167) 86 = some (.getfield 20, 1) := by decide +kernel
theorem at_167_89 : am_at (am_m 167) 89 = some (.iconst 0, 0) := by decide +kernel
theorem at_167_90 : am_at (am_m 167) 90 = some (.iconst 1, 0) := by decide +kernel
theorem at_167_91 : am_at (am_m 167) 91 = some (.invokevirtual 183, 168) := by decide +kernel
theorem at_167_94 : am_at (am_m 167) 94 = some (.ireturn, 0) := by decide +kernel
theorem at_168_0 : am_at (am_m 168) 0 = some (.aload_n 0, 0) := by decide +kernel
theorem at_168_1 : am_at (am_m 168) 1 = some (.aload_n 1, 0) := by decide +kernel
theorem at_168_2 : am_at (am_m 168) 2 = some (.putfield 52, 10) := by decide +kernel
theorem at_168_5 : am_at (am_m 168) 5 = some (.aload_n 0, 0) := by decide +kernel
theorem at_168_6 : am_at (am_m 168) 6 = some (.iload_n 2, 0) := by decide +kernel
theorem at_168_7 : am_at (am_m 168) 7 = some (.putfield 55, 11) := by decide +kernel
theorem at_168_10 : am_at (am_m 168) 10 = some (.aload_n 0, 0) := by decide +kernel
theorem at_168_11 : am_at (am_m 168) 11 = some (.iload_n 3, 0) := by decide +kernel
theorem at_168_12 : am_at (am_m 168) 12 = some (.putfield 58, 12) := by decide +kernel
theorem at_168_15 : am_at (am_m 168) 15 = some (.iconst 1, 0) := by decide +kernel
theorem at_168_16 : am_at (am_m 168) 16 = some (.ireturn, 0) := by decide +kernel
theorem at_169_0 : am_at (am_m 169) 0 = some (.aload_n 0, 0) := by decide +kernel
theorem at_169_1 : am_at (am_m 169) 1 = some (.getfield 14, 0) := by decide +kernel
theorem at_169_4 : am_at (am_m 169) 4 = some (.iconst 0, 0) := by decide +kernel
theorem at_169_5 : am_at (am_m 169) 5 = some (.iconst 0, 0) := by decide +kernel
theorem at_169_6 : am_at (am_m 169) 6 = some (.invokevirtual 176, 34) := by decide +kernel
theorem at_169_9 : am_at (am_m 169) 9 = some (.aload_n 0, 0) := by decide +kernel
theorem at_169_10 : am_at (am_m 169) 10 = some (.getfield 52, 10) := by decide +kernel
theorem at_169_13 : am_at (am_m 169) 13 = some (.ifnull 74, 87) := by decide +kernel
theorem at_169_16 : am_at (am_m 169) 16 = some (.aload_n 0, 0) := by decide +kernel
theorem at_169_17 : am_at (am_m 169) 17 = some (.getfield 14, 0) := by decide +kernel
theorem at_169_20 : am_at (am_m 169) 20 = some (.aload_n 0, 0) := by decide +kernel
theorem at_169_21 : am_at (am_m 169) 21 = some (.getfield 36, 5) := by decide +kernel
theorem at_169_24 : am_at (am_m 169) 24 = some (.iconst 0, 0) := by decide +kernel
theorem at_169_25 : am_at (am_m 169) 25 = some (.iload_n 1, 0) := by decide +kernel
theorem at_169_26 : am_at (am_m 169) 26 = some (.invokevirtual 197, 170) := by decide +kernel
theorem at_169_29 : am_at (am_m 169) 29 = some (.ifCond .eq 58, 87) := by decide +kernel
theorem at_169_32 : am_at (am_m 169) 32 = some (.aload_n 0, 0) := by decide +kernel
theorem at_169_33 : am_at (am_m 169) 33 = some (.getfield 14, 0) := by decide +kernel
theorem at_169_36 : am_at (am_m 169) 36 = some (.aload_n 0, 0) := by decide +kernel
theorem at_169_37 : am_at (am_m 169) 37 = some (.getfield 52, 10) := by decide +kernel
theorem at_169_40 : am_at (am_m 169) 40 = some (.aload_n 0, 0) := by decide +kernel
theorem at_169_41 : am_at (am_m 169) 41 = some (.getfield 55, 11) := by decide +kernel
theorem at_169_44 : am_at (am_m 169) 44 = some (.aload_n 0, 0) := by decide +kernel
theorem at_169_45 : am_at (am_m 169) 45 = some (.getfield 58, 12) := by decide +kernel
theorem at_169_48 : am_at (am_m 169) 48 = some (.invokevirtual 197, 170) := by decide +kernel
theorem at_169_51 : am_at (am_m 169) 51 = some (.ifCond .eq 36, 87) := by decide +kernel
theorem at_169_54 : am_at (am_m 169) 54 = some (.aload_n 0, 0) := by decide +kernel
theorem at_169_55 : am_at (am_m 169) 55 = some (.getfield 14, 0) := by decide +kernel
theorem at_169_58 : am_at (am_m 169) 58 = some (.aload_n 0, 0) := by decide +kernel
theorem at_169_59 : am_at (am_m 169) 59 = some (.getfield 36, 5) := by decide +kernel
theorem at_169_62 : am_at (am_m 169) 62 = some (.aload_n 0, 0) := by decide +kernel
theorem at_169_63 : am_at (am_m 169) 63 = some (.getfield 26, 2) := by decide +kernel
theorem at_169_66 : am_at (am_m 169) 66 = some (.iload_n 1, 0) := by decide +kernel
theorem at_169_67 : am_at (am_m 169) 67 = some (.invokevirtual 187, 100) := by decide +kernel
theorem at_169_70 : am_at (am_m 169) 70 = some (.aload_n 0, 0) := by decide +kernel
theorem at_169_71 : am_at (am_m 169) 71 = some (.getfield 36, 5) := by decide +kernel
theorem at_169_74 : am_at (am_m 169) 74 = some (.getfield 80, 771) := by decide +kernel
theorem at_169_77 : am_at (am_m 169) 77 = some (.invokevirtual 197, 170) := by decide +kernel
theorem at_169_80 : am_at (am_m 169) 80 = some (.ifCond .eq 7, 87) := by decide +kernel
theorem at_169_83 : am_at (am_m 169) 83 = some (.iconst 1, 0) := by decide +kernel
theorem at_169_84 : am_at (am_m 169) 84 = some (.goto 4, 88) := by decide +kernel
theorem at_169_87 : am_at (am_m 169) 87 = some (.iconst 0, 0) := by decide +kernel
theorem at_169_88 : am_at (am_m 169) 88 = some (.ireturn, 0) := by decide +kernel
theorem at_170_0 : am_at (am_m 170) 0 = some (.iload_n 3, 0) := by decide +kernel
theorem at_170_1 : am_at (am_m 170) 1 = some (.iload_n 2, 0) := by decide +kernel
theorem at_170_2 : am_at (am_m 170) 2 = some (.isub, 0) := by decide +kernel
theorem at_170_3 : am_at (am_m 170) 3 = some (.istore 4, 0) := by decide +kernel
theorem at_170_5 : am_at (am_m 170) 5 = some (.aload_n 1, 0) := by decide +kernel
theorem at_170_6 : am_at (am_m 170) 6 = some (.getfield 21, 772) := by decide +kernel
theorem at_170_9 : am_at (am_m 170) 9 = some (.aload_n 0, 0) := by decide +kernel
theorem at_170_10 : am_at (am_m 170) 10 = some (.getfield 21, 772) := by decide +kernel
theorem at_170_13 : am_at (am_m 170) 13 = some (.if_icmp .ne 40, 53) := by decide +kernel
theorem at_170_16 : am_at (am_m 170) 16 = some (.iload_n 2, 0) := by decide +kernel
theorem at_170_17 : am_at (am_m 170) 17 = some (.ifCond .lt 36, 53) := by decide +kernel
theorem at_170_20 : am_at (am_m 170) 20 = some (.iload 4, 0) := by decide +kernel
theorem at_170_22 : am_at (am_m 170) 22 = some (.ifCond .lt 31, 53) := by decide +kernel
theorem at_170_25 : am_at (am_m 170) 25 = some (.iload_n 3, 0) := by decide +kernel
theorem at_170_26 : am_at (am_m 170) 26 = some (.aload_n 1, 0) := by decide +kernel
theorem at_170_27 : am_at (am_m 170) 27 = some (.getfield 18, 771) := by decide +kernel
theorem at_170_30 : am_at (am_m 170) 30 = some (.if_icmp .gt 23, 53) := by decide +kernel
theorem at_170_33 : am_at (am_m 170) 33 = some (.aload_n 0, 0) := by decide +kernel
theorem at_170_34 : am_at (am_m 170) 34 = some (.getfield 18, 771) := by decide +kernel
theorem at_170_37 : am_at (am_m 170) 37 = some (.iload 4, 0) := by decide +kernel
theorem at_170_39 : am_at (am_m 170) 39 = some (.iadd, 0) := by decide +kernel
theorem at_170_40 : am_at (am_m 170) 40 = some (.aload_n 0, 0) := by decide +kernel
theorem at_170_41 : am_at (am_m 170) 41 = some (.getfield 21, 772) := by decide +kernel
theorem at_170_44 : am_at (am_m 170) 44 = some (.imul, 0) := by decide +kernel
theorem at_170_45 : am_at (am_m 170) 45 = some (.aload_n 0, 0) := by decide +kernel
theorem at_170_46 : am_at (am_m 170) 46 = some (.getfield 43, 768) := by decide +kernel
theorem at_170_49 : am_at (am_m 170) 49 = some (.arraylength, 0) := by decide +kernel
theorem at_170_50 : am_at (am_m 170) 50 = some (.if_icmp .le 5, 55) := by decide +kernel
theorem at_170_53 : am_at (am_m 170) 53 = some (.iconst 0, 0) := by decide +kernel
theorem at_170_54 : am_at (am_m 170) 54 = some (.ireturn, 0) := by decide +kernel
theorem at_170_55 : am_at (am_m 170) 55 = some (.aload_n 1, 0) := by decide +kernel
theorem at_170_56 : am_at (am_m 170) 56 = some (.getfield 43, 768) := by decide +kernel
theorem at_170_59 : am_at (am_m 170) 59 = some (.iload_n 2, 0) := by decide +kernel
theorem at_170_60 : am_at (am_m 170) 60 = some (.aload_n 0, 0) := by decide +kernel
theorem at_170_61 : am_at (am_m 170) 61 = some (.getfield 21, 772) := by decide +kernel
theorem at_170_64 : am_at (am_m 170) 64 = some (.imul, 0) := by decide +kernel
theorem at_170_65 : am_at (am_m 170) 65 = some (.aload_n 0, 0) := by decide +kernel
theorem at_170_66 : am_at (am_m 170) 66 = some (.getfield 43, 768) := by decide +kernel
theorem at_170_69 : am_at (am_m 170) 69 = some (.aload_n 0, 0) := by decide +kernel
theorem at_170_70 : am_at (am_m 170) 70 = some (.getfield 18, 771) := by decide +kernel
theorem at_170_73 : am_at (am_m 170) 73 = some (.aload_n 0, 0) := by decide +kernel
theorem at_170_74 : am_at (am_m 170) 74 = some (.getfield 21, 772) := by decide +kernel
theorem at_170_77 : am_at (am_m 170) 77 = some (.imul, 0) := by decide +kernel
theorem at_170_78 : am_at (am_m 170) 78 = some (.iload 4, 0) := by decide +kernel
theorem at_170_80 : am_at (am_m 170) 80 = some (.aload_n 0, 0) := by decide +kernel
theorem at_170_81 : am_at (am_m 170) 81 = some (.getfield 21, 772) := by decide +kernel
theorem at_170_84 : am_at (am_m 170) 84 = some (.imul, 0) := by decide +kernel
theorem at_170_85 : am_at (am_m 170) 85 = some (.invokestatic 47, 10000) := by decide +kernel
theorem at_170_88 : am_at (am_m 170) 88 = some (.aload_n 0, 0) := by decide +kernel
theorem at_170_89 : am_at (am_m 170) 89 = some (.dup, 0) := by decide +kernel
theorem at_170_90 : am_at (am_m 170) 90 = some (.getfield 18, 771) := by decide +kernel
theorem at_170_93 : am_at (am_m 170) 93 = some (.iload 4, 0) := by decide +kernel
theorem at_170_95 : am_at (am_m 170) 95 = some (.iadd, 0) := by decide +kernel
theorem at_170_96 : am_at (am_m 170) 96 = some (.putfield 18, 771) := by decide +kernel
theorem at_170_99 : am_at (am_m 170) 99 = some (.iconst 1, 0) := by decide +kernel
theorem at_170_100 : am_at (am_m 170) 100 = some (.ireturn, 0) := by decide +kernel
theorem at_171_0 : am_at (am_m 171) 0 = some (.aload_n 0, 0) := by decide +kernel
theorem at_171_1 : am_at (am_m 171) 1 = some (.getfield 36, 5) := by decide +kernel
theorem at_171_4 : am_at (am_m 171) 4 = some (.iload_n 1, 0) := by decide +kernel
theorem at_171_5 : am_at (am_m 171) 5 = some (.iconst 0, 0) := by decide +kernel
theorem at_171_6 : am_at (am_m 171) 6 = some (.invokevirtual 90, 54) := by decide +kernel
theorem at_171_9 : am_at (am_m 171) 9 = some (.istore_n 3, 0) := by decide +kernel
theorem at_171_10 : am_at (am_m 171) 10 = some (.aload_n 0, 0) := by decide +kernel
theorem at_171_11 : am_at (am_m 171) 11 = some (.getfield 26, 2) := by decide +kernel
theorem at_171_14 : am_at (am_m 171) 14 = some (.iload_n 1, 0) := by decide +kernel
theorem at_171_15 : am_at (am_m 171) 15 = some (.iload_n 2, 0) := by decide +kernel
theorem at_171_16 : am_at (am_m 171) 16 = some (.invokevirtual 154, 166) := by decide +kernel
theorem at_171_19 : am_at (am_m 171) 19 = some (.istore 4, 0) := by decide +kernel
theorem at_171_21 : am_at (am_m 171) 21 = some (.iload_n 2, 0) := by decide +kernel
theorem at_171_22 : am_at (am_m 171) 22 = some (.iload_n 3, 0) := by decide +kernel
theorem at_171_23 : am_at (am_m 171) 23 = some (.invokestatic 157, 14) := by decide +kernel
theorem at_171_26 : am_at (am_m 171) 26 = some (.if_icmp .ge 51, 77) := by decide +kernel
theorem at_171_29 : am_at (am_m 171) 29 = some (.iload 4, 0) := by decide +kernel
theorem at_171_31 : am_at (am_m 171) 31 = some (.aload_n 0, 0) := by decide +kernel
theorem at_171_32 : am_at (am_m 171) 32 = some (.getfield 36, 5) := by decide +kernel
theorem at_171_35 : am_at (am_m 171) 35 = some (.getfield 80, 771) := by decide +kernel
theorem at_171_38 : am_at (am_m 171) 38 = some (.if_icmp .ge 39, 77) := by decide +kernel
theorem at_171_41 : am_at (am_m 171) 41 = some (.iload_n 3, 0) := by decide +kernel
theorem at_171_42 : am_at (am_m 171) 42 = some (.iload_n 2, 0) := by decide +kernel
theorem at_171_43 : am_at (am_m 171) 43 = some (.invokestatic 163, 13) := by decide +kernel
theorem at_171_46 : am_at (am_m 171) 46 = some (.iload_n 3, 0) := by decide +kernel
theorem at_171_47 : am_at (am_m 171) 47 = some (.invokestatic 160, 11) := by decide +kernel
theorem at_171_50 : am_at (am_m 171) 50 = some (.if_icmp .ne 27, 77) := by decide +kernel
theorem at_171_53 : am_at (am_m 171) 53 = some (.iload_n 3, 0) := by decide +kernel
theorem at_171_54 : am_at (am_m 171) 54 = some (.bipush 19, 0) := by decide +kernel
theorem at_171_56 : am_at (am_m 171) 56 = some (.if_icmp .ne 23, 79) := by decide +kernel
theorem at_171_59 : am_at (am_m 171) 59 = some (.iload_n 2, 0) := by decide +kernel
theorem at_171_60 : am_at (am_m 171) 60 = some (.iconst 1, 0) := by decide +kernel
theorem at_171_61 : am_at (am_m 171) 61 = some (.if_icmp .ne 18, 79) := by decide +kernel
theorem at_171_64 : am_at (am_m 171) 64 = some (.aload_n 0, 0) := by decide +kernel
theorem at_171_65 : am_at (am_m 171) 65 = some (.getfield 26, 2) := by decide +kernel
theorem at_171_68 : am_at (am_m 171) 68 = some (.getfield 173, 1797) := by decide +kernel
theorem at_171_71 : am_at (am_m 171) 71 = some (.iload 4, 0) := by decide +kernel
theorem at_171_73 : am_at (am_m 171) 73 = some (.baload, 0) := by decide +kernel
theorem at_171_74 : am_at (am_m 171) 74 = some (.ifCond .eq 5, 79) := by decide +kernel
theorem at_171_77 : am_at (am_m 171) 77 = some (.iconst 0, 0) := by decide +kernel
theorem at_171_78 : am_at (am_m 171) 78 = some (.ireturn, 0) := by decide +kernel
theorem at_171_79 : am_at (am_m 171) 79 = some (.aload_n 0, 0) := by decide +kernel
theorem at_171_80 : am_at (am_m 171) 80 = some (.aload_n 0, 0) := by decide +kernel
theorem at_171_81 : am_at (am_m 171) 81 = some (.getfield 36, 5) := by decide +kernel
theorem at_171_84 : am_at (am_m 171) 84 = some (.iload 4, 0) := by decide +kernel
theorem at_171_86 : am_at (am_m 171) 86 = some (.aload_n 0, 0) := by decide +kernel
theorem at_171_87 : am_at (am_m 171) 87 = some (.getfield 26, 2) := by decide +kernel
theorem at_171_90 : am_at (am_m 171) 90 = some (.iload 4, 0) := by decide +kernel
theorem at_171_92 : am_at (am_m 171) 92 = some (.invokevirtual 187, 100) := by decide +kernel
theorem at_171_95 : am_at (am_m 171) 95 = some (.invokevirtual 183, 168) := by decide +kernel
theorem at_171_98 : am_at (am_m 171) 98 = some (.ireturn, 0) := by decide +kernel
theorem at_172_0 : am_at (am_m 172) 0 = some (.aload_n 0, 0) := by decide +kernel
theorem at_172_1 : am_at (am_m 172) 1 = some (.getfield 36, 5) := by decide +kernel
theorem at_172_4 : am_at (am_m 172) 4 = some (.iload_n 1, 0) := by decide +kernel
theorem at_172_5 : am_at (am_m 172) 5 = some (.iconst 0, 0) := by decide +kernel
theorem at_172_6 : am_at (am_m 172) 6 = some (.invokevirtual 90, 54) := by decide +kernel
theorem at_172_9 : am_at (am_m 172) 9 = some (.invokestatic 160, 11) := by decide +kernel
theorem at_172_12 : am_at (am_m 172) 12 = some (.aload_n 0, 0) := by decide +kernel
theorem at_172_13 : am_at (am_m 172) 13 = some (.getfield 39, 6) := by decide +kernel
theorem at_172_16 : am_at (am_m 172) 16 = some (.iload_n 2, 0) := by decide +kernel
theorem at_172_17 : am_at (am_m 172) 17 = some (.iconst 0, 0) := by decide +kernel
theorem at_172_18 : am_at (am_m 172) 18 = some (.invokevirtual 90, 54) := by decide +kernel
theorem at_172_21 : am_at (am_m 172) 21 = some (.invokestatic 160, 11) := by decide +kernel
theorem at_172_24 : am_at (am_m 172) 24 = some (.if_icmp .ne 101, 125) := by decide +kernel
theorem at_172_27 : am_at (am_m 172) 27 = some (.aload_n 0, 0) := by decide +kernel
theorem at_172_28 : am_at (am_m 172) 28 = some (.getfield 26, 2) := by decide +kernel
theorem at_172_31 : am_at (am_m 172) 31 = some (.getfield 190, 1793) := by decide +kernel
theorem at_172_34 : am_at (am_m 172) 34 = some (.iload_n 1, 0) := by decide +kernel
theorem at_172_35 : am_at (am_m 172) 35 = some (.iaload, 0) := by decide +kernel
theorem at_172_36 : am_at (am_m 172) 36 = some (.iconst 1, 0) := by decide +kernel
theorem at_172_37 : am_at (am_m 172) 37 = some (.isub, 0) := by decide +kernel
theorem at_172_38 : am_at (am_m 172) 38 = some (.aload_n 0, 0) := by decide +kernel
theorem at_172_39 : am_at (am_m 172) 39 = some (.getfield 30, 3) := by decide +kernel
theorem at_172_42 : am_at (am_m 172) 42 = some (.getfield 194, 1794) := by decide +kernel
theorem at_172_45 : am_at (am_m 172) 45 = some (.iload_n 2, 0) := by decide +kernel
theorem at_172_46 : am_at (am_m 172) 46 = some (.iaload, 0) := by decide +kernel
theorem at_172_47 : am_at (am_m 172) 47 = some (.iadd, 0) := by decide +kernel
theorem at_172_48 : am_at (am_m 172) 48 = some (.bipush 12, 0) := by decide +kernel
theorem at_172_50 : am_at (am_m 172) 50 = some (.if_icmp .gt 75, 125) := by decide +kernel
theorem at_172_53 : am_at (am_m 172) 53 = some (.aload_n 0, 0) := by decide +kernel
theorem at_172_54 : am_at (am_m 172) 54 = some (.getfield 26, 2) := by decide +kernel
theorem at_172_57 : am_at (am_m 172) 57 = some (.getfield 166, 1795) := by decide +kernel
theorem at_172_60 : am_at (am_m 172) 60 = some (.iload_n 1, 0) := by decide +kernel
theorem at_172_61 : am_at (am_m 172) 61 = some (.baload, 0) := by decide +kernel
theorem at_172_62 : am_at (am_m 172) 62 = some (.ifCond .eq 15, 77) := by decide +kernel
theorem at_172_65 : am_at (am_m 172) 65 = some (.aload_n 0, 0) := by decide +kernel
theorem at_172_66 : am_at (am_m 172) 66 = some (.getfield 30, 3) := by decide +kernel
theorem at_172_69 : am_at (am_m 172) 69 = some (.getfield 170, 1796) := by decide +kernel
theorem at_172_72 : am_at (am_m 172) 72 = some (.iload_n 2, 0) := by decide +kernel
theorem at_172_73 : am_at (am_m 172) 73 = some (.baload, 0) := by decide +kernel
theorem at_172_74 : am_at (am_m 172) 74 = some (.ifCond .ne 51, 125) := by decide +kernel
theorem at_172_77 : am_at (am_m 172) 77 = some (.aload_n 0, 0) := by decide +kernel
theorem at_172_78 : am_at (am_m 172) 78 = some (.getfield 30, 3) := by decide +kernel
theorem at_172_81 : am_at (am_m 172) 81 = some (.getfield 173, 1797) := by decide +kernel
theorem at_172_84 : am_at (am_m 172) 84 = some (.iload_n 2, 0) := by decide +kernel
theorem at_172_85 : am_at (am_m 172) 85 = some (.baload, 0) := by decide +kernel
theorem at_172_86 : am_at (am_m 172) 86 = some (.ifCond .eq 15, 101) := by decide +kernel
theorem at_172_89 : am_at (am_m 172) 89 = some (.aload_n 0, 0) := by decide +kernel
theorem at_172_90 : am_at (am_m 172) 90 = some (.getfield 26, 2) := by decide +kernel
theorem at_172_93 : am_at (am_m 172) 93 = some (.getfield 166, 1795) := by decide +kernel
theorem at_172_96 : am_at (am_m 172) 96 = some (.iload_n 1, 0) := by decide +kernel
theorem at_172_97 : am_at (am_m 172) 97 = some (.baload, 0) := by decide +kernel
theorem at_172_98 : am_at (am_m 172) 98 = some (.ifCond .eq 27, 125) := by decide +kernel
theorem at_172_101 : am_at (am_m 172) 101 = some (.aload_n 0, 0) := by decide +kernel
theorem at_172_102 : am_at (am_m 172) 102 = some (.aload_n 0, 0) := by decide +kernel
theorem at_172_103 : am_at (am_m 172) 103 = some (.getfield 39, 6) := by decide +kernel
theorem at_172_106 : am_at (am_m 172) 106 = some (.iload_n 2, 0) := by decide +kernel
theorem at_172_107 : am_at (am_m 172) 107 = some (.aload_n 0, 0) := by decide +kernel
theorem at_172_108 : am_at (am_m 172) 108 = some (.getfield 30, 3) := by decide +kernel
theorem at_172_111 : am_at (am_m 172) 111 = some (.iload_n 2, 0) := by decide +kernel
theorem at_172_112 : am_at (am_m 172) 112 = some (.invokevirtual 187, 100) := by decide +kernel
theorem at_172_115 : am_at (am_m 172) 115 = some (.invokevirtual 183, 168) := by decide +kernel
theorem at_172_118 : am_at (am_m 172) 118 = some (.ifCond .eq 7, 125) := by decide +kernel
theorem at_172_121 : am_at (am_m 172) 121 = some (.iconst 1, 0) := by decide +kernel
theorem at_172_122 : am_at (am_m 172) 122 = some (.goto 4, 126) := by decide +kernel
theorem at_172_125 : am_at (am_m 172) 125 = some (.iconst 0, 0) := by decide +kernel
theorem at_172_126 : am_at (am_m 172) 126 = some (.ireturn, 0) := by decide +kernel
theorem at_173_0 : am_at (am_m 173) 0 = some (.aload_n 0, 0) := by decide +kernel
theorem at_173_1 : am_at (am_m 173) 1 = some (.getfield 36, 5) := by decide +kernel
theorem at_173_4 : am_at (am_m 173) 4 = some (.iload_n 1, 0) := by decide +kernel
theorem at_173_5 : am_at (am_m 173) 5 = some (.iconst 0, 0) := by decide +kernel
theorem at_173_6 : am_at (am_m 173) 6 = some (.invokevirtual 90, 54) := by decide +kernel
theorem at_173_9 : am_at (am_m 173) 9 = some (.istore_n 3, 0) := by decide +kernel
theorem at_173_10 : am_at (am_m 173) 10 = some (.iload_n 2, 0) := by decide +kernel
theorem at_173_11 : am_at (am_m 173) 11 = some (.iload_n 3, 0) := by decide +kernel
theorem at_173_12 : am_at (am_m 173) 12 = some (.if_icmp .eq 14, 26) := by decide +kernel
theorem at_173_15 : am_at (am_m 173) 15 = some (.iload_n 2, 0) := by decide +kernel
theorem at_173_16 : am_at (am_m 173) 16 = some (.invokestatic 200, 174) := by decide +kernel
theorem at_173_19 : am_at (am_m 173) 19 = some (.iload_n 3, 0) := by decide +kernel
theorem at_173_20 : am_at (am_m 173) 20 = some (.invokestatic 200, 174) := by decide +kernel
theorem at_173_23 : am_at (am_m 173) 23 = some (.if_icmp .eq 5, 28) := by decide +kernel
theorem at_173_26 : am_at (am_m 173) 26 = some (.iconst 0, 0) := by decide +kernel
theorem at_173_27 : am_at (am_m 173) 27 = some (.ireturn, 0) := by decide +kernel
theorem at_173_28 : am_at (am_m 173) 28 = some (.aload_n 0, 0) := by decide +kernel
theorem at_173_29 : am_at (am_m 173) 29 = some (.getfield 14, 0) := by decide +kernel
theorem at_173_32 : am_at (am_m 173) 32 = some (.aload_n 0, 0) := by decide +kernel
theorem at_173_33 : am_at (am_m 173) 33 = some (.getfield 36, 5) := by decide +kernel
theorem at_173_36 : am_at (am_m 173) 36 = some (.invokevirtual 147, 60) := by decide +kernel
theorem at_173_39 : am_at (am_m 173) 39 = some (.aload_n 0, 0) := by decide +kernel
theorem at_173_40 : am_at (am_m 173) 40 = some (.getfield 14, 0) := by decide +kernel
theorem at_173_43 : am_at (am_m 173) 43 = some (.iload_n 1, 0) := by decide +kernel
theorem at_173_44 : am_at (am_m 173) 44 = some (.iconst 0, 0) := by decide +kernel
theorem at_173_45 : am_at (am_m 173) 45 = some (.iload_n 2, 0) := by decide +kernel
theorem at_173_46 : am_at (am_m 173) 46 = some (.invokevirtual 150, 51) := by decide +kernel
theorem at_173_49 : am_at (am_m 173) 49 = some (.aload_n 0, 0) := by decide +kernel
theorem at_173_50 : am_at (am_m 173) 50 = some (.getfield 14, 0) := by decide +kernel
theorem at_173_53 : am_at (am_m 173) 53 = some (.iload_n 1, 0) := by decide +kernel
theorem at_173_54 : am_at (am_m 173) 54 = some (.iconst 1, 0) := by decide +kernel
theorem at_173_55 : am_at (am_m 173) 55 = some (.iload_n 2, 0) := by decide +kernel
theorem at_173_56 : am_at (am_m 173) 56 = some (.ifCond .ne 7, 63) := by decide +kernel
theorem at_173_59 : am_at (am_m 173) 59 = some (.iconst 1, 0) := by decide +kernel
theorem at_173_60 : am_at (am_m 173) 60 = some (.goto 4, 64) := by decide +kernel
theorem at_173_63 : am_at (am_m 173) 63 = some (.iconst 0, 0) := by decide +kernel
theorem at_173_64 : am_at (am_m 173) 64 = some (.invokevirtual 150, 51) := by decide +kernel
theorem at_173_67 : am_at (am_m 173) 67 = some (.iconst 1, 0) := by decide +kernel
theorem at_173_68 : am_at (am_m 173) 68 = some (.ireturn, 0) := by decide +kernel
theorem at_174_0 : am_at (am_m 174) 0 = some (.iload_n 0, 0) := by decide +kernel
theorem at_174_1 : am_at (am_m 174) 1 = some (.iconst 4, 0) := by decide +kernel
theorem at_174_2 : am_at (am_m 174) 2 = some (.if_icmp .gt 7, 9) := by decide +kernel
theorem at_174_5 : am_at (am_m 174) 5 = some (.iconst 0, 0) := by decide +kernel
theorem at_174_6 : am_at (am_m 174) 6 = some (.goto 24, 30) := by decide +kernel
theorem at_174_9 : am_at (am_m 174) 9 = some (.iload_n 0, 0) := by decide +kernel
theorem at_174_10 : am_at (am_m 174) 10 = some (.bipush 6, 0) := by decide +kernel
theorem at_174_12 : am_at (am_m 174) 12 = some (.if_icmp .gt 7, 19) := by decide +kernel
theorem at_174_15 : am_at (am_m 174) 15 = some (.iconst 1, 0) := by decide +kernel
theorem at_174_16 : am_at (am_m 174) 16 = some (.goto 14, 30) := by decide +kernel
theorem at_174_19 : am_at (am_m 174) 19 = some (.iload_n 0, 0) := by decide +kernel
theorem at_174_20 : am_at (am_m 174) 20 = some (.bipush 13, 0) := by decide +kernel
theorem at_174_22 : am_at (am_m 174) 22 = some (.if_icmp .gt 7, 29) := by decide +kernel
theorem at_174_25 : am_at (am_m 174) 25 = some (.iconst 2, 0) := by decide +kernel
theorem at_174_26 : am_at (am_m 174) 26 = some (.goto 4, 30) := by decide +kernel
theorem at_174_29 : am_at (am_m 174) 29 = some (.iconst 3, 0) := by decide +kernel
theorem at_174_30 : am_at (am_m 174) 30 = some (.ireturn, 0) := by decide +kernel
theorem at_175_0 : am_at (am_m 175) 0 = some (.iload_n 1, 0) := by decide +kernel
theorem at_175_1 : am_at (am_m 175) 1 = some (.iload_n 2, 0) := by decide +kernel
theorem at_175_2 : am_at (am_m 175) 2 = some (.iadd, 0) := by decide +kernel
theorem at_175_3 : am_at (am_m 175) 3 = some (.aload_n 0, 0) := by decide +kernel
theorem at_175_4 : am_at (am_m 175) 4 = some (.getfield 36, 5) := by decide +kernel
theorem at_175_7 : am_at (am_m 175) 7 = some (.getfield 80, 771) := by decide +kernel
theorem at_175_10 : am_at (am_m 175) 10 = some (.if_icmp .le 5, 15) := by decide +kernel
theorem at_175_13 : am_at (am_m 175) 13 = some (.iconst 0, 0) := by decide +kernel
theorem at_175_14 : am_at (am_m 175) 14 = some (.ireturn, 0) := by decide +kernel
theorem at_175_15 : am_at (am_m 175) 15 = some (.aload_n 0, 0) := by decide +kernel
theorem at_175_16 : am_at (am_m 175) 16 = some (.getfield 14, 0) := by decide +kernel
theorem at_175_19 : am_at (am_m 175) 19 = some (.iconst 1, 0) := by decide +kernel
theorem at_175_20 : am_at (am_m 175) 20 = some (.iconst 0, 0) := by decide +kernel
theorem at_175_21 : am_at (am_m 175) 21 = some (.invokevirtual 176, 34) := by decide +kernel
theorem at_175_24 : am_at (am_m 175) 24 = some (.aload_n 0, 0) := by decide +kernel
theorem at_175_25 : am_at (am_m 175) 25 = some (.getfield 14, 0) := by decide +kernel
theorem at_175_28 : am_at (am_m 175) 28 = some (.aload_n 0, 0) := by decide +kernel
theorem at_175_29 : am_at (am_m 175) 29 = some (.getfield 36, 5) := by decide +kernel
theorem at_175_32 : am_at (am_m 175) 32 = some (.iconst 0, 0) := by decide +kernel
theorem at_175_33 : am_at (am_m 175) 33 = some (.iload_n 1, 0) := by decide +kernel
theorem at_175_34 : am_at (am_m 175) 34 = some (.invokevirtual 197, 170) := by decide +kernel
theorem at_175_37 : am_at (am_m 175) 37 = some (.pop, 0) := by decide +kernel
theorem at_175_38 : am_at (am_m 175) 38 = some (.aload_n 0, 0) := by decide +kernel
theorem at_175_39 : am_at (am_m 175) 39 = some (.getfield 14, 0) := by decide +kernel
theorem at_175_42 : am_at (am_m 175) 42 = some (.aload_n 0, 0) := by decide +kernel
theorem at_175_43 : am_at (am_m 175) 43 = some (.getfield 36, 5) := by decide +kernel
theorem at_175_46 : am_at (am_m 175) 46 = some (.iload_n 1, 0) := by decide +kernel
theorem at_175_47 : am_at (am_m 175) 47 = some (.iload_n 2, 0) := by decide +kernel
theorem at_175_48 : am_at (am_m 175) 48 = some (.iadd, 0) := by decide +kernel
theorem at_175_49 : am_at (am_m 175) 49 = some (.aload_n 0, 0) := by decide +kernel
theorem at_175_50 : am_at (am_m 175) 50 = some (.getfield 36, 5) := by decide +kernel
theorem at_175_53 : am_at (am_m 175) 53 = some (.getfield 80, 771) := by decide +kernel
theorem at_175_56 : am_at (am_m 175) 56 = some (.invokevirtual 197, 170) := by decide +kernel
theorem at_175_59 : am_at (am_m 175) 59 = some (.pop, 0) := by decide +kernel
theorem at_175_60 : am_at (am_m 175) 60 = some (.iconst 0, 0) := by decide +kernel
theorem at_175_61 : am_at (am_m 175) 61 = some (.istore_n 3, 0) := by decide +kernel
theorem at_175_62 : am_at (am_m 175) 62 = some (.iload_n 3, 0) := by decide +kernel
theorem at_175_63 : am_at (am_m 175) 63 = some (.iload_n 1, 0) := by decide +kernel
theorem at_175_64 : am_at (am_m 175) 64 = some (.if_icmp .ge 74, 138) := by decide +kernel
theorem at_175_67 : am_at (am_m 175) 67 = some (.iload_n 3, 0) := by decide +kernel
theorem at_175_68 : am_at (am_m 175) 68 = some (.iconst 1, 0) := by decide +kernel
theorem at_175_69 : am_at (am_m 175) 69 = some (.iadd, 0) := by decide +kernel
theorem at_175_70 : am_at (am_m 175) 70 = some (.aload_n 0, 0) := by decide +kernel
theorem at_175_71 : am_at (am_m 175) 71 = some (.getfield 36, 5) := by decide +kernel
theorem at_175_74 : am_at (am_m 175) 74 = some (.iload_n 3, 0) := by decide +kernel
theorem at_175_75 : am_at (am_m 175) 75 = some (.iconst 1, 0) := by decide +kernel
theorem at_175_76 : am_at (am_m 175) 76 = some (.invokevirtual 90, 54) := by decide +kernel
theorem at_175_79 : am_at (am_m 175) 79 = some (.iadd, 0) := by decide +kernel
theorem at_175_80 : am_at (am_m 175) 80 = some (.istore 4, 0) := by decide +kernel
theorem at_175_82 : am_at (am_m 175) 82 = some (.aload_n 0, 0) := by decide +kernel
theorem at_175_83 : am_at (am_m 175) 83 = some (.getfield 36, 5) := by decide +kernel
theorem at_175_86 : am_at (am_m 175) 86 = some (.iload_n 3, 0) := by decide +kernel
theorem at_175_87 : am_at (am_m 175) 87 = some (.iconst 0, 0) := by decide +kernel
theorem at_175_88 : am_at (am_m 175) 88 = some (.invokevirtual 90, 54) := by decide +kernel
theorem at_175_91 : am_at (am_m 175) 91 = some (.bipush 17, 0) := by decide +kernel
theorem at_175_93 : am_at (am_m 175) 93 = some (.if_icmp .lt 39, 132) := by decide +kernel
theorem at_175_96 : am_at (am_m 175) 96 = some (.iload 4, 0) := by decide +kernel
theorem at_175_98 : am_at (am_m 175) 98 = some (.iload_n 1, 0) := by decide +kernel
theorem at_175_99 : am_at (am_m 175) 99 = some (.if_icmp .le 33, 132) := by decide +kernel
theorem at_175_102 : am_at (am_m 175) 102 = some (.iload 4, 0) := by decide +kernel
theorem at_175_104 : am_at (am_m 175) 104 = some (.iload_n 1, 0) := by decide +kernel
theorem at_175_105 : am_at (am_m 175) 105 = some (.iload_n 2, 0) := by decide +kernel
theorem at_175_106 : am_at (am_m 175) 106 = some (.iadd, 0) := by decide +kernel
theorem at_175_107 : am_at (am_m 175) 107 = some (.if_icmp .ge 5, 112) := by decide +kernel
theorem at_175_110 : am_at (am_m 175) 110 = some (.iconst 0, 0) := by decide +kernel
theorem at_175_111 : am_at (am_m 175) 111 = some (.ireturn, 0) := by decide +kernel
theorem at_175_112 : am_at (am_m 175) 112 = some (.aload_n 0, 0) := by decide +kernel
theorem at_175_113 : am_at (am_m 175) 113 = some (.getfield 14, 0) := by decide +kernel
theorem at_175_116 : am_at (am_m 175) 116 = some (.iload_n 3, 0) := by decide +kernel
theorem at_175_117 : am_at (am_m 175) 117 = some (.iconst 1, 0) := by decide +kernel
theorem at_175_118 : am_at (am_m 175) 118 = some (.aload_n 0, 0) := by decide +kernel
theorem at_175_119 : am_at (am_m 175) 119 = some (.getfield 36, 5) := by decide +kernel
theorem at_175_122 : am_at (am_m 175) 122 = some (.iload_n 3, 0) := by decide +kernel
theorem at_175_123 : am_at (am_m 175) 123 = some (.iconst 1, 0) := by decide +kernel
theorem at_175_124 : am_at (am_m 175) 124 = some (.invokevirtual 90, 54) := by decide +kernel
theorem at_175_127 : am_at (am_m 175) 127 = some (.iload_n 2, 0) := by decide +kernel
theorem at_175_128 : am_at (am_m 175) 128 = some (.isub, 0) := by decide +kernel
theorem at_175_129 : am_at (am_m 175) 129 = some (.invokevirtual 150, 51) := by decide +kernel
theorem at_175_132 : am_at (am_m 175) 132 = some (.iinc 3 1, 0) := by decide +kernel
theorem at_175_135 : am_at (am_m 175) 135 = some (.goto (-73), 62) := by decide +kernel
theorem at_175_138 : am_at (am_m 175) 138 = some (.iconst 1, 0) := by decide +kernel
theorem at_175_139 : am_at (am_m 175) 139 = some (.ireturn, 0) := by decide +kernel
theorem at_176_0 : am_at (am_m 176) 0 = some (.aload_n 0, 0) := by decide +kernel
theorem at_176_1 : am_at (am_m 176) 1 = some (.getfield 20, 1) := by decide +kernel
theorem at_176_4 : am_at (am_m 176) 4 = some (.iconst 1, 0) := by decide +kernel
theorem at_176_5 : am_at (am_m 176) 5 = some (.iconst 0, 0) := by decide +kernel
theorem at_176_6 : am_at (am_m 176) 6 = some (.invokevirtual 176, 34) := by decide +kernel
theorem at_176_9 : am_at (am_m 176) 9 = some (.iload_n 2, 0) := by decide +kernel
theorem at_176_10 : am_at (am_m 176) 10 = some (.ifCond .ne 16, 26) := by decide +kernel
theorem at_176_13 : am_at (am_m 176) 13 = some (.aload_n 0, 0) := by decide +kernel
theorem at_176_14 : am_at (am_m 176) 14 = some (.getfield 20, 1) := by decide +kernel
theorem at_176_17 : am_at (am_m 176) 17 = some (.iconst 5, 0) := by decide +kernel
theorem at_176_18 : am_at (am_m 176) 18 = some (.iconst 0, 0) := by decide +kernel
theorem at_176_19 : am_at (am_m 176) 19 = some (.invokevirtual 180, 41) := by decide +kernel
theorem at_176_22 : am_at (am_m 176) 22 = some (.pop, 0) := by decide +kernel
theorem at_176_23 : am_at (am_m 176) 23 = some (.goto 72, 95) := by decide +kernel
theorem at_176_26 : am_at (am_m 176) 26 = some (.aload_n 0, 0) := by decide +kernel
theorem at_176_27 : am_at (am_m 176) 27 = some (.getfield 20, 1) := by decide +kernel
theorem at_176_30 : am_at (am_m 176) 30 = some (.iload_n 2, 0) := by decide +kernel
theorem at_176_31 : am_at (am_m 176) 31 = some (.iconst 3, 0) := by decide +kernel
theorem at_176_32 : am_at (am_m 176) 32 = some (.if_icmp .ge 7, 39) := by decide +kernel
theorem at_176_35 : am_at (am_m 176) 35 = some (.iconst 0, 0) := by decide +kernel
theorem at_176_36 : am_at (am_m 176) 36 = some (.goto 14, 50) := by decide +kernel
theorem at_176_39 : am_at (am_m 176) 39 = some (.iload_n 2, 0) := by decide +kernel
theorem at_176_40 : am_at (am_m 176) 40 = some (.iconst 3, 0) := by decide +kernel
theorem at_176_41 : am_at (am_m 176) 41 = some (.if_icmp .ne 7, 48) := by decide +kernel
theorem at_176_44 : am_at (am_m 176) 44 = some (.iconst 1, 0) := by decide +kernel
theorem at_176_45 : am_at (am_m 176) 45 = some (.goto 5, 50) := by decide +kernel
theorem at_176_48 : am_at (am_m 176) 48 = some (.bipush 14, 0) := by decide +kernel
theorem at_176_50 : am_at (am_m 176) 50 = some (.iload_n 2, 0) := by decide +kernel
theorem at_176_51 : am_at (am_m 176) 51 = some (.iconst 3, 0) := by decide +kernel
theorem at_176_52 : am_at (am_m 176) 52 = some (.if_icmp .ge 7, 59) := by decide +kernel
theorem at_176_55 : am_at (am_m 176) 55 = some (.iconst 1, 0) := by decide +kernel
theorem at_176_56 : am_at (am_m 176) 56 = some (.goto 4, 60) := by decide +kernel
theorem at_176_59 : am_at (am_m 176) 59 = some (.iconst 0, 0) := by decide +kernel
theorem at_176_60 : am_at (am_m 176) 60 = some (.invokevirtual 180, 41) := by decide +kernel
theorem at_176_63 : am_at (am_m 176) 63 = some (.pop, 0) := by decide +kernel
theorem at_176_64 : am_at (am_m 176) 64 = some (.aload_n 0, 0) := by decide +kernel
theorem at_176_65 : am_at (am_m 176) 65 = some (.getfield 20, 1) := by decide +kernel
theorem at_176_68 : am_at (am_m 176) 68 = some (.iload_n 2, 0) := by decide +kernel
theorem at_176_69 : am_at (am_m 176) 69 = some (.iconst 2, 0) := by decide +kernel
theorem at_176_70 : am_at (am_m 176) 70 = some (.if_icmp .ne 8, 78) := by decide +kernel
theorem at_176_73 : am_at (am_m 176) 73 = some (.bipush 8, 0) := by decide +kernel
theorem at_176_75 : am_at (am_m 176) 75 = some (.goto 15, 90) := by decide +kernel
theorem at_176_78 : am_at (am_m 176) 78 = some (.iload_n 2, 0) := by decide +kernel
theorem at_176_79 : am_at (am_m 176) 79 = some (.iconst 4, 0) := by decide +kernel
theorem at_176_80 : am_at (am_m 176) 80 = some (.if_icmp .ne 8, 88) := by decide +kernel
theorem at_176_83 : am_at (am_m 176) 83 = some (.bipush 9, 0) := by decide +kernel
theorem at_176_85 : am_at (am_m 176) 85 = some (.goto 5, 90) := by decide +kernel
theorem at_176_88 : am_at (am_m 176) 88 = some (.bipush 7, 0) := by decide +kernel
theorem at_176_90 : am_at (am_m 176) 90 = some (.iconst 0, 0) := by decide +kernel
theorem at_176_91 : am_at (am_m 176) 91 = some (.invokevirtual 180, 41) := by decide +kernel
theorem at_176_94 : am_at (am_m 176) 94 = some (.pop, 0) := by decide +kernel
theorem at_176_95 : am_at (am_m 176) 95 = some (.aload_n 0, 0) := by decide +kernel
theorem at_176_96 : am_at (am_m 176) 96 = some (.getfield 14, 0) := by decide +kernel
theorem at_176_99 : am_at (am_m 176) 99 = some (.iconst 1, 0) := by decide +kernel
theorem at_176_100 : am_at (am_m 176) 100 = some (.iconst 0, 0) := by decide +kernel
theorem at_176_101 : am_at (am_m 176) 101 = some (.invokevirtual 176, 34) := by decide +kernel
theorem at_176_104 : am_at (am_m 176) 104 = some (.aload_n 0, 0) := by decide +kernel
theorem at_176_105 : am_at (am_m 176) 105 = some (.getfield 14, 0) := by decide +kernel
theorem at_176_108 : am_at (am_m 176) 108 = some (.aload_n 0, 0) := by decide +kernel
theorem at_176_109 : am_at (am_m 176) 109 = some (.getfield 36, 5) := by decide +kernel
theorem at_176_112 : am_at (am_m 176) 112 = some (.iconst 0, 0) := by decide +kernel
theorem at_176_113 : am_at (am_m 176) 113 = some (.iload_n 1, 0) := by decide +kernel
theorem at_176_114 : am_at (am_m 176) 114 = some (.invokevirtual 197, 170) := by decide +kernel
theorem at_176_117 : am_at (am_m 176) 117 = some (.ifCond .eq 47, 164) := by decide +kernel
theorem at_176_120 : am_at (am_m 176) 120 = some (.aload_n 0, 0) := by decide +kernel
theorem at_176_121 : am_at (am_m 176) 121 = some (.getfield 14, 0) := by decide +kernel
theorem at_176_124 : am_at (am_m 176) 124 = some (.aload_n 0, 0) := by decide +kernel
theorem at_176_125 : am_at (am_m 176) 125 = some (.getfield 20, 1) := by decide +kernel
theorem at_176_128 : am_at (am_m 176) 128 = some (.iconst 0, 0) := by decide +kernel
theorem at_176_129 : am_at (am_m 176) 129 = some (.aload_n 0, 0) := by decide +kernel
theorem at_176_130 : am_at (am_m 176) 130 = some (.getfield 20, 1) := by decide +kernel
theorem at_176_133 : am_at (am_m 176) 133 = some (.getfield 80, 771) := by decide +kernel
theorem at_176_136 : am_at (am_m 176) 136 = some (.invokevirtual 197, 170) := by decide +kernel
theorem at_176_139 : am_at (am_m 176) 139 = some (.ifCond .eq 25, 164) := by decide +kernel
theorem at_176_142 : am_at (am_m 176) 142 = some (.aload_n 0, 0) := by decide +kernel
theorem at_176_143 : am_at (am_m 176) 143 = some (.getfield 14, 0) := by decide +kernel
theorem at_176_146 : am_at (am_m 176) 146 = some (.aload_n 0, 0) := by decide +kernel
theorem at_176_147 : am_at (am_m 176) 147 = some (.getfield 36, 5) := by decide +kernel
theorem at_176_150 : am_at (am_m 176) 150 = some (.iload_n 1, 0) := by decide +kernel
theorem at_176_151 : am_at (am_m 176) 151 = some (.aload_n 0, 0) := by decide +kernel
theorem at_176_152 : am_at (am_m 176) 152 = some (.getfield 36, 5) := by decide +kernel
theorem at_176_155 : am_at (am_m 176) 155 = some (.getfield 80, 771) := by decide +kernel
theorem at_176_158 : am_at (am_m 176) 158 = some (.invokevirtual 197, 170) := by decide +kernel
theorem at_176_161 : am_at (am_m 176) 161 = some (.ifCond .ne 5, 166) := by decide +kernel
theorem at_176_164 : am_at (am_m 176) 164 = some (.iconst 0, 0) := by decide +kernel
theorem at_176_165 : am_at (am_m 176) 165 = some (.ireturn, 0) := by decide +kernel
theorem at_176_166 : am_at (am_m 176) 166 = some (.iconst 0, 0) := by decide +kernel
theorem at_176_167 : am_at (am_m 176) 167 = some (.istore_n 3, 0) := by decide +kernel
theorem at_176_168 : am_at (am_m 176) 168 = some (.iload_n 3, 0) := by decide +kernel
theorem at_176_169 : am_at (am_m 176) 169 = some (.iload_n 1, 0) := by decide +kernel
theorem at_176_170 : am_at (am_m 176) 170 = some (.if_icmp .ge 66, 236) := by decide +kernel
theorem at_176_173 : am_at (am_m 176) 173 = some (.aload_n 0, 0) := by decide +kernel
theorem at_176_174 : am_at (am_m 176) 174 = some (.getfield 36, 5) := by decide +kernel
theorem at_176_177 : am_at (am_m 176) 177 = some (.iload_n 3, 0) := by decide +kernel
theorem at_176_178 : am_at (am_m 176) 178 = some (.iconst 0, 0) := by decide +kernel
theorem at_176_179 : am_at (am_m 176) 179 = some (.invokevirtual 90, 54) := by decide +kernel
theorem at_176_182 : am_at (am_m 176) 182 = some (.bipush 17, 0) := by decide +kernel
theorem at_176_184 : am_at (am_m 176) 184 = some (.if_icmp .lt 46, 230) := by decide +kernel
theorem at_176_187 : am_at (am_m 176) 187 = some (.iload_n 3, 0) := by decide +kernel
theorem at_176_188 : am_at (am_m 176) 188 = some (.iconst 1, 0) := by decide +kernel
theorem at_176_189 : am_at (am_m 176) 189 = some (.iadd, 0) := by decide +kernel
theorem at_176_190 : am_at (am_m 176) 190 = some (.aload_n 0, 0) := by decide +kernel
theorem at_176_191 : am_at (am_m 176) 191 = some (.getfield 36, 5) := by decide +kernel
theorem at_176_194 : am_at (am_m 176) 194 = some (.iload_n 3, 0) := by decide +kernel
theorem at_176_195 : am_at (am_m 176) 195 = some (.iconst 1, 0) := by decide +kernel
theorem at_176_196 : am_at (am_m 176) 196 = some (.invokevirtual 90, 54) := by decide +kernel
theorem at_176_199 : am_at (am_m 176) 199 = some (.iadd, 0) := by decide +kernel
theorem at_176_200 : am_at (am_m 176) 200 = some (.iload_n 1, 0) := by decide +kernel
theorem at_176_201 : am_at (am_m 176) 201 = some (.if_icmp .le 29, 230) := by decide +kernel
theorem at_176_204 : am_at (am_m 176) 204 = some (.aload_n 0, 0) := by decide +kernel
theorem at_176_205 : am_at (am_m 176) 205 = some (.getfield 14, 0) := by decide +kernel
theorem at_176_208 : am_at (am_m 176) 208 = some (.iload_n 3, 0) := by decide +kernel
theorem at_176_209 : am_at (am_m 176) 209 = some (.iconst 1, 0) := by decide +kernel
theorem at_176_210 : am_at (am_m 176) 210 = some (.aload_n 0, 0) := by decide +kernel
theorem at_176_211 : am_at (am_m 176) 211 = some (.getfield 36, 5) := by decide +kernel
theorem at_176_214 : am_at (am_m 176) 214 = some (.iload_n 3, 0) := by decide +kernel
theorem at_176_215 : am_at (am_m 176) 215 = some (.iconst 1, 0) := by decide +kernel
theorem at_176_216 : am_at (am_m 176) 216 = some (.invokevirtual 90, 54) := by decide +kernel
theorem at_176_219 : am_at (am_m 176) 219 = some (.aload_n 0, 0) := by decide +kernel
theorem at_176_220 : am_at (am_m 176) 220 = some (.getfield 20, 1) := by decide +kernel
theorem at_176_223 : am_at (am_m 176) 223 = some (.getfield 80, 771) := by decide +kernel
theorem at_176_226 : am_at (am_m 176) 226 = some (.iadd, 0) := by decide +kernel
theorem at_176_227 : am_at (am_m 176) 227 = some (.invokevirtual 150, 51) := by decide +kernel
theorem at_176_230 : am_at (am_m 176) 230 = some (.iinc 3 1, 0) := by decide +kernel
theorem at_176_233 : am_at (am_m 176) 233 = some (.goto (-65), 168) := by decide +kernel
theorem at_176_236 : am_at (am_m 176) 236 = some (.iconst 1, 0) := by decide +kernel
theorem at_176_237 : am_at (am_m 176) 237 = some (.ireturn, 0) := by decide +kernel
theorem at_177_0 : am_at (am_m 177) 0 = some (.aload_n 0, 0) := by decide +kernel
theorem at_177_1 : am_at (am_m 177) 1 = some (.getfield 36, 5) := by decide +kernel
theorem at_177_4 : am_at (am_m 177) 4 = some (.getfield 61, 769) := by decide +kernel
theorem at_177_7 : am_at (am_m 177) 7 = some (.iconst 1, 0) := by decide +kernel
theorem at_177_8 : am_at (am_m 177) 8 = some (.if_icmp .ne 26, 34) := by decide +kernel
theorem at_177_11 : am_at (am_m 177) 11 = some (.aload_n 0, 0) := by decide +kernel
theorem at_177_12 : am_at (am_m 177) 12 = some (.getfield 26, 2) := by decide +kernel
theorem at_177_15 : am_at (am_m 177) 15 = some (.getfield 203, 1798) := by decide +kernel
theorem at_177_18 : am_at (am_m 177) 18 = some (.iload_n 1, 0) := by decide +kernel
theorem at_177_19 : am_at (am_m 177) 19 = some (.iaload, 0) := by decide +kernel
theorem at_177_20 : am_at (am_m 177) 20 = some (.aload_n 0, 0) := by decide +kernel
theorem at_177_21 : am_at (am_m 177) 21 = some (.getfield 30, 3) := by decide +kernel
theorem at_177_24 : am_at (am_m 177) 24 = some (.getfield 203, 1798) := by decide +kernel
theorem at_177_27 : am_at (am_m 177) 27 = some (.iload_n 2, 0) := by decide +kernel
theorem at_177_28 : am_at (am_m 177) 28 = some (.iaload, 0) := by decide +kernel
theorem at_177_29 : am_at (am_m 177) 29 = some (.if_icmp .eq 5, 34) := by decide +kernel
theorem at_177_32 : am_at (am_m 177) 32 = some (.iconst 0, 0) := by decide +kernel
theorem at_177_33 : am_at (am_m 177) 33 = some (.ireturn, 0) := by decide +kernel
theorem at_177_34 : am_at (am_m 177) 34 = some (.aload_n 0, 0) := by decide +kernel
theorem at_177_35 : am_at (am_m 177) 35 = some (.getfield 14, 0) := by decide +kernel
theorem at_177_38 : am_at (am_m 177) 38 = some (.aload_n 0, 0) := by decide +kernel
theorem at_177_39 : am_at (am_m 177) 39 = some (.getfield 36, 5) := by decide +kernel
theorem at_177_42 : am_at (am_m 177) 42 = some (.getfield 61, 769) := by decide +kernel
theorem at_177_45 : am_at (am_m 177) 45 = some (.aload_n 0, 0) := by decide +kernel
theorem at_177_46 : am_at (am_m 177) 46 = some (.getfield 36, 5) := by decide +kernel
theorem at_177_49 : am_at (am_m 177) 49 = some (.getfield 83, 770) := by decide +kernel
theorem at_177_52 : am_at (am_m 177) 52 = some (.invokevirtual 176, 34) := by decide +kernel
theorem at_177_55 : am_at (am_m 177) 55 = some (.aload_n 0, 0) := by decide +kernel
theorem at_177_56 : am_at (am_m 177) 56 = some (.getfield 14, 0) := by decide +kernel
theorem at_177_59 : am_at (am_m 177) 59 = some (.aload_n 0, 0) := by decide +kernel
theorem at_177_60 : am_at (am_m 177) 60 = some (.getfield 36, 5) := by decide +kernel
theorem at_177_63 : am_at (am_m 177) 63 = some (.iconst 0, 0) := by decide +kernel
theorem at_177_64 : am_at (am_m 177) 64 = some (.iload_n 1, 0) := by decide +kernel
theorem at_177_65 : am_at (am_m 177) 65 = some (.invokevirtual 197, 170) := by decide +kernel
theorem at_177_68 : am_at (am_m 177) 68 = some (.ifCond .eq 29, 97) := by decide +kernel
theorem at_177_71 : am_at (am_m 177) 71 = some (.aload_n 0, 0) := by decide +kernel
theorem at_177_72 : am_at (am_m 177) 72 = some (.getfield 14, 0) := by decide +kernel
theorem at_177_75 : am_at (am_m 177) 75 = some (.aload_n 0, 0) := by decide +kernel
theorem at_177_76 : am_at (am_m 177) 76 = some (.getfield 39, 6) := by decide +kernel
theorem at_177_79 : am_at (am_m 177) 79 = some (.iload_n 2, 0) := by decide +kernel
theorem at_177_80 : am_at (am_m 177) 80 = some (.aload_n 0, 0) := by decide +kernel
theorem at_177_81 : am_at (am_m 177) 81 = some (.getfield 39, 6) := by decide +kernel
theorem at_177_84 : am_at (am_m 177) 84 = some (.getfield 80, 771) := by decide +kernel
theorem at_177_87 : am_at (am_m 177) 87 = some (.invokevirtual 197, 170) := by decide +kernel
theorem at_177_90 : am_at (am_m 177) 90 = some (.ifCond .eq 7, 97) := by decide +kernel
theorem at_177_93 : am_at (am_m 177) 93 = some (.iconst 1, 0) := by decide +kernel
theorem at_177_94 : am_at (am_m 177) 94 = some (.goto 4, 98) := by decide +kernel
theorem at_177_97 : am_at (am_m 177) 97 = some (.iconst 0, 0) := by decide +kernel
theorem at_177_98 : am_at (am_m 177) 98 = some (.ireturn, 0) := by decide +kernel
theorem at_178_0 : am_at (am_m 178) 0 = some (.iload_n 1, 0) := by decide +kernel
theorem at_178_1 : am_at (am_m 178) 1 = some (.iconst 4, 0) := by decide +kernel
theorem at_178_2 : am_at (am_m 178) 2 = some (.idiv, 0) := by decide +kernel
theorem at_178_3 : am_at (am_m 178) 3 = some (.istore_n 3, 0) := by decide +kernel
theorem at_178_4 : am_at (am_m 178) 4 = some (.iconst 1, 0) := by decide +kernel
theorem at_178_5 : am_at (am_m 178) 5 = some (.iload_n 1, 0) := by decide +kernel
theorem at_178_6 : am_at (am_m 178) 6 = some (.iconst 4, 0) := by decide +kernel
theorem at_178_7 : am_at (am_m 178) 7 = some (.irem, 0) := by decide +kernel
theorem at_178_8 : am_at (am_m 178) 8 = some (.iadd, 0) := by decide +kernel
theorem at_178_9 : am_at (am_m 178) 9 = some (.istore 4, 0) := by decide +kernel
theorem at_178_11 : am_at (am_m 178) 11 = some (.aload_n 0, 0) := by decide +kernel
theorem at_178_12 : am_at (am_m 178) 12 = some (.getfield 36, 5) := by decide +kernel
theorem at_178_15 : am_at (am_m 178) 15 = some (.iload_n 3, 0) := by decide +kernel
theorem at_178_16 : am_at (am_m 178) 16 = some (.iload 4, 0) := by decide +kernel
theorem at_178_18 : am_at (am_m 178) 18 = some (.invokevirtual 90, 54) := by decide +kernel
theorem at_178_21 : am_at (am_m 178) 21 = some (.iload_n 2, 0) := by decide +kernel
theorem at_178_22 : am_at (am_m 178) 22 = some (.if_icmp .ne 5, 27) := by decide +kernel
theorem at_178_25 : am_at (am_m 178) 25 = some (.iconst 0, 0) := by decide +kernel
theorem at_178_26 : am_at (am_m 178) 26 = some (.ireturn, 0) := by decide +kernel
theorem at_178_27 : am_at (am_m 178) 27 = some (.aload_n 0, 0) := by decide +kernel
theorem at_178_28 : am_at (am_m 178) 28 = some (.getfield 14, 0) := by decide +kernel
theorem at_178_31 : am_at (am_m 178) 31 = some (.aload_n 0, 0) := by decide +kernel
theorem at_178_32 : am_at (am_m 178) 32 = some (.getfield 36, 5) := by decide +kernel
theorem at_178_35 : am_at (am_m 178) 35 = some (.invokevirtual 147, 60) := by decide +kernel
theorem at_178_38 : am_at (am_m 178) 38 = some (.aload_n 0, 0) := by decide +kernel
theorem at_178_39 : am_at (am_m 178) 39 = some (.getfield 14, 0) := by decide +kernel
theorem at_178_42 : am_at (am_m 178) 42 = some (.iload_n 3, 0) := by decide +kernel
theorem at_178_43 : am_at (am_m 178) 43 = some (.iload 4, 0) := by decide +kernel
theorem at_178_45 : am_at (am_m 178) 45 = some (.iload_n 2, 0) := by decide +kernel
theorem at_178_46 : am_at (am_m 178) 46 = some (.invokevirtual 150, 51) := by decide +kernel
theorem at_178_49 : am_at (am_m 178) 49 = some (.iconst 1, 0) := by decide +kernel
theorem at_178_50 : am_at (am_m 178) 50 = some (.ireturn, 0) := by decide +kernel
theorem at_179_0 : am_at (am_m 179) 0 = some (.aload_n 0, 0) := by decide +kernel
theorem at_179_1 : am_at (am_m 179) 1 = some (.getfield 36, 5) := by decide +kernel
theorem at_179_4 : am_at (am_m 179) 4 = some (.iload_n 1, 0) := by decide +kernel
theorem at_179_5 : am_at (am_m 179) 5 = some (.iconst 4, 0) := by decide +kernel
theorem at_179_6 : am_at (am_m 179) 6 = some (.idiv, 0) := by decide +kernel
theorem at_179_7 : am_at (am_m 179) 7 = some (.iconst 1, 0) := by decide +kernel
theorem at_179_8 : am_at (am_m 179) 8 = some (.iload_n 1, 0) := by decide +kernel
theorem at_179_9 : am_at (am_m 179) 9 = some (.iconst 4, 0) := by decide +kernel
theorem at_179_10 : am_at (am_m 179) 10 = some (.irem, 0) := by decide +kernel
theorem at_179_11 : am_at (am_m 179) 11 = some (.iadd, 0) := by decide +kernel
theorem at_179_12 : am_at (am_m 179) 12 = some (.invokevirtual 90, 54) := by decide +kernel
theorem at_179_15 : am_at (am_m 179) 15 = some (.istore_n 2, 0) := by decide +kernel
theorem at_179_16 : am_at (am_m 179) 16 = some (.aload_n 0, 0) := by decide +kernel
theorem at_179_17 : am_at (am_m 179) 17 = some (.getfield 14, 0) := by decide +kernel
theorem at_179_20 : am_at (am_m 179) 20 = some (.aload_n 0, 0) := by decide +kernel
theorem at_179_21 : am_at (am_m 179) 21 = some (.getfield 36, 5) := by decide +kernel
theorem at_179_24 : am_at (am_m 179) 24 = some (.invokevirtual 147, 60) := by decide +kernel
theorem at_179_27 : am_at (am_m 179) 27 = some (.aload_n 0, 0) := by decide +kernel
theorem at_179_28 : am_at (am_m 179) 28 = some (.getfield 14, 0) := by decide +kernel
theorem at_179_31 : am_at (am_m 179) 31 = some (.aload_n 0, 0) := by decide +kernel
theorem at_179_32 : am_at (am_m 179) 32 = some (.getfield 36, 5) := by decide +kernel
theorem at_179_35 : am_at (am_m 179) 35 = some (.iload_n 2, 0) := by decide +kernel
theorem at_179_36 : am_at (am_m 179) 36 = some (.iload_n 2, 0) := by decide +kernel
theorem at_179_37 : am_at (am_m 179) 37 = some (.iconst 1, 0) := by decide +kernel
theorem at_179_38 : am_at (am_m 179) 38 = some (.iadd, 0) := by decide +kernel
theorem at_179_39 : am_at (am_m 179) 39 = some (.invokevirtual 197, 170) := by decide +kernel
theorem at_179_42 : am_at (am_m 179) 42 = some (.ifCond .ne 5, 47) := by decide +kernel
theorem at_179_45 : am_at (am_m 179) 45 = some (.iconst 0, 0) := by decide +kernel
theorem at_179_46 : am_at (am_m 179) 46 = some (.ireturn, 0) := by decide +kernel
theorem at_179_47 : am_at (am_m 179) 47 = some (.aload_n 0, 0) := by decide +kernel
theorem at_179_48 : am_at (am_m 179) 48 = some (.getfield 14, 0) := by decide +kernel
theorem at_179_51 : am_at (am_m 179) 51 = some (.iload_n 1, 0) := by decide +kernel
theorem at_179_52 : am_at (am_m 179) 52 = some (.iconst 4, 0) := by decide +kernel
theorem at_179_53 : am_at (am_m 179) 53 = some (.idiv, 0) := by decide +kernel
theorem at_179_54 : am_at (am_m 179) 54 = some (.iconst 1, 0) := by decide +kernel
theorem at_179_55 : am_at (am_m 179) 55 = some (.iload_n 1, 0) := by decide +kernel
theorem at_179_56 : am_at (am_m 179) 56 = some (.iconst 4, 0) := by decide +kernel
theorem at_179_57 : am_at (am_m 179) 57 = some (.irem, 0) := by decide +kernel
theorem at_179_58 : am_at (am_m 179) 58 = some (.iadd, 0) := by decide +kernel
theorem at_179_59 : am_at (am_m 179) 59 = some (.aload_n 0, 0) := by decide +kernel
theorem at_179_60 : am_at (am_m 179) 60 = some (.getfield 36, 5) := by decide +kernel
theorem at_179_63 : am_at (am_m 179) 63 = some (.getfield 80, 771) := by decide +kernel
theorem at_179_66 : am_at (am_m 179) 66 = some (.invokevirtual 150, 51) := by decide +kernel
theorem at_179_69 : am_at (am_m 179) 69 = some (.iconst 1, 0) := by decide +kernel
theorem at_179_70 : am_at (am_m 179) 70 = some (.ireturn, 0) := by decide +kernel
theorem at_180_0 : am_at (am_m 180) 0 = some (.aload_n 0, 0) := by decide +kernel
theorem at_180_1 : am_at (am_m 180) 1 = some (.getfield 14, 0) := by decide +kernel
theorem at_180_4 : am_at (am_m 180) 4 = some (.iconst 2, 0) := by decide +kernel
theorem at_180_5 : am_at (am_m 180) 5 = some (.iconst 0, 0) := by decide +kernel
theorem at_180_6 : am_at (am_m 180) 6 = some (.invokevirtual 176, 34) := by decide +kernel
theorem at_180_9 : am_at (am_m 180) 9 = some (.aload_n 0, 0) := by decide +kernel
theorem at_180_10 : am_at (am_m 180) 10 = some (.getfield 14, 0) := by decide +kernel
theorem at_180_13 : am_at (am_m 180) 13 = some (.aload_n 0, 0) := by decide +kernel
theorem at_180_14 : am_at (am_m 180) 14 = some (.getfield 36, 5) := by decide +kernel
theorem at_180_17 : am_at (am_m 180) 17 = some (.iconst 0, 0) := by decide +kernel
theorem at_180_18 : am_at (am_m 180) 18 = some (.iload_n 1, 0) := by decide +kernel
theorem at_180_19 : am_at (am_m 180) 19 = some (.invokevirtual 197, 170) := by decide +kernel
theorem at_180_22 : am_at (am_m 180) 22 = some (.pop, 0) := by decide +kernel
theorem at_180_23 : am_at (am_m 180) 23 = some (.aload_n 0, 0) := by decide +kernel
theorem at_180_24 : am_at (am_m 180) 24 = some (.getfield 14, 0) := by decide +kernel
theorem at_180_27 : am_at (am_m 180) 27 = some (.aload_n 0, 0) := by decide +kernel
theorem at_180_28 : am_at (am_m 180) 28 = some (.getfield 36, 5) := by decide +kernel
theorem at_180_31 : am_at (am_m 180) 31 = some (.iload_n 1, 0) := by decide +kernel
theorem at_180_32 : am_at (am_m 180) 32 = some (.iconst 1, 0) := by decide +kernel
theorem at_180_33 : am_at (am_m 180) 33 = some (.iadd, 0) := by decide +kernel
theorem at_180_34 : am_at (am_m 180) 34 = some (.aload_n 0, 0) := by decide +kernel
theorem at_180_35 : am_at (am_m 180) 35 = some (.getfield 36, 5) := by decide +kernel
theorem at_180_38 : am_at (am_m 180) 38 = some (.getfield 80, 771) := by decide +kernel
theorem at_180_41 : am_at (am_m 180) 41 = some (.invokevirtual 197, 170) := by decide +kernel
theorem at_180_44 : am_at (am_m 180) 44 = some (.pop, 0) := by decide +kernel
theorem at_180_45 : am_at (am_m 180) 45 = some (.iconst 0, 0) := by decide +kernel
theorem at_180_46 : am_at (am_m 180) 46 = some (.istore_n 2, 0) := by decide +kernel
theorem at_180_47 : am_at (am_m 180) 47 = some (.iload_n 2, 0) := by decide +kernel
theorem at_180_48 : am_at (am_m 180) 48 = some (.iconst 4, 0) := by decide +kernel
theorem at_180_49 : am_at (am_m 180) 49 = some (.aload_n 0, 0) := by decide +kernel
theorem at_180_50 : am_at (am_m 180) 50 = some (.getfield 14, 0) := by decide +kernel
theorem at_180_53 : am_at (am_m 180) 53 = some (.getfield 80, 771) := by decide +kernel
theorem at_180_56 : am_at (am_m 180) 56 = some (.imul, 0) := by decide +kernel
theorem at_180_57 : am_at (am_m 180) 57 = some (.if_icmp .ge 61, 118) := by decide +kernel
theorem at_180_60 : am_at (am_m 180) 60 = some (.aload_n 0, 0) := by decide +kernel
theorem at_180_61 : am_at (am_m 180) 61 = some (.getfield 14, 0) := by decide +kernel
theorem at_180_64 : am_at (am_m 180) 64 = some (.iload_n 2, 0) := by decide +kernel
theorem at_180_65 : am_at (am_m 180) 65 = some (.iconst 4, 0) := by decide +kernel
theorem at_180_66 : am_at (am_m 180) 66 = some (.idiv, 0) := by decide +kernel
theorem at_180_67 : am_at (am_m 180) 67 = some (.iconst 1, 0) := by decide +kernel
theorem at_180_68 : am_at (am_m 180) 68 = some (.iload_n 2, 0) := by decide +kernel
theorem at_180_69 : am_at (am_m 180) 69 = some (.iconst 4, 0) := by decide +kernel
theorem at_180_70 : am_at (am_m 180) 70 = some (.irem, 0) := by decide +kernel
theorem at_180_71 : am_at (am_m 180) 71 = some (.iadd, 0) := by decide +kernel
theorem at_180_72 : am_at (am_m 180) 72 = some (.invokevirtual 90, 54) := by decide +kernel
theorem at_180_75 : am_at (am_m 180) 75 = some (.istore_n 3, 0) := by decide +kernel
theorem at_180_76 : am_at (am_m 180) 76 = some (.aload_n 0, 0) := by decide +kernel
theorem at_180_77 : am_at (am_m 180) 77 = some (.getfield 14, 0) := by decide +kernel
theorem at_180_80 : am_at (am_m 180) 80 = some (.iload_n 2, 0) := by decide +kernel
theorem at_180_81 : am_at (am_m 180) 81 = some (.iconst 4, 0) := by decide +kernel
theorem at_180_82 : am_at (am_m 180) 82 = some (.idiv, 0) := by decide +kernel
theorem at_180_83 : am_at (am_m 180) 83 = some (.iconst 1, 0) := by decide +kernel
theorem at_180_84 : am_at (am_m 180) 84 = some (.iload_n 2, 0) := by decide +kernel
theorem at_180_85 : am_at (am_m 180) 85 = some (.iconst 4, 0) := by decide +kernel
theorem at_180_86 : am_at (am_m 180) 86 = some (.irem, 0) := by decide +kernel
theorem at_180_87 : am_at (am_m 180) 87 = some (.iadd, 0) := by decide +kernel
theorem at_180_88 : am_at (am_m 180) 88 = some (.iload_n 3, 0) := by decide +kernel
theorem at_180_89 : am_at (am_m 180) 89 = some (.iload_n 1, 0) := by decide +kernel
theorem at_180_90 : am_at (am_m 180) 90 = some (.if_icmp .ne 7, 97) := by decide +kernel
theorem at_180_93 : am_at (am_m 180) 93 = some (.iconst 0, 0) := by decide +kernel
theorem at_180_94 : am_at (am_m 180) 94 = some (.goto 15, 109) := by decide +kernel
theorem at_180_97 : am_at (am_m 180) 97 = some (.iload_n 3, 0) := by decide +kernel
theorem at_180_98 : am_at (am_m 180) 98 = some (.iload_n 1, 0) := by decide +kernel
theorem at_180_99 : am_at (am_m 180) 99 = some (.if_icmp .le 9, 108) := by decide +kernel
theorem at_180_102 : am_at (am_m 180) 102 = some (.iload_n 3, 0) := by decide +kernel
theorem at_180_103 : am_at (am_m 180) 103 = some (.iconst 1, 0) := by decide +kernel
theorem at_180_104 : am_at (am_m 180) 104 = some (.isub, 0) := by decide +kernel
theorem at_180_105 : am_at (am_m 180) 105 = some (.goto 4, 109) := by decide +kernel
theorem at_180_108 : am_at (am_m 180) 108 = some (.iload_n 3, 0) := by decide +kernel
theorem at_180_109 : am_at (am_m 180) 109 = some (.invokevirtual 150, 51) := by decide +kernel
theorem at_180_112 : am_at (am_m 180) 112 = some (.iinc 2 1, 0) := by decide +kernel
theorem at_180_115 : am_at (am_m 180) 115 = some (.goto (-68), 47) := by decide +kernel
theorem at_180_118 : am_at (am_m 180) 118 = some (.iconst 1, 0) := by decide +kernel
theorem at_180_119 : am_at (am_m 180) 119 = some (.ireturn, 0) := by decide +kernel
theorem at_181_0 : am_at (am_m 181) 0 = some (.aload_n 0, 0) := by decide +kernel
theorem at_181_1 : am_at (am_m 181) 1 = some (.getfield 14, 0) := by decide +kernel
theorem at_181_4 : am_at (am_m 181) 4 = some (.iconst 2, 0) := by decide +kernel
theorem at_181_5 : am_at (am_m 181) 5 = some (.iconst 0, 0) := by decide +kernel
theorem at_181_6 : am_at (am_m 181) 6 = some (.invokevirtual 176, 34) := by decide +kernel
theorem at_181_9 : am_at (am_m 181) 9 = some (.iconst 0, 0) := by decide +kernel
theorem at_181_10 : am_at (am_m 181) 10 = some (.istore_n 2, 0) := by decide +kernel
theorem at_181_11 : am_at (am_m 181) 11 = some (.iload_n 2, 0) := by decide +kernel
theorem at_181_12 : am_at (am_m 181) 12 = some (.aload_n 0, 0) := by decide +kernel
theorem at_181_13 : am_at (am_m 181) 13 = some (.getfield 36, 5) := by decide +kernel
theorem at_181_16 : am_at (am_m 181) 16 = some (.getfield 80, 771) := by decide +kernel
theorem at_181_19 : am_at (am_m 181) 19 = some (.if_icmp .ge 41, 60) := by decide +kernel
theorem at_181_22 : am_at (am_m 181) 22 = some (.aload_n 0, 0) := by decide +kernel
theorem at_181_23 : am_at (am_m 181) 23 = some (.getfield 14, 0) := by decide +kernel
theorem at_181_26 : am_at (am_m 181) 26 = some (.iload_n 1, 0) := by decide +kernel
theorem at_181_27 : am_at (am_m 181) 27 = some (.iload_n 2, 0) := by decide +kernel
theorem at_181_28 : am_at (am_m 181) 28 = some (.ishr, 0) := by decide +kernel
theorem at_181_29 : am_at (am_m 181) 29 = some (.iconst 1, 0) := by decide +kernel
theorem at_181_30 : am_at (am_m 181) 30 = some (.iand, 0) := by decide +kernel
theorem at_181_31 : am_at (am_m 181) 31 = some (.iconst 1, 0) := by decide +kernel
theorem at_181_32 : am_at (am_m 181) 32 = some (.if_icmp .ne 10, 42) := by decide +kernel
theorem at_181_35 : am_at (am_m 181) 35 = some (.aload_n 0, 0) := by decide +kernel
theorem at_181_36 : am_at (am_m 181) 36 = some (.getfield 39, 6) := by decide +kernel
theorem at_181_39 : am_at (am_m 181) 39 = some (.goto 7, 46) := by decide +kernel
theorem at_181_42 : am_at (am_m 181) 42 = some (.aload_n 0, 0) := by decide +kernel
theorem at_181_43 : am_at (am_m 181) 43 = some (.getfield 36, 5) := by decide +kernel
theorem at_181_46 : am_at (am_m 181) 46 = some (.iload_n 2, 0) := by decide +kernel
theorem at_181_47 : am_at (am_m 181) 47 = some (.iload_n 2, 0) := by decide +kernel
theorem at_181_48 : am_at (am_m 181) 48 = some (.iconst 1, 0) := by decide +kernel
theorem at_181_49 : am_at (am_m 181) 49 = some (.iadd, 0) := by decide +kernel
theorem at_181_50 : am_at (am_m 181) 50 = some (.invokevirtual 197, 170) := by decide +kernel
theorem at_181_53 : am_at (am_m 181) 53 = some (.pop, 0) := by decide +kernel
theorem at_181_54 : am_at (am_m 181) 54 = some (.iinc 2 1, 0) := by decide +kernel
theorem at_181_57 : am_at (am_m 181) 57 = some (.goto (-46), 11) := by decide +kernel
theorem at_181_60 : am_at (am_m 181) 60 = some (.iconst 1, 0) := by decide +kernel
theorem at_181_61 : am_at (am_m 181) 61 = some (.ireturn, 0) := by decide +kernel
theorem at_182_0 : am_at (am_m 182) 0 = some (.iload_n 2, 0) := by decide +kernel
theorem at_182_1 : am_at (am_m 182) 1 = some (.istore 4, 0) := by decide +kernel
theorem at_182_3 : am_at (am_m 182) 3 = some (.iconst 0, 0) := by decide +kernel
theorem at_182_4 : am_at (am_m 182) 4 = some (.istore 5, 0) := by decide +kernel
theorem at_182_6 : am_at (am_m 182) 6 = some (.iload 5, 0) := by decide +kernel
theorem at_182_8 : am_at (am_m 182) 8 = some (.aload_n 0, 0) := by decide +kernel
theorem at_182_9 : am_at (am_m 182) 9 = some (.getfield 36, 5) := by decide +kernel
theorem at_182_12 : am_at (am_m 182) 12 = some (.getfield 83, 770) := by decide +kernel
theorem at_182_15 : am_at (am_m 182) 15 = some (.iconst 1, 0) := by decide +kernel
theorem at_182_16 : am_at (am_m 182) 16 = some (.isub, 0) := by decide +kernel
theorem at_182_17 : am_at (am_m 182) 17 = some (.if_icmp .ge 43, 60) := by decide +kernel
theorem at_182_20 : am_at (am_m 182) 20 = some (.iload 4, 0) := by decide +kernel
theorem at_182_22 : am_at (am_m 182) 22 = some (.aload_n 0, 0) := by decide +kernel
theorem at_182_23 : am_at (am_m 182) 23 = some (.getfield 36, 5) := by decide +kernel
theorem at_182_26 : am_at (am_m 182) 26 = some (.getfield 83, 770) := by decide +kernel
theorem at_182_29 : am_at (am_m 182) 29 = some (.iconst 1, 0) := by decide +kernel
theorem at_182_30 : am_at (am_m 182) 30 = some (.isub, 0) := by decide +kernel
theorem at_182_31 : am_at (am_m 182) 31 = some (.iload 5, 0) := by decide +kernel
theorem at_182_33 : am_at (am_m 182) 33 = some (.isub, 0) := by decide +kernel
theorem at_182_34 : am_at (am_m 182) 34 = some (.if_icmp .lt 26, 60) := by decide +kernel
theorem at_182_37 : am_at (am_m 182) 37 = some (.iload 4, 0) := by decide +kernel
theorem at_182_39 : am_at (am_m 182) 39 = some (.aload_n 0, 0) := by decide +kernel
theorem at_182_40 : am_at (am_m 182) 40 = some (.getfield 36, 5) := by decide +kernel
theorem at_182_43 : am_at (am_m 182) 43 = some (.getfield 83, 770) := by decide +kernel
theorem at_182_46 : am_at (am_m 182) 46 = some (.iconst 1, 0) := by decide +kernel
theorem at_182_47 : am_at (am_m 182) 47 = some (.isub, 0) := by decide +kernel
theorem at_182_48 : am_at (am_m 182) 48 = some (.iload 5, 0) := by decide +kernel
theorem at_182_50 : am_at (am_m 182) 50 = some (.isub, 0) := by decide +kernel
theorem at_182_51 : am_at (am_m 182) 51 = some (.isub, 0) := by decide +kernel
theorem at_182_52 : am_at (am_m 182) 52 = some (.istore 4, 0) := by decide +kernel
theorem at_182_54 : am_at (am_m 182) 54 = some (.iinc 5 1, 0) := by decide +kernel
theorem at_182_57 : am_at (am_m 182) 57 = some (.goto (-51), 6) := by decide +kernel
theorem at_182_60 : am_at (am_m 182) 60 = some (.iload 5, 0) := by decide +kernel
theorem at_182_62 : am_at (am_m 182) 62 = some (.iconst 1, 0) := by decide +kernel
theorem at_182_63 : am_at (am_m 182) 63 = some (.iadd, 0) := by decide +kernel
theorem at_182_64 : am_at (am_m 182) 64 = some (.iload 4, 0) := by decide +kernel
theorem at_182_66 : am_at (am_m 182) 66 = some (.iadd, 0) := by decide +kernel
theorem at_182_67 : am_at (am_m 182) 67 = some (.istore 6, 0) := by decide +kernel
theorem at_182_69 : am_at (am_m 182) 69 = some (.iload_n 3, 0) := by decide +kernel
theorem at_182_70 : am_at (am_m 182) 70 = some (.iconst 1, 0) := by decide +kernel
theorem at_182_71 : am_at (am_m 182) 71 = some (.if_icmp .ne 33, 104) := by decide +kernel
theorem at_182_74 : am_at (am_m 182) 74 = some (.aload_n 0, 0) := by decide +kernel
theorem at_182_75 : am_at (am_m 182) 75 = some (.getfield 36, 5) := by decide +kernel
theorem at_182_78 : am_at (am_m 182) 78 = some (.iload_n 1, 0) := by decide +kernel
theorem at_182_79 : am_at (am_m 182) 79 = some (.iconst 0, 0) := by decide +kernel
theorem at_182_80 : am_at (am_m 182) 80 = some (.invokevirtual 90, 54) := by decide +kernel
theorem at_182_83 : am_at (am_m 182) 83 = some (.iload 5, 0) := by decide +kernel
theorem at_182_85 : am_at (am_m 182) 85 = some (.if_icmp .ne 19, 104) := by decide +kernel
theorem at_182_88 : am_at (am_m 182) 88 = some (.aload_n 0, 0) := by decide +kernel
theorem at_182_89 : am_at (am_m 182) 89 = some (.getfield 36, 5) := by decide +kernel
theorem at_182_92 : am_at (am_m 182) 92 = some (.iload_n 1, 0) := by decide +kernel
theorem at_182_93 : am_at (am_m 182) 93 = some (.iconst 1, 0) := by decide +kernel
theorem at_182_94 : am_at (am_m 182) 94 = some (.invokevirtual 90, 54) := by decide +kernel
theorem at_182_97 : am_at (am_m 182) 97 = some (.iload 6, 0) := by decide +kernel
theorem at_182_99 : am_at (am_m 182) 99 = some (.if_icmp .ne 5, 104) := by decide +kernel
theorem at_182_102 : am_at (am_m 182) 102 = some (.iconst 0, 0) := by decide +kernel
theorem at_182_103 : am_at (am_m 182) 103 = some (.ireturn, 0) := by decide +kernel
theorem at_182_104 : am_at (am_m 182) 104 = some (.aload_n 0, 0) := by decide +kernel
theorem at_182_105 : am_at (am_m 182) 105 = some (.getfield 14, 0) := by decide +kernel
theorem at_182_108 : am_at (am_m 182) 108 = some (.iconst 3, 0) := by decide +kernel
theorem at_182_109 : am_at (am_m 182) 109 = some (.aload_n 0, 0) := by decide +kernel
theorem at_182_110 : am_at (am_m 182) 110 = some (.getfield 36, 5) := by decide +kernel
theorem at_182_113 : am_at (am_m 182) 113 = some (.getfield 83, 770) := by decide +kernel
theorem at_182_116 : am_at (am_m 182) 116 = some (.invokevirtual 176, 34) := by decide +kernel
theorem at_182_119 : am_at (am_m 182) 119 = some (.aload_n 0, 0) := by decide +kernel
theorem at_182_120 : am_at (am_m 182) 120 = some (.getfield 14, 0) := by decide +kernel
theorem at_182_123 : am_at (am_m 182) 123 = some (.aload_n 0, 0) := by decide +kernel
theorem at_182_124 : am_at (am_m 182) 124 = some (.getfield 36, 5) := by decide +kernel
theorem at_182_127 : am_at (am_m 182) 127 = some (.iconst 0, 0) := by decide +kernel
theorem at_182_128 : am_at (am_m 182) 128 = some (.iload_n 1, 0) := by decide +kernel
theorem at_182_129 : am_at (am_m 182) 129 = some (.invokevirtual 197, 170) := by decide +kernel
theorem at_182_132 : am_at (am_m 182) 132 = some (.ifCond .eq 45, 177) := by decide +kernel
theorem at_182_135 : am_at (am_m 182) 135 = some (.aload_n 0, 0) := by decide +kernel
theorem at_182_136 : am_at (am_m 182) 136 = some (.getfield 14, 0) := by decide +kernel
theorem at_182_139 : am_at (am_m 182) 139 = some (.iload 5, 0) := by decide +kernel
theorem at_182_141 : am_at (am_m 182) 141 = some (.iload 6, 0) := by decide +kernel
theorem at_182_143 : am_at (am_m 182) 143 = some (.invokevirtual 180, 41) := by decide +kernel
theorem at_182_146 : am_at (am_m 182) 146 = some (.ifCond .eq 31, 177) := by decide +kernel
theorem at_182_149 : am_at (am_m 182) 149 = some (.aload_n 0, 0) := by decide +kernel
theorem at_182_150 : am_at (am_m 182) 150 = some (.getfield 14, 0) := by decide +kernel
theorem at_182_153 : am_at (am_m 182) 153 = some (.aload_n 0, 0) := by decide +kernel
theorem at_182_154 : am_at (am_m 182) 154 = some (.getfield 36, 5) := by decide +kernel
theorem at_182_157 : am_at (am_m 182) 157 = some (.iload_n 1, 0) := by decide +kernel
theorem at_182_158 : am_at (am_m 182) 158 = some (.iload_n 3, 0) := by decide +kernel
theorem at_182_159 : am_at (am_m 182) 159 = some (.iadd, 0) := by decide +kernel
theorem at_182_160 : am_at (am_m 182) 160 = some (.aload_n 0, 0) := by decide +kernel
theorem at_182_161 : am_at (am_m 182) 161 = some (.getfield 36, 5) := by decide +kernel
theorem at_182_164 : am_at (am_m 182) 164 = some (.getfield 80, 771) := by decide +kernel
theorem at_182_167 : am_at (am_m 182) 167 = some (.invokevirtual 197, 170) := by decide +kernel
theorem at_182_170 : am_at (am_m 182) 170 = some (.ifCond .eq 7, 177) := by decide +kernel
theorem at_182_173 : am_at (am_m 182) 173 = some (.iconst 1, 0) := by decide +kernel
theorem at_182_174 : am_at (am_m 182) 174 = some (.goto 4, 178) := by decide +kernel
theorem at_182_177 : am_at (am_m 182) 177 = some (.iconst 0, 0) := by decide +kernel
theorem at_182_178 : am_at (am_m 182) 178 = some (.ireturn, 0) := by decide +kernel
theorem at_183_0 : am_at (am_m 183) 0 = some (.aload_n 0, 0) := by decide +kernel
theorem at_183_1 : am_at (am_m 183) 1 = some (.getfield 14, 0) := by decide +kernel
theorem at_183_4 : am_at (am_m 183) 4 = some (.iconst 3, 0) := by decide +kernel
theorem at_183_5 : am_at (am_m 183) 5 = some (.aload_n 0, 0) := by decide +kernel
theorem at_183_6 : am_at (am_m 183) 6 = some (.getfield 36, 5) := by decide +kernel
theorem at_183_9 : am_at (am_m 183) 9 = some (.getfield 83, 770) := by decide +kernel
theorem at_183_12 : am_at (am_m 183) 12 = some (.invokevirtual 176, 34) := by decide +kernel
theorem at_183_15 : am_at (am_m 183) 15 = some (.aload_n 0, 0) := by decide +kernel
theorem at_183_16 : am_at (am_m 183) 16 = some (.getfield 14, 0) := by decide +kernel
theorem at_183_19 : am_at (am_m 183) 19 = some (.aload_n 0, 0) := by decide +kernel
theorem at_183_20 : am_at (am_m 183) 20 = some (.getfield 36, 5) := by decide +kernel
theorem at_183_23 : am_at (am_m 183) 23 = some (.iconst 0, 0) := by decide +kernel
theorem at_183_24 : am_at (am_m 183) 24 = some (.iload_n 1, 0) := by decide +kernel
theorem at_183_25 : am_at (am_m 183) 25 = some (.invokevirtual 197, 170) := by decide +kernel
theorem at_183_28 : am_at (am_m 183) 28 = some (.ifCond .eq 31, 59) := by decide +kernel
theorem at_183_31 : am_at (am_m 183) 31 = some (.aload_n 0, 0) := by decide +kernel
theorem at_183_32 : am_at (am_m 183) 32 = some (.getfield 14, 0) := by decide +kernel
theorem at_183_35 : am_at (am_m 183) 35 = some (.aload_n 0, 0) := by decide +kernel
theorem at_183_36 : am_at (am_m 183) 36 = some (.getfield 36, 5) := by decide +kernel
theorem at_183_39 : am_at (am_m 183) 39 = some (.iload_n 1, 0) := by decide +kernel
theorem at_183_40 : am_at (am_m 183) 40 = some (.iconst 1, 0) := by decide +kernel
theorem at_183_41 : am_at (am_m 183) 41 = some (.iadd, 0) := by decide +kernel
theorem at_183_42 : am_at (am_m 183) 42 = some (.aload_n 0, 0) := by decide +kernel
theorem at_183_43 : am_at (am_m 183) 43 = some (.getfield 36, 5) := by decide +kernel
theorem at_183_46 : am_at (am_m 183) 46 = some (.getfield 80, 771) := by decide +kernel
theorem at_183_49 : am_at (am_m 183) 49 = some (.invokevirtual 197, 170) := by decide +kernel
theorem at_183_52 : am_at (am_m 183) 52 = some (.ifCond .eq 7, 59) := by decide +kernel
theorem at_183_55 : am_at (am_m 183) 55 = some (.iconst 1, 0) := by decide +kernel
theorem at_183_56 : am_at (am_m 183) 56 = some (.goto 4, 60) := by decide +kernel
theorem at_183_59 : am_at (am_m 183) 59 = some (.iconst 0, 0) := by decide +kernel
theorem at_183_60 : am_at (am_m 183) 60 = some (.ireturn, 0) := by decide +kernel
theorem at_184_0 : am_at (am_m 184) 0 = some (.aload_n 0, 0) := by decide +kernel
theorem at_184_1 : am_at (am_m 184) 1 = some (.getfield 36, 5) := by decide +kernel
theorem at_184_4 : am_at (am_m 184) 4 = some (.iload_n 1, 0) := by decide +kernel
theorem at_184_5 : am_at (am_m 184) 5 = some (.iconst 0, 0) := by decide +kernel
theorem at_184_6 : am_at (am_m 184) 6 = some (.invokevirtual 90, 54) := by decide +kernel
theorem at_184_9 : am_at (am_m 184) 9 = some (.aload_n 0, 0) := by decide +kernel
theorem at_184_10 : am_at (am_m 184) 10 = some (.getfield 36, 5) := by decide +kernel
theorem at_184_13 : am_at (am_m 184) 13 = some (.iload_n 1, 0) := by decide +kernel
theorem at_184_14 : am_at (am_m 184) 14 = some (.iconst 1, 0) := by decide +kernel
theorem at_184_15 : am_at (am_m 184) 15 = some (.iadd, 0) := by decide +kernel
theorem at_184_16 : am_at (am_m 184) 16 = some (.iconst 0, 0) := by decide +kernel
theorem at_184_17 : am_at (am_m 184) 17 = some (.invokevirtual 90, 54) := by decide +kernel
theorem at_184_20 : am_at (am_m 184) 20 = some (.if_icmp .ne 28, 48) := by decide +kernel
theorem at_184_23 : am_at (am_m 184) 23 = some (.aload_n 0, 0) := by decide +kernel
theorem at_184_24 : am_at (am_m 184) 24 = some (.getfield 36, 5) := by decide +kernel
theorem at_184_27 : am_at (am_m 184) 27 = some (.iload_n 1, 0) := by decide +kernel
theorem at_184_28 : am_at (am_m 184) 28 = some (.iconst 1, 0) := by decide +kernel
theorem at_184_29 : am_at (am_m 184) 29 = some (.invokevirtual 90, 54) := by decide +kernel
theorem at_184_32 : am_at (am_m 184) 32 = some (.aload_n 0, 0) := by decide +kernel
theorem at_184_33 : am_at (am_m 184) 33 = some (.getfield 36, 5) := by decide +kernel
theorem at_184_36 : am_at (am_m 184) 36 = some (.iload_n 1, 0) := by decide +kernel
theorem at_184_37 : am_at (am_m 184) 37 = some (.iconst 1, 0) := by decide +kernel
theorem at_184_38 : am_at (am_m 184) 38 = some (.iadd, 0) := by decide +kernel
theorem at_184_39 : am_at (am_m 184) 39 = some (.iconst 1, 0) := by decide +kernel
theorem at_184_40 : am_at (am_m 184) 40 = some (.invokevirtual 90, 54) := by decide +kernel
theorem at_184_43 : am_at (am_m 184) 43 = some (.if_icmp .ne 5, 48) := by decide +kernel
theorem at_184_46 : am_at (am_m 184) 46 = some (.iconst 0, 0) := by decide +kernel
theorem at_184_47 : am_at (am_m 184) 47 = some (.ireturn, 0) := by decide +kernel
theorem at_184_48 : am_at (am_m 184) 48 = some (.aload_n 0, 0) := by decide +kernel
theorem at_184_49 : am_at (am_m 184) 49 = some (.getfield 14, 0) := by decide +kernel
theorem at_184_52 : am_at (am_m 184) 52 = some (.iconst 3, 0) := by decide +kernel
theorem at_184_53 : am_at (am_m 184) 53 = some (.aload_n 0, 0) := by decide +kernel
theorem at_184_54 : am_at (am_m 184) 54 = some (.getfield 36, 5) := by decide +kernel
theorem at_184_57 : am_at (am_m 184) 57 = some (.getfield 83, 770) := by decide +kernel
theorem at_184_60 : am_at (am_m 184) 60 = some (.invokevirtual 176, 34) := by decide +kernel
theorem at_184_63 : am_at (am_m 184) 63 = some (.aload_n 0, 0) := by decide +kernel
theorem at_184_64 : am_at (am_m 184) 64 = some (.getfield 14, 0) := by decide +kernel
theorem at_184_67 : am_at (am_m 184) 67 = some (.aload_n 0, 0) := by decide +kernel
theorem at_184_68 : am_at (am_m 184) 68 = some (.getfield 36, 5) := by decide +kernel
theorem at_184_71 : am_at (am_m 184) 71 = some (.iconst 0, 0) := by decide +kernel
theorem at_184_72 : am_at (am_m 184) 72 = some (.iload_n 1, 0) := by decide +kernel
theorem at_184_73 : am_at (am_m 184) 73 = some (.invokevirtual 197, 170) := by decide +kernel
theorem at_184_76 : am_at (am_m 184) 76 = some (.ifCond .eq 69, 145) := by decide +kernel
theorem at_184_79 : am_at (am_m 184) 79 = some (.aload_n 0, 0) := by decide +kernel
theorem at_184_80 : am_at (am_m 184) 80 = some (.getfield 14, 0) := by decide +kernel
theorem at_184_83 : am_at (am_m 184) 83 = some (.aload_n 0, 0) := by decide +kernel
theorem at_184_84 : am_at (am_m 184) 84 = some (.getfield 36, 5) := by decide +kernel
theorem at_184_87 : am_at (am_m 184) 87 = some (.iload_n 1, 0) := by decide +kernel
theorem at_184_88 : am_at (am_m 184) 88 = some (.iconst 1, 0) := by decide +kernel
theorem at_184_89 : am_at (am_m 184) 89 = some (.iadd, 0) := by decide +kernel
theorem at_184_90 : am_at (am_m 184) 90 = some (.iload_n 1, 0) := by decide +kernel
theorem at_184_91 : am_at (am_m 184) 91 = some (.iconst 2, 0) := by decide +kernel
theorem at_184_92 : am_at (am_m 184) 92 = some (.iadd, 0) := by decide +kernel
theorem at_184_93 : am_at (am_m 184) 93 = some (.invokevirtual 197, 170) := by decide +kernel
theorem at_184_96 : am_at (am_m 184) 96 = some (.ifCond .eq 49, 145) := by decide +kernel
theorem at_184_99 : am_at (am_m 184) 99 = some (.aload_n 0, 0) := by decide +kernel
theorem at_184_100 : am_at (am_m 184) 100 = some (.getfield 14, 0) := by decide +kernel
theorem at_184_103 : am_at (am_m 184) 103 = some (.aload_n 0, 0) := by decide +kernel
theorem at_184_104 : am_at (am_m 184) 104 = some (.getfield 36, 5) := by decide +kernel
theorem at_184_107 : am_at (am_m 184) 107 = some (.iload_n 1, 0) := by decide +kernel
theorem at_184_108 : am_at (am_m 184) 108 = some (.iload_n 1, 0) := by decide +kernel
theorem at_184_109 : am_at (am_m 184) 109 = some (.iconst 1, 0) := by decide +kernel
theorem at_184_110 : am_at (am_m 184) 110 = some (.iadd, 0) := by decide +kernel
theorem at_184_111 : am_at (am_m 184) 111 = some (.invokevirtual 197, 170) := by decide +kernel
theorem at_184_114 : am_at (am_m 184) 114 = some (.ifCond .eq 31, 145) := by decide +kernel
theorem at_184_117 : am_at (am_m 184) 117 = some (.aload_n 0, 0) := by decide +kernel
theorem at_184_118 : am_at (am_m 184) 118 = some (.getfield 14, 0) := by decide +kernel
theorem at_184_121 : am_at (am_m 184) 121 = some (.aload_n 0, 0) := by decide +kernel
theorem at_184_122 : am_at (am_m 184) 122 = some (.getfield 36, 5) := by decide +kernel
theorem at_184_125 : am_at (am_m 184) 125 = some (.iload_n 1, 0) := by decide +kernel
theorem at_184_126 : am_at (am_m 184) 126 = some (.iconst 2, 0) := by decide +kernel
theorem at_184_127 : am_at (am_m 184) 127 = some (.iadd, 0) := by decide +kernel
theorem at_184_128 : am_at (am_m 184) 128 = some (.aload_n 0, 0) := by decide +kernel
theorem at_184_129 : am_at (am_m 184) 129 = some (.getfield 36, 5) := by decide +kernel
theorem at_184_132 : am_at (am_m 184) 132 = some (.getfield 80, 771) := by decide +kernel
theorem at_184_135 : am_at (am_m 184) 135 = some (.invokevirtual 197, 170) := by decide +kernel
theorem at_184_138 : am_at (am_m 184) 138 = some (.ifCond .eq 7, 145) := by decide +kernel
theorem at_184_141 : am_at (am_m 184) 141 = some (.iconst 1, 0) := by decide +kernel
theorem at_184_142 : am_at (am_m 184) 142 = some (.goto 4, 146) := by decide +kernel
theorem at_184_145 : am_at (am_m 184) 145 = some (.iconst 0, 0) := by decide +kernel
theorem at_184_146 : am_at (am_m 184) 146 = some (.ireturn, 0) := by decide +kernel
theorem at_185_0 : am_at (am_m 185) 0 = some (.aload 4, 0) := by decide +kernel
theorem at_185_2 : am_at (am_m 185) 2 = some (.iconst 0, 0) := by decide +kernel
theorem at_185_3 : am_at (am_m 185) 3 = some (.aload_n 0, 0) := by decide +kernel
theorem at_185_4 : am_at (am_m 185) 4 = some (.iload_n 1, 0) := by decide +kernel
theorem at_185_5 : am_at (am_m 185) 5 = some (.iload_n 2, 0) := by decide +kernel
theorem at_185_6 : am_at (am_m 185) 6 = some (.iload_n 3, 0) := by decide +kernel
theorem at_185_7 : am_at (am_m 185) 7 = some (.invokevirtual 92, 186) := by decide +kernel
theorem at_185_10 : am_at (am_m 185) 10 = some (.i2l, 0) := by decide +kernel
theorem at_185_11 : am_at (am_m 185) 11 = some (.lastore, 0) := by decide +kernel
theorem at_185_12 : am_at (am_m 185) 12 = some (.goto 15, 27) := by decide +kernel
theorem at_185_17 : am_at (am_m 185) 17 = some (.iconst 1, 0) := by decide +kernel
theorem at_185_18 : am_at (am_m 185) 18 = some (.ireturn, 0) := by decide +kernel
theorem at_185_21 : am_at (am_m 185) 21 = some (.iconst 2, 0) := by decide +kernel
theorem at_185_22 : am_at (am_m 185) 22 = some (.ireturn, 0) := by decide +kernel
theorem at_185_25 : am_at (am_m 185) 25 = some (.iconst 3, 0) := by decide +kernel
theorem at_185_26 : am_at (am_m 185) 26 = some (.ireturn, 0) := by decide +kernel
theorem at_185_27 : am_at (am_m 185) 27 = some (.iconst 0, 0) := by decide +kernel
theorem at_185_28 : am_at (am_m 185) 28 = some (.ireturn, 0) := by decide +kernel
theorem at_186_0 : am_at (am_m 186) 0 = some (.aload_n 0, 0) := by decide +kernel
theorem at_186_1 : am_at (am_m 186) 1 = some (.iload_n 1, 0) := by decide +kernel
theorem at_186_2 : am_at (am_m 186) 2 = some (.invokevirtual 132, 63) := by decide +kernel
theorem at_186_5 : am_at (am_m 186) 5 = some (.astore 4, 0) := by decide +kernel
theorem at_186_7 : am_at (am_m 186) 7 = some (.aload_n 0, 0) := by decide +kernel
theorem at_186_8 : am_at (am_m 186) 8 = some (.iload_n 2, 0) := by decide +kernel
theorem at_186_9 : am_at (am_m 186) 9 = some (.invokevirtual 304, 158) := by decide +kernel
theorem at_186_12 : am_at (am_m 186) 12 = some (.aload_n 0, 0) := by decide +kernel
theorem at_186_13 : am_at (am_m 186) 13 = some (.getfield 54, 2823) := by decide +kernel
theorem at_186_16 : am_at (am_m 186) 16 = some (.aload 4, 0) := by decide +kernel
theorem at_186_18 : am_at (am_m 186) 18 = some (.aconst_null, 0) := by decide +kernel
theorem at_186_19 : am_at (am_m 186) 19 = some (.iload_n 2, 0) := by decide +kernel
theorem at_186_20 : am_at (am_m 186) 20 = some (.invokevirtual 307, 159) := by decide +kernel
theorem at_186_23 : am_at (am_m 186) 23 = some (.pop, 0) := by decide +kernel
theorem at_186_24 : am_at (am_m 186) 24 = some (.aload_n 0, 0) := by decide +kernel
theorem at_186_25 : am_at (am_m 186) 25 = some (.getfield 54, 2823) := by decide +kernel
theorem at_186_28 : am_at (am_m 186) 28 = some (.iload_n 3, 0) := by decide +kernel
theorem at_186_29 : am_at (am_m 186) 29 = some (.invokevirtual 313, 187) := by decide +kernel
theorem at_186_32 : am_at (am_m 186) 32 = some (.ifCond .ne 14, 46) := by decide +kernel
theorem at_186_35 : am_at (am_m 186) 35 = some (.new 177, 102) := by decide +kernel
theorem at_186_46 : am_at (am_m 186) 46 = some (.aload_n 0, 0) := by decide +kernel
theorem at_186_47 : am_at (am_m 186) 47 = some (.iconst 1, 0) := by decide +kernel
theorem at_186_48 : am_at (am_m 186) 48 = some (.invokevirtual 121, 32) := by decide +kernel
theorem at_186_51 : am_at (am_m 186) 51 = some (.aload_n 0, 0) := by decide +kernel
theorem at_186_52 : am_at (am_m 186) 52 = some (.aload_n 0, 0) := by decide +kernel
theorem at_186_53 : am_at (am_m 186) 53 = some (.getfield 54, 2823) := by decide +kernel
theorem at_186_56 : am_at (am_m 186) 56 = some (.getfield 319, 0) := by decide +kernel
theorem at_186_59 : am_at (am_m 186) 59 = some (.iconst 3, 0) := by decide +kernel
theorem at_186_60 : am_at (am_m 186) 60 = some (.iload_n 1, 0) := by decide +kernel
theorem at_186_61 : am_at (am_m 186) 61 = some (.iconst (-1), 0) := by decide +kernel
theorem at_186_62 : am_at (am_m 186) 62 = some (.iload_n 2, 0) := by decide +kernel
theorem at_186_63 : am_at (am_m 186) 63 = some (.iload_n 3, 0) := by decide +kernel
theorem at_186_64 : am_at (am_m 186) 64 = some (.lconst 0, 0) := by decide +kernel
theorem at_186_65 : am_at (am_m 186) 65 = some (.invokevirtual 128, 59) := by decide +kernel
theorem at_186_68 : am_at (am_m 186) 68 = some (.ireturn, 0) := by decide +kernel
theorem at_187_0 : am_at (am_m 187) 0 = some (.iload_n 1, 0) := by decide +kernel
theorem at_187_1 : am_at (am_m 187) 1 = some (.istore_n 2, 0) := by decide +kernel
theorem at_187_2 : am_at (am_m 187) 2 = some (.iconst 0, 0) := by decide +kernel
theorem at_187_3 : am_at (am_m 187) 3 = some (.istore_n 3, 0) := by decide +kernel
theorem at_187_4 : am_at (am_m 187) 4 = some (.iload_n 3, 0) := by decide +kernel
theorem at_187_5 : am_at (am_m 187) 5 = some (.aload_n 0, 0) := by decide +kernel
theorem at_187_6 : am_at (am_m 187) 6 = some (.getfield 49, 9) := by decide +kernel
theorem at_187_9 : am_at (am_m 187) 9 = some (.if_icmp .ge 30, 39) := by decide +kernel
theorem at_187_12 : am_at (am_m 187) 12 = some (.iload_n 2, 0) := by decide +kernel
theorem at_187_13 : am_at (am_m 187) 13 = some (.ifCond .lt 26, 39) := by decide +kernel
theorem at_187_16 : am_at (am_m 187) 16 = some (.aload_n 0, 0) := by decide +kernel
theorem at_187_17 : am_at (am_m 187) 17 = some (.iload_n 3, 0) := by decide +kernel
theorem at_187_18 : am_at (am_m 187) 18 = some (.invokevirtual 86, 163) := by decide +kernel
theorem at_187_21 : am_at (am_m 187) 21 = some (.ifCond .eq 12, 33) := by decide +kernel
theorem at_187_24 : am_at (am_m 187) 24 = some (.iload_n 2, 0) := by decide +kernel
theorem at_187_25 : am_at (am_m 187) 25 = some (.ifCond .ne 5, 30) := by decide +kernel
theorem at_187_28 : am_at (am_m 187) 28 = some (.iconst 1, 0) := by decide +kernel
theorem at_187_29 : am_at (am_m 187) 29 = some (.ireturn, 0) := by decide +kernel
theorem at_187_30 : am_at (am_m 187) 30 = some (.iinc 2 (-1), 0) := by decide +kernel
theorem at_187_33 : am_at (am_m 187) 33 = some (.iinc 3 1, 0) := by decide +kernel
theorem at_187_36 : am_at (am_m 187) 36 = some (.goto (-32), 4) := by decide +kernel
theorem at_187_39 : am_at (am_m 187) 39 = some (.iconst 0, 0) := by decide +kernel
theorem at_187_40 : am_at (am_m 187) 40 = some (.ireturn, 0) := by decide +kernel
theorem at_188_0 : am_at (am_m 188) 0 = some (.aload 5, 0) := by decide +kernel
theorem at_188_2 : am_at (am_m 188) 2 = some (.iconst 0, 0) := by decide +kernel
theorem at_188_3 : am_at (am_m 188) 3 = some (.aload_n 0, 0) := by decide +kernel
theorem at_188_4 : am_at (am_m 188) 4 = some (.iload_n 1, 0) := by decide +kernel
theorem at_188_5 : am_at (am_m 188) 5 = some (.iload_n 2, 0) := by decide +kernel
theorem at_188_6 : am_at (am_m 188) 6 = some (.lload_n 3, 0) := by decide +kernel
theorem at_188_7 : am_at (am_m 188) 7 = some (.invokevirtual 95, 189) := by decide +kernel
theorem at_188_10 : am_at (am_m 188) 10 = some (.i2l, 0) := by decide +kernel
theorem at_188_11 : am_at (am_m 188) 11 = some (.lastore, 0) := by decide +kernel
theorem at_188_12 : am_at (am_m 188) 12 = some (.goto 15, 27) := by decide +kernel
theorem at_188_17 : am_at (am_m 188) 17 = some (.iconst 1, 0) := by decide +kernel
theorem at_188_18 : am_at (am_m 188) 18 = some (.ireturn, 0) := by decide +kernel
theorem at_188_21 : am_at (am_m 188) 21 = some (.iconst 2, 0) := by decide +kernel
theorem at_188_22 : am_at (am_m 188) 22 = some (.ireturn, 0) := by decide +kernel
theorem at_188_25 : am_at (am_m 188) 25 = some (.iconst 3, 0) := by decide +kernel
theorem at_188_26 : am_at (am_m 188) 26 = some (.ireturn, 0) := by decide +kernel
theorem at_188_27 : am_at (am_m 188) 27 = some (.iconst 0, 0) := by decide +kernel
theorem at_188_28 : am_at (am_m 188) 28 = some (.ireturn, 0) := by decide +kernel
theorem at_189_0 : am_at (am_m 189) 0 = some (.aload_n 0, 0) := by decide +kernel
theorem at_189_1 : am_at (am_m 189) 1 = some (.iload_n 1, 0) := by decide +kernel
theorem at_189_2 : am_at (am_m 189) 2 = some (.invokevirtual 132, 63) := by decide +kernel
theorem at_189_5 : am_at (am_m 189) 5 = some (.astore 5, 0) := by decide +kernel
theorem at_189_7 : am_at (am_m 189) 7 = some (.iload_n 2, 0) := by decide +kernel
theorem at_189_8 : am_at (am_m 189) 8 = some (.ifCond .lt 21, 29) := by decide +kernel
theorem at_189_11 : am_at (am_m 189) 11 = some (.iload_n 2, 0) := by decide +kernel
theorem at_189_12 : am_at (am_m 189) 12 = some (.iconst 4, 0) := by decide +kernel
theorem at_189_13 : am_at (am_m 189) 13 = some (.if_icmp .gt 16, 29) := by decide +kernel
theorem at_189_16 : am_at (am_m 189) 16 = some (.iload_n 2, 0) := by decide +kernel
theorem at_189_17 : am_at (am_m 189) 17 = some (.iconst 4, 0) := by decide +kernel
theorem at_189_18 : am_at (am_m 189) 18 = some (.if_icmp .ne 22, 40) := by decide +kernel
theorem at_189_21 : am_at (am_m 189) 21 = some (.aload 5, 0) := by decide +kernel
theorem at_189_23 : am_at (am_m 189) 23 = some (.getfield 144, 769) := by decide +kernel
theorem at_189_26 : am_at (am_m 189) 26 = some (.ifCond .eq 14, 40) := by decide +kernel
theorem at_189_29 : am_at (am_m 189) 29 = some (.new 114, 100) := by decide +kernel
theorem at_189_40 : am_at (am_m 189) 40 = some (.aload_n 0, 0) := by decide +kernel
theorem at_189_41 : am_at (am_m 189) 41 = some (.iconst 1, 0) := by decide +kernel
theorem at_189_42 : am_at (am_m 189) 42 = some (.invokevirtual 121, 32) := by decide +kernel
theorem at_189_45 : am_at (am_m 189) 45 = some (.aload_n 0, 0) := by decide +kernel
theorem at_189_46 : am_at (am_m 189) 46 = some (.iload_n 1, 0) := by decide +kernel
theorem at_189_47 : am_at (am_m 189) 47 = some (.iconst (-1), 0) := by decide +kernel
theorem at_189_48 : am_at (am_m 189) 48 = some (.iload_n 2, 0) := by decide +kernel
theorem at_189_49 : am_at (am_m 189) 49 = some (.lload_n 3, 0) := by decide +kernel
theorem at_189_50 : am_at (am_m 189) 50 = some (.invokevirtual 324, 190) := by decide +kernel
theorem at_189_53 : am_at (am_m 189) 53 = some (.ireturn, 0) := by decide +kernel
theorem at_190_0 : am_at (am_m 190) 0 = some (.aload_n 0, 0) := by decide +kernel
theorem at_190_1 : am_at (am_m 190) 1 = some (.iload_n 1, 0) := by decide +kernel
theorem at_190_2 : am_at (am_m 190) 2 = some (.invokevirtual 132, 63) := by decide +kernel
theorem at_190_5 : am_at (am_m 190) 5 = some (.astore 6, 0) := by decide +kernel
theorem at_190_7 : am_at (am_m 190) 7 = some (.iconst (-1), 0) := by decide +kernel
theorem at_190_8 : am_at (am_m 190) 8 = some (.istore 7, 0) := by decide +kernel
theorem at_190_10 : am_at (am_m 190) 10 = some (.aload_n 0, 0) := by decide +kernel
theorem at_190_11 : am_at (am_m 190) 11 = some (.getfield 106, 2835) := by decide +kernel
theorem at_190_14 : am_at (am_m 190) 14 = some (.lload 4, 0) := by decide +kernel
theorem at_190_16 : am_at (am_m 190) 16 = some (.putfield 339, 2048) := by decide +kernel
theorem at_190_19 : am_at (am_m 190) 19 = some (.iload_n 3, 0) := by decide +kernel
theorem at_190_20 : am_at (am_m 190) 20 = some (.iconst 4, 0) := by decide +kernel
theorem at_190_21 : am_at (am_m 190) 21 = some (.if_icmp .ne 23, 44) := by decide +kernel
theorem at_190_24 : am_at (am_m 190) 24 = some (.aload_n 0, 0) := by decide +kernel
theorem at_190_25 : am_at (am_m 190) 25 = some (.getfield 54, 2823) := by decide +kernel
theorem at_190_28 : am_at (am_m 190) 28 = some (.aload 6, 0) := by decide +kernel
theorem at_190_30 : am_at (am_m 190) 30 = some (.aload_n 0, 0) := by decide +kernel
theorem at_190_31 : am_at (am_m 190) 31 = some (.getfield 106, 2835) := by decide +kernel
theorem at_190_34 : am_at (am_m 190) 34 = some (.aload_n 0, 0) := by decide +kernel
theorem at_190_35 : am_at (am_m 190) 35 = some (.getfield 47, 2822) := by decide +kernel
theorem at_190_38 : am_at (am_m 190) 38 = some (.invokevirtual 411, 191) := by decide +kernel
theorem at_190_41 : am_at (am_m 190) 41 = some (.goto 80, 121) := by decide +kernel
theorem at_190_44 : am_at (am_m 190) 44 = some (.aload_n 0, 0) := by decide +kernel
theorem at_190_45 : am_at (am_m 190) 45 = some (.getfield 54, 2823) := by decide +kernel
theorem at_190_48 : am_at (am_m 190) 48 = some (.aload 6, 0) := by decide +kernel
theorem at_190_50 : am_at (am_m 190) 50 = some (.iload_n 2, 0) := by decide +kernel
theorem at_190_51 : am_at (am_m 190) 51 = some (.ifCond .ge 7, 58) := by decide +kernel
theorem at_190_54 : am_at (am_m 190) 54 = some (.aconst_null, 0) := by decide +kernel
theorem at_190_55 : am_at (am_m 190) 55 = some (.goto 8, 63) := by decide +kernel
theorem at_190_58 : am_at (am_m 190) 58 = some (.aload_n 0, 0) := by decide +kernel
theorem at_190_59 : am_at (am_m 190) 59 = some (.iload_n 2, 0) := by decide +kernel
theorem at_190_60 : am_at (am_m 190) 60 = some (.invokevirtual 132, 63) := by decide +kernel
theorem at_190_63 : am_at (am_m 190) 63 = some (.iload_n 3, 0) := by decide +kernel
theorem at_190_64 : am_at (am_m 190) 64 = some (.invokevirtual 307, 159) := by decide +kernel
theorem at_190_67 : am_at (am_m 190) 67 = some (.pop, 0) := by decide +kernel
theorem at_190_68 : am_at (am_m 190) 68 = some (.aload_n 0, 0) := by decide +kernel
theorem at_190_69 : am_at (am_m 190) 69 = some (.getfield 54, 2823) := by decide +kernel
theorem at_190_72 : am_at (am_m 190) 72 = some (.invokevirtual 311, 162) := by decide +kernel
theorem at_190_75 : am_at (am_m 190) 75 = some (.istore 8, 0) := by decide +kernel
theorem at_190_77 : am_at (am_m 190) 77 = some (.iload 8, 0) := by decide +kernel
theorem at_190_79 : am_at (am_m 190) 79 = some (.ifCond .le 15, 94) := by decide +kernel
theorem at_190_82 : am_at (am_m 190) 82 = some (.aload_n 0, 0) := by decide +kernel
theorem at_190_83 : am_at (am_m 190) 83 = some (.getfield 106, 2835) := by decide +kernel
theorem at_190_86 : am_at (am_m 190) 86 = some (.iload 8, 0) := by decide +kernel
theorem at_190_88 : am_at (am_m 190) 88 = some (.invokevirtual 510, 192) := by decide +kernel
theorem at_190_91 : am_at (am_m 190) 91 = some (.goto 4, 95) := by decide +kernel
theorem at_190_94 : am_at (am_m 190) 94 = some (.iconst (-1), 0) := by decide +kernel
theorem at_190_95 : am_at (am_m 190) 95 = some (.istore 7, 0) := by decide +kernel
theorem at_190_97 : am_at (am_m 190) 97 = some (.aload_n 0, 0) := by decide +kernel
theorem at_190_98 : am_at (am_m 190) 98 = some (.getfield 54, 2823) := by decide +kernel
theorem at_190_101 : am_at (am_m 190) 101 = some (.iload 7, 0) := by decide +kernel
theorem at_190_103 : am_at (am_m 190) 103 = some (.invokevirtual 313, 187) := by decide +kernel
theorem at_190_106 : am_at (am_m 190) 106 = some (.ifCond .ne 15, 121) := by decide +kernel
theorem at_190_109 : am_at (am_m 190) 109 = some (.aload_n 0, 0) := by decide +kernel
theorem at_190_110 : am_at (am_m 190) 110 = some (.getfield 54, 2823) := by decide +kernel
theorem at_190_113 : am_at (am_m 190) 113 = some (.getfield 319, 0) := by decide +kernel
theorem at_190_116 : am_at (am_m 190) 116 = some (.aload 6, 0) := by decide +kernel
theorem at_190_118 : am_at (am_m 190) 118 = some (.invokevirtual 415, 60) := by decide +kernel
theorem at_190_121 : am_at (am_m 190) 121 = some (.aload_n 0, 0) := by decide +kernel
theorem at_190_122 : am_at (am_m 190) 122 = some (.aload_n 0, 0) := by decide +kernel
theorem at_190_123 : am_at (am_m 190) 123 = some (.getfield 54, 2823) := by decide +kernel
theorem at_190_126 : am_at (am_m 190) 126 = some (.getfield 319, 0) := by decide +kernel
theorem at_190_129 : am_at (am_m 190) 129 = some (.iload_n 2, 0) := by decide +kernel
theorem at_190_130 : am_at (am_m 190) 130 = some (.ifCond .ge 7, 137) := by decide +kernel
theorem at_190_133 : am_at (am_m 190) 133 = some (.iconst 3, 0) := by decide +kernel
theorem at_190_134 : am_at (am_m 190) 134 = some (.goto 4, 138) := by decide +kernel
theorem at_190_137 : am_at (am_m 190) 137 = some (.iconst 4, 0) := by decide +kernel
theorem at_190_138 : am_at (am_m 190) 138 = some (.iload_n 1, 0) := by decide +kernel
theorem at_190_139 : am_at (am_m 190) 139 = some (.iload_n 2, 0) := by decide +kernel
theorem at_190_140 : am_at (am_m 190) 140 = some (.iload_n 3, 0) := by decide +kernel
theorem at_190_141 : am_at (am_m 190) 141 = some (.iload 7, 0) := by decide +kernel
theorem at_190_143 : am_at (am_m 190) 143 = some (.lload 4, 0) := by decide +kernel
theorem at_190_145 : am_at (am_m 190) 145 = some (.invokevirtual 128, 59) := by decide +kernel
theorem at_190_148 : am_at (am_m 190) 148 = some (.ireturn, 0) := by decide +kernel
theorem at_191_0 : am_at (am_m 191) 0 = some (.aload_n 0, 0) := by decide +kernel
theorem at_191_1 : am_at (am_m 191) 1 = some (.aload_n 1, 0) := by decide +kernel
theorem at_191_2 : am_at (am_m 191) 2 = some (.putfield 36, 5) := by decide +kernel
theorem at_191_5 : am_at (am_m 191) 5 = some (.aload_n 0, 0) := by decide +kernel
theorem at_191_6 : am_at (am_m 191) 6 = some (.getfield 26, 2) := by decide +kernel
theorem at_191_9 : am_at (am_m 191) 9 = some (.aload_n 1, 0) := by decide +kernel
theorem at_191_10 : am_at (am_m 191) 10 = some (.invokevirtual 64, 76) := by decide +kernel
theorem at_191_13 : am_at (am_m 191) 13 = some (.aload_n 2, 0) := by decide +kernel
theorem at_191_14 : am_at (am_m 191) 14 = some (.aload_n 1, 0) := by decide +kernel
theorem at_191_15 : am_at (am_m 191) 15 = some (.getfield 80, 771) := by decide +kernel
theorem at_191_18 : am_at (am_m 191) 18 = some (.invokevirtual 206, 192) := by decide +kernel
theorem at_191_21 : am_at (am_m 191) 21 = some (.istore 4, 0) := by decide +kernel
theorem at_191_23 : am_at (am_m 191) 23 = some (.aload_n 0, 0) := by decide +kernel
theorem at_191_24 : am_at (am_m 191) 24 = some (.getfield 26, 2) := by decide +kernel
theorem at_191_27 : am_at (am_m 191) 27 = some (.getfield 166, 1795) := by decide +kernel
theorem at_191_30 : am_at (am_m 191) 30 = some (.iload 4, 0) := by decide +kernel
theorem at_191_32 : am_at (am_m 191) 32 = some (.baload, 0) := by decide +kernel
theorem at_191_33 : am_at (am_m 191) 33 = some (.ifCond .eq 7, 40) := by decide +kernel
theorem at_191_36 : am_at (am_m 191) 36 = some (.iconst 2, 0) := by decide +kernel
theorem at_191_37 : am_at (am_m 191) 37 = some (.goto 4, 41) := by decide +kernel
theorem at_191_40 : am_at (am_m 191) 40 = some (.iconst 0, 0) := by decide +kernel
theorem at_191_41 : am_at (am_m 191) 41 = some (.aload_n 1, 0) := by decide +kernel
theorem at_191_42 : am_at (am_m 191) 42 = some (.iload 4, 0) := by decide +kernel
theorem at_191_44 : am_at (am_m 191) 44 = some (.iconst 0, 0) := by decide +kernel
theorem at_191_45 : am_at (am_m 191) 45 = some (.invokevirtual 90, 54) := by decide +kernel
theorem at_191_48 : am_at (am_m 191) 48 = some (.invokestatic 160, 11) := by decide +kernel
theorem at_191_51 : am_at (am_m 191) 51 = some (.ifCond .eq 7, 58) := by decide +kernel
theorem at_191_54 : am_at (am_m 191) 54 = some (.iconst 1, 0) := by decide +kernel
theorem at_191_55 : am_at (am_m 191) 55 = some (.goto 4, 59) := by decide +kernel
theorem at_191_58 : am_at (am_m 191) 58 = some (.iconst 0, 0) := by decide +kernel
theorem at_191_59 : am_at (am_m 191) 59 = some (.iadd, 0) := by decide +kernel
theorem at_191_60 : am_at (am_m 191) 60 = some (.istore 5, 0) := by decide +kernel
theorem at_191_62 : am_at (am_m 191) 62 = some (.iconst 1, 0) := by decide +kernel
theorem at_191_63 : am_at (am_m 191) 63 = some (.aload_n 2, 0) := by decide +kernel
theorem at_191_64 : am_at (am_m 191) 64 = some (.iconst 4, 0) := by decide +kernel
theorem at_191_65 : am_at (am_m 191) 65 = some (.invokevirtual 206, 192) := by decide +kernel
theorem at_191_68 : am_at (am_m 191) 68 = some (.iadd, 0) := by decide +kernel
theorem at_191_69 : am_at (am_m 191) 69 = some (.istore 6, 0) := by decide +kernel
theorem at_191_71 : am_at (am_m 191) 71 = some (.iload 6, 0) := by decide +kernel
theorem at_191_73 : am_at (am_m 191) 73 = some (.bipush 12, 0) := by decide +kernel
theorem at_191_75 : am_at (am_m 191) 75 = some (.if_icmp .ge 22, 97) := by decide +kernel
theorem at_191_78 : am_at (am_m 191) 78 = some (.aload_n 3, 0) := by decide +kernel
theorem at_191_79 : am_at (am_m 191) 79 = some (.iload 5, 0) := by decide +kernel
theorem at_191_81 : am_at (am_m 191) 81 = some (.iload 6, 0) := by decide +kernel
theorem at_191_83 : am_at (am_m 191) 83 = some (.invokevirtual 213, 15) := by decide +kernel
theorem at_191_86 : am_at (am_m 191) 86 = some (.lconst 0, 0) := by decide +kernel
theorem at_191_87 : am_at (am_m 191) 87 = some (.lcmp, 0) := by decide +kernel
theorem at_191_88 : am_at (am_m 191) 88 = some (.ifCond .ne 9, 97) := by decide +kernel
theorem at_191_91 : am_at (am_m 191) 91 = some (.iinc 6 1, 0) := by decide +kernel
theorem at_191_94 : am_at (am_m 191) 94 = some (.goto (-23), 71) := by decide +kernel
theorem at_191_97 : am_at (am_m 191) 97 = some (.aload_n 3, 0) := by decide +kernel
theorem at_191_98 : am_at (am_m 191) 98 = some (.iload 5, 0) := by decide +kernel
theorem at_191_100 : am_at (am_m 191) 100 = some (.iload 6, 0) := by decide +kernel
theorem at_191_102 : am_at (am_m 191) 102 = some (.aload_n 2, 0) := by decide +kernel
theorem at_191_103 : am_at (am_m 191) 103 = some (.aload_n 3, 0) := by decide +kernel
theorem at_191_104 : am_at (am_m 191) 104 = some (.iload 5, 0) := by decide +kernel
theorem at_191_106 : am_at (am_m 191) 106 = some (.iload 6, 0) := by decide +kernel
theorem at_191_108 : am_at (am_m 191) 108 = some (.invokevirtual 213, 15) := by decide +kernel
theorem at_191_111 : am_at (am_m 191) 111 = some (.invokevirtual 217, 194) := by decide +kernel
theorem at_191_114 : am_at (am_m 191) 114 = some (.aload_n 0, 0) := by decide +kernel
theorem at_191_115 : am_at (am_m 191) 115 = some (.getfield 20, 1) := by decide +kernel
theorem at_191_118 : am_at (am_m 191) 118 = some (.invokevirtual 221, 91) := by decide +kernel
theorem at_191_121 : am_at (am_m 191) 121 = some (.aload_n 0, 0) := by decide +kernel
theorem at_191_122 : am_at (am_m 191) 122 = some (.getfield 30, 3) := by decide +kernel
theorem at_191_125 : am_at (am_m 191) 125 = some (.aload_n 0, 0) := by decide +kernel
theorem at_191_126 : am_at (am_m 191) 126 = some (.getfield 20, 1) := by decide +kernel
theorem at_191_129 : am_at (am_m 191) 129 = some (.invokevirtual 64, 76) := by decide +kernel
theorem at_191_132 : am_at (am_m 191) 132 = some (.aload_n 0, 0) := by decide +kernel
theorem at_191_133 : am_at (am_m 191) 133 = some (.aload_n 0, 0) := by decide +kernel
theorem at_191_134 : am_at (am_m 191) 134 = some (.getfield 20, 1) := by decide +kernel
theorem at_191_137 : am_at (am_m 191) 137 = some (.iconst 0, 0) := by decide +kernel
theorem at_191_138 : am_at (am_m 191) 138 = some (.aload_n 0, 0) := by decide +kernel
theorem at_191_139 : am_at (am_m 191) 139 = some (.getfield 20, 1) := by decide +kernel
theorem at_191_142 : am_at (am_m 191) 142 = some (.getfield 80, 771) := by decide +kernel
theorem at_191_145 : am_at (am_m 191) 145 = some (.invokevirtual 183, 168) := by decide +kernel
theorem at_191_148 : am_at (am_m 191) 148 = some (.pop, 0) := by decide +kernel
theorem at_191_149 : am_at (am_m 191) 149 = some (.aload_n 0, 0) := by decide +kernel
theorem at_191_150 : am_at (am_m 191) 150 = some (.getfield 26, 2) := by decide +kernel
theorem at_191_153 : am_at (am_m 191) 153 = some (.getfield 190, 1793) := by decide +kernel
theorem at_191_156 : am_at (am_m 191) 156 = some (.iload 4, 0) := by decide +kernel
theorem at_191_158 : am_at (am_m 191) 158 = some (.iaload, 0) := by decide +kernel
theorem at_191_159 : am_at (am_m 191) 159 = some (.iconst 1, 0) := by decide +kernel
theorem at_191_160 : am_at (am_m 191) 160 = some (.isub, 0) := by decide +kernel
theorem at_191_161 : am_at (am_m 191) 161 = some (.aload_n 0, 0) := by decide +kernel
theorem at_191_162 : am_at (am_m 191) 162 = some (.getfield 30, 3) := by decide +kernel
theorem at_191_165 : am_at (am_m 191) 165 = some (.getfield 194, 1794) := by decide +kernel
theorem at_191_168 : am_at (am_m 191) 168 = some (.iconst 0, 0) := by decide +kernel
theorem at_191_169 : am_at (am_m 191) 169 = some (.iaload, 0) := by decide +kernel
theorem at_191_170 : am_at (am_m 191) 170 = some (.iadd, 0) := by decide +kernel
theorem at_191_171 : am_at (am_m 191) 171 = some (.bipush 12, 0) := by decide +kernel
theorem at_191_173 : am_at (am_m 191) 173 = some (.if_icmp .gt 12, 185) := by decide +kernel
theorem at_191_176 : am_at (am_m 191) 176 = some (.aload_n 0, 0) := by decide +kernel
theorem at_191_177 : am_at (am_m 191) 177 = some (.iload 4, 0) := by decide +kernel
theorem at_191_179 : am_at (am_m 191) 179 = some (.invokevirtual 105, 169) := by decide +kernel
theorem at_191_182 : am_at (am_m 191) 182 = some (.ifCond .ne 11, 193) := by decide +kernel
theorem at_191_185 : am_at (am_m 191) 185 = some (.aload_n 0, 0) := by decide +kernel
theorem at_191_186 : am_at (am_m 191) 186 = some (.getfield 14, 0) := by decide +kernel
theorem at_191_189 : am_at (am_m 191) 189 = some (.aload_n 1, 0) := by decide +kernel
theorem at_191_190 : am_at (am_m 191) 190 = some (.invokevirtual 147, 60) := by decide +kernel
theorem at_191_193 : am_at (am_m 191) 193 = some (.return_, 0) := by decide +kernel
theorem at_192_0 : am_at (am_m 192) 0 = some (.aload_n 0, 0) := by decide +kernel
theorem at_192_1 : am_at (am_m 192) 1 = some (.invokevirtual 17, 193) := by decide +kernel
theorem at_192_4 : am_at (am_m 192) 4 = some (.lstore_n 2, 0) := by decide +kernel
theorem at_192_5 : am_at (am_m 192) 5 = some (.iload_n 1, 0) := by decide +kernel
theorem at_192_6 : am_at (am_m 192) 6 = some (.ifCond .le 11, 17) := by decide +kernel
theorem at_192_9 : am_at (am_m 192) 9 = some (.lload_n 2, 0) := by decide +kernel
theorem at_192_10 : am_at (am_m 192) 10 = some (.iload_n 1, 0) := by decide +kernel
theorem at_192_11 : am_at (am_m 192) 11 = some (.i2l, 0) := by decide +kernel
theorem at_192_12 : am_at (am_m 192) 12 = some (.lrem, 0) := by decide +kernel
theorem at_192_13 : am_at (am_m 192) 13 = some (.l2i, 0) := by decide +kernel
theorem at_192_14 : am_at (am_m 192) 14 = some (.goto 4, 18) := by decide +kernel
theorem at_192_17 : am_at (am_m 192) 17 = some (.iconst 0, 0) := by decide +kernel
theorem at_192_18 : am_at (am_m 192) 18 = some (.ireturn, 0) := by decide +kernel
theorem at_193_0 : am_at (am_m 193) 0 = some (.aload_n 0, 0) := by decide +kernel
theorem at_193_1 : am_at (am_m 193) 1 = some (.aload_n 0, 0) := by decide +kernel
theorem at_193_2 : am_at (am_m 193) 2 = some (.getfield 7, 2048) := by decide +kernel
theorem at_193_5 : am_at (am_m 193) 5 = some (.ldc2_w 13, 24) := by decide +kernel
theorem at_193_8 : am_at (am_m 193) 8 = some (.lmul, 0) := by decide +kernel
theorem at_193_9 : am_at (am_m 193) 9 = some (.ldc2_w 15, 25) := by decide +kernel
theorem at_193_12 : am_at (am_m 193) 12 = some (.ladd, 0) := by decide +kernel
theorem at_193_13 : am_at (am_m 193) 13 = some (.putfield 7, 2048) := by decide +kernel
theorem at_193_16 : am_at (am_m 193) 16 = some (.aload_n 0, 0) := by decide +kernel
theorem at_193_17 : am_at (am_m 193) 17 = some (.getfield 7, 2048) := by decide +kernel
theorem at_193_20 : am_at (am_m 193) 20 = some (.bipush 33, 0) := by decide +kernel
theorem at_193_22 : am_at (am_m 193) 22 = some (.lushr, 0) := by decide +kernel
theorem at_193_23 : am_at (am_m 193) 23 = some (.lreturn, 0) := by decide +kernel
theorem at_194_0 : am_at (am_m 194) 0 = some (.aload_n 0, 0) := by decide +kernel
theorem at_194_1 : am_at (am_m 194) 1 = some (.invokevirtual 17, 193) := by decide +kernel
theorem at_194_4 : am_at (am_m 194) 4 = some (.lstore_n 3, 0) := by decide +kernel
theorem at_194_5 : am_at (am_m 194) 5 = some (.aload_n 0, 0) := by decide +kernel
theorem at_194_6 : am_at (am_m 194) 6 = some (.invokevirtual 17, 193) := by decide +kernel
theorem at_194_9 : am_at (am_m 194) 9 = some (.lstore 5, 0) := by decide +kernel
theorem at_194_11 : am_at (am_m 194) 11 = some (.lload_n 1, 0) := by decide +kernel
theorem at_194_12 : am_at (am_m 194) 12 = some (.lconst 0, 0) := by decide +kernel
theorem at_194_13 : am_at (am_m 194) 13 = some (.lcmp, 0) := by decide +kernel
theorem at_194_14 : am_at (am_m 194) 14 = some (.ifCond .le 16, 30) := by decide +kernel
theorem at_194_17 : am_at (am_m 194) 17 = some (.ldc2_w 21, 26) := by decide +kernel
theorem at_194_20 : am_at (am_m 194) 20 = some (.lload_n 3, 0) := by decide +kernel
theorem at_194_21 : am_at (am_m 194) 21 = some (.lmul, 0) := by decide +kernel
theorem at_194_22 : am_at (am_m 194) 22 = some (.lload 5, 0) := by decide +kernel
theorem at_194_24 : am_at (am_m 194) 24 = some (.ladd, 0) := by decide +kernel
theorem at_194_25 : am_at (am_m 194) 25 = some (.lload_n 1, 0) := by decide +kernel
theorem at_194_26 : am_at (am_m 194) 26 = some (.lrem, 0) := by decide +kernel
theorem at_194_27 : am_at (am_m 194) 27 = some (.goto 4, 31) := by decide +kernel
theorem at_194_30 : am_at (am_m 194) 30 = some (.lconst 0, 0) := by decide +kernel
theorem at_194_31 : am_at (am_m 194) 31 = some (.lreturn, 0) := by decide +kernel
theorem at_195_0 : am_at (am_m 195) 0 = some (.aload_n 3, 0) := by decide +kernel
theorem at_195_1 : am_at (am_m 195) 1 = some (.iconst 0, 0) := by decide +kernel
theorem at_195_2 : am_at (am_m 195) 2 = some (.aload_n 0, 0) := by decide +kernel
theorem at_195_3 : am_at (am_m 195) 3 = some (.iload_n 1, 0) := by decide +kernel
theorem at_195_4 : am_at (am_m 195) 4 = some (.iload_n 2, 0) := by decide +kernel
theorem at_195_5 : am_at (am_m 195) 5 = some (.invokevirtual 99, 196) := by decide +kernel
theorem at_195_8 : am_at (am_m 195) 8 = some (.i2l, 0) := by decide +kernel
theorem at_195_9 : am_at (am_m 195) 9 = some (.lastore, 0) := by decide +kernel
theorem at_195_10 : am_at (am_m 195) 10 = some (.goto 7, 17) := by decide +kernel
theorem at_195_15 : am_at (am_m 195) 15 = some (.iconst 1, 0) := by decide +kernel
theorem at_195_16 : am_at (am_m 195) 16 = some (.ireturn, 0) := by decide +kernel
theorem at_195_17 : am_at (am_m 195) 17 = some (.iconst 0, 0) := by decide +kernel
theorem at_195_18 : am_at (am_m 195) 18 = some (.ireturn, 0) := by decide +kernel
theorem at_196_0 : am_at (am_m 196) 0 = some (.aload_n 0, 0) := by decide +kernel
theorem at_196_1 : am_at (am_m 196) 1 = some (.iload_n 1, 0) := by decide +kernel
theorem at_196_2 : am_at (am_m 196) 2 = some (.invokevirtual 132, 63) := by decide +kernel
theorem at_196_5 : am_at (am_m 196) 5 = some (.astore_n 3, 0) := by decide +kernel
theorem at_196_6 : am_at (am_m 196) 6 = some (.aload_n 0, 0) := by decide +kernel
theorem at_196_7 : am_at (am_m 196) 7 = some (.getfield 54, 2823) := by decide +kernel
theorem at_196_10 : am_at (am_m 196) 10 = some (.aload_n 3, 0) := by decide +kernel
theorem at_196_11 : am_at (am_m 196) 11 = some (.aload_n 0, 0) := by decide +kernel
theorem at_196_12 : am_at (am_m 196) 12 = some (.iload_n 2, 0) := by decide +kernel
theorem at_196_13 : am_at (am_m 196) 13 = some (.invokevirtual 132, 63) := by decide +kernel
theorem at_196_16 : am_at (am_m 196) 16 = some (.iconst 0, 0) := by decide +kernel
theorem at_196_17 : am_at (am_m 196) 17 = some (.invokevirtual 307, 159) := by decide +kernel
theorem at_196_20 : am_at (am_m 196) 20 = some (.pop, 0) := by decide +kernel
theorem at_196_21 : am_at (am_m 196) 21 = some (.aload_n 0, 0) := by decide +kernel
theorem at_196_22 : am_at (am_m 196) 22 = some (.getfield 54, 2823) := by decide +kernel
theorem at_196_25 : am_at (am_m 196) 25 = some (.invokevirtual 311, 162) := by decide +kernel
theorem at_196_28 : am_at (am_m 196) 28 = some (.ireturn, 0) := by decide +kernel
theorem at_197_0 : am_at (am_m 197) 0 = some (.aload 5, 0) := by decide +kernel
theorem at_197_2 : am_at (am_m 197) 2 = some (.iconst 0, 0) := by decide +kernel
theorem at_197_3 : am_at (am_m 197) 3 = some (.aload_n 0, 0) := by decide +kernel
theorem at_197_4 : am_at (am_m 197) 4 = some (.iload_n 1, 0) := by decide +kernel
theorem at_197_5 : am_at (am_m 197) 5 = some (.iload_n 2, 0) := by decide +kernel
theorem at_197_6 : am_at (am_m 197) 6 = some (.lload_n 3, 0) := by decide +kernel
theorem at_197_7 : am_at (am_m 197) 7 = some (.invokevirtual 102, 198) := by decide +kernel
theorem at_197_10 : am_at (am_m 197) 10 = some (.i2l, 0) := by decide +kernel
theorem at_197_11 : am_at (am_m 197) 11 = some (.lastore, 0) := by decide +kernel
theorem at_197_12 : am_at (am_m 197) 12 = some (.goto 15, 27) := by decide +kernel
theorem at_197_17 : am_at (am_m 197) 17 = some (.iconst 1, 0) := by decide +kernel
theorem at_197_18 : am_at (am_m 197) 18 = some (.ireturn, 0) := by decide +kernel
theorem at_197_21 : am_at (am_m 197) 21 = some (.iconst 2, 0) := by decide +kernel
theorem at_197_22 : am_at (am_m 197) 22 = some (.ireturn, 0) := by decide +kernel
theorem at_197_25 : am_at (am_m 197) 25 = some (.iconst 3, 0) := by decide +kernel
theorem at_197_26 : am_at (am_m 197) 26 = some (.ireturn, 0) := by decide +kernel
theorem at_197_27 : am_at (am_m 197) 27 = some (.iconst 0, 0) := by decide +kernel
theorem at_197_28 : am_at (am_m 197) 28 = some (.ireturn, 0) := by decide +kernel
theorem at_198_0 : am_at (am_m 198) 0 = some (.aload_n 0, 0) := by decide +kernel
theorem at_198_1 : am_at (am_m 198) 1 = some (.iload_n 1, 0) := by decide +kernel
theorem at_198_2 : am_at (am_m 198) 2 = some (.invokevirtual 132, 63) := by decide +kernel
theorem at_198_5 : am_at (am_m 198) 5 = some (.astore 5, 0) := by decide +kernel
theorem at_198_7 : am_at (am_m 198) 7 = some (.aload 5, 0) := by decide +kernel
theorem at_198_9 : am_at (am_m 198) 9 = some (.getfield 144, 769) := by decide +kernel
theorem at_198_12 : am_at (am_m 198) 12 = some (.aload_n 0, 0) := by decide +kernel
theorem at_198_13 : am_at (am_m 198) 13 = some (.iload_n 2, 0) := by decide +kernel
theorem at_198_14 : am_at (am_m 198) 14 = some (.invokevirtual 132, 63) := by decide +kernel
theorem at_198_17 : am_at (am_m 198) 17 = some (.getfield 144, 769) := by decide +kernel
theorem at_198_20 : am_at (am_m 198) 20 = some (.if_icmp .eq 14, 34) := by decide +kernel
theorem at_198_23 : am_at (am_m 198) 23 = some (.new 114, 100) := by decide +kernel
theorem at_198_34 : am_at (am_m 198) 34 = some (.aload_n 0, 0) := by decide +kernel
theorem at_198_35 : am_at (am_m 198) 35 = some (.iconst 1, 0) := by decide +kernel
theorem at_198_36 : am_at (am_m 198) 36 = some (.invokevirtual 121, 32) := by decide +kernel
theorem at_198_39 : am_at (am_m 198) 39 = some (.aload_n 0, 0) := by decide +kernel
theorem at_198_40 : am_at (am_m 198) 40 = some (.iload_n 1, 0) := by decide +kernel
theorem at_198_41 : am_at (am_m 198) 41 = some (.iload_n 2, 0) := by decide +kernel
theorem at_198_42 : am_at (am_m 198) 42 = some (.iconst (-1), 0) := by decide +kernel
theorem at_198_43 : am_at (am_m 198) 43 = some (.lload_n 3, 0) := by decide +kernel
theorem at_198_44 : am_at (am_m 198) 44 = some (.invokevirtual 324, 190) := by decide +kernel
theorem at_198_47 : am_at (am_m 198) 47 = some (.ireturn, 0) := by decide +kernel
theorem at_199_0 : am_at (am_m 199) 0 = some (.aload 7, 0) := by decide +kernel
theorem at_199_2 : am_at (am_m 199) 2 = some (.iconst 0, 0) := by decide +kernel
theorem at_199_3 : am_at (am_m 199) 3 = some (.aload_n 0, 0) := by decide +kernel
theorem at_199_4 : am_at (am_m 199) 4 = some (.iload_n 1, 0) := by decide +kernel
theorem at_199_5 : am_at (am_m 199) 5 = some (.iload_n 2, 0) := by decide +kernel
theorem at_199_6 : am_at (am_m 199) 6 = some (.iload_n 3, 0) := by decide +kernel
theorem at_199_7 : am_at (am_m 199) 7 = some (.iload 4, 0) := by decide +kernel
theorem at_199_9 : am_at (am_m 199) 9 = some (.lload 5, 0) := by decide +kernel
theorem at_199_11 : am_at (am_m 199) 11 = some (.invokevirtual 105, 200) := by decide +kernel
theorem at_199_14 : am_at (am_m 199) 14 = some (.i2l, 0) := by decide +kernel
theorem at_199_15 : am_at (am_m 199) 15 = some (.lastore, 0) := by decide +kernel
theorem at_199_16 : am_at (am_m 199) 16 = some (.goto 15, 31) := by decide +kernel
theorem at_199_21 : am_at (am_m 199) 21 = some (.iconst 1, 0) := by decide +kernel
theorem at_199_22 : am_at (am_m 199) 22 = some (.ireturn, 0) := by decide +kernel
theorem at_199_25 : am_at (am_m 199) 25 = some (.iconst 2, 0) := by decide +kernel
theorem at_199_26 : am_at (am_m 199) 26 = some (.ireturn, 0) := by decide +kernel
theorem at_199_29 : am_at (am_m 199) 29 = some (.iconst 3, 0) := by decide +kernel
theorem at_199_30 : am_at (am_m 199) 30 = some (.ireturn, 0) := by decide +kernel
theorem at_199_31 : am_at (am_m 199) 31 = some (.iconst 0, 0) := by decide +kernel
theorem at_199_32 : am_at (am_m 199) 32 = some (.ireturn, 0) := by decide +kernel
theorem at_200_0 : am_at (am_m 200) 0 = some (.aload_n 0, 0) := by decide +kernel
theorem at_200_1 : am_at (am_m 200) 1 = some (.iload_n 1, 0) := by decide +kernel
theorem at_200_2 : am_at (am_m 200) 2 = some (.invokevirtual 330, 201) := by decide +kernel
theorem at_200_5 : am_at (am_m 200) 5 = some (.astore 7, 0) := by decide +kernel
theorem at_200_7 : am_at (am_m 200) 7 = some (.iload_n 2, 0) := by decide +kernel
theorem at_200_8 : am_at (am_m 200) 8 = some (.iconst 3, 0) := by decide +kernel
theorem at_200_9 : am_at (am_m 200) 9 = some (.if_icmp .ne 7, 16) := by decide +kernel
theorem at_200_12 : am_at (am_m 200) 12 = some (.iconst 2, 0) := by decide +kernel
theorem at_200_13 : am_at (am_m 200) 13 = some (.goto 4, 17) := by decide +kernel
theorem at_200_16 : am_at (am_m 200) 16 = some (.iconst 1, 0) := by decide +kernel
theorem at_200_17 : am_at (am_m 200) 17 = some (.istore 8, 0) := by decide +kernel
theorem at_200_19 : am_at (am_m 200) 19 = some (.iload_n 2, 0) := by decide +kernel
theorem at_200_20 : am_at (am_m 200) 20 = some (.iconst 2, 0) := by decide +kernel
theorem at_200_21 : am_at (am_m 200) 21 = some (.if_icmp .ne 8, 29) := by decide +kernel
theorem at_200_24 : am_at (am_m 200) 24 = some (.bipush 6, 0) := by decide +kernel
theorem at_200_26 : am_at (am_m 200) 26 = some (.goto 15, 41) := by decide +kernel
theorem at_200_29 : am_at (am_m 200) 29 = some (.iload_n 2, 0) := by decide +kernel
theorem at_200_30 : am_at (am_m 200) 30 = some (.iconst 3, 0) := by decide +kernel
theorem at_200_31 : am_at (am_m 200) 31 = some (.if_icmp .ne 8, 39) := by decide +kernel
theorem at_200_34 : am_at (am_m 200) 34 = some (.bipush 8, 0) := by decide +kernel
theorem at_200_36 : am_at (am_m 200) 36 = some (.goto 5, 41) := by decide +kernel
theorem at_200_39 : am_at (am_m 200) 39 = some (.bipush 9, 0) := by decide +kernel
theorem at_200_41 : am_at (am_m 200) 41 = some (.istore 9, 0) := by decide +kernel
theorem at_200_43 : am_at (am_m 200) 43 = some (.iload_n 2, 0) := by decide +kernel
theorem at_200_44 : am_at (am_m 200) 44 = some (.ifCond .lt 33, 77) := by decide +kernel
theorem at_200_47 : am_at (am_m 200) 47 = some (.iload_n 2, 0) := by decide +kernel
theorem at_200_48 : am_at (am_m 200) 48 = some (.iconst 3, 0) := by decide +kernel
theorem at_200_49 : am_at (am_m 200) 49 = some (.if_icmp .gt 28, 77) := by decide +kernel
theorem at_200_52 : am_at (am_m 200) 52 = some (.iload_n 3, 0) := by decide +kernel
theorem at_200_53 : am_at (am_m 200) 53 = some (.iconst 1, 0) := by decide +kernel
theorem at_200_54 : am_at (am_m 200) 54 = some (.if_icmp .lt 23, 77) := by decide +kernel
theorem at_200_57 : am_at (am_m 200) 57 = some (.iload_n 3, 0) := by decide +kernel
theorem at_200_58 : am_at (am_m 200) 58 = some (.bipush 16, 0) := by decide +kernel
theorem at_200_60 : am_at (am_m 200) 60 = some (.if_icmp .gt 17, 77) := by decide +kernel
theorem at_200_63 : am_at (am_m 200) 63 = some (.iload 4, 0) := by decide +kernel
theorem at_200_65 : am_at (am_m 200) 65 = some (.iload 8, 0) := by decide +kernel
theorem at_200_67 : am_at (am_m 200) 67 = some (.if_icmp .lt 10, 77) := by decide +kernel
theorem at_200_70 : am_at (am_m 200) 70 = some (.iload 4, 0) := by decide +kernel
theorem at_200_72 : am_at (am_m 200) 72 = some (.iload 9, 0) := by decide +kernel
theorem at_200_74 : am_at (am_m 200) 74 = some (.if_icmp .le 14, 88) := by decide +kernel
theorem at_200_77 : am_at (am_m 200) 77 = some (.new 114, 100) := by decide +kernel
theorem at_200_88 : am_at (am_m 200) 88 = some (.aload_n 0, 0) := by decide +kernel
theorem at_200_89 : am_at (am_m 200) 89 = some (.iload_n 3, 0) := by decide +kernel
theorem at_200_90 : am_at (am_m 200) 90 = some (.invokevirtual 121, 32) := by decide +kernel
theorem at_200_93 : am_at (am_m 200) 93 = some (.aload_n 0, 0) := by decide +kernel
theorem at_200_94 : am_at (am_m 200) 94 = some (.getfield 15, 2817) := by decide +kernel
theorem at_200_97 : am_at (am_m 200) 97 = some (.istore 10, 0) := by decide +kernel
theorem at_200_99 : am_at (am_m 200) 99 = some (.aload 7, 0) := by decide +kernel
theorem at_200_101 : am_at (am_m 200) 101 = some (.getfield 336, 258) := by decide +kernel
theorem at_200_104 : am_at (am_m 200) 104 = some (.lload 5, 0) := by decide +kernel
theorem at_200_106 : am_at (am_m 200) 106 = some (.putfield 339, 2048) := by decide +kernel
theorem at_200_109 : am_at (am_m 200) 109 = some (.aload 7, 0) := by decide +kernel
theorem at_200_111 : am_at (am_m 200) 111 = some (.iload_n 3, 0) := by decide +kernel
theorem at_200_112 : am_at (am_m 200) 112 = some (.putfield 342, 256) := by decide +kernel
theorem at_200_115 : am_at (am_m 200) 115 = some (.iconst 0, 0) := by decide +kernel
theorem at_200_116 : am_at (am_m 200) 116 = some (.istore 11, 0) := by decide +kernel
theorem at_200_118 : am_at (am_m 200) 118 = some (.iload 11, 0) := by decide +kernel
theorem at_200_120 : am_at (am_m 200) 120 = some (.iload_n 3, 0) := by decide +kernel
theorem at_200_121 : am_at (am_m 200) 121 = some (.if_icmp .ge 43, 164) := by decide +kernel
theorem at_200_124 : am_at (am_m 200) 124 = some (.aload_n 0, 0) := by decide +kernel
theorem at_200_125 : am_at (am_m 200) 125 = some (.aload 7, 0) := by decide +kernel
theorem at_200_127 : am_at (am_m 200) 127 = some (.getfield 336, 258) := by decide +kernel
theorem at_200_130 : am_at (am_m 200) 130 = some (.iload_n 2, 0) := by decide +kernel
theorem at_200_131 : am_at (am_m 200) 131 = some (.iload 4, 0) := by decide +kernel
theorem at_200_133 : am_at (am_m 200) 133 = some (.invokevirtual 343, 202) := by decide +kernel
theorem at_200_136 : am_at (am_m 200) 136 = some (.aload 7, 0) := by decide +kernel
theorem at_200_138 : am_at (am_m 200) 138 = some (.getfield 347, 257) := by decide +kernel
theorem at_200_141 : am_at (am_m 200) 141 = some (.iload 11, 0) := by decide +kernel
theorem at_200_143 : am_at (am_m 200) 143 = some (.aload_n 0, 0) := by decide +kernel
theorem at_200_144 : am_at (am_m 200) 144 = some (.aload_n 0, 0) := by decide +kernel
theorem at_200_145 : am_at (am_m 200) 145 = some (.getfield 90, 2831) := by decide +kernel
theorem at_200_148 : am_at (am_m 200) 148 = some (.iconst 2, 0) := by decide +kernel
theorem at_200_149 : am_at (am_m 200) 149 = some (.iconst (-1), 0) := by decide +kernel
theorem at_200_150 : am_at (am_m 200) 150 = some (.iconst (-1), 0) := by decide +kernel
theorem at_200_151 : am_at (am_m 200) 151 = some (.iconst (-1), 0) := by decide +kernel
theorem at_200_152 : am_at (am_m 200) 152 = some (.iconst (-1), 0) := by decide +kernel
theorem at_200_153 : am_at (am_m 200) 153 = some (.lconst 0, 0) := by decide +kernel
theorem at_200_154 : am_at (am_m 200) 154 = some (.invokevirtual 128, 59) := by decide +kernel
theorem at_200_157 : am_at (am_m 200) 157 = some (.iastore, 0) := by decide +kernel
theorem at_200_158 : am_at (am_m 200) 158 = some (.iinc 11 1, 0) := by decide +kernel
theorem at_200_161 : am_at (am_m 200) 161 = some (.goto (-43), 118) := by decide +kernel
theorem at_200_164 : am_at (am_m 200) 164 = some (.iload 10, 0) := by decide +kernel
theorem at_200_166 : am_at (am_m 200) 166 = some (.ireturn, 0) := by decide +kernel
theorem at_201_0 : am_at (am_m 201) 0 = some (.iload_n 1, 0) := by decide +kernel
theorem at_201_1 : am_at (am_m 201) 1 = some (.ifCond .lt 12, 13) := by decide +kernel
theorem at_201_4 : am_at (am_m 201) 4 = some (.iload_n 1, 0) := by decide +kernel
theorem at_201_5 : am_at (am_m 201) 5 = some (.aload_n 0, 0) := by decide +kernel
theorem at_201_6 : am_at (am_m 201) 6 = some (.getfield 40, 2821) := by decide +kernel
theorem at_201_9 : am_at (am_m 201) 9 = some (.arraylength, 0) := by decide +kernel
theorem at_201_10 : am_at (am_m 201) 10 = some (.if_icmp .lt 14, 24) := by decide +kernel
theorem at_201_13 : am_at (am_m 201) 13 = some (.new 177, 102) := by decide +kernel
theorem at_201_24 : am_at (am_m 201) 24 = some (.aload_n 0, 0) := by decide +kernel
theorem at_201_25 : am_at (am_m 201) 25 = some (.getfield 40, 2821) := by decide +kernel
theorem at_201_28 : am_at (am_m 201) 28 = some (.iload_n 1, 0) := by decide +kernel
theorem at_201_29 : am_at (am_m 201) 29 = some (.aaload, 0) := by decide +kernel
theorem at_201_30 : am_at (am_m 201) 30 = some (.areturn, 0) := by decide +kernel
theorem at_202_0 : am_at (am_m 202) 0 = some (.iload_n 2, 0) := by decide +kernel
theorem at_202_1 : am_at (am_m 202) 1 = some (.iconst 2, 0) := by decide +kernel
theorem at_202_2 : am_at (am_m 202) 2 = some (.if_icmp .ne 12, 14) := by decide +kernel
theorem at_202_5 : am_at (am_m 202) 5 = some (.aload_n 0, 0) := by decide +kernel
theorem at_202_6 : am_at (am_m 202) 6 = some (.aload_n 1, 0) := by decide +kernel
theorem at_202_7 : am_at (am_m 202) 7 = some (.iload_n 3, 0) := by decide +kernel
theorem at_202_8 : am_at (am_m 202) 8 = some (.invokevirtual 513, 203) := by decide +kernel
theorem at_202_11 : am_at (am_m 202) 11 = some (.goto 100, 111) := by decide +kernel
theorem at_202_14 : am_at (am_m 202) 14 = some (.iload_n 2, 0) := by decide +kernel
theorem at_202_15 : am_at (am_m 202) 15 = some (.iconst 3, 0) := by decide +kernel
theorem at_202_16 : am_at (am_m 202) 16 = some (.if_icmp .ne 12, 28) := by decide +kernel
theorem at_202_19 : am_at (am_m 202) 19 = some (.aload_n 0, 0) := by decide +kernel
theorem at_202_20 : am_at (am_m 202) 20 = some (.aload_n 1, 0) := by decide +kernel
theorem at_202_21 : am_at (am_m 202) 21 = some (.iload_n 3, 0) := by decide +kernel
theorem at_202_22 : am_at (am_m 202) 22 = some (.invokevirtual 517, 204) := by decide +kernel
theorem at_202_25 : am_at (am_m 202) 25 = some (.goto 86, 111) := by decide +kernel
theorem at_202_28 : am_at (am_m 202) 28 = some (.iload_n 2, 0) := by decide +kernel
theorem at_202_29 : am_at (am_m 202) 29 = some (.ifCond .ne 10, 39) := by decide +kernel
theorem at_202_32 : am_at (am_m 202) 32 = some (.aload_n 0, 0) := by decide +kernel
theorem at_202_33 : am_at (am_m 202) 33 = some (.getfield 90, 2831) := by decide +kernel
theorem at_202_36 : am_at (am_m 202) 36 = some (.goto 7, 43) := by decide +kernel
theorem at_202_39 : am_at (am_m 202) 39 = some (.aload_n 0, 0) := by decide +kernel
theorem at_202_40 : am_at (am_m 202) 40 = some (.getfield 94, 2832) := by decide +kernel
theorem at_202_43 : am_at (am_m 202) 43 = some (.astore 4, 0) := by decide +kernel
theorem at_202_45 : am_at (am_m 202) 45 = some (.aload_n 0, 0) := by decide +kernel
theorem at_202_46 : am_at (am_m 202) 46 = some (.getfield 47, 2822) := by decide +kernel
theorem at_202_49 : am_at (am_m 202) 49 = some (.iconst 0, 0) := by decide +kernel
theorem at_202_50 : am_at (am_m 202) 50 = some (.iload_n 3, 0) := by decide +kernel
theorem at_202_51 : am_at (am_m 202) 51 = some (.aload_n 1, 0) := by decide +kernel
theorem at_202_52 : am_at (am_m 202) 52 = some (.aload_n 0, 0) := by decide +kernel
theorem at_202_53 : am_at (am_m 202) 53 = some (.getfield 47, 2822) := by decide +kernel
theorem at_202_56 : am_at (am_m 202) 56 = some (.iconst 0, 0) := by decide +kernel
theorem at_202_57 : am_at (am_m 202) 57 = some (.iload_n 3, 0) := by decide +kernel
theorem at_202_58 : am_at (am_m 202) 58 = some (.invokevirtual 192, 15) := by decide +kernel
theorem at_202_61 : am_at (am_m 202) 61 = some (.invokevirtual 520, 194) := by decide +kernel
theorem at_202_64 : am_at (am_m 202) 64 = some (.aload 4, 0) := by decide +kernel
theorem at_202_66 : am_at (am_m 202) 66 = some (.invokevirtual 198, 91) := by decide +kernel
theorem at_202_69 : am_at (am_m 202) 69 = some (.iload_n 2, 0) := by decide +kernel
theorem at_202_70 : am_at (am_m 202) 70 = some (.iconst 1, 0) := by decide +kernel
theorem at_202_71 : am_at (am_m 202) 71 = some (.if_icmp .ne 40, 111) := by decide +kernel
theorem at_202_74 : am_at (am_m 202) 74 = some (.aload_n 0, 0) := by decide +kernel
theorem at_202_75 : am_at (am_m 202) 75 = some (.getfield 68, 2825) := by decide +kernel
theorem at_202_78 : am_at (am_m 202) 78 = some (.aload_n 0, 0) := by decide +kernel
theorem at_202_79 : am_at (am_m 202) 79 = some (.getfield 94, 2832) := by decide +kernel
theorem at_202_82 : am_at (am_m 202) 82 = some (.aload_n 0, 0) := by decide +kernel
theorem at_202_83 : am_at (am_m 202) 83 = some (.getfield 90, 2831) := by decide +kernel
theorem at_202_86 : am_at (am_m 202) 86 = some (.invokevirtual 465, 205) := by decide +kernel
theorem at_202_89 : am_at (am_m 202) 89 = some (.ifCond .ne 22, 111) := by decide +kernel
theorem at_202_92 : am_at (am_m 202) 92 = some (.aload_n 0, 0) := by decide +kernel
theorem at_202_93 : am_at (am_m 202) 93 = some (.getfield 90, 2831) := by decide +kernel
theorem at_202_96 : am_at (am_m 202) 96 = some (.iconst 1, 0) := by decide +kernel
theorem at_202_97 : am_at (am_m 202) 97 = some (.iconst 0, 0) := by decide +kernel
theorem at_202_98 : am_at (am_m 202) 98 = some (.invokevirtual 524, 34) := by decide +kernel
theorem at_202_101 : am_at (am_m 202) 101 = some (.aload_n 0, 0) := by decide +kernel
theorem at_202_102 : am_at (am_m 202) 102 = some (.getfield 90, 2831) := by decide +kernel
theorem at_202_105 : am_at (am_m 202) 105 = some (.iconst 0, 0) := by decide +kernel
theorem at_202_106 : am_at (am_m 202) 106 = some (.iconst 0, 0) := by decide +kernel
theorem at_202_107 : am_at (am_m 202) 107 = some (.invokevirtual 527, 41) := by decide +kernel
theorem at_202_110 : am_at (am_m 202) 110 = some (.pop, 0) := by decide +kernel
theorem at_202_111 : am_at (am_m 202) 111 = some (.return_, 0) := by decide +kernel
theorem at_203_0 : am_at (am_m 203) 0 = some (.aload_n 0, 0) := by decide +kernel
theorem at_203_1 : am_at (am_m 203) 1 = some (.getfield 90, 2831) := by decide +kernel
theorem at_203_4 : am_at (am_m 203) 4 = some (.iconst 2, 0) := by decide +kernel
theorem at_203_5 : am_at (am_m 203) 5 = some (.iconst 0, 0) := by decide +kernel
theorem at_203_6 : am_at (am_m 203) 6 = some (.invokevirtual 524, 34) := by decide +kernel
theorem at_203_9 : am_at (am_m 203) 9 = some (.iconst 0, 0) := by decide +kernel
theorem at_203_10 : am_at (am_m 203) 10 = some (.istore_n 3, 0) := by decide +kernel
theorem at_203_11 : am_at (am_m 203) 11 = some (.iload_n 3, 0) := by decide +kernel
theorem at_203_12 : am_at (am_m 203) 12 = some (.iload_n 2, 0) := by decide +kernel
theorem at_203_13 : am_at (am_m 203) 13 = some (.if_icmp .ge 60, 73) := by decide +kernel
theorem at_203_16 : am_at (am_m 203) 16 = some (.aload_n 0, 0) := by decide +kernel
theorem at_203_17 : am_at (am_m 203) 17 = some (.getfield 90, 2831) := by decide +kernel
theorem at_203_20 : am_at (am_m 203) 20 = some (.aload_n 1, 0) := by decide +kernel
theorem at_203_21 : am_at (am_m 203) 21 = some (.bipush 10, 0) := by decide +kernel
theorem at_203_23 : am_at (am_m 203) 23 = some (.invokevirtual 510, 192) := by decide +kernel
theorem at_203_26 : am_at (am_m 203) 26 = some (.aload_n 1, 0) := by decide +kernel
theorem at_203_27 : am_at (am_m 203) 27 = some (.iload_n 2, 0) := by decide +kernel
theorem at_203_28 : am_at (am_m 203) 28 = some (.invokevirtual 510, 192) := by decide +kernel
theorem at_203_31 : am_at (am_m 203) 31 = some (.invokevirtual 527, 41) := by decide +kernel
theorem at_203_34 : am_at (am_m 203) 34 = some (.pop, 0) := by decide +kernel
theorem at_203_35 : am_at (am_m 203) 35 = some (.iconst 1, 0) := by decide +kernel
theorem at_203_36 : am_at (am_m 203) 36 = some (.istore 4, 0) := by decide +kernel
theorem at_203_38 : am_at (am_m 203) 38 = some (.iload 4, 0) := by decide +kernel
theorem at_203_40 : am_at (am_m 203) 40 = some (.iconst 4, 0) := by decide +kernel
theorem at_203_41 : am_at (am_m 203) 41 = some (.if_icmp .ge 26, 67) := by decide +kernel
theorem at_203_44 : am_at (am_m 203) 44 = some (.aload_n 0, 0) := by decide +kernel
theorem at_203_45 : am_at (am_m 203) 45 = some (.getfield 90, 2831) := by decide +kernel
theorem at_203_48 : am_at (am_m 203) 48 = some (.iload_n 3, 0) := by decide +kernel
theorem at_203_49 : am_at (am_m 203) 49 = some (.iconst 1, 0) := by decide +kernel
theorem at_203_50 : am_at (am_m 203) 50 = some (.iload 4, 0) := by decide +kernel
theorem at_203_52 : am_at (am_m 203) 52 = some (.iadd, 0) := by decide +kernel
theorem at_203_53 : am_at (am_m 203) 53 = some (.aload_n 1, 0) := by decide +kernel
theorem at_203_54 : am_at (am_m 203) 54 = some (.iload_n 2, 0) := by decide +kernel
theorem at_203_55 : am_at (am_m 203) 55 = some (.invokevirtual 510, 192) := by decide +kernel
theorem at_203_58 : am_at (am_m 203) 58 = some (.invokevirtual 531, 51) := by decide +kernel
theorem at_203_61 : am_at (am_m 203) 61 = some (.iinc 4 1, 0) := by decide +kernel
theorem at_203_64 : am_at (am_m 203) 64 = some (.goto (-26), 38) := by decide +kernel
theorem at_203_67 : am_at (am_m 203) 67 = some (.iinc 3 1, 0) := by decide +kernel
theorem at_203_70 : am_at (am_m 203) 70 = some (.goto (-59), 11) := by decide +kernel
theorem at_203_73 : am_at (am_m 203) 73 = some (.return_, 0) := by decide +kernel
theorem at_204_0 : am_at (am_m 204) 0 = some (.aload_n 0, 0) := by decide +kernel
theorem at_204_1 : am_at (am_m 204) 1 = some (.getfield 90, 2831) := by decide +kernel
theorem at_204_4 : am_at (am_m 204) 4 = some (.iconst 3, 0) := by decide +kernel
theorem at_204_5 : am_at (am_m 204) 5 = some (.iload_n 2, 0) := by decide +kernel
theorem at_204_6 : am_at (am_m 204) 6 = some (.invokevirtual 524, 34) := by decide +kernel
theorem at_204_9 : am_at (am_m 204) 9 = some (.iconst 0, 0) := by decide +kernel
theorem at_204_10 : am_at (am_m 204) 10 = some (.istore_n 3, 0) := by decide +kernel
theorem at_204_11 : am_at (am_m 204) 11 = some (.iload_n 3, 0) := by decide +kernel
theorem at_204_12 : am_at (am_m 204) 12 = some (.iconst 2, 0) := by decide +kernel
theorem at_204_13 : am_at (am_m 204) 13 = some (.iload_n 2, 0) := by decide +kernel
theorem at_204_14 : am_at (am_m 204) 14 = some (.imul, 0) := by decide +kernel
theorem at_204_15 : am_at (am_m 204) 15 = some (.if_icmp .ge 43, 58) := by decide +kernel
theorem at_204_18 : am_at (am_m 204) 18 = some (.aload_n 1, 0) := by decide +kernel
theorem at_204_19 : am_at (am_m 204) 19 = some (.iload_n 2, 0) := by decide +kernel
theorem at_204_20 : am_at (am_m 204) 20 = some (.iconst 1, 0) := by decide +kernel
theorem at_204_21 : am_at (am_m 204) 21 = some (.isub, 0) := by decide +kernel
theorem at_204_22 : am_at (am_m 204) 22 = some (.invokevirtual 510, 192) := by decide +kernel
theorem at_204_25 : am_at (am_m 204) 25 = some (.istore 4, 0) := by decide +kernel
theorem at_204_27 : am_at (am_m 204) 27 = some (.aload_n 0, 0) := by decide +kernel
theorem at_204_28 : am_at (am_m 204) 28 = some (.getfield 90, 2831) := by decide +kernel
theorem at_204_31 : am_at (am_m 204) 31 = some (.iload 4, 0) := by decide +kernel
theorem at_204_33 : am_at (am_m 204) 33 = some (.iload 4, 0) := by decide +kernel
theorem at_204_35 : am_at (am_m 204) 35 = some (.iconst 1, 0) := by decide +kernel
theorem at_204_36 : am_at (am_m 204) 36 = some (.iadd, 0) := by decide +kernel
theorem at_204_37 : am_at (am_m 204) 37 = some (.aload_n 1, 0) := by decide +kernel
theorem at_204_38 : am_at (am_m 204) 38 = some (.iload_n 2, 0) := by decide +kernel
theorem at_204_39 : am_at (am_m 204) 39 = some (.iconst 1, 0) := by decide +kernel
theorem at_204_40 : am_at (am_m 204) 40 = some (.isub, 0) := by decide +kernel
theorem at_204_41 : am_at (am_m 204) 41 = some (.iload 4, 0) := by decide +kernel
theorem at_204_43 : am_at (am_m 204) 43 = some (.isub, 0) := by decide +kernel
theorem at_204_44 : am_at (am_m 204) 44 = some (.invokevirtual 510, 192) := by decide +kernel
theorem at_204_47 : am_at (am_m 204) 47 = some (.iadd, 0) := by decide +kernel
theorem at_204_48 : am_at (am_m 204) 48 = some (.invokevirtual 527, 41) := by decide +kernel
theorem at_204_51 : am_at (am_m 204) 51 = some (.pop, 0) := by decide +kernel
theorem at_204_52 : am_at (am_m 204) 52 = some (.iinc 3 1, 0) := by decide +kernel
theorem at_204_55 : am_at (am_m 204) 55 = some (.goto (-44), 11) := by decide +kernel
theorem at_204_58 : am_at (am_m 204) 58 = some (.return_, 0) := by decide +kernel
theorem at_205_0 : am_at (am_m 205) 0 = some (.aload_n 0, 0) := by decide +kernel
theorem at_205_1 : am_at (am_m 205) 1 = some (.aload_n 1, 0) := by decide +kernel
theorem at_205_2 : am_at (am_m 205) 2 = some (.putfield 35, 2564) := by decide +kernel
theorem at_205_5 : am_at (am_m 205) 5 = some (.aload_n 0, 0) := by decide +kernel
theorem at_205_6 : am_at (am_m 205) 6 = some (.aload_n 2, 0) := by decide +kernel
theorem at_205_7 : am_at (am_m 205) 7 = some (.putfield 38, 2565) := by decide +kernel
theorem at_205_10 : am_at (am_m 205) 10 = some (.aload_n 0, 0) := by decide +kernel
theorem at_205_11 : am_at (am_m 205) 11 = some (.getfield 12, 2560) := by decide +kernel
theorem at_205_14 : am_at (am_m 205) 14 = some (.aload_n 1, 0) := by decide +kernel
theorem at_205_15 : am_at (am_m 205) 15 = some (.invokevirtual 68, 77) := by decide +kernel
theorem at_205_18 : am_at (am_m 205) 18 = some (.aload_n 2, 0) := by decide +kernel
theorem at_205_19 : am_at (am_m 205) 19 = some (.iconst 1, 0) := by decide +kernel
theorem at_205_20 : am_at (am_m 205) 20 = some (.iconst 0, 0) := by decide +kernel
theorem at_205_21 : am_at (am_m 205) 21 = some (.invokevirtual 71, 34) := by decide +kernel
theorem at_205_24 : am_at (am_m 205) 24 = some (.aload_n 0, 0) := by decide +kernel
theorem at_205_25 : am_at (am_m 205) 25 = some (.iconst 0, 0) := by decide +kernel
theorem at_205_26 : am_at (am_m 205) 26 = some (.iconst 1, 0) := by decide +kernel
theorem at_205_27 : am_at (am_m 205) 27 = some (.invokevirtual 75, 206) := by decide +kernel
theorem at_205_30 : am_at (am_m 205) 30 = some (.ifCond .eq 18, 48) := by decide +kernel
theorem at_205_33 : am_at (am_m 205) 33 = some (.aload_n 0, 0) := by decide +kernel
theorem at_205_34 : am_at (am_m 205) 34 = some (.getfield 12, 2560) := by decide +kernel
theorem at_205_37 : am_at (am_m 205) 37 = some (.aload_n 2, 0) := by decide +kernel
theorem at_205_38 : am_at (am_m 205) 38 = some (.invokevirtual 79, 52) := by decide +kernel
theorem at_205_41 : am_at (am_m 205) 41 = some (.ifCond .ge 7, 48) := by decide +kernel
theorem at_205_44 : am_at (am_m 205) 44 = some (.iconst 1, 0) := by decide +kernel
theorem at_205_45 : am_at (am_m 205) 45 = some (.goto 4, 49) := by decide +kernel
theorem at_205_48 : am_at (am_m 205) 48 = some (.iconst 0, 0) := by decide +kernel
theorem at_205_49 : am_at (am_m 205) 49 = some (.ireturn, 0) := by decide +kernel
theorem at_206_0 : am_at (am_m 206) 0 = some (.aload_n 0, 0) := by decide +kernel
theorem at_206_1 : am_at (am_m 206) 1 = some (.getfield 35, 2564) := by decide +kernel
theorem at_206_4 : am_at (am_m 206) 4 = some (.iload_n 1, 0) := by decide +kernel
theorem at_206_5 : am_at (am_m 206) 5 = some (.iconst 0, 0) := by decide +kernel
theorem at_206_6 : am_at (am_m 206) 6 = some (.invokevirtual 83, 54) := by decide +kernel
theorem at_206_9 : am_at (am_m 206) 9 = some (.istore_n 3, 0) := by decide +kernel
theorem at_206_10 : am_at (am_m 206) 10 = some (.iload_n 2, 0) := by decide +kernel
theorem at_206_11 : am_at (am_m 206) 11 = some (.bipush 12, 0) := by decide +kernel
theorem at_206_13 : am_at (am_m 206) 13 = some (.if_icmp .gt 20, 33) := by decide +kernel
theorem at_206_16 : am_at (am_m 206) 16 = some (.iload_n 3, 0) := by decide +kernel
theorem at_206_17 : am_at (am_m 206) 17 = some (.iconst 5, 0) := by decide +kernel
theorem at_206_18 : am_at (am_m 206) 18 = some (.if_icmp .eq 15, 33) := by decide +kernel
theorem at_206_21 : am_at (am_m 206) 21 = some (.iload_n 3, 0) := by decide +kernel
theorem at_206_22 : am_at (am_m 206) 22 = some (.bipush 6, 0) := by decide +kernel
theorem at_206_24 : am_at (am_m 206) 24 = some (.if_icmp .eq 9, 33) := by decide +kernel
theorem at_206_27 : am_at (am_m 206) 27 = some (.iload_n 3, 0) := by decide +kernel
theorem at_206_28 : am_at (am_m 206) 28 = some (.bipush 19, 0) := by decide +kernel
theorem at_206_30 : am_at (am_m 206) 30 = some (.if_icmp .ne 5, 35) := by decide +kernel
theorem at_206_33 : am_at (am_m 206) 33 = some (.iconst 0, 0) := by decide +kernel
theorem at_206_34 : am_at (am_m 206) 34 = some (.ireturn, 0) := by decide +kernel
theorem at_206_35 : am_at (am_m 206) 35 = some (.iload_n 3, 0) := by decide +kernel
theorem at_206_36 : am_at (am_m 206) 36 = some (.bipush 7, 0) := by decide +kernel
theorem at_206_38 : am_at (am_m 206) 38 = some (.if_icmp .ge 21, 59) := by decide +kernel
theorem at_206_41 : am_at (am_m 206) 41 = some (.aload_n 0, 0) := by decide +kernel
theorem at_206_42 : am_at (am_m 206) 42 = some (.getfield 38, 2565) := by decide +kernel
theorem at_206_45 : am_at (am_m 206) 45 = some (.iload_n 3, 0) := by decide +kernel
theorem at_206_46 : am_at (am_m 206) 46 = some (.aload_n 0, 0) := by decide +kernel
theorem at_206_47 : am_at (am_m 206) 47 = some (.getfield 35, 2564) := by decide +kernel
theorem at_206_50 : am_at (am_m 206) 50 = some (.iload_n 1, 0) := by decide +kernel
theorem at_206_51 : am_at (am_m 206) 51 = some (.iconst 1, 0) := by decide +kernel
theorem at_206_52 : am_at (am_m 206) 52 = some (.invokevirtual 83, 54) := by decide +kernel
theorem at_206_55 : am_at (am_m 206) 55 = some (.invokevirtual 87, 41) := by decide +kernel
theorem at_206_58 : am_at (am_m 206) 58 = some (.ireturn, 0) := by decide +kernel
theorem at_206_59 : am_at (am_m 206) 59 = some (.aload_n 0, 0) := by decide +kernel
theorem at_206_60 : am_at (am_m 206) 60 = some (.getfield 12, 2560) := by decide +kernel
theorem at_206_63 : am_at (am_m 206) 63 = some (.iload_n 1, 0) := by decide +kernel
theorem at_206_64 : am_at (am_m 206) 64 = some (.iconst 1, 0) := by decide +kernel
theorem at_206_65 : am_at (am_m 206) 65 = some (.iadd, 0) := by decide +kernel
theorem at_206_66 : am_at (am_m 206) 66 = some (.invokevirtual 90, 100) := by decide +kernel
theorem at_206_69 : am_at (am_m 206) 69 = some (.istore 4, 0) := by decide +kernel
theorem at_206_71 : am_at (am_m 206) 71 = some (.aload_n 0, 0) := by decide +kernel
theorem at_206_72 : am_at (am_m 206) 72 = some (.iload_n 1, 0) := by decide +kernel
theorem at_206_73 : am_at (am_m 206) 73 = some (.iconst 1, 0) := by decide +kernel
theorem at_206_74 : am_at (am_m 206) 74 = some (.iadd, 0) := by decide +kernel
theorem at_206_75 : am_at (am_m 206) 75 = some (.iload_n 2, 0) := by decide +kernel
theorem at_206_76 : am_at (am_m 206) 76 = some (.iconst 1, 0) := by decide +kernel
theorem at_206_77 : am_at (am_m 206) 77 = some (.iadd, 0) := by decide +kernel
theorem at_206_78 : am_at (am_m 206) 78 = some (.invokevirtual 75, 206) := by decide +kernel
theorem at_206_81 : am_at (am_m 206) 81 = some (.ifCond .ne 5, 86) := by decide +kernel
theorem at_206_84 : am_at (am_m 206) 84 = some (.iconst 0, 0) := by decide +kernel
theorem at_206_85 : am_at (am_m 206) 85 = some (.ireturn, 0) := by decide +kernel
theorem at_206_86 : am_at (am_m 206) 86 = some (.iload_n 3, 0) := by decide +kernel
theorem at_206_87 : am_at (am_m 206) 87 = some (.bipush 9, 0) := by decide +kernel
theorem at_206_89 : am_at (am_m 206) 89 = some (.if_icmp .ne 34, 123) := by decide +kernel
theorem at_206_92 : am_at (am_m 206) 92 = some (.aload_n 0, 0) := by decide +kernel
theorem at_206_93 : am_at (am_m 206) 93 = some (.getfield 38, 2565) := by decide +kernel
theorem at_206_96 : am_at (am_m 206) 96 = some (.iconst 0, 0) := by decide +kernel
theorem at_206_97 : am_at (am_m 206) 97 = some (.iconst 0, 0) := by decide +kernel
theorem at_206_98 : am_at (am_m 206) 98 = some (.invokevirtual 87, 41) := by decide +kernel
theorem at_206_101 : am_at (am_m 206) 101 = some (.ifCond .eq 20, 121) := by decide +kernel
theorem at_206_104 : am_at (am_m 206) 104 = some (.aload_n 0, 0) := by decide +kernel
theorem at_206_105 : am_at (am_m 206) 105 = some (.getfield 38, 2565) := by decide +kernel
theorem at_206_108 : am_at (am_m 206) 108 = some (.bipush 13, 0) := by decide +kernel
theorem at_206_110 : am_at (am_m 206) 110 = some (.iconst 0, 0) := by decide +kernel
theorem at_206_111 : am_at (am_m 206) 111 = some (.invokevirtual 87, 41) := by decide +kernel
theorem at_206_114 : am_at (am_m 206) 114 = some (.ifCond .eq 7, 121) := by decide +kernel
theorem at_206_117 : am_at (am_m 206) 117 = some (.iconst 1, 0) := by decide +kernel
theorem at_206_118 : am_at (am_m 206) 118 = some (.goto 4, 122) := by decide +kernel
theorem at_206_121 : am_at (am_m 206) 121 = some (.iconst 0, 0) := by decide +kernel
theorem at_206_122 : am_at (am_m 206) 122 = some (.ireturn, 0) := by decide +kernel
theorem at_206_123 : am_at (am_m 206) 123 = some (.iload_n 3, 0) := by decide +kernel
theorem at_206_124 : am_at (am_m 206) 124 = some (.bipush 10, 0) := by decide +kernel
theorem at_206_126 : am_at (am_m 206) 126 = some (.if_icmp .ge 15, 141) := by decide +kernel
theorem at_206_129 : am_at (am_m 206) 129 = some (.aload_n 0, 0) := by decide +kernel
theorem at_206_130 : am_at (am_m 206) 130 = some (.getfield 38, 2565) := by decide +kernel
theorem at_206_133 : am_at (am_m 206) 133 = some (.iload_n 3, 0) := by decide +kernel
theorem at_206_134 : am_at (am_m 206) 134 = some (.iconst 2, 0) := by decide +kernel
theorem at_206_135 : am_at (am_m 206) 135 = some (.isub, 0) := by decide +kernel
theorem at_206_136 : am_at (am_m 206) 136 = some (.iconst 0, 0) := by decide +kernel
theorem at_206_137 : am_at (am_m 206) 137 = some (.invokevirtual 87, 41) := by decide +kernel
theorem at_206_140 : am_at (am_m 206) 140 = some (.ireturn, 0) := by decide +kernel
theorem at_206_141 : am_at (am_m 206) 141 = some (.iload_n 3, 0) := by decide +kernel
theorem at_206_142 : am_at (am_m 206) 142 = some (.bipush 17, 0) := by decide +kernel
theorem at_206_144 : am_at (am_m 206) 144 = some (.if_icmp .ne 13, 157) := by decide +kernel
theorem at_206_147 : am_at (am_m 206) 147 = some (.aload_n 0, 0) := by decide +kernel
theorem at_206_148 : am_at (am_m 206) 148 = some (.iload 4, 0) := by decide +kernel
theorem at_206_150 : am_at (am_m 206) 150 = some (.iload_n 2, 0) := by decide +kernel
theorem at_206_151 : am_at (am_m 206) 151 = some (.iconst 1, 0) := by decide +kernel
theorem at_206_152 : am_at (am_m 206) 152 = some (.iadd, 0) := by decide +kernel
theorem at_206_153 : am_at (am_m 206) 153 = some (.invokevirtual 94, 207) := by decide +kernel
theorem at_206_156 : am_at (am_m 206) 156 = some (.ireturn, 0) := by decide +kernel
theorem at_206_157 : am_at (am_m 206) 157 = some (.iload_n 3, 0) := by decide +kernel
theorem at_206_158 : am_at (am_m 206) 158 = some (.bipush 18, 0) := by decide +kernel
theorem at_206_160 : am_at (am_m 206) 160 = some (.if_icmp .ne 13, 173) := by decide +kernel
theorem at_206_163 : am_at (am_m 206) 163 = some (.aload_n 0, 0) := by decide +kernel
theorem at_206_164 : am_at (am_m 206) 164 = some (.iload 4, 0) := by decide +kernel
theorem at_206_166 : am_at (am_m 206) 166 = some (.iload_n 2, 0) := by decide +kernel
theorem at_206_167 : am_at (am_m 206) 167 = some (.iconst 1, 0) := by decide +kernel
theorem at_206_168 : am_at (am_m 206) 168 = some (.iadd, 0) := by decide +kernel
theorem at_206_169 : am_at (am_m 206) 169 = some (.invokevirtual 97, 208) := by decide +kernel
theorem at_206_172 : am_at (am_m 206) 172 = some (.ireturn, 0) := by decide +kernel
theorem at_206_173 : am_at (am_m 206) 173 = some (.iload_n 3, 0) := by decide +kernel
theorem at_206_174 : am_at (am_m 206) 174 = some (.bipush 20, 0) := by decide +kernel
theorem at_206_176 : am_at (am_m 206) 176 = some (.if_icmp .ne 13, 189) := by decide +kernel
theorem at_206_179 : am_at (am_m 206) 179 = some (.aload_n 0, 0) := by decide +kernel
theorem at_206_180 : am_at (am_m 206) 180 = some (.iload 4, 0) := by decide +kernel
theorem at_206_182 : am_at (am_m 206) 182 = some (.iload_n 2, 0) := by decide +kernel
theorem at_206_183 : am_at (am_m 206) 183 = some (.iconst 1, 0) := by decide +kernel
theorem at_206_184 : am_at (am_m 206) 184 = some (.iadd, 0) := by decide +kernel
theorem at_206_185 : am_at (am_m 206) 185 = some (.invokevirtual 100, 209) := by decide +kernel
theorem at_206_188 : am_at (am_m 206) 188 = some (.ireturn, 0) := by decide +kernel
theorem at_206_189 : am_at (am_m 206) 189 = some (.aload_n 0, 0) := by decide +kernel
theorem at_206_190 : am_at (am_m 206) 190 = some (.iload 4, 0) := by decide +kernel
theorem at_206_192 : am_at (am_m 206) 192 = some (.iload_n 2, 0) := by decide +kernel
theorem at_206_193 : am_at (am_m 206) 193 = some (.iconst 1, 0) := by decide +kernel
theorem at_206_194 : am_at (am_m 206) 194 = some (.iadd, 0) := by decide +kernel
theorem at_206_195 : am_at (am_m 206) 195 = some (.invokevirtual 75, 206) := by decide +kernel
theorem at_206_198 : am_at (am_m 206) 198 = some (.ifCond .eq 21, 219) := by decide +kernel
theorem at_206_201 : am_at (am_m 206) 201 = some (.aload_n 0, 0) := by decide +kernel
theorem at_206_202 : am_at (am_m 206) 202 = some (.getfield 38, 2565) := by decide +kernel
theorem at_206_205 : am_at (am_m 206) 205 = some (.iload_n 3, 0) := by decide +kernel
theorem at_206_206 : am_at (am_m 206) 206 = some (.iconst 3, 0) := by decide +kernel
theorem at_206_207 : am_at (am_m 206) 207 = some (.isub, 0) := by decide +kernel
theorem at_206_208 : am_at (am_m 206) 208 = some (.iconst 0, 0) := by decide +kernel
theorem at_206_209 : am_at (am_m 206) 209 = some (.invokevirtual 87, 41) := by decide +kernel
theorem at_206_212 : am_at (am_m 206) 212 = some (.ifCond .eq 7, 219) := by decide +kernel
theorem at_206_215 : am_at (am_m 206) 215 = some (.iconst 1, 0) := by decide +kernel
theorem at_206_216 : am_at (am_m 206) 216 = some (.goto 4, 220) := by decide +kernel
theorem at_206_219 : am_at (am_m 206) 219 = some (.iconst 0, 0) := by decide +kernel
theorem at_206_220 : am_at (am_m 206) 220 = some (.ireturn, 0) := by decide +kernel
theorem at_207_0 : am_at (am_m 207) 0 = some (.aload_n 0, 0) := by decide +kernel
theorem at_207_1 : am_at (am_m 207) 1 = some (.getfield 38, 2565) := by decide +kernel
theorem at_207_4 : am_at (am_m 207) 4 = some (.getfield 62, 771) := by decide +kernel
theorem at_207_7 : am_at (am_m 207) 7 = some (.istore_n 3, 0) := by decide +kernel
theorem at_207_8 : am_at (am_m 207) 8 = some (.aload_n 0, 0) := by decide +kernel
theorem at_207_9 : am_at (am_m 207) 9 = some (.getfield 38, 2565) := by decide +kernel
theorem at_207_12 : am_at (am_m 207) 12 = some (.bipush 18, 0) := by decide +kernel
theorem at_207_14 : am_at (am_m 207) 14 = some (.iconst 0, 0) := by decide +kernel
theorem at_207_15 : am_at (am_m 207) 15 = some (.invokevirtual 87, 41) := by decide +kernel
theorem at_207_18 : am_at (am_m 207) 18 = some (.ifCond .eq 25, 43) := by decide +kernel
theorem at_207_21 : am_at (am_m 207) 21 = some (.aload_n 0, 0) := by decide +kernel
theorem at_207_22 : am_at (am_m 207) 22 = some (.iload_n 1, 0) := by decide +kernel
theorem at_207_23 : am_at (am_m 207) 23 = some (.iload_n 2, 0) := by decide +kernel
theorem at_207_24 : am_at (am_m 207) 24 = some (.invokevirtual 75, 206) := by decide +kernel
theorem at_207_27 : am_at (am_m 207) 27 = some (.ifCond .eq 16, 43) := by decide +kernel
theorem at_207_30 : am_at (am_m 207) 30 = some (.aload_n 0, 0) := by decide +kernel
theorem at_207_31 : am_at (am_m 207) 31 = some (.getfield 38, 2565) := by decide +kernel
theorem at_207_34 : am_at (am_m 207) 34 = some (.bipush 17, 0) := by decide +kernel
theorem at_207_36 : am_at (am_m 207) 36 = some (.iconst 1, 0) := by decide +kernel
theorem at_207_37 : am_at (am_m 207) 37 = some (.invokevirtual 87, 41) := by decide +kernel
theorem at_207_40 : am_at (am_m 207) 40 = some (.ifCond .ne 5, 45) := by decide +kernel
theorem at_207_43 : am_at (am_m 207) 43 = some (.iconst 0, 0) := by decide +kernel
theorem at_207_44 : am_at (am_m 207) 44 = some (.ireturn, 0) := by decide +kernel
theorem at_207_45 : am_at (am_m 207) 45 = some (.aload_n 0, 0) := by decide +kernel
theorem at_207_46 : am_at (am_m 207) 46 = some (.getfield 38, 2565) := by decide +kernel
theorem at_207_49 : am_at (am_m 207) 49 = some (.iload_n 3, 0) := by decide +kernel
theorem at_207_50 : am_at (am_m 207) 50 = some (.iconst 1, 0) := by decide +kernel
theorem at_207_51 : am_at (am_m 207) 51 = some (.aload_n 0, 0) := by decide +kernel
theorem at_207_52 : am_at (am_m 207) 52 = some (.getfield 38, 2565) := by decide +kernel
theorem at_207_55 : am_at (am_m 207) 55 = some (.getfield 62, 771) := by decide +kernel
theorem at_207_58 : am_at (am_m 207) 58 = some (.iload_n 3, 0) := by decide +kernel
theorem at_207_59 : am_at (am_m 207) 59 = some (.isub, 0) := by decide +kernel
theorem at_207_60 : am_at (am_m 207) 60 = some (.iconst 1, 0) := by decide +kernel
theorem at_207_61 : am_at (am_m 207) 61 = some (.isub, 0) := by decide +kernel
theorem at_207_62 : am_at (am_m 207) 62 = some (.invokevirtual 103, 51) := by decide +kernel
theorem at_207_65 : am_at (am_m 207) 65 = some (.aload_n 0, 0) := by decide +kernel
theorem at_207_66 : am_at (am_m 207) 66 = some (.getfield 38, 2565) := by decide +kernel
theorem at_207_69 : am_at (am_m 207) 69 = some (.iconst 0, 0) := by decide +kernel
theorem at_207_70 : am_at (am_m 207) 70 = some (.iconst 0, 0) := by decide +kernel
theorem at_207_71 : am_at (am_m 207) 71 = some (.invokevirtual 87, 41) := by decide +kernel
theorem at_207_74 : am_at (am_m 207) 74 = some (.ireturn, 0) := by decide +kernel
theorem at_208_0 : am_at (am_m 208) 0 = some (.aload_n 0, 0) := by decide +kernel
theorem at_208_1 : am_at (am_m 208) 1 = some (.getfield 38, 2565) := by decide +kernel
theorem at_208_4 : am_at (am_m 208) 4 = some (.bipush 18, 0) := by decide +kernel
theorem at_208_6 : am_at (am_m 208) 6 = some (.iconst 2, 0) := by decide +kernel
theorem at_208_7 : am_at (am_m 208) 7 = some (.invokevirtual 87, 41) := by decide +kernel
theorem at_208_10 : am_at (am_m 208) 10 = some (.ifCond .eq 15, 25) := by decide +kernel
theorem at_208_13 : am_at (am_m 208) 13 = some (.aload_n 0, 0) := by decide +kernel
theorem at_208_14 : am_at (am_m 208) 14 = some (.getfield 38, 2565) := by decide +kernel
theorem at_208_17 : am_at (am_m 208) 17 = some (.iconst 0, 0) := by decide +kernel
theorem at_208_18 : am_at (am_m 208) 18 = some (.iconst 1, 0) := by decide +kernel
theorem at_208_19 : am_at (am_m 208) 19 = some (.invokevirtual 87, 41) := by decide +kernel
theorem at_208_22 : am_at (am_m 208) 22 = some (.ifCond .ne 5, 27) := by decide +kernel
theorem at_208_25 : am_at (am_m 208) 25 = some (.iconst 0, 0) := by decide +kernel
theorem at_208_26 : am_at (am_m 208) 26 = some (.ireturn, 0) := by decide +kernel
theorem at_208_27 : am_at (am_m 208) 27 = some (.aload_n 0, 0) := by decide +kernel
theorem at_208_28 : am_at (am_m 208) 28 = some (.getfield 38, 2565) := by decide +kernel
theorem at_208_31 : am_at (am_m 208) 31 = some (.getfield 62, 771) := by decide +kernel
theorem at_208_34 : am_at (am_m 208) 34 = some (.istore_n 3, 0) := by decide +kernel
theorem at_208_35 : am_at (am_m 208) 35 = some (.aload_n 0, 0) := by decide +kernel
theorem at_208_36 : am_at (am_m 208) 36 = some (.getfield 38, 2565) := by decide +kernel
theorem at_208_39 : am_at (am_m 208) 39 = some (.bipush 17, 0) := by decide +kernel
theorem at_208_41 : am_at (am_m 208) 41 = some (.iconst 0, 0) := by decide +kernel
theorem at_208_42 : am_at (am_m 208) 42 = some (.invokevirtual 87, 41) := by decide +kernel
theorem at_208_45 : am_at (am_m 208) 45 = some (.ifCond .eq 12, 57) := by decide +kernel
theorem at_208_48 : am_at (am_m 208) 48 = some (.aload_n 0, 0) := by decide +kernel
theorem at_208_49 : am_at (am_m 208) 49 = some (.iload_n 1, 0) := by decide +kernel
theorem at_208_50 : am_at (am_m 208) 50 = some (.iload_n 2, 0) := by decide +kernel
theorem at_208_51 : am_at (am_m 208) 51 = some (.invokevirtual 75, 206) := by decide +kernel
theorem at_208_54 : am_at (am_m 208) 54 = some (.ifCond .ne 5, 59) := by decide +kernel
theorem at_208_57 : am_at (am_m 208) 57 = some (.iconst 0, 0) := by decide +kernel
theorem at_208_58 : am_at (am_m 208) 58 = some (.ireturn, 0) := by decide +kernel
theorem at_208_59 : am_at (am_m 208) 59 = some (.aload_n 0, 0) := by decide +kernel
theorem at_208_60 : am_at (am_m 208) 60 = some (.getfield 38, 2565) := by decide +kernel
theorem at_208_63 : am_at (am_m 208) 63 = some (.iload_n 3, 0) := by decide +kernel
theorem at_208_64 : am_at (am_m 208) 64 = some (.iconst 1, 0) := by decide +kernel
theorem at_208_65 : am_at (am_m 208) 65 = some (.aload_n 0, 0) := by decide +kernel
theorem at_208_66 : am_at (am_m 208) 66 = some (.getfield 38, 2565) := by decide +kernel
theorem at_208_69 : am_at (am_m 208) 69 = some (.getfield 62, 771) := by decide +kernel
theorem at_208_72 : am_at (am_m 208) 72 = some (.iload_n 3, 0) := by decide +kernel
theorem at_208_73 : am_at (am_m 208) 73 = some (.isub, 0) := by decide +kernel
theorem at_208_74 : am_at (am_m 208) 74 = some (.iconst 1, 0) := by decide +kernel
theorem at_208_75 : am_at (am_m 208) 75 = some (.isub, 0) := by decide +kernel
theorem at_208_76 : am_at (am_m 208) 76 = some (.invokevirtual 103, 51) := by decide +kernel
theorem at_208_79 : am_at (am_m 208) 79 = some (.iconst 1, 0) := by decide +kernel
theorem at_208_80 : am_at (am_m 208) 80 = some (.ireturn, 0) := by decide +kernel
theorem at_209_0 : am_at (am_m 209) 0 = some (.aload_n 0, 0) := by decide +kernel
theorem at_209_1 : am_at (am_m 209) 1 = some (.getfield 38, 2565) := by decide +kernel
theorem at_209_4 : am_at (am_m 209) 4 = some (.getfield 62, 771) := by decide +kernel
theorem at_209_7 : am_at (am_m 209) 7 = some (.istore_n 3, 0) := by decide +kernel
theorem at_209_8 : am_at (am_m 209) 8 = some (.aload_n 0, 0) := by decide +kernel
theorem at_209_9 : am_at (am_m 209) 9 = some (.getfield 38, 2565) := by decide +kernel
theorem at_209_12 : am_at (am_m 209) 12 = some (.bipush 18, 0) := by decide +kernel
theorem at_209_14 : am_at (am_m 209) 14 = some (.iconst 0, 0) := by decide +kernel
theorem at_209_15 : am_at (am_m 209) 15 = some (.invokevirtual 87, 41) := by decide +kernel
theorem at_209_18 : am_at (am_m 209) 18 = some (.ifCond .eq 12, 30) := by decide +kernel
theorem at_209_21 : am_at (am_m 209) 21 = some (.aload_n 0, 0) := by decide +kernel
theorem at_209_22 : am_at (am_m 209) 22 = some (.iload_n 1, 0) := by decide +kernel
theorem at_209_23 : am_at (am_m 209) 23 = some (.iload_n 2, 0) := by decide +kernel
theorem at_209_24 : am_at (am_m 209) 24 = some (.invokevirtual 75, 206) := by decide +kernel
theorem at_209_27 : am_at (am_m 209) 27 = some (.ifCond .ne 5, 32) := by decide +kernel
theorem at_209_30 : am_at (am_m 209) 30 = some (.iconst 0, 0) := by decide +kernel
theorem at_209_31 : am_at (am_m 209) 31 = some (.ireturn, 0) := by decide +kernel
theorem at_209_32 : am_at (am_m 209) 32 = some (.aload_n 0, 0) := by decide +kernel
theorem at_209_33 : am_at (am_m 209) 33 = some (.getfield 38, 2565) := by decide +kernel
theorem at_209_36 : am_at (am_m 209) 36 = some (.getfield 62, 771) := by decide +kernel
theorem at_209_39 : am_at (am_m 209) 39 = some (.istore 4, 0) := by decide +kernel
theorem at_209_41 : am_at (am_m 209) 41 = some (.aload_n 0, 0) := by decide +kernel
theorem at_209_42 : am_at (am_m 209) 42 = some (.getfield 38, 2565) := by decide +kernel
theorem at_209_45 : am_at (am_m 209) 45 = some (.bipush 17, 0) := by decide +kernel
theorem at_209_47 : am_at (am_m 209) 47 = some (.iconst 0, 0) := by decide +kernel
theorem at_209_48 : am_at (am_m 209) 48 = some (.invokevirtual 87, 41) := by decide +kernel
theorem at_209_51 : am_at (am_m 209) 51 = some (.ifCond .ne 5, 56) := by decide +kernel
theorem at_209_54 : am_at (am_m 209) 54 = some (.iconst 0, 0) := by decide +kernel
theorem at_209_55 : am_at (am_m 209) 55 = some (.ireturn, 0) := by decide +kernel
theorem at_209_56 : am_at (am_m 209) 56 = some (.aload_n 0, 0) := by decide +kernel
theorem at_209_57 : am_at (am_m 209) 57 = some (.getfield 38, 2565) := by decide +kernel
theorem at_209_60 : am_at (am_m 209) 60 = some (.iload_n 3, 0) := by decide +kernel
theorem at_209_61 : am_at (am_m 209) 61 = some (.iconst 1, 0) := by decide +kernel
theorem at_209_62 : am_at (am_m 209) 62 = some (.aload_n 0, 0) := by decide +kernel
theorem at_209_63 : am_at (am_m 209) 63 = some (.getfield 38, 2565) := by decide +kernel
theorem at_209_66 : am_at (am_m 209) 66 = some (.getfield 62, 771) := by decide +kernel
theorem at_209_69 : am_at (am_m 209) 69 = some (.iload_n 3, 0) := by decide +kernel
theorem at_209_70 : am_at (am_m 209) 70 = some (.isub, 0) := by decide +kernel
theorem at_209_71 : am_at (am_m 209) 71 = some (.iconst 1, 0) := by decide +kernel
theorem at_209_72 : am_at (am_m 209) 72 = some (.isub, 0) := by decide +kernel
theorem at_209_73 : am_at (am_m 209) 73 = some (.invokevirtual 103, 51) := by decide +kernel
theorem at_209_76 : am_at (am_m 209) 76 = some (.aload_n 0, 0) := by decide +kernel
theorem at_209_77 : am_at (am_m 209) 77 = some (.aload_n 0, 0) := by decide +kernel
theorem at_209_78 : am_at (am_m 209) 78 = some (.getfield 12, 2560) := by decide +kernel
theorem at_209_81 : am_at (am_m 209) 81 = some (.iload_n 1, 0) := by decide +kernel
theorem at_209_82 : am_at (am_m 209) 82 = some (.invokevirtual 90, 100) := by decide +kernel
theorem at_209_85 : am_at (am_m 209) 85 = some (.iload_n 2, 0) := by decide +kernel
theorem at_209_86 : am_at (am_m 209) 86 = some (.invokevirtual 75, 206) := by decide +kernel
theorem at_209_89 : am_at (am_m 209) 89 = some (.ifCond .ne 5, 94) := by decide +kernel
theorem at_209_92 : am_at (am_m 209) 92 = some (.iconst 0, 0) := by decide +kernel
theorem at_209_93 : am_at (am_m 209) 93 = some (.ireturn, 0) := by decide +kernel
theorem at_209_94 : am_at (am_m 209) 94 = some (.aload_n 0, 0) := by decide +kernel
theorem at_209_95 : am_at (am_m 209) 95 = some (.getfield 38, 2565) := by decide +kernel
theorem at_209_98 : am_at (am_m 209) 98 = some (.iload 4, 0) := by decide +kernel
theorem at_209_100 : am_at (am_m 209) 100 = some (.iconst 1, 0) := by decide +kernel
theorem at_209_101 : am_at (am_m 209) 101 = some (.aload_n 0, 0) := by decide +kernel
theorem at_209_102 : am_at (am_m 209) 102 = some (.getfield 38, 2565) := by decide +kernel
theorem at_209_105 : am_at (am_m 209) 105 = some (.getfield 62, 771) := by decide +kernel
theorem at_209_108 : am_at (am_m 209) 108 = some (.iload 4, 0) := by decide +kernel
theorem at_209_110 : am_at (am_m 209) 110 = some (.isub, 0) := by decide +kernel
theorem at_209_111 : am_at (am_m 209) 111 = some (.iconst 1, 0) := by decide +kernel
theorem at_209_112 : am_at (am_m 209) 112 = some (.isub, 0) := by decide +kernel
theorem at_209_113 : am_at (am_m 209) 113 = some (.invokevirtual 103, 51) := by decide +kernel
theorem at_209_116 : am_at (am_m 209) 116 = some (.iconst 1, 0) := by decide +kernel
theorem at_209_117 : am_at (am_m 209) 117 = some (.ireturn, 0) := by decide +kernel
theorem at_210_0 : am_at (am_m 210) 0 = some (.aload_n 2, 0) := by decide +kernel
theorem at_210_1 : am_at (am_m 210) 1 = some (.iconst 0, 0) := by decide +kernel
theorem at_210_2 : am_at (am_m 210) 2 = some (.aload_n 0, 0) := by decide +kernel
theorem at_210_3 : am_at (am_m 210) 3 = some (.iload_n 1, 0) := by decide +kernel
theorem at_210_4 : am_at (am_m 210) 4 = some (.invokevirtual 109, 211) := by decide +kernel
theorem at_210_7 : am_at (am_m 210) 7 = some (.i2l, 0) := by decide +kernel
theorem at_210_8 : am_at (am_m 210) 8 = some (.lastore, 0) := by decide +kernel
theorem at_210_9 : am_at (am_m 210) 9 = some (.goto 6, 15) := by decide +kernel
theorem at_210_13 : am_at (am_m 210) 13 = some (.iconst 1, 0) := by decide +kernel
theorem at_210_14 : am_at (am_m 210) 14 = some (.ireturn, 0) := by decide +kernel
theorem at_210_15 : am_at (am_m 210) 15 = some (.iconst 0, 0) := by decide +kernel
theorem at_210_16 : am_at (am_m 210) 16 = some (.ireturn, 0) := by decide +kernel
theorem at_211_0 : am_at (am_m 211) 0 = some (.aload_n 0, 0) := by decide +kernel
theorem at_211_1 : am_at (am_m 211) 1 = some (.iload_n 1, 0) := by decide +kernel
theorem at_211_2 : am_at (am_m 211) 2 = some (.invokevirtual 330, 201) := by decide +kernel
theorem at_211_5 : am_at (am_m 211) 5 = some (.getfield 342, 256) := by decide +kernel
theorem at_211_8 : am_at (am_m 211) 8 = some (.ireturn, 0) := by decide +kernel
theorem at_212_0 : am_at (am_m 212) 0 = some (.aload_n 3, 0) := by decide +kernel
theorem at_212_1 : am_at (am_m 212) 1 = some (.iconst 0, 0) := by decide +kernel
theorem at_212_2 : am_at (am_m 212) 2 = some (.aload_n 0, 0) := by decide +kernel
theorem at_212_3 : am_at (am_m 212) 3 = some (.iload_n 1, 0) := by decide +kernel
theorem at_212_4 : am_at (am_m 212) 4 = some (.iload_n 2, 0) := by decide +kernel
theorem at_212_5 : am_at (am_m 212) 5 = some (.invokevirtual 112, 213) := by decide +kernel
theorem at_212_8 : am_at (am_m 212) 8 = some (.i2l, 0) := by decide +kernel
theorem at_212_9 : am_at (am_m 212) 9 = some (.lastore, 0) := by decide +kernel
theorem at_212_10 : am_at (am_m 212) 10 = some (.goto 7, 17) := by decide +kernel
theorem at_212_15 : am_at (am_m 212) 15 = some (.iconst 1, 0) := by decide +kernel
theorem at_212_16 : am_at (am_m 212) 16 = some (.ireturn, 0) := by decide +kernel
theorem at_212_17 : am_at (am_m 212) 17 = some (.iconst 0, 0) := by decide +kernel
theorem at_212_18 : am_at (am_m 212) 18 = some (.ireturn, 0) := by decide +kernel
theorem at_213_0 : am_at (am_m 213) 0 = some (.aload_n 0, 0) := by decide +kernel
theorem at_213_1 : am_at (am_m 213) 1 = some (.aload_n 0, 0) := by decide +kernel
theorem at_213_2 : am_at (am_m 213) 2 = some (.iload_n 1, 0) := by decide +kernel
theorem at_213_3 : am_at (am_m 213) 3 = some (.invokevirtual 330, 201) := by decide +kernel
theorem at_213_6 : am_at (am_m 213) 6 = some (.iload_n 2, 0) := by decide +kernel
theorem at_213_7 : am_at (am_m 213) 7 = some (.invokevirtual 350, 214) := by decide +kernel
theorem at_213_10 : am_at (am_m 213) 10 = some (.ireturn, 0) := by decide +kernel
theorem at_214_0 : am_at (am_m 214) 0 = some (.iload_n 2, 0) := by decide +kernel
theorem at_214_1 : am_at (am_m 214) 1 = some (.ifCond .lt 11, 12) := by decide +kernel
theorem at_214_4 : am_at (am_m 214) 4 = some (.iload_n 2, 0) := by decide +kernel
theorem at_214_5 : am_at (am_m 214) 5 = some (.aload_n 1, 0) := by decide +kernel
theorem at_214_6 : am_at (am_m 214) 6 = some (.getfield 342, 256) := by decide +kernel
theorem at_214_9 : am_at (am_m 214) 9 = some (.if_icmp .lt 14, 23) := by decide +kernel
theorem at_214_12 : am_at (am_m 214) 12 = some (.new 177, 102) := by decide +kernel
theorem at_214_23 : am_at (am_m 214) 23 = some (.aload_n 1, 0) := by decide +kernel
theorem at_214_24 : am_at (am_m 214) 24 = some (.getfield 347, 257) := by decide +kernel
theorem at_214_27 : am_at (am_m 214) 27 = some (.iload_n 2, 0) := by decide +kernel
theorem at_214_28 : am_at (am_m 214) 28 = some (.iaload, 0) := by decide +kernel
theorem at_214_29 : am_at (am_m 214) 29 = some (.ireturn, 0) := by decide +kernel
theorem at_215_0 : am_at (am_m 215) 0 = some (.aload_n 3, 0) := by decide +kernel
theorem at_215_1 : am_at (am_m 215) 1 = some (.iconst 0, 0) := by decide +kernel
theorem at_215_2 : am_at (am_m 215) 2 = some (.aload_n 0, 0) := by decide +kernel
theorem at_215_3 : am_at (am_m 215) 3 = some (.iload_n 1, 0) := by decide +kernel
theorem at_215_4 : am_at (am_m 215) 4 = some (.iload_n 2, 0) := by decide +kernel
theorem at_215_5 : am_at (am_m 215) 5 = some (.invokevirtual 115, 216) := by decide +kernel
theorem at_215_8 : am_at (am_m 215) 8 = some (.i2l, 0) := by decide +kernel
theorem at_215_9 : am_at (am_m 215) 9 = some (.lastore, 0) := by decide +kernel
theorem at_215_10 : am_at (am_m 215) 10 = some (.goto 15, 25) := by decide +kernel
theorem at_215_15 : am_at (am_m 215) 15 = some (.iconst 1, 0) := by decide +kernel
theorem at_215_16 : am_at (am_m 215) 16 = some (.ireturn, 0) := by decide +kernel
theorem at_215_19 : am_at (am_m 215) 19 = some (.iconst 2, 0) := by decide +kernel
theorem at_215_20 : am_at (am_m 215) 20 = some (.ireturn, 0) := by decide +kernel
theorem at_215_23 : am_at (am_m 215) 23 = some (.iconst 3, 0) := by decide +kernel
theorem at_215_24 : am_at (am_m 215) 24 = some (.ireturn, 0) := by decide +kernel
theorem at_215_25 : am_at (am_m 215) 25 = some (.iconst 0, 0) := by decide +kernel
theorem at_215_26 : am_at (am_m 215) 26 = some (.ireturn, 0) := by decide +kernel
theorem at_216_0 : am_at (am_m 216) 0 = some (.aload_n 0, 0) := by decide +kernel
theorem at_216_1 : am_at (am_m 216) 1 = some (.iload_n 1, 0) := by decide +kernel
theorem at_216_2 : am_at (am_m 216) 2 = some (.invokevirtual 330, 201) := by decide +kernel
theorem at_216_5 : am_at (am_m 216) 5 = some (.astore_n 3, 0) := by decide +kernel
theorem at_216_6 : am_at (am_m 216) 6 = some (.iload_n 2, 0) := by decide +kernel
theorem at_216_7 : am_at (am_m 216) 7 = some (.iconst 1, 0) := by decide +kernel
theorem at_216_8 : am_at (am_m 216) 8 = some (.if_icmp .lt 9, 17) := by decide +kernel
theorem at_216_11 : am_at (am_m 216) 11 = some (.iload_n 2, 0) := by decide +kernel
theorem at_216_12 : am_at (am_m 216) 12 = some (.bipush 20, 0) := by decide +kernel
theorem at_216_14 : am_at (am_m 216) 14 = some (.if_icmp .le 14, 28) := by decide +kernel
theorem at_216_17 : am_at (am_m 216) 17 = some (.new 114, 100) := by decide +kernel
theorem at_216_28 : am_at (am_m 216) 28 = some (.aload_n 3, 0) := by decide +kernel
theorem at_216_29 : am_at (am_m 216) 29 = some (.getfield 342, 256) := by decide +kernel
theorem at_216_32 : am_at (am_m 216) 32 = some (.ifCond .ne 14, 46) := by decide +kernel
theorem at_216_35 : am_at (am_m 216) 35 = some (.new 213, 101) := by decide +kernel
theorem at_216_46 : am_at (am_m 216) 46 = some (.aload_n 0, 0) := by decide +kernel
theorem at_216_47 : am_at (am_m 216) 47 = some (.getfield 33, 2820) := by decide +kernel
theorem at_216_50 : am_at (am_m 216) 50 = some (.iconst 1, 0) := by decide +kernel
theorem at_216_51 : am_at (am_m 216) 51 = some (.iaload, 0) := by decide +kernel
theorem at_216_52 : am_at (am_m 216) 52 = some (.aload_n 3, 0) := by decide +kernel
theorem at_216_53 : am_at (am_m 216) 53 = some (.getfield 342, 256) := by decide +kernel
theorem at_216_56 : am_at (am_m 216) 56 = some (.invokestatic 358, 38) := by decide +kernel
theorem at_216_59 : am_at (am_m 216) 59 = some (.istore 4, 0) := by decide +kernel
theorem at_216_61 : am_at (am_m 216) 61 = some (.aload_n 0, 0) := by decide +kernel
theorem at_216_62 : am_at (am_m 216) 62 = some (.aload_n 3, 0) := by decide +kernel
theorem at_216_63 : am_at (am_m 216) 63 = some (.getfield 342, 256) := by decide +kernel
theorem at_216_66 : am_at (am_m 216) 66 = some (.iload 4, 0) := by decide +kernel
theorem at_216_68 : am_at (am_m 216) 68 = some (.isub, 0) := by decide +kernel
theorem at_216_69 : am_at (am_m 216) 69 = some (.iload_n 2, 0) := by decide +kernel
theorem at_216_70 : am_at (am_m 216) 70 = some (.imul, 0) := by decide +kernel
theorem at_216_71 : am_at (am_m 216) 71 = some (.invokevirtual 121, 32) := by decide +kernel
theorem at_216_74 : am_at (am_m 216) 74 = some (.iconst 0, 0) := by decide +kernel
theorem at_216_75 : am_at (am_m 216) 75 = some (.istore 5, 0) := by decide +kernel
theorem at_216_77 : am_at (am_m 216) 77 = some (.iload 5, 0) := by decide +kernel
theorem at_216_79 : am_at (am_m 216) 79 = some (.iload_n 2, 0) := by decide +kernel
theorem at_216_80 : am_at (am_m 216) 80 = some (.if_icmp .ge 16, 96) := by decide +kernel
theorem at_216_83 : am_at (am_m 216) 83 = some (.aload_n 0, 0) := by decide +kernel
theorem at_216_84 : am_at (am_m 216) 84 = some (.aload_n 3, 0) := by decide +kernel
theorem at_216_85 : am_at (am_m 216) 85 = some (.iload 4, 0) := by decide +kernel
theorem at_216_87 : am_at (am_m 216) 87 = some (.invokevirtual 363, 217) := by decide +kernel
theorem at_216_90 : am_at (am_m 216) 90 = some (.iinc 5 1, 0) := by decide +kernel
theorem at_216_93 : am_at (am_m 216) 93 = some (.goto (-16), 77) := by decide +kernel
theorem at_216_96 : am_at (am_m 216) 96 = some (.aload_n 3, 0) := by decide +kernel
theorem at_216_97 : am_at (am_m 216) 97 = some (.aload_n 0, 0) := by decide +kernel
theorem at_216_98 : am_at (am_m 216) 98 = some (.getfield 11, 2816) := by decide +kernel
theorem at_216_101 : am_at (am_m 216) 101 = some (.aload_n 0, 0) := by decide +kernel
theorem at_216_102 : am_at (am_m 216) 102 = some (.getfield 29, 2819) := by decide +kernel
theorem at_216_105 : am_at (am_m 216) 105 = some (.invokevirtual 367, 218) := by decide +kernel
theorem at_216_108 : am_at (am_m 216) 108 = some (.aload_n 3, 0) := by decide +kernel
theorem at_216_109 : am_at (am_m 216) 109 = some (.getfield 347, 257) := by decide +kernel
theorem at_216_112 : am_at (am_m 216) 112 = some (.aload_n 3, 0) := by decide +kernel
theorem at_216_113 : am_at (am_m 216) 113 = some (.invokevirtual 371, 230) := by decide +kernel
theorem at_216_116 : am_at (am_m 216) 116 = some (.iaload, 0) := by decide +kernel
theorem at_216_117 : am_at (am_m 216) 117 = some (.ireturn, 0) := by decide +kernel
theorem at_217_0 : am_at (am_m 217) 0 = some (.aload_n 1, 0) := by decide +kernel
theorem at_217_1 : am_at (am_m 217) 1 = some (.aload_n 0, 0) := by decide +kernel
theorem at_217_2 : am_at (am_m 217) 2 = some (.getfield 11, 2816) := by decide +kernel
theorem at_217_5 : am_at (am_m 217) 5 = some (.aload_n 0, 0) := by decide +kernel
theorem at_217_6 : am_at (am_m 217) 6 = some (.getfield 29, 2819) := by decide +kernel
theorem at_217_9 : am_at (am_m 217) 9 = some (.invokevirtual 367, 218) := by decide +kernel
theorem at_217_12 : am_at (am_m 217) 12 = some (.aload_n 1, 0) := by decide +kernel
theorem at_217_13 : am_at (am_m 217) 13 = some (.invokevirtual 535, 220) := by decide +kernel
theorem at_217_16 : am_at (am_m 217) 16 = some (.aload_n 0, 0) := by decide +kernel
theorem at_217_17 : am_at (am_m 217) 17 = some (.aload_n 1, 0) := by decide +kernel
theorem at_217_18 : am_at (am_m 217) 18 = some (.getfield 347, 257) := by decide +kernel
theorem at_217_21 : am_at (am_m 217) 21 = some (.iconst 0, 0) := by decide +kernel
theorem at_217_22 : am_at (am_m 217) 22 = some (.iaload, 0) := by decide +kernel
theorem at_217_23 : am_at (am_m 217) 23 = some (.invokevirtual 132, 63) := by decide +kernel
theorem at_217_26 : am_at (am_m 217) 26 = some (.getfield 144, 769) := by decide +kernel
theorem at_217_29 : am_at (am_m 217) 29 = some (.istore_n 3, 0) := by decide +kernel
theorem at_217_30 : am_at (am_m 217) 30 = some (.iconst 0, 0) := by decide +kernel
theorem at_217_31 : am_at (am_m 217) 31 = some (.istore 4, 0) := by decide +kernel
theorem at_217_33 : am_at (am_m 217) 33 = some (.iload 4, 0) := by decide +kernel
theorem at_217_35 : am_at (am_m 217) 35 = some (.aload_n 1, 0) := by decide +kernel
theorem at_217_36 : am_at (am_m 217) 36 = some (.getfield 342, 256) := by decide +kernel
theorem at_217_39 : am_at (am_m 217) 39 = some (.if_icmp .ge 182, 221) := by decide +kernel
theorem at_217_42 : am_at (am_m 217) 42 = some (.iload 4, 0) := by decide +kernel
theorem at_217_44 : am_at (am_m 217) 44 = some (.iload_n 2, 0) := by decide +kernel
theorem at_217_45 : am_at (am_m 217) 45 = some (.if_icmp .ge 25, 70) := by decide +kernel
theorem at_217_48 : am_at (am_m 217) 48 = some (.aload_n 0, 0) := by decide +kernel
theorem at_217_49 : am_at (am_m 217) 49 = some (.getfield 100, 2834) := by decide +kernel
theorem at_217_52 : am_at (am_m 217) 52 = some (.iload 4, 0) := by decide +kernel
theorem at_217_54 : am_at (am_m 217) 54 = some (.aload_n 1, 0) := by decide +kernel
theorem at_217_55 : am_at (am_m 217) 55 = some (.getfield 347, 257) := by decide +kernel
theorem at_217_58 : am_at (am_m 217) 58 = some (.aload_n 1, 0) := by decide +kernel
theorem at_217_59 : am_at (am_m 217) 59 = some (.getfield 538, 260) := by decide +kernel
theorem at_217_62 : am_at (am_m 217) 62 = some (.iload 4, 0) := by decide +kernel
theorem at_217_64 : am_at (am_m 217) 64 = some (.iaload, 0) := by decide +kernel
theorem at_217_65 : am_at (am_m 217) 65 = some (.iaload, 0) := by decide +kernel
theorem at_217_66 : am_at (am_m 217) 66 = some (.iastore, 0) := by decide +kernel
theorem at_217_67 : am_at (am_m 217) 67 = some (.goto 148, 215) := by decide +kernel
theorem at_217_70 : am_at (am_m 217) 70 = some (.aload_n 1, 0) := by decide +kernel
theorem at_217_71 : am_at (am_m 217) 71 = some (.getfield 336, 258) := by decide +kernel
theorem at_217_74 : am_at (am_m 217) 74 = some (.bipush 100, 0) := by decide +kernel
theorem at_217_76 : am_at (am_m 217) 76 = some (.invokevirtual 510, 192) := by decide +kernel
theorem at_217_79 : am_at (am_m 217) 79 = some (.aload_n 0, 0) := by decide +kernel
theorem at_217_80 : am_at (am_m 217) 80 = some (.getfield 33, 2820) := by decide +kernel
theorem at_217_83 : am_at (am_m 217) 83 = some (.iconst 3, 0) := by decide +kernel
theorem at_217_84 : am_at (am_m 217) 84 = some (.iaload, 0) := by decide +kernel
theorem at_217_85 : am_at (am_m 217) 85 = some (.if_icmp .ge 68, 153) := by decide +kernel
theorem at_217_88 : am_at (am_m 217) 88 = some (.aload_n 1, 0) := by decide +kernel
theorem at_217_89 : am_at (am_m 217) 89 = some (.aload_n 0, 0) := by decide +kernel
theorem at_217_90 : am_at (am_m 217) 90 = some (.getfield 33, 2820) := by decide +kernel
theorem at_217_93 : am_at (am_m 217) 93 = some (.iconst 4, 0) := by decide +kernel
theorem at_217_94 : am_at (am_m 217) 94 = some (.iaload, 0) := by decide +kernel
theorem at_217_95 : am_at (am_m 217) 95 = some (.aload_n 0, 0) := by decide +kernel
theorem at_217_96 : am_at (am_m 217) 96 = some (.getfield 33, 2820) := by decide +kernel
theorem at_217_99 : am_at (am_m 217) 99 = some (.iconst 2, 0) := by decide +kernel
theorem at_217_100 : am_at (am_m 217) 100 = some (.iaload, 0) := by decide +kernel
theorem at_217_101 : am_at (am_m 217) 101 = some (.invokevirtual 541, 222) := by decide +kernel
theorem at_217_104 : am_at (am_m 217) 104 = some (.istore 5, 0) := by decide +kernel
theorem at_217_106 : am_at (am_m 217) 106 = some (.aload_n 1, 0) := by decide +kernel
theorem at_217_107 : am_at (am_m 217) 107 = some (.aload_n 0, 0) := by decide +kernel
theorem at_217_108 : am_at (am_m 217) 108 = some (.getfield 33, 2820) := by decide +kernel
theorem at_217_111 : am_at (am_m 217) 111 = some (.iconst 4, 0) := by decide +kernel
theorem at_217_112 : am_at (am_m 217) 112 = some (.iaload, 0) := by decide +kernel
theorem at_217_113 : am_at (am_m 217) 113 = some (.aload_n 0, 0) := by decide +kernel
theorem at_217_114 : am_at (am_m 217) 114 = some (.getfield 33, 2820) := by decide +kernel
theorem at_217_117 : am_at (am_m 217) 117 = some (.iconst 2, 0) := by decide +kernel
theorem at_217_118 : am_at (am_m 217) 118 = some (.iaload, 0) := by decide +kernel
theorem at_217_119 : am_at (am_m 217) 119 = some (.invokevirtual 541, 222) := by decide +kernel
theorem at_217_122 : am_at (am_m 217) 122 = some (.istore 6, 0) := by decide +kernel
theorem at_217_124 : am_at (am_m 217) 124 = some (.aload_n 0, 0) := by decide +kernel
theorem at_217_125 : am_at (am_m 217) 125 = some (.getfield 100, 2834) := by decide +kernel
theorem at_217_128 : am_at (am_m 217) 128 = some (.iload 4, 0) := by decide +kernel
theorem at_217_130 : am_at (am_m 217) 130 = some (.aload_n 0, 0) := by decide +kernel
theorem at_217_131 : am_at (am_m 217) 131 = some (.iload 5, 0) := by decide +kernel
theorem at_217_133 : am_at (am_m 217) 133 = some (.iload 6, 0) := by decide +kernel
theorem at_217_135 : am_at (am_m 217) 135 = some (.iconst (-1), 0) := by decide +kernel
theorem at_217_136 : am_at (am_m 217) 136 = some (.aload_n 1, 0) := by decide +kernel
theorem at_217_137 : am_at (am_m 217) 137 = some (.getfield 336, 258) := by decide +kernel
theorem at_217_140 : am_at (am_m 217) 140 = some (.ldc2_w 544, 33) := by decide +kernel
theorem at_217_143 : am_at (am_m 217) 143 = some (.invokevirtual 520, 194) := by decide +kernel
theorem at_217_146 : am_at (am_m 217) 146 = some (.invokevirtual 324, 190) := by decide +kernel
theorem at_217_149 : am_at (am_m 217) 149 = some (.iastore, 0) := by decide +kernel
theorem at_217_150 : am_at (am_m 217) 150 = some (.goto 65, 215) := by decide +kernel
theorem at_217_153 : am_at (am_m 217) 153 = some (.aload_n 1, 0) := by decide +kernel
theorem at_217_154 : am_at (am_m 217) 154 = some (.aload_n 0, 0) := by decide +kernel
theorem at_217_155 : am_at (am_m 217) 155 = some (.getfield 33, 2820) := by decide +kernel
theorem at_217_158 : am_at (am_m 217) 158 = some (.iconst 4, 0) := by decide +kernel
theorem at_217_159 : am_at (am_m 217) 159 = some (.iaload, 0) := by decide +kernel
theorem at_217_160 : am_at (am_m 217) 160 = some (.aload_n 0, 0) := by decide +kernel
theorem at_217_161 : am_at (am_m 217) 161 = some (.getfield 33, 2820) := by decide +kernel
theorem at_217_164 : am_at (am_m 217) 164 = some (.iconst 2, 0) := by decide +kernel
theorem at_217_165 : am_at (am_m 217) 165 = some (.iaload, 0) := by decide +kernel
theorem at_217_166 : am_at (am_m 217) 166 = some (.invokevirtual 541, 222) := by decide +kernel
theorem at_217_169 : am_at (am_m 217) 169 = some (.istore 5, 0) := by decide +kernel
theorem at_217_171 : am_at (am_m 217) 171 = some (.aload_n 1, 0) := by decide +kernel
theorem at_217_172 : am_at (am_m 217) 172 = some (.getfield 336, 258) := by decide +kernel
theorem at_217_175 : am_at (am_m 217) 175 = some (.iload_n 3, 0) := by decide +kernel
theorem at_217_176 : am_at (am_m 217) 176 = some (.ifCond .ne 7, 183) := by decide +kernel
theorem at_217_179 : am_at (am_m 217) 179 = some (.iconst 5, 0) := by decide +kernel
theorem at_217_180 : am_at (am_m 217) 180 = some (.goto 4, 184) := by decide +kernel
theorem at_217_183 : am_at (am_m 217) 183 = some (.iconst 4, 0) := by decide +kernel
theorem at_217_184 : am_at (am_m 217) 184 = some (.invokevirtual 510, 192) := by decide +kernel
theorem at_217_187 : am_at (am_m 217) 187 = some (.istore 6, 0) := by decide +kernel
theorem at_217_189 : am_at (am_m 217) 189 = some (.aload_n 0, 0) := by decide +kernel
theorem at_217_190 : am_at (am_m 217) 190 = some (.getfield 100, 2834) := by decide +kernel
theorem at_217_193 : am_at (am_m 217) 193 = some (.iload 4, 0) := by decide +kernel
theorem at_217_195 : am_at (am_m 217) 195 = some (.aload_n 0, 0) := by decide +kernel
theorem at_217_196 : am_at (am_m 217) 196 = some (.iload 5, 0) := by decide +kernel
theorem at_217_198 : am_at (am_m 217) 198 = some (.iconst (-1), 0) := by decide +kernel
theorem at_217_199 : am_at (am_m 217) 199 = some (.iload 6, 0) := by decide +kernel
theorem at_217_201 : am_at (am_m 217) 201 = some (.aload_n 1, 0) := by decide +kernel
theorem at_217_202 : am_at (am_m 217) 202 = some (.getfield 336, 258) := by decide +kernel
theorem at_217_205 : am_at (am_m 217) 205 = some (.ldc2_w 544, 33) := by decide +kernel
theorem at_217_208 : am_at (am_m 217) 208 = some (.invokevirtual 520, 194) := by decide +kernel
theorem at_217_211 : am_at (am_m 217) 211 = some (.invokevirtual 324, 190) := by decide +kernel
theorem at_217_214 : am_at (am_m 217) 214 = some (.iastore, 0) := by decide +kernel
theorem at_217_215 : am_at (am_m 217) 215 = some (.iinc 4 1, 0) := by decide +kernel
theorem at_217_218 : am_at (am_m 217) 218 = some (.goto (-185), 33) := by decide +kernel
theorem at_217_221 : am_at (am_m 217) 221 = some (.aload_n 0, 0) := by decide +kernel
theorem at_217_222 : am_at (am_m 217) 222 = some (.getfield 100, 2834) := by decide +kernel
theorem at_217_225 : am_at (am_m 217) 225 = some (.iconst 0, 0) := by decide +kernel
theorem at_217_226 : am_at (am_m 217) 226 = some (.aload_n 1, 0) := by decide +kernel
theorem at_217_227 : am_at (am_m 217) 227 = some (.getfield 347, 257) := by decide +kernel
theorem at_217_230 : am_at (am_m 217) 230 = some (.iconst 0, 0) := by decide +kernel
theorem at_217_231 : am_at (am_m 217) 231 = some (.aload_n 1, 0) := by decide +kernel
theorem at_217_232 : am_at (am_m 217) 232 = some (.getfield 342, 256) := by decide +kernel
theorem at_217_235 : am_at (am_m 217) 235 = some (.invokestatic 546, 10000) := by decide +kernel
theorem at_217_238 : am_at (am_m 217) 238 = some (.return_, 0) := by decide +kernel
theorem at_218_0 : am_at (am_m 218) 0 = some (.aload_n 0, 0) := by decide +kernel
theorem at_218_1 : am_at (am_m 218) 1 = some (.aload_n 2, 0) := by decide +kernel
theorem at_218_2 : am_at (am_m 218) 2 = some (.aload_n 0, 0) := by decide +kernel
theorem at_218_3 : am_at (am_m 218) 3 = some (.getfield 42, 264) := by decide +kernel
theorem at_218_6 : am_at (am_m 218) 6 = some (.invokevirtual 48, 219) := by decide +kernel
theorem at_218_9 : am_at (am_m 218) 9 = some (.putfield 26, 259) := by decide +kernel
theorem at_218_12 : am_at (am_m 218) 12 = some (.iconst 0, 0) := by decide +kernel
theorem at_218_13 : am_at (am_m 218) 13 = some (.istore_n 3, 0) := by decide +kernel
theorem at_218_14 : am_at (am_m 218) 14 = some (.iload_n 3, 0) := by decide +kernel
theorem at_218_15 : am_at (am_m 218) 15 = some (.aload_n 0, 0) := by decide +kernel
theorem at_218_16 : am_at (am_m 218) 16 = some (.getfield 9, 256) := by decide +kernel
theorem at_218_19 : am_at (am_m 218) 19 = some (.if_icmp .ge 147, 166) := by decide +kernel
theorem at_218_22 : am_at (am_m 218) 22 = some (.aload_n 0, 0) := by decide +kernel
theorem at_218_23 : am_at (am_m 218) 23 = some (.getfield 15, 257) := by decide +kernel
theorem at_218_26 : am_at (am_m 218) 26 = some (.iload_n 3, 0) := by decide +kernel
theorem at_218_27 : am_at (am_m 218) 27 = some (.iaload, 0) := by decide +kernel
theorem at_218_28 : am_at (am_m 218) 28 = some (.istore 4, 0) := by decide +kernel
theorem at_218_30 : am_at (am_m 218) 30 = some (.iload 4, 0) := by decide +kernel
theorem at_218_32 : am_at (am_m 218) 32 = some (.ifCond .lt 17, 49) := by decide +kernel
theorem at_218_35 : am_at (am_m 218) 35 = some (.iload 4, 0) := by decide +kernel
theorem at_218_37 : am_at (am_m 218) 37 = some (.aload_n 1, 0) := by decide +kernel
theorem at_218_38 : am_at (am_m 218) 38 = some (.arraylength, 0) := by decide +kernel
theorem at_218_39 : am_at (am_m 218) 39 = some (.if_icmp .ge 10, 49) := by decide +kernel
theorem at_218_42 : am_at (am_m 218) 42 = some (.aload_n 1, 0) := by decide +kernel
theorem at_218_43 : am_at (am_m 218) 43 = some (.iload 4, 0) := by decide +kernel
theorem at_218_45 : am_at (am_m 218) 45 = some (.aaload, 0) := by decide +kernel
theorem at_218_46 : am_at (am_m 218) 46 = some (.goto 4, 50) := by decide +kernel
theorem at_218_49 : am_at (am_m 218) 49 = some (.aconst_null, 0) := by decide +kernel
theorem at_218_50 : am_at (am_m 218) 50 = some (.astore 5, 0) := by decide +kernel
theorem at_218_52 : am_at (am_m 218) 52 = some (.aload 5, 0) := by decide +kernel
theorem at_218_54 : am_at (am_m 218) 54 = some (.ifnull 30, 84) := by decide +kernel
theorem at_218_57 : am_at (am_m 218) 57 = some (.aload_n 2, 0) := by decide +kernel
theorem at_218_58 : am_at (am_m 218) 58 = some (.getfield 54, 514) := by decide +kernel
theorem at_218_61 : am_at (am_m 218) 61 = some (.aload 5, 0) := by decide +kernel
theorem at_218_63 : am_at (am_m 218) 63 = some (.invokevirtual 58, 115) := by decide +kernel
theorem at_218_66 : am_at (am_m 218) 66 = some (.aload_n 0, 0) := by decide +kernel
theorem at_218_67 : am_at (am_m 218) 67 = some (.getfield 36, 262) := by decide +kernel
theorem at_218_70 : am_at (am_m 218) 70 = some (.iload_n 3, 0) := by decide +kernel
theorem at_218_71 : am_at (am_m 218) 71 = some (.aload 5, 0) := by decide +kernel
theorem at_218_73 : am_at (am_m 218) 73 = some (.getfield 64, 771) := by decide +kernel
theorem at_218_76 : am_at (am_m 218) 76 = some (.iastore, 0) := by decide +kernel
theorem at_218_77 : am_at (am_m 218) 77 = some (.aload_n 0, 0) := by decide +kernel
theorem at_218_78 : am_at (am_m 218) 78 = some (.getfield 32, 261) := by decide +kernel
theorem at_218_81 : am_at (am_m 218) 81 = some (.iload_n 3, 0) := by decide +kernel
theorem at_218_82 : am_at (am_m 218) 82 = some (.lconst 0, 0) := by decide +kernel
theorem at_218_83 : am_at (am_m 218) 83 = some (.lastore, 0) := by decide +kernel
theorem at_218_84 : am_at (am_m 218) 84 = some (.iconst 0, 0) := by decide +kernel
theorem at_218_85 : am_at (am_m 218) 85 = some (.istore 6, 0) := by decide +kernel
theorem at_218_87 : am_at (am_m 218) 87 = some (.aload 5, 0) := by decide +kernel
theorem at_218_89 : am_at (am_m 218) 89 = some (.ifnull 71, 160) := by decide +kernel
theorem at_218_92 : am_at (am_m 218) 92 = some (.iload 6, 0) := by decide +kernel
theorem at_218_94 : am_at (am_m 218) 94 = some (.aload_n 0, 0) := by decide +kernel
theorem at_218_95 : am_at (am_m 218) 95 = some (.getfield 26, 259) := by decide +kernel
theorem at_218_98 : am_at (am_m 218) 98 = some (.if_icmp .ge 62, 160) := by decide +kernel
theorem at_218_101 : am_at (am_m 218) 101 = some (.aload_n 2, 0) := by decide +kernel
theorem at_218_102 : am_at (am_m 218) 102 = some (.aload_n 0, 0) := by decide +kernel
theorem at_218_103 : am_at (am_m 218) 103 = some (.getfield 42, 264) := by decide +kernel
theorem at_218_106 : am_at (am_m 218) 106 = some (.iload 6, 0) := by decide +kernel
theorem at_218_108 : am_at (am_m 218) 108 = some (.iaload, 0) := by decide +kernel
theorem at_218_109 : am_at (am_m 218) 109 = some (.invokevirtual 69, 133) := by decide +kernel
theorem at_218_112 : am_at (am_m 218) 112 = some (.istore 7, 0) := by decide +kernel
theorem at_218_114 : am_at (am_m 218) 114 = some (.aload_n 0, 0) := by decide +kernel
theorem at_218_115 : am_at (am_m 218) 115 = some (.getfield 39, 263) := by decide +kernel
theorem at_218_118 : am_at (am_m 218) 118 = some (.iload_n 3, 0) := by decide +kernel
theorem at_218_119 : am_at (am_m 218) 119 = some (.bipush 24, 0) := by decide +kernel
theorem at_218_121 : am_at (am_m 218) 121 = some (.imul, 0) := by decide +kernel
theorem at_218_122 : am_at (am_m 218) 122 = some (.iload 6, 0) := by decide +kernel
theorem at_218_124 : am_at (am_m 218) 124 = some (.iadd, 0) := by decide +kernel
theorem at_218_125 : am_at (am_m 218) 125 = some (.iload 7, 0) := by decide +kernel
theorem at_218_127 : am_at (am_m 218) 127 = some (.iastore, 0) := by decide +kernel
theorem at_218_128 : am_at (am_m 218) 128 = some (.aload_n 0, 0) := by decide +kernel
theorem at_218_129 : am_at (am_m 218) 129 = some (.getfield 32, 261) := by decide +kernel
theorem at_218_132 : am_at (am_m 218) 132 = some (.iload_n 3, 0) := by decide +kernel
theorem at_218_133 : am_at (am_m 218) 133 = some (.dup2, 0) := by decide +kernel
theorem at_218_134 : am_at (am_m 218) 134 = some (.laload, 0) := by decide +kernel
theorem at_218_135 : am_at (am_m 218) 135 = some (.aload_n 2, 0) := by decide +kernel
theorem at_218_136 : am_at (am_m 218) 136 = some (.aload_n 0, 0) := by decide +kernel
theorem at_218_137 : am_at (am_m 218) 137 = some (.getfield 42, 264) := by decide +kernel
theorem at_218_140 : am_at (am_m 218) 140 = some (.iload 6, 0) := by decide +kernel
theorem at_218_142 : am_at (am_m 218) 142 = some (.iaload, 0) := by decide +kernel
theorem at_218_143 : am_at (am_m 218) 143 = some (.iconst 4, 0) := by decide +kernel
theorem at_218_144 : am_at (am_m 218) 144 = some (.invokevirtual 73, 112) := by decide +kernel
theorem at_218_147 : am_at (am_m 218) 147 = some (.i2l, 0) := by decide +kernel
theorem at_218_148 : am_at (am_m 218) 148 = some (.iload 7, 0) := by decide +kernel
theorem at_218_150 : am_at (am_m 218) 150 = some (.i2l, 0) := by decide +kernel
theorem at_218_151 : am_at (am_m 218) 151 = some (.lmul, 0) := by decide +kernel
theorem at_218_152 : am_at (am_m 218) 152 = some (.ladd, 0) := by decide +kernel
theorem at_218_153 : am_at (am_m 218) 153 = some (.lastore, 0) := by decide +kernel
theorem at_218_154 : am_at (am_m 218) 154 = some (.iinc 6 1, 0) := by decide +kernel
theorem at_218_157 : am_at (am_m 218) 157 = some (.goto (-70), 87) := by decide +kernel
theorem at_218_160 : am_at (am_m 218) 160 = some (.iinc 3 1, 0) := by decide +kernel
theorem at_218_163 : am_at (am_m 218) 163 = some (.goto (-149), 14) := by decide +kernel
theorem at_218_166 : am_at (am_m 218) 166 = some (.return_, 0) := by decide +kernel
theorem at_219_0 : am_at (am_m 219) 0 = some (.iconst 0, 0) := by decide +kernel
theorem at_219_1 : am_at (am_m 219) 1 = some (.istore_n 2, 0) := by decide +kernel
theorem at_219_2 : am_at (am_m 219) 2 = some (.iconst 0, 0) := by decide +kernel
theorem at_219_3 : am_at (am_m 219) 3 = some (.istore_n 3, 0) := by decide +kernel
theorem at_219_4 : am_at (am_m 219) 4 = some (.iload_n 3, 0) := by decide +kernel
theorem at_219_5 : am_at (am_m 219) 5 = some (.aload_n 0, 0) := by decide +kernel
theorem at_219_6 : am_at (am_m 219) 6 = some (.getfield 15, 513) := by decide +kernel
theorem at_219_9 : am_at (am_m 219) 9 = some (.if_icmp .ge 31, 40) := by decide +kernel
theorem at_219_12 : am_at (am_m 219) 12 = some (.iload_n 2, 0) := by decide +kernel
theorem at_219_13 : am_at (am_m 219) 13 = some (.aload_n 1, 0) := by decide +kernel
theorem at_219_14 : am_at (am_m 219) 14 = some (.arraylength, 0) := by decide +kernel
theorem at_219_15 : am_at (am_m 219) 15 = some (.if_icmp .ge 25, 40) := by decide +kernel
theorem at_219_18 : am_at (am_m 219) 18 = some (.aload_n 0, 0) := by decide +kernel
theorem at_219_19 : am_at (am_m 219) 19 = some (.iload_n 3, 0) := by decide +kernel
theorem at_219_20 : am_at (am_m 219) 20 = some (.iconst 0, 0) := by decide +kernel
theorem at_219_21 : am_at (am_m 219) 21 = some (.invokevirtual 49, 141) := by decide +kernel
theorem at_219_24 : am_at (am_m 219) 24 = some (.ifCond .eq 10, 34) := by decide +kernel
theorem at_219_27 : am_at (am_m 219) 27 = some (.aload_n 1, 0) := by decide +kernel
theorem at_219_28 : am_at (am_m 219) 28 = some (.iload_n 2, 0) := by decide +kernel
theorem at_219_29 : am_at (am_m 219) 29 = some (.iload_n 3, 0) := by decide +kernel
theorem at_219_30 : am_at (am_m 219) 30 = some (.iastore, 0) := by decide +kernel
theorem at_219_31 : am_at (am_m 219) 31 = some (.iinc 2 1, 0) := by decide +kernel
theorem at_219_34 : am_at (am_m 219) 34 = some (.iinc 3 1, 0) := by decide +kernel
theorem at_219_37 : am_at (am_m 219) 37 = some (.goto (-33), 4) := by decide +kernel
theorem at_219_40 : am_at (am_m 219) 40 = some (.iload_n 2, 0) := by decide +kernel
theorem at_219_41 : am_at (am_m 219) 41 = some (.ireturn, 0) := by decide +kernel
theorem at_220_0 : am_at (am_m 220) 0 = some (.iconst 0, 0) := by decide +kernel
theorem at_220_1 : am_at (am_m 220) 1 = some (.istore_n 1, 0) := by decide +kernel
theorem at_220_2 : am_at (am_m 220) 2 = some (.iload_n 1, 0) := by decide +kernel
theorem at_220_3 : am_at (am_m 220) 3 = some (.aload_n 0, 0) := by decide +kernel
theorem at_220_4 : am_at (am_m 220) 4 = some (.getfield 9, 256) := by decide +kernel
theorem at_220_7 : am_at (am_m 220) 7 = some (.if_icmp .ge 51, 58) := by decide +kernel
theorem at_220_10 : am_at (am_m 220) 10 = some (.iconst 0, 0) := by decide +kernel
theorem at_220_11 : am_at (am_m 220) 11 = some (.istore_n 2, 0) := by decide +kernel
theorem at_220_12 : am_at (am_m 220) 12 = some (.iconst 0, 0) := by decide +kernel
theorem at_220_13 : am_at (am_m 220) 13 = some (.istore_n 3, 0) := by decide +kernel
theorem at_220_14 : am_at (am_m 220) 14 = some (.iload_n 3, 0) := by decide +kernel
theorem at_220_15 : am_at (am_m 220) 15 = some (.aload_n 0, 0) := by decide +kernel
theorem at_220_16 : am_at (am_m 220) 16 = some (.getfield 9, 256) := by decide +kernel
theorem at_220_19 : am_at (am_m 220) 19 = some (.if_icmp .ge 26, 45) := by decide +kernel
theorem at_220_22 : am_at (am_m 220) 22 = some (.iload_n 2, 0) := by decide +kernel
theorem at_220_23 : am_at (am_m 220) 23 = some (.aload_n 0, 0) := by decide +kernel
theorem at_220_24 : am_at (am_m 220) 24 = some (.iload_n 3, 0) := by decide +kernel
theorem at_220_25 : am_at (am_m 220) 25 = some (.iload_n 1, 0) := by decide +kernel
theorem at_220_26 : am_at (am_m 220) 26 = some (.invokevirtual 77, 221) := by decide +kernel
theorem at_220_29 : am_at (am_m 220) 29 = some (.ifCond .eq 7, 36) := by decide +kernel
theorem at_220_32 : am_at (am_m 220) 32 = some (.iconst 1, 0) := by decide +kernel
theorem at_220_33 : am_at (am_m 220) 33 = some (.goto 4, 37) := by decide +kernel
theorem at_220_36 : am_at (am_m 220) 36 = some (.iconst 0, 0) := by decide +kernel
theorem at_220_37 : am_at (am_m 220) 37 = some (.iadd, 0) := by decide +kernel
theorem at_220_38 : am_at (am_m 220) 38 = some (.istore_n 2, 0) := by decide +kernel
theorem at_220_39 : am_at (am_m 220) 39 = some (.iinc 3 1, 0) := by decide +kernel
theorem at_220_42 : am_at (am_m 220) 42 = some (.goto (-28), 14) := by decide +kernel
theorem at_220_45 : am_at (am_m 220) 45 = some (.aload_n 0, 0) := by decide +kernel
theorem at_220_46 : am_at (am_m 220) 46 = some (.getfield 29, 260) := by decide +kernel
theorem at_220_49 : am_at (am_m 220) 49 = some (.iload_n 2, 0) := by decide +kernel
theorem at_220_50 : am_at (am_m 220) 50 = some (.iload_n 1, 0) := by decide +kernel
theorem at_220_51 : am_at (am_m 220) 51 = some (.iastore, 0) := by decide +kernel
theorem at_220_52 : am_at (am_m 220) 52 = some (.iinc 1 1, 0) := by decide +kernel
theorem at_220_55 : am_at (am_m 220) 55 = some (.goto (-53), 2) := by decide +kernel
theorem at_220_58 : am_at (am_m 220) 58 = some (.return_, 0) := by decide +kernel
theorem at_221_0 : am_at (am_m 221) 0 = some (.aload_n 0, 0) := by decide +kernel
theorem at_221_1 : am_at (am_m 221) 1 = some (.getfield 32, 261) := by decide +kernel
theorem at_221_4 : am_at (am_m 221) 4 = some (.iload_n 1, 0) := by decide +kernel
theorem at_221_5 : am_at (am_m 221) 5 = some (.laload, 0) := by decide +kernel
theorem at_221_6 : am_at (am_m 221) 6 = some (.aload_n 0, 0) := by decide +kernel
theorem at_221_7 : am_at (am_m 221) 7 = some (.getfield 32, 261) := by decide +kernel
theorem at_221_10 : am_at (am_m 221) 10 = some (.iload_n 2, 0) := by decide +kernel
theorem at_221_11 : am_at (am_m 221) 11 = some (.laload, 0) := by decide +kernel
theorem at_221_12 : am_at (am_m 221) 12 = some (.lcmp, 0) := by decide +kernel
theorem at_221_13 : am_at (am_m 221) 13 = some (.ifCond .eq 25, 38) := by decide +kernel
theorem at_221_16 : am_at (am_m 221) 16 = some (.aload_n 0, 0) := by decide +kernel
theorem at_221_17 : am_at (am_m 221) 17 = some (.getfield 32, 261) := by decide +kernel
theorem at_221_20 : am_at (am_m 221) 20 = some (.iload_n 1, 0) := by decide +kernel
theorem at_221_21 : am_at (am_m 221) 21 = some (.laload, 0) := by decide +kernel
theorem at_221_22 : am_at (am_m 221) 22 = some (.aload_n 0, 0) := by decide +kernel
theorem at_221_23 : am_at (am_m 221) 23 = some (.getfield 32, 261) := by decide +kernel
theorem at_221_26 : am_at (am_m 221) 26 = some (.iload_n 2, 0) := by decide +kernel
theorem at_221_27 : am_at (am_m 221) 27 = some (.laload, 0) := by decide +kernel
theorem at_221_28 : am_at (am_m 221) 28 = some (.lcmp, 0) := by decide +kernel
theorem at_221_29 : am_at (am_m 221) 29 = some (.ifCond .ge 7, 36) := by decide +kernel
theorem at_221_32 : am_at (am_m 221) 32 = some (.iconst 1, 0) := by decide +kernel
theorem at_221_33 : am_at (am_m 221) 33 = some (.goto 4, 37) := by decide +kernel
theorem at_221_36 : am_at (am_m 221) 36 = some (.iconst 0, 0) := by decide +kernel
theorem at_221_37 : am_at (am_m 221) 37 = some (.ireturn, 0) := by decide +kernel
theorem at_221_38 : am_at (am_m 221) 38 = some (.aload_n 0, 0) := by decide +kernel
theorem at_221_39 : am_at (am_m 221) 39 = some (.getfield 36, 262) := by decide +kernel
theorem at_221_42 : am_at (am_m 221) 42 = some (.iload_n 1, 0) := by decide +kernel
theorem at_221_43 : am_at (am_m 221) 43 = some (.iaload, 0) := by decide +kernel
theorem at_221_44 : am_at (am_m 221) 44 = some (.aload_n 0, 0) := by decide +kernel
theorem at_221_45 : am_at (am_m 221) 45 = some (.getfield 36, 262) := by decide +kernel
theorem at_221_48 : am_at (am_m 221) 48 = some (.iload_n 2, 0) := by decide +kernel
theorem at_221_49 : am_at (am_m 221) 49 = some (.iaload, 0) := by decide +kernel
theorem at_221_50 : am_at (am_m 221) 50 = some (.if_icmp .eq 24, 74) := by decide +kernel
theorem at_221_53 : am_at (am_m 221) 53 = some (.aload_n 0, 0) := by decide +kernel
theorem at_221_54 : am_at (am_m 221) 54 = some (.getfield 36, 262) := by decide +kernel
theorem at_221_57 : am_at (am_m 221) 57 = some (.iload_n 1, 0) := by decide +kernel
theorem at_221_58 : am_at (am_m 221) 58 = some (.iaload, 0) := by decide +kernel
theorem at_221_59 : am_at (am_m 221) 59 = some (.aload_n 0, 0) := by decide +kernel
theorem at_221_60 : am_at (am_m 221) 60 = some (.getfield 36, 262) := by decide +kernel
theorem at_221_63 : am_at (am_m 221) 63 = some (.iload_n 2, 0) := by decide +kernel
theorem at_221_64 : am_at (am_m 221) 64 = some (.iaload, 0) := by decide +kernel
theorem at_221_65 : am_at (am_m 221) 65 = some (.if_icmp .ge 7, 72) := by decide +kernel
theorem at_221_68 : am_at (am_m 221) 68 = some (.iconst 1, 0) := by decide +kernel
theorem at_221_69 : am_at (am_m 221) 69 = some (.goto 4, 73) := by decide +kernel
theorem at_221_72 : am_at (am_m 221) 72 = some (.iconst 0, 0) := by decide +kernel
theorem at_221_73 : am_at (am_m 221) 73 = some (.ireturn, 0) := by decide +kernel
theorem at_221_74 : am_at (am_m 221) 74 = some (.aload_n 0, 0) := by decide +kernel
theorem at_221_75 : am_at (am_m 221) 75 = some (.getfield 15, 257) := by decide +kernel
theorem at_221_78 : am_at (am_m 221) 78 = some (.iload_n 1, 0) := by decide +kernel
theorem at_221_79 : am_at (am_m 221) 79 = some (.iaload, 0) := by decide +kernel
theorem at_221_80 : am_at (am_m 221) 80 = some (.aload_n 0, 0) := by decide +kernel
theorem at_221_81 : am_at (am_m 221) 81 = some (.getfield 15, 257) := by decide +kernel
theorem at_221_84 : am_at (am_m 221) 84 = some (.iload_n 2, 0) := by decide +kernel
theorem at_221_85 : am_at (am_m 221) 85 = some (.iaload, 0) := by decide +kernel
theorem at_221_86 : am_at (am_m 221) 86 = some (.if_icmp .eq 26, 112) := by decide +kernel
theorem at_221_89 : am_at (am_m 221) 89 = some (.aload_n 0, 0) := by decide +kernel
theorem at_221_90 : am_at (am_m 221) 90 = some (.getfield 15, 257) := by decide +kernel
theorem at_221_93 : am_at (am_m 221) 93 = some (.iload_n 1, 0) := by decide +kernel
theorem at_221_94 : am_at (am_m 221) 94 = some (.iaload, 0) := by decide +kernel
theorem at_221_95 : am_at (am_m 221) 95 = some (.aload_n 0, 0) := by decide +kernel
theorem at_221_96 : am_at (am_m 221) 96 = some (.getfield 15, 257) := by decide +kernel
theorem at_221_99 : am_at (am_m 221) 99 = some (.iload_n 2, 0) := by decide +kernel
theorem at_221_100 : am_at (am_m 221) 100 = some (.iaload, 0) := by decide +kernel
theorem at_221_101 : am_at (am_m 221) 101 = some (.if_icmp .ge 7, 108) := by decide +kernel
theorem at_221_104 : am_at (am_m 221) 104 = some (.iconst 1, 0) := by decide +kernel
theorem at_221_105 : am_at (am_m 221) 105 = some (.goto 17, 122) := by decide +kernel
theorem at_221_108 : am_at (am_m 221) 108 = some (.iconst 0, 0) := by decide +kernel
theorem at_221_109 : am_at (am_m 221) 109 = some (.goto 13, 122) := by decide +kernel
theorem at_221_112 : am_at (am_m 221) 112 = some (.iload_n 1, 0) := by decide +kernel
theorem at_221_113 : am_at (am_m 221) 113 = some (.iload_n 2, 0) := by decide +kernel
theorem at_221_114 : am_at (am_m 221) 114 = some (.if_icmp .ge 7, 121) := by decide +kernel
theorem at_221_117 : am_at (am_m 221) 117 = some (.iconst 1, 0) := by decide +kernel
theorem at_221_118 : am_at (am_m 221) 118 = some (.goto 4, 122) := by decide +kernel
theorem at_221_121 : am_at (am_m 221) 121 = some (.iconst 0, 0) := by decide +kernel
theorem at_221_122 : am_at (am_m 221) 122 = some (.ireturn, 0) := by decide +kernel
theorem at_222_0 : am_at (am_m 222) 0 = some (.iload_n 1, 0) := by decide +kernel
theorem at_222_1 : am_at (am_m 222) 1 = some (.ifCond .ne 11, 12) := by decide +kernel
theorem at_222_4 : am_at (am_m 222) 4 = some (.aload_n 0, 0) := by decide +kernel
theorem at_222_5 : am_at (am_m 222) 5 = some (.iload_n 2, 0) := by decide +kernel
theorem at_222_6 : am_at (am_m 222) 6 = some (.invokevirtual 85, 223) := by decide +kernel
theorem at_222_9 : am_at (am_m 222) 9 = some (.goto 30, 39) := by decide +kernel
theorem at_222_12 : am_at (am_m 222) 12 = some (.iload_n 1, 0) := by decide +kernel
theorem at_222_13 : am_at (am_m 222) 13 = some (.iconst 1, 0) := by decide +kernel
theorem at_222_14 : am_at (am_m 222) 14 = some (.if_icmp .ne 10, 24) := by decide +kernel
theorem at_222_17 : am_at (am_m 222) 17 = some (.aload_n 0, 0) := by decide +kernel
theorem at_222_18 : am_at (am_m 222) 18 = some (.invokevirtual 88, 224) := by decide +kernel
theorem at_222_21 : am_at (am_m 222) 21 = some (.goto 18, 39) := by decide +kernel
theorem at_222_24 : am_at (am_m 222) 24 = some (.aload_n 0, 0) := by decide +kernel
theorem at_222_25 : am_at (am_m 222) 25 = some (.aload_n 0, 0) := by decide +kernel
theorem at_222_26 : am_at (am_m 222) 26 = some (.getfield 22, 258) := by decide +kernel
theorem at_222_29 : am_at (am_m 222) 29 = some (.aload_n 0, 0) := by decide +kernel
theorem at_222_30 : am_at (am_m 222) 30 = some (.invokevirtual 92, 227) := by decide +kernel
theorem at_222_33 : am_at (am_m 222) 33 = some (.invokevirtual 95, 192) := by decide +kernel
theorem at_222_36 : am_at (am_m 222) 36 = some (.invokevirtual 98, 229) := by decide +kernel
theorem at_222_39 : am_at (am_m 222) 39 = some (.istore_n 3, 0) := by decide +kernel
theorem at_222_40 : am_at (am_m 222) 40 = some (.iload_n 3, 0) := by decide +kernel
theorem at_222_41 : am_at (am_m 222) 41 = some (.ifCond .lt 20, 61) := by decide +kernel
theorem at_222_44 : am_at (am_m 222) 44 = some (.iload_n 3, 0) := by decide +kernel
theorem at_222_45 : am_at (am_m 222) 45 = some (.aload_n 0, 0) := by decide +kernel
theorem at_222_46 : am_at (am_m 222) 46 = some (.getfield 9, 256) := by decide +kernel
theorem at_222_49 : am_at (am_m 222) 49 = some (.if_icmp .ge 12, 61) := by decide +kernel
theorem at_222_52 : am_at (am_m 222) 52 = some (.aload_n 0, 0) := by decide +kernel
theorem at_222_53 : am_at (am_m 222) 53 = some (.getfield 15, 257) := by decide +kernel
theorem at_222_56 : am_at (am_m 222) 56 = some (.iload_n 3, 0) := by decide +kernel
theorem at_222_57 : am_at (am_m 222) 57 = some (.iaload, 0) := by decide +kernel
theorem at_222_58 : am_at (am_m 222) 58 = some (.goto 9, 67) := by decide +kernel
theorem at_222_61 : am_at (am_m 222) 61 = some (.aload_n 0, 0) := by decide +kernel
theorem at_222_62 : am_at (am_m 222) 62 = some (.getfield 15, 257) := by decide +kernel
theorem at_222_65 : am_at (am_m 222) 65 = some (.iconst 0, 0) := by decide +kernel
theorem at_222_66 : am_at (am_m 222) 66 = some (.iaload, 0) := by decide +kernel
theorem at_222_67 : am_at (am_m 222) 67 = some (.ireturn, 0) := by decide +kernel
theorem at_223_0 : am_at (am_m 223) 0 = some (.aload_n 0, 0) := by decide +kernel
theorem at_223_1 : am_at (am_m 223) 1 = some (.getfield 22, 258) := by decide +kernel
theorem at_223_4 : am_at (am_m 223) 4 = some (.aload_n 0, 0) := by decide +kernel
theorem at_223_5 : am_at (am_m 223) 5 = some (.getfield 9, 256) := by decide +kernel
theorem at_223_8 : am_at (am_m 223) 8 = some (.invokevirtual 95, 192) := by decide +kernel
theorem at_223_11 : am_at (am_m 223) 11 = some (.istore_n 2, 0) := by decide +kernel
theorem at_223_12 : am_at (am_m 223) 12 = some (.iconst 1, 0) := by decide +kernel
theorem at_223_13 : am_at (am_m 223) 13 = some (.istore_n 3, 0) := by decide +kernel
theorem at_223_14 : am_at (am_m 223) 14 = some (.iload_n 3, 0) := by decide +kernel
theorem at_223_15 : am_at (am_m 223) 15 = some (.iload_n 1, 0) := by decide +kernel
theorem at_223_16 : am_at (am_m 223) 16 = some (.if_icmp .ge 39, 55) := by decide +kernel
theorem at_223_19 : am_at (am_m 223) 19 = some (.aload_n 0, 0) := by decide +kernel
theorem at_223_20 : am_at (am_m 223) 20 = some (.getfield 22, 258) := by decide +kernel
theorem at_223_23 : am_at (am_m 223) 23 = some (.aload_n 0, 0) := by decide +kernel
theorem at_223_24 : am_at (am_m 223) 24 = some (.getfield 9, 256) := by decide +kernel
theorem at_223_27 : am_at (am_m 223) 27 = some (.invokevirtual 95, 192) := by decide +kernel
theorem at_223_30 : am_at (am_m 223) 30 = some (.istore 4, 0) := by decide +kernel
theorem at_223_32 : am_at (am_m 223) 32 = some (.aload_n 0, 0) := by decide +kernel
theorem at_223_33 : am_at (am_m 223) 33 = some (.iload 4, 0) := by decide +kernel
theorem at_223_35 : am_at (am_m 223) 35 = some (.iload_n 2, 0) := by decide +kernel
theorem at_223_36 : am_at (am_m 223) 36 = some (.invokevirtual 77, 221) := by decide +kernel
theorem at_223_39 : am_at (am_m 223) 39 = some (.ifCond .eq 8, 47) := by decide +kernel
theorem at_223_42 : am_at (am_m 223) 42 = some (.iload 4, 0) := by decide +kernel
theorem at_223_44 : am_at (am_m 223) 44 = some (.goto 4, 48) := by decide +kernel
theorem at_223_47 : am_at (am_m 223) 47 = some (.iload_n 2, 0) := by decide +kernel
theorem at_223_48 : am_at (am_m 223) 48 = some (.istore_n 2, 0) := by decide +kernel
theorem at_223_49 : am_at (am_m 223) 49 = some (.iinc 3 1, 0) := by decide +kernel
theorem at_223_52 : am_at (am_m 223) 52 = some (.goto (-38), 14) := by decide +kernel
theorem at_223_55 : am_at (am_m 223) 55 = some (.iload_n 2, 0) := by decide +kernel
theorem at_223_56 : am_at (am_m 223) 56 = some (.ireturn, 0) := by decide +kernel
theorem at_224_0 : am_at (am_m 224) 0 = some (.iconst 0, 0) := by decide +kernel
theorem at_224_1 : am_at (am_m 224) 1 = some (.istore_n 1, 0) := by decide +kernel
theorem at_224_2 : am_at (am_m 224) 2 = some (.iload_n 1, 0) := by decide +kernel
theorem at_224_3 : am_at (am_m 224) 3 = some (.aload_n 0, 0) := by decide +kernel
theorem at_224_4 : am_at (am_m 224) 4 = some (.getfield 26, 259) := by decide +kernel
theorem at_224_7 : am_at (am_m 224) 7 = some (.if_icmp .ge 16, 23) := by decide +kernel
theorem at_224_10 : am_at (am_m 224) 10 = some (.aload_n 0, 0) := by decide +kernel
theorem at_224_11 : am_at (am_m 224) 11 = some (.getfield 45, 265) := by decide +kernel
theorem at_224_14 : am_at (am_m 224) 14 = some (.iload_n 1, 0) := by decide +kernel
theorem at_224_15 : am_at (am_m 224) 15 = some (.iload_n 1, 0) := by decide +kernel
theorem at_224_16 : am_at (am_m 224) 16 = some (.iastore, 0) := by decide +kernel
theorem at_224_17 : am_at (am_m 224) 17 = some (.iinc 1 1, 0) := by decide +kernel
theorem at_224_20 : am_at (am_m 224) 20 = some (.goto (-18), 2) := by decide +kernel
theorem at_224_23 : am_at (am_m 224) 23 = some (.aload_n 0, 0) := by decide +kernel
theorem at_224_24 : am_at (am_m 224) 24 = some (.getfield 26, 259) := by decide +kernel
theorem at_224_27 : am_at (am_m 224) 27 = some (.iconst 1, 0) := by decide +kernel
theorem at_224_28 : am_at (am_m 224) 28 = some (.isub, 0) := by decide +kernel
theorem at_224_29 : am_at (am_m 224) 29 = some (.istore_n 1, 0) := by decide +kernel
theorem at_224_30 : am_at (am_m 224) 30 = some (.iload_n 1, 0) := by decide +kernel
theorem at_224_31 : am_at (am_m 224) 31 = some (.iconst 1, 0) := by decide +kernel
theorem at_224_32 : am_at (am_m 224) 32 = some (.if_icmp .lt 46, 78) := by decide +kernel
theorem at_224_35 : am_at (am_m 224) 35 = some (.aload_n 0, 0) := by decide +kernel
theorem at_224_36 : am_at (am_m 224) 36 = some (.getfield 22, 258) := by decide +kernel
theorem at_224_39 : am_at (am_m 224) 39 = some (.iload_n 1, 0) := by decide +kernel
theorem at_224_40 : am_at (am_m 224) 40 = some (.iconst 1, 0) := by decide +kernel
theorem at_224_41 : am_at (am_m 224) 41 = some (.iadd, 0) := by decide +kernel
theorem at_224_42 : am_at (am_m 224) 42 = some (.invokevirtual 95, 192) := by decide +kernel
theorem at_224_45 : am_at (am_m 224) 45 = some (.istore_n 2, 0) := by decide +kernel
theorem at_224_46 : am_at (am_m 224) 46 = some (.aload_n 0, 0) := by decide +kernel
theorem at_224_47 : am_at (am_m 224) 47 = some (.getfield 45, 265) := by decide +kernel
theorem at_224_50 : am_at (am_m 224) 50 = some (.iload_n 1, 0) := by decide +kernel
theorem at_224_51 : am_at (am_m 224) 51 = some (.iaload, 0) := by decide +kernel
theorem at_224_52 : am_at (am_m 224) 52 = some (.istore_n 3, 0) := by decide +kernel
theorem at_224_53 : am_at (am_m 224) 53 = some (.aload_n 0, 0) := by decide +kernel
theorem at_224_54 : am_at (am_m 224) 54 = some (.getfield 45, 265) := by decide +kernel
theorem at_224_57 : am_at (am_m 224) 57 = some (.iload_n 1, 0) := by decide +kernel
theorem at_224_58 : am_at (am_m 224) 58 = some (.aload_n 0, 0) := by decide +kernel
theorem at_224_59 : am_at (am_m 224) 59 = some (.getfield 45, 265) := by decide +kernel
theorem at_224_62 : am_at (am_m 224) 62 = some (.iload_n 2, 0) := by decide +kernel
theorem at_224_63 : am_at (am_m 224) 63 = some (.iaload, 0) := by decide +kernel
theorem at_224_64 : am_at (am_m 224) 64 = some (.iastore, 0) := by decide +kernel
theorem at_224_65 : am_at (am_m 224) 65 = some (.aload_n 0, 0) := by decide +kernel
theorem at_224_66 : am_at (am_m 224) 66 = some (.getfield 45, 265) := by decide +kernel
theorem at_224_69 : am_at (am_m 224) 69 = some (.iload_n 2, 0) := by decide +kernel
theorem at_224_70 : am_at (am_m 224) 70 = some (.iload_n 3, 0) := by decide +kernel
theorem at_224_71 : am_at (am_m 224) 71 = some (.iastore, 0) := by decide +kernel
theorem at_224_72 : am_at (am_m 224) 72 = some (.iinc 1 (-1), 0) := by decide +kernel
theorem at_224_75 : am_at (am_m 224) 75 = some (.goto (-45), 30) := by decide +kernel
theorem at_224_78 : am_at (am_m 224) 78 = some (.iconst 1, 0) := by decide +kernel
theorem at_224_79 : am_at (am_m 224) 79 = some (.aload_n 0, 0) := by decide +kernel
theorem at_224_80 : am_at (am_m 224) 80 = some (.getfield 9, 256) := by decide +kernel
theorem at_224_83 : am_at (am_m 224) 83 = some (.ishl, 0) := by decide +kernel
theorem at_224_84 : am_at (am_m 224) 84 = some (.iconst 1, 0) := by decide +kernel
theorem at_224_85 : am_at (am_m 224) 85 = some (.isub, 0) := by decide +kernel
theorem at_224_86 : am_at (am_m 224) 86 = some (.istore_n 1, 0) := by decide +kernel
theorem at_224_87 : am_at (am_m 224) 87 = some (.iconst 0, 0) := by decide +kernel
theorem at_224_88 : am_at (am_m 224) 88 = some (.istore_n 2, 0) := by decide +kernel
theorem at_224_89 : am_at (am_m 224) 89 = some (.iload_n 2, 0) := by decide +kernel
theorem at_224_90 : am_at (am_m 224) 90 = some (.aload_n 0, 0) := by decide +kernel
theorem at_224_91 : am_at (am_m 224) 91 = some (.getfield 26, 259) := by decide +kernel
theorem at_224_94 : am_at (am_m 224) 94 = some (.if_icmp .ge 21, 115) := by decide +kernel
theorem at_224_97 : am_at (am_m 224) 97 = some (.aload_n 0, 0) := by decide +kernel
theorem at_224_98 : am_at (am_m 224) 98 = some (.iload_n 1, 0) := by decide +kernel
theorem at_224_99 : am_at (am_m 224) 99 = some (.aload_n 0, 0) := by decide +kernel
theorem at_224_100 : am_at (am_m 224) 100 = some (.getfield 45, 265) := by decide +kernel
theorem at_224_103 : am_at (am_m 224) 103 = some (.iload_n 2, 0) := by decide +kernel
theorem at_224_104 : am_at (am_m 224) 104 = some (.iaload, 0) := by decide +kernel
theorem at_224_105 : am_at (am_m 224) 105 = some (.invokevirtual 101, 225) := by decide +kernel
theorem at_224_108 : am_at (am_m 224) 108 = some (.istore_n 1, 0) := by decide +kernel
theorem at_224_109 : am_at (am_m 224) 109 = some (.iinc 2 1, 0) := by decide +kernel
theorem at_224_112 : am_at (am_m 224) 112 = some (.goto (-23), 89) := by decide +kernel
theorem at_224_115 : am_at (am_m 224) 115 = some (.aload_n 0, 0) := by decide +kernel
theorem at_224_116 : am_at (am_m 224) 116 = some (.iload_n 1, 0) := by decide +kernel
theorem at_224_117 : am_at (am_m 224) 117 = some (.invokevirtual 104, 226) := by decide +kernel
theorem at_224_120 : am_at (am_m 224) 120 = some (.ireturn, 0) := by decide +kernel
theorem at_225_0 : am_at (am_m 225) 0 = some (.ldc 107, 18) := by decide +kernel
theorem at_225_2 : am_at (am_m 225) 2 = some (.istore_n 3, 0) := by decide +kernel
theorem at_225_3 : am_at (am_m 225) 3 = some (.iconst 0, 0) := by decide +kernel
theorem at_225_4 : am_at (am_m 225) 4 = some (.istore 4, 0) := by decide +kernel
theorem at_225_6 : am_at (am_m 225) 6 = some (.iconst 0, 0) := by decide +kernel
theorem at_225_7 : am_at (am_m 225) 7 = some (.istore 5, 0) := by decide +kernel
theorem at_225_9 : am_at (am_m 225) 9 = some (.iload 5, 0) := by decide +kernel
theorem at_225_11 : am_at (am_m 225) 11 = some (.aload_n 0, 0) := by decide +kernel
theorem at_225_12 : am_at (am_m 225) 12 = some (.getfield 9, 256) := by decide +kernel
theorem at_225_15 : am_at (am_m 225) 15 = some (.if_icmp .ge 65, 80) := by decide +kernel
theorem at_225_18 : am_at (am_m 225) 18 = some (.aload_n 0, 0) := by decide +kernel
theorem at_225_19 : am_at (am_m 225) 19 = some (.getfield 39, 263) := by decide +kernel
theorem at_225_22 : am_at (am_m 225) 22 = some (.iload 5, 0) := by decide +kernel
theorem at_225_24 : am_at (am_m 225) 24 = some (.bipush 24, 0) := by decide +kernel
theorem at_225_26 : am_at (am_m 225) 26 = some (.imul, 0) := by decide +kernel
theorem at_225_27 : am_at (am_m 225) 27 = some (.iload_n 2, 0) := by decide +kernel
theorem at_225_28 : am_at (am_m 225) 28 = some (.iadd, 0) := by decide +kernel
theorem at_225_29 : am_at (am_m 225) 29 = some (.iaload, 0) := by decide +kernel
theorem at_225_30 : am_at (am_m 225) 30 = some (.istore 6, 0) := by decide +kernel
theorem at_225_32 : am_at (am_m 225) 32 = some (.iload_n 1, 0) := by decide +kernel
theorem at_225_33 : am_at (am_m 225) 33 = some (.iload 5, 0) := by decide +kernel
theorem at_225_35 : am_at (am_m 225) 35 = some (.ishr, 0) := by decide +kernel
theorem at_225_36 : am_at (am_m 225) 36 = some (.iconst 1, 0) := by decide +kernel
theorem at_225_37 : am_at (am_m 225) 37 = some (.iand, 0) := by decide +kernel
theorem at_225_38 : am_at (am_m 225) 38 = some (.iconst 1, 0) := by decide +kernel
theorem at_225_39 : am_at (am_m 225) 39 = some (.if_icmp .ne 35, 74) := by decide +kernel
theorem at_225_42 : am_at (am_m 225) 42 = some (.iload 6, 0) := by decide +kernel
theorem at_225_44 : am_at (am_m 225) 44 = some (.iload_n 3, 0) := by decide +kernel
theorem at_225_45 : am_at (am_m 225) 45 = some (.if_icmp .gt 29, 74) := by decide +kernel
theorem at_225_48 : am_at (am_m 225) 48 = some (.iload 6, 0) := by decide +kernel
theorem at_225_50 : am_at (am_m 225) 50 = some (.iload_n 3, 0) := by decide +kernel
theorem at_225_51 : am_at (am_m 225) 51 = some (.if_icmp .ge 7, 58) := by decide +kernel
theorem at_225_54 : am_at (am_m 225) 54 = some (.iconst 0, 0) := by decide +kernel
theorem at_225_55 : am_at (am_m 225) 55 = some (.goto 5, 60) := by decide +kernel
theorem at_225_58 : am_at (am_m 225) 58 = some (.iload 4, 0) := by decide +kernel
theorem at_225_60 : am_at (am_m 225) 60 = some (.istore 4, 0) := by decide +kernel
theorem at_225_62 : am_at (am_m 225) 62 = some (.iload 4, 0) := by decide +kernel
theorem at_225_64 : am_at (am_m 225) 64 = some (.iconst 1, 0) := by decide +kernel
theorem at_225_65 : am_at (am_m 225) 65 = some (.iload 5, 0) := by decide +kernel
theorem at_225_67 : am_at (am_m 225) 67 = some (.ishl, 0) := by decide +kernel
theorem at_225_68 : am_at (am_m 225) 68 = some (.ior, 0) := by decide +kernel
theorem at_225_69 : am_at (am_m 225) 69 = some (.istore 4, 0) := by decide +kernel
theorem at_225_71 : am_at (am_m 225) 71 = some (.iload 6, 0) := by decide +kernel
theorem at_225_73 : am_at (am_m 225) 73 = some (.istore_n 3, 0) := by decide +kernel
theorem at_225_74 : am_at (am_m 225) 74 = some (.iinc 5 1, 0) := by decide +kernel
theorem at_225_77 : am_at (am_m 225) 77 = some (.goto (-68), 9) := by decide +kernel
theorem at_225_80 : am_at (am_m 225) 80 = some (.iload 4, 0) := by decide +kernel
theorem at_225_82 : am_at (am_m 225) 82 = some (.ireturn, 0) := by decide +kernel
theorem at_226_0 : am_at (am_m 226) 0 = some (.iconst 0, 0) := by decide +kernel
theorem at_226_1 : am_at (am_m 226) 1 = some (.istore_n 2, 0) := by decide +kernel
theorem at_226_2 : am_at (am_m 226) 2 = some (.iload_n 2, 0) := by decide +kernel
theorem at_226_3 : am_at (am_m 226) 3 = some (.aload_n 0, 0) := by decide +kernel
theorem at_226_4 : am_at (am_m 226) 4 = some (.getfield 9, 256) := by decide +kernel
theorem at_226_7 : am_at (am_m 226) 7 = some (.if_icmp .ge 17, 24) := by decide +kernel
theorem at_226_10 : am_at (am_m 226) 10 = some (.iload_n 1, 0) := by decide +kernel
theorem at_226_11 : am_at (am_m 226) 11 = some (.iload_n 2, 0) := by decide +kernel
theorem at_226_12 : am_at (am_m 226) 12 = some (.ishr, 0) := by decide +kernel
theorem at_226_13 : am_at (am_m 226) 13 = some (.iconst 1, 0) := by decide +kernel
theorem at_226_14 : am_at (am_m 226) 14 = some (.iand, 0) := by decide +kernel
theorem at_226_15 : am_at (am_m 226) 15 = some (.ifCond .ne 9, 24) := by decide +kernel
theorem at_226_18 : am_at (am_m 226) 18 = some (.iinc 2 1, 0) := by decide +kernel
theorem at_226_21 : am_at (am_m 226) 21 = some (.goto (-19), 2) := by decide +kernel
theorem at_226_24 : am_at (am_m 226) 24 = some (.iload_n 2, 0) := by decide +kernel
theorem at_226_25 : am_at (am_m 226) 25 = some (.ireturn, 0) := by decide +kernel
theorem at_227_0 : am_at (am_m 227) 0 = some (.iconst 0, 0) := by decide +kernel
theorem at_227_1 : am_at (am_m 227) 1 = some (.istore_n 1, 0) := by decide +kernel
theorem at_227_2 : am_at (am_m 227) 2 = some (.iconst 0, 0) := by decide +kernel
theorem at_227_3 : am_at (am_m 227) 3 = some (.istore_n 2, 0) := by decide +kernel
theorem at_227_4 : am_at (am_m 227) 4 = some (.iload_n 2, 0) := by decide +kernel
theorem at_227_5 : am_at (am_m 227) 5 = some (.aload_n 0, 0) := by decide +kernel
theorem at_227_6 : am_at (am_m 227) 6 = some (.getfield 9, 256) := by decide +kernel
theorem at_227_9 : am_at (am_m 227) 9 = some (.if_icmp .ge 25, 34) := by decide +kernel
theorem at_227_12 : am_at (am_m 227) 12 = some (.iload_n 1, 0) := by decide +kernel
theorem at_227_13 : am_at (am_m 227) 13 = some (.aload_n 0, 0) := by decide +kernel
theorem at_227_14 : am_at (am_m 227) 14 = some (.iload_n 2, 0) := by decide +kernel
theorem at_227_15 : am_at (am_m 227) 15 = some (.invokevirtual 81, 228) := by decide +kernel
theorem at_227_18 : am_at (am_m 227) 18 = some (.ifCond .eq 7, 25) := by decide +kernel
theorem at_227_21 : am_at (am_m 227) 21 = some (.iconst 1, 0) := by decide +kernel
theorem at_227_22 : am_at (am_m 227) 22 = some (.goto 4, 26) := by decide +kernel
theorem at_227_25 : am_at (am_m 227) 25 = some (.iconst 0, 0) := by decide +kernel
theorem at_227_26 : am_at (am_m 227) 26 = some (.iadd, 0) := by decide +kernel
theorem at_227_27 : am_at (am_m 227) 27 = some (.istore_n 1, 0) := by decide +kernel
theorem at_227_28 : am_at (am_m 227) 28 = some (.iinc 2 1, 0) := by decide +kernel
theorem at_227_31 : am_at (am_m 227) 31 = some (.goto (-27), 4) := by decide +kernel
theorem at_227_34 : am_at (am_m 227) 34 = some (.iload_n 1, 0) := by decide +kernel
theorem at_227_35 : am_at (am_m 227) 35 = some (.ireturn, 0) := by decide +kernel
theorem at_228_0 : am_at (am_m 228) 0 = some (.iconst 0, 0) := by decide +kernel
theorem at_228_1 : am_at (am_m 228) 1 = some (.istore_n 2, 0) := by decide +kernel
theorem at_228_2 : am_at (am_m 228) 2 = some (.iload_n 2, 0) := by decide +kernel
theorem at_228_3 : am_at (am_m 228) 3 = some (.aload_n 0, 0) := by decide +kernel
theorem at_228_4 : am_at (am_m 228) 4 = some (.getfield 9, 256) := by decide +kernel
theorem at_228_7 : am_at (am_m 228) 7 = some (.if_icmp .ge 73, 80) := by decide +kernel
theorem at_228_10 : am_at (am_m 228) 10 = some (.aload_n 0, 0) := by decide +kernel
theorem at_228_11 : am_at (am_m 228) 11 = some (.getfield 32, 261) := by decide +kernel
theorem at_228_14 : am_at (am_m 228) 14 = some (.iload_n 2, 0) := by decide +kernel
theorem at_228_15 : am_at (am_m 228) 15 = some (.laload, 0) := by decide +kernel
theorem at_228_16 : am_at (am_m 228) 16 = some (.aload_n 0, 0) := by decide +kernel
theorem at_228_17 : am_at (am_m 228) 17 = some (.getfield 32, 261) := by decide +kernel
theorem at_228_20 : am_at (am_m 228) 20 = some (.iload_n 1, 0) := by decide +kernel
theorem at_228_21 : am_at (am_m 228) 21 = some (.laload, 0) := by decide +kernel
theorem at_228_22 : am_at (am_m 228) 22 = some (.lcmp, 0) := by decide +kernel
theorem at_228_23 : am_at (am_m 228) 23 = some (.ifCond .gt 51, 74) := by decide +kernel
theorem at_228_26 : am_at (am_m 228) 26 = some (.aload_n 0, 0) := by decide +kernel
theorem at_228_27 : am_at (am_m 228) 27 = some (.getfield 36, 262) := by decide +kernel
theorem at_228_30 : am_at (am_m 228) 30 = some (.iload_n 2, 0) := by decide +kernel
theorem at_228_31 : am_at (am_m 228) 31 = some (.iaload, 0) := by decide +kernel
theorem at_228_32 : am_at (am_m 228) 32 = some (.aload_n 0, 0) := by decide +kernel
theorem at_228_33 : am_at (am_m 228) 33 = some (.getfield 36, 262) := by decide +kernel
theorem at_228_36 : am_at (am_m 228) 36 = some (.iload_n 1, 0) := by decide +kernel
theorem at_228_37 : am_at (am_m 228) 37 = some (.iaload, 0) := by decide +kernel
theorem at_228_38 : am_at (am_m 228) 38 = some (.if_icmp .gt 36, 74) := by decide +kernel
theorem at_228_41 : am_at (am_m 228) 41 = some (.aload_n 0, 0) := by decide +kernel
theorem at_228_42 : am_at (am_m 228) 42 = some (.getfield 32, 261) := by decide +kernel
theorem at_228_45 : am_at (am_m 228) 45 = some (.iload_n 2, 0) := by decide +kernel
theorem at_228_46 : am_at (am_m 228) 46 = some (.laload, 0) := by decide +kernel
theorem at_228_47 : am_at (am_m 228) 47 = some (.aload_n 0, 0) := by decide +kernel
theorem at_228_48 : am_at (am_m 228) 48 = some (.getfield 32, 261) := by decide +kernel
theorem at_228_51 : am_at (am_m 228) 51 = some (.iload_n 1, 0) := by decide +kernel
theorem at_228_52 : am_at (am_m 228) 52 = some (.laload, 0) := by decide +kernel
theorem at_228_53 : am_at (am_m 228) 53 = some (.lcmp, 0) := by decide +kernel
theorem at_228_54 : am_at (am_m 228) 54 = some (.ifCond .lt 18, 72) := by decide +kernel
theorem at_228_57 : am_at (am_m 228) 57 = some (.aload_n 0, 0) := by decide +kernel
theorem at_228_58 : am_at (am_m 228) 58 = some (.getfield 36, 262) := by decide +kernel
theorem at_228_61 : am_at (am_m 228) 61 = some (.iload_n 2, 0) := by decide +kernel
theorem at_228_62 : am_at (am_m 228) 62 = some (.iaload, 0) := by decide +kernel
theorem at_228_63 : am_at (am_m 228) 63 = some (.aload_n 0, 0) := by decide +kernel
theorem at_228_64 : am_at (am_m 228) 64 = some (.getfield 36, 262) := by decide +kernel
theorem at_228_67 : am_at (am_m 228) 67 = some (.iload_n 1, 0) := by decide +kernel
theorem at_228_68 : am_at (am_m 228) 68 = some (.iaload, 0) := by decide +kernel
theorem at_228_69 : am_at (am_m 228) 69 = some (.if_icmp .ge 5, 74) := by decide +kernel
theorem at_228_72 : am_at (am_m 228) 72 = some (.iconst 0, 0) := by decide +kernel
theorem at_228_73 : am_at (am_m 228) 73 = some (.ireturn, 0) := by decide +kernel
theorem at_228_74 : am_at (am_m 228) 74 = some (.iinc 2 1, 0) := by decide +kernel
theorem at_228_77 : am_at (am_m 228) 77 = some (.goto (-75), 2) := by decide +kernel
theorem at_228_80 : am_at (am_m 228) 80 = some (.iconst 1, 0) := by decide +kernel
theorem at_228_81 : am_at (am_m 228) 81 = some (.ireturn, 0) := by decide +kernel
theorem at_229_0 : am_at (am_m 229) 0 = some (.iload_n 1, 0) := by decide +kernel
theorem at_229_1 : am_at (am_m 229) 1 = some (.istore_n 2, 0) := by decide +kernel
theorem at_229_2 : am_at (am_m 229) 2 = some (.iconst 0, 0) := by decide +kernel
theorem at_229_3 : am_at (am_m 229) 3 = some (.istore_n 3, 0) := by decide +kernel
theorem at_229_4 : am_at (am_m 229) 4 = some (.iload_n 3, 0) := by decide +kernel
theorem at_229_5 : am_at (am_m 229) 5 = some (.aload_n 0, 0) := by decide +kernel
theorem at_229_6 : am_at (am_m 229) 6 = some (.getfield 9, 256) := by decide +kernel
theorem at_229_9 : am_at (am_m 229) 9 = some (.if_icmp .ge 26, 35) := by decide +kernel
theorem at_229_12 : am_at (am_m 229) 12 = some (.aload_n 0, 0) := by decide +kernel
theorem at_229_13 : am_at (am_m 229) 13 = some (.iload_n 3, 0) := by decide +kernel
theorem at_229_14 : am_at (am_m 229) 14 = some (.invokevirtual 81, 228) := by decide +kernel
theorem at_229_17 : am_at (am_m 229) 17 = some (.ifCond .eq 12, 29) := by decide +kernel
theorem at_229_20 : am_at (am_m 229) 20 = some (.iload_n 2, 0) := by decide +kernel
theorem at_229_21 : am_at (am_m 229) 21 = some (.ifCond .ne 5, 26) := by decide +kernel
theorem at_229_24 : am_at (am_m 229) 24 = some (.iload_n 3, 0) := by decide +kernel
theorem at_229_25 : am_at (am_m 229) 25 = some (.ireturn, 0) := by decide +kernel
theorem at_229_26 : am_at (am_m 229) 26 = some (.iinc 2 (-1), 0) := by decide +kernel
theorem at_229_29 : am_at (am_m 229) 29 = some (.iinc 3 1, 0) := by decide +kernel
theorem at_229_32 : am_at (am_m 229) 32 = some (.goto (-28), 4) := by decide +kernel
theorem at_229_35 : am_at (am_m 229) 35 = some (.iconst (-1), 0) := by decide +kernel
theorem at_229_36 : am_at (am_m 229) 36 = some (.ireturn, 0) := by decide +kernel
theorem at_230_0 : am_at (am_m 230) 0 = some (.iconst 0, 0) := by decide +kernel
theorem at_230_1 : am_at (am_m 230) 1 = some (.istore_n 1, 0) := by decide +kernel
theorem at_230_2 : am_at (am_m 230) 2 = some (.iconst 1, 0) := by decide +kernel
theorem at_230_3 : am_at (am_m 230) 3 = some (.istore_n 2, 0) := by decide +kernel
theorem at_230_4 : am_at (am_m 230) 4 = some (.iload_n 2, 0) := by decide +kernel
theorem at_230_5 : am_at (am_m 230) 5 = some (.aload_n 0, 0) := by decide +kernel
theorem at_230_6 : am_at (am_m 230) 6 = some (.getfield 9, 256) := by decide +kernel
theorem at_230_9 : am_at (am_m 230) 9 = some (.if_icmp .ge 24, 33) := by decide +kernel
theorem at_230_12 : am_at (am_m 230) 12 = some (.aload_n 0, 0) := by decide +kernel
theorem at_230_13 : am_at (am_m 230) 13 = some (.iload_n 2, 0) := by decide +kernel
theorem at_230_14 : am_at (am_m 230) 14 = some (.iload_n 1, 0) := by decide +kernel
theorem at_230_15 : am_at (am_m 230) 15 = some (.invokevirtual 77, 221) := by decide +kernel
theorem at_230_18 : am_at (am_m 230) 18 = some (.ifCond .eq 7, 25) := by decide +kernel
theorem at_230_21 : am_at (am_m 230) 21 = some (.iload_n 2, 0) := by decide +kernel
theorem at_230_22 : am_at (am_m 230) 22 = some (.goto 4, 26) := by decide +kernel
theorem at_230_25 : am_at (am_m 230) 25 = some (.iload_n 1, 0) := by decide +kernel
theorem at_230_26 : am_at (am_m 230) 26 = some (.istore_n 1, 0) := by decide +kernel
theorem at_230_27 : am_at (am_m 230) 27 = some (.iinc 2 1, 0) := by decide +kernel
theorem at_230_30 : am_at (am_m 230) 30 = some (.goto (-26), 4) := by decide +kernel
theorem at_230_33 : am_at (am_m 230) 33 = some (.iload_n 1, 0) := by decide +kernel
theorem at_230_34 : am_at (am_m 230) 34 = some (.ireturn, 0) := by decide +kernel
theorem at_231_0 : am_at (am_m 231) 0 = some (.aload_n 3, 0) := by decide +kernel
theorem at_231_1 : am_at (am_m 231) 1 = some (.iconst 0, 0) := by decide +kernel
theorem at_231_2 : am_at (am_m 231) 2 = some (.aload_n 0, 0) := by decide +kernel
theorem at_231_3 : am_at (am_m 231) 3 = some (.iload_n 1, 0) := by decide +kernel
theorem at_231_4 : am_at (am_m 231) 4 = some (.iload_n 2, 0) := by decide +kernel
theorem at_231_5 : am_at (am_m 231) 5 = some (.invokevirtual 118, 232) := by decide +kernel
theorem at_231_8 : am_at (am_m 231) 8 = some (.ifCond .eq 7, 15) := by decide +kernel
theorem at_231_11 : am_at (am_m 231) 11 = some (.lconst 1, 0) := by decide +kernel
theorem at_231_12 : am_at (am_m 231) 12 = some (.goto 4, 16) := by decide +kernel
theorem at_231_15 : am_at (am_m 231) 15 = some (.lconst 0, 0) := by decide +kernel
theorem at_231_16 : am_at (am_m 231) 16 = some (.lastore, 0) := by decide +kernel
theorem at_231_17 : am_at (am_m 231) 17 = some (.goto 7, 24) := by decide +kernel
theorem at_231_22 : am_at (am_m 231) 22 = some (.iconst 1, 0) := by decide +kernel
theorem at_231_23 : am_at (am_m 231) 23 = some (.ireturn, 0) := by decide +kernel
theorem at_231_24 : am_at (am_m 231) 24 = some (.iconst 0, 0) := by decide +kernel
theorem at_231_25 : am_at (am_m 231) 25 = some (.ireturn, 0) := by decide +kernel
theorem at_232_0 : am_at (am_m 232) 0 = some (.aload_n 0, 0) := by decide +kernel
theorem at_232_1 : am_at (am_m 232) 1 = some (.iload_n 1, 0) := by decide +kernel
theorem at_232_2 : am_at (am_m 232) 2 = some (.invokevirtual 330, 201) := by decide +kernel
theorem at_232_5 : am_at (am_m 232) 5 = some (.astore_n 3, 0) := by decide +kernel
theorem at_232_6 : am_at (am_m 232) 6 = some (.aload_n 0, 0) := by decide +kernel
theorem at_232_7 : am_at (am_m 232) 7 = some (.iload_n 2, 0) := by decide +kernel
theorem at_232_8 : am_at (am_m 232) 8 = some (.invokevirtual 330, 201) := by decide +kernel
theorem at_232_11 : am_at (am_m 232) 11 = some (.astore 4, 0) := by decide +kernel
theorem at_232_13 : am_at (am_m 232) 13 = some (.iload_n 1, 0) := by decide +kernel
theorem at_232_14 : am_at (am_m 232) 14 = some (.iload_n 2, 0) := by decide +kernel
theorem at_232_15 : am_at (am_m 232) 15 = some (.if_icmp .eq 48, 63) := by decide +kernel
theorem at_232_18 : am_at (am_m 232) 18 = some (.aload_n 3, 0) := by decide +kernel
theorem at_232_19 : am_at (am_m 232) 19 = some (.getfield 342, 256) := by decide +kernel
theorem at_232_22 : am_at (am_m 232) 22 = some (.ifCond .eq 41, 63) := by decide +kernel
theorem at_232_25 : am_at (am_m 232) 25 = some (.aload 4, 0) := by decide +kernel
theorem at_232_27 : am_at (am_m 232) 27 = some (.getfield 342, 256) := by decide +kernel
theorem at_232_30 : am_at (am_m 232) 30 = some (.ifCond .eq 33, 63) := by decide +kernel
theorem at_232_33 : am_at (am_m 232) 33 = some (.aload_n 0, 0) := by decide +kernel
theorem at_232_34 : am_at (am_m 232) 34 = some (.aload_n 3, 0) := by decide +kernel
theorem at_232_35 : am_at (am_m 232) 35 = some (.getfield 347, 257) := by decide +kernel
theorem at_232_38 : am_at (am_m 232) 38 = some (.iconst 0, 0) := by decide +kernel
theorem at_232_39 : am_at (am_m 232) 39 = some (.iaload, 0) := by decide +kernel
theorem at_232_40 : am_at (am_m 232) 40 = some (.invokevirtual 132, 63) := by decide +kernel
theorem at_232_43 : am_at (am_m 232) 43 = some (.getfield 144, 769) := by decide +kernel
theorem at_232_46 : am_at (am_m 232) 46 = some (.aload_n 0, 0) := by decide +kernel
theorem at_232_47 : am_at (am_m 232) 47 = some (.aload 4, 0) := by decide +kernel
theorem at_232_49 : am_at (am_m 232) 49 = some (.getfield 347, 257) := by decide +kernel
theorem at_232_52 : am_at (am_m 232) 52 = some (.iconst 0, 0) := by decide +kernel
theorem at_232_53 : am_at (am_m 232) 53 = some (.iaload, 0) := by decide +kernel
theorem at_232_54 : am_at (am_m 232) 54 = some (.invokevirtual 132, 63) := by decide +kernel
theorem at_232_57 : am_at (am_m 232) 57 = some (.getfield 144, 769) := by decide +kernel
theorem at_232_60 : am_at (am_m 232) 60 = some (.if_icmp .eq 5, 65) := by decide +kernel
theorem at_232_63 : am_at (am_m 232) 63 = some (.iconst 0, 0) := by decide +kernel
theorem at_232_64 : am_at (am_m 232) 64 = some (.ireturn, 0) := by decide +kernel
theorem at_232_65 : am_at (am_m 232) 65 = some (.aload_n 3, 0) := by decide +kernel
theorem at_232_66 : am_at (am_m 232) 66 = some (.aload_n 0, 0) := by decide +kernel
theorem at_232_67 : am_at (am_m 232) 67 = some (.getfield 11, 2816) := by decide +kernel
theorem at_232_70 : am_at (am_m 232) 70 = some (.aload_n 0, 0) := by decide +kernel
theorem at_232_71 : am_at (am_m 232) 71 = some (.getfield 29, 2819) := by decide +kernel
theorem at_232_74 : am_at (am_m 232) 74 = some (.invokevirtual 367, 218) := by decide +kernel
theorem at_232_77 : am_at (am_m 232) 77 = some (.aload 4, 0) := by decide +kernel
theorem at_232_79 : am_at (am_m 232) 79 = some (.aload_n 0, 0) := by decide +kernel
theorem at_232_80 : am_at (am_m 232) 80 = some (.getfield 11, 2816) := by decide +kernel
theorem at_232_83 : am_at (am_m 232) 83 = some (.aload_n 0, 0) := by decide +kernel
theorem at_232_84 : am_at (am_m 232) 84 = some (.getfield 29, 2819) := by decide +kernel
theorem at_232_87 : am_at (am_m 232) 87 = some (.invokevirtual 367, 218) := by decide +kernel
theorem at_232_90 : am_at (am_m 232) 90 = some (.aload 4, 0) := by decide +kernel
theorem at_232_92 : am_at (am_m 232) 92 = some (.getfield 347, 257) := by decide +kernel
theorem at_232_95 : am_at (am_m 232) 95 = some (.aload 4, 0) := by decide +kernel
theorem at_232_97 : am_at (am_m 232) 97 = some (.invokevirtual 374, 233) := by decide +kernel
theorem at_232_100 : am_at (am_m 232) 100 = some (.aload_n 3, 0) := by decide +kernel
theorem at_232_101 : am_at (am_m 232) 101 = some (.getfield 347, 257) := by decide +kernel
theorem at_232_104 : am_at (am_m 232) 104 = some (.aload_n 3, 0) := by decide +kernel
theorem at_232_105 : am_at (am_m 232) 105 = some (.invokevirtual 371, 230) := by decide +kernel
theorem at_232_108 : am_at (am_m 232) 108 = some (.iaload, 0) := by decide +kernel
theorem at_232_109 : am_at (am_m 232) 109 = some (.iastore, 0) := by decide +kernel
theorem at_232_110 : am_at (am_m 232) 110 = some (.iconst 1, 0) := by decide +kernel
theorem at_232_111 : am_at (am_m 232) 111 = some (.ireturn, 0) := by decide +kernel
theorem at_233_0 : am_at (am_m 233) 0 = some (.iconst 0, 0) := by decide +kernel
theorem at_233_1 : am_at (am_m 233) 1 = some (.istore_n 1, 0) := by decide +kernel
theorem at_233_2 : am_at (am_m 233) 2 = some (.iconst 1, 0) := by decide +kernel
theorem at_233_3 : am_at (am_m 233) 3 = some (.istore_n 2, 0) := by decide +kernel
theorem at_233_4 : am_at (am_m 233) 4 = some (.iload_n 2, 0) := by decide +kernel
theorem at_233_5 : am_at (am_m 233) 5 = some (.aload_n 0, 0) := by decide +kernel
theorem at_233_6 : am_at (am_m 233) 6 = some (.getfield 9, 256) := by decide +kernel
theorem at_233_9 : am_at (am_m 233) 9 = some (.if_icmp .ge 24, 33) := by decide +kernel
theorem at_233_12 : am_at (am_m 233) 12 = some (.aload_n 0, 0) := by decide +kernel
theorem at_233_13 : am_at (am_m 233) 13 = some (.iload_n 1, 0) := by decide +kernel
theorem at_233_14 : am_at (am_m 233) 14 = some (.iload_n 2, 0) := by decide +kernel
theorem at_233_15 : am_at (am_m 233) 15 = some (.invokevirtual 77, 221) := by decide +kernel
theorem at_233_18 : am_at (am_m 233) 18 = some (.ifCond .eq 7, 25) := by decide +kernel
theorem at_233_21 : am_at (am_m 233) 21 = some (.iload_n 2, 0) := by decide +kernel
theorem at_233_22 : am_at (am_m 233) 22 = some (.goto 4, 26) := by decide +kernel
theorem at_233_25 : am_at (am_m 233) 25 = some (.iload_n 1, 0) := by decide +kernel
theorem at_233_26 : am_at (am_m 233) 26 = some (.istore_n 1, 0) := by decide +kernel
theorem at_233_27 : am_at (am_m 233) 27 = some (.iinc 2 1, 0) := by decide +kernel
theorem at_233_30 : am_at (am_m 233) 30 = some (.goto (-26), 4) := by decide +kernel
theorem at_233_33 : am_at (am_m 233) 33 = some (.iload_n 1, 0) := by decide +kernel
theorem at_233_34 : am_at (am_m 233) 34 = some (.ireturn, 0) := by decide +kernel
theorem at_234_0 : am_at (am_m 234) 0 = some (.aload_n 2, 0) := by decide +kernel
theorem at_234_1 : am_at (am_m 234) 1 = some (.iconst 0, 0) := by decide +kernel
theorem at_234_2 : am_at (am_m 234) 2 = some (.aload_n 0, 0) := by decide +kernel
theorem at_234_3 : am_at (am_m 234) 3 = some (.iload_n 1, 0) := by decide +kernel
theorem at_234_4 : am_at (am_m 234) 4 = some (.invokevirtual 121, 235) := by decide +kernel
theorem at_234_7 : am_at (am_m 234) 7 = some (.i2l, 0) := by decide +kernel
theorem at_234_8 : am_at (am_m 234) 8 = some (.lastore, 0) := by decide +kernel
theorem at_234_9 : am_at (am_m 234) 9 = some (.goto 9, 18) := by decide +kernel
theorem at_234_13 : am_at (am_m 234) 13 = some (.iconst 1, 0) := by decide +kernel
theorem at_234_14 : am_at (am_m 234) 14 = some (.ireturn, 0) := by decide +kernel
theorem at_234_16 : am_at (am_m 234) 16 = some (.iconst 2, 0) := by decide +kernel
theorem at_234_17 : am_at (am_m 234) 17 = some (.ireturn, 0) := by decide +kernel
theorem at_234_18 : am_at (am_m 234) 18 = some (.iconst 0, 0) := by decide +kernel
theorem at_234_19 : am_at (am_m 234) 19 = some (.ireturn, 0) := by decide +kernel
theorem at_235_0 : am_at (am_m 235) 0 = some (.aload_n 0, 0) := by decide +kernel
theorem at_235_1 : am_at (am_m 235) 1 = some (.iload_n 1, 0) := by decide +kernel
theorem at_235_2 : am_at (am_m 235) 2 = some (.invokevirtual 330, 201) := by decide +kernel
theorem at_235_5 : am_at (am_m 235) 5 = some (.astore_n 2, 0) := by decide +kernel
theorem at_235_6 : am_at (am_m 235) 6 = some (.aload_n 2, 0) := by decide +kernel
theorem at_235_7 : am_at (am_m 235) 7 = some (.getfield 342, 256) := by decide +kernel
theorem at_235_10 : am_at (am_m 235) 10 = some (.ifCond .ne 14, 24) := by decide +kernel
theorem at_235_13 : am_at (am_m 235) 13 = some (.new 213, 101) := by decide +kernel
theorem at_235_24 : am_at (am_m 235) 24 = some (.aload_n 2, 0) := by decide +kernel
theorem at_235_25 : am_at (am_m 235) 25 = some (.aload_n 0, 0) := by decide +kernel
theorem at_235_26 : am_at (am_m 235) 26 = some (.getfield 11, 2816) := by decide +kernel
theorem at_235_29 : am_at (am_m 235) 29 = some (.aload_n 0, 0) := by decide +kernel
theorem at_235_30 : am_at (am_m 235) 30 = some (.getfield 29, 2819) := by decide +kernel
theorem at_235_33 : am_at (am_m 235) 33 = some (.invokevirtual 367, 218) := by decide +kernel
theorem at_235_36 : am_at (am_m 235) 36 = some (.aload_n 2, 0) := by decide +kernel
theorem at_235_37 : am_at (am_m 235) 37 = some (.getfield 347, 257) := by decide +kernel
theorem at_235_40 : am_at (am_m 235) 40 = some (.aload_n 2, 0) := by decide +kernel
theorem at_235_41 : am_at (am_m 235) 41 = some (.invokevirtual 371, 230) := by decide +kernel
theorem at_235_44 : am_at (am_m 235) 44 = some (.iaload, 0) := by decide +kernel
theorem at_235_45 : am_at (am_m 235) 45 = some (.ireturn, 0) := by decide +kernel
theorem at_236_0 : am_at (am_m 236) 0 = some (.aload_n 3, 0) := by decide +kernel
theorem at_236_1 : am_at (am_m 236) 1 = some (.iconst 0, 0) := by decide +kernel
theorem at_236_2 : am_at (am_m 236) 2 = some (.aload_n 0, 0) := by decide +kernel
theorem at_236_3 : am_at (am_m 236) 3 = some (.iload_n 1, 0) := by decide +kernel
theorem at_236_4 : am_at (am_m 236) 4 = some (.iload_n 2, 0) := by decide +kernel
theorem at_236_5 : am_at (am_m 236) 5 = some (.invokevirtual 124, 237) := by decide +kernel
theorem at_236_8 : am_at (am_m 236) 8 = some (.i2l, 0) := by decide +kernel
theorem at_236_9 : am_at (am_m 236) 9 = some (.lastore, 0) := by decide +kernel
theorem at_236_10 : am_at (am_m 236) 10 = some (.goto 7, 17) := by decide +kernel
theorem at_236_15 : am_at (am_m 236) 15 = some (.iconst 1, 0) := by decide +kernel
theorem at_236_16 : am_at (am_m 236) 16 = some (.ireturn, 0) := by decide +kernel
theorem at_236_17 : am_at (am_m 236) 17 = some (.iconst 0, 0) := by decide +kernel
theorem at_236_18 : am_at (am_m 236) 18 = some (.ireturn, 0) := by decide +kernel
theorem at_237_0 : am_at (am_m 237) 0 = some (.aload_n 0, 0) := by decide +kernel
theorem at_237_1 : am_at (am_m 237) 1 = some (.iload_n 1, 0) := by decide +kernel
theorem at_237_2 : am_at (am_m 237) 2 = some (.invokevirtual 330, 201) := by decide +kernel
theorem at_237_5 : am_at (am_m 237) 5 = some (.astore_n 3, 0) := by decide +kernel
theorem at_237_6 : am_at (am_m 237) 6 = some (.aload_n 3, 0) := by decide +kernel
theorem at_237_7 : am_at (am_m 237) 7 = some (.aload_n 0, 0) := by decide +kernel
theorem at_237_8 : am_at (am_m 237) 8 = some (.getfield 11, 2816) := by decide +kernel
theorem at_237_11 : am_at (am_m 237) 11 = some (.aload_n 0, 0) := by decide +kernel
theorem at_237_12 : am_at (am_m 237) 12 = some (.getfield 29, 2819) := by decide +kernel
theorem at_237_15 : am_at (am_m 237) 15 = some (.invokevirtual 367, 218) := by decide +kernel
theorem at_237_18 : am_at (am_m 237) 18 = some (.iload_n 2, 0) := by decide +kernel
theorem at_237_19 : am_at (am_m 237) 19 = some (.ifCond .ge 7, 26) := by decide +kernel
theorem at_237_22 : am_at (am_m 237) 22 = some (.iconst (-1), 0) := by decide +kernel
theorem at_237_23 : am_at (am_m 237) 23 = some (.goto 8, 31) := by decide +kernel
theorem at_237_26 : am_at (am_m 237) 26 = some (.aload_n 3, 0) := by decide +kernel
theorem at_237_27 : am_at (am_m 237) 27 = some (.iload_n 2, 0) := by decide +kernel
theorem at_237_28 : am_at (am_m 237) 28 = some (.invokevirtual 377, 229) := by decide +kernel
theorem at_237_31 : am_at (am_m 237) 31 = some (.istore 4, 0) := by decide +kernel
theorem at_237_33 : am_at (am_m 237) 33 = some (.iload 4, 0) := by decide +kernel
theorem at_237_35 : am_at (am_m 237) 35 = some (.ifCond .ge 7, 42) := by decide +kernel
theorem at_237_38 : am_at (am_m 237) 38 = some (.iconst (-1), 0) := by decide +kernel
theorem at_237_39 : am_at (am_m 237) 39 = some (.goto 10, 49) := by decide +kernel
theorem at_237_42 : am_at (am_m 237) 42 = some (.aload_n 3, 0) := by decide +kernel
theorem at_237_43 : am_at (am_m 237) 43 = some (.getfield 347, 257) := by decide +kernel
theorem at_237_46 : am_at (am_m 237) 46 = some (.iload 4, 0) := by decide +kernel
theorem at_237_48 : am_at (am_m 237) 48 = some (.iaload, 0) := by decide +kernel
theorem at_237_49 : am_at (am_m 237) 49 = some (.ireturn, 0) := by decide +kernel
theorem at_238_0 : am_at (am_m 238) 0 = some (.aload 4, 0) := by decide +kernel
theorem at_238_2 : am_at (am_m 238) 2 = some (.iconst 0, 0) := by decide +kernel
theorem at_238_3 : am_at (am_m 238) 3 = some (.aload_n 0, 0) := by decide +kernel
theorem at_238_4 : am_at (am_m 238) 4 = some (.iload_n 1, 0) := by decide +kernel
theorem at_238_5 : am_at (am_m 238) 5 = some (.iload_n 2, 0) := by decide +kernel
theorem at_238_6 : am_at (am_m 238) 6 = some (.iload_n 3, 0) := by decide +kernel
theorem at_238_7 : am_at (am_m 238) 7 = some (.invokevirtual 127, 239) := by decide +kernel
theorem at_238_10 : am_at (am_m 238) 10 = some (.i2l, 0) := by decide +kernel
theorem at_238_11 : am_at (am_m 238) 11 = some (.lastore, 0) := by decide +kernel
theorem at_238_12 : am_at (am_m 238) 12 = some (.goto 15, 27) := by decide +kernel
theorem at_238_17 : am_at (am_m 238) 17 = some (.iconst 1, 0) := by decide +kernel
theorem at_238_18 : am_at (am_m 238) 18 = some (.ireturn, 0) := by decide +kernel
theorem at_238_21 : am_at (am_m 238) 21 = some (.iconst 2, 0) := by decide +kernel
theorem at_238_22 : am_at (am_m 238) 22 = some (.ireturn, 0) := by decide +kernel
theorem at_238_25 : am_at (am_m 238) 25 = some (.iconst 3, 0) := by decide +kernel
theorem at_238_26 : am_at (am_m 238) 26 = some (.ireturn, 0) := by decide +kernel
theorem at_238_27 : am_at (am_m 238) 27 = some (.iconst 0, 0) := by decide +kernel
theorem at_238_28 : am_at (am_m 238) 28 = some (.ireturn, 0) := by decide +kernel
theorem at_239_0 : am_at (am_m 239) 0 = some (.aload_n 0, 0) := by decide +kernel
theorem at_239_1 : am_at (am_m 239) 1 = some (.iload_n 1, 0) := by decide +kernel
theorem at_239_2 : am_at (am_m 239) 2 = some (.invokevirtual 330, 201) := by decide +kernel
theorem at_239_5 : am_at (am_m 239) 5 = some (.astore 4, 0) := by decide +kernel
theorem at_239_7 : am_at (am_m 239) 7 = some (.aload_n 0, 0) := by decide +kernel
theorem at_239_8 : am_at (am_m 239) 8 = some (.aload 4, 0) := by decide +kernel
theorem at_239_10 : am_at (am_m 239) 10 = some (.iload_n 2, 0) := by decide +kernel
theorem at_239_11 : am_at (am_m 239) 11 = some (.invokevirtual 350, 214) := by decide +kernel
theorem at_239_14 : am_at (am_m 239) 14 = some (.pop, 0) := by decide +kernel
theorem at_239_15 : am_at (am_m 239) 15 = some (.aload_n 0, 0) := by decide +kernel
theorem at_239_16 : am_at (am_m 239) 16 = some (.iload_n 3, 0) := by decide +kernel
theorem at_239_17 : am_at (am_m 239) 17 = some (.invokevirtual 260, 139) := by decide +kernel
theorem at_239_20 : am_at (am_m 239) 20 = some (.aload 4, 0) := by decide +kernel
theorem at_239_22 : am_at (am_m 239) 22 = some (.aload_n 0, 0) := by decide +kernel
theorem at_239_23 : am_at (am_m 239) 23 = some (.getfield 11, 2816) := by decide +kernel
theorem at_239_26 : am_at (am_m 239) 26 = some (.aload_n 0, 0) := by decide +kernel
theorem at_239_27 : am_at (am_m 239) 27 = some (.getfield 29, 2819) := by decide +kernel
theorem at_239_30 : am_at (am_m 239) 30 = some (.invokevirtual 367, 218) := by decide +kernel
theorem at_239_33 : am_at (am_m 239) 33 = some (.aload 4, 0) := by decide +kernel
theorem at_239_35 : am_at (am_m 239) 35 = some (.getfield 380, 259) := by decide +kernel
theorem at_239_38 : am_at (am_m 239) 38 = some (.bipush 6, 0) := by decide +kernel
theorem at_239_40 : am_at (am_m 239) 40 = some (.if_icmp .le 14, 54) := by decide +kernel
theorem at_239_43 : am_at (am_m 239) 43 = some (.new 213, 101) := by decide +kernel
theorem at_239_54 : am_at (am_m 239) 54 = some (.aload_n 0, 0) := by decide +kernel
theorem at_239_55 : am_at (am_m 239) 55 = some (.getfield 29, 2819) := by decide +kernel
theorem at_239_58 : am_at (am_m 239) 58 = some (.aload 4, 0) := by decide +kernel
theorem at_239_60 : am_at (am_m 239) 60 = some (.iload_n 2, 0) := by decide +kernel
theorem at_239_61 : am_at (am_m 239) 61 = some (.invokevirtual 385, 240) := by decide +kernel
theorem at_239_64 : am_at (am_m 239) 64 = some (.i2l, 0) := by decide +kernel
theorem at_239_65 : am_at (am_m 239) 65 = some (.aload 4, 0) := by decide +kernel
theorem at_239_67 : am_at (am_m 239) 67 = some (.getfield 380, 259) := by decide +kernel
theorem at_239_70 : am_at (am_m 239) 70 = some (.invokestatic 388, 243) := by decide +kernel
theorem at_239_73 : am_at (am_m 239) 73 = some (.i2l, 0) := by decide +kernel
theorem at_239_74 : am_at (am_m 239) 74 = some (.invokevirtual 271, 143) := by decide +kernel
theorem at_239_77 : am_at (am_m 239) 77 = some (.aload_n 0, 0) := by decide +kernel
theorem at_239_78 : am_at (am_m 239) 78 = some (.getfield 29, 2819) := by decide +kernel
theorem at_239_81 : am_at (am_m 239) 81 = some (.iload_n 3, 0) := by decide +kernel
theorem at_239_82 : am_at (am_m 239) 82 = some (.invokevirtual 275, 144) := by decide +kernel
theorem at_239_85 : am_at (am_m 239) 85 = some (.l2i, 0) := by decide +kernel
theorem at_239_86 : am_at (am_m 239) 86 = some (.ireturn, 0) := by decide +kernel
theorem at_240_0 : am_at (am_m 240) 0 = some (.aload_n 0, 0) := by decide +kernel
theorem at_240_1 : am_at (am_m 240) 1 = some (.iconst 1, 0) := by decide +kernel
theorem at_240_2 : am_at (am_m 240) 2 = some (.aload_n 0, 0) := by decide +kernel
theorem at_240_3 : am_at (am_m 240) 3 = some (.getfield 9, 256) := by decide +kernel
theorem at_240_6 : am_at (am_m 240) 6 = some (.ishl, 0) := by decide +kernel
theorem at_240_7 : am_at (am_m 240) 7 = some (.iconst 1, 0) := by decide +kernel
theorem at_240_8 : am_at (am_m 240) 8 = some (.isub, 0) := by decide +kernel
theorem at_240_9 : am_at (am_m 240) 9 = some (.iconst 1, 0) := by decide +kernel
theorem at_240_10 : am_at (am_m 240) 10 = some (.aload_n 0, 0) := by decide +kernel
theorem at_240_11 : am_at (am_m 240) 11 = some (.getfield 26, 259) := by decide +kernel
theorem at_240_14 : am_at (am_m 240) 14 = some (.ishl, 0) := by decide +kernel
theorem at_240_15 : am_at (am_m 240) 15 = some (.iconst 1, 0) := by decide +kernel
theorem at_240_16 : am_at (am_m 240) 16 = some (.isub, 0) := by decide +kernel
theorem at_240_17 : am_at (am_m 240) 17 = some (.iload_n 1, 0) := by decide +kernel
theorem at_240_18 : am_at (am_m 240) 18 = some (.invokevirtual 108, 241) := by decide +kernel
theorem at_240_21 : am_at (am_m 240) 21 = some (.ireturn, 0) := by decide +kernel
theorem at_241_0 : am_at (am_m 241) 0 = some (.iload_n 1, 0) := by decide +kernel
theorem at_241_1 : am_at (am_m 241) 1 = some (.iload_n 3, 0) := by decide +kernel
theorem at_241_2 : am_at (am_m 241) 2 = some (.ishr, 0) := by decide +kernel
theorem at_241_3 : am_at (am_m 241) 3 = some (.iconst 1, 0) := by decide +kernel
theorem at_241_4 : am_at (am_m 241) 4 = some (.iand, 0) := by decide +kernel
theorem at_241_5 : am_at (am_m 241) 5 = some (.ifCond .ne 5, 10) := by decide +kernel
theorem at_241_8 : am_at (am_m 241) 8 = some (.iconst 0, 0) := by decide +kernel
theorem at_241_9 : am_at (am_m 241) 9 = some (.ireturn, 0) := by decide +kernel
theorem at_241_10 : am_at (am_m 241) 10 = some (.iload_n 2, 0) := by decide +kernel
theorem at_241_11 : am_at (am_m 241) 11 = some (.ifCond .eq 11, 22) := by decide +kernel
theorem at_241_14 : am_at (am_m 241) 14 = some (.iload_n 1, 0) := by decide +kernel
theorem at_241_15 : am_at (am_m 241) 15 = some (.invokestatic 112, 242) := by decide +kernel
theorem at_241_18 : am_at (am_m 241) 18 = some (.iconst 1, 0) := by decide +kernel
theorem at_241_19 : am_at (am_m 241) 19 = some (.if_icmp .ne 24, 43) := by decide +kernel
theorem at_241_22 : am_at (am_m 241) 22 = some (.aload_n 0, 0) := by decide +kernel
theorem at_241_23 : am_at (am_m 241) 23 = some (.iload_n 1, 0) := by decide +kernel
theorem at_241_24 : am_at (am_m 241) 24 = some (.invokevirtual 104, 226) := by decide +kernel
theorem at_241_27 : am_at (am_m 241) 27 = some (.iload_n 3, 0) := by decide +kernel
theorem at_241_28 : am_at (am_m 241) 28 = some (.if_icmp .ne 13, 41) := by decide +kernel
theorem at_241_31 : am_at (am_m 241) 31 = some (.iload_n 2, 0) := by decide +kernel
theorem at_241_32 : am_at (am_m 241) 32 = some (.invokestatic 112, 242) := by decide +kernel
theorem at_241_35 : am_at (am_m 241) 35 = some (.invokestatic 117, 243) := by decide +kernel
theorem at_241_38 : am_at (am_m 241) 38 = some (.goto 4, 42) := by decide +kernel
theorem at_241_41 : am_at (am_m 241) 41 = some (.iconst 0, 0) := by decide +kernel
theorem at_241_42 : am_at (am_m 241) 42 = some (.ireturn, 0) := by decide +kernel
theorem at_241_43 : am_at (am_m 241) 43 = some (.iconst 0, 0) := by decide +kernel
theorem at_241_44 : am_at (am_m 241) 44 = some (.istore 4, 0) := by decide +kernel
theorem at_241_46 : am_at (am_m 241) 46 = some (.iconst 0, 0) := by decide +kernel
theorem at_241_47 : am_at (am_m 241) 47 = some (.istore 5, 0) := by decide +kernel
theorem at_241_49 : am_at (am_m 241) 49 = some (.iload 5, 0) := by decide +kernel
theorem at_241_51 : am_at (am_m 241) 51 = some (.bipush 6, 0) := by decide +kernel
theorem at_241_53 : am_at (am_m 241) 53 = some (.if_icmp .ge 44, 97) := by decide +kernel
theorem at_241_56 : am_at (am_m 241) 56 = some (.iload_n 2, 0) := by decide +kernel
theorem at_241_57 : am_at (am_m 241) 57 = some (.iload 5, 0) := by decide +kernel
theorem at_241_59 : am_at (am_m 241) 59 = some (.ishr, 0) := by decide +kernel
theorem at_241_60 : am_at (am_m 241) 60 = some (.iconst 1, 0) := by decide +kernel
theorem at_241_61 : am_at (am_m 241) 61 = some (.iand, 0) := by decide +kernel
theorem at_241_62 : am_at (am_m 241) 62 = some (.iconst 1, 0) := by decide +kernel
theorem at_241_63 : am_at (am_m 241) 63 = some (.if_icmp .ne 28, 91) := by decide +kernel
theorem at_241_66 : am_at (am_m 241) 66 = some (.iload 4, 0) := by decide +kernel
theorem at_241_68 : am_at (am_m 241) 68 = some (.aload_n 0, 0) := by decide +kernel
theorem at_241_69 : am_at (am_m 241) 69 = some (.aload_n 0, 0) := by decide +kernel
theorem at_241_70 : am_at (am_m 241) 70 = some (.iload_n 1, 0) := by decide +kernel
theorem at_241_71 : am_at (am_m 241) 71 = some (.iload 5, 0) := by decide +kernel
theorem at_241_73 : am_at (am_m 241) 73 = some (.invokevirtual 101, 225) := by decide +kernel
theorem at_241_76 : am_at (am_m 241) 76 = some (.iload_n 2, 0) := by decide +kernel
theorem at_241_77 : am_at (am_m 241) 77 = some (.iconst 1, 0) := by decide +kernel
theorem at_241_78 : am_at (am_m 241) 78 = some (.iload 5, 0) := by decide +kernel
theorem at_241_80 : am_at (am_m 241) 80 = some (.ishl, 0) := by decide +kernel
theorem at_241_81 : am_at (am_m 241) 81 = some (.iconst (-1), 0) := by decide +kernel
theorem at_241_82 : am_at (am_m 241) 82 = some (.ixor, 0) := by decide +kernel
theorem at_241_83 : am_at (am_m 241) 83 = some (.iand, 0) := by decide +kernel
theorem at_241_84 : am_at (am_m 241) 84 = some (.iload_n 3, 0) := by decide +kernel
theorem at_241_85 : am_at (am_m 241) 85 = some (.invokevirtual 108, 241) := by decide +kernel
theorem at_241_88 : am_at (am_m 241) 88 = some (.iadd, 0) := by decide +kernel
theorem at_241_89 : am_at (am_m 241) 89 = some (.istore 4, 0) := by decide +kernel
theorem at_241_91 : am_at (am_m 241) 91 = some (.iinc 5 1, 0) := by decide +kernel
theorem at_241_94 : am_at (am_m 241) 94 = some (.goto (-45), 49) := by decide +kernel
theorem at_241_97 : am_at (am_m 241) 97 = some (.iload 4, 0) := by decide +kernel
theorem at_241_99 : am_at (am_m 241) 99 = some (.ireturn, 0) := by decide +kernel
theorem at_242_0 : am_at (am_m 242) 0 = some (.iload_n 0, 0) := by decide +kernel
theorem at_242_1 : am_at (am_m 242) 1 = some (.iload_n 0, 0) := by decide +kernel
theorem at_242_2 : am_at (am_m 242) 2 = some (.iconst 1, 0) := by decide +kernel
theorem at_242_3 : am_at (am_m 242) 3 = some (.iushr, 0) := by decide +kernel
theorem at_242_4 : am_at (am_m 242) 4 = some (.ldc_w 265, 35) := by decide +kernel
theorem at_242_7 : am_at (am_m 242) 7 = some (.iand, 0) := by decide +kernel
theorem at_242_8 : am_at (am_m 242) 8 = some (.isub, 0) := by decide +kernel
theorem at_242_9 : am_at (am_m 242) 9 = some (.istore_n 0, 0) := by decide +kernel
theorem at_242_10 : am_at (am_m 242) 10 = some (.iload_n 0, 0) := by decide +kernel
theorem at_242_11 : am_at (am_m 242) 11 = some (.ldc_w 266, 36) := by decide +kernel
theorem at_242_14 : am_at (am_m 242) 14 = some (.iand, 0) := by decide +kernel
theorem at_242_15 : am_at (am_m 242) 15 = some (.iload_n 0, 0) := by decide +kernel
theorem at_242_16 : am_at (am_m 242) 16 = some (.iconst 2, 0) := by decide +kernel
theorem at_242_17 : am_at (am_m 242) 17 = some (.iushr, 0) := by decide +kernel
theorem at_242_18 : am_at (am_m 242) 18 = some (.ldc_w 266, 36) := by decide +kernel
theorem at_242_21 : am_at (am_m 242) 21 = some (.iand, 0) := by decide +kernel
theorem at_242_22 : am_at (am_m 242) 22 = some (.iadd, 0) := by decide +kernel
theorem at_242_23 : am_at (am_m 242) 23 = some (.istore_n 0, 0) := by decide +kernel
theorem at_242_24 : am_at (am_m 242) 24 = some (.iload_n 0, 0) := by decide +kernel
theorem at_242_25 : am_at (am_m 242) 25 = some (.iload_n 0, 0) := by decide +kernel
theorem at_242_26 : am_at (am_m 242) 26 = some (.iconst 4, 0) := by decide +kernel
theorem at_242_27 : am_at (am_m 242) 27 = some (.iushr, 0) := by decide +kernel
theorem at_242_28 : am_at (am_m 242) 28 = some (.iadd, 0) := by decide +kernel
theorem at_242_29 : am_at (am_m 242) 29 = some (.ldc_w 267, 37) := by decide +kernel
theorem at_242_32 : am_at (am_m 242) 32 = some (.iand, 0) := by decide +kernel
theorem at_242_33 : am_at (am_m 242) 33 = some (.istore_n 0, 0) := by decide +kernel
theorem at_242_34 : am_at (am_m 242) 34 = some (.iload_n 0, 0) := by decide +kernel
theorem at_242_35 : am_at (am_m 242) 35 = some (.iload_n 0, 0) := by decide +kernel
theorem at_242_36 : am_at (am_m 242) 36 = some (.bipush 8, 0) := by decide +kernel
theorem at_242_38 : am_at (am_m 242) 38 = some (.iushr, 0) := by decide +kernel
theorem at_242_39 : am_at (am_m 242) 39 = some (.iadd, 0) := by decide +kernel
theorem at_242_40 : am_at (am_m 242) 40 = some (.istore_n 0, 0) := by decide +kernel
theorem at_242_41 : am_at (am_m 242) 41 = some (.iload_n 0, 0) := by decide +kernel
theorem at_242_42 : am_at (am_m 242) 42 = some (.iload_n 0, 0) := by decide +kernel
theorem at_242_43 : am_at (am_m 242) 43 = some (.bipush 16, 0) := by decide +kernel
theorem at_242_45 : am_at (am_m 242) 45 = some (.iushr, 0) := by decide +kernel
theorem at_242_46 : am_at (am_m 242) 46 = some (.iadd, 0) := by decide +kernel
theorem at_242_47 : am_at (am_m 242) 47 = some (.istore_n 0, 0) := by decide +kernel
theorem at_242_48 : am_at (am_m 242) 48 = some (.iload_n 0, 0) := by decide +kernel
theorem at_242_49 : am_at (am_m 242) 49 = some (.bipush 63, 0) := by decide +kernel
theorem at_242_51 : am_at (am_m 242) 51 = some (.iand, 0) := by decide +kernel
theorem at_242_52 : am_at (am_m 242) 52 = some (.ireturn, 0) := by decide +kernel
theorem at_243_0 : am_at (am_m 243) 0 = some (.iconst 1, 0) := by decide +kernel
theorem at_243_1 : am_at (am_m 243) 1 = some (.istore_n 1, 0) := by decide +kernel
theorem at_243_2 : am_at (am_m 243) 2 = some (.iconst 2, 0) := by decide +kernel
theorem at_243_3 : am_at (am_m 243) 3 = some (.istore_n 2, 0) := by decide +kernel
theorem at_243_4 : am_at (am_m 243) 4 = some (.iload_n 2, 0) := by decide +kernel
theorem at_243_5 : am_at (am_m 243) 5 = some (.iload_n 0, 0) := by decide +kernel
theorem at_243_6 : am_at (am_m 243) 6 = some (.if_icmp .gt 13, 19) := by decide +kernel
theorem at_243_9 : am_at (am_m 243) 9 = some (.iload_n 1, 0) := by decide +kernel
theorem at_243_10 : am_at (am_m 243) 10 = some (.iload_n 2, 0) := by decide +kernel
theorem at_243_11 : am_at (am_m 243) 11 = some (.imul, 0) := by decide +kernel
theorem at_243_12 : am_at (am_m 243) 12 = some (.istore_n 1, 0) := by decide +kernel
theorem at_243_13 : am_at (am_m 243) 13 = some (.iinc 2 1, 0) := by decide +kernel
theorem at_243_16 : am_at (am_m 243) 16 = some (.goto (-12), 4) := by decide +kernel
theorem at_243_19 : am_at (am_m 243) 19 = some (.iload_n 1, 0) := by decide +kernel
theorem at_243_20 : am_at (am_m 243) 20 = some (.ireturn, 0) := by decide +kernel
theorem at_244_0 : am_at (am_m 244) 0 = some (.aload_n 3, 0) := by decide +kernel
theorem at_244_1 : am_at (am_m 244) 1 = some (.iconst 0, 0) := by decide +kernel
theorem at_244_2 : am_at (am_m 244) 2 = some (.aload_n 0, 0) := by decide +kernel
theorem at_244_3 : am_at (am_m 244) 3 = some (.iload_n 1, 0) := by decide +kernel
theorem at_244_4 : am_at (am_m 244) 4 = some (.iload_n 2, 0) := by decide +kernel
theorem at_244_5 : am_at (am_m 244) 5 = some (.invokevirtual 130, 245) := by decide +kernel
theorem at_244_8 : am_at (am_m 244) 8 = some (.lastore, 0) := by decide +kernel
theorem at_244_9 : am_at (am_m 244) 9 = some (.goto 7, 16) := by decide +kernel
theorem at_244_14 : am_at (am_m 244) 14 = some (.iconst 1, 0) := by decide +kernel
theorem at_244_15 : am_at (am_m 244) 15 = some (.ireturn, 0) := by decide +kernel
theorem at_244_16 : am_at (am_m 244) 16 = some (.iconst 0, 0) := by decide +kernel
theorem at_244_17 : am_at (am_m 244) 17 = some (.ireturn, 0) := by decide +kernel
theorem at_245_0 : am_at (am_m 245) 0 = some (.aload_n 0, 0) := by decide +kernel
theorem at_245_1 : am_at (am_m 245) 1 = some (.iload_n 1, 0) := by decide +kernel
theorem at_245_2 : am_at (am_m 245) 2 = some (.invokevirtual 132, 63) := by decide +kernel
theorem at_245_5 : am_at (am_m 245) 5 = some (.astore_n 3, 0) := by decide +kernel
theorem at_245_6 : am_at (am_m 245) 6 = some (.aload_n 0, 0) := by decide +kernel
theorem at_245_7 : am_at (am_m 245) 7 = some (.getfield 29, 2819) := by decide +kernel
theorem at_245_10 : am_at (am_m 245) 10 = some (.aload_n 3, 0) := by decide +kernel
theorem at_245_11 : am_at (am_m 245) 11 = some (.aload_n 0, 0) := by decide +kernel
theorem at_245_12 : am_at (am_m 245) 12 = some (.iload_n 2, 0) := by decide +kernel
theorem at_245_13 : am_at (am_m 245) 13 = some (.invokevirtual 132, 63) := by decide +kernel
theorem at_245_16 : am_at (am_m 245) 16 = some (.invokevirtual 391, 246) := by decide +kernel
theorem at_245_19 : am_at (am_m 245) 19 = some (.lreturn, 0) := by decide +kernel
theorem at_246_0 : am_at (am_m 246) 0 = some (.aload_n 0, 0) := by decide +kernel
theorem at_246_1 : am_at (am_m 246) 1 = some (.getfield 22, 514) := by decide +kernel
theorem at_246_4 : am_at (am_m 246) 4 = some (.aload_n 1, 0) := by decide +kernel
theorem at_246_5 : am_at (am_m 246) 5 = some (.invokevirtual 79, 115) := by decide +kernel
theorem at_246_8 : am_at (am_m 246) 8 = some (.aload_n 0, 0) := by decide +kernel
theorem at_246_9 : am_at (am_m 246) 9 = some (.getfield 26, 515) := by decide +kernel
theorem at_246_12 : am_at (am_m 246) 12 = some (.aload_n 2, 0) := by decide +kernel
theorem at_246_13 : am_at (am_m 246) 13 = some (.invokevirtual 79, 115) := by decide +kernel
theorem at_246_16 : am_at (am_m 246) 16 = some (.lconst 0, 0) := by decide +kernel
theorem at_246_17 : am_at (am_m 246) 17 = some (.lstore_n 3, 0) := by decide +kernel
theorem at_246_18 : am_at (am_m 246) 18 = some (.iconst 0, 0) := by decide +kernel
theorem at_246_19 : am_at (am_m 246) 19 = some (.istore 5, 0) := by decide +kernel
theorem at_246_21 : am_at (am_m 246) 21 = some (.iload 5, 0) := by decide +kernel
theorem at_246_23 : am_at (am_m 246) 23 = some (.aload_n 0, 0) := by decide +kernel
theorem at_246_24 : am_at (am_m 246) 24 = some (.getfield 15, 513) := by decide +kernel
theorem at_246_27 : am_at (am_m 246) 27 = some (.if_icmp .ge 95, 122) := by decide +kernel
theorem at_246_30 : am_at (am_m 246) 30 = some (.aload_n 0, 0) := by decide +kernel
theorem at_246_31 : am_at (am_m 246) 31 = some (.iload 5, 0) := by decide +kernel
theorem at_246_33 : am_at (am_m 246) 33 = some (.iconst 0, 0) := by decide +kernel
theorem at_246_34 : am_at (am_m 246) 34 = some (.invokevirtual 49, 141) := by decide +kernel
theorem at_246_37 : am_at (am_m 246) 37 = some (.ifCond .eq 79, 116) := by decide +kernel
theorem at_246_40 : am_at (am_m 246) 40 = some (.aload_n 0, 0) := by decide +kernel
theorem at_246_41 : am_at (am_m 246) 41 = some (.getfield 22, 514) := by decide +kernel
theorem at_246_44 : am_at (am_m 246) 44 = some (.aload_n 0, 0) := by decide +kernel
theorem at_246_45 : am_at (am_m 246) 45 = some (.getfield 9, 512) := by decide +kernel
theorem at_246_48 : am_at (am_m 246) 48 = some (.iload 5, 0) := by decide +kernel
theorem at_246_50 : am_at (am_m 246) 50 = some (.bipush 15, 0) := by decide +kernel
theorem at_246_52 : am_at (am_m 246) 52 = some (.imul, 0) := by decide +kernel
theorem at_246_53 : am_at (am_m 246) 53 = some (.invokevirtual 65, 116) := by decide +kernel
theorem at_246_56 : am_at (am_m 246) 56 = some (.aload_n 0, 0) := by decide +kernel
theorem at_246_57 : am_at (am_m 246) 57 = some (.getfield 26, 515) := by decide +kernel
theorem at_246_60 : am_at (am_m 246) 60 = some (.aload_n 0, 0) := by decide +kernel
theorem at_246_61 : am_at (am_m 246) 61 = some (.getfield 9, 512) := by decide +kernel
theorem at_246_64 : am_at (am_m 246) 64 = some (.iload 5, 0) := by decide +kernel
theorem at_246_66 : am_at (am_m 246) 66 = some (.bipush 15, 0) := by decide +kernel
theorem at_246_68 : am_at (am_m 246) 68 = some (.imul, 0) := by decide +kernel
theorem at_246_69 : am_at (am_m 246) 69 = some (.invokevirtual 65, 116) := by decide +kernel
theorem at_246_72 : am_at (am_m 246) 72 = some (.lload_n 3, 0) := by decide +kernel
theorem at_246_73 : am_at (am_m 246) 73 = some (.aload_n 0, 0) := by decide +kernel
theorem at_246_74 : am_at (am_m 246) 74 = some (.getfield 22, 514) := by decide +kernel
theorem at_246_77 : am_at (am_m 246) 77 = some (.getfield 69, 1537) := by decide +kernel
theorem at_246_80 : am_at (am_m 246) 80 = some (.aload_n 0, 0) := by decide +kernel
theorem at_246_81 : am_at (am_m 246) 81 = some (.getfield 26, 515) := by decide +kernel
theorem at_246_84 : am_at (am_m 246) 84 = some (.getfield 69, 1537) := by decide +kernel
theorem at_246_87 : am_at (am_m 246) 87 = some (.if_icmp .eq 9, 96) := by decide +kernel
theorem at_246_90 : am_at (am_m 246) 90 = some (.ldc2_w 59, 19) := by decide +kernel
theorem at_246_93 : am_at (am_m 246) 93 = some (.goto 21, 114) := by decide +kernel
theorem at_246_96 : am_at (am_m 246) 96 = some (.aload_n 0, 0) := by decide +kernel
theorem at_246_97 : am_at (am_m 246) 97 = some (.getfield 22, 514) := by decide +kernel
theorem at_246_100 : am_at (am_m 246) 100 = some (.getfield 73, 1539) := by decide +kernel
theorem at_246_103 : am_at (am_m 246) 103 = some (.aload_n 0, 0) := by decide +kernel
theorem at_246_104 : am_at (am_m 246) 104 = some (.getfield 26, 515) := by decide +kernel
theorem at_246_107 : am_at (am_m 246) 107 = some (.getfield 73, 1539) := by decide +kernel
theorem at_246_110 : am_at (am_m 246) 110 = some (.invokestatic 76, 134) := by decide +kernel
theorem at_246_113 : am_at (am_m 246) 113 = some (.i2l, 0) := by decide +kernel
theorem at_246_114 : am_at (am_m 246) 114 = some (.ladd, 0) := by decide +kernel
theorem at_246_115 : am_at (am_m 246) 115 = some (.lstore_n 3, 0) := by decide +kernel
theorem at_246_116 : am_at (am_m 246) 116 = some (.iinc 5 1, 0) := by decide +kernel
theorem at_246_119 : am_at (am_m 246) 119 = some (.goto (-98), 21) := by decide +kernel
theorem at_246_122 : am_at (am_m 246) 122 = some (.lload_n 3, 0) := by decide +kernel
theorem at_246_123 : am_at (am_m 246) 123 = some (.lreturn, 0) := by decide +kernel
theorem at_247_0 : am_at (am_m 247) 0 = some (.aload_n 3, 0) := by decide +kernel
theorem at_247_1 : am_at (am_m 247) 1 = some (.iconst 0, 0) := by decide +kernel
theorem at_247_2 : am_at (am_m 247) 2 = some (.aload_n 0, 0) := by decide +kernel
theorem at_247_3 : am_at (am_m 247) 3 = some (.iload_n 1, 0) := by decide +kernel
theorem at_247_4 : am_at (am_m 247) 4 = some (.iload_n 2, 0) := by decide +kernel
theorem at_247_5 : am_at (am_m 247) 5 = some (.invokevirtual 133, 248) := by decide +kernel
theorem at_247_8 : am_at (am_m 247) 8 = some (.lastore, 0) := by decide +kernel
theorem at_247_9 : am_at (am_m 247) 9 = some (.goto 7, 16) := by decide +kernel
theorem at_247_14 : am_at (am_m 247) 14 = some (.iconst 1, 0) := by decide +kernel
theorem at_247_15 : am_at (am_m 247) 15 = some (.ireturn, 0) := by decide +kernel
theorem at_247_16 : am_at (am_m 247) 16 = some (.iconst 0, 0) := by decide +kernel
theorem at_247_17 : am_at (am_m 247) 17 = some (.ireturn, 0) := by decide +kernel
theorem at_248_0 : am_at (am_m 248) 0 = some (.aload_n 0, 0) := by decide +kernel
theorem at_248_1 : am_at (am_m 248) 1 = some (.iload_n 1, 0) := by decide +kernel
theorem at_248_2 : am_at (am_m 248) 2 = some (.invokevirtual 330, 201) := by decide +kernel
theorem at_248_5 : am_at (am_m 248) 5 = some (.astore_n 3, 0) := by decide +kernel
theorem at_248_6 : am_at (am_m 248) 6 = some (.aload_n 0, 0) := by decide +kernel
theorem at_248_7 : am_at (am_m 248) 7 = some (.aload_n 0, 0) := by decide +kernel
theorem at_248_8 : am_at (am_m 248) 8 = some (.aload_n 3, 0) := by decide +kernel
theorem at_248_9 : am_at (am_m 248) 9 = some (.iload_n 2, 0) := by decide +kernel
theorem at_248_10 : am_at (am_m 248) 10 = some (.invokevirtual 350, 214) := by decide +kernel
theorem at_248_13 : am_at (am_m 248) 13 = some (.invokevirtual 132, 63) := by decide +kernel
theorem at_248_16 : am_at (am_m 248) 16 = some (.astore 4, 0) := by decide +kernel
theorem at_248_18 : am_at (am_m 248) 18 = some (.ldc2_w 395, 38) := by decide +kernel
theorem at_248_21 : am_at (am_m 248) 21 = some (.lstore 5, 0) := by decide +kernel
theorem at_248_23 : am_at (am_m 248) 23 = some (.ldc2_w 395, 38) := by decide +kernel
theorem at_248_26 : am_at (am_m 248) 26 = some (.lstore 7, 0) := by decide +kernel
theorem at_248_28 : am_at (am_m 248) 28 = some (.ldc2_w 395, 38) := by decide +kernel
theorem at_248_31 : am_at (am_m 248) 31 = some (.lstore 9, 0) := by decide +kernel
theorem at_248_33 : am_at (am_m 248) 33 = some (.iconst 0, 0) := by decide +kernel
theorem at_248_34 : am_at (am_m 248) 34 = some (.istore 11, 0) := by decide +kernel
theorem at_248_36 : am_at (am_m 248) 36 = some (.iload 11, 0) := by decide +kernel
theorem at_248_38 : am_at (am_m 248) 38 = some (.aload_n 3, 0) := by decide +kernel
theorem at_248_39 : am_at (am_m 248) 39 = some (.getfield 342, 256) := by decide +kernel
theorem at_248_42 : am_at (am_m 248) 42 = some (.if_icmp .ge 74, 116) := by decide +kernel
theorem at_248_45 : am_at (am_m 248) 45 = some (.iload 11, 0) := by decide +kernel
theorem at_248_47 : am_at (am_m 248) 47 = some (.iload_n 2, 0) := by decide +kernel
theorem at_248_48 : am_at (am_m 248) 48 = some (.if_icmp .eq 62, 110) := by decide +kernel
theorem at_248_51 : am_at (am_m 248) 51 = some (.aload_n 0, 0) := by decide +kernel
theorem at_248_52 : am_at (am_m 248) 52 = some (.getfield 29, 2819) := by decide +kernel
theorem at_248_55 : am_at (am_m 248) 55 = some (.aload 4, 0) := by decide +kernel
theorem at_248_57 : am_at (am_m 248) 57 = some (.aload_n 0, 0) := by decide +kernel
theorem at_248_58 : am_at (am_m 248) 58 = some (.aload_n 3, 0) := by decide +kernel
theorem at_248_59 : am_at (am_m 248) 59 = some (.getfield 347, 257) := by decide +kernel
theorem at_248_62 : am_at (am_m 248) 62 = some (.iload 11, 0) := by decide +kernel
theorem at_248_64 : am_at (am_m 248) 64 = some (.iaload, 0) := by decide +kernel
theorem at_248_65 : am_at (am_m 248) 65 = some (.invokevirtual 132, 63) := by decide +kernel
theorem at_248_68 : am_at (am_m 248) 68 = some (.invokevirtual 391, 246) := by decide +kernel
theorem at_248_71 : am_at (am_m 248) 71 = some (.lstore 12, 0) := by decide +kernel
theorem at_248_73 : am_at (am_m 248) 73 = some (.lload 9, 0) := by decide +kernel
theorem at_248_75 : am_at (am_m 248) 75 = some (.lload 7, 0) := by decide +kernel
theorem at_248_77 : am_at (am_m 248) 77 = some (.lload 12, 0) := by decide +kernel
theorem at_248_79 : am_at (am_m 248) 79 = some (.invokestatic 397, 249) := by decide +kernel
theorem at_248_82 : am_at (am_m 248) 82 = some (.invokestatic 401, 136) := by decide +kernel
theorem at_248_85 : am_at (am_m 248) 85 = some (.lstore 9, 0) := by decide +kernel
theorem at_248_87 : am_at (am_m 248) 87 = some (.lload 7, 0) := by decide +kernel
theorem at_248_89 : am_at (am_m 248) 89 = some (.lload 5, 0) := by decide +kernel
theorem at_248_91 : am_at (am_m 248) 91 = some (.lload 12, 0) := by decide +kernel
theorem at_248_93 : am_at (am_m 248) 93 = some (.invokestatic 397, 249) := by decide +kernel
theorem at_248_96 : am_at (am_m 248) 96 = some (.invokestatic 401, 136) := by decide +kernel
theorem at_248_99 : am_at (am_m 248) 99 = some (.lstore 7, 0) := by decide +kernel
theorem at_248_101 : am_at (am_m 248) 101 = some (.lload 5, 0) := by decide +kernel
theorem at_248_103 : am_at (am_m 248) 103 = some (.lload 12, 0) := by decide +kernel
theorem at_248_105 : am_at (am_m 248) 105 = some (.invokestatic 401, 136) := by decide +kernel
theorem at_248_108 : am_at (am_m 248) 108 = some (.lstore 5, 0) := by decide +kernel
theorem at_248_110 : am_at (am_m 248) 110 = some (.iinc 11 1, 0) := by decide +kernel
theorem at_248_113 : am_at (am_m 248) 113 = some (.goto (-77), 36) := by decide +kernel
theorem at_248_116 : am_at (am_m 248) 116 = some (.aload_n 3, 0) := by decide +kernel
theorem at_248_117 : am_at (am_m 248) 117 = some (.getfield 342, 256) := by decide +kernel
theorem at_248_120 : am_at (am_m 248) 120 = some (.iconst 1, 0) := by decide +kernel
theorem at_248_121 : am_at (am_m 248) 121 = some (.if_icmp .le 8, 129) := by decide +kernel
theorem at_248_124 : am_at (am_m 248) 124 = some (.lload 5, 0) := by decide +kernel
theorem at_248_126 : am_at (am_m 248) 126 = some (.goto 4, 130) := by decide +kernel
theorem at_248_129 : am_at (am_m 248) 129 = some (.lconst 0, 0) := by decide +kernel
theorem at_248_130 : am_at (am_m 248) 130 = some (.aload_n 3, 0) := by decide +kernel
theorem at_248_131 : am_at (am_m 248) 131 = some (.getfield 342, 256) := by decide +kernel
theorem at_248_134 : am_at (am_m 248) 134 = some (.iconst 2, 0) := by decide +kernel
theorem at_248_135 : am_at (am_m 248) 135 = some (.if_icmp .le 8, 143) := by decide +kernel
theorem at_248_138 : am_at (am_m 248) 138 = some (.lload 7, 0) := by decide +kernel
theorem at_248_140 : am_at (am_m 248) 140 = some (.goto 4, 144) := by decide +kernel
theorem at_248_143 : am_at (am_m 248) 143 = some (.lconst 0, 0) := by decide +kernel
theorem at_248_144 : am_at (am_m 248) 144 = some (.ladd, 0) := by decide +kernel
theorem at_248_145 : am_at (am_m 248) 145 = some (.aload_n 3, 0) := by decide +kernel
theorem at_248_146 : am_at (am_m 248) 146 = some (.getfield 342, 256) := by decide +kernel
theorem at_248_149 : am_at (am_m 248) 149 = some (.iconst 3, 0) := by decide +kernel
theorem at_248_150 : am_at (am_m 248) 150 = some (.if_icmp .le 8, 158) := by decide +kernel
theorem at_248_153 : am_at (am_m 248) 153 = some (.lload 9, 0) := by decide +kernel
theorem at_248_155 : am_at (am_m 248) 155 = some (.goto 4, 159) := by decide +kernel
theorem at_248_158 : am_at (am_m 248) 158 = some (.lconst 0, 0) := by decide +kernel
theorem at_248_159 : am_at (am_m 248) 159 = some (.ladd, 0) := by decide +kernel
theorem at_248_160 : am_at (am_m 248) 160 = some (.lreturn, 0) := by decide +kernel
theorem at_249_0 : am_at (am_m 249) 0 = some (.lload_n 0, 0) := by decide +kernel
theorem at_249_1 : am_at (am_m 249) 1 = some (.lload_n 2, 0) := by decide +kernel
theorem at_249_2 : am_at (am_m 249) 2 = some (.lcmp, 0) := by decide +kernel
theorem at_249_3 : am_at (am_m 249) 3 = some (.ifCond .lt 7, 10) := by decide +kernel
theorem at_249_6 : am_at (am_m 249) 6 = some (.lload_n 0, 0) := by decide +kernel
theorem at_249_7 : am_at (am_m 249) 7 = some (.goto 4, 11) := by decide +kernel
theorem at_249_10 : am_at (am_m 249) 10 = some (.lload_n 2, 0) := by decide +kernel
theorem at_249_11 : am_at (am_m 249) 11 = some (.lreturn, 0) := by decide +kernel
theorem at_250_0 : am_at (am_m 250) 0 = some (.aload_n 2, 0) := by decide +kernel
theorem at_250_1 : am_at (am_m 250) 1 = some (.iconst 0, 0) := by decide +kernel
theorem at_250_2 : am_at (am_m 250) 2 = some (.aload_n 0, 0) := by decide +kernel
theorem at_250_3 : am_at (am_m 250) 3 = some (.iload_n 1, 0) := by decide +kernel
theorem at_250_4 : am_at (am_m 250) 4 = some (.invokevirtual 136, 251) := by decide +kernel
theorem at_250_7 : am_at (am_m 250) 7 = some (.i2l, 0) := by decide +kernel
theorem at_250_8 : am_at (am_m 250) 8 = some (.lastore, 0) := by decide +kernel
theorem at_250_9 : am_at (am_m 250) 9 = some (.goto 6, 15) := by decide +kernel
theorem at_250_13 : am_at (am_m 250) 13 = some (.iconst 1, 0) := by decide +kernel
theorem at_250_14 : am_at (am_m 250) 14 = some (.ireturn, 0) := by decide +kernel
theorem at_250_15 : am_at (am_m 250) 15 = some (.iconst 0, 0) := by decide +kernel
theorem at_250_16 : am_at (am_m 250) 16 = some (.ireturn, 0) := by decide +kernel
theorem at_251_0 : am_at (am_m 251) 0 = some (.aload_n 0, 0) := by decide +kernel
theorem at_251_1 : am_at (am_m 251) 1 = some (.iload_n 1, 0) := by decide +kernel
theorem at_251_2 : am_at (am_m 251) 2 = some (.invokevirtual 132, 63) := by decide +kernel
theorem at_251_5 : am_at (am_m 251) 5 = some (.pop, 0) := by decide +kernel
theorem at_251_6 : am_at (am_m 251) 6 = some (.aload_n 0, 0) := by decide +kernel
theorem at_251_7 : am_at (am_m 251) 7 = some (.getfield 97, 2833) := by decide +kernel
theorem at_251_10 : am_at (am_m 251) 10 = some (.iconst 0, 0) := by decide +kernel
theorem at_251_11 : am_at (am_m 251) 11 = some (.invokestatic 222, 53) := by decide +kernel
theorem at_251_14 : am_at (am_m 251) 14 = some (.aload_n 0, 0) := by decide +kernel
theorem at_251_15 : am_at (am_m 251) 15 = some (.iload_n 1, 0) := by decide +kernel
theorem at_251_16 : am_at (am_m 251) 16 = some (.iconst 1, 0) := by decide +kernel
theorem at_251_17 : am_at (am_m 251) 17 = some (.invokevirtual 403, 252) := by decide +kernel
theorem at_251_20 : am_at (am_m 251) 20 = some (.iconst 0, 0) := by decide +kernel
theorem at_251_21 : am_at (am_m 251) 21 = some (.istore_n 2, 0) := by decide +kernel
theorem at_251_22 : am_at (am_m 251) 22 = some (.iconst 0, 0) := by decide +kernel
theorem at_251_23 : am_at (am_m 251) 23 = some (.istore_n 3, 0) := by decide +kernel
theorem at_251_24 : am_at (am_m 251) 24 = some (.iload_n 3, 0) := by decide +kernel
theorem at_251_25 : am_at (am_m 251) 25 = some (.iload_n 1, 0) := by decide +kernel
theorem at_251_26 : am_at (am_m 251) 26 = some (.if_icmp .ge 18, 44) := by decide +kernel
theorem at_251_29 : am_at (am_m 251) 29 = some (.iload_n 2, 0) := by decide +kernel
theorem at_251_30 : am_at (am_m 251) 30 = some (.aload_n 0, 0) := by decide +kernel
theorem at_251_31 : am_at (am_m 251) 31 = some (.getfield 97, 2833) := by decide +kernel
theorem at_251_34 : am_at (am_m 251) 34 = some (.iload_n 3, 0) := by decide +kernel
theorem at_251_35 : am_at (am_m 251) 35 = some (.iaload, 0) := by decide +kernel
theorem at_251_36 : am_at (am_m 251) 36 = some (.iadd, 0) := by decide +kernel
theorem at_251_37 : am_at (am_m 251) 37 = some (.istore_n 2, 0) := by decide +kernel
theorem at_251_38 : am_at (am_m 251) 38 = some (.iinc 3 1, 0) := by decide +kernel
theorem at_251_41 : am_at (am_m 251) 41 = some (.goto (-17), 24) := by decide +kernel
theorem at_251_44 : am_at (am_m 251) 44 = some (.iload_n 2, 0) := by decide +kernel
theorem at_251_45 : am_at (am_m 251) 45 = some (.ireturn, 0) := by decide +kernel
theorem at_252_0 : am_at (am_m 252) 0 = some (.aload_n 0, 0) := by decide +kernel
theorem at_252_1 : am_at (am_m 252) 1 = some (.iload_n 1, 0) := by decide +kernel
theorem at_252_2 : am_at (am_m 252) 2 = some (.iload_n 2, 0) := by decide +kernel
theorem at_252_3 : am_at (am_m 252) 3 = some (.invokevirtual 552, 253) := by decide +kernel
theorem at_252_6 : am_at (am_m 252) 6 = some (.iload_n 1, 0) := by decide +kernel
theorem at_252_7 : am_at (am_m 252) 7 = some (.istore_n 3, 0) := by decide +kernel
theorem at_252_8 : am_at (am_m 252) 8 = some (.iload_n 3, 0) := by decide +kernel
theorem at_252_9 : am_at (am_m 252) 9 = some (.ifCond .lt 47, 56) := by decide +kernel
theorem at_252_12 : am_at (am_m 252) 12 = some (.aload_n 0, 0) := by decide +kernel
theorem at_252_13 : am_at (am_m 252) 13 = some (.getfield 97, 2833) := by decide +kernel
theorem at_252_16 : am_at (am_m 252) 16 = some (.iload_n 3, 0) := by decide +kernel
theorem at_252_17 : am_at (am_m 252) 17 = some (.iaload, 0) := by decide +kernel
theorem at_252_18 : am_at (am_m 252) 18 = some (.iload_n 2, 0) := by decide +kernel
theorem at_252_19 : am_at (am_m 252) 19 = some (.iand, 0) := by decide +kernel
theorem at_252_20 : am_at (am_m 252) 20 = some (.ifCond .eq 30, 50) := by decide +kernel
theorem at_252_23 : am_at (am_m 252) 23 = some (.aload_n 0, 0) := by decide +kernel
theorem at_252_24 : am_at (am_m 252) 24 = some (.iload_n 3, 0) := by decide +kernel
theorem at_252_25 : am_at (am_m 252) 25 = some (.invokevirtual 132, 63) := by decide +kernel
theorem at_252_28 : am_at (am_m 252) 28 = some (.astore 4, 0) := by decide +kernel
theorem at_252_30 : am_at (am_m 252) 30 = some (.aload_n 0, 0) := by decide +kernel
theorem at_252_31 : am_at (am_m 252) 31 = some (.aload 4, 0) := by decide +kernel
theorem at_252_33 : am_at (am_m 252) 33 = some (.getfield 153, 774) := by decide +kernel
theorem at_252_36 : am_at (am_m 252) 36 = some (.iload_n 2, 0) := by decide +kernel
theorem at_252_37 : am_at (am_m 252) 37 = some (.invokevirtual 552, 253) := by decide +kernel
theorem at_252_40 : am_at (am_m 252) 40 = some (.aload_n 0, 0) := by decide +kernel
theorem at_252_41 : am_at (am_m 252) 41 = some (.aload 4, 0) := by decide +kernel
theorem at_252_43 : am_at (am_m 252) 43 = some (.getfield 156, 775) := by decide +kernel
theorem at_252_46 : am_at (am_m 252) 46 = some (.iload_n 2, 0) := by decide +kernel
theorem at_252_47 : am_at (am_m 252) 47 = some (.invokevirtual 552, 253) := by decide +kernel
theorem at_252_50 : am_at (am_m 252) 50 = some (.iinc 3 (-1), 0) := by decide +kernel
theorem at_252_53 : am_at (am_m 252) 53 = some (.goto (-45), 8) := by decide +kernel
theorem at_252_56 : am_at (am_m 252) 56 = some (.return_, 0) := by decide +kernel
theorem at_253_0 : am_at (am_m 253) 0 = some (.iload_n 1, 0) := by decide +kernel
theorem at_253_1 : am_at (am_m 253) 1 = some (.ifCond .lt 22, 23) := by decide +kernel
theorem at_253_4 : am_at (am_m 253) 4 = some (.iload_n 1, 0) := by decide +kernel
theorem at_253_5 : am_at (am_m 253) 5 = some (.aload_n 0, 0) := by decide +kernel
theorem at_253_6 : am_at (am_m 253) 6 = some (.getfield 97, 2833) := by decide +kernel
theorem at_253_9 : am_at (am_m 253) 9 = some (.arraylength, 0) := by decide +kernel
theorem at_253_10 : am_at (am_m 253) 10 = some (.if_icmp .ge 13, 23) := by decide +kernel
theorem at_253_13 : am_at (am_m 253) 13 = some (.aload_n 0, 0) := by decide +kernel
theorem at_253_14 : am_at (am_m 253) 14 = some (.getfield 97, 2833) := by decide +kernel
theorem at_253_17 : am_at (am_m 253) 17 = some (.iload_n 1, 0) := by decide +kernel
theorem at_253_18 : am_at (am_m 253) 18 = some (.dup2, 0) := by decide +kernel
theorem at_253_19 : am_at (am_m 253) 19 = some (.iaload, 0) := by decide +kernel
theorem at_253_20 : am_at (am_m 253) 20 = some (.iload_n 2, 0) := by decide +kernel
theorem at_253_21 : am_at (am_m 253) 21 = some (.ior, 0) := by decide +kernel
theorem at_253_22 : am_at (am_m 253) 22 = some (.iastore, 0) := by decide +kernel
theorem at_253_23 : am_at (am_m 253) 23 = some (.return_, 0) := by decide +kernel
theorem at_254_0 : am_at (am_m 254) 0 = some (.aload_n 3, 0) := by decide +kernel
theorem at_254_1 : am_at (am_m 254) 1 = some (.iconst 0, 0) := by decide +kernel
theorem at_254_2 : am_at (am_m 254) 2 = some (.aload_n 0, 0) := by decide +kernel
theorem at_254_3 : am_at (am_m 254) 3 = some (.iload_n 1, 0) := by decide +kernel
theorem at_254_4 : am_at (am_m 254) 4 = some (.iload_n 2, 0) := by decide +kernel
theorem at_254_5 : am_at (am_m 254) 5 = some (.invokevirtual 139, 255) := by decide +kernel
theorem at_254_8 : am_at (am_m 254) 8 = some (.i2l, 0) := by decide +kernel
theorem at_254_9 : am_at (am_m 254) 9 = some (.lastore, 0) := by decide +kernel
theorem at_254_10 : am_at (am_m 254) 10 = some (.goto 7, 17) := by decide +kernel
theorem at_254_15 : am_at (am_m 254) 15 = some (.iconst 1, 0) := by decide +kernel
theorem at_254_16 : am_at (am_m 254) 16 = some (.ireturn, 0) := by decide +kernel
theorem at_254_17 : am_at (am_m 254) 17 = some (.iconst 0, 0) := by decide +kernel
theorem at_254_18 : am_at (am_m 254) 18 = some (.ireturn, 0) := by decide +kernel
theorem at_255_0 : am_at (am_m 255) 0 = some (.aload_n 0, 0) := by decide +kernel
theorem at_255_1 : am_at (am_m 255) 1 = some (.iload_n 1, 0) := by decide +kernel
theorem at_255_2 : am_at (am_m 255) 2 = some (.invokevirtual 132, 63) := by decide +kernel
theorem at_255_5 : am_at (am_m 255) 5 = some (.pop, 0) := by decide +kernel
theorem at_255_6 : am_at (am_m 255) 6 = some (.aload_n 0, 0) := by decide +kernel
theorem at_255_7 : am_at (am_m 255) 7 = some (.iload_n 2, 0) := by decide +kernel
theorem at_255_8 : am_at (am_m 255) 8 = some (.invokevirtual 132, 63) := by decide +kernel
theorem at_255_11 : am_at (am_m 255) 11 = some (.pop, 0) := by decide +kernel
theorem at_255_12 : am_at (am_m 255) 12 = some (.aload_n 0, 0) := by decide +kernel
theorem at_255_13 : am_at (am_m 255) 13 = some (.getfield 97, 2833) := by decide +kernel
theorem at_255_16 : am_at (am_m 255) 16 = some (.iconst 0, 0) := by decide +kernel
theorem at_255_17 : am_at (am_m 255) 17 = some (.invokestatic 222, 53) := by decide +kernel
theorem at_255_20 : am_at (am_m 255) 20 = some (.aload_n 0, 0) := by decide +kernel
theorem at_255_21 : am_at (am_m 255) 21 = some (.iload_n 1, 0) := by decide +kernel
theorem at_255_22 : am_at (am_m 255) 22 = some (.iconst 1, 0) := by decide +kernel
theorem at_255_23 : am_at (am_m 255) 23 = some (.invokevirtual 403, 252) := by decide +kernel
theorem at_255_26 : am_at (am_m 255) 26 = some (.aload_n 0, 0) := by decide +kernel
theorem at_255_27 : am_at (am_m 255) 27 = some (.iload_n 2, 0) := by decide +kernel
theorem at_255_28 : am_at (am_m 255) 28 = some (.iconst 2, 0) := by decide +kernel
theorem at_255_29 : am_at (am_m 255) 29 = some (.invokevirtual 403, 252) := by decide +kernel
theorem at_255_32 : am_at (am_m 255) 32 = some (.iload_n 1, 0) := by decide +kernel
theorem at_255_33 : am_at (am_m 255) 33 = some (.iload_n 2, 0) := by decide +kernel
theorem at_255_34 : am_at (am_m 255) 34 = some (.invokestatic 358, 38) := by decide +kernel
theorem at_255_37 : am_at (am_m 255) 37 = some (.istore_n 3, 0) := by decide +kernel
theorem at_255_38 : am_at (am_m 255) 38 = some (.iload_n 3, 0) := by decide +kernel
theorem at_255_39 : am_at (am_m 255) 39 = some (.ifCond .lt 21, 60) := by decide +kernel
theorem at_255_42 : am_at (am_m 255) 42 = some (.aload_n 0, 0) := by decide +kernel
theorem at_255_43 : am_at (am_m 255) 43 = some (.getfield 97, 2833) := by decide +kernel
theorem at_255_46 : am_at (am_m 255) 46 = some (.iload_n 3, 0) := by decide +kernel
theorem at_255_47 : am_at (am_m 255) 47 = some (.iaload, 0) := by decide +kernel
theorem at_255_48 : am_at (am_m 255) 48 = some (.iconst 3, 0) := by decide +kernel
theorem at_255_49 : am_at (am_m 255) 49 = some (.if_icmp .ne 5, 54) := by decide +kernel
theorem at_255_52 : am_at (am_m 255) 52 = some (.iload_n 3, 0) := by decide +kernel
theorem at_255_53 : am_at (am_m 255) 53 = some (.ireturn, 0) := by decide +kernel
theorem at_255_54 : am_at (am_m 255) 54 = some (.iinc 3 (-1), 0) := by decide +kernel
theorem at_255_57 : am_at (am_m 255) 57 = some (.goto (-19), 38) := by decide +kernel
theorem at_255_60 : am_at (am_m 255) 60 = some (.iconst (-1), 0) := by decide +kernel
theorem at_255_61 : am_at (am_m 255) 61 = some (.ireturn, 0) := by decide +kernel
theorem at_256_0 : am_at (am_m 256) 0 = some (.aload_n 3, 0) := by decide +kernel
theorem at_256_1 : am_at (am_m 256) 1 = some (.iconst 0, 0) := by decide +kernel
theorem at_256_2 : am_at (am_m 256) 2 = some (.aload_n 0, 0) := by decide +kernel
theorem at_256_3 : am_at (am_m 256) 3 = some (.iload_n 1, 0) := by decide +kernel
theorem at_256_4 : am_at (am_m 256) 4 = some (.iload_n 2, 0) := by decide +kernel
theorem at_256_5 : am_at (am_m 256) 5 = some (.invokevirtual 142, 257) := by decide +kernel
theorem at_256_8 : am_at (am_m 256) 8 = some (.lastore, 0) := by decide +kernel
theorem at_256_9 : am_at (am_m 256) 9 = some (.goto 11, 20) := by decide +kernel
theorem at_256_14 : am_at (am_m 256) 14 = some (.iconst 1, 0) := by decide +kernel
theorem at_256_15 : am_at (am_m 256) 15 = some (.ireturn, 0) := by decide +kernel
theorem at_256_18 : am_at (am_m 256) 18 = some (.iconst 2, 0) := by decide +kernel
theorem at_256_19 : am_at (am_m 256) 19 = some (.ireturn, 0) := by decide +kernel
theorem at_256_20 : am_at (am_m 256) 20 = some (.iconst 0, 0) := by decide +kernel
theorem at_256_21 : am_at (am_m 256) 21 = some (.ireturn, 0) := by decide +kernel
theorem at_257_0 : am_at (am_m 257) 0 = some (.aload_n 0, 0) := by decide +kernel
theorem at_257_1 : am_at (am_m 257) 1 = some (.iload_n 1, 0) := by decide +kernel
theorem at_257_2 : am_at (am_m 257) 2 = some (.invokevirtual 132, 63) := by decide +kernel
theorem at_257_5 : am_at (am_m 257) 5 = some (.astore_n 3, 0) := by decide +kernel
theorem at_257_6 : am_at (am_m 257) 6 = some (.aload_n 0, 0) := by decide +kernel
theorem at_257_7 : am_at (am_m 257) 7 = some (.iload_n 2, 0) := by decide +kernel
theorem at_257_8 : am_at (am_m 257) 8 = some (.invokevirtual 260, 139) := by decide +kernel
theorem at_257_11 : am_at (am_m 257) 11 = some (.aload_n 3, 0) := by decide +kernel
theorem at_257_12 : am_at (am_m 257) 12 = some (.getfield 153, 774) := by decide +kernel
theorem at_257_15 : am_at (am_m 257) 15 = some (.ifCond .ge 14, 29) := by decide +kernel
theorem at_257_18 : am_at (am_m 257) 18 = some (.new 114, 100) := by decide +kernel
theorem at_257_29 : am_at (am_m 257) 29 = some (.aload_n 0, 0) := by decide +kernel
theorem at_257_30 : am_at (am_m 257) 30 = some (.getfield 29, 2819) := by decide +kernel
theorem at_257_33 : am_at (am_m 257) 33 = some (.aload_n 0, 0) := by decide +kernel
theorem at_257_34 : am_at (am_m 257) 34 = some (.aload_n 3, 0) := by decide +kernel
theorem at_257_35 : am_at (am_m 257) 35 = some (.getfield 153, 774) := by decide +kernel
theorem at_257_38 : am_at (am_m 257) 38 = some (.invokevirtual 132, 63) := by decide +kernel
theorem at_257_41 : am_at (am_m 257) 41 = some (.iconst 0, 0) := by decide +kernel
theorem at_257_42 : am_at (am_m 257) 42 = some (.invokevirtual 263, 140) := by decide +kernel
theorem at_257_45 : am_at (am_m 257) 45 = some (.lstore 4, 0) := by decide +kernel
theorem at_257_47 : am_at (am_m 257) 47 = some (.aload_n 0, 0) := by decide +kernel
theorem at_257_48 : am_at (am_m 257) 48 = some (.getfield 29, 2819) := by decide +kernel
theorem at_257_51 : am_at (am_m 257) 51 = some (.lload 4, 0) := by decide +kernel
theorem at_257_53 : am_at (am_m 257) 53 = some (.aload_n 0, 0) := by decide +kernel
theorem at_257_54 : am_at (am_m 257) 54 = some (.getfield 29, 2819) := by decide +kernel
theorem at_257_57 : am_at (am_m 257) 57 = some (.aload_n 3, 0) := by decide +kernel
theorem at_257_58 : am_at (am_m 257) 58 = some (.iconst 0, 0) := by decide +kernel
theorem at_257_59 : am_at (am_m 257) 59 = some (.invokevirtual 263, 140) := by decide +kernel
theorem at_257_62 : am_at (am_m 257) 62 = some (.lsub, 0) := by decide +kernel
theorem at_257_63 : am_at (am_m 257) 63 = some (.aload_n 0, 0) := by decide +kernel
theorem at_257_64 : am_at (am_m 257) 64 = some (.getfield 29, 2819) := by decide +kernel
theorem at_257_67 : am_at (am_m 257) 67 = some (.iconst 0, 0) := by decide +kernel
theorem at_257_68 : am_at (am_m 257) 68 = some (.invokevirtual 267, 142) := by decide +kernel
theorem at_257_71 : am_at (am_m 257) 71 = some (.invokevirtual 271, 143) := by decide +kernel
theorem at_257_74 : am_at (am_m 257) 74 = some (.aload_n 0, 0) := by decide +kernel
theorem at_257_75 : am_at (am_m 257) 75 = some (.getfield 29, 2819) := by decide +kernel
theorem at_257_78 : am_at (am_m 257) 78 = some (.iload_n 2, 0) := by decide +kernel
theorem at_257_79 : am_at (am_m 257) 79 = some (.invokevirtual 275, 144) := by decide +kernel
theorem at_257_82 : am_at (am_m 257) 82 = some (.lreturn, 0) := by decide +kernel
theorem at_258_0 : am_at (am_m 258) 0 = some (.aload_n 2, 0) := by decide +kernel
theorem at_258_1 : am_at (am_m 258) 1 = some (.iconst 0, 0) := by decide +kernel
theorem at_258_2 : am_at (am_m 258) 2 = some (.aload_n 0, 0) := by decide +kernel
theorem at_258_3 : am_at (am_m 258) 3 = some (.iload_n 1, 0) := by decide +kernel
theorem at_258_4 : am_at (am_m 258) 4 = some (.invokevirtual 145, 259) := by decide +kernel
theorem at_258_7 : am_at (am_m 258) 7 = some (.ifCond .eq 7, 14) := by decide +kernel
theorem at_258_10 : am_at (am_m 258) 10 = some (.lconst 1, 0) := by decide +kernel
theorem at_258_11 : am_at (am_m 258) 11 = some (.goto 4, 15) := by decide +kernel
theorem at_258_14 : am_at (am_m 258) 14 = some (.lconst 0, 0) := by decide +kernel
theorem at_258_15 : am_at (am_m 258) 15 = some (.lastore, 0) := by decide +kernel
theorem at_258_16 : am_at (am_m 258) 16 = some (.goto 9, 25) := by decide +kernel
theorem at_258_20 : am_at (am_m 258) 20 = some (.iconst 1, 0) := by decide +kernel
theorem at_258_21 : am_at (am_m 258) 21 = some (.ireturn, 0) := by decide +kernel
theorem at_258_23 : am_at (am_m 258) 23 = some (.iconst 2, 0) := by decide +kernel
theorem at_258_24 : am_at (am_m 258) 24 = some (.ireturn, 0) := by decide +kernel
theorem at_258_25 : am_at (am_m 258) 25 = some (.iconst 0, 0) := by decide +kernel
theorem at_258_26 : am_at (am_m 258) 26 = some (.ireturn, 0) := by decide +kernel
theorem at_259_0 : am_at (am_m 259) 0 = some (.aload_n 0, 0) := by decide +kernel
theorem at_259_1 : am_at (am_m 259) 1 = some (.iload_n 1, 0) := by decide +kernel
theorem at_259_2 : am_at (am_m 259) 2 = some (.invokevirtual 132, 63) := by decide +kernel
theorem at_259_5 : am_at (am_m 259) 5 = some (.astore_n 2, 0) := by decide +kernel
theorem at_259_6 : am_at (am_m 259) 6 = some (.aload_n 2, 0) := by decide +kernel
theorem at_259_7 : am_at (am_m 259) 7 = some (.getfield 150, 773) := by decide +kernel
theorem at_259_10 : am_at (am_m 259) 10 = some (.iconst 3, 0) := by decide +kernel
theorem at_259_11 : am_at (am_m 259) 11 = some (.if_icmp .eq 22, 33) := by decide +kernel
theorem at_259_14 : am_at (am_m 259) 14 = some (.aload_n 2, 0) := by decide +kernel
theorem at_259_15 : am_at (am_m 259) 15 = some (.getfield 150, 773) := by decide +kernel
theorem at_259_18 : am_at (am_m 259) 18 = some (.iconst 4, 0) := by decide +kernel
theorem at_259_19 : am_at (am_m 259) 19 = some (.if_icmp .eq 14, 33) := by decide +kernel
theorem at_259_22 : am_at (am_m 259) 22 = some (.new 114, 100) := by decide +kernel
theorem at_259_33 : am_at (am_m 259) 33 = some (.aload_n 0, 0) := by decide +kernel
theorem at_259_34 : am_at (am_m 259) 34 = some (.aload_n 2, 0) := by decide +kernel
theorem at_259_35 : am_at (am_m 259) 35 = some (.getfield 153, 774) := by decide +kernel
theorem at_259_38 : am_at (am_m 259) 38 = some (.invokevirtual 132, 63) := by decide +kernel
theorem at_259_41 : am_at (am_m 259) 41 = some (.astore_n 3, 0) := by decide +kernel
theorem at_259_42 : am_at (am_m 259) 42 = some (.aload_n 2, 0) := by decide +kernel
theorem at_259_43 : am_at (am_m 259) 43 = some (.getfield 159, 776) := by decide +kernel
theorem at_259_46 : am_at (am_m 259) 46 = some (.iconst 4, 0) := by decide +kernel
theorem at_259_47 : am_at (am_m 259) 47 = some (.if_icmp .ne 33, 80) := by decide +kernel
theorem at_259_50 : am_at (am_m 259) 50 = some (.aload_n 0, 0) := by decide +kernel
theorem at_259_51 : am_at (am_m 259) 51 = some (.getfield 106, 2835) := by decide +kernel
theorem at_259_54 : am_at (am_m 259) 54 = some (.aload_n 2, 0) := by decide +kernel
theorem at_259_55 : am_at (am_m 259) 55 = some (.getfield 173, 778) := by decide +kernel
theorem at_259_58 : am_at (am_m 259) 58 = some (.putfield 339, 2048) := by decide +kernel
theorem at_259_61 : am_at (am_m 259) 61 = some (.aload_n 0, 0) := by decide +kernel
theorem at_259_62 : am_at (am_m 259) 62 = some (.getfield 54, 2823) := by decide +kernel
theorem at_259_65 : am_at (am_m 259) 65 = some (.aload_n 3, 0) := by decide +kernel
theorem at_259_66 : am_at (am_m 259) 66 = some (.aload_n 0, 0) := by decide +kernel
theorem at_259_67 : am_at (am_m 259) 67 = some (.getfield 106, 2835) := by decide +kernel
theorem at_259_70 : am_at (am_m 259) 70 = some (.aload_n 0, 0) := by decide +kernel
theorem at_259_71 : am_at (am_m 259) 71 = some (.getfield 47, 2822) := by decide +kernel
theorem at_259_74 : am_at (am_m 259) 74 = some (.invokevirtual 411, 191) := by decide +kernel
theorem at_259_77 : am_at (am_m 259) 77 = some (.goto 73, 150) := by decide +kernel
theorem at_259_80 : am_at (am_m 259) 80 = some (.aload_n 2, 0) := by decide +kernel
theorem at_259_81 : am_at (am_m 259) 81 = some (.getfield 162, 777) := by decide +kernel
theorem at_259_84 : am_at (am_m 259) 84 = some (.ifCond .ge 17, 101) := by decide +kernel
theorem at_259_87 : am_at (am_m 259) 87 = some (.aload_n 0, 0) := by decide +kernel
theorem at_259_88 : am_at (am_m 259) 88 = some (.getfield 54, 2823) := by decide +kernel
theorem at_259_91 : am_at (am_m 259) 91 = some (.getfield 319, 0) := by decide +kernel
theorem at_259_94 : am_at (am_m 259) 94 = some (.aload_n 3, 0) := by decide +kernel
theorem at_259_95 : am_at (am_m 259) 95 = some (.invokevirtual 415, 60) := by decide +kernel
theorem at_259_98 : am_at (am_m 259) 98 = some (.goto 52, 150) := by decide +kernel
theorem at_259_101 : am_at (am_m 259) 101 = some (.aload_n 0, 0) := by decide +kernel
theorem at_259_102 : am_at (am_m 259) 102 = some (.getfield 54, 2823) := by decide +kernel
theorem at_259_105 : am_at (am_m 259) 105 = some (.aload_n 3, 0) := by decide +kernel
theorem at_259_106 : am_at (am_m 259) 106 = some (.aload_n 2, 0) := by decide +kernel
theorem at_259_107 : am_at (am_m 259) 107 = some (.getfield 150, 773) := by decide +kernel
theorem at_259_110 : am_at (am_m 259) 110 = some (.iconst 4, 0) := by decide +kernel
theorem at_259_111 : am_at (am_m 259) 111 = some (.if_icmp .ne 14, 125) := by decide +kernel

section LAWCALLS
variable {p : Program} {l : Launch} {e : Env} {s : State} {m : MethodId} {b : Nat} {below : List Frame} {meth : Method} {c : Code} {H : Heap} {locs : List Loc} {Q : State → Prop} {G : GM} {ls : Array Slot} {rest : List Value} {cells slots L i x1 x2 pc : Nat} {zs : Nat → Int32} {w : va_W} {xs ms : ST} {L0 n0 z0 : Nat} {ad bd : Nat → Nat}
theorem lc_type (B : LB p s m c b L zs G) (hr : Rel xs ms L0 n0 z0) (N : Now G s (XW G ad xs ++ MW G bd ms) H locs) (hl : lv_has ls 4 [(0, .ref b), (1, .ref (ad 0)), (2, .ref (bd 0)), (3, .int (nI i))]) (hi : i + 6 < L) (hc : cells + 2 ≤ 600000) (hs : slots + 8 ≤ 7302250)
    (kk : ∀ (xs1 ms1 : ST) (L1 n1 z1 : Nat) (H : Heap) (locs : List Loc), Rel xs1 ms1 L1 n1 z1 → Now G s (XW G ad xs1 ++ MW G bd ms1) H locs → W p l e room_1 s m #[Value.ref b] below meth c H locs (cells + 2) (slots + 8) Q (F0 m 796 ls [])) : W p l e room_1 s m #[Value.ref b] below meth c H locs cells slots Q (F0 m 124 ls []) := by
  have F := B.1
  refine lv_aload_n F.1 F.2.1 dL_law_124 rfl (lv_at hl 1 rfl) ?_
  refine lw_push (k := 1) B N hl (by omega) dL_law_125 dL_law_126 dL_law_127 (by decide) dL_law_128 dL_law_129 ?_
  refine lw_pair (As := [.int (zs (i + 1))]) (pcm := 139) (p_type (zs (i + 1)) hr) F N rfl rfl miX8_type miX9_type k_230 k_756 hl.1 hc hs rfl dL_law_130 dL_law_139 dL_law_142 (by decide) (fun v w H locs cells slots N kk => ?_) kk
  refine lv_aload_n F.1 F.2.1 dL_law_133 rfl (lv_at hl 2 rfl) ?_
  refine lw_push (k := 1) B N hl (by omega) dL_law_134 dL_law_135 dL_law_136 (by decide) dL_law_137 dL_law_138 ?_
  exact kk
theorem lc_clear (B : LB p s m c b L zs G) (hr : Rel xs ms L0 n0 z0) (N : Now G s (XW G ad xs ++ MW G bd ms) H locs) (hl : lv_has ls 4 [(0, .ref b), (1, .ref (ad 0)), (2, .ref (bd 0)), (3, .int (nI i))]) (hi : i + 6 < L) (hc : cells + 2 ≤ 600000) (hs : slots + 8 ≤ 7302250)
    (kk : ∀ (xs1 ms1 : ST) (L1 n1 z1 : Nat) (H : Heap) (locs : List Loc), Rel xs1 ms1 L1 n1 z1 → Now G s (XW G ad xs1 ++ MW G bd ms1) H locs → W p l e room_1 s m #[Value.ref b] below meth c H locs (cells + 2) (slots + 8) Q (F0 m 796 ls [])) : W p l e room_1 s m #[Value.ref b] below meth c H locs cells slots Q (F0 m 147 ls []) := by
  have F := B.1
  refine lv_aload_n F.1 F.2.1 dL_law_147 rfl (lv_at hl 1 rfl) ?_
  refine lw_pair (As := []) (pcm := 152) (p_clear  hr) F N rfl rfl miX8_clear miX9_clear k_249 k_767 hl.1 hc hs rfl dL_law_148 dL_law_152 dL_law_155 (by decide) (fun v w H locs cells slots N kk => ?_) kk
  refine lv_aload_n F.1 F.2.1 dL_law_151 rfl (lv_at hl 2 rfl) ?_
  exact kk
theorem lc_put (B : LB p s m c b L zs G) (hr : Rel xs ms L0 n0 z0) (N : Now G s (XW G ad xs ++ MW G bd ms) H locs) (hl : lv_has ls 4 [(0, .ref b), (1, .ref (ad 0)), (2, .ref (bd 0)), (3, .int (nI i))]) (hi : i + 6 < L) (hc : cells + 2 ≤ 600000) (hs : slots + 8 ≤ 7302250)
    (kk : ∀ (xs1 ms1 : ST) (L1 n1 z1 : Nat) (H : Heap) (locs : List Loc), Rel xs1 ms1 L1 n1 z1 → Now G s (XW G ad xs1 ++ MW G bd ms1) H locs → W p l e room_1 s m #[Value.ref b] below meth c H locs (cells + 2) (slots + 8) Q (F0 m 796 ls [])) : W p l e room_1 s m #[Value.ref b] below meth c H locs cells slots Q (F0 m 160 ls []) := by
  have F := B.1
  refine lv_aload_n F.1 F.2.1 dL_law_160 rfl (lv_at hl 1 rfl) ?_
  refine lw_push (k := 1) B N hl (by omega) dL_law_161 dL_law_162 dL_law_163 (by decide) dL_law_164 dL_law_165 ?_
  refine lw_push (k := 2) B N hl (by omega) dL_law_166 dL_law_167 dL_law_168 (by decide) dL_law_169 dL_law_170 ?_
  refine lw_pair (As := [.int (zs (i + 1)), .int (zs (i + 2))]) (pcm := 185) (p_put (zs (i + 1)) (zs (i + 2)) hr) F N rfl rfl miX8_put miX9_put k_257 k_771 hl.1 hc hs rfl dL_law_171 dL_law_185 dL_law_188 (by decide) (fun v w H locs cells slots N kk => ?_) kk
  refine lv_aload_n F.1 F.2.1 dL_law_174 rfl (lv_at hl 2 rfl) ?_
  refine lw_push (k := 1) B N hl (by omega) dL_law_175 dL_law_176 dL_law_177 (by decide) dL_law_178 dL_law_179 ?_
  refine lw_push (k := 2) B N hl (by omega) dL_law_180 dL_law_181 dL_law_182 (by decide) dL_law_183 dL_law_184 ?_
  exact kk
theorem lc_empties (B : LB p s m c b L zs G) (hr : Rel xs ms L0 n0 z0) (N : Now G s (XW G ad xs ++ MW G bd ms) H locs) (hl : lv_has ls 4 [(0, .ref b), (1, .ref (ad 0)), (2, .ref (bd 0)), (3, .int (nI i))]) (hi : i + 6 < L) (hc : cells + 2 ≤ 600000) (hs : slots + 8 ≤ 7302250)
    (kk : ∀ (xs1 ms1 : ST) (L1 n1 z1 : Nat) (H : Heap) (locs : List Loc), Rel xs1 ms1 L1 n1 z1 → Now G s (XW G ad xs1 ++ MW G bd ms1) H locs → W p l e room_1 s m #[Value.ref b] below meth c H locs (cells + 2) (slots + 8) Q (F0 m 796 ls [])) : W p l e room_1 s m #[Value.ref b] below meth c H locs cells slots Q (F0 m 193 ls []) := by
  have F := B.1
  refine lv_aload_n F.1 F.2.1 dL_law_193 rfl (lv_at hl 1 rfl) ?_
  refine lw_push (k := 1) B N hl (by omega) dL_law_194 dL_law_195 dL_law_196 (by decide) dL_law_197 dL_law_198 ?_
  refine lw_push (k := 2) B N hl (by omega) dL_law_199 dL_law_200 dL_law_201 (by decide) dL_law_202 dL_law_203 ?_
  refine lw_pair (As := [.int (zs (i + 1)), .int (zs (i + 2))]) (pcm := 218) (p_empties (zs (i + 1)) (zs (i + 2)) hr) F N rfl rfl miX8_empties miX9_empties k_361 k_824 hl.1 hc hs rfl dL_law_204 dL_law_218 dL_law_221 (by decide) (fun v w H locs cells slots N kk => ?_) kk
  refine lv_aload_n F.1 F.2.1 dL_law_207 rfl (lv_at hl 2 rfl) ?_
  refine lw_push (k := 1) B N hl (by omega) dL_law_208 dL_law_209 dL_law_210 (by decide) dL_law_211 dL_law_212 ?_
  refine lw_push (k := 2) B N hl (by omega) dL_law_213 dL_law_214 dL_law_215 (by decide) dL_law_216 dL_law_217 ?_
  exact kk
theorem lc_comes (B : LB p s m c b L zs G) (hr : Rel xs ms L0 n0 z0) (N : Now G s (XW G ad xs ++ MW G bd ms) H locs) (hl : lv_has ls 4 [(0, .ref b), (1, .ref (ad 0)), (2, .ref (bd 0)), (3, .int (nI i))]) (hi : i + 6 < L) (hc : cells + 2 ≤ 600000) (hs : slots + 8 ≤ 7302250)
    (kk : ∀ (xs1 ms1 : ST) (L1 n1 z1 : Nat) (H : Heap) (locs : List Loc), Rel xs1 ms1 L1 n1 z1 → Now G s (XW G ad xs1 ++ MW G bd ms1) H locs → W p l e room_1 s m #[Value.ref b] below meth c H locs (cells + 2) (slots + 8) Q (F0 m 796 ls [])) : W p l e room_1 s m #[Value.ref b] below meth c H locs cells slots Q (F0 m 226 ls []) := by
  have F := B.1
  refine lv_aload_n F.1 F.2.1 dL_law_226 rfl (lv_at hl 1 rfl) ?_
  refine lw_push (k := 1) B N hl (by omega) dL_law_227 dL_law_228 dL_law_229 (by decide) dL_law_230 dL_law_231 ?_
  refine lw_push (k := 2) B N hl (by omega) dL_law_232 dL_law_233 dL_law_234 (by decide) dL_law_235 dL_law_236 ?_
  refine lw_push (k := 3) B N hl (by omega) dL_law_237 dL_law_238 dL_law_239 (by decide) dL_law_240 dL_law_241 ?_
  refine lw_pair (As := [.int (zs (i + 1)), .int (zs (i + 2)), .int (zs (i + 3))]) (pcm := 261) (p_comes (zs (i + 1)) (zs (i + 2)) (zs (i + 3)) hr) F N rfl rfl miX8_comes miX9_comes k_378 k_832 hl.1 hc hs rfl dL_law_242 dL_law_261 dL_law_264 (by decide) (fun v w H locs cells slots N kk => ?_) kk
  refine lv_aload_n F.1 F.2.1 dL_law_245 rfl (lv_at hl 2 rfl) ?_
  refine lw_push (k := 1) B N hl (by omega) dL_law_246 dL_law_247 dL_law_248 (by decide) dL_law_249 dL_law_250 ?_
  refine lw_push (k := 2) B N hl (by omega) dL_law_251 dL_law_252 dL_law_253 (by decide) dL_law_254 dL_law_255 ?_
  refine lw_push (k := 3) B N hl (by omega) dL_law_256 dL_law_257 dL_law_258 (by decide) dL_law_259 dL_law_260 ?_
  exact kk
theorem lc_goes (B : LB p s m c b L zs G) (hr : Rel xs ms L0 n0 z0) (N : Now G s (XW G ad xs ++ MW G bd ms) H locs) (hl : lv_has ls 4 [(0, .ref b), (1, .ref (ad 0)), (2, .ref (bd 0)), (3, .int (nI i))]) (hi : i + 6 < L) (hc : cells + 2 ≤ 600000) (hs : slots + 8 ≤ 7302250)
    (kk : ∀ (xs1 ms1 : ST) (L1 n1 z1 : Nat) (H : Heap) (locs : List Loc), Rel xs1 ms1 L1 n1 z1 → Now G s (XW G ad xs1 ++ MW G bd ms1) H locs → W p l e room_1 s m #[Value.ref b] below meth c H locs (cells + 2) (slots + 8) Q (F0 m 796 ls [])) : W p l e room_1 s m #[Value.ref b] below meth c H locs cells slots Q (F0 m 269 ls []) := by
  have F := B.1
  refine lv_aload_n F.1 F.2.1 dL_law_269 rfl (lv_at hl 1 rfl) ?_
  refine lw_push (k := 1) B N hl (by omega) dL_law_270 dL_law_271 dL_law_272 (by decide) dL_law_273 dL_law_274 ?_
  refine lw_push (k := 2) B N hl (by omega) dL_law_275 dL_law_276 dL_law_277 (by decide) dL_law_278 dL_law_279 ?_
  refine lw_push (k := 3) B N hl (by omega) dL_law_280 dL_law_281 dL_law_282 (by decide) dL_law_283 dL_law_284 ?_
  refine lw_pair (As := [.int (zs (i + 1)), .int (zs (i + 2)), .int (zs (i + 3))]) (pcm := 304) (p_goes (zs (i + 1)) (zs (i + 2)) (zs (i + 3)) hr) F N rfl rfl miX8_goes miX9_goes k_442 k_877 hl.1 hc hs rfl dL_law_285 dL_law_304 dL_law_307 (by decide) (fun v w H locs cells slots N kk => ?_) kk
  refine lv_aload_n F.1 F.2.1 dL_law_288 rfl (lv_at hl 2 rfl) ?_
  refine lw_push (k := 1) B N hl (by omega) dL_law_289 dL_law_290 dL_law_291 (by decide) dL_law_292 dL_law_293 ?_
  refine lw_push (k := 2) B N hl (by omega) dL_law_294 dL_law_295 dL_law_296 (by decide) dL_law_297 dL_law_298 ?_
  refine lw_push (k := 3) B N hl (by omega) dL_law_299 dL_law_300 dL_law_301 (by decide) dL_law_302 dL_law_303 ?_
  exact kk
theorem lc_moves (B : LB p s m c b L zs G) (hr : Rel xs ms L0 n0 z0) (N : Now G s (XW G ad xs ++ MW G bd ms) H locs) (hl : lv_has ls 4 [(0, .ref b), (1, .ref (ad 0)), (2, .ref (bd 0)), (3, .int (nI i))]) (hi : i + 6 < L) (hc : cells + 2 ≤ 600000) (hs : slots + 8 ≤ 7302250)
    (kk : ∀ (xs1 ms1 : ST) (L1 n1 z1 : Nat) (H : Heap) (locs : List Loc), Rel xs1 ms1 L1 n1 z1 → Now G s (XW G ad xs1 ++ MW G bd ms1) H locs → W p l e room_1 s m #[Value.ref b] below meth c H locs (cells + 2) (slots + 8) Q (F0 m 796 ls [])) : W p l e room_1 s m #[Value.ref b] below meth c H locs cells slots Q (F0 m 312 ls []) := by
  have F := B.1
  refine lv_aload_n F.1 F.2.1 dL_law_312 rfl (lv_at hl 1 rfl) ?_
  refine lw_push (k := 1) B N hl (by omega) dL_law_313 dL_law_314 dL_law_315 (by decide) dL_law_316 dL_law_317 ?_
  refine lw_push (k := 2) B N hl (by omega) dL_law_318 dL_law_319 dL_law_320 (by decide) dL_law_321 dL_law_322 ?_
  refine lw_push (k := 3) B N hl (by omega) dL_law_323 dL_law_324 dL_law_325 (by decide) dL_law_326 dL_law_327 ?_
  refine lw_push (k := 4) B N hl (by omega) dL_law_328 dL_law_329 dL_law_330 (by decide) dL_law_331 dL_law_332 ?_
  refine lw_push (k := 5) B N hl (by omega) dL_law_333 dL_law_334 dL_law_335 (by decide) dL_law_336 dL_law_337 ?_
  refine lw_push6 (k := 6) B N hl (by omega) dL_law_338 dL_law_339 dL_law_340 (by decide) dL_law_342 dL_law_343 ?_
  refine lw_pair (As := [.int (zs (i + 1)), .int (zs (i + 2)), .int (zs (i + 3)), .int (zs (i + 4)), .int (zs (i + 5)), .int (zs (i + 6))]) (pcm := 379) (p_moves (zs (i + 1)) (zs (i + 2)) (zs (i + 3)) (zs (i + 4)) (zs (i + 5)) (zs (i + 6)) hr) F N rfl rfl miX8_moves miX9_moves k_459 k_881 hl.1 hc hs rfl dL_law_344 dL_law_379 dL_law_382 (by decide) (fun v w H locs cells slots N kk => ?_) kk
  refine lv_aload_n F.1 F.2.1 dL_law_347 rfl (lv_at hl 2 rfl) ?_
  refine lw_push (k := 1) B N hl (by omega) dL_law_348 dL_law_349 dL_law_350 (by decide) dL_law_351 dL_law_352 ?_
  refine lw_push (k := 2) B N hl (by omega) dL_law_353 dL_law_354 dL_law_355 (by decide) dL_law_356 dL_law_357 ?_
  refine lw_push (k := 3) B N hl (by omega) dL_law_358 dL_law_359 dL_law_360 (by decide) dL_law_361 dL_law_362 ?_
  refine lw_push (k := 4) B N hl (by omega) dL_law_363 dL_law_364 dL_law_365 (by decide) dL_law_366 dL_law_367 ?_
  refine lw_push (k := 5) B N hl (by omega) dL_law_368 dL_law_369 dL_law_370 (by decide) dL_law_371 dL_law_372 ?_
  refine lw_push6 (k := 6) B N hl (by omega) dL_law_373 dL_law_374 dL_law_375 (by decide) dL_law_377 dL_law_378 ?_
  exact kk
theorem lc_copies (B : LB p s m c b L zs G) (hr : Rel xs ms L0 n0 z0) (N : Now G s (XW G ad xs ++ MW G bd ms) H locs) (hl : lv_has ls 4 [(0, .ref b), (1, .ref (ad 0)), (2, .ref (bd 0)), (3, .int (nI i))]) (hi : i + 6 < L) (hc : cells + 2 ≤ 600000) (hs : slots + 8 ≤ 7302250)
    (kk : ∀ (xs1 ms1 : ST) (L1 n1 z1 : Nat) (H : Heap) (locs : List Loc), Rel xs1 ms1 L1 n1 z1 → Now G s (XW G ad xs1 ++ MW G bd ms1) H locs → W p l e room_1 s m #[Value.ref b] below meth c H locs (cells + 2) (slots + 8) Q (F0 m 796 ls [])) : W p l e room_1 s m #[Value.ref b] below meth c H locs cells slots Q (F0 m 387 ls []) := by
  have F := B.1
  refine lv_aload_n F.1 F.2.1 dL_law_387 rfl (lv_at hl 1 rfl) ?_
  refine lw_push (k := 1) B N hl (by omega) dL_law_388 dL_law_389 dL_law_390 (by decide) dL_law_391 dL_law_392 ?_
  refine lw_push (k := 2) B N hl (by omega) dL_law_393 dL_law_394 dL_law_395 (by decide) dL_law_396 dL_law_397 ?_
  refine lw_push (k := 3) B N hl (by omega) dL_law_398 dL_law_399 dL_law_400 (by decide) dL_law_401 dL_law_402 ?_
  refine lw_push (k := 4) B N hl (by omega) dL_law_403 dL_law_404 dL_law_405 (by decide) dL_law_406 dL_law_407 ?_
  refine lw_push (k := 5) B N hl (by omega) dL_law_408 dL_law_409 dL_law_410 (by decide) dL_law_411 dL_law_412 ?_
  refine lw_push6 (k := 6) B N hl (by omega) dL_law_413 dL_law_414 dL_law_415 (by decide) dL_law_417 dL_law_418 ?_
  refine lw_pair (As := [.int (zs (i + 1)), .int (zs (i + 2)), .int (zs (i + 3)), .int (zs (i + 4)), .int (zs (i + 5)), .int (zs (i + 6))]) (pcm := 454) (p_copies (zs (i + 1)) (zs (i + 2)) (zs (i + 3)) (zs (i + 4)) (zs (i + 5)) (zs (i + 6)) hr) F N rfl rfl miX8_copies miX9_copies k_516 k_896 hl.1 hc hs rfl dL_law_419 dL_law_454 dL_law_457 (by decide) (fun v w H locs cells slots N kk => ?_) kk
  refine lv_aload_n F.1 F.2.1 dL_law_422 rfl (lv_at hl 2 rfl) ?_
  refine lw_push (k := 1) B N hl (by omega) dL_law_423 dL_law_424 dL_law_425 (by decide) dL_law_426 dL_law_427 ?_
  refine lw_push (k := 2) B N hl (by omega) dL_law_428 dL_law_429 dL_law_430 (by decide) dL_law_431 dL_law_432 ?_
  refine lw_push (k := 3) B N hl (by omega) dL_law_433 dL_law_434 dL_law_435 (by decide) dL_law_436 dL_law_437 ?_
  refine lw_push (k := 4) B N hl (by omega) dL_law_438 dL_law_439 dL_law_440 (by decide) dL_law_441 dL_law_442 ?_
  refine lw_push (k := 5) B N hl (by omega) dL_law_443 dL_law_444 dL_law_445 (by decide) dL_law_446 dL_law_447 ?_
  refine lw_push6 (k := 6) B N hl (by omega) dL_law_448 dL_law_449 dL_law_450 (by decide) dL_law_452 dL_law_453 ?_
  exact kk
theorem lc_back (B : LB p s m c b L zs G) (hr : Rel xs ms L0 n0 z0) (N : Now G s (XW G ad xs ++ MW G bd ms) H locs) (hl : lv_has ls 4 [(0, .ref b), (1, .ref (ad 0)), (2, .ref (bd 0)), (3, .int (nI i))]) (hi : i + 6 < L) (hc : cells + 2 ≤ 600000) (hs : slots + 8 ≤ 7302250)
    (kk : ∀ (xs1 ms1 : ST) (L1 n1 z1 : Nat) (H : Heap) (locs : List Loc), Rel xs1 ms1 L1 n1 z1 → Now G s (XW G ad xs1 ++ MW G bd ms1) H locs → W p l e room_1 s m #[Value.ref b] below meth c H locs (cells + 2) (slots + 8) Q (F0 m 796 ls [])) : W p l e room_1 s m #[Value.ref b] below meth c H locs cells slots Q (F0 m 462 ls []) := by
  have F := B.1
  refine lv_aload_n F.1 F.2.1 dL_law_462 rfl (lv_at hl 1 rfl) ?_
  refine lw_pair (As := []) (pcm := 467) (p_back  hr) F N rfl rfl miX8_back miX9_back k_529 k_752 hl.1 hc hs rfl dL_law_463 dL_law_467 dL_law_470 (by decide) (fun v w H locs cells slots N kk => ?_) kk
  refine lv_aload_n F.1 F.2.1 dL_law_466 rfl (lv_at hl 2 rfl) ?_
  exact kk
theorem lc_terms (B : LB p s m c b L zs G) (hr : Rel xs ms L0 n0 z0) (N : Now G s (XW G ad xs ++ MW G bd ms) H locs) (hl : lv_has ls 4 [(0, .ref b), (1, .ref (ad 0)), (2, .ref (bd 0)), (3, .int (nI i))]) (hi : i + 6 < L) (hc : cells + 2 ≤ 600000) (hs : slots + 8 ≤ 7302250)
    (kk : ∀ (xs1 ms1 : ST) (L1 n1 z1 : Nat) (H : Heap) (locs : List Loc), Rel xs1 ms1 L1 n1 z1 → Now G s (XW G ad xs1 ++ MW G bd ms1) H locs → W p l e room_1 s m #[Value.ref b] below meth c H locs (cells + 2) (slots + 8) Q (F0 m 796 ls [])) : W p l e room_1 s m #[Value.ref b] below meth c H locs cells slots Q (F0 m 475 ls []) := by
  have F := B.1
  refine lv_aload_n F.1 F.2.1 dL_law_475 rfl (lv_at hl 1 rfl) ?_
  refine lw_push (k := 1) B N hl (by omega) dL_law_476 dL_law_477 dL_law_478 (by decide) dL_law_479 dL_law_480 ?_
  refine lw_push (k := 2) B N hl (by omega) dL_law_481 dL_law_482 dL_law_483 (by decide) dL_law_484 dL_law_485 ?_
  refine lw_pair (As := [.int (zs (i + 1)), .int (zs (i + 2))]) (pcm := 500) (p_terms (zs (i + 1)) (zs (i + 2)) hr) F N rfl rfl miX8_terms miX9_terms k_537 k_904 hl.1 hc hs rfl dL_law_486 dL_law_500 dL_law_503 (by decide) (fun v w H locs cells slots N kk => ?_) kk
  refine lv_aload_n F.1 F.2.1 dL_law_489 rfl (lv_at hl 2 rfl) ?_
  refine lw_push (k := 1) B N hl (by omega) dL_law_490 dL_law_491 dL_law_492 (by decide) dL_law_493 dL_law_494 ?_
  refine lw_push (k := 2) B N hl (by omega) dL_law_495 dL_law_496 dL_law_497 (by decide) dL_law_498 dL_law_499 ?_
  exact kk
theorem lc_term (B : LB p s m c b L zs G) (hr : Rel xs ms L0 n0 z0) (N : Now G s (XW G ad xs ++ MW G bd ms) H locs) (hl : lv_has ls 4 [(0, .ref b), (1, .ref (ad 0)), (2, .ref (bd 0)), (3, .int (nI i))]) (hi : i + 6 < L) (hc : cells + 2 ≤ 600000) (hs : slots + 8 ≤ 7302250)
    (kk : ∀ (xs1 ms1 : ST) (L1 n1 z1 : Nat) (H : Heap) (locs : List Loc), Rel xs1 ms1 L1 n1 z1 → Now G s (XW G ad xs1 ++ MW G bd ms1) H locs → W p l e room_1 s m #[Value.ref b] below meth c H locs (cells + 2) (slots + 8) Q (F0 m 796 ls [])) : W p l e room_1 s m #[Value.ref b] below meth c H locs cells slots Q (F0 m 508 ls []) := by
  have F := B.1
  refine lv_aload_n F.1 F.2.1 dL_law_508 rfl (lv_at hl 1 rfl) ?_
  refine lw_push (k := 1) B N hl (by omega) dL_law_509 dL_law_510 dL_law_511 (by decide) dL_law_512 dL_law_513 ?_
  refine lw_push (k := 2) B N hl (by omega) dL_law_514 dL_law_515 dL_law_516 (by decide) dL_law_517 dL_law_518 ?_
  refine lw_push (k := 3) B N hl (by omega) dL_law_519 dL_law_520 dL_law_521 (by decide) dL_law_522 dL_law_523 ?_
  refine lw_push (k := 4) B N hl (by omega) dL_law_524 dL_law_525 dL_law_526 (by decide) dL_law_527 dL_law_528 ?_
  refine lw_pair (As := [.int (zs (i + 1)), .int (zs (i + 2)), .int (zs (i + 3)), .int (zs (i + 4))]) (pcm := 553) (p_term (zs (i + 1)) (zs (i + 2)) (zs (i + 3)) (zs (i + 4)) hr) F N rfl rfl miX8_term miX9_term k_541 k_908 hl.1 hc hs rfl dL_law_529 dL_law_553 dL_law_556 (by decide) (fun v w H locs cells slots N kk => ?_) kk
  refine lv_aload_n F.1 F.2.1 dL_law_532 rfl (lv_at hl 2 rfl) ?_
  refine lw_push (k := 1) B N hl (by omega) dL_law_533 dL_law_534 dL_law_535 (by decide) dL_law_536 dL_law_537 ?_
  refine lw_push (k := 2) B N hl (by omega) dL_law_538 dL_law_539 dL_law_540 (by decide) dL_law_541 dL_law_542 ?_
  refine lw_push (k := 3) B N hl (by omega) dL_law_543 dL_law_544 dL_law_545 (by decide) dL_law_546 dL_law_547 ?_
  refine lw_push (k := 4) B N hl (by omega) dL_law_548 dL_law_549 dL_law_550 (by decide) dL_law_551 dL_law_552 ?_
  exact kk
theorem lc_shown (B : LB p s m c b L zs G) (hr : Rel xs ms L0 n0 z0) (N : Now G s (XW G ad xs ++ MW G bd ms) H locs) (hl : lv_has ls 4 [(0, .ref b), (1, .ref (ad 0)), (2, .ref (bd 0)), (3, .int (nI i))]) (hi : i + 6 < L) (hc : cells + 2 ≤ 600000) (hs : slots + 8 ≤ 7302250)
    (kk : ∀ (xs1 ms1 : ST) (L1 n1 z1 : Nat) (H : Heap) (locs : List Loc), Rel xs1 ms1 L1 n1 z1 → Now G s (XW G ad xs1 ++ MW G bd ms1) H locs → W p l e room_1 s m #[Value.ref b] below meth c H locs (cells + 2) (slots + 8) Q (F0 m 796 ls [])) : W p l e room_1 s m #[Value.ref b] below meth c H locs cells slots Q (F0 m 561 ls []) := by
  have F := B.1
  refine lv_aload_n F.1 F.2.1 dL_law_561 rfl (lv_at hl 1 rfl) ?_
  refine lw_push (k := 1) B N hl (by omega) dL_law_562 dL_law_563 dL_law_564 (by decide) dL_law_565 dL_law_566 ?_
  refine lw_push (k := 2) B N hl (by omega) dL_law_567 dL_law_568 dL_law_569 (by decide) dL_law_570 dL_law_571 ?_
  refine lw_push (k := 3) B N hl (by omega) dL_law_572 dL_law_573 dL_law_574 (by decide) dL_law_575 dL_law_576 ?_
  refine lw_pair (As := [.int (zs (i + 1)), .int (zs (i + 2)), .int (zs (i + 3))]) (pcm := 596) (p_shown (zs (i + 1)) (zs (i + 2)) (zs (i + 3)) hr) F N rfl rfl miX8_shown miX9_shown k_552 k_912 hl.1 hc hs rfl dL_law_577 dL_law_596 dL_law_599 (by decide) (fun v w H locs cells slots N kk => ?_) kk
  refine lv_aload_n F.1 F.2.1 dL_law_580 rfl (lv_at hl 2 rfl) ?_
  refine lw_push (k := 1) B N hl (by omega) dL_law_581 dL_law_582 dL_law_583 (by decide) dL_law_584 dL_law_585 ?_
  refine lw_push (k := 2) B N hl (by omega) dL_law_586 dL_law_587 dL_law_588 (by decide) dL_law_589 dL_law_590 ?_
  refine lw_push (k := 3) B N hl (by omega) dL_law_591 dL_law_592 dL_law_593 (by decide) dL_law_594 dL_law_595 ?_
  exact kk
theorem lc_value (B : LB p s m c b L zs G) (hr : Rel xs ms L0 n0 z0) (N : Now G s (XW G ad xs ++ MW G bd ms) H locs) (hl : lv_has ls 4 [(0, .ref b), (1, .ref (ad 0)), (2, .ref (bd 0)), (3, .int (nI i))]) (hi : i + 6 < L) (hc : cells + 2 ≤ 600000) (hs : slots + 8 ≤ 7302250)
    (kk : ∀ (xs1 ms1 : ST) (L1 n1 z1 : Nat) (H : Heap) (locs : List Loc), Rel xs1 ms1 L1 n1 z1 → Now G s (XW G ad xs1 ++ MW G bd ms1) H locs → W p l e room_1 s m #[Value.ref b] below meth c H locs (cells + 2) (slots + 8) Q (F0 m 796 ls [])) : W p l e room_1 s m #[Value.ref b] below meth c H locs cells slots Q (F0 m 604 ls []) := by
  have F := B.1
  refine lv_aload_n F.1 F.2.1 dL_law_604 rfl (lv_at hl 1 rfl) ?_
  refine lw_push (k := 1) B N hl (by omega) dL_law_605 dL_law_606 dL_law_607 (by decide) dL_law_608 dL_law_609 ?_
  refine lw_push (k := 2) B N hl (by omega) dL_law_610 dL_law_611 dL_law_612 (by decide) dL_law_613 dL_law_614 ?_
  refine lw_pair (As := [.int (zs (i + 1)), .int (zs (i + 2))]) (pcm := 629) (p_value (zs (i + 1)) (zs (i + 2)) hr) F N rfl rfl miX8_value miX9_value k_586 k_932 hl.1 hc hs rfl dL_law_615 dL_law_629 dL_law_632 (by decide) (fun v w H locs cells slots N kk => ?_) kk
  refine lv_aload_n F.1 F.2.1 dL_law_618 rfl (lv_at hl 2 rfl) ?_
  refine lw_push (k := 1) B N hl (by omega) dL_law_619 dL_law_620 dL_law_621 (by decide) dL_law_622 dL_law_623 ?_
  refine lw_push (k := 2) B N hl (by omega) dL_law_624 dL_law_625 dL_law_626 (by decide) dL_law_627 dL_law_628 ?_
  exact kk
theorem lc_why (B : LB p s m c b L zs G) (hr : Rel xs ms L0 n0 z0) (N : Now G s (XW G ad xs ++ MW G bd ms) H locs) (hl : lv_has ls 4 [(0, .ref b), (1, .ref (ad 0)), (2, .ref (bd 0)), (3, .int (nI i))]) (hi : i + 6 < L) (hc : cells + 2 ≤ 600000) (hs : slots + 8 ≤ 7302250)
    (kk : ∀ (xs1 ms1 : ST) (L1 n1 z1 : Nat) (H : Heap) (locs : List Loc), Rel xs1 ms1 L1 n1 z1 → Now G s (XW G ad xs1 ++ MW G bd ms1) H locs → W p l e room_1 s m #[Value.ref b] below meth c H locs (cells + 2) (slots + 8) Q (F0 m 796 ls [])) : W p l e room_1 s m #[Value.ref b] below meth c H locs cells slots Q (F0 m 637 ls []) := by
  have F := B.1
  refine lv_aload_n F.1 F.2.1 dL_law_637 rfl (lv_at hl 1 rfl) ?_
  refine lw_push (k := 1) B N hl (by omega) dL_law_638 dL_law_639 dL_law_640 (by decide) dL_law_641 dL_law_642 ?_
  refine lw_push (k := 2) B N hl (by omega) dL_law_643 dL_law_644 dL_law_645 (by decide) dL_law_646 dL_law_647 ?_
  refine lw_pair (As := [.int (zs (i + 1)), .int (zs (i + 2))]) (pcm := 662) (p_why (zs (i + 1)) (zs (i + 2)) hr) F N rfl rfl miX8_why miX9_why k_619 k_965 hl.1 hc hs rfl dL_law_648 dL_law_662 dL_law_665 (by decide) (fun v w H locs cells slots N kk => ?_) kk
  refine lv_aload_n F.1 F.2.1 dL_law_651 rfl (lv_at hl 2 rfl) ?_
  refine lw_push (k := 1) B N hl (by omega) dL_law_652 dL_law_653 dL_law_654 (by decide) dL_law_655 dL_law_656 ?_
  refine lw_push (k := 2) B N hl (by omega) dL_law_657 dL_law_658 dL_law_659 (by decide) dL_law_660 dL_law_661 ?_
  exact kk
theorem lc_deep (B : LB p s m c b L zs G) (hr : Rel xs ms L0 n0 z0) (N : Now G s (XW G ad xs ++ MW G bd ms) H locs) (hl : lv_has ls 4 [(0, .ref b), (1, .ref (ad 0)), (2, .ref (bd 0)), (3, .int (nI i))]) (hi : i + 6 < L) (hc : cells + 2 ≤ 600000) (hs : slots + 8 ≤ 7302250)
    (kk : ∀ (xs1 ms1 : ST) (L1 n1 z1 : Nat) (H : Heap) (locs : List Loc), Rel xs1 ms1 L1 n1 z1 → Now G s (XW G ad xs1 ++ MW G bd ms1) H locs → W p l e room_1 s m #[Value.ref b] below meth c H locs (cells + 2) (slots + 8) Q (F0 m 796 ls [])) : W p l e room_1 s m #[Value.ref b] below meth c H locs cells slots Q (F0 m 670 ls []) := by
  have F := B.1
  refine lv_aload_n F.1 F.2.1 dL_law_670 rfl (lv_at hl 1 rfl) ?_
  refine lw_push (k := 1) B N hl (by omega) dL_law_671 dL_law_672 dL_law_673 (by decide) dL_law_674 dL_law_675 ?_
  refine lw_push (k := 2) B N hl (by omega) dL_law_676 dL_law_677 dL_law_678 (by decide) dL_law_679 dL_law_680 ?_
  refine lw_pair (As := [.int (zs (i + 1)), .int (zs (i + 2))]) (pcm := 695) (p_deep (zs (i + 1)) (zs (i + 2)) hr) F N rfl rfl miX8_deep miX9_deep k_625 k_973 hl.1 hc hs rfl dL_law_681 dL_law_695 dL_law_698 (by decide) (fun v w H locs cells slots N kk => ?_) kk
  refine lv_aload_n F.1 F.2.1 dL_law_684 rfl (lv_at hl 2 rfl) ?_
  refine lw_push (k := 1) B N hl (by omega) dL_law_685 dL_law_686 dL_law_687 (by decide) dL_law_688 dL_law_689 ?_
  refine lw_push (k := 2) B N hl (by omega) dL_law_690 dL_law_691 dL_law_692 (by decide) dL_law_693 dL_law_694 ?_
  exact kk
theorem lc_users (B : LB p s m c b L zs G) (hr : Rel xs ms L0 n0 z0) (N : Now G s (XW G ad xs ++ MW G bd ms) H locs) (hl : lv_has ls 4 [(0, .ref b), (1, .ref (ad 0)), (2, .ref (bd 0)), (3, .int (nI i))]) (hi : i + 6 < L) (hc : cells + 2 ≤ 600000) (hs : slots + 8 ≤ 7302250)
    (kk : ∀ (xs1 ms1 : ST) (L1 n1 z1 : Nat) (H : Heap) (locs : List Loc), Rel xs1 ms1 L1 n1 z1 → Now G s (XW G ad xs1 ++ MW G bd ms1) H locs → W p l e room_1 s m #[Value.ref b] below meth c H locs (cells + 2) (slots + 8) Q (F0 m 796 ls [])) : W p l e room_1 s m #[Value.ref b] below meth c H locs cells slots Q (F0 m 703 ls []) := by
  have F := B.1
  refine lv_aload_n F.1 F.2.1 dL_law_703 rfl (lv_at hl 1 rfl) ?_
  refine lw_push (k := 1) B N hl (by omega) dL_law_704 dL_law_705 dL_law_706 (by decide) dL_law_707 dL_law_708 ?_
  refine lw_push (k := 2) B N hl (by omega) dL_law_709 dL_law_710 dL_law_711 (by decide) dL_law_712 dL_law_713 ?_
  refine lw_pair (As := [.int (zs (i + 1)), .int (zs (i + 2))]) (pcm := 728) (p_users (zs (i + 1)) (zs (i + 2)) hr) F N rfl rfl miX8_users miX9_users k_629 k_981 hl.1 hc hs rfl dL_law_714 dL_law_728 dL_law_731 (by decide) (fun v w H locs cells slots N kk => ?_) kk
  refine lv_aload_n F.1 F.2.1 dL_law_717 rfl (lv_at hl 2 rfl) ?_
  refine lw_push (k := 1) B N hl (by omega) dL_law_718 dL_law_719 dL_law_720 (by decide) dL_law_721 dL_law_722 ?_
  refine lw_push (k := 2) B N hl (by omega) dL_law_723 dL_law_724 dL_law_725 (by decide) dL_law_726 dL_law_727 ?_
  exact kk
theorem lc_count (B : LB p s m c b L zs G) (hr : Rel xs ms L0 n0 z0) (N : Now G s (XW G ad xs ++ MW G bd ms) H locs) (hl : lv_has ls 4 [(0, .ref b), (1, .ref (ad 0)), (2, .ref (bd 0)), (3, .int (nI i))]) (hi : i + 6 < L) (hc : cells + 2 ≤ 600000) (hs : slots + 8 ≤ 7302250)
    (kk : ∀ (xs1 ms1 : ST) (L1 n1 z1 : Nat) (H : Heap) (locs : List Loc), Rel xs1 ms1 L1 n1 z1 → Now G s (XW G ad xs1 ++ MW G bd ms1) H locs → W p l e room_1 s m #[Value.ref b] below meth c H locs (cells + 2) (slots + 8) Q (F0 m 796 ls [])) : W p l e room_1 s m #[Value.ref b] below meth c H locs cells slots Q (F0 m 736 ls []) := by
  have F := B.1
  refine lv_aload_n F.1 F.2.1 dL_law_736 rfl (lv_at hl 1 rfl) ?_
  refine lw_push (k := 1) B N hl (by omega) dL_law_737 dL_law_738 dL_law_739 (by decide) dL_law_740 dL_law_741 ?_
  refine lw_pair (As := [.int (zs (i + 1))]) (pcm := 751) (p_count (zs (i + 1)) hr) F N rfl rfl miX8_count miX9_count k_639 k_989 hl.1 hc hs rfl dL_law_742 dL_law_751 dL_law_754 (by decide) (fun v w H locs cells slots N kk => ?_) kk
  refine lv_aload_n F.1 F.2.1 dL_law_745 rfl (lv_at hl 2 rfl) ?_
  refine lw_push (k := 1) B N hl (by omega) dL_law_746 dL_law_747 dL_law_748 (by decide) dL_law_749 dL_law_750 ?_
  exact kk
theorem lc_told (B : LB p s m c b L zs G) (hr : Rel xs ms L0 n0 z0) (N : Now G s (XW G ad xs ++ MW G bd ms) H locs) (hl : lv_has ls 4 [(0, .ref b), (1, .ref (ad 0)), (2, .ref (bd 0)), (3, .int (nI i))]) (hi : i + 6 < L) (hc : cells + 2 ≤ 600000) (hs : slots + 8 ≤ 7302250)
    (kk : ∀ (xs1 ms1 : ST) (L1 n1 z1 : Nat) (H : Heap) (locs : List Loc), Rel xs1 ms1 L1 n1 z1 → Now G s (XW G ad xs1 ++ MW G bd ms1) H locs → W p l e room_1 s m #[Value.ref b] below meth c H locs (cells + 2) (slots + 8) Q (F0 m 796 ls [])) : W p l e room_1 s m #[Value.ref b] below meth c H locs cells slots Q (F0 m 759 ls []) := by
  have F := B.1
  refine lv_aload_n F.1 F.2.1 dL_law_759 rfl (lv_at hl 1 rfl) ?_
  refine lw_push (k := 1) B N hl (by omega) dL_law_760 dL_law_761 dL_law_762 (by decide) dL_law_763 dL_law_764 ?_
  refine lw_pair (As := [.int (zs (i + 1))]) (pcm := 774) (p_told (zs (i + 1)) hr) F N rfl rfl miX8_told miX9_told k_656 k_997 hl.1 hc hs rfl dL_law_765 dL_law_774 dL_law_777 (by decide) (fun v w H locs cells slots N kk => ?_) kk
  refine lv_aload_n F.1 F.2.1 dL_law_768 rfl (lv_at hl 2 rfl) ?_
  refine lw_push (k := 1) B N hl (by omega) dL_law_769 dL_law_770 dL_law_771 (by decide) dL_law_772 dL_law_773 ?_
  exact kk
theorem lc_digest (B : LB p s m c b L zs G) (hr : Rel xs ms L0 n0 z0) (N : Now G s (XW G ad xs ++ MW G bd ms) H locs) (hl : lv_has ls 4 [(0, .ref b), (1, .ref (ad 0)), (2, .ref (bd 0)), (3, .int (nI i))]) (hi : i + 6 < L) (hc : cells + 2 ≤ 600000) (hs : slots + 8 ≤ 7302250)
    (kk : ∀ (xs1 ms1 : ST) (L1 n1 z1 : Nat) (H : Heap) (locs : List Loc), Rel xs1 ms1 L1 n1 z1 → Now G s (XW G ad xs1 ++ MW G bd ms1) H locs → W p l e room_1 s m #[Value.ref b] below meth c H locs (cells + 2) (slots + 8) Q (F0 m 796 ls [])) : W p l e room_1 s m #[Value.ref b] below meth c H locs cells slots Q (F0 m 782 ls []) := by
  have F := B.1
  obtain ⟨ri, xs1, ms1, L1, n1, z1, hX, hM, hr1⟩ := p_digest (l := l) (G := G) hr
  refine lv_aload_n F.1 F.2.1 dL_law_782 rfl (lv_at hl 1 rfl) ?_
  refine ggo_l N (grunV (show cells ≤ 600000 by omega) (show slots ≤ 7302250 by omega) F N (hX ad (MW G bd ms)) miX8_digest k_660 (lw_RL (by decide)) hl.1 rfl (rest := []) (by decide) (q0 := 0) (ci := 7) rfl rfl dL_law_783) (fun H locs N => ?_)
  refine lv_aload_n F.1 F.2.1 dL_law_786 rfl (lv_at hl 2 rfl) ?_
  refine ggo_l (now_perm List.perm_append_comm N) (grunV (show cells ≤ 600000 by omega) (show slots ≤ 7302250 by omega) F (now_perm List.perm_append_comm N) (hM bd (XW G ad xs1)) miX9_digest k_1005 (lw_RL (by decide)) hl.1 rfl (rest := [.long ri]) (show (2 : Nat) + 0 ≤ 8 by decide) (q0 := 0) (ci := 8) rfl rfl dL_law_787) (fun H locs N => ?_)
  refine W.lcmp F.1 F.2.1 dL_law_790 ?_
  rw [show lg_cmp ri ri = 0 by simp [lg_cmp]]
  refine lv_if_eq (tgt := 796) F.1 F.2.1 dL_law_791 (by decide) (fun _ => ?_) (fun q => absurd rfl q)
  refine W.widen (k := cells + 2) (n := slots + 8) (by omega) (by omega) ?_
  exact kk xs1 ms1 L1 n1 z1 H locs hr1 (now_perm List.perm_append_comm N)
end LAWCALLS

set_option maxHeartbeats 4000000 in
set_option maxRecDepth 100000 in
theorem lc_figure {p : Program} {l : Launch} {e : Env} {s : State} {m : MethodId} {below : List Frame} {meth : Method} {c : Code} {b L : Nat} {xs : Nat → Int32} {G : wx_G} (C : lx_C p s m meth c b L xs G) {t j : Nat} {M : wx_M} (H : qR t M) (ht : t < 512) (hj : j + 6 ≤ L) (kk : ∀ M2, qR (t + 1) M2 → lx_V p l e s m below meth c b G 1055 M2 (nI j) []) : lx_V p l e s m below meth c b G 160 M (nI j) [] := by
  obtain ⟨p5, h⟩ := st_figure H (xs (j + 1))
  refine lx_x C dL_law_160 ?_
  refine lx_arg C (k := 1) hj (by omega) (by decide) dL_law_161 dL_law_162 dL_law_163 dL_law_164 dL_law_165 ?_
  refine lx_calli C (As := [.int (xs (j + 1))]) (ci := 5) (c_X5_figure M _ p5) rfl (by decide +kernel) rfl tl_247 tl_248 tl_249 tl_250 tl_33 hy_X5_figure ⟨Nat.le_of_ble_eq_true rfl, Nat.le_of_ble_eq_true rfl⟩ rfl rfl (Nat.le_of_ble_eq_true rfl) dL_law_166 (fun r M1 q1 => ?_)
  obtain ⟨p6, h⟩ := h r M1 q1
  refine lx_m C dL_law_169 ?_
  refine lx_arg C (k := 1) hj (by omega) (by decide) dL_law_170 dL_law_171 dL_law_172 dL_law_173 dL_law_174 ?_
  refine lx_calli C (As := [.int (xs (j + 1))]) (ci := 6) (c_X6_figure M1 _ p6) rfl (by decide +kernel) rfl tl_659 tl_660 tl_661 tl_662 tl_39 hy_X6_figure ⟨Nat.le_of_ble_eq_true rfl, Nat.le_of_ble_eq_true rfl⟩ rfl rfl (Nat.le_of_ble_eq_true rfl) dL_law_175 (fun r2 M2 q2 => ?_)
  obtain ⟨he, H2⟩ := h r2 M2 q2
  exact lx_eq C he dL_law_178 (by decide) (kk M2 H2)
set_option maxHeartbeats 4000000 in
set_option maxRecDepth 100000 in
theorem lc_fame {p : Program} {l : Launch} {e : Env} {s : State} {m : MethodId} {below : List Frame} {meth : Method} {c : Code} {b L : Nat} {xs : Nat → Int32} {G : wx_G} (C : lx_C p s m meth c b L xs G) {t j : Nat} {M : wx_M} (H : qR t M) (ht : t < 512) (hj : j + 6 ≤ L) (kk : ∀ M2, qR (t + 1) M2 → lx_V p l e s m below meth c b G 1055 M2 (nI j) []) : lx_V p l e s m below meth c b G 183 M (nI j) [] := by
  obtain ⟨p5, h⟩ := st_fame H (xs (j + 1)) (xs (j + 2)) (xs (j + 3))
  refine lx_x C dL_law_183 ?_
  refine lx_arg C (k := 1) hj (by omega) (by decide) dL_law_184 dL_law_185 dL_law_186 dL_law_187 dL_law_188 ?_
  refine lx_arg C (k := 2) hj (by omega) (by decide) dL_law_189 dL_law_190 dL_law_191 dL_law_192 dL_law_193 ?_
  refine lx_arg C (k := 3) hj (by omega) (by decide) dL_law_194 dL_law_195 dL_law_196 dL_law_197 dL_law_198 ?_
  refine lx_calli C (As := [.int (xs (j + 1)), .int (xs (j + 2)), .int (xs (j + 3))]) (ci := 5) (c_X5_fame M _ _ _ p5) rfl (by decide +kernel) rfl tl_254 tl_255 tl_256 tl_257 tl_33 hy_X5_fame ⟨Nat.le_of_ble_eq_true rfl, Nat.le_of_ble_eq_true rfl⟩ rfl rfl (Nat.le_of_ble_eq_true rfl) dL_law_199 (fun r M1 q1 => ?_)
  obtain ⟨p6, h⟩ := h r M1 q1
  refine lx_m C dL_law_202 ?_
  refine lx_arg C (k := 1) hj (by omega) (by decide) dL_law_203 dL_law_204 dL_law_205 dL_law_206 dL_law_207 ?_
  refine lx_arg C (k := 2) hj (by omega) (by decide) dL_law_208 dL_law_209 dL_law_210 dL_law_211 dL_law_212 ?_
  refine lx_arg C (k := 3) hj (by omega) (by decide) dL_law_213 dL_law_214 dL_law_215 dL_law_216 dL_law_217 ?_
  refine lx_calli C (As := [.int (xs (j + 1)), .int (xs (j + 2)), .int (xs (j + 3))]) (ci := 6) (c_X6_fame M1 _ _ _ p6) rfl (by decide +kernel) rfl tl_666 tl_667 tl_668 tl_669 tl_39 hy_X6_fame ⟨Nat.le_of_ble_eq_true rfl, Nat.le_of_ble_eq_true rfl⟩ rfl rfl (Nat.le_of_ble_eq_true rfl) dL_law_218 (fun r2 M2 q2 => ?_)
  obtain ⟨he, H2⟩ := h r2 M2 q2
  exact lx_eq C he dL_law_221 (by decide) (kk M2 H2)
set_option maxHeartbeats 4000000 in
set_option maxRecDepth 100000 in
theorem lc_rights {p : Program} {l : Launch} {e : Env} {s : State} {m : MethodId} {below : List Frame} {meth : Method} {c : Code} {b L : Nat} {xs : Nat → Int32} {G : wx_G} (C : lx_C p s m meth c b L xs G) {t j : Nat} {M : wx_M} (H : qR t M) (ht : t < 512) (hj : j + 6 ≤ L) (kk : ∀ M2, qR (t + 1) M2 → lx_V p l e s m below meth c b G 1055 M2 (nI j) []) : lx_V p l e s m below meth c b G 226 M (nI j) [] := by
  obtain ⟨p5, h⟩ := st_rights H (xs (j + 1)) (xs (j + 2)) (xs (j + 3))
  refine lx_x C dL_law_226 ?_
  refine lx_arg C (k := 1) hj (by omega) (by decide) dL_law_227 dL_law_228 dL_law_229 dL_law_230 dL_law_231 ?_
  refine lx_arg C (k := 2) hj (by omega) (by decide) dL_law_232 dL_law_233 dL_law_234 dL_law_235 dL_law_236 ?_
  refine lx_arg C (k := 3) hj (by omega) (by decide) dL_law_237 dL_law_238 dL_law_239 dL_law_240 dL_law_241 ?_
  refine lx_calli C (As := [.int (xs (j + 1)), .int (xs (j + 2)), .int (xs (j + 3))]) (ci := 5) (c_X5_rights M _ _ _ p5) rfl (by decide +kernel) rfl tl_265 tl_266 tl_267 tl_268 tl_33 hy_X5_rights ⟨Nat.le_of_ble_eq_true rfl, Nat.le_of_ble_eq_true rfl⟩ rfl rfl (Nat.le_of_ble_eq_true rfl) dL_law_242 (fun r M1 q1 => ?_)
  obtain ⟨p6, h⟩ := h r M1 q1
  refine lx_m C dL_law_245 ?_
  refine lx_arg C (k := 1) hj (by omega) (by decide) dL_law_246 dL_law_247 dL_law_248 dL_law_249 dL_law_250 ?_
  refine lx_arg C (k := 2) hj (by omega) (by decide) dL_law_251 dL_law_252 dL_law_253 dL_law_254 dL_law_255 ?_
  refine lx_arg C (k := 3) hj (by omega) (by decide) dL_law_256 dL_law_257 dL_law_258 dL_law_259 dL_law_260 ?_
  refine lx_calli C (As := [.int (xs (j + 1)), .int (xs (j + 2)), .int (xs (j + 3))]) (ci := 6) (c_X6_rights M1 _ _ _ p6) rfl (by decide +kernel) rfl tl_674 tl_675 tl_676 tl_677 tl_39 hy_X6_rights ⟨Nat.le_of_ble_eq_true rfl, Nat.le_of_ble_eq_true rfl⟩ rfl rfl (Nat.le_of_ble_eq_true rfl) dL_law_261 (fun r2 M2 q2 => ?_)
  obtain ⟨he, H2⟩ := h r2 M2 q2
  exact lx_eq C he dL_law_264 (by decide) (kk M2 H2)
set_option maxHeartbeats 4000000 in
set_option maxRecDepth 100000 in
theorem lc_places {p : Program} {l : Launch} {e : Env} {s : State} {m : MethodId} {below : List Frame} {meth : Method} {c : Code} {b L : Nat} {xs : Nat → Int32} {G : wx_G} (C : lx_C p s m meth c b L xs G) {t j : Nat} {M : wx_M} (H : qR t M) (ht : t < 512) (hj : j + 6 ≤ L) (kk : ∀ M2, qR (t + 1) M2 → lx_V p l e s m below meth c b G 1055 M2 (nI j) []) : lx_V p l e s m below meth c b G 269 M (nI j) [] := by
  obtain ⟨p5, h⟩ := st_places H (xs (j + 1))
  refine lx_x C dL_law_269 ?_
  refine lx_arg C (k := 1) hj (by omega) (by decide) dL_law_270 dL_law_271 dL_law_272 dL_law_273 dL_law_274 ?_
  refine lx_calli C (As := [.int (xs (j + 1))]) (ci := 5) (c_X5_places M _ p5) rfl (by decide +kernel) rfl tl_269 tl_270 tl_271 tl_272 tl_33 hy_X5_places ⟨Nat.le_of_ble_eq_true rfl, Nat.le_of_ble_eq_true rfl⟩ rfl rfl (Nat.le_of_ble_eq_true rfl) dL_law_275 (fun r M1 q1 => ?_)
  obtain ⟨p6, h⟩ := h r M1 q1
  refine lx_m C dL_law_278 ?_
  refine lx_arg C (k := 1) hj (by omega) (by decide) dL_law_279 dL_law_280 dL_law_281 dL_law_282 dL_law_283 ?_
  refine lx_calli C (As := [.int (xs (j + 1))]) (ci := 6) (c_X6_places M1 _ p6) rfl (by decide +kernel) rfl tl_678 tl_679 tl_680 tl_681 tl_39 hy_X6_places ⟨Nat.le_of_ble_eq_true rfl, Nat.le_of_ble_eq_true rfl⟩ rfl rfl (Nat.le_of_ble_eq_true rfl) dL_law_284 (fun r2 M2 q2 => ?_)
  obtain ⟨he, H2⟩ := h r2 M2 q2
  exact lx_eq C he dL_law_287 (by decide) (kk M2 H2)
set_option maxHeartbeats 4000000 in
set_option maxRecDepth 100000 in
theorem lc_standing {p : Program} {l : Launch} {e : Env} {s : State} {m : MethodId} {below : List Frame} {meth : Method} {c : Code} {b L : Nat} {xs : Nat → Int32} {G : wx_G} (C : lx_C p s m meth c b L xs G) {t j : Nat} {M : wx_M} (H : qR t M) (ht : t < 512) (hj : j + 6 ≤ L) (kk : ∀ M2, qR (t + 1) M2 → lx_V p l e s m below meth c b G 1055 M2 (nI j) []) : lx_V p l e s m below meth c b G 292 M (nI j) [] := by
  obtain ⟨p5, h⟩ := st_standing H (xs (j + 1))
  refine lx_x C dL_law_292 ?_
  refine lx_arg C (k := 1) hj (by omega) (by decide) dL_law_293 dL_law_294 dL_law_295 dL_law_296 dL_law_297 ?_
  refine lx_calli C (As := [.int (xs (j + 1))]) (ci := 5) (c_X5_standing M _ p5) rfl (by decide +kernel) rfl tl_273 tl_274 tl_275 tl_276 tl_33 hy_X5_standing ⟨Nat.le_of_ble_eq_true rfl, Nat.le_of_ble_eq_true rfl⟩ rfl rfl (Nat.le_of_ble_eq_true rfl) dL_law_298 (fun r M1 q1 => ?_)
  obtain ⟨p6, h⟩ := h r M1 q1
  refine lx_m C dL_law_301 ?_
  refine lx_arg C (k := 1) hj (by omega) (by decide) dL_law_302 dL_law_303 dL_law_304 dL_law_305 dL_law_306 ?_
  refine lx_calli C (As := [.int (xs (j + 1))]) (ci := 6) (c_X6_standing M1 _ p6) rfl (by decide +kernel) rfl tl_682 tl_683 tl_684 tl_685 tl_39 hy_X6_standing ⟨Nat.le_of_ble_eq_true rfl, Nat.le_of_ble_eq_true rfl⟩ rfl rfl (Nat.le_of_ble_eq_true rfl) dL_law_307 (fun r2 M2 q2 => ?_)
  obtain ⟨he, H2⟩ := h r2 M2 q2
  exact lx_eq C he dL_law_310 (by decide) (kk M2 H2)
set_option maxHeartbeats 4000000 in
set_option maxRecDepth 100000 in
theorem lc_plan {p : Program} {l : Launch} {e : Env} {s : State} {m : MethodId} {below : List Frame} {meth : Method} {c : Code} {b L : Nat} {xs : Nat → Int32} {G : wx_G} (C : lx_C p s m meth c b L xs G) {t j : Nat} {M : wx_M} (H : qR t M) (ht : t < 512) (hj : j + 6 ≤ L) (kk : ∀ M2, qR (t + 1) M2 → lx_V p l e s m below meth c b G 1055 M2 (nI j) []) : lx_V p l e s m below meth c b G 315 M (nI j) [] := by
  obtain ⟨p5, h⟩ := st_plan H (xs (j + 1))
  refine lx_x C dL_law_315 ?_
  refine lx_arg C (k := 1) hj (by omega) (by decide) dL_law_316 dL_law_317 dL_law_318 dL_law_319 dL_law_320 ?_
  refine lx_calli C (As := [.int (xs (j + 1))]) (ci := 5) (c_X5_plan M _ p5) rfl (by decide +kernel) rfl tl_281 tl_282 tl_283 tl_284 tl_33 hy_X5_plan ⟨Nat.le_of_ble_eq_true rfl, Nat.le_of_ble_eq_true rfl⟩ rfl rfl (Nat.le_of_ble_eq_true rfl) dL_law_321 (fun r M1 q1 => ?_)
  obtain ⟨p6, h⟩ := h r M1 q1
  refine lx_m C dL_law_324 ?_
  refine lx_arg C (k := 1) hj (by omega) (by decide) dL_law_325 dL_law_326 dL_law_327 dL_law_328 dL_law_329 ?_
  refine lx_calli C (As := [.int (xs (j + 1))]) (ci := 6) (c_X6_plan M1 _ p6) rfl (by decide +kernel) rfl tl_690 tl_691 tl_692 tl_693 tl_39 hy_X6_plan ⟨Nat.le_of_ble_eq_true rfl, Nat.le_of_ble_eq_true rfl⟩ rfl rfl (Nat.le_of_ble_eq_true rfl) dL_law_330 (fun r2 M2 q2 => ?_)
  obtain ⟨he, H2⟩ := h r2 M2 q2
  exact lx_eq C he dL_law_333 (by decide) (kk M2 H2)
set_option maxHeartbeats 4000000 in
set_option maxRecDepth 100000 in
theorem lc_shown {p : Program} {l : Launch} {e : Env} {s : State} {m : MethodId} {below : List Frame} {meth : Method} {c : Code} {b L : Nat} {xs : Nat → Int32} {G : wx_G} (C : lx_C p s m meth c b L xs G) {t j : Nat} {M : wx_M} (H : qR t M) (ht : t < 512) (hj : j + 6 ≤ L) (kk : ∀ M2, qR (t + 1) M2 → lx_V p l e s m below meth c b G 1055 M2 (nI j) []) : lx_V p l e s m below meth c b G 338 M (nI j) [] := by
  obtain ⟨p5, h⟩ := st_shown H (xs (j + 1)) (xs (j + 2))
  refine lx_x C dL_law_338 ?_
  refine lx_arg C (k := 1) hj (by omega) (by decide) dL_law_339 dL_law_340 dL_law_341 dL_law_342 dL_law_343 ?_
  refine lx_arg C (k := 2) hj (by omega) (by decide) dL_law_344 dL_law_345 dL_law_346 dL_law_347 dL_law_348 ?_
  refine lx_calli C (As := [.int (xs (j + 1)), .int (xs (j + 2))]) (ci := 5) (c_X5_shown M _ _ p5) rfl (by decide +kernel) rfl tl_328 tl_329 tl_330 tl_331 tl_33 hy_X5_shown ⟨Nat.le_of_ble_eq_true rfl, Nat.le_of_ble_eq_true rfl⟩ rfl rfl (Nat.le_of_ble_eq_true rfl) dL_law_349 (fun r M1 q1 => ?_)
  obtain ⟨p6, h⟩ := h r M1 q1
  refine lx_m C dL_law_352 ?_
  refine lx_arg C (k := 1) hj (by omega) (by decide) dL_law_353 dL_law_354 dL_law_355 dL_law_356 dL_law_357 ?_
  refine lx_arg C (k := 2) hj (by omega) (by decide) dL_law_358 dL_law_359 dL_law_360 dL_law_361 dL_law_362 ?_
  refine lx_calli C (As := [.int (xs (j + 1)), .int (xs (j + 2))]) (ci := 6) (c_X6_shown M1 _ _ p6) rfl (by decide +kernel) rfl tl_708 tl_709 tl_710 tl_711 tl_39 hy_X6_shown ⟨Nat.le_of_ble_eq_true rfl, Nat.le_of_ble_eq_true rfl⟩ rfl rfl (Nat.le_of_ble_eq_true rfl) dL_law_363 (fun r2 M2 q2 => ?_)
  obtain ⟨he, H2⟩ := h r2 M2 q2
  exact lx_eq C he dL_law_366 (by decide) (kk M2 H2)
set_option maxHeartbeats 4000000 in
set_option maxRecDepth 100000 in
theorem lc_picture {p : Program} {l : Launch} {e : Env} {s : State} {m : MethodId} {below : List Frame} {meth : Method} {c : Code} {b L : Nat} {xs : Nat → Int32} {G : wx_G} (C : lx_C p s m meth c b L xs G) {t j : Nat} {M : wx_M} (H : qR t M) (ht : t < 512) (hj : j + 6 ≤ L) (kk : ∀ M2, qR (t + 1) M2 → lx_V p l e s m below meth c b G 1055 M2 (nI j) []) : lx_V p l e s m below meth c b G 371 M (nI j) [] := by
  obtain ⟨p5, h⟩ := st_picture H (xs (j + 1)) (xs (j + 2)) (xs (j + 3)) (xs (j + 4))
  refine lx_x C dL_law_371 ?_
  refine lx_arg C (k := 1) hj (by omega) (by decide) dL_law_372 dL_law_373 dL_law_374 dL_law_375 dL_law_376 ?_
  refine lx_arg C (k := 2) hj (by omega) (by decide) dL_law_377 dL_law_378 dL_law_379 dL_law_380 dL_law_381 ?_
  refine lx_arg C (k := 3) hj (by omega) (by decide) dL_law_382 dL_law_383 dL_law_384 dL_law_385 dL_law_386 ?_
  refine lx_arg C (k := 4) hj (by omega) (by decide) dL_law_387 dL_law_388 dL_law_389 dL_law_390 dL_law_391 ?_
  refine lx_calli C (As := [.int (xs (j + 1)), .int (xs (j + 2)), .int (xs (j + 3)), .int (xs (j + 4))]) (ci := 5) (c_X5_picture M _ _ _ _ p5) rfl (by decide +kernel) rfl tl_332 tl_333 tl_334 tl_335 tl_33 hy_X5_picture ⟨Nat.le_of_ble_eq_true rfl, Nat.le_of_ble_eq_true rfl⟩ rfl rfl (Nat.le_of_ble_eq_true rfl) dL_law_392 (fun r M1 q1 => ?_)
  obtain ⟨p6, h⟩ := h r M1 q1
  refine lx_m C dL_law_395 ?_
  refine lx_arg C (k := 1) hj (by omega) (by decide) dL_law_396 dL_law_397 dL_law_398 dL_law_399 dL_law_400 ?_
  refine lx_arg C (k := 2) hj (by omega) (by decide) dL_law_401 dL_law_402 dL_law_403 dL_law_404 dL_law_405 ?_
  refine lx_arg C (k := 3) hj (by omega) (by decide) dL_law_406 dL_law_407 dL_law_408 dL_law_409 dL_law_410 ?_
  refine lx_arg C (k := 4) hj (by omega) (by decide) dL_law_411 dL_law_412 dL_law_413 dL_law_414 dL_law_415 ?_
  refine lx_calli C (As := [.int (xs (j + 1)), .int (xs (j + 2)), .int (xs (j + 3)), .int (xs (j + 4))]) (ci := 6) (c_X6_picture M1 _ _ _ _ p6) rfl (by decide +kernel) rfl tl_712 tl_713 tl_714 tl_715 tl_39 hy_X6_picture ⟨Nat.le_of_ble_eq_true rfl, Nat.le_of_ble_eq_true rfl⟩ rfl rfl (Nat.le_of_ble_eq_true rfl) dL_law_416 (fun r2 M2 q2 => ?_)
  obtain ⟨he, H2⟩ := h r2 M2 q2
  exact lx_eq C he dL_law_419 (by decide) (kk M2 H2)
set_option maxHeartbeats 4000000 in
set_option maxRecDepth 100000 in
theorem lc_span {p : Program} {l : Launch} {e : Env} {s : State} {m : MethodId} {below : List Frame} {meth : Method} {c : Code} {b L : Nat} {xs : Nat → Int32} {G : wx_G} (C : lx_C p s m meth c b L xs G) {t j : Nat} {M : wx_M} (H : qR t M) (ht : t < 512) (hj : j + 6 ≤ L) (kk : ∀ M2, qR (t + 1) M2 → lx_V p l e s m below meth c b G 1055 M2 (nI j) []) : lx_V p l e s m below meth c b G 424 M (nI j) [] := by
  obtain ⟨p5, h⟩ := st_span H (xs (j + 1)) (xs (j + 2)) (xs (j + 3))
  refine lx_x C dL_law_424 ?_
  refine lx_arg C (k := 1) hj (by omega) (by decide) dL_law_425 dL_law_426 dL_law_427 dL_law_428 dL_law_429 ?_
  refine lx_arg C (k := 2) hj (by omega) (by decide) dL_law_430 dL_law_431 dL_law_432 dL_law_433 dL_law_434 ?_
  refine lx_arg C (k := 3) hj (by omega) (by decide) dL_law_435 dL_law_436 dL_law_437 dL_law_438 dL_law_439 ?_
  refine lx_calli C (As := [.int (xs (j + 1)), .int (xs (j + 2)), .int (xs (j + 3))]) (ci := 5) (c_X5_span M _ _ _ p5) rfl (by decide +kernel) rfl tl_351 tl_352 tl_353 tl_354 tl_33 hy_X5_span ⟨Nat.le_of_ble_eq_true rfl, Nat.le_of_ble_eq_true rfl⟩ rfl rfl (Nat.le_of_ble_eq_true rfl) dL_law_440 (fun r M1 q1 => ?_)
  obtain ⟨p6, h⟩ := h r M1 q1
  refine lx_m C dL_law_443 ?_
  refine lx_arg C (k := 1) hj (by omega) (by decide) dL_law_444 dL_law_445 dL_law_446 dL_law_447 dL_law_448 ?_
  refine lx_arg C (k := 2) hj (by omega) (by decide) dL_law_449 dL_law_450 dL_law_451 dL_law_452 dL_law_453 ?_
  refine lx_arg C (k := 3) hj (by omega) (by decide) dL_law_454 dL_law_455 dL_law_456 dL_law_457 dL_law_458 ?_
  refine lx_calli C (As := [.int (xs (j + 1)), .int (xs (j + 2)), .int (xs (j + 3))]) (ci := 6) (c_X6_span M1 _ _ _ p6) rfl (by decide +kernel) rfl tl_720 tl_721 tl_722 tl_723 tl_39 hy_X6_span ⟨Nat.le_of_ble_eq_true rfl, Nat.le_of_ble_eq_true rfl⟩ rfl rfl (Nat.le_of_ble_eq_true rfl) dL_law_459 (fun r2 M2 q2 => ?_)
  obtain ⟨he, H2⟩ := h r2 M2 q2
  exact lx_eq C he dL_law_462 (by decide) (kk M2 H2)
set_option maxHeartbeats 4000000 in
set_option maxRecDepth 100000 in
theorem lc_wrong {p : Program} {l : Launch} {e : Env} {s : State} {m : MethodId} {below : List Frame} {meth : Method} {c : Code} {b L : Nat} {xs : Nat → Int32} {G : wx_G} (C : lx_C p s m meth c b L xs G) {t j : Nat} {M : wx_M} (H : qR t M) (ht : t < 512) (hj : j + 6 ≤ L) (kk : ∀ M2, qR (t + 1) M2 → lx_V p l e s m below meth c b G 1055 M2 (nI j) []) : lx_V p l e s m below meth c b G 467 M (nI j) [] := by
  obtain ⟨p5, h⟩ := st_wrong H (xs (j + 1)) (xs (j + 2))
  refine lx_x C dL_law_467 ?_
  refine lx_arg C (k := 1) hj (by omega) (by decide) dL_law_468 dL_law_469 dL_law_470 dL_law_471 dL_law_472 ?_
  refine lx_arg C (k := 2) hj (by omega) (by decide) dL_law_473 dL_law_474 dL_law_475 dL_law_476 dL_law_477 ?_
  refine lx_calli C (As := [.int (xs (j + 1)), .int (xs (j + 2))]) (ci := 5) (c_X5_wrong M _ _ p5) rfl (by decide +kernel) rfl tl_358 tl_359 tl_360 tl_361 tl_33 hy_X5_wrong ⟨Nat.le_of_ble_eq_true rfl, Nat.le_of_ble_eq_true rfl⟩ rfl rfl (Nat.le_of_ble_eq_true rfl) dL_law_478 (fun r M1 q1 => ?_)
  obtain ⟨p6, h⟩ := h r M1 q1
  refine lx_m C dL_law_481 ?_
  refine lx_arg C (k := 1) hj (by omega) (by decide) dL_law_482 dL_law_483 dL_law_484 dL_law_485 dL_law_486 ?_
  refine lx_arg C (k := 2) hj (by omega) (by decide) dL_law_487 dL_law_488 dL_law_489 dL_law_490 dL_law_491 ?_
  refine lx_calli C (As := [.int (xs (j + 1)), .int (xs (j + 2))]) (ci := 6) (c_X6_wrong M1 _ _ p6) rfl (by decide +kernel) rfl tl_728 tl_729 tl_730 tl_731 tl_39 hy_X6_wrong ⟨Nat.le_of_ble_eq_true rfl, Nat.le_of_ble_eq_true rfl⟩ rfl rfl (Nat.le_of_ble_eq_true rfl) dL_law_492 (fun r2 M2 q2 => ?_)
  obtain ⟨he, H2⟩ := h r2 M2 q2
  exact lx_eq C he dL_law_495 (by decide) (kk M2 H2)
set_option maxHeartbeats 4000000 in
set_option maxRecDepth 100000 in
theorem lc_days {p : Program} {l : Launch} {e : Env} {s : State} {m : MethodId} {below : List Frame} {meth : Method} {c : Code} {b L : Nat} {xs : Nat → Int32} {G : wx_G} (C : lx_C p s m meth c b L xs G) {t j : Nat} {M : wx_M} (H : qR t M) (ht : t < 512) (hj : j + 6 ≤ L) (kk : ∀ M2, qR (t + 1) M2 → lx_V p l e s m below meth c b G 1055 M2 (nI j) []) : lx_V p l e s m below meth c b G 500 M (nI j) [] := by
  obtain ⟨p5, h⟩ := st_days H (xs (j + 1)) (xs (j + 2)) (xs (j + 3))
  refine lx_x C dL_law_500 ?_
  refine lx_arg C (k := 1) hj (by omega) (by decide) dL_law_501 dL_law_502 dL_law_503 dL_law_504 dL_law_505 ?_
  refine lx_arg C (k := 2) hj (by omega) (by decide) dL_law_506 dL_law_507 dL_law_508 dL_law_509 dL_law_510 ?_
  refine lx_arg C (k := 3) hj (by omega) (by decide) dL_law_511 dL_law_512 dL_law_513 dL_law_514 dL_law_515 ?_
  refine lx_calli C (As := [.int (xs (j + 1)), .int (xs (j + 2)), .int (xs (j + 3))]) (ci := 5) (c_X5_days M _ _ _ p5) rfl (by decide +kernel) rfl tl_362 tl_363 tl_364 tl_365 tl_33 hy_X5_days ⟨Nat.le_of_ble_eq_true rfl, Nat.le_of_ble_eq_true rfl⟩ rfl rfl (Nat.le_of_ble_eq_true rfl) dL_law_516 (fun r M1 q1 => ?_)
  obtain ⟨p6, h⟩ := h r M1 q1
  refine lx_m C dL_law_519 ?_
  refine lx_arg C (k := 1) hj (by omega) (by decide) dL_law_520 dL_law_521 dL_law_522 dL_law_523 dL_law_524 ?_
  refine lx_arg C (k := 2) hj (by omega) (by decide) dL_law_525 dL_law_526 dL_law_527 dL_law_528 dL_law_529 ?_
  refine lx_arg C (k := 3) hj (by omega) (by decide) dL_law_530 dL_law_531 dL_law_532 dL_law_533 dL_law_534 ?_
  refine lx_calli C (As := [.int (xs (j + 1)), .int (xs (j + 2)), .int (xs (j + 3))]) (ci := 6) (c_X6_days M1 _ _ _ p6) rfl (by decide +kernel) rfl tl_732 tl_733 tl_734 tl_735 tl_39 hy_X6_days ⟨Nat.le_of_ble_eq_true rfl, Nat.le_of_ble_eq_true rfl⟩ rfl rfl (Nat.le_of_ble_eq_true rfl) dL_law_535 (fun r2 M2 q2 => ?_)
  obtain ⟨he, H2⟩ := h r2 M2 q2
  exact lx_eq C he dL_law_538 (by decide) (kk M2 H2)
set_option maxHeartbeats 4000000 in
set_option maxRecDepth 100000 in
theorem lc_made {p : Program} {l : Launch} {e : Env} {s : State} {m : MethodId} {below : List Frame} {meth : Method} {c : Code} {b L : Nat} {xs : Nat → Int32} {G : wx_G} (C : lx_C p s m meth c b L xs G) {t j : Nat} {M : wx_M} (H : qR t M) (ht : t < 512) (hj : j + 6 ≤ L) (kk : ∀ M2, qR (t + 1) M2 → lx_V p l e s m below meth c b G 1055 M2 (nI j) []) : lx_V p l e s m below meth c b G 543 M (nI j) [] := by
  obtain ⟨p5, h⟩ := st_made H (xs (j + 1))
  refine lx_x C dL_law_543 ?_
  refine lx_arg C (k := 1) hj (by omega) (by decide) dL_law_544 dL_law_545 dL_law_546 dL_law_547 dL_law_548 ?_
  refine lx_calli C (As := [.int (xs (j + 1))]) (ci := 5) (c_X5_made M _ p5) rfl (by decide +kernel) rfl tl_370 tl_371 tl_372 tl_373 tl_33 hy_X5_made ⟨Nat.le_of_ble_eq_true rfl, Nat.le_of_ble_eq_true rfl⟩ rfl rfl (Nat.le_of_ble_eq_true rfl) dL_law_549 (fun r M1 q1 => ?_)
  obtain ⟨p6, h⟩ := h r M1 q1
  refine lx_m C dL_law_552 ?_
  refine lx_arg C (k := 1) hj (by omega) (by decide) dL_law_553 dL_law_554 dL_law_555 dL_law_556 dL_law_557 ?_
  refine lx_calli C (As := [.int (xs (j + 1))]) (ci := 6) (c_X6_made M1 _ p6) rfl (by decide +kernel) rfl tl_736 tl_737 tl_738 tl_739 tl_39 hy_X6_made ⟨Nat.le_of_ble_eq_true rfl, Nat.le_of_ble_eq_true rfl⟩ rfl rfl (Nat.le_of_ble_eq_true rfl) dL_law_558 (fun r2 M2 q2 => ?_)
  obtain ⟨he, H2⟩ := h r2 M2 q2
  exact lx_eq C he dL_law_561 (by decide) (kk M2 H2)
set_option maxHeartbeats 4000000 in
set_option maxRecDepth 100000 in
theorem lc_order {p : Program} {l : Launch} {e : Env} {s : State} {m : MethodId} {below : List Frame} {meth : Method} {c : Code} {b L : Nat} {xs : Nat → Int32} {G : wx_G} (C : lx_C p s m meth c b L xs G) {t j : Nat} {M : wx_M} (H : qR t M) (ht : t < 512) (hj : j + 6 ≤ L) (kk : ∀ M2, qR (t + 1) M2 → lx_V p l e s m below meth c b G 1055 M2 (nI j) []) : lx_V p l e s m below meth c b G 566 M (nI j) [] := by
  obtain ⟨p5, h⟩ := st_order H (xs (j + 1)) (xs (j + 2))
  refine lx_x C dL_law_566 ?_
  refine lx_arg C (k := 1) hj (by omega) (by decide) dL_law_567 dL_law_568 dL_law_569 dL_law_570 dL_law_571 ?_
  refine lx_arg C (k := 2) hj (by omega) (by decide) dL_law_572 dL_law_573 dL_law_574 dL_law_575 dL_law_576 ?_
  refine lx_calli C (As := [.int (xs (j + 1)), .int (xs (j + 2))]) (ci := 5) (c_X5_order M _ _ p5) rfl (by decide +kernel) rfl tl_401 tl_402 tl_403 tl_404 tl_33 hy_X5_order ⟨Nat.le_of_ble_eq_true rfl, Nat.le_of_ble_eq_true rfl⟩ rfl rfl (Nat.le_of_ble_eq_true rfl) dL_law_577 (fun r M1 q1 => ?_)
  obtain ⟨p6, h⟩ := h r M1 q1
  refine lx_m C dL_law_580 ?_
  refine lx_arg C (k := 1) hj (by omega) (by decide) dL_law_581 dL_law_582 dL_law_583 dL_law_584 dL_law_585 ?_
  refine lx_arg C (k := 2) hj (by omega) (by decide) dL_law_586 dL_law_587 dL_law_588 dL_law_589 dL_law_590 ?_
  refine lx_calli C (As := [.int (xs (j + 1)), .int (xs (j + 2))]) (ci := 6) (c_X6_order M1 _ _ p6) rfl (by decide +kernel) rfl tl_757 tl_758 tl_759 tl_760 tl_39 hy_X6_order ⟨Nat.le_of_ble_eq_true rfl, Nat.le_of_ble_eq_true rfl⟩ rfl rfl (Nat.le_of_ble_eq_true rfl) dL_law_591 (fun r2 M2 q2 => ?_)
  obtain ⟨he, H2⟩ := h r2 M2 q2
  exact lx_eq C he dL_law_594 (by decide) (kk M2 H2)
set_option maxHeartbeats 4000000 in
set_option maxRecDepth 100000 in
theorem lc_room {p : Program} {l : Launch} {e : Env} {s : State} {m : MethodId} {below : List Frame} {meth : Method} {c : Code} {b L : Nat} {xs : Nat → Int32} {G : wx_G} (C : lx_C p s m meth c b L xs G) {t j : Nat} {M : wx_M} (H : qR t M) (ht : t < 512) (hj : j + 6 ≤ L) (kk : ∀ M2, qR (t + 1) M2 → lx_V p l e s m below meth c b G 1055 M2 (nI j) []) : lx_V p l e s m below meth c b G 599 M (nI j) [] := by
  obtain ⟨p5, h⟩ := st_room H (xs (j + 1)) (xs (j + 2)) (xs (j + 3))
  refine lx_x C dL_law_599 ?_
  refine lx_arg C (k := 1) hj (by omega) (by decide) dL_law_600 dL_law_601 dL_law_602 dL_law_603 dL_law_604 ?_
  refine lx_arg C (k := 2) hj (by omega) (by decide) dL_law_605 dL_law_606 dL_law_607 dL_law_608 dL_law_609 ?_
  refine lx_arg C (k := 3) hj (by omega) (by decide) dL_law_610 dL_law_611 dL_law_612 dL_law_613 dL_law_614 ?_
  refine lx_calli C (As := [.int (xs (j + 1)), .int (xs (j + 2)), .int (xs (j + 3))]) (ci := 5) (c_X5_room M _ _ _ p5) rfl (by decide +kernel) rfl tl_405 tl_406 tl_407 tl_408 tl_33 hy_X5_room ⟨Nat.le_of_ble_eq_true rfl, Nat.le_of_ble_eq_true rfl⟩ rfl rfl (Nat.le_of_ble_eq_true rfl) dL_law_615 (fun r M1 q1 => ?_)
  obtain ⟨p6, h⟩ := h r M1 q1
  refine lx_m C dL_law_618 ?_
  refine lx_arg C (k := 1) hj (by omega) (by decide) dL_law_619 dL_law_620 dL_law_621 dL_law_622 dL_law_623 ?_
  refine lx_arg C (k := 2) hj (by omega) (by decide) dL_law_624 dL_law_625 dL_law_626 dL_law_627 dL_law_628 ?_
  refine lx_arg C (k := 3) hj (by omega) (by decide) dL_law_629 dL_law_630 dL_law_631 dL_law_632 dL_law_633 ?_
  refine lx_calli C (As := [.int (xs (j + 1)), .int (xs (j + 2)), .int (xs (j + 3))]) (ci := 6) (c_X6_room M1 _ _ _ p6) rfl (by decide +kernel) rfl tl_761 tl_762 tl_763 tl_764 tl_39 hy_X6_room ⟨Nat.le_of_ble_eq_true rfl, Nat.le_of_ble_eq_true rfl⟩ rfl rfl (Nat.le_of_ble_eq_true rfl) dL_law_634 (fun r2 M2 q2 => ?_)
  obtain ⟨he, H2⟩ := h r2 M2 q2
  exact lx_eq C he dL_law_637 (by decide) (kk M2 H2)


/-! THE LAW, case by case -/
set_option maxRecDepth 100000 in
set_option maxHeartbeats 4000000 in
theorem law_0 {p : Program} {l : Launch} {e : Env} {s : State} {m : MethodId} {below : List Frame} {meth : Method} {c : Code} {b L : Nat} {xs : Nat → Int32} {g : GG} (K : LC p s m meth c b L xs g) (hL : L ≤ 2560) {i : Nat} (hi : i + 5 ≤ L) {h : HH} (J : JJ h) (kk : ∀ h1, JJ h1 → Y p l e s m below meth c b g 1115 [vr 60, vr 0, vr 47, vi (i : Int)] [] h1) : Y p l e s m below meth c b g 164 [vr 60, vr 0, vr 47, vi (i : Int)] [] h := by
  obtain ⟨P1, c1, k1⟩ := pr_feed (g := g) J (r32_of (xs (i + 1)))
  refine y_aload_n K (n := 1) dL_law_164 rfl ?_
  refine y_arg K hL (j := 1) dL_law_165 dL_law_166 dL_law_167 dL_law_168 dL_law_169 (by omega) ?_
  refine y_call K [_] tX5_feed kL_13 dL_law_170 rcv0 ⟨by decide, by decide⟩ rfl (Nat.le_of_ble_eq_true rfl) rfl c1 ?_
  rintro r h1 ⟨z, rfl, q1⟩
  obtain ⟨P2, c2, k2⟩ := k1 z h1 q1
  refine y_aload_n K (n := 2) dL_law_173 rfl ?_
  refine y_arg K hL (j := 1) dL_law_174 dL_law_175 dL_law_176 dL_law_177 dL_law_178 (by omega) ?_
  refine y_call K [_] tX6_feed kL_17 dL_law_179 rcv47 ⟨by decide, by decide⟩ rfl (Nat.le_of_ble_eq_true rfl) rfl c2 ?_
  rintro r h2 ⟨w, rfl, q2⟩
  obtain ⟨rfl, J2⟩ := k2 w h2 q2
  exact y_eqI K dL_law_182 (by decide) (kk h2 J2)
set_option maxRecDepth 100000 in
set_option maxHeartbeats 4000000 in
theorem law_1 {p : Program} {l : Launch} {e : Env} {s : State} {m : MethodId} {below : List Frame} {meth : Method} {c : Code} {b L : Nat} {xs : Nat → Int32} {g : GG} (K : LC p s m meth c b L xs g) (hL : L ≤ 2560) {i : Nat} (hi : i + 5 ≤ L) {h : HH} (J : JJ h) (kk : ∀ h1, JJ h1 → Y p l e s m below meth c b g 1115 [vr 60, vr 0, vr 47, vi (i : Int)] [] h1) : Y p l e s m below meth c b g 187 [vr 60, vr 0, vr 47, vi (i : Int)] [] h := by
  obtain ⟨P1, c1, k1⟩ := pr_complex (g := g) J 
  refine y_aload_n K (n := 1) dL_law_187 rfl ?_
  refine y_call K [] tX5_complex kL_18 dL_law_188 rcv0 ⟨by decide, by decide⟩ rfl (Nat.le_of_ble_eq_true rfl) rfl c1 ?_
  rintro r h1 ⟨z, rfl, q1⟩
  obtain ⟨P2, c2, k2⟩ := k1 z h1 q1
  refine y_aload_n K (n := 2) dL_law_191 rfl ?_
  refine y_call K [] tX6_complex kL_22 dL_law_192 rcv47 ⟨by decide, by decide⟩ rfl (Nat.le_of_ble_eq_true rfl) rfl c2 ?_
  rintro r h2 ⟨w, rfl, q2⟩
  obtain ⟨rfl, J2⟩ := k2 w h2 q2
  exact y_eqI K dL_law_195 (by decide) (kk h2 J2)
set_option maxRecDepth 100000 in
set_option maxHeartbeats 4000000 in
theorem law_2 {p : Program} {l : Launch} {e : Env} {s : State} {m : MethodId} {below : List Frame} {meth : Method} {c : Code} {b L : Nat} {xs : Nat → Int32} {g : GG} (K : LC p s m meth c b L xs g) (hL : L ≤ 2560) {i : Nat} (hi : i + 5 ≤ L) {h : HH} (J : JJ h) (kk : ∀ h1, JJ h1 → Y p l e s m below meth c b g 1115 [vr 60, vr 0, vr 47, vi (i : Int)] [] h1) : Y p l e s m below meth c b g 200 [vr 60, vr 0, vr 47, vi (i : Int)] [] h := by
  obtain ⟨P1, c1, k1⟩ := pr_fault (g := g) J 
  refine y_aload_n K (n := 1) dL_law_200 rfl ?_
  refine y_call K [] tX5_fault kL_23 dL_law_201 rcv0 ⟨by decide, by decide⟩ rfl (Nat.le_of_ble_eq_true rfl) rfl c1 ?_
  rintro r h1 ⟨z, rfl, q1⟩
  obtain ⟨P2, c2, k2⟩ := k1 z h1 q1
  refine y_aload_n K (n := 2) dL_law_204 rfl ?_
  refine y_call K [] tX6_fault kL_26 dL_law_205 rcv47 ⟨by decide, by decide⟩ rfl (Nat.le_of_ble_eq_true rfl) rfl c2 ?_
  rintro r h2 ⟨w, rfl, q2⟩
  obtain ⟨rfl, J2⟩ := k2 w h2 q2
  exact y_eqI K dL_law_208 (by decide) (kk h2 J2)
set_option maxRecDepth 100000 in
set_option maxHeartbeats 4000000 in
theorem law_3 {p : Program} {l : Launch} {e : Env} {s : State} {m : MethodId} {below : List Frame} {meth : Method} {c : Code} {b L : Nat} {xs : Nat → Int32} {g : GG} (K : LC p s m meth c b L xs g) (hL : L ≤ 2560) {i : Nat} (hi : i + 5 ≤ L) {h : HH} (J : JJ h) (kk : ∀ h1, JJ h1 → Y p l e s m below meth c b g 1115 [vr 60, vr 0, vr 47, vi (i : Int)] [] h1) : Y p l e s m below meth c b g 213 [vr 60, vr 0, vr 47, vi (i : Int)] [] h := by
  obtain ⟨P1, c1, k1⟩ := pr_undo (g := g) J 
  refine y_aload_n K (n := 1) dL_law_213 rfl ?_
  refine y_call K [] tX5_undo kL_27 dL_law_214 rcv0 ⟨by decide, by decide⟩ rfl (Nat.le_of_ble_eq_true rfl) rfl c1 ?_
  rintro r h1 ⟨z, rfl, q1⟩
  obtain ⟨P2, c2, k2⟩ := k1 z h1 q1
  refine y_aload_n K (n := 2) dL_law_217 rfl ?_
  refine y_call K [] tX6_undo kL_30 dL_law_218 rcv47 ⟨by decide, by decide⟩ rfl (Nat.le_of_ble_eq_true rfl) rfl c2 ?_
  rintro r h2 ⟨w, rfl, q2⟩
  obtain ⟨rfl, J2⟩ := k2 w h2 q2
  exact y_eqI K dL_law_221 (by decide) (kk h2 J2)
set_option maxRecDepth 100000 in
set_option maxHeartbeats 4000000 in
theorem law_4 {p : Program} {l : Launch} {e : Env} {s : State} {m : MethodId} {below : List Frame} {meth : Method} {c : Code} {b L : Nat} {xs : Nat → Int32} {g : GG} (K : LC p s m meth c b L xs g) (hL : L ≤ 2560) {i : Nat} (hi : i + 5 ≤ L) {h : HH} (J : JJ h) (kk : ∀ h1, JJ h1 → Y p l e s m below meth c b g 1115 [vr 60, vr 0, vr 47, vi (i : Int)] [] h1) : Y p l e s m below meth c b g 226 [vr 60, vr 0, vr 47, vi (i : Int)] [] h := by
  obtain ⟨P1, c1, k1⟩ := pr_weigh (g := g) J (r32_of (xs (i + 1))) (r32_of (xs (i + 2))) (r32_of (xs (i + 3)))
  refine y_aload_n K (n := 1) dL_law_226 rfl ?_
  refine y_arg K hL (j := 1) dL_law_227 dL_law_228 dL_law_229 dL_law_230 dL_law_231 (by omega) ?_
  refine y_arg K hL (j := 2) dL_law_232 dL_law_233 dL_law_234 dL_law_235 dL_law_236 (by omega) ?_
  refine y_arg K hL (j := 3) dL_law_237 dL_law_238 dL_law_239 dL_law_240 dL_law_241 (by omega) ?_
  refine y_call K [_, _, _] tX5_weigh kL_31 dL_law_242 rcv0 ⟨by decide, by decide⟩ rfl (Nat.le_of_ble_eq_true rfl) rfl c1 ?_
  rintro r h1 ⟨z, rfl, q1⟩
  obtain ⟨P2, c2, k2⟩ := k1 z h1 q1
  refine y_aload_n K (n := 2) dL_law_245 rfl ?_
  refine y_arg K hL (j := 1) dL_law_246 dL_law_247 dL_law_248 dL_law_249 dL_law_250 (by omega) ?_
  refine y_arg K hL (j := 2) dL_law_251 dL_law_252 dL_law_253 dL_law_254 dL_law_255 (by omega) ?_
  refine y_arg K hL (j := 3) dL_law_256 dL_law_257 dL_law_258 dL_law_259 dL_law_260 (by omega) ?_
  refine y_call K [_, _, _] tX6_weigh kL_35 dL_law_261 rcv47 ⟨by decide, by decide⟩ rfl (Nat.le_of_ble_eq_true rfl) rfl c2 ?_
  rintro r h2 ⟨w, rfl, q2⟩
  obtain ⟨rfl, J2⟩ := k2 w h2 q2
  exact y_eqI K dL_law_264 (by decide) (kk h2 J2)
set_option maxRecDepth 100000 in
set_option maxHeartbeats 4000000 in
theorem law_5 {p : Program} {l : Launch} {e : Env} {s : State} {m : MethodId} {below : List Frame} {meth : Method} {c : Code} {b L : Nat} {xs : Nat → Int32} {g : GG} (K : LC p s m meth c b L xs g) (hL : L ≤ 2560) {i : Nat} (hi : i + 5 ≤ L) {h : HH} (J : JJ h) (kk : ∀ h1, JJ h1 → Y p l e s m below meth c b g 1115 [vr 60, vr 0, vr 47, vi (i : Int)] [] h1) : Y p l e s m below meth c b g 269 [vr 60, vr 0, vr 47, vi (i : Int)] [] h := by
  obtain ⟨P1, c1, k1⟩ := pr_edge (g := g) J (r32_of (xs (i + 1))) (r32_of (xs (i + 2))) (r32_of (xs (i + 3)))
  refine y_aload_n K (n := 1) dL_law_269 rfl ?_
  refine y_arg K hL (j := 1) dL_law_270 dL_law_271 dL_law_272 dL_law_273 dL_law_274 (by omega) ?_
  refine y_arg K hL (j := 2) dL_law_275 dL_law_276 dL_law_277 dL_law_278 dL_law_279 (by omega) ?_
  refine y_arg K hL (j := 3) dL_law_280 dL_law_281 dL_law_282 dL_law_283 dL_law_284 (by omega) ?_
  refine y_call K [_, _, _] tX5_edge kL_36 dL_law_285 rcv0 ⟨by decide, by decide⟩ rfl (Nat.le_of_ble_eq_true rfl) rfl c1 ?_
  rintro r h1 ⟨z, rfl, q1⟩
  obtain ⟨P2, c2, k2⟩ := k1 z h1 q1
  refine y_aload_n K (n := 2) dL_law_288 rfl ?_
  refine y_arg K hL (j := 1) dL_law_289 dL_law_290 dL_law_291 dL_law_292 dL_law_293 (by omega) ?_
  refine y_arg K hL (j := 2) dL_law_294 dL_law_295 dL_law_296 dL_law_297 dL_law_298 (by omega) ?_
  refine y_arg K hL (j := 3) dL_law_299 dL_law_300 dL_law_301 dL_law_302 dL_law_303 (by omega) ?_
  refine y_call K [_, _, _] tX6_edge kL_39 dL_law_304 rcv47 ⟨by decide, by decide⟩ rfl (Nat.le_of_ble_eq_true rfl) rfl c2 ?_
  rintro r h2 ⟨w, rfl, q2⟩
  obtain ⟨rfl, J2⟩ := k2 w h2 q2
  exact y_eqI K dL_law_307 (by decide) (kk h2 J2)
set_option maxRecDepth 100000 in
set_option maxHeartbeats 4000000 in
theorem law_6 {p : Program} {l : Launch} {e : Env} {s : State} {m : MethodId} {below : List Frame} {meth : Method} {c : Code} {b L : Nat} {xs : Nat → Int32} {g : GG} (K : LC p s m meth c b L xs g) (hL : L ≤ 2560) {i : Nat} (hi : i + 5 ≤ L) {h : HH} (J : JJ h) (kk : ∀ h1, JJ h1 → Y p l e s m below meth c b g 1115 [vr 60, vr 0, vr 47, vi (i : Int)] [] h1) : Y p l e s m below meth c b g 312 [vr 60, vr 0, vr 47, vi (i : Int)] [] h := by
  obtain ⟨P1, c1, k1⟩ := pr_face (g := g) J (r32_of (xs (i + 1)))
  refine y_aload_n K (n := 1) dL_law_312 rfl ?_
  refine y_arg K hL (j := 1) dL_law_313 dL_law_314 dL_law_315 dL_law_316 dL_law_317 (by omega) ?_
  refine y_call K [_] tX5_face kL_40 dL_law_318 rcv0 ⟨by decide, by decide⟩ rfl (Nat.le_of_ble_eq_true rfl) rfl c1 ?_
  rintro r h1 ⟨z, rfl, q1⟩
  obtain ⟨P2, c2, k2⟩ := k1 z h1 q1
  refine y_aload_n K (n := 2) dL_law_321 rfl ?_
  refine y_arg K hL (j := 1) dL_law_322 dL_law_323 dL_law_324 dL_law_325 dL_law_326 (by omega) ?_
  refine y_call K [_] tX6_face kL_43 dL_law_327 rcv47 ⟨by decide, by decide⟩ rfl (Nat.le_of_ble_eq_true rfl) rfl c2 ?_
  rintro r h2 ⟨w, rfl, q2⟩
  obtain ⟨rfl, J2⟩ := k2 w h2 q2
  exact y_eqI K dL_law_330 (by decide) (kk h2 J2)
set_option maxRecDepth 100000 in
set_option maxHeartbeats 4000000 in
theorem law_7 {p : Program} {l : Launch} {e : Env} {s : State} {m : MethodId} {below : List Frame} {meth : Method} {c : Code} {b L : Nat} {xs : Nat → Int32} {g : GG} (K : LC p s m meth c b L xs g) (hL : L ≤ 2560) {i : Nat} (hi : i + 5 ≤ L) {h : HH} (J : JJ h) (kk : ∀ h1, JJ h1 → Y p l e s m below meth c b g 1115 [vr 60, vr 0, vr 47, vi (i : Int)] [] h1) : Y p l e s m below meth c b g 335 [vr 60, vr 0, vr 47, vi (i : Int)] [] h := by
  obtain ⟨P1, c1, k1⟩ := pr_drop (g := g) J (r32_of (xs (i + 1))) (r32_of (xs (i + 2)))
  refine y_aload_n K (n := 1) dL_law_335 rfl ?_
  refine y_arg K hL (j := 1) dL_law_336 dL_law_337 dL_law_338 dL_law_339 dL_law_340 (by omega) ?_
  refine y_arg K hL (j := 2) dL_law_341 dL_law_342 dL_law_343 dL_law_344 dL_law_345 (by omega) ?_
  refine y_call K [_, _] tX5_drop kL_44 dL_law_346 rcv0 ⟨by decide, by decide⟩ rfl (Nat.le_of_ble_eq_true rfl) rfl c1 ?_
  rintro r h1 ⟨z, rfl, q1⟩
  obtain ⟨P2, c2, k2⟩ := k1 z h1 q1
  refine y_aload_n K (n := 2) dL_law_349 rfl ?_
  refine y_arg K hL (j := 1) dL_law_350 dL_law_351 dL_law_352 dL_law_353 dL_law_354 (by omega) ?_
  refine y_arg K hL (j := 2) dL_law_355 dL_law_356 dL_law_357 dL_law_358 dL_law_359 (by omega) ?_
  refine y_call K [_, _] tX6_drop kL_48 dL_law_360 rcv47 ⟨by decide, by decide⟩ rfl (Nat.le_of_ble_eq_true rfl) rfl c2 ?_
  rintro r h2 ⟨w, rfl, q2⟩
  obtain ⟨rfl, J2⟩ := k2 w h2 q2
  exact y_eqI K dL_law_363 (by decide) (kk h2 J2)
set_option maxRecDepth 100000 in
set_option maxHeartbeats 4000000 in
theorem law_8 {p : Program} {l : Launch} {e : Env} {s : State} {m : MethodId} {below : List Frame} {meth : Method} {c : Code} {b L : Nat} {xs : Nat → Int32} {g : GG} (K : LC p s m meth c b L xs g) (hL : L ≤ 2560) {i : Nat} (hi : i + 5 ≤ L) {h : HH} (J : JJ h) (kk : ∀ h1, JJ h1 → Y p l e s m below meth c b g 1115 [vr 60, vr 0, vr 47, vi (i : Int)] [] h1) : Y p l e s m below meth c b g 368 [vr 60, vr 0, vr 47, vi (i : Int)] [] h := by
  obtain ⟨P1, c1, k1⟩ := pr_put (g := g) J (r32_of (xs (i + 1))) (r32_of (xs (i + 2))) (r32_of (xs (i + 3)))
  refine y_aload_n K (n := 1) dL_law_368 rfl ?_
  refine y_arg K hL (j := 1) dL_law_369 dL_law_370 dL_law_371 dL_law_372 dL_law_373 (by omega) ?_
  refine y_arg K hL (j := 2) dL_law_374 dL_law_375 dL_law_376 dL_law_377 dL_law_378 (by omega) ?_
  refine y_arg K hL (j := 3) dL_law_379 dL_law_380 dL_law_381 dL_law_382 dL_law_383 (by omega) ?_
  refine y_call K [_, _, _] tX5_put kL_49 dL_law_384 rcv0 ⟨by decide, by decide⟩ rfl (Nat.le_of_ble_eq_true rfl) rfl c1 ?_
  rintro r h1 ⟨z, rfl, q1⟩
  obtain ⟨P2, c2, k2⟩ := k1 z h1 q1
  refine y_aload_n K (n := 2) dL_law_387 rfl ?_
  refine y_arg K hL (j := 1) dL_law_388 dL_law_389 dL_law_390 dL_law_391 dL_law_392 (by omega) ?_
  refine y_arg K hL (j := 2) dL_law_393 dL_law_394 dL_law_395 dL_law_396 dL_law_397 (by omega) ?_
  refine y_arg K hL (j := 3) dL_law_398 dL_law_399 dL_law_400 dL_law_401 dL_law_402 (by omega) ?_
  refine y_call K [_, _, _] tX6_put kL_52 dL_law_403 rcv47 ⟨by decide, by decide⟩ rfl (Nat.le_of_ble_eq_true rfl) rfl c2 ?_
  rintro r h2 ⟨w, rfl, q2⟩
  obtain ⟨rfl, J2⟩ := k2 w h2 q2
  exact y_eqI K dL_law_406 (by decide) (kk h2 J2)
set_option maxRecDepth 100000 in
set_option maxHeartbeats 4000000 in
theorem law_9 {p : Program} {l : Launch} {e : Env} {s : State} {m : MethodId} {below : List Frame} {meth : Method} {c : Code} {b L : Nat} {xs : Nat → Int32} {g : GG} (K : LC p s m meth c b L xs g) (hL : L ≤ 2560) {i : Nat} (hi : i + 5 ≤ L) {h : HH} (J : JJ h) (kk : ∀ h1, JJ h1 → Y p l e s m below meth c b g 1115 [vr 60, vr 0, vr 47, vi (i : Int)] [] h1) : Y p l e s m below meth c b g 411 [vr 60, vr 0, vr 47, vi (i : Int)] [] h := by
  obtain ⟨P1, c1, k1⟩ := pr_bound (g := g) J (r32_of (xs (i + 1))) (r32_of (xs (i + 2))) (r32_of (xs (i + 3)))
  refine y_aload_n K (n := 1) dL_law_411 rfl ?_
  refine y_arg K hL (j := 1) dL_law_412 dL_law_413 dL_law_414 dL_law_415 dL_law_416 (by omega) ?_
  refine y_arg K hL (j := 2) dL_law_417 dL_law_418 dL_law_419 dL_law_420 dL_law_421 (by omega) ?_
  refine y_arg K hL (j := 3) dL_law_422 dL_law_423 dL_law_424 dL_law_425 dL_law_426 (by omega) ?_
  refine y_call K [_, _, _] tX5_bound kL_53 dL_law_427 rcv0 ⟨by decide, by decide⟩ rfl (Nat.le_of_ble_eq_true rfl) rfl c1 ?_
  rintro r h1 ⟨z, rfl, q1⟩
  obtain ⟨P2, c2, k2⟩ := k1 z h1 q1
  refine y_aload_n K (n := 2) dL_law_430 rfl ?_
  refine y_arg K hL (j := 1) dL_law_431 dL_law_432 dL_law_433 dL_law_434 dL_law_435 (by omega) ?_
  refine y_arg K hL (j := 2) dL_law_436 dL_law_437 dL_law_438 dL_law_439 dL_law_440 (by omega) ?_
  refine y_arg K hL (j := 3) dL_law_441 dL_law_442 dL_law_443 dL_law_444 dL_law_445 (by omega) ?_
  refine y_call K [_, _, _] tX6_bound kL_56 dL_law_446 rcv47 ⟨by decide, by decide⟩ rfl (Nat.le_of_ble_eq_true rfl) rfl c2 ?_
  rintro r h2 ⟨w, rfl, q2⟩
  obtain ⟨rfl, J2⟩ := k2 w h2 q2
  exact y_eqI K dL_law_449 (by decide) (kk h2 J2)
set_option maxRecDepth 100000 in
set_option maxHeartbeats 4000000 in
theorem law_10 {p : Program} {l : Launch} {e : Env} {s : State} {m : MethodId} {below : List Frame} {meth : Method} {c : Code} {b L : Nat} {xs : Nat → Int32} {g : GG} (K : LC p s m meth c b L xs g) (hL : L ≤ 2560) {i : Nat} (hi : i + 5 ≤ L) {h : HH} (J : JJ h) (kk : ∀ h1, JJ h1 → Y p l e s m below meth c b g 1115 [vr 60, vr 0, vr 47, vi (i : Int)] [] h1) : Y p l e s m below meth c b g 454 [vr 60, vr 0, vr 47, vi (i : Int)] [] h := by
  obtain ⟨P1, c1, k1⟩ := pr_drawn (g := g) J (r32_of (xs (i + 1))) (r32_of (xs (i + 2)))
  refine y_aload_n K (n := 1) dL_law_454 rfl ?_
  refine y_arg K hL (j := 1) dL_law_455 dL_law_456 dL_law_457 dL_law_458 dL_law_459 (by omega) ?_
  refine y_arg K hL (j := 2) dL_law_460 dL_law_461 dL_law_462 dL_law_463 dL_law_464 (by omega) ?_
  refine y_call K [_, _] tX5_drawn kL_57 dL_law_465 rcv0 ⟨by decide, by decide⟩ rfl (Nat.le_of_ble_eq_true rfl) rfl c1 ?_
  rintro r h1 ⟨z, rfl, q1⟩
  obtain ⟨P2, c2, k2⟩ := k1 z h1 q1
  refine y_aload_n K (n := 2) dL_law_468 rfl ?_
  refine y_arg K hL (j := 1) dL_law_469 dL_law_470 dL_law_471 dL_law_472 dL_law_473 (by omega) ?_
  refine y_arg K hL (j := 2) dL_law_474 dL_law_475 dL_law_476 dL_law_477 dL_law_478 (by omega) ?_
  refine y_call K [_, _] tX6_drawn kL_60 dL_law_479 rcv47 ⟨by decide, by decide⟩ rfl (Nat.le_of_ble_eq_true rfl) rfl c2 ?_
  rintro r h2 ⟨w, rfl, q2⟩
  obtain ⟨rfl, J2⟩ := k2 w h2 q2
  exact y_eqI K dL_law_482 (by decide) (kk h2 J2)
set_option maxRecDepth 100000 in
set_option maxHeartbeats 4000000 in
theorem law_11 {p : Program} {l : Launch} {e : Env} {s : State} {m : MethodId} {below : List Frame} {meth : Method} {c : Code} {b L : Nat} {xs : Nat → Int32} {g : GG} (K : LC p s m meth c b L xs g) (hL : L ≤ 2560) {i : Nat} (hi : i + 5 ≤ L) {h : HH} (J : JJ h) (kk : ∀ h1, JJ h1 → Y p l e s m below meth c b g 1115 [vr 60, vr 0, vr 47, vi (i : Int)] [] h1) : Y p l e s m below meth c b g 487 [vr 60, vr 0, vr 47, vi (i : Int)] [] h := by
  obtain ⟨P1, c1, k1⟩ := pr_cell (g := g) J (r32_of (xs (i + 1))) (r32_of (xs (i + 2))) (r32_of (xs (i + 3)))
  refine y_aload_n K (n := 1) dL_law_487 rfl ?_
  refine y_arg K hL (j := 1) dL_law_488 dL_law_489 dL_law_490 dL_law_491 dL_law_492 (by omega) ?_
  refine y_arg K hL (j := 2) dL_law_493 dL_law_494 dL_law_495 dL_law_496 dL_law_497 (by omega) ?_
  refine y_arg K hL (j := 3) dL_law_498 dL_law_499 dL_law_500 dL_law_501 dL_law_502 (by omega) ?_
  refine y_call K [_, _, _] tX5_cell kL_61 dL_law_503 rcv0 ⟨by decide, by decide⟩ rfl (Nat.le_of_ble_eq_true rfl) rfl c1 ?_
  rintro r h1 ⟨z, rfl, q1⟩
  obtain ⟨P2, c2, k2⟩ := k1 z h1 q1
  refine y_aload_n K (n := 2) dL_law_506 rfl ?_
  refine y_arg K hL (j := 1) dL_law_507 dL_law_508 dL_law_509 dL_law_510 dL_law_511 (by omega) ?_
  refine y_arg K hL (j := 2) dL_law_512 dL_law_513 dL_law_514 dL_law_515 dL_law_516 (by omega) ?_
  refine y_arg K hL (j := 3) dL_law_517 dL_law_518 dL_law_519 dL_law_520 dL_law_521 (by omega) ?_
  refine y_call K [_, _, _] tX6_cell kL_64 dL_law_522 rcv47 ⟨by decide, by decide⟩ rfl (Nat.le_of_ble_eq_true rfl) rfl c2 ?_
  rintro r h2 ⟨w, rfl, q2⟩
  obtain ⟨rfl, J2⟩ := k2 w h2 q2
  exact y_eqI K dL_law_525 (by decide) (kk h2 J2)
set_option maxRecDepth 100000 in
set_option maxHeartbeats 4000000 in
theorem law_12 {p : Program} {l : Launch} {e : Env} {s : State} {m : MethodId} {below : List Frame} {meth : Method} {c : Code} {b L : Nat} {xs : Nat → Int32} {g : GG} (K : LC p s m meth c b L xs g) (hL : L ≤ 2560) {i : Nat} (hi : i + 5 ≤ L) {h : HH} (J : JJ h) (kk : ∀ h1, JJ h1 → Y p l e s m below meth c b g 1115 [vr 60, vr 0, vr 47, vi (i : Int)] [] h1) : Y p l e s m below meth c b g 530 [vr 60, vr 0, vr 47, vi (i : Int)] [] h := by
  obtain ⟨P1, c1, k1⟩ := pr_as (g := g) J (r32_of (xs (i + 1))) (r32_of (xs (i + 2))) (r32_of (xs (i + 3)))
  refine y_aload_n K (n := 1) dL_law_530 rfl ?_
  refine y_arg K hL (j := 1) dL_law_531 dL_law_532 dL_law_533 dL_law_534 dL_law_535 (by omega) ?_
  refine y_arg K hL (j := 2) dL_law_536 dL_law_537 dL_law_538 dL_law_539 dL_law_540 (by omega) ?_
  refine y_arg K hL (j := 3) dL_law_541 dL_law_542 dL_law_543 dL_law_544 dL_law_545 (by omega) ?_
  refine y_call K [_, _, _] tX5_as kL_65 dL_law_546 rcv0 ⟨by decide, by decide⟩ rfl (Nat.le_of_ble_eq_true rfl) rfl c1 ?_
  rintro r h1 ⟨z, rfl, q1⟩
  obtain ⟨P2, c2, k2⟩ := k1 z h1 q1
  refine y_aload_n K (n := 2) dL_law_549 rfl ?_
  refine y_arg K hL (j := 1) dL_law_550 dL_law_551 dL_law_552 dL_law_553 dL_law_554 (by omega) ?_
  refine y_arg K hL (j := 2) dL_law_555 dL_law_556 dL_law_557 dL_law_558 dL_law_559 (by omega) ?_
  refine y_arg K hL (j := 3) dL_law_560 dL_law_561 dL_law_562 dL_law_563 dL_law_564 (by omega) ?_
  refine y_call K [_, _, _] tX6_as kL_68 dL_law_565 rcv47 ⟨by decide, by decide⟩ rfl (Nat.le_of_ble_eq_true rfl) rfl c2 ?_
  rintro r h2 ⟨w, rfl, q2⟩
  obtain ⟨rfl, J2⟩ := k2 w h2 q2
  exact y_eqI K dL_law_568 (by decide) (kk h2 J2)
set_option maxRecDepth 100000 in
set_option maxHeartbeats 4000000 in
theorem law_13 {p : Program} {l : Launch} {e : Env} {s : State} {m : MethodId} {below : List Frame} {meth : Method} {c : Code} {b L : Nat} {xs : Nat → Int32} {g : GG} (K : LC p s m meth c b L xs g) (hL : L ≤ 2560) {i : Nat} (hi : i + 5 ≤ L) {h : HH} (J : JJ h) (kk : ∀ h1, JJ h1 → Y p l e s m below meth c b g 1115 [vr 60, vr 0, vr 47, vi (i : Int)] [] h1) : Y p l e s m below meth c b g 573 [vr 60, vr 0, vr 47, vi (i : Int)] [] h := by
  obtain ⟨P1, c1, k1⟩ := pr_table (g := g) J (r32_of (xs (i + 1))) (r32_of (xs (i + 2))) (r32_of (xs (i + 3)))
  refine y_aload_n K (n := 1) dL_law_573 rfl ?_
  refine y_arg K hL (j := 1) dL_law_574 dL_law_575 dL_law_576 dL_law_577 dL_law_578 (by omega) ?_
  refine y_arg K hL (j := 2) dL_law_579 dL_law_580 dL_law_581 dL_law_582 dL_law_583 (by omega) ?_
  refine y_arg K hL (j := 3) dL_law_584 dL_law_585 dL_law_586 dL_law_587 dL_law_588 (by omega) ?_
  refine y_call K [_, _, _] tX5_table kL_69 dL_law_589 rcv0 ⟨by decide, by decide⟩ rfl (Nat.le_of_ble_eq_true rfl) rfl c1 ?_
  rintro r h1 ⟨z, rfl, q1⟩
  obtain ⟨P2, c2, k2⟩ := k1 z h1 q1
  refine y_aload_n K (n := 2) dL_law_592 rfl ?_
  refine y_arg K hL (j := 1) dL_law_593 dL_law_594 dL_law_595 dL_law_596 dL_law_597 (by omega) ?_
  refine y_arg K hL (j := 2) dL_law_598 dL_law_599 dL_law_600 dL_law_601 dL_law_602 (by omega) ?_
  refine y_arg K hL (j := 3) dL_law_603 dL_law_604 dL_law_605 dL_law_606 dL_law_607 (by omega) ?_
  refine y_call K [_, _, _] tX6_table kL_72 dL_law_608 rcv47 ⟨by decide, by decide⟩ rfl (Nat.le_of_ble_eq_true rfl) rfl c2 ?_
  rintro r h2 ⟨w, rfl, q2⟩
  obtain ⟨rfl, J2⟩ := k2 w h2 q2
  exact y_eqI K dL_law_611 (by decide) (kk h2 J2)
set_option maxRecDepth 100000 in
set_option maxHeartbeats 4000000 in
theorem law_14 {p : Program} {l : Launch} {e : Env} {s : State} {m : MethodId} {below : List Frame} {meth : Method} {c : Code} {b L : Nat} {xs : Nat → Int32} {g : GG} (K : LC p s m meth c b L xs g) (hL : L ≤ 2560) {i : Nat} (hi : i + 5 ≤ L) {h : HH} (J : JJ h) (kk : ∀ h1, JJ h1 → Y p l e s m below meth c b g 1115 [vr 60, vr 0, vr 47, vi (i : Int)] [] h1) : Y p l e s m below meth c b g 616 [vr 60, vr 0, vr 47, vi (i : Int)] [] h := by
  obtain ⟨P1, c1, k1⟩ := pr_near (g := g) J (r32_of (xs (i + 1))) (r32_of (xs (i + 2))) (r32_of (xs (i + 3)))
  refine y_aload_n K (n := 1) dL_law_616 rfl ?_
  refine y_arg K hL (j := 1) dL_law_617 dL_law_618 dL_law_619 dL_law_620 dL_law_621 (by omega) ?_
  refine y_arg K hL (j := 2) dL_law_622 dL_law_623 dL_law_624 dL_law_625 dL_law_626 (by omega) ?_
  refine y_arg K hL (j := 3) dL_law_627 dL_law_628 dL_law_629 dL_law_630 dL_law_631 (by omega) ?_
  refine y_call K [_, _, _] tX5_near kL_73 dL_law_632 rcv0 ⟨by decide, by decide⟩ rfl (Nat.le_of_ble_eq_true rfl) rfl c1 ?_
  rintro r h1 ⟨z, rfl, q1⟩
  obtain ⟨P2, c2, k2⟩ := k1 z h1 q1
  refine y_aload_n K (n := 2) dL_law_635 rfl ?_
  refine y_arg K hL (j := 1) dL_law_636 dL_law_637 dL_law_638 dL_law_639 dL_law_640 (by omega) ?_
  refine y_arg K hL (j := 2) dL_law_641 dL_law_642 dL_law_643 dL_law_644 dL_law_645 (by omega) ?_
  refine y_arg K hL (j := 3) dL_law_646 dL_law_647 dL_law_648 dL_law_649 dL_law_650 (by omega) ?_
  refine y_call K [_, _, _] tX6_near kL_76 dL_law_651 rcv47 ⟨by decide, by decide⟩ rfl (Nat.le_of_ble_eq_true rfl) rfl c2 ?_
  rintro r h2 ⟨w, rfl, q2⟩
  obtain ⟨rfl, J2⟩ := k2 w h2 q2
  exact y_eqI K dL_law_654 (by decide) (kk h2 J2)
set_option maxRecDepth 100000 in
set_option maxHeartbeats 4000000 in
theorem law_15 {p : Program} {l : Launch} {e : Env} {s : State} {m : MethodId} {below : List Frame} {meth : Method} {c : Code} {b L : Nat} {xs : Nat → Int32} {g : GG} (K : LC p s m meth c b L xs g) (hL : L ≤ 2560) {i : Nat} (hi : i + 5 ≤ L) {h : HH} (J : JJ h) (kk : ∀ h1, JJ h1 → Y p l e s m below meth c b g 1115 [vr 60, vr 0, vr 47, vi (i : Int)] [] h1) : Y p l e s m below meth c b g 659 [vr 60, vr 0, vr 47, vi (i : Int)] [] h := by
  obtain ⟨P1, c1, k1⟩ := pr_rank (g := g) J (r32_of (xs (i + 1))) (r32_of (xs (i + 2)))
  refine y_aload_n K (n := 1) dL_law_659 rfl ?_
  refine y_arg K hL (j := 1) dL_law_660 dL_law_661 dL_law_662 dL_law_663 dL_law_664 (by omega) ?_
  refine y_arg K hL (j := 2) dL_law_665 dL_law_666 dL_law_667 dL_law_668 dL_law_669 (by omega) ?_
  refine y_call K [_, _] tX5_rank kL_77 dL_law_670 rcv0 ⟨by decide, by decide⟩ rfl (Nat.le_of_ble_eq_true rfl) rfl c1 ?_
  rintro r h1 ⟨z, rfl, q1⟩
  obtain ⟨P2, c2, k2⟩ := k1 z h1 q1
  refine y_aload_n K (n := 2) dL_law_673 rfl ?_
  refine y_arg K hL (j := 1) dL_law_674 dL_law_675 dL_law_676 dL_law_677 dL_law_678 (by omega) ?_
  refine y_arg K hL (j := 2) dL_law_679 dL_law_680 dL_law_681 dL_law_682 dL_law_683 (by omega) ?_
  refine y_call K [_, _] tX6_rank kL_80 dL_law_684 rcv47 ⟨by decide, by decide⟩ rfl (Nat.le_of_ble_eq_true rfl) rfl c2 ?_
  rintro r h2 ⟨w, rfl, q2⟩
  obtain ⟨rfl, J2⟩ := k2 w h2 q2
  exact y_eqI K dL_law_687 (by decide) (kk h2 J2)
set_option maxRecDepth 100000 in
set_option maxHeartbeats 4000000 in
theorem law_16 {p : Program} {l : Launch} {e : Env} {s : State} {m : MethodId} {below : List Frame} {meth : Method} {c : Code} {b L : Nat} {xs : Nat → Int32} {g : GG} (K : LC p s m meth c b L xs g) (hL : L ≤ 2560) {i : Nat} (hi : i + 5 ≤ L) {h : HH} (J : JJ h) (kk : ∀ h1, JJ h1 → Y p l e s m below meth c b g 1115 [vr 60, vr 0, vr 47, vi (i : Int)] [] h1) : Y p l e s m below meth c b g 692 [vr 60, vr 0, vr 47, vi (i : Int)] [] h := by
  obtain ⟨P1, c1, k1⟩ := pr_holes (g := g) J (r32_of (xs (i + 1))) (r32_of (xs (i + 2)))
  refine y_aload_n K (n := 1) dL_law_692 rfl ?_
  refine y_arg K hL (j := 1) dL_law_693 dL_law_694 dL_law_695 dL_law_696 dL_law_697 (by omega) ?_
  refine y_arg K hL (j := 2) dL_law_698 dL_law_699 dL_law_700 dL_law_701 dL_law_702 (by omega) ?_
  refine y_call K [_, _] tX5_holes kL_81 dL_law_703 rcv0 ⟨by decide, by decide⟩ rfl (Nat.le_of_ble_eq_true rfl) rfl c1 ?_
  rintro r h1 ⟨z, rfl, q1⟩
  obtain ⟨P2, c2, k2⟩ := k1 z h1 q1
  refine y_aload_n K (n := 2) dL_law_706 rfl ?_
  refine y_arg K hL (j := 1) dL_law_707 dL_law_708 dL_law_709 dL_law_710 dL_law_711 (by omega) ?_
  refine y_arg K hL (j := 2) dL_law_712 dL_law_713 dL_law_714 dL_law_715 dL_law_716 (by omega) ?_
  refine y_call K [_, _] tX6_holes kL_84 dL_law_717 rcv47 ⟨by decide, by decide⟩ rfl (Nat.le_of_ble_eq_true rfl) rfl c2 ?_
  rintro r h2 ⟨w, rfl, q2⟩
  obtain ⟨rfl, J2⟩ := k2 w h2 q2
  exact y_eqI K dL_law_720 (by decide) (kk h2 J2)
set_option maxRecDepth 100000 in
set_option maxHeartbeats 4000000 in
theorem law_17 {p : Program} {l : Launch} {e : Env} {s : State} {m : MethodId} {below : List Frame} {meth : Method} {c : Code} {b L : Nat} {xs : Nat → Int32} {g : GG} (K : LC p s m meth c b L xs g) (hL : L ≤ 2560) {i : Nat} (hi : i + 5 ≤ L) {h : HH} (J : JJ h) (kk : ∀ h1, JJ h1 → Y p l e s m below meth c b g 1115 [vr 60, vr 0, vr 47, vi (i : Int)] [] h1) : Y p l e s m below meth c b g 725 [vr 60, vr 0, vr 47, vi (i : Int)] [] h := by
  obtain ⟨P1, c1, k1⟩ := pr_twist (g := g) J (r32_of (xs (i + 1))) (r32_of (xs (i + 2)))
  refine y_aload_n K (n := 1) dL_law_725 rfl ?_
  refine y_arg K hL (j := 1) dL_law_726 dL_law_727 dL_law_728 dL_law_729 dL_law_730 (by omega) ?_
  refine y_arg K hL (j := 2) dL_law_731 dL_law_732 dL_law_733 dL_law_734 dL_law_735 (by omega) ?_
  refine y_call K [_, _] tX5_twist kL_85 dL_law_736 rcv0 ⟨by decide, by decide⟩ rfl (Nat.le_of_ble_eq_true rfl) rfl c1 ?_
  rintro r h1 ⟨z, rfl, q1⟩
  obtain ⟨P2, c2, k2⟩ := k1 z h1 q1
  refine y_aload_n K (n := 2) dL_law_739 rfl ?_
  refine y_arg K hL (j := 1) dL_law_740 dL_law_741 dL_law_742 dL_law_743 dL_law_744 (by omega) ?_
  refine y_arg K hL (j := 2) dL_law_745 dL_law_746 dL_law_747 dL_law_748 dL_law_749 (by omega) ?_
  refine y_call K [_, _] tX6_twist kL_88 dL_law_750 rcv47 ⟨by decide, by decide⟩ rfl (Nat.le_of_ble_eq_true rfl) rfl c2 ?_
  rintro r h2 ⟨w, rfl, q2⟩
  obtain ⟨rfl, J2⟩ := k2 w h2 q2
  exact y_eqI K dL_law_753 (by decide) (kk h2 J2)
set_option maxRecDepth 100000 in
set_option maxHeartbeats 4000000 in
theorem law_18 {p : Program} {l : Launch} {e : Env} {s : State} {m : MethodId} {below : List Frame} {meth : Method} {c : Code} {b L : Nat} {xs : Nat → Int32} {g : GG} (K : LC p s m meth c b L xs g) (hL : L ≤ 2560) {i : Nat} (hi : i + 5 ≤ L) {h : HH} (J : JJ h) (kk : ∀ h1, JJ h1 → Y p l e s m below meth c b g 1115 [vr 60, vr 0, vr 47, vi (i : Int)] [] h1) : Y p l e s m below meth c b g 758 [vr 60, vr 0, vr 47, vi (i : Int)] [] h := by
  obtain ⟨P1, c1, k1⟩ := pr_chain (g := g) J (r32_of (xs (i + 1))) (r32_of (xs (i + 2)))
  refine y_aload_n K (n := 1) dL_law_758 rfl ?_
  refine y_arg K hL (j := 1) dL_law_759 dL_law_760 dL_law_761 dL_law_762 dL_law_763 (by omega) ?_
  refine y_arg K hL (j := 2) dL_law_764 dL_law_765 dL_law_766 dL_law_767 dL_law_768 (by omega) ?_
  refine y_call K [_, _] tX5_chain kL_89 dL_law_769 rcv0 ⟨by decide, by decide⟩ rfl (Nat.le_of_ble_eq_true rfl) rfl c1 ?_
  rintro r h1 ⟨z, rfl, q1⟩
  obtain ⟨P2, c2, k2⟩ := k1 z h1 q1
  refine y_aload_n K (n := 2) dL_law_772 rfl ?_
  refine y_arg K hL (j := 1) dL_law_773 dL_law_774 dL_law_775 dL_law_776 dL_law_777 (by omega) ?_
  refine y_arg K hL (j := 2) dL_law_778 dL_law_779 dL_law_780 dL_law_781 dL_law_782 (by omega) ?_
  refine y_call K [_, _] tX6_chain kL_92 dL_law_783 rcv47 ⟨by decide, by decide⟩ rfl (Nat.le_of_ble_eq_true rfl) rfl c2 ?_
  rintro r h2 ⟨w, rfl, q2⟩
  obtain ⟨rfl, J2⟩ := k2 w h2 q2
  exact y_eqI K dL_law_786 (by decide) (kk h2 J2)
set_option maxRecDepth 100000 in
set_option maxHeartbeats 4000000 in
theorem law_19 {p : Program} {l : Launch} {e : Env} {s : State} {m : MethodId} {below : List Frame} {meth : Method} {c : Code} {b L : Nat} {xs : Nat → Int32} {g : GG} (K : LC p s m meth c b L xs g) (hL : L ≤ 2560) {i : Nat} (hi : i + 5 ≤ L) {h : HH} (J : JJ h) (kk : ∀ h1, JJ h1 → Y p l e s m below meth c b g 1115 [vr 60, vr 0, vr 47, vi (i : Int)] [] h1) : Y p l e s m below meth c b g 791 [vr 60, vr 0, vr 47, vi (i : Int)] [] h := by
  obtain ⟨P1, c1, k1⟩ := pr_ends (g := g) J (r32_of (xs (i + 1))) (r32_of (xs (i + 2)))
  refine y_aload_n K (n := 1) dL_law_791 rfl ?_
  refine y_arg K hL (j := 1) dL_law_792 dL_law_793 dL_law_794 dL_law_795 dL_law_796 (by omega) ?_
  refine y_arg K hL (j := 2) dL_law_797 dL_law_798 dL_law_799 dL_law_800 dL_law_801 (by omega) ?_
  refine y_call K [_, _] tX5_ends kL_93 dL_law_802 rcv0 ⟨by decide, by decide⟩ rfl (Nat.le_of_ble_eq_true rfl) rfl c1 ?_
  rintro r h1 ⟨z, rfl, q1⟩
  obtain ⟨P2, c2, k2⟩ := k1 z h1 q1
  refine y_aload_n K (n := 2) dL_law_805 rfl ?_
  refine y_arg K hL (j := 1) dL_law_806 dL_law_807 dL_law_808 dL_law_809 dL_law_810 (by omega) ?_
  refine y_arg K hL (j := 2) dL_law_811 dL_law_812 dL_law_813 dL_law_814 dL_law_815 (by omega) ?_
  refine y_call K [_, _] tX6_ends kL_96 dL_law_816 rcv47 ⟨by decide, by decide⟩ rfl (Nat.le_of_ble_eq_true rfl) rfl c2 ?_
  rintro r h2 ⟨w, rfl, q2⟩
  obtain ⟨rfl, J2⟩ := k2 w h2 q2
  exact y_eqI K dL_law_819 (by decide) (kk h2 J2)
set_option maxRecDepth 100000 in
set_option maxHeartbeats 4000000 in
theorem law_20 {p : Program} {l : Launch} {e : Env} {s : State} {m : MethodId} {below : List Frame} {meth : Method} {c : Code} {b L : Nat} {xs : Nat → Int32} {g : GG} (K : LC p s m meth c b L xs g) (hL : L ≤ 2560) {i : Nat} (hi : i + 5 ≤ L) {h : HH} (J : JJ h) (kk : ∀ h1, JJ h1 → Y p l e s m below meth c b g 1115 [vr 60, vr 0, vr 47, vi (i : Int)] [] h1) : Y p l e s m below meth c b g 824 [vr 60, vr 0, vr 47, vi (i : Int)] [] h := by
  obtain ⟨P1, c1, k1⟩ := pr_whole (g := g) J (r32_of (xs (i + 1))) (r32_of (xs (i + 2)))
  refine y_aload_n K (n := 1) dL_law_824 rfl ?_
  refine y_arg K hL (j := 1) dL_law_825 dL_law_826 dL_law_827 dL_law_828 dL_law_829 (by omega) ?_
  refine y_arg K hL (j := 2) dL_law_830 dL_law_831 dL_law_832 dL_law_833 dL_law_834 (by omega) ?_
  refine y_call K [_, _] tX5_whole kL_97 dL_law_835 rcv0 ⟨by decide, by decide⟩ rfl (Nat.le_of_ble_eq_true rfl) rfl c1 ?_
  rintro r h1 ⟨z, rfl, q1⟩
  obtain ⟨P2, c2, k2⟩ := k1 z h1 q1
  refine y_aload_n K (n := 2) dL_law_838 rfl ?_
  refine y_arg K hL (j := 1) dL_law_839 dL_law_840 dL_law_841 dL_law_842 dL_law_843 (by omega) ?_
  refine y_arg K hL (j := 2) dL_law_844 dL_law_845 dL_law_846 dL_law_847 dL_law_848 (by omega) ?_
  refine y_call K [_, _] tX6_whole kL_100 dL_law_849 rcv47 ⟨by decide, by decide⟩ rfl (Nat.le_of_ble_eq_true rfl) rfl c2 ?_
  rintro r h2 ⟨w, rfl, q2⟩
  obtain ⟨rfl, J2⟩ := k2 w h2 q2
  exact y_eqI K dL_law_852 (by decide) (kk h2 J2)
set_option maxRecDepth 100000 in
set_option maxHeartbeats 4000000 in
theorem law_21 {p : Program} {l : Launch} {e : Env} {s : State} {m : MethodId} {below : List Frame} {meth : Method} {c : Code} {b L : Nat} {xs : Nat → Int32} {g : GG} (K : LC p s m meth c b L xs g) (hL : L ≤ 2560) {i : Nat} (hi : i + 5 ≤ L) {h : HH} (J : JJ h) (kk : ∀ h1, JJ h1 → Y p l e s m below meth c b g 1115 [vr 60, vr 0, vr 47, vi (i : Int)] [] h1) : Y p l e s m below meth c b g 857 [vr 60, vr 0, vr 47, vi (i : Int)] [] h := by
  obtain ⟨P1, c1, k1⟩ := pr_part (g := g) J (r32_of (xs (i + 1))) (r32_of (xs (i + 2))) (r32_of (xs (i + 3))) (r32_of (xs (i + 4)))
  refine y_aload_n K (n := 1) dL_law_857 rfl ?_
  refine y_arg K hL (j := 1) dL_law_858 dL_law_859 dL_law_860 dL_law_861 dL_law_862 (by omega) ?_
  refine y_arg K hL (j := 2) dL_law_863 dL_law_864 dL_law_865 dL_law_866 dL_law_867 (by omega) ?_
  refine y_arg K hL (j := 3) dL_law_868 dL_law_869 dL_law_870 dL_law_871 dL_law_872 (by omega) ?_
  refine y_arg K hL (j := 4) dL_law_873 dL_law_874 dL_law_875 dL_law_876 dL_law_877 (by omega) ?_
  refine y_call K [_, _, _, _] tX5_part kL_101 dL_law_878 rcv0 ⟨by decide, by decide⟩ rfl (Nat.le_of_ble_eq_true rfl) rfl c1 ?_
  rintro r h1 ⟨z, rfl, q1⟩
  obtain ⟨P2, c2, k2⟩ := k1 z h1 q1
  refine y_aload_n K (n := 2) dL_law_881 rfl ?_
  refine y_arg K hL (j := 1) dL_law_882 dL_law_883 dL_law_884 dL_law_885 dL_law_886 (by omega) ?_
  refine y_arg K hL (j := 2) dL_law_887 dL_law_888 dL_law_889 dL_law_890 dL_law_891 (by omega) ?_
  refine y_arg K hL (j := 3) dL_law_892 dL_law_893 dL_law_894 dL_law_895 dL_law_896 (by omega) ?_
  refine y_arg K hL (j := 4) dL_law_897 dL_law_898 dL_law_899 dL_law_900 dL_law_901 (by omega) ?_
  refine y_call K [_, _, _, _] tX6_part kL_105 dL_law_902 rcv47 ⟨by decide, by decide⟩ rfl (Nat.le_of_ble_eq_true rfl) rfl c2 ?_
  rintro r h2 ⟨w, rfl, q2⟩
  obtain ⟨rfl, J2⟩ := k2 w h2 q2
  exact y_eqL K dL_law_905 dL_law_906 (by decide) (kk h2 J2)
set_option maxRecDepth 100000 in
set_option maxHeartbeats 4000000 in
theorem law_22 {p : Program} {l : Launch} {e : Env} {s : State} {m : MethodId} {below : List Frame} {meth : Method} {c : Code} {b L : Nat} {xs : Nat → Int32} {g : GG} (K : LC p s m meth c b L xs g) (hL : L ≤ 2560) {i : Nat} (hi : i + 5 ≤ L) {h : HH} (J : JJ h) (kk : ∀ h1, JJ h1 → Y p l e s m below meth c b g 1115 [vr 60, vr 0, vr 47, vi (i : Int)] [] h1) : Y p l e s m below meth c b g 911 [vr 60, vr 0, vr 47, vi (i : Int)] [] h := by
  obtain ⟨P1, c1, k1⟩ := pr_length (g := g) J (r32_of (xs (i + 1))) (r32_of (xs (i + 2))) (r32_of (xs (i + 3)))
  refine y_aload_n K (n := 1) dL_law_911 rfl ?_
  refine y_arg K hL (j := 1) dL_law_912 dL_law_913 dL_law_914 dL_law_915 dL_law_916 (by omega) ?_
  refine y_arg K hL (j := 2) dL_law_917 dL_law_918 dL_law_919 dL_law_920 dL_law_921 (by omega) ?_
  refine y_arg K hL (j := 3) dL_law_922 dL_law_923 dL_law_924 dL_law_925 dL_law_926 (by omega) ?_
  refine y_call K [_, _, _] tX5_length kL_106 dL_law_927 rcv0 ⟨by decide, by decide⟩ rfl (Nat.le_of_ble_eq_true rfl) rfl c1 ?_
  rintro r h1 ⟨z, rfl, q1⟩
  obtain ⟨P2, c2, k2⟩ := k1 z h1 q1
  refine y_aload_n K (n := 2) dL_law_930 rfl ?_
  refine y_arg K hL (j := 1) dL_law_931 dL_law_932 dL_law_933 dL_law_934 dL_law_935 (by omega) ?_
  refine y_arg K hL (j := 2) dL_law_936 dL_law_937 dL_law_938 dL_law_939 dL_law_940 (by omega) ?_
  refine y_arg K hL (j := 3) dL_law_941 dL_law_942 dL_law_943 dL_law_944 dL_law_945 (by omega) ?_
  refine y_call K [_, _, _] tX6_length kL_110 dL_law_946 rcv47 ⟨by decide, by decide⟩ rfl (Nat.le_of_ble_eq_true rfl) rfl c2 ?_
  rintro r h2 ⟨w, rfl, q2⟩
  obtain ⟨rfl, J2⟩ := k2 w h2 q2
  exact y_eqL K dL_law_949 dL_law_950 (by decide) (kk h2 J2)
set_option maxRecDepth 100000 in
set_option maxHeartbeats 4000000 in
theorem law_23 {p : Program} {l : Launch} {e : Env} {s : State} {m : MethodId} {below : List Frame} {meth : Method} {c : Code} {b L : Nat} {xs : Nat → Int32} {g : GG} (K : LC p s m meth c b L xs g) (hL : L ≤ 2560) {i : Nat} (hi : i + 5 ≤ L) {h : HH} (J : JJ h) (kk : ∀ h1, JJ h1 → Y p l e s m below meth c b g 1115 [vr 60, vr 0, vr 47, vi (i : Int)] [] h1) : Y p l e s m below meth c b g 955 [vr 60, vr 0, vr 47, vi (i : Int)] [] h := by
  obtain ⟨P1, c1, k1⟩ := pr_share (g := g) J (r32_of (xs (i + 1))) (r32_of (xs (i + 2)))
  refine y_aload_n K (n := 1) dL_law_955 rfl ?_
  refine y_arg K hL (j := 1) dL_law_956 dL_law_957 dL_law_958 dL_law_959 dL_law_960 (by omega) ?_
  refine y_arg K hL (j := 2) dL_law_961 dL_law_962 dL_law_963 dL_law_964 dL_law_965 (by omega) ?_
  refine y_call K [_, _] tX5_share kL_111 dL_law_966 rcv0 ⟨by decide, by decide⟩ rfl (Nat.le_of_ble_eq_true rfl) rfl c1 ?_
  rintro r h1 ⟨z, rfl, q1⟩
  obtain ⟨P2, c2, k2⟩ := k1 z h1 q1
  refine y_aload_n K (n := 2) dL_law_969 rfl ?_
  refine y_arg K hL (j := 1) dL_law_970 dL_law_971 dL_law_972 dL_law_973 dL_law_974 (by omega) ?_
  refine y_arg K hL (j := 2) dL_law_975 dL_law_976 dL_law_977 dL_law_978 dL_law_979 (by omega) ?_
  refine y_call K [_, _] tX6_share kL_114 dL_law_980 rcv47 ⟨by decide, by decide⟩ rfl (Nat.le_of_ble_eq_true rfl) rfl c2 ?_
  rintro r h2 ⟨w, rfl, q2⟩
  obtain ⟨rfl, J2⟩ := k2 w h2 q2
  exact y_eqI K dL_law_983 (by decide) (kk h2 J2)
set_option maxRecDepth 100000 in
set_option maxHeartbeats 4000000 in
theorem law_24 {p : Program} {l : Launch} {e : Env} {s : State} {m : MethodId} {below : List Frame} {meth : Method} {c : Code} {b L : Nat} {xs : Nat → Int32} {g : GG} (K : LC p s m meth c b L xs g) (hL : L ≤ 2560) {i : Nat} (hi : i + 5 ≤ L) {h : HH} (J : JJ h) (kk : ∀ h1, JJ h1 → Y p l e s m below meth c b g 1115 [vr 60, vr 0, vr 47, vi (i : Int)] [] h1) : Y p l e s m below meth c b g 988 [vr 60, vr 0, vr 47, vi (i : Int)] [] h := by
  obtain ⟨P1, c1, k1⟩ := pr_trees (g := g) J (r32_of (xs (i + 1))) (r32_of (xs (i + 2)))
  refine y_aload_n K (n := 1) dL_law_988 rfl ?_
  refine y_arg K hL (j := 1) dL_law_989 dL_law_990 dL_law_991 dL_law_992 dL_law_993 (by omega) ?_
  refine y_arg K hL (j := 2) dL_law_994 dL_law_995 dL_law_996 dL_law_997 dL_law_998 (by omega) ?_
  refine y_call K [_, _] tX5_trees kL_115 dL_law_999 rcv0 ⟨by decide, by decide⟩ rfl (Nat.le_of_ble_eq_true rfl) rfl c1 ?_
  rintro r h1 ⟨z, rfl, q1⟩
  obtain ⟨P2, c2, k2⟩ := k1 z h1 q1
  refine y_aload_n K (n := 2) dL_law_1002 rfl ?_
  refine y_arg K hL (j := 1) dL_law_1003 dL_law_1004 dL_law_1005 dL_law_1006 dL_law_1007 (by omega) ?_
  refine y_arg K hL (j := 2) dL_law_1008 dL_law_1009 dL_law_1010 dL_law_1011 dL_law_1012 (by omega) ?_
  refine y_call K [_, _] tX6_trees kL_119 dL_law_1013 rcv47 ⟨by decide, by decide⟩ rfl (Nat.le_of_ble_eq_true rfl) rfl c2 ?_
  rintro r h2 ⟨w, rfl, q2⟩
  obtain ⟨rfl, J2⟩ := k2 w h2 q2
  exact y_eqL K dL_law_1016 dL_law_1017 (by decide) (kk h2 J2)
set_option maxRecDepth 100000 in
set_option maxHeartbeats 4000000 in
theorem law_25 {p : Program} {l : Launch} {e : Env} {s : State} {m : MethodId} {below : List Frame} {meth : Method} {c : Code} {b L : Nat} {xs : Nat → Int32} {g : GG} (K : LC p s m meth c b L xs g) (hL : L ≤ 2560) {i : Nat} (hi : i + 5 ≤ L) {h : HH} (J : JJ h) (kk : ∀ h1, JJ h1 → Y p l e s m below meth c b g 1115 [vr 60, vr 0, vr 47, vi (i : Int)] [] h1) : Y p l e s m below meth c b g 1022 [vr 60, vr 0, vr 47, vi (i : Int)] [] h := by
  obtain ⟨P1, c1, k1⟩ := pr_minors (g := g) J (r32_of (xs (i + 1)))
  refine y_aload_n K (n := 1) dL_law_1022 rfl ?_
  refine y_arg K hL (j := 1) dL_law_1023 dL_law_1024 dL_law_1025 dL_law_1026 dL_law_1027 (by omega) ?_
  refine y_call K [_] tX5_minors kL_120 dL_law_1028 rcv0 ⟨by decide, by decide⟩ rfl (Nat.le_of_ble_eq_true rfl) rfl c1 ?_
  rintro r h1 ⟨z, rfl, q1⟩
  obtain ⟨P2, c2, k2⟩ := k1 z h1 q1
  refine y_aload_n K (n := 2) dL_law_1031 rfl ?_
  refine y_arg K hL (j := 1) dL_law_1032 dL_law_1033 dL_law_1034 dL_law_1035 dL_law_1036 (by omega) ?_
  refine y_call K [_] tX6_minors kL_124 dL_law_1037 rcv47 ⟨by decide, by decide⟩ rfl (Nat.le_of_ble_eq_true rfl) rfl c2 ?_
  rintro r h2 ⟨w, rfl, q2⟩
  obtain ⟨rfl, J2⟩ := k2 w h2 q2
  exact y_eqL K dL_law_1040 dL_law_1041 (by decide) (kk h2 J2)
set_option maxRecDepth 100000 in
set_option maxHeartbeats 4000000 in
theorem law_26 {p : Program} {l : Launch} {e : Env} {s : State} {m : MethodId} {below : List Frame} {meth : Method} {c : Code} {b L : Nat} {xs : Nat → Int32} {g : GG} (K : LC p s m meth c b L xs g) (hL : L ≤ 2560) {i : Nat} (hi : i + 5 ≤ L) {h : HH} (J : JJ h) (kk : ∀ h1, JJ h1 → Y p l e s m below meth c b g 1115 [vr 60, vr 0, vr 47, vi (i : Int)] [] h1) : Y p l e s m below meth c b g 1046 [vr 60, vr 0, vr 47, vi (i : Int)] [] h := by
  obtain ⟨P1, c1, k1⟩ := pr_image (g := g) J (r32_of (xs (i + 1)))
  refine y_aload_n K (n := 1) dL_law_1046 rfl ?_
  refine y_arg K hL (j := 1) dL_law_1047 dL_law_1048 dL_law_1049 dL_law_1050 dL_law_1051 (by omega) ?_
  refine y_call K [_] tX5_image kL_125 dL_law_1052 rcv0 ⟨by decide, by decide⟩ rfl (Nat.le_of_ble_eq_true rfl) rfl c1 ?_
  rintro r h1 ⟨z, rfl, q1⟩
  obtain ⟨P2, c2, k2⟩ := k1 z h1 q1
  refine y_aload_n K (n := 2) dL_law_1055 rfl ?_
  refine y_arg K hL (j := 1) dL_law_1056 dL_law_1057 dL_law_1058 dL_law_1059 dL_law_1060 (by omega) ?_
  refine y_call K [_] tX6_image kL_128 dL_law_1061 rcv47 ⟨by decide, by decide⟩ rfl (Nat.le_of_ble_eq_true rfl) rfl c2 ?_
  rintro r h2 ⟨w, rfl, q2⟩
  obtain ⟨rfl, J2⟩ := k2 w h2 q2
  exact y_eqI K dL_law_1064 (by decide) (kk h2 J2)
set_option maxRecDepth 100000 in
set_option maxHeartbeats 4000000 in
theorem law_27 {p : Program} {l : Launch} {e : Env} {s : State} {m : MethodId} {below : List Frame} {meth : Method} {c : Code} {b L : Nat} {xs : Nat → Int32} {g : GG} (K : LC p s m meth c b L xs g) (hL : L ≤ 2560) {i : Nat} (hi : i + 5 ≤ L) {h : HH} (J : JJ h) (kk : ∀ h1, JJ h1 → Y p l e s m below meth c b g 1115 [vr 60, vr 0, vr 47, vi (i : Int)] [] h1) : Y p l e s m below meth c b g 1069 [vr 60, vr 0, vr 47, vi (i : Int)] [] h := by
  obtain ⟨P1, c1, k1⟩ := pr_restore (g := g) J (r32_of (xs (i + 1)))
  refine y_aload_n K (n := 1) dL_law_1069 rfl ?_
  refine y_arg K hL (j := 1) dL_law_1070 dL_law_1071 dL_law_1072 dL_law_1073 dL_law_1074 (by omega) ?_
  refine y_call K [_] tX5_restore kL_129 dL_law_1075 rcv0 ⟨by decide, by decide⟩ rfl (Nat.le_of_ble_eq_true rfl) rfl c1 ?_
  rintro r h1 ⟨z, rfl, q1⟩
  obtain ⟨P2, c2, k2⟩ := k1 z h1 q1
  refine y_aload_n K (n := 2) dL_law_1078 rfl ?_
  refine y_arg K hL (j := 1) dL_law_1079 dL_law_1080 dL_law_1081 dL_law_1082 dL_law_1083 (by omega) ?_
  refine y_call K [_] tX6_restore kL_132 dL_law_1084 rcv47 ⟨by decide, by decide⟩ rfl (Nat.le_of_ble_eq_true rfl) rfl c2 ?_
  rintro r h2 ⟨w, rfl, q2⟩
  obtain ⟨rfl, J2⟩ := k2 w h2 q2
  exact y_eqI K dL_law_1087 (by decide) (kk h2 J2)
set_option maxRecDepth 100000 in
set_option maxHeartbeats 4000000 in
theorem law_28 {p : Program} {l : Launch} {e : Env} {s : State} {m : MethodId} {below : List Frame} {meth : Method} {c : Code} {b L : Nat} {xs : Nat → Int32} {g : GG} (K : LC p s m meth c b L xs g) (hL : L ≤ 2560) {i : Nat} (hi : i + 5 ≤ L) {h : HH} (J : JJ h) (kk : ∀ h1, JJ h1 → Y p l e s m below meth c b g 1115 [vr 60, vr 0, vr 47, vi (i : Int)] [] h1) : Y p l e s m below meth c b g 1092 [vr 60, vr 0, vr 47, vi (i : Int)] [] h := by
  obtain ⟨P1, c1, k1⟩ := pr_count (g := g) J (r32_of (xs (i + 1)))
  refine y_aload_n K (n := 1) dL_law_1092 rfl ?_
  refine y_arg K hL (j := 1) dL_law_1093 dL_law_1094 dL_law_1095 dL_law_1096 dL_law_1097 (by omega) ?_
  refine y_call K [_] tX5_count kL_133 dL_law_1098 rcv0 ⟨by decide, by decide⟩ rfl (Nat.le_of_ble_eq_true rfl) rfl c1 ?_
  rintro r h1 ⟨z, rfl, q1⟩
  obtain ⟨P2, c2, k2⟩ := k1 z h1 q1
  refine y_aload_n K (n := 2) dL_law_1101 rfl ?_
  refine y_arg K hL (j := 1) dL_law_1102 dL_law_1103 dL_law_1104 dL_law_1105 dL_law_1106 (by omega) ?_
  refine y_call K [_] tX6_count kL_136 dL_law_1107 rcv47 ⟨by decide, by decide⟩ rfl (Nat.le_of_ble_eq_true rfl) rfl c2 ?_
  rintro r h2 ⟨w, rfl, q2⟩
  obtain ⟨rfl, J2⟩ := k2 w h2 q2
  exact y_eqI K dL_law_1110 (by decide) (kk h2 J2)
theorem y_and {p : Program} {l : Launch} {e : Env} {s : State} {m : MethodId} {below : List Frame} {meth : Method} {c : Code} {b L : Nat} {xs : Nat → Int32} {g : GG} (K : LC p s m meth c b L xs g) {pc : Nat} {lv st : List AV} {h : HH} {x y : Int} (d : decode code pc = .ok (.iand, 1)) (k : Y p l e s m below meth c b g (pc + 1) lv (vi (iand x y) :: st) h) : Y p l e s m below meth c b g pc lv (vi y :: vi x :: st) h := by
  intro H locs ls X G
  refine lv_iand K.1.1 K.1.2.1 d ?_
  have e : iI x &&& iI y = iI (iand x y) := (iI_of _).symm
  rw [e]
  exact k H locs ls X G
theorem y_tswIn {p : Program} {l : Launch} {e : Env} {s : State} {m : MethodId} {below : List Frame} {meth : Method} {c : Code} {b L : Nat} {xs : Nat → Int32} {g : GG} (K : LC p s m meth c b L xs g) {pc : Nat} {lv st : List AV} {h : HH} {dflt lo hi a off : Int} {offs : Array Int} {len : Nat} (tgt : Nat) (d : decode code pc = .ok (.tableswitch dflt lo hi offs, len)) (ha : R32 a) (h1 : ¬ a < lo) (h2 : ¬ hi < a) (ho : offs[(a - lo).toNat]? = some off) (ht : (pc : Int) + off = (tgt : Int)) (k : Y p l e s m below meth c b g tgt lv st h) : Y p l e s m below meth c b g pc lv (vi a :: st) h := by
  intro H locs ls X G
  refine lv_tableIn (x := iI a) K.1.1 K.1.2.1 d (by rw [iI_toInt ha]; exact h1) (by rw [iI_toInt ha]; exact h2) (by rw [iI_toInt ha]; exact ho) ht ?_
  exact k H locs ls X G
theorem y_tswOut {p : Program} {l : Launch} {e : Env} {s : State} {m : MethodId} {below : List Frame} {meth : Method} {c : Code} {b L : Nat} {xs : Nat → Int32} {g : GG} (K : LC p s m meth c b L xs g) {pc : Nat} {lv st : List AV} {h : HH} {dflt lo hi a : Int} {offs : Array Int} {len : Nat} (tgt : Nat) (d : decode code pc = .ok (.tableswitch dflt lo hi offs, len)) (ha : R32 a) (h1 : a < lo ∨ hi < a) (ht : (pc : Int) + dflt = (tgt : Int)) (k : Y p l e s m below meth c b g tgt lv st h) : Y p l e s m below meth c b g pc lv (vi a :: st) h := by
  intro H locs ls X G
  refine lv_tableOut (x := iI a) K.1.1 K.1.2.1 d (by rw [iI_toInt ha]; exact h1) ht ?_
  exact k H locs ls X G
set_option maxRecDepth 100000 in
set_option maxHeartbeats 4000000 in
theorem law_loop {p : Program} {l : Launch} {e : Env} {s : State} {m : MethodId} {below : List Frame} {meth : Method} {c : Code} {b L : Nat} {xs : Nat → Int32} {g : GG} (K : LC p s m meth c b L xs g) (hL : L ≤ 2560) : ∀ (n i : Nat) (h : HH), L < i + n → i ≤ L + 5 → JJ h → Y p l e s m below meth c b g 18 [vr 60, vr 0, vr 47, vi (i : Int)] [] h := by
  intro n
  induction n with
  | zero =>
    intro i h h1 h2 J
    refine y_iload_n K (n := 3) dL_law_18 rfl ?_
    refine y_aload_n K (n := 0) dL_law_19 rfl ?_
    refine y_slen K dL_law_20 ?_
    refine y_iconst K dL_law_21 ?_
    refine y_isub K dL_law_22 ?_
    exact y_icmp_gt K 1121 dL_law_23 (by decide) (by omega) (by omega) (fun _ => y_end K) (fun q => by omega)
  | succ n ih =>
    intro i h h1 h2 J
    refine y_iload_n K (n := 3) dL_law_18 rfl ?_
    refine y_aload_n K (n := 0) dL_law_19 rfl ?_
    refine y_slen K dL_law_20 ?_
    refine y_iconst K dL_law_21 ?_
    refine y_isub K dL_law_22 ?_
    refine y_icmp_gt K 1121 dL_law_23 (by decide) (by omega) (by omega) (fun _ => y_end K) (fun q => ?_)
    have hi : i + 5 ≤ L := by omega
    have kk : ∀ h1, JJ h1 → Y p l e s m below meth c b g 1115 [vr 60, vr 0, vr 47, vi (i : Int)] [] h1 := fun h1 J1 => by
      refine y_iinc K dL_law_1115 rfl (by decide) rfl ?_
      refine y_goto K 18 dL_law_1118 (by decide) ?_
      exact ih (i + 5) h1 (by omega) (by omega) J1
    refine y_aload_n K (n := 0) dL_law_26 rfl ?_
    refine y_iload_n K (n := 3) dL_law_27 rfl ?_
    refine y_sld K hL (i := i) rfl (by omega) dL_law_28 ?_
    refine y_bipush K dL_law_29 (by decide) ?_
    refine y_and K dL_law_31 ?_
    have ra : R32 (iand (xs i).toInt 31) := r32_of _
    generalize iand (xs i).toInt 31 = a at ra ⊢
    by_cases q0 : a < 0 ∨ 28 < a
    · exact y_tswOut K 1115 dL_law_32 ra q0 (by decide) (kk h J)
    · rcases (show a = 0 ∨ a = 1 ∨ a = 2 ∨ a = 3 ∨ a = 4 ∨ a = 5 ∨ a = 6 ∨ a = 7 ∨ a = 8 ∨ a = 9 ∨ a = 10 ∨ a = 11 ∨ a = 12 ∨ a = 13 ∨ a = 14 ∨ a = 15 ∨ a = 16 ∨ a = 17 ∨ a = 18 ∨ a = 19 ∨ a = 20 ∨ a = 21 ∨ a = 22 ∨ a = 23 ∨ a = 24 ∨ a = 25 ∨ a = 26 ∨ a = 27 ∨ a = 28 by omega) with rfl | rfl | rfl | rfl | rfl | rfl | rfl | rfl | rfl | rfl | rfl | rfl | rfl | rfl | rfl | rfl | rfl | rfl | rfl | rfl | rfl | rfl | rfl | rfl | rfl | rfl | rfl | rfl | rfl
      · exact y_tswIn K 164 dL_law_32 ra (by decide) (by decide) rfl (by decide) (law_0 K hL hi J kk)
      · exact y_tswIn K 187 dL_law_32 ra (by decide) (by decide) rfl (by decide) (law_1 K hL hi J kk)
      · exact y_tswIn K 200 dL_law_32 ra (by decide) (by decide) rfl (by decide) (law_2 K hL hi J kk)
      · exact y_tswIn K 213 dL_law_32 ra (by decide) (by decide) rfl (by decide) (law_3 K hL hi J kk)
      · exact y_tswIn K 226 dL_law_32 ra (by decide) (by decide) rfl (by decide) (law_4 K hL hi J kk)
      · exact y_tswIn K 269 dL_law_32 ra (by decide) (by decide) rfl (by decide) (law_5 K hL hi J kk)
      · exact y_tswIn K 312 dL_law_32 ra (by decide) (by decide) rfl (by decide) (law_6 K hL hi J kk)
      · exact y_tswIn K 335 dL_law_32 ra (by decide) (by decide) rfl (by decide) (law_7 K hL hi J kk)
      · exact y_tswIn K 368 dL_law_32 ra (by decide) (by decide) rfl (by decide) (law_8 K hL hi J kk)
      · exact y_tswIn K 411 dL_law_32 ra (by decide) (by decide) rfl (by decide) (law_9 K hL hi J kk)
      · exact y_tswIn K 454 dL_law_32 ra (by decide) (by decide) rfl (by decide) (law_10 K hL hi J kk)
      · exact y_tswIn K 487 dL_law_32 ra (by decide) (by decide) rfl (by decide) (law_11 K hL hi J kk)
      · exact y_tswIn K 530 dL_law_32 ra (by decide) (by decide) rfl (by decide) (law_12 K hL hi J kk)
      · exact y_tswIn K 573 dL_law_32 ra (by decide) (by decide) rfl (by decide) (law_13 K hL hi J kk)
      · exact y_tswIn K 616 dL_law_32 ra (by decide) (by decide) rfl (by decide) (law_14 K hL hi J kk)
      · exact y_tswIn K 659 dL_law_32 ra (by decide) (by decide) rfl (by decide) (law_15 K hL hi J kk)
      · exact y_tswIn K 692 dL_law_32 ra (by decide) (by decide) rfl (by decide) (law_16 K hL hi J kk)
      · exact y_tswIn K 725 dL_law_32 ra (by decide) (by decide) rfl (by decide) (law_17 K hL hi J kk)
      · exact y_tswIn K 758 dL_law_32 ra (by decide) (by decide) rfl (by decide) (law_18 K hL hi J kk)
      · exact y_tswIn K 791 dL_law_32 ra (by decide) (by decide) rfl (by decide) (law_19 K hL hi J kk)
      · exact y_tswIn K 824 dL_law_32 ra (by decide) (by decide) rfl (by decide) (law_20 K hL hi J kk)
      · exact y_tswIn K 857 dL_law_32 ra (by decide) (by decide) rfl (by decide) (law_21 K hL hi J kk)
      · exact y_tswIn K 911 dL_law_32 ra (by decide) (by decide) rfl (by decide) (law_22 K hL hi J kk)
      · exact y_tswIn K 955 dL_law_32 ra (by decide) (by decide) rfl (by decide) (law_23 K hL hi J kk)
      · exact y_tswIn K 988 dL_law_32 ra (by decide) (by decide) rfl (by decide) (law_24 K hL hi J kk)
      · exact y_tswIn K 1022 dL_law_32 ra (by decide) (by decide) rfl (by decide) (law_25 K hL hi J kk)
      · exact y_tswIn K 1046 dL_law_32 ra (by decide) (by decide) rfl (by decide) (law_26 K hL hi J kk)
      · exact y_tswIn K 1069 dL_law_32 ra (by decide) (by decide) rfl (by decide) (law_27 K hL hi J kk)
      · exact y_tswIn K 1092 dL_law_32 ra (by decide) (by decide) rfl (by decide) (law_28 K hL hi J kk)

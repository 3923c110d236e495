set_option maxRecDepth 100000 in
set_option maxHeartbeats 4000000 in
theorem c_L_measured {g : GG} {h : HH} {σ : SG} (W : WF σ) (C : RC (h 2) σ) (Zc : ZC (h 47) σ) (h0 : 0 < sP σ) : CnI mL_measured g [vr 0, vr 47, vr 49] h (fun z h' => z = 1 ∧ MF h h') := by
  refine cn_q (lv := [vr 0, vr 47, vr 49, vx, vx, vx, vx, vx, vx, vx, vx]) tL_measured.1 rfl rfl (fun hR Q hQ => ?_)
  have w1 := W.1
  have w2 := W.2.1
  have w3 := W.2.2.1
  refine z_iconst dL_measured_0 ?_
  refine z_istore_n dL_measured_1 (by decide) rfl ?_
  refine z_iconst dL_measured_2 ?_
  refine z_istore dL_measured_3 (by decide) rfl ?_
  have loop5 : ∀ (nL9 : Nat) (w : Nat), (w ≤ 3) → 3 - w < nL9 → Z mL_measured g 5 [vr 0, vr 47, vr 49, vi 1, vi (w : Int), vx, vx, vx, vx, vx, vx] [] h Q := by
    intro nL9
    induction nL9 with
    | zero => intro w hw hnL9; exact absurd hnL9 (Nat.not_lt_zero _)
    | succ nL9 ih5 =>
      intro w hw hnL9
      refine z_iload dL_measured_5 rfl ?_
      refine z_iconst dL_measured_7 ?_
      refine z_icmp_ge 134 dL_measured_8 (by decide) (by omega) (by omega) (fun c8 => ?_) (fun c8 => ?_)
      · refine z_iconst dL_measured_134 ?_
        refine z_istore dL_measured_135 (by decide) rfl ?_
        have loop137 : ∀ (nL9 : Nat) (k : Nat), (k ≤ sP σ * sF σ) → sP σ * sF σ - k < nL9 → Z mL_measured g 137 [vr 0, vr 47, vr 49, vi 1, vi (k : Int), vx, vx, vx, vx, vx, vx] [] h Q := by
          intro nL9
          induction nL9 with
          | zero => intro k hk hnL9; exact absurd hnL9 (Nat.not_lt_zero _)
          | succ nL9 ih137 =>
            intro k hk hnL9
            refine z_iload dL_measured_137 rfl ?_
            refine z_aload_n dL_measured_139 rfl ?_
            refine z_iconst dL_measured_140 ?_
            refine z_iaload dL_measured_141 (by decide) rfl (by omega) (by omega) (by first | decide | omega) (fun r141 => ?_)
            rw [show h 47 (Int.toNat 0) = sP σ from Zc.1]
            refine z_aload_n dL_measured_142 rfl ?_
            refine z_iconst dL_measured_143 ?_
            refine z_iaload dL_measured_144 (by decide) rfl (by omega) (by omega) (by first | decide | omega) (fun r144 => ?_)
            refine z_imul dL_measured_145 ?_
            rw [show h 47 (Int.toNat 2) = sF σ from Zc.2.2.1]
            rw [show (sP σ : Int) * (sF σ : Int) = ((sP σ * sF σ : Nat) : Int) by rw [Int.natCast_mul]]
            have pf : sP σ * sF σ ≤ 20 := Nat.mul_le_mul w1 w3
            refine z_icmp_ge 220 dL_measured_146 (by decide) (by omega) (by omega) (fun c146 => ?_) (fun c146 => ?_)
            · refine z_aload_n dL_measured_220 rfl ?_
              refine z_iconst dL_measured_221 ?_
              refine z_aload_n dL_measured_222 rfl ?_
              refine z_iconst dL_measured_223 ?_
              refine z_callS_eI (M := mL_measured) [_, _] tL_all kL_144 dL_measured_224 ⟨by decide, by decide⟩ rfl (Nat.le_of_ble_eq_true rfl) rfl (c_L_all1 W Zc) ?_
              refine z_aload_n dL_measured_227 rfl ?_
              refine z_callS_I (M := mL_measured) [_, _, _, _] tL_rankOf kL_147 dL_measured_228 ⟨by decide, by decide⟩ rfl (Nat.le_of_ble_eq_true rfl) rfl (c_L_rankOf W Zc h0) (fun z228 h228 q228 => ?_)
              obtain ⟨⟨r1, rfl, hr1, R1⟩, -⟩ := id q228
              refine z_istore dL_measured_231 (by decide) rfl ?_
              refine z_iconst dL_measured_233 ?_
              refine z_istore dL_measured_234 (by decide) rfl ?_
              have loop236 : ∀ (nL9 : Nat) (h1 : HH) (k : Nat), (k ≤ 5) → (MF h h1) → 5 - k < nL9 → Z mL_measured g 236 [vr 0, vr 47, vr 49, vi 1, vi (r1 : Int), vi (k : Int), vx, vx, vx, vx, vx] [] h1 Q := by
                intro nL9
                induction nL9 with
                | zero => intro h1 k hk M1 hnL9; exact absurd hnL9 (Nat.not_lt_zero _)
                | succ nL9 ih236 =>
                  intro h1 k hk M1 hnL9
                  refine z_iload dL_measured_236 rfl ?_
                  refine z_iconst dL_measured_238 ?_
                  refine z_icmp_ge 433 dL_measured_239 (by decide) (by omega) (by omega) (fun c239 => ?_) (fun c239 => ?_)
                  · have C1 := M1.rc C
                    refine z_iload_n dL_measured_433 rfl ?_
                    refine z_if_eq 496 dL_measured_434 (by decide) (by omega) (fun c434 => ?_) (fun c434 => ?_)
                    · omega
                    · refine z_aload_n dL_measured_437 rfl ?_
                      refine z_iconst dL_measured_438 ?_
                      refine z_iconst dL_measured_439 ?_
                      refine z_callV_eI (M := mL_measured) [_, _] tX5_rank kL_158 dL_measured_440 ⟨by decide, rfl, _, _, rfl⟩ ⟨by decide, by decide⟩ rfl (Nat.le_of_ble_eq_true rfl) rfl (c_X5_rankO W C1 (by decide) (by decide) h0 (by decide)) ?_
                      refine z_ldc (-1000001) dL_measured_443 qL_80 rfl ?_
                      refine z_icmp_ne 496 dL_measured_445 (by decide) (by decide) (by decide) (fun c445 => ?_) (fun c445 => ?_)
                      · exact absurd rfl c445
                      · refine z_aload_n dL_measured_448 rfl ?_
                        refine z_iconst dL_measured_449 ?_
                        refine z_iconst dL_measured_450 ?_
                        refine z_callV_eI (M := mL_measured) [_, _] tX5_rank kL_158 dL_measured_451 ⟨by decide, rfl, _, _, rfl⟩ ⟨by decide, by decide⟩ rfl (Nat.le_of_ble_eq_true rfl) rfl (c_X5_rankO W C1 (by decide) (by decide) h0 (by decide)) ?_
                        refine z_ldc (-1000001) dL_measured_454 qL_80 rfl ?_
                        refine z_icmp_ne 496 dL_measured_456 (by decide) (by decide) (by decide) (fun c456 => ?_) (fun c456 => ?_)
                        · exact absurd rfl c456
                        · refine z_aload_n dL_measured_459 rfl ?_
                          refine z_iconst dL_measured_460 ?_
                          refine z_iconst dL_measured_461 ?_
                          refine z_callV_eI (M := mL_measured) [_, _] tX5_rank kL_158 dL_measured_462 ⟨by decide, rfl, _, _, rfl⟩ ⟨by decide, by decide⟩ rfl (Nat.le_of_ble_eq_true rfl) rfl (c_X5_rankO W C1 (by decide) (by decide) h0 (by decide)) ?_
                          refine z_ldc (-1000001) dL_measured_465 qL_80 rfl ?_
                          refine z_icmp_ne 496 dL_measured_467 (by decide) (by decide) (by decide) (fun c467 => ?_) (fun c467 => ?_)
                          · exact absurd rfl c467
                          · refine z_aload_n dL_measured_470 rfl ?_
                            refine z_iconst dL_measured_471 ?_
                            refine z_iconst dL_measured_472 ?_
                            refine z_callV_eI (M := mL_measured) [_, _] tX5_holes kL_160 dL_measured_473 ⟨by decide, rfl, _, _, rfl⟩ ⟨by decide, by decide⟩ rfl (Nat.le_of_ble_eq_true rfl) rfl (c_X5_holesO W C1 (by decide) (by decide) h0 (by decide)) ?_
                            refine z_ldc (-1000001) dL_measured_476 qL_80 rfl ?_
                            refine z_icmp_ne 496 dL_measured_478 (by decide) (by decide) (by decide) (fun c478 => ?_) (fun c478 => ?_)
                            · exact absurd rfl c478
                            · refine z_aload_n dL_measured_481 rfl ?_
                              refine z_iconst dL_measured_482 ?_
                              refine z_iconst dL_measured_483 ?_
                              refine z_callV_eI (M := mL_measured) [_, _] tX5_holes kL_160 dL_measured_484 ⟨by decide, rfl, _, _, rfl⟩ ⟨by decide, by decide⟩ rfl (Nat.le_of_ble_eq_true rfl) rfl (c_X5_holesO W C1 (by decide) (by decide) h0 (by decide)) ?_
                              refine z_ldc (-1000001) dL_measured_487 qL_80 rfl ?_
                              refine z_icmp_ne 496 dL_measured_489 (by decide) (by decide) (by decide) (fun c489 => ?_) (fun c489 => ?_)
                              · exact absurd rfl c489
                              · refine z_iconst dL_measured_492 ?_
                                refine z_goto 497 dL_measured_493 (by decide) ?_
                                exact z_zreturn dL_measured_497 rfl (by first | exact Or.inl rfl | exact Or.inr rfl | exact bi_01 _ | omega) (hQ _ _ ⟨_, rfl, ⟨rfl, M1⟩⟩)
                  · refine z_iload_n dL_measured_242 rfl ?_
                    refine z_if_eq 433 dL_measured_243 (by decide) (by omega) (fun c243 => ?_) (fun c243 => ?_)
                    · omega
                    · have C1 := M1.rc C
                      have Z1 := M1.zc Zc
                      have hp := pr5_p (k := k) (by omega)
                      refine z_iload dL_measured_246 rfl ?_
                      refine z_callS_eI (M := mL_measured) [_] tL_prime kL_151 dL_measured_248 ⟨by decide, by decide⟩ rfl (Nat.le_of_ble_eq_true rfl) rfl (c_L_prime (k := k) (by omega)) ?_
                      refine z_istore dL_measured_251 (by decide) rfl ?_
                      refine z_iconst dL_measured_253 ?_
                      refine z_istore dL_measured_254 (by decide) rfl ?_
                      have k336 : ∀ (j s : Nat), s ≤ 6 → Rk (ent2 σ) (sE σ) (2 ^ sF σ - 1) (pr5 k) s → Z mL_measured g 336 [vr 0, vr 47, vr 49, vi 1, vi (r1 : Int), vi (k : Int), vi (pr5 k), vi (s : Int), vi (j : Int), vx, vx] [] h1 Q := by
                        intro j s hs6 K2
                        refine z_aload_n dL_measured_336 rfl ?_
                        refine z_iconst dL_measured_337 ?_
                        refine z_iload dL_measured_338 rfl ?_
                        refine z_callV_I (M := mL_measured) [_, _] tX5_rank kL_158 dL_measured_340 ⟨by decide, rfl, _, _, rfl⟩ ⟨by decide, by decide⟩ rfl (Nat.le_of_ble_eq_true rfl) rfl (c_X5_rank1 W C1 hp h0) (fun z340 h340 q340 => ?_)
                        have M340 : MF h h340 := M1.gf q340.1
                        have C340 := M340.rc C
                        have Z340 := M340.zc Zc
                        obtain ⟨-, k340, rfl, -, K340⟩ := q340
                        obtain rfl := rk_uniq K340 (R1 (pr5 k) (pr_small hp))
                        refine z_iload dL_measured_343 rfl ?_
                        refine z_icmp_ne 425 dL_measured_345 (by decide) (by omega) (by omega) (fun c345 => ?_) (fun c345 => ?_)
                        · exact absurd rfl c345
                        · refine z_aload_n dL_measured_348 rfl ?_
                          refine z_iconst dL_measured_349 ?_
                          refine z_iload dL_measured_350 rfl ?_
                          refine z_callV_I (M := mL_measured) [_, _] tX5_rank kL_158 dL_measured_352 ⟨by decide, rfl, _, _, rfl⟩ ⟨by decide, by decide⟩ rfl (Nat.le_of_ble_eq_true rfl) rfl (c_X5_rank2 W C340 hp h0) (fun z352 h352 q352 => ?_)
                          have M352 : MF h h352 := M340.gf q352.1
                          have C352 := M352.rc C
                          have Z352 := M352.zc Zc
                          obtain ⟨-, k352, rfl, -, K352⟩ := q352
                          obtain rfl := rk_uniq K352 K2
                          refine z_iload dL_measured_355 rfl ?_
                          refine z_icmp_ne 425 dL_measured_357 (by decide) (by omega) (by omega) (fun c357 => ?_) (fun c357 => ?_)
                          · exact absurd rfl c357
                          · refine z_aload_n dL_measured_360 rfl ?_
                            refine z_iconst dL_measured_361 ?_
                            refine z_iload dL_measured_362 rfl ?_
                            refine z_callV_I (M := mL_measured) [_, _] tX5_holes kL_160 dL_measured_364 ⟨by decide, rfl, _, _, rfl⟩ ⟨by decide, by decide⟩ rfl (Nat.le_of_ble_eq_true rfl) rfl (c_X5_holes0 W C352 hp h0) (fun z364 h364 q364 => ?_)
                            have M364 : MF h h364 := M352.gf q364.1
                            have C364 := M364.rc C
                            have Z364 := M364.zc Zc
                            obtain ⟨-, k364, rfl, K364⟩ := q364
                            obtain rfl := rk_uniq K364 (R1 (pr5 k) (pr_small hp))
                            refine z_aload_n dL_measured_367 rfl ?_
                            refine z_iconst dL_measured_368 ?_
                            refine z_iaload dL_measured_369 (by decide) rfl (by omega) (by omega) (by first | decide | omega) (fun r369 => ?_)
                            rw [show h364 47 (Int.toNat 0) = sP σ from Z364.1]
                            refine z_iload dL_measured_370 rfl ?_
                            refine z_isub dL_measured_372 ?_
                            refine z_icmp_ne 425 dL_measured_373 (by decide) (by omega) (by omega) (fun c373 => ?_) (fun c373 => ?_)
                            · omega
                            · refine z_aload_n dL_measured_376 rfl ?_
                              refine z_iconst dL_measured_377 ?_
                              refine z_iload dL_measured_378 rfl ?_
                              refine z_callV_I (M := mL_measured) [_, _] tX5_holes kL_160 dL_measured_380 ⟨by decide, rfl, _, _, rfl⟩ ⟨by decide, by decide⟩ rfl (Nat.le_of_ble_eq_true rfl) rfl (c_X5_holes1 W C364 hp h0) (fun z380 h380 q380 => ?_)
                              have M380 : MF h h380 := M364.gf q380.1
                              have C380 := M380.rc C
                              have Z380 := M380.zc Zc
                              obtain ⟨-, k380, l380, rfl, K380, L380⟩ := q380
                              obtain rfl := rk_uniq K380 (R1 (pr5 k) (pr_small hp))
                              obtain rfl := rk_uniq L380 K2
                              refine z_aload_n dL_measured_383 rfl ?_
                              refine z_iconst dL_measured_384 ?_
                              refine z_iaload dL_measured_385 (by decide) rfl (by omega) (by omega) (by first | decide | omega) (fun r385 => ?_)
                              rw [show h380 47 (Int.toNat 1) = sE σ from Z380.2.1]
                              refine z_iload dL_measured_386 rfl ?_
                              refine z_isub dL_measured_388 ?_
                              refine z_iload dL_measured_389 rfl ?_
                              refine z_isub dL_measured_391 ?_
                              refine z_icmp_ne 425 dL_measured_392 (by decide) (by omega) (by omega) (fun c392 => ?_) (fun c392 => ?_)
                              · omega
                              · refine z_aload_n dL_measured_395 rfl ?_
                                refine z_iconst dL_measured_396 ?_
                                refine z_iload dL_measured_397 rfl ?_
                                refine z_callV_I (M := mL_measured) [_, _] tX5_holes kL_160 dL_measured_399 ⟨by decide, rfl, _, _, rfl⟩ ⟨by decide, by decide⟩ rfl (Nat.le_of_ble_eq_true rfl) rfl (c_X5_holes2 W C380 hp h0) (fun z399 h399 q399 => ?_)
                                have M399 : MF h h399 := M380.gf q399.1
                                have C399 := M399.rc C
                                have Z399 := M399.zc Zc
                                obtain ⟨-, k399, rfl, K399⟩ := q399
                                obtain rfl := rk_uniq K399 K2
                                refine z_aload_n dL_measured_402 rfl ?_
                                refine z_iconst dL_measured_403 ?_
                                refine z_iaload dL_measured_404 (by decide) rfl (by omega) (by omega) (by first | decide | omega) (fun r404 => ?_)
                                rw [show h399 47 (Int.toNat 2) = sF σ from Z399.2.2.1]
                                refine z_iload dL_measured_405 rfl ?_
                                refine z_isub dL_measured_407 ?_
                                refine z_icmp_ne 425 dL_measured_408 (by decide) (by omega) (by omega) (fun c408 => ?_) (fun c408 => ?_)
                                · omega
                                · refine z_aload_n dL_measured_411 rfl ?_
                                  refine z_iconst dL_measured_412 ?_
                                  refine z_iload dL_measured_413 rfl ?_
                                  refine z_callV_I (M := mL_measured) [_, _] tX5_holes kL_160 dL_measured_415 ⟨by decide, rfl, _, _, rfl⟩ ⟨by decide, by decide⟩ rfl (Nat.le_of_ble_eq_true rfl) rfl (c_X5_holes0 W C399 hp h0) (fun z415 h415 q415 => ?_)
                                  have M415 : MF h h415 := M399.gf q415.1
                                  have C415 := M415.rc C
                                  have Z415 := M415.zc Zc
                                  obtain ⟨-, k415, rfl, K415⟩ := q415
                                  obtain rfl := rk_uniq K415 (R1 (pr5 k) (pr_small hp))
                                  refine z_if_le 425 dL_measured_418 (by decide) (by omega) (fun c418 => ?_) (fun c418 => ?_)
                                  · omega
                                  · refine z_iconst dL_measured_421 ?_
                                    refine z_goto 426 dL_measured_422 (by decide) ?_
                                    refine z_istore_n dL_measured_426 (by decide) rfl ?_
                                    refine z_iinc dL_measured_427 rfl (by decide) rfl ?_
                                    refine z_goto 236 dL_measured_430 (by decide) ?_
                                    refine z_forget 6 ?_
                                    refine z_forget 7 ?_
                                    refine z_forget 8 ?_
                                    refine z_forget 9 ?_
                                    rw [show (k : Int) + 1 = ((k + 1 : Nat) : Int) by omega]
                                    exact ih236 _ (k + 1) (by omega) M415 (by omega)
                      refine z_iconst dL_measured_256 ?_
                      refine z_istore dL_measured_257 (by decide) rfl ?_
                      have loop259 : ∀ (nL9 : Nat) (j s : Nat), (1 ≤ j) → (j ≤ 7) → (SE2 σ (pr5 k) j s) → 7 - j < nL9 → Z mL_measured g 259 [vr 0, vr 47, vr 49, vi 1, vi (r1 : Int), vi (k : Int), vi (pr5 k), vi (s : Int), vi (j : Int), vx, vx] [] h1 Q := by
                        intro nL9
                        induction nL9 with
                        | zero => intro j s hj hj2 S hnL9; exact absurd hnL9 (Nat.not_lt_zero _)
                        | succ nL9 ih259 =>
                          intro j s hj hj2 S hnL9
                          refine z_iload dL_measured_259 rfl ?_
                          refine z_aload_n dL_measured_261 rfl ?_
                          refine z_iconst dL_measured_262 ?_
                          refine z_iaload dL_measured_263 (by decide) rfl (by omega) (by omega) (by first | decide | omega) (fun r263 => ?_)
                          rw [show h1 47 (Int.toNat 2) = sF σ from Z1.2.2.1]
                          refine z_icmp_gt 336 dL_measured_264 (by decide) (by omega) (by omega) (fun c264 => ?_) (fun c264 => ?_)
                          · exact k336 j s (by have := S.2.1; omega) (S.rk W (by omega))
                          · refine z_iload dL_measured_267 rfl ?_
                            refine z_aload_n dL_measured_269 rfl ?_
                            refine z_iconst dL_measured_270 ?_
                            refine z_iaload dL_measured_271 (by decide) rfl (by omega) (by omega) (by first | decide | omega) (fun r271 => ?_)
                            rw [show h1 47 (Int.toNat 1) = sE σ from Z1.2.1]
                            refine z_icmp_gt 336 dL_measured_272 (by decide) (by omega) (by omega) (fun c272 => ?_) (fun c272 => ?_)
                            · exact k336 j s (by have := S.2.1; omega) (S.rk W (by omega))
                            · refine z_aload_n dL_measured_275 rfl ?_
                              refine z_aload_n dL_measured_276 rfl ?_
                              refine z_iconst dL_measured_277 ?_
                              refine z_callS_eI (M := mL_measured) [_, _] tL_all kL_144 dL_measured_278 ⟨by decide, by decide⟩ rfl (Nat.le_of_ble_eq_true rfl) rfl (c_L_all2 W Z1) ?_
                              refine z_iload dL_measured_281 rfl ?_
                              refine z_callS_pL (M := mL_measured) [_, _, _] tL_divisor kL_154 dL_measured_283 ⟨by decide, by decide⟩ rfl (Nat.le_of_ble_eq_true rfl) rfl (c_L_divisor W Z1 (k := j) (by omega)) (fun z283 q283 => ?_)
                              refine z_lstore dL_measured_286 (by decide) rfl ?_
                              have z283_r : R64 z283 := ⟨by have := q283.1; omega, by have := q283.2.1; omega⟩
                              refine z_iload dL_measured_288 rfl ?_
                              have pv : -1 ≤ pr5 (k : Int) ∧ pr5 (k : Int) ≤ 7 := by omega
                              have k328 : ∀ (s2 : Nat), SE2 σ (pr5 k) (j + 1) s2 → Z mL_measured g 328 [vr 0, vr 47, vr 49, vi 1, vi (r1 : Int), vi (k : Int), vi (pr5 k), vi (s : Int), vi (j : Int), vl z283, vx] [vi (s2 : Int)] h1 Q := by
                                intro s2 S2
                                refine z_istore dL_measured_328 (by decide) rfl ?_
                                refine z_iinc dL_measured_330 rfl (by decide) rfl ?_
                                refine z_goto 259 dL_measured_333 (by decide) ?_
                                refine z_forget 9 ?_
                                rw [show (j : Int) + 1 = ((j + 1 : Nat) : Int) by omega]
                                exact ih259 (j + 1) s2 (by omega) (by omega) S2 (by omega)
                              refine z_if_ne 310 dL_measured_290 (by decide) (by omega) (fun c290 => ?_) (fun c290 => ?_)
                              · refine z_lload dL_measured_310 rfl ?_
                                refine z_iload dL_measured_312 rfl ?_
                                refine z_i2l dL_measured_314 (by omega) ?_
                                refine z_lrem dL_measured_315 z283_r (by omega) (by omega) ?_
                                refine z_lconst (z := 0) dL_measured_316 rfl ?_
                                refine z_lcmp dL_measured_317 (tmod_r z283_r _) (by decide) ?_
                                refine z_if_eq 326 dL_measured_318 (by decide) (icmp_r _ _) (fun c318 => ?_) (fun c318 => ?_)
                                · have c318 := icmp_eq.mp c318
                                  refine z_iload dL_measured_326 rfl ?_
                                  exact k328 s (S.no q283 ((dv_tm (by omega)).mp c318))
                                · have c318 := icmp_ne.mp c318
                                  refine z_iload dL_measured_321 rfl ?_
                                  refine z_goto 328 dL_measured_323 (by decide) ?_
                                  exact k328 j (S.yes q283 (fun q => c318 ((dv_tm (by omega)).mpr q)))
                              · refine z_lload dL_measured_293 rfl ?_
                                refine z_lconst (z := 0) dL_measured_295 rfl ?_
                                refine z_lcmp dL_measured_296 z283_r (by decide) ?_
                                refine z_if_eq 305 dL_measured_297 (by decide) (icmp_r _ _) (fun c297 => ?_) (fun c297 => ?_)
                                · have c297 := icmp_eq.mp c297
                                  refine z_iload dL_measured_305 rfl ?_
                                  refine z_goto 328 dL_measured_307 (by decide) ?_
                                  exact k328 s (S.no q283 (by rw [c290]; exact dv_0.mp c297))
                                · have c297 := icmp_ne.mp c297
                                  refine z_iload dL_measured_300 rfl ?_
                                  refine z_goto 328 dL_measured_302 (by decide) ?_
                                  exact k328 j (S.yes q283 (fun q => c297 (dv_0.mpr (by rw [c290] at q; exact q))))
                      exact loop259 _ 1 0 (by omega) (by omega) (SE2.init σ _) (Nat.lt_succ_self _)
              exact loop236 _ h228 0 (by omega) (MF.refl.m q228.2) (Nat.lt_succ_self _)
            · refine z_iload_n dL_measured_149 rfl ?_
              refine z_if_eq 220 dL_measured_150 (by decide) (by omega) (fun c150 => ?_) (fun c150 => ?_)
              · omega
              · have kl : k < sP σ * sF σ := by omega
                have n0 : 0 < sF σ := Nat.pos_of_ne_zero (fun q => by rw [q] at kl; omega)
                have kd : k / sF σ < sP σ := Nat.div_lt_of_lt_mul (by rw [Nat.mul_comm]; exact kl)
                have km := Nat.mod_lt k n0
                refine z_iconst dL_measured_153 ?_
                refine z_istore dL_measured_154 (by decide) rfl ?_
                refine z_iconst dL_measured_156 ?_
                refine z_istore dL_measured_157 (by decide) rfl ?_
                have loop159 : ∀ (nL9 : Nat) (e : Nat), (e ≤ sE σ) → sE σ - e < nL9 → Z mL_measured g 159 [vr 0, vr 47, vr 49, vi 1, vi (k : Int), vi (sI e (dds σ (k / sF σ) (k % sF σ))), vi (e : Int), vx, vx, vx, vx] [] h Q := by
                  intro nL9
                  induction nL9 with
                  | zero => intro e he hnL9; exact absurd hnL9 (Nat.not_lt_zero _)
                  | succ nL9 ih159 =>
                    intro e he hnL9
                    refine z_iload dL_measured_159 rfl ?_
                    refine z_aload_n dL_measured_161 rfl ?_
                    refine z_iconst dL_measured_162 ?_
                    refine z_iaload dL_measured_163 (by decide) rfl (by omega) (by omega) (by first | decide | omega) (fun r163 => ?_)
                    rw [show h 47 (Int.toNat 1) = sE σ from Zc.2.1]
                    refine z_icmp_ge 203 dL_measured_164 (by decide) (by omega) (by omega) (fun c164 => ?_) (fun c164 => ?_)
                    · refine z_iload dL_measured_203 rfl ?_
                      rw [show e = sE σ by omega, dds_0 W km]
                      refine z_if_ne 212 dL_measured_205 (by decide) (by omega) (fun c205 => ?_) (fun c205 => ?_)
                      · omega
                      · refine z_iconst dL_measured_208 ?_
                        refine z_goto 213 dL_measured_209 (by decide) ?_
                        refine z_istore_n dL_measured_213 (by decide) rfl ?_
                        refine z_iinc dL_measured_214 rfl (by decide) rfl ?_
                        refine z_goto 137 dL_measured_217 (by decide) ?_
                        refine z_forget 5 ?_
                        refine z_forget 6 ?_
                        rw [show (k : Int) + 1 = ((k + 1 : Nat) : Int) by omega]
                        exact ih137 (k + 1) (by omega) (by omega)
                    · refine z_iload dL_measured_167 rfl ?_
                      refine z_aload_n dL_measured_169 rfl ?_
                      refine z_iload dL_measured_170 rfl ?_
                      refine z_aload_n dL_measured_172 rfl ?_
                      refine z_iconst dL_measured_173 ?_
                      refine z_iaload dL_measured_174 (by decide) rfl (by omega) (by omega) (by first | decide | omega) (fun r174 => ?_)
                      rw [show h 47 (Int.toNat 2) = sF σ from Zc.2.2.1]
                      refine z_idiv dL_measured_175 (by omega) (by omega) (by omega) ?_
                      rw [show (k : Int).tdiv (sF σ : Int) = ((k / sF σ : Nat) : Int) from rfl]
                      refine z_iload dL_measured_176 rfl ?_
                      refine z_callS_eI (M := mL_measured) [_, _, _] tL_one kL_9 dL_measured_178 ⟨by decide, by decide⟩ rfl (Nat.le_of_ble_eq_true rfl) rfl (c_L_one W Zc (p := k / sF σ) (e := e) (by omega) (by omega)) ?_
                      refine z_aload_n dL_measured_181 rfl ?_
                      refine z_iload dL_measured_182 rfl ?_
                      refine z_iload dL_measured_184 rfl ?_
                      refine z_aload_n dL_measured_186 rfl ?_
                      refine z_iconst dL_measured_187 ?_
                      refine z_iaload dL_measured_188 (by decide) rfl (by omega) (by omega) (by first | decide | omega) (fun r188 => ?_)
                      rw [show h 47 (Int.toNat 2) = sF σ from Zc.2.2.1]
                      refine z_irem dL_measured_189 (by omega) (by omega) (by omega) ?_
                      rw [show (k : Int).tmod (sF σ : Int) = ((k % sF σ : Nat) : Int) from rfl]
                      refine z_callS_eI (M := mL_measured) [_, _, _] tL_two kL_15 dL_measured_190 ⟨by decide, by decide⟩ rfl (Nat.le_of_ble_eq_true rfl) rfl (c_L_two W Zc (e := e) (f := k % sF σ) (by omega) km) ?_
                      refine z_imul dL_measured_193 ?_
                      refine z_iadd dL_measured_194 ?_
                      refine z_istore dL_measured_195 (by decide) rfl ?_
                      refine z_iinc dL_measured_197 rfl (by decide) rfl ?_
                      refine z_goto 159 dL_measured_200 (by decide) ?_
                      rw [show sI e (dds σ (k / sF σ) (k % sF σ)) + ent1 σ (k / sF σ) e * ent2 σ e (k % sF σ) = sI (e + 1) (dds σ (k / sF σ) (k % sF σ)) from rfl, show (e : Int) + 1 = ((e + 1 : Nat) : Int) by omega]
                      exact ih159 (e + 1) (by omega) (by omega)
                exact loop159 _ 0 (by omega) (Nat.lt_succ_self _)
        exact loop137 _ 0 (Nat.zero_le _) (Nat.lt_succ_self _)
      · refine z_iload dL_measured_11 rfl ?_
        refine z_if_ne 22 dL_measured_13 (by decide) (by omega) (fun c13 => ?_) (fun c13 => ?_)
        · refine z_aload_n dL_measured_22 rfl ?_
          refine z_iconst dL_measured_23 ?_
          refine z_iaload dL_measured_24 (by decide) rfl (by omega) (by omega) (by first | decide | omega) (fun r24 => ?_)
          first | rw [show h 47 (Int.toNat 1) = sE σ from Zc.2.1, show (sE σ : Int) = (nW σ w : Int) by unfold nW; rw [if_neg (by omega)]] | rw [show (sP σ : Int) = (nW σ w : Int) by unfold nW; rw [if_pos (by omega)]]
          have nw6 : nW σ w ≤ 6 := by unfold nW; split <;> omega
          have nn6 : nW σ w * nW σ w ≤ 36 := Nat.mul_le_mul nw6 nw6
          refine z_istore dL_measured_25 (by decide) rfl ?_
          refine z_iconst dL_measured_27 ?_
          refine z_istore dL_measured_28 (by decide) rfl ?_
          have loop30 : ∀ (nL9 : Nat) (k : Nat), (k ≤ nW σ w * nW σ w) → nW σ w * nW σ w - k < nL9 → Z mL_measured g 30 [vr 0, vr 47, vr 49, vi 1, vi (w : Int), vi (nW σ w : Int), vi (k : Int), vx, vx, vx, vx] [] h Q := by
            intro nL9
            induction nL9 with
            | zero => intro k hk hnL9; exact absurd hnL9 (Nat.not_lt_zero _)
            | succ nL9 ih30 =>
              intro k hk hnL9
              refine z_iload dL_measured_30 rfl ?_
              refine z_iload dL_measured_32 rfl ?_
              refine z_iload dL_measured_34 rfl ?_
              refine z_imul dL_measured_36 ?_
              rw [show (nW σ w : Int) * (nW σ w : Int) = ((nW σ w * nW σ w : Nat) : Int) by rw [Int.natCast_mul]]
              refine z_icmp_ge 91 dL_measured_37 (by decide) (by omega) (by omega) (fun c37 => ?_) (fun c37 => ?_)
              · refine z_iload_n dL_measured_91 rfl ?_
                refine z_if_eq 126 dL_measured_92 (by decide) (by omega) (fun c92 => ?_) (fun c92 => ?_)
                · omega
                · refine z_aload_n dL_measured_95 rfl ?_
                  refine z_iload dL_measured_96 rfl ?_
                  refine z_iload dL_measured_98 rfl ?_
                  refine z_iconst dL_measured_100 ?_
                  refine z_callV_eI (M := mL_measured) [_, _, _] tX5_near kL_139 dL_measured_101 ⟨by decide, rfl, _, _, rfl⟩ ⟨by decide, by decide⟩ rfl (Nat.le_of_ble_eq_true rfl) rfl (c_X5_nearWO W C (w := w) (by omega) (by omega) (by decide) (by omega)) ?_
                  refine z_ldc (-1000001) dL_measured_104 qL_80 rfl ?_
                  refine z_icmp_ne 126 dL_measured_106 (by decide) (by decide) (by decide) (fun c106 => ?_) (fun c106 => ?_)
                  · exact absurd rfl c106
                  · refine z_aload_n dL_measured_109 rfl ?_
                    refine z_iload dL_measured_110 rfl ?_
                    refine z_iconst dL_measured_112 ?_
                    refine z_iconst dL_measured_113 ?_
                    refine z_callV_eI (M := mL_measured) [_, _, _] tX5_near kL_139 dL_measured_114 ⟨by decide, rfl, _, _, rfl⟩ ⟨by decide, by decide⟩ rfl (Nat.le_of_ble_eq_true rfl) rfl (c_X5_nearWO W C (w := w) (by omega) (by decide) (by decide) (by omega)) ?_
                    refine z_ldc (-1000001) dL_measured_117 qL_80 rfl ?_
                    refine z_icmp_ne 126 dL_measured_119 (by decide) (by decide) (by decide) (fun c119 => ?_) (fun c119 => ?_)
                    · exact absurd rfl c119
                    · refine z_iconst dL_measured_122 ?_
                      refine z_goto 127 dL_measured_123 (by decide) ?_
                      refine z_istore_n dL_measured_127 (by decide) rfl ?_
                      refine z_iinc dL_measured_128 rfl (by decide) rfl ?_
                      refine z_goto 5 dL_measured_131 (by decide) ?_
                      refine z_forget 5 ?_
                      refine z_forget 6 ?_
                      rw [show (w : Int) + 1 = ((w + 1 : Nat) : Int) by omega]
                      exact ih5 (w + 1) (by omega) (by omega)
              · refine z_iload_n dL_measured_40 rfl ?_
                refine z_if_eq 91 dL_measured_41 (by decide) (by omega) (fun c41 => ?_) (fun c41 => ?_)
                · omega
                · have kl : k < nW σ w * nW σ w := by omega
                  have n0 : 0 < nW σ w := Nat.pos_of_ne_zero (fun q => by rw [q] at kl; omega)
                  have kd : k / nW σ w < nW σ w := Nat.div_lt_of_lt_mul kl
                  have km := Nat.mod_lt k n0
                  refine z_aload_n dL_measured_44 rfl ?_
                  refine z_iload dL_measured_45 rfl ?_
                  refine z_iload dL_measured_47 rfl ?_
                  refine z_iload dL_measured_49 rfl ?_
                  refine z_idiv dL_measured_51 (by omega) (by omega) (by omega) ?_
                  rw [show (k : Int).tdiv (nW σ w : Int) = ((k / nW σ w : Nat) : Int) from rfl]
                  refine z_iload dL_measured_52 rfl ?_
                  refine z_iload dL_measured_54 rfl ?_
                  refine z_irem dL_measured_56 (by omega) (by omega) (by omega) ?_
                  rw [show (k : Int).tmod (nW σ w : Int) = ((k % nW σ w : Nat) : Int) from rfl]
                  refine z_callV_eI (M := mL_measured) [_, _, _] tX5_near kL_139 dL_measured_57 ⟨by decide, rfl, _, _, rfl⟩ ⟨by decide, by decide⟩ rfl (Nat.le_of_ble_eq_true rfl) rfl (c_X5_nearW W C (w := w) (i := k / nW σ w) (j := k % nW σ w) (by omega) kd km) ?_
                  refine z_aload_n dL_measured_60 rfl ?_
                  refine z_iload dL_measured_61 rfl ?_
                  refine z_iload dL_measured_63 rfl ?_
                  refine z_iload dL_measured_65 rfl ?_
                  refine z_idiv dL_measured_67 (by omega) (by omega) (by omega) ?_
                  rw [show (k : Int).tdiv (nW σ w : Int) = ((k / nW σ w : Nat) : Int) from rfl]
                  refine z_iload dL_measured_68 rfl ?_
                  refine z_iload dL_measured_70 rfl ?_
                  refine z_irem dL_measured_72 (by omega) (by omega) (by omega) ?_
                  rw [show (k : Int).tmod (nW σ w : Int) = ((k % nW σ w : Nat) : Int) from rfl]
                  refine z_callS_eI (M := mL_measured) [_, _, _, _] tL_near kL_142 dL_measured_73 ⟨by decide, by decide⟩ rfl (Nat.le_of_ble_eq_true rfl) rfl (c_L_nearW W Zc (w := w) (i := k / nW σ w) (j := k % nW σ w) (by omega) kd km) ?_
                  refine z_icmp_ne 83 dL_measured_76 (by decide) (nearW_r W _ _ _) (nearW_r W _ _ _) (fun c76 => ?_) (fun c76 => ?_)
                  · exact absurd rfl c76
                  · refine z_iconst dL_measured_79 ?_
                    refine z_goto 84 dL_measured_80 (by decide) ?_
                    refine z_istore_n dL_measured_84 (by decide) rfl ?_
                    refine z_iinc dL_measured_85 rfl (by decide) rfl ?_
                    refine z_goto 30 dL_measured_88 (by decide) ?_
                    rw [show (k : Int) + 1 = ((k + 1 : Nat) : Int) by omega]
                    exact ih30 (k + 1) (by omega) (by omega)
          exact loop30 _ 0 (Nat.zero_le _) (Nat.lt_succ_self _)
        · refine z_aload_n dL_measured_16 rfl ?_
          refine z_iconst dL_measured_17 ?_
          refine z_iaload dL_measured_18 (by decide) rfl (by omega) (by omega) (by first | decide | omega) (fun r18 => ?_)
          rw [show h 47 (Int.toNat 0) = sP σ from Zc.1]
          refine z_goto 25 dL_measured_19 (by decide) ?_
          first | rw [show h 47 (Int.toNat 1) = sE σ from Zc.2.1, show (sE σ : Int) = (nW σ w : Int) by unfold nW; rw [if_neg (by omega)]] | rw [show (sP σ : Int) = (nW σ w : Int) by unfold nW; rw [if_pos (by omega)]]
          have nw6 : nW σ w ≤ 6 := by unfold nW; split <;> omega
          have nn6 : nW σ w * nW σ w ≤ 36 := Nat.mul_le_mul nw6 nw6
          refine z_istore dL_measured_25 (by decide) rfl ?_
          refine z_iconst dL_measured_27 ?_
          refine z_istore dL_measured_28 (by decide) rfl ?_
          have loop30 : ∀ (nL9 : Nat) (k : Nat), (k ≤ nW σ w * nW σ w) → nW σ w * nW σ w - k < nL9 → Z mL_measured g 30 [vr 0, vr 47, vr 49, vi 1, vi (w : Int), vi (nW σ w : Int), vi (k : Int), vx, vx, vx, vx] [] h Q := by
            intro nL9
            induction nL9 with
            | zero => intro k hk hnL9; exact absurd hnL9 (Nat.not_lt_zero _)
            | succ nL9 ih30 =>
              intro k hk hnL9
              refine z_iload dL_measured_30 rfl ?_
              refine z_iload dL_measured_32 rfl ?_
              refine z_iload dL_measured_34 rfl ?_
              refine z_imul dL_measured_36 ?_
              rw [show (nW σ w : Int) * (nW σ w : Int) = ((nW σ w * nW σ w : Nat) : Int) by rw [Int.natCast_mul]]
              refine z_icmp_ge 91 dL_measured_37 (by decide) (by omega) (by omega) (fun c37 => ?_) (fun c37 => ?_)
              · refine z_iload_n dL_measured_91 rfl ?_
                refine z_if_eq 126 dL_measured_92 (by decide) (by omega) (fun c92 => ?_) (fun c92 => ?_)
                · omega
                · refine z_aload_n dL_measured_95 rfl ?_
                  refine z_iload dL_measured_96 rfl ?_
                  refine z_iload dL_measured_98 rfl ?_
                  refine z_iconst dL_measured_100 ?_
                  refine z_callV_eI (M := mL_measured) [_, _, _] tX5_near kL_139 dL_measured_101 ⟨by decide, rfl, _, _, rfl⟩ ⟨by decide, by decide⟩ rfl (Nat.le_of_ble_eq_true rfl) rfl (c_X5_nearWO W C (w := w) (by omega) (by omega) (by decide) (by omega)) ?_
                  refine z_ldc (-1000001) dL_measured_104 qL_80 rfl ?_
                  refine z_icmp_ne 126 dL_measured_106 (by decide) (by decide) (by decide) (fun c106 => ?_) (fun c106 => ?_)
                  · exact absurd rfl c106
                  · refine z_aload_n dL_measured_109 rfl ?_
                    refine z_iload dL_measured_110 rfl ?_
                    refine z_iconst dL_measured_112 ?_
                    refine z_iconst dL_measured_113 ?_
                    refine z_callV_eI (M := mL_measured) [_, _, _] tX5_near kL_139 dL_measured_114 ⟨by decide, rfl, _, _, rfl⟩ ⟨by decide, by decide⟩ rfl (Nat.le_of_ble_eq_true rfl) rfl (c_X5_nearWO W C (w := w) (by omega) (by decide) (by decide) (by omega)) ?_
                    refine z_ldc (-1000001) dL_measured_117 qL_80 rfl ?_
                    refine z_icmp_ne 126 dL_measured_119 (by decide) (by decide) (by decide) (fun c119 => ?_) (fun c119 => ?_)
                    · exact absurd rfl c119
                    · refine z_iconst dL_measured_122 ?_
                      refine z_goto 127 dL_measured_123 (by decide) ?_
                      refine z_istore_n dL_measured_127 (by decide) rfl ?_
                      refine z_iinc dL_measured_128 rfl (by decide) rfl ?_
                      refine z_goto 5 dL_measured_131 (by decide) ?_
                      refine z_forget 5 ?_
                      refine z_forget 6 ?_
                      rw [show (w : Int) + 1 = ((w + 1 : Nat) : Int) by omega]
                      exact ih5 (w + 1) (by omega) (by omega)
              · refine z_iload_n dL_measured_40 rfl ?_
                refine z_if_eq 91 dL_measured_41 (by decide) (by omega) (fun c41 => ?_) (fun c41 => ?_)
                · omega
                · have kl : k < nW σ w * nW σ w := by omega
                  have n0 : 0 < nW σ w := Nat.pos_of_ne_zero (fun q => by rw [q] at kl; omega)
                  have kd : k / nW σ w < nW σ w := Nat.div_lt_of_lt_mul kl
                  have km := Nat.mod_lt k n0
                  refine z_aload_n dL_measured_44 rfl ?_
                  refine z_iload dL_measured_45 rfl ?_
                  refine z_iload dL_measured_47 rfl ?_
                  refine z_iload dL_measured_49 rfl ?_
                  refine z_idiv dL_measured_51 (by omega) (by omega) (by omega) ?_
                  rw [show (k : Int).tdiv (nW σ w : Int) = ((k / nW σ w : Nat) : Int) from rfl]
                  refine z_iload dL_measured_52 rfl ?_
                  refine z_iload dL_measured_54 rfl ?_
                  refine z_irem dL_measured_56 (by omega) (by omega) (by omega) ?_
                  rw [show (k : Int).tmod (nW σ w : Int) = ((k % nW σ w : Nat) : Int) from rfl]
                  refine z_callV_eI (M := mL_measured) [_, _, _] tX5_near kL_139 dL_measured_57 ⟨by decide, rfl, _, _, rfl⟩ ⟨by decide, by decide⟩ rfl (Nat.le_of_ble_eq_true rfl) rfl (c_X5_nearW W C (w := w) (i := k / nW σ w) (j := k % nW σ w) (by omega) kd km) ?_
                  refine z_aload_n dL_measured_60 rfl ?_
                  refine z_iload dL_measured_61 rfl ?_
                  refine z_iload dL_measured_63 rfl ?_
                  refine z_iload dL_measured_65 rfl ?_
                  refine z_idiv dL_measured_67 (by omega) (by omega) (by omega) ?_
                  rw [show (k : Int).tdiv (nW σ w : Int) = ((k / nW σ w : Nat) : Int) from rfl]
                  refine z_iload dL_measured_68 rfl ?_
                  refine z_iload dL_measured_70 rfl ?_
                  refine z_irem dL_measured_72 (by omega) (by omega) (by omega) ?_
                  rw [show (k : Int).tmod (nW σ w : Int) = ((k % nW σ w : Nat) : Int) from rfl]
                  refine z_callS_eI (M := mL_measured) [_, _, _, _] tL_near kL_142 dL_measured_73 ⟨by decide, by decide⟩ rfl (Nat.le_of_ble_eq_true rfl) rfl (c_L_nearW W Zc (w := w) (i := k / nW σ w) (j := k % nW σ w) (by omega) kd km) ?_
                  refine z_icmp_ne 83 dL_measured_76 (by decide) (nearW_r W _ _ _) (nearW_r W _ _ _) (fun c76 => ?_) (fun c76 => ?_)
                  · exact absurd rfl c76
                  · refine z_iconst dL_measured_79 ?_
                    refine z_goto 84 dL_measured_80 (by decide) ?_
                    refine z_istore_n dL_measured_84 (by decide) rfl ?_
                    refine z_iinc dL_measured_85 rfl (by decide) rfl ?_
                    refine z_goto 30 dL_measured_88 (by decide) ?_
                    rw [show (k : Int) + 1 = ((k + 1 : Nat) : Int) by omega]
                    exact ih30 (k + 1) (by omega) (by omega)
          exact loop30 _ 0 (Nat.zero_le _) (Nat.lt_succ_self _)
  exact loop5 _ 0 (by omega) (Nat.lt_succ_self _)

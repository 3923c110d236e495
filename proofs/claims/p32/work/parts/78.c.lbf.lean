set_option maxRecDepth 100000 in
set_option maxHeartbeats 4000000 in
theorem c_L_begins {g : GG} {h : HH} (h51 : h 5 1 = 0) (hB : TB h) : CnV mL_begins g [vr 0, vr 50, vr 47, vr 48] h (fun h' => ∃ σ l, BG h h' σ l ∧ pAll (tkT h') l.length = ((l.length, 0), σ)) := by
  refine cn_q (lv := [vr 0, vr 50, vr 47, vr 48, vx, vx, vx, vx, vx]) tL_begins.1 rfl rfl (fun hR Q hQ => ?_)
  refine z_aload_n dL_begins_0 rfl ?_
  refine z_iconst dL_begins_1 ?_
  refine z_callS_pI (M := mL_begins) [_, _] tL_cell kL_63 dL_begins_2 ⟨by decide, by decide⟩ rfl (Nat.le_of_ble_eq_true rfl) rfl (c_L_cell (by decide)) (fun z2 q2 => ?_)
  refine z_istore dL_begins_5 (by decide) rfl ?_
  refine z_iconst dL_begins_7 ?_
  refine z_istore dL_begins_8 (by decide) rfl ?_
  have loop10 : ∀ (nL9 : Nat) (h1 : HH) (k : Nat), (k ≤ 52) → (∀ j, j < k → h1 47 j = 0) → (∀ a, a ≠ 47 → h1 a = h a) → 52 - k < nL9 → Z mL_begins g 10 [vr 0, vr 50, vr 47, vr 48, vi z2, vi (k : Int), vx, vx, vx] [] h1 Q := by
    intro nL9
    induction nL9 with
    | zero => intro h1 k hk zz F1 hnL9; exact absurd hnL9 (Nat.not_lt_zero _)
    | succ nL9 ih10 =>
      intro h1 k hk zz F1 hnL9
      refine z_iload dL_begins_10 rfl ?_
      refine z_bipush dL_begins_12 (by decide) ?_
      refine z_icmp_ge 28 dL_begins_14 (by decide) (by omega) (by omega) (fun c14 => ?_) (fun c14 => ?_)
      · rw [show k = 52 by omega] at zz
        refine z_iconst dL_begins_28 ?_
        refine z_istore dL_begins_29 (by decide) rfl ?_
        have loop31 : ∀ (nL9 : Nat) (h2 : HH) (k : Nat), (k ≤ 18) → (∀ j, j < 52 → h2 47 j = 0) → (∀ j, j < k → h2 48 j = 0) → (∀ a, a ≠ 47 → a ≠ 48 → h2 a = h a) → 18 - k < nL9 → Z mL_begins g 31 [vr 0, vr 50, vr 47, vr 48, vi z2, vi (k : Int), vx, vx, vx] [] h2 Q := by
          intro nL9
          induction nL9 with
          | zero => intro h2 k hk2 z2z c2z F2 hnL9; exact absurd hnL9 (Nat.not_lt_zero _)
          | succ nL9 ih31 =>
            intro h2 k hk2 z2z c2z F2 hnL9
            refine z_iload dL_begins_31 rfl ?_
            refine z_bipush dL_begins_33 (by decide) ?_
            refine z_icmp_ge 49 dL_begins_35 (by decide) (by omega) (by omega) (fun c35 => ?_) (fun c35 => ?_)
            · rw [show k = 18 by omega] at c2z
              refine z_aload_n dL_begins_49 rfl ?_
              refine z_iconst dL_begins_50 ?_
              refine z_iconst dL_begins_51 ?_
              refine z_iload dL_begins_52 rfl ?_
              refine z_iconst dL_begins_54 ?_
              refine z_callS_pI (M := mL_begins) [_, _] tL_less kL_46 dL_begins_55 ⟨by decide, by decide⟩ rfl (Nat.le_of_ble_eq_true rfl) rfl (c_L_less (by first | decide | omega)) (fun z55 q55 => ?_)
              obtain ⟨P0, rfl⟩ := Int.eq_ofNat_of_zero_le q55.1
              have hP0 : P0 < 5 := by have := q55.2; omega
              refine z_iadd dL_begins_58 ?_
              rw [show 1 + (P0 : Int) = ((1 + P0 : Nat) : Int) by omega]
              refine z_iastore dL_begins_59 (by decide) rfl (by omega) (by omega) (by first | decide | omega) (by omega) ?_
              generalize e0 : up h2 47 (Int.toNat 0) ((1 + P0 : Nat) : Int) = h3
              have B0 := BG.start (P := 1 + P0) (by omega) z2z c2z F2 e0 h51 hB
              refine z_aload_n dL_begins_60 rfl ?_
              refine z_bipush dL_begins_61 (by decide) ?_
              refine z_callV_I (M := mL_begins) [_] tX5_feed kL_58 dL_begins_63 ⟨by decide, rfl, _, _, rfl⟩ ⟨by decide, by decide⟩ rfl (Nat.le_of_ble_eq_true rfl) rfl (c_feed B0.2.2.2.2.2.2.2.1 (by decide) (by decide)) (fun z63 h63 q63 => ?_)
              have B63 := B0.fed q63.1 q63.2
              refine z_pop dL_begins_66 rfl ?_
              refine z_aload_n dL_begins_67 rfl ?_
              refine z_bipush dL_begins_68 (by decide) ?_
              refine z_aload_n dL_begins_70 rfl ?_
              refine z_iconst dL_begins_71 ?_
              refine z_iaload dL_begins_72 (by decide) rfl (by omega) (by omega) (by first | decide | omega) (fun r72 => ?_)
              rw [show h63 47 (Int.toNat 0) = ((1 + P0 : Nat) : Int) from B63.2.2.1.1]
              refine z_iadd dL_begins_73 ?_
              refine z_callV_I (M := mL_begins) [_] tX5_feed kL_58 dL_begins_74 ⟨by decide, rfl, _, _, rfl⟩ ⟨by decide, by decide⟩ rfl (Nat.le_of_ble_eq_true rfl) rfl (c_feed B63.2.2.2.2.2.2.2.1 (by omega) (by simp)) (fun z74 h74 q74 => ?_)
              have B74 := B63.fed q74.1 q74.2
              refine z_pop dL_begins_77 rfl ?_
              refine z_aload_n dL_begins_78 rfl ?_
              refine z_bipush dL_begins_79 (by decide) ?_
              refine z_callV_I (M := mL_begins) [_] tX5_feed kL_58 dL_begins_81 ⟨by decide, rfl, _, _, rfl⟩ ⟨by decide, by decide⟩ rfl (Nat.le_of_ble_eq_true rfl) rfl (c_feed B74.2.2.2.2.2.2.2.1 (by decide) (by simp)) (fun z81 h81 q81 => ?_)
              have B81 := B74.fed q81.1 q81.2
              refine z_pop dL_begins_84 rfl ?_
              refine z_iload dL_begins_85 rfl ?_
              refine z_iconst dL_begins_87 ?_
              refine z_ishr dL_begins_88 ?_
              refine z_bipush dL_begins_89 (by decide) ?_
              refine z_callS_pI (M := mL_begins) [_, _] tL_less kL_46 dL_begins_91 ⟨by decide, by decide⟩ rfl (Nat.le_of_ble_eq_true rfl) rfl (c_L_less (by first | decide | omega)) (fun z91 q91 => ?_)
              obtain ⟨e0, rfl⟩ := Int.eq_ofNat_of_zero_le q91.1
              have he0 : e0 < 7 := by have := q91.2; omega
              refine z_istore dL_begins_94 (by decide) rfl ?_
              have loop96 : ∀ (nL9 : Nat) (h1 : HH) (e : Nat) (σ : SG) (l : List Int), (sE σ + e ≤ 6) → (sF σ = 0) → (BG h h1 σ l) → (PE l σ) → (l.length = 3 + 5 * sE σ) → e < nL9 → Z mL_begins g 96 [vr 0, vr 50, vr 47, vr 48, vi z2, vi (e : Int), vx, vx, vx] [] h1 Q := by
                intro nL9
                induction nL9 with
                | zero => intro h1 e σ l he6 hf0 B E hl hnL9; exact absurd hnL9 (Nat.not_lt_zero _)
                | succ nL9 ih96 =>
                  intro h1 e σ l he6 hf0 B E hl hnL9
                  refine z_iload dL_begins_96 rfl ?_
                  refine z_if_le 220 dL_begins_98 (by decide) (by omega) (fun c98 => ?_) (fun c98 => ?_)
                  · have W := B.1
                    have w2 := W.2.1
                    refine z_aload_n dL_begins_220 rfl ?_
                    refine z_iconst dL_begins_221 ?_
                    refine z_iaload dL_begins_222 (by decide) rfl (by omega) (by omega) (by first | decide | omega) (fun r222 => ?_)
                    rw [show h1 47 (Int.toNat 1) = sE σ from B.2.2.1.2.1]
                    have k239 : ∀ f : Nat, f ≤ 4 → (0 < f → 0 < sE σ) → Z mL_begins g 239 [vr 0, vr 50, vr 47, vr 48, vi z2, vi (e : Int), vx, vx, vx] [vi (f : Int)] h1 Q := by
                      intro f hf4 hfe
                      refine z_istore dL_begins_239 (by decide) rfl ?_
                      have loop241 : ∀ (nL9 : Nat) (h2 : HH) (f : Nat) (τ : SG) (l2 : List Int), (sF τ + f ≤ 4) → (0 < f → 0 < sE τ) → (BG h h2 τ l2) → (PC l2 τ) → (l2.length ≤ 33 + 7 * sF τ) → f < nL9 → Z mL_begins g 241 [vr 0, vr 50, vr 47, vr 48, vi z2, vi (f : Int), vx, vx, vx] [] h2 Q := by
                        intro nL9
                        induction nL9 with
                        | zero => intro h2 f τ l2 hf4 hfe B2 C2 hl2 hnL9; exact absurd hnL9 (Nat.not_lt_zero _)
                        | succ nL9 ih241 =>
                          intro h2 f τ l2 hf4 hfe B2 C2 hl2 hnL9
                          refine z_iload dL_begins_241 rfl ?_
                          refine z_if_le 345 dL_begins_243 (by decide) (by omega) (fun c243 => ?_) (fun c243 => ?_)
                          · exact z_return dL_begins_345 rfl (hQ _ _ ⟨rfl, ⟨τ, l2, B2, by rw [B2.2.2.2.2.2.2.2.1.tk]; exact C2.end⟩⟩)
                          · have W := B2.1
                            have w2 := W.2.1
                            have Zc := B2.2.2.1
                            have hF4 : sF τ < 4 := by omega
                            refine z_aload_n dL_begins_246 rfl ?_
                            refine z_bipush dL_begins_247 (by decide) ?_
                            refine z_iload dL_begins_249 rfl ?_
                            refine z_iadd dL_begins_251 ?_
                            refine z_callS_pI (M := mL_begins) [_, _] tL_cell kL_63 dL_begins_252 ⟨by decide, by decide⟩ rfl (Nat.le_of_ble_eq_true rfl) rfl (c_L_cell (by omega)) (fun z252 q252 => ?_)
                            refine z_istore dL_begins_255 (by decide) rfl ?_
                            refine z_bipush dL_begins_257 (by decide) ?_
                            refine z_bipush dL_begins_259 (by decide) ?_
                            refine z_aload_n dL_begins_261 rfl ?_
                            refine z_iconst dL_begins_262 ?_
                            refine z_iaload dL_begins_263 (by decide) rfl (by omega) (by omega) (by first | decide | omega) (fun r263 => ?_)
                            rw [show h2 47 (Int.toNat 2) = sF τ from Zc.2.2.1]
                            refine z_imul dL_begins_264 ?_
                            refine z_iadd dL_begins_265 ?_
                            refine z_istore dL_begins_266 (by decide) rfl ?_
                            refine z_aload_n dL_begins_268 rfl ?_
                            refine z_iload dL_begins_269 rfl ?_
                            refine z_iconst dL_begins_271 ?_
                            refine z_iload dL_begins_272 rfl ?_
                            refine z_bipush dL_begins_274 (by decide) ?_
                            refine z_ishr dL_begins_276 ?_
                            refine z_iconst dL_begins_277 ?_
                            refine z_callS_pI (M := mL_begins) [_, _] tL_less kL_46 dL_begins_278 ⟨by decide, by decide⟩ rfl (Nat.le_of_ble_eq_true rfl) rfl (c_L_less (by first | decide | omega)) (fun z278 q278 => ?_)
                            obtain ⟨w0, rfl⟩ := Int.eq_ofNat_of_zero_le q278.1
                            have hw0 : w0 < 3 := by have := q278.2; omega
                            refine z_iadd dL_begins_281 ?_
                            rw [show 1 + (w0 : Int) = ((1 + w0 : Nat) : Int) by omega]
                            refine z_iastore dL_begins_282 (by decide) rfl (by omega) (by omega) (by first | decide | omega) (by omega) ?_
                            rw [show (22 + 6 * (sF τ : Int)).toNat = 22 + 6 * sF τ by omega]
                            generalize e1 : up h2 47 (22 + 6 * sF τ) ((1 + w0 : Nat) : Int) = h3
                            obtain ⟨u1, n1⟩ := up_e e1
                            have Z1 : ZC (h3 47) τ := zc_lo W Zc (fun j hj => by rw [u1]; exact if_neg (by omega))
                            have zb1 : ZB (h3 47) := by rw [u1]; exact ZB_up B2.2.2.2.1 (by omega)
                            have f1v : h3 47 (Int.toNat 2) = sF τ := Z1.2.2.1
                            refine z_aload_n dL_begins_283 rfl ?_
                            refine z_iload dL_begins_284 rfl ?_
                            refine z_iconst dL_begins_286 ?_
                            refine z_iadd dL_begins_287 ?_
                            refine z_aload_n dL_begins_288 rfl ?_
                            refine z_aload_n dL_begins_289 rfl ?_
                            refine z_iconst dL_begins_290 ?_
                            refine z_iaload dL_begins_291 (by decide) rfl (by omega) (by omega) (by first | decide | omega) (fun r291 => ?_)
                            rw [f1v]
                            refine z_iload dL_begins_292 rfl ?_
                            refine z_callS_I (M := mL_begins) [_, _, _] tL_word kL_66 dL_begins_294 ⟨by decide, by decide⟩ rfl (Nat.le_of_ble_eq_true rfl) rfl (c_L_word W Z1 zb1 hF4 (hfe (by omega))) (fun z294 h294 q294 => ?_)
                            obtain ⟨n, le0, sg0, rfl, ⟨V0, cl0, e23, L0⟩, K1⟩ := q294
                            have n4 : n ≤ 4 := V0.1
                            refine z_iastore dL_begins_297 (by decide) rfl (by omega) (by omega) (by first | decide | omega) (by omega) ?_
                            rw [show (22 + 6 * (sF τ : Int) + 1).toNat = 23 + 6 * sF τ by omega, up_id e23]
                            have T3 : TL h294 l2 := TL.n47 (TL.n47 B2.2.2.2.2.2.2.2.1 n1) K1.1
                            refine z_aload_n dL_begins_298 rfl ?_
                            refine z_bipush dL_begins_299 (by decide) ?_
                            refine z_callV_I (M := mL_begins) [_] tX5_feed kL_58 dL_begins_301 ⟨by decide, rfl, _, _, rfl⟩ ⟨by decide, by decide⟩ rfl (Nat.le_of_ble_eq_true rfl) rfl (c_feed T3 (by decide) (by omega)) (fun z301 h301 q301 => ?_)
                            refine z_pop dL_begins_304 rfl ?_
                            refine z_aload_n dL_begins_305 rfl ?_
                            refine z_bipush dL_begins_306 (by decide) ?_
                            refine z_aload_n dL_begins_308 rfl ?_
                            refine z_iload dL_begins_309 rfl ?_
                            refine z_iaload dL_begins_311 (by decide) rfl (by omega) (by omega) (by first | decide | omega) (fun r311 => ?_)
                            rw [show h301 47 (22 + 6 * (sF τ : Int)).toNat = ((1 + w0 : Nat) : Int) from (ix (i := 22 + 6 * sF τ) (by omega)).trans ((congrFun (q301.2 47 (by decide) (by decide)) _).trans ((K1.2.1 _ (by omega)).trans (by rw [u1]; exact if_pos rfl)))]
                            refine z_iadd dL_begins_312 ?_
                            refine z_callV_I (M := mL_begins) [_] tX5_feed kL_58 dL_begins_313 ⟨by decide, rfl, _, _, rfl⟩ ⟨by decide, by decide⟩ rfl (Nat.le_of_ble_eq_true rfl) rfl (c_feed q301.1 (by omega) (by simp; omega)) (fun z313 h313 q313 => ?_)
                            refine z_pop dL_begins_316 rfl ?_
                            have D2 := q301.2.trans q313.2
                            have d47 := D2 47 (by decide) (by decide)
                            have f3v : h313 47 (Int.toNat 2) = sF τ := (congrFun d47 _).trans ((K1.2.1 2 (by omega)).trans f1v)
                            refine z_aload_n dL_begins_317 rfl ?_
                            refine z_aload_n dL_begins_318 rfl ?_
                            refine z_aload_n dL_begins_319 rfl ?_
                            refine z_iconst dL_begins_320 ?_
                            refine z_iaload dL_begins_321 (by decide) rfl (by omega) (by omega) (by first | decide | omega) (fun r321 => ?_)
                            rw [f3v]
                            refine z_callS_V (M := mL_begins) [_, _, _] tL_spells kL_69 dL_begins_322 ⟨by decide, by decide⟩ rfl (Nat.le_of_ble_eq_true rfl) rfl (c_L_spells (f := sF τ) (n := n) (le := le0) (sg := sg0) q313.1 hF4 n4 (by simp; omega) (by rw [d47]; exact e23) (by rw [d47]; exact L0) (fun k hk => by have := V0.2.1 k hk; have := W.2.1; omega)) (fun h322 q322 => ?_)
                            refine z_aload_n dL_begins_325 rfl ?_
                            refine z_bipush dL_begins_326 (by decide) ?_
                            refine z_callV_I (M := mL_begins) [_] tX5_feed kL_58 dL_begins_328 ⟨by decide, rfl, _, _, rfl⟩ ⟨by decide, by decide⟩ rfl (Nat.le_of_ble_eq_true rfl) rfl (c_feed q322.1 (by decide) (by simp [wls_len]; omega)) (fun z328 h328 q328 => ?_)
                            refine z_pop dL_begins_331 rfl ?_
                            have D4 := (D2.trans q322.2).trans q328.2
                            refine z_aload_n dL_begins_332 rfl ?_
                            refine z_iconst dL_begins_333 ?_
                            refine z_dup2 dL_begins_334 rfl rfl ?_
                            refine z_iaload dL_begins_335 (by decide) rfl (by omega) (by omega) (by first | decide | omega) (fun r335 => ?_)
                            rw [show h328 47 (Int.toNat 2) = sF τ from (congrFun (D4 47 (by decide) (by decide)) _).trans ((K1.2.1 2 (by omega)).trans f1v)]
                            refine z_iconst dL_begins_336 ?_
                            refine z_iadd dL_begins_337 ?_
                            refine z_iastore dL_begins_338 (by decide) rfl (by omega) (by omega) (by first | decide | omega) (by omega) ?_
                            generalize e6 : up h328 47 (Int.toNat 2) ((sF τ : Int) + 1) = h6
                            have B6 := B2.face hF4 (by omega) V0 cl0 e1 K1 e23 L0 D4 q328.1 e6
                            refine z_iinc dL_begins_339 rfl (by decide) rfl ?_
                            refine z_goto 241 dL_begins_342 (by decide) ?_
                            refine z_forget 6 ?_
                            refine z_forget 7 ?_
                            rw [show (f : Int) + -1 = ((f - 1 : Nat) : Int) by omega]
                            exact ih241 h6 (f - 1) (addF τ (1 + w0) n (cl le0 n) (cs sg0 n)) _ (by show sF τ + 1 + (f - 1) ≤ 4; omega) (fun _ => hfe (by omega)) B6 (C2.face (W.2.1) hF4 (by omega) V0 cl0) (by rw [List.length_append, List.length_append, List.length_append, List.length_append, wls_len]; show l2.length + 1 + 1 + n + 1 ≤ 33 + 7 * (sF τ + 1); omega) (by omega)
                      exact loop241 _ h1 f σ l (by omega) hfe B (E.pc hf0) (by have := B.1.2.1; omega) (Nat.lt_succ_self _)
                    refine z_if_ne 230 dL_begins_223 (by decide) (by omega) (fun c223 => ?_) (fun c223 => ?_)
                    · refine z_iload dL_begins_230 rfl ?_
                      refine z_bipush dL_begins_232 (by decide) ?_
                      refine z_ishr dL_begins_234 ?_
                      refine z_iconst dL_begins_235 ?_
                      refine z_callS_pI (M := mL_begins) [_, _] tL_less kL_46 dL_begins_236 ⟨by decide, by decide⟩ rfl (Nat.le_of_ble_eq_true rfl) rfl (c_L_less (by first | decide | omega)) (fun z236 q236 => ?_)
                      obtain ⟨f0, rfl⟩ := Int.eq_ofNat_of_zero_le q236.1
                      have hf0 : f0 < 5 := by have := q236.2; omega
                      exact k239 f0 (by omega) (fun _ => by omega)
                    · refine z_iconst dL_begins_226 ?_
                      refine z_goto 239 dL_begins_227 (by decide) ?_
                      exact k239 0 (by decide) (fun q => absurd q (Nat.lt_irrefl 0))
                  · have W := B.1
                    have w1 := W.1
                    have w2 := W.2.1
                    have h0 := B.2.1
                    have Zc := B.2.2.1
                    refine z_aload_n dL_begins_101 rfl ?_
                    refine z_iload dL_begins_102 rfl ?_
                    refine z_callS_pI (M := mL_begins) [_, _] tL_cell kL_63 dL_begins_104 ⟨by decide, by decide⟩ rfl (Nat.le_of_ble_eq_true rfl) rfl (c_L_cell (by omega)) (fun z104 q104 => ?_)
                    refine z_istore dL_begins_107 (by decide) rfl ?_
                    refine z_iconst dL_begins_109 ?_
                    refine z_iconst dL_begins_110 ?_
                    refine z_aload_n dL_begins_111 rfl ?_
                    refine z_iconst dL_begins_112 ?_
                    refine z_iaload dL_begins_113 (by decide) rfl (by omega) (by omega) (by first | decide | omega) (fun r113 => ?_)
                    rw [show h1 47 (Int.toNat 1) = sE σ from Zc.2.1]
                    refine z_imul dL_begins_114 ?_
                    refine z_iadd dL_begins_115 ?_
                    refine z_istore dL_begins_116 (by decide) rfl ?_
                    refine z_aload_n dL_begins_118 rfl ?_
                    refine z_iload dL_begins_119 rfl ?_
                    refine z_iload dL_begins_121 rfl ?_
                    refine z_aload_n dL_begins_123 rfl ?_
                    refine z_iconst dL_begins_124 ?_
                    refine z_iaload dL_begins_125 (by decide) rfl (by omega) (by omega) (by first | decide | omega) (fun r125 => ?_)
                    rw [show h1 47 (Int.toNat 0) = sP σ from Zc.1]
                    refine z_callS_pI (M := mL_begins) [_, _] tL_less kL_46 dL_begins_126 ⟨by decide, by decide⟩ rfl (Nat.le_of_ble_eq_true rfl) rfl (c_L_less (by first | decide | omega)) (fun z126 q126 => ?_)
                    obtain ⟨a, rfl⟩ := Int.eq_ofNat_of_zero_le q126.1
                    have ha : a < sP σ := by have := q126.2; omega
                    refine z_iastore dL_begins_129 (by decide) rfl (by omega) (by omega) (by first | decide | omega) (by omega) ?_
                    rw [show (4 + 3 * (sE σ : Int)).toNat = 4 + 3 * sE σ by omega]
                    generalize e2 : up h1 47 (4 + 3 * sE σ) (a : Int) = h2
                    obtain ⟨u2, n2⟩ := up_e e2
                    refine z_aload_n dL_begins_130 rfl ?_
                    refine z_iload dL_begins_131 rfl ?_
                    refine z_iconst dL_begins_133 ?_
                    refine z_iadd dL_begins_134 ?_
                    refine z_iload dL_begins_135 rfl ?_
                    refine z_iconst dL_begins_137 ?_
                    refine z_ishr dL_begins_138 ?_
                    refine z_aload_n dL_begins_139 rfl ?_
                    refine z_iconst dL_begins_140 ?_
                    refine z_iaload dL_begins_141 (by decide) rfl (by omega) (by omega) (by first | decide | omega) (fun r141 => ?_)
                    rw [show h2 47 (Int.toNat 0) = sP σ by rw [u2]; show (if 0 = 4 + 3 * sE σ then (a : Int) else h1 47 0) = _; rw [if_neg (by omega)]; exact Zc.1]
                    refine z_callS_pI (M := mL_begins) [_, _] tL_less kL_46 dL_begins_142 ⟨by decide, by decide⟩ rfl (Nat.le_of_ble_eq_true rfl) rfl (c_L_less (by first | decide | omega)) (fun z142 q142 => ?_)
                    obtain ⟨b, rfl⟩ := Int.eq_ofNat_of_zero_le q142.1
                    have hb : b < sP σ := by have := q142.2; omega
                    refine z_iastore dL_begins_145 (by decide) rfl (by omega) (by omega) (by first | decide | omega) (by omega) ?_
                    rw [show (4 + 3 * (sE σ : Int) + 1).toNat = 5 + 3 * sE σ by omega]
                    generalize e3 : up h2 47 (5 + 3 * sE σ) (b : Int) = h3
                    obtain ⟨u3, n3⟩ := up_e e3
                    refine z_aload_n dL_begins_146 rfl ?_
                    refine z_iload dL_begins_147 rfl ?_
                    refine z_iconst dL_begins_149 ?_
                    refine z_iadd dL_begins_150 ?_
                    refine z_iconst dL_begins_151 ?_
                    refine z_iload dL_begins_152 rfl ?_
                    refine z_bipush dL_begins_154 (by decide) ?_
                    refine z_ishr dL_begins_156 ?_
                    refine z_iconst dL_begins_157 ?_
                    refine z_callS_pI (M := mL_begins) [_, _] tL_less kL_46 dL_begins_158 ⟨by decide, by decide⟩ rfl (Nat.le_of_ble_eq_true rfl) rfl (c_L_less (by first | decide | omega)) (fun z158 q158 => ?_)
                    obtain ⟨w0, rfl⟩ := Int.eq_ofNat_of_zero_le q158.1
                    have hw0 : w0 < 3 := by have := q158.2; omega
                    refine z_iadd dL_begins_161 ?_
                    rw [show 1 + (w0 : Int) = ((1 + w0 : Nat) : Int) by omega]
                    refine z_iastore dL_begins_162 (by decide) rfl (by omega) (by omega) (by first | decide | omega) (by omega) ?_
                    rw [show (4 + 3 * (sE σ : Int) + 2).toNat = 6 + 3 * sE σ by omega]
                    generalize e4 : up h3 47 (6 + 3 * sE σ) ((1 + w0 : Nat) : Int) = h4
                    obtain ⟨u4, n4⟩ := up_e e4
                    refine z_aload_n dL_begins_163 rfl ?_
                    refine z_iconst dL_begins_164 ?_
                    refine z_dup2 dL_begins_165 rfl rfl ?_
                    refine z_iaload dL_begins_166 (by decide) rfl (by omega) (by omega) (by first | decide | omega) (fun r166 => ?_)
                    rw [show h4 47 (Int.toNat 1) = sE σ by rw [u4, u3, u2]; show (if 1 = 6 + 3 * sE σ then ((1 + w0 : Nat) : Int) else if 1 = 5 + 3 * sE σ then (b : Int) else if 1 = 4 + 3 * sE σ then (a : Int) else h1 47 1) = _; rw [if_neg (by omega), if_neg (by omega), if_neg (by omega)]; exact Zc.2.1]
                    refine z_iconst dL_begins_167 ?_
                    refine z_iadd dL_begins_168 ?_
                    refine z_iastore dL_begins_169 (by decide) rfl (by omega) (by omega) (by first | decide | omega) (by omega) ?_
                    generalize e5 : up h4 47 (Int.toNat 1) ((sE σ : Int) + 1) = h5
                    obtain ⟨u5, n5⟩ := up_e e5
                    have u9 : ∀ j, h5 47 j = if j = 1 then (sE σ : Int) + 1 else if j = 6 + 3 * sE σ then ((1 + w0 : Nat) : Int) else if j = 5 + 3 * sE σ then (b : Int) else if j = 4 + 3 * sE σ then (a : Int) else h1 47 j := fun j => by rw [u5, u4, u3, u2]; rfl
                    have B5 := B.edge (by omega) ha hb (by omega) (fun k hk => by rw [n5 k hk, n4 k hk, n3 k hk, n2 k hk]) u9
                    refine z_aload_n dL_begins_170 rfl ?_
                    refine z_bipush dL_begins_171 (by decide) ?_
                    refine z_callV_I (M := mL_begins) [_] tX5_feed kL_58 dL_begins_173 ⟨by decide, rfl, _, _, rfl⟩ ⟨by decide, by decide⟩ rfl (Nat.le_of_ble_eq_true rfl) rfl (c_feed B5.2.2.2.2.2.2.2.1 (by decide) (by omega)) (fun z173 h173 q173 => ?_)
                    have B173 := B5.fed q173.1 q173.2
                    refine z_pop dL_begins_176 rfl ?_
                    refine z_iconst dL_begins_177 ?_
                    refine z_istore dL_begins_178 (by decide) rfl ?_
                    refine z_iload dL_begins_180 rfl ?_
                    refine z_iconst dL_begins_182 ?_
                    refine z_icmp_ge 207 dL_begins_183 (by decide) (by omega) (by omega) (fun c183 => ?_) (fun c183 => ?_)
                    · omega
                    · refine z_aload_n dL_begins_186 rfl ?_
                      refine z_bipush dL_begins_187 (by decide) ?_
                      refine z_aload_n dL_begins_189 rfl ?_
                      refine z_iload dL_begins_190 rfl ?_
                      refine z_iload dL_begins_192 rfl ?_
                      refine z_iadd dL_begins_194 ?_
                      refine z_iaload dL_begins_195 (by decide) rfl (by omega) (by omega) (by first | decide | omega) (fun r195 => ?_)
                      rw [show h173 47 (4 + 3 * (sE σ : Int) + 0).toNat = (a : Int) from (ix (i := 4 + 3 * sE σ) (by omega)).trans ((congrFun (q173.2 47 (by decide) (by decide)) _).trans (by rw [u9, if_neg (by omega), if_neg (by omega), if_neg (by omega), if_pos rfl]))]
                      have d1 := q173.2
                      refine z_iadd dL_begins_196 ?_
                      refine z_callV_I (M := mL_begins) [_] tX5_feed kL_58 dL_begins_197 ⟨by decide, rfl, _, _, rfl⟩ ⟨by decide, by decide⟩ rfl (Nat.le_of_ble_eq_true rfl) rfl (c_feed B173.2.2.2.2.2.2.2.1 (by omega) (by simp; omega)) (fun z197 h197 q197 => ?_)
                      have B197 := B173.fed q197.1 q197.2
                      refine z_pop dL_begins_200 rfl ?_
                      refine z_iinc dL_begins_201 rfl (by decide) rfl ?_
                      refine z_goto 180 dL_begins_204 (by decide) ?_
                      refine z_iload dL_begins_180 rfl ?_
                      refine z_iconst dL_begins_182 ?_
                      refine z_icmp_ge 207 dL_begins_183 (by decide) (by omega) (by omega) (fun c183 => ?_) (fun c183 => ?_)
                      · omega
                      · refine z_aload_n dL_begins_186 rfl ?_
                        refine z_bipush dL_begins_187 (by decide) ?_
                        refine z_aload_n dL_begins_189 rfl ?_
                        refine z_iload dL_begins_190 rfl ?_
                        refine z_iload dL_begins_192 rfl ?_
                        refine z_iadd dL_begins_194 ?_
                        refine z_iaload dL_begins_195 (by decide) rfl (by omega) (by omega) (by first | decide | omega) (fun r195 => ?_)
                        have d2 := d1.trans q197.2
                        rw [show h197 47 (4 + 3 * (sE σ : Int) + (0 + 1)).toNat = (b : Int) from (ix (i := 5 + 3 * sE σ) (by omega)).trans ((congrFun (d2 47 (by decide) (by decide)) _).trans (by rw [u9, if_neg (by omega), if_neg (by omega), if_pos rfl]))]
                        refine z_iadd dL_begins_196 ?_
                        refine z_callV_I (M := mL_begins) [_] tX5_feed kL_58 dL_begins_197 ⟨by decide, rfl, _, _, rfl⟩ ⟨by decide, by decide⟩ rfl (Nat.le_of_ble_eq_true rfl) rfl (c_feed B197.2.2.2.2.2.2.2.1 (by omega) (by simp; omega)) (fun z197 h197 q197 => ?_)
                        have B197 := B197.fed q197.1 q197.2
                        refine z_pop dL_begins_200 rfl ?_
                        refine z_iinc dL_begins_201 rfl (by decide) rfl ?_
                        refine z_goto 180 dL_begins_204 (by decide) ?_
                        refine z_iload dL_begins_180 rfl ?_
                        refine z_iconst dL_begins_182 ?_
                        refine z_icmp_ge 207 dL_begins_183 (by decide) (by omega) (by omega) (fun c183 => ?_) (fun c183 => ?_)
                        · omega
                        · refine z_aload_n dL_begins_186 rfl ?_
                          refine z_bipush dL_begins_187 (by decide) ?_
                          refine z_aload_n dL_begins_189 rfl ?_
                          refine z_iload dL_begins_190 rfl ?_
                          refine z_iload dL_begins_192 rfl ?_
                          refine z_iadd dL_begins_194 ?_
                          refine z_iaload dL_begins_195 (by decide) rfl (by omega) (by omega) (by first | decide | omega) (fun r195 => ?_)
                          have d3 := d2.trans q197.2
                          rw [show h197 47 (4 + 3 * (sE σ : Int) + (0 + 1 + 1)).toNat = ((1 + w0 : Nat) : Int) from (ix (i := 6 + 3 * sE σ) (by omega)).trans ((congrFun (d3 47 (by decide) (by decide)) _).trans (by rw [u9, if_neg (by omega), if_pos rfl]))]
                          refine z_iadd dL_begins_196 ?_
                          refine z_callV_I (M := mL_begins) [_] tX5_feed kL_58 dL_begins_197 ⟨by decide, rfl, _, _, rfl⟩ ⟨by decide, by decide⟩ rfl (Nat.le_of_ble_eq_true rfl) rfl (c_feed B197.2.2.2.2.2.2.2.1 (by omega) (by simp; omega)) (fun z197 h197 q197 => ?_)
                          have B197 := B197.fed q197.1 q197.2
                          refine z_pop dL_begins_200 rfl ?_
                          refine z_iinc dL_begins_201 rfl (by decide) rfl ?_
                          refine z_goto 180 dL_begins_204 (by decide) ?_
                          refine z_iload dL_begins_180 rfl ?_
                          refine z_iconst dL_begins_182 ?_
                          refine z_icmp_ge 207 dL_begins_183 (by decide) (by omega) (by omega) (fun c183 => ?_) (fun c183 => ?_)
                          · refine z_aload_n dL_begins_207 rfl ?_
                            refine z_bipush dL_begins_208 (by decide) ?_
                            refine z_callV_I (M := mL_begins) [_] tX5_feed kL_58 dL_begins_210 ⟨by decide, rfl, _, _, rfl⟩ ⟨by decide, by decide⟩ rfl (Nat.le_of_ble_eq_true rfl) rfl (c_feed B197.2.2.2.2.2.2.2.1 (by decide) (by simp; omega)) (fun z210 h210 q210 => ?_)
                            have B210 := B197.fed q210.1 q210.2
                            refine z_pop dL_begins_213 rfl ?_
                            refine z_iinc dL_begins_214 rfl (by decide) rfl ?_
                            refine z_goto 96 dL_begins_217 (by decide) ?_
                            refine z_forget 6 ?_
                            refine z_forget 7 ?_
                            refine z_forget 8 ?_
                            rw [show (e : Int) + -1 = ((e - 1 : Nat) : Int) by omega]
                            exact ih96 _ (e - 1) (addE σ a b (1 + w0)) _ (by show sE σ + 1 + (e - 1) ≤ 6; omega) hf0 B210 (E.edge (W.1) (by omega) ha hb (by omega)) (by rw [len5]; show l.length + 5 = 3 + 5 * (sE σ + 1); omega) (by omega)
                          · omega
              exact loop96 _ h81 e0 (sg0 (1 + P0)) _ (by show 0 + e0 ≤ 6; omega) rfl B81 (PE.init (by omega)) rfl (Nat.lt_succ_self _)
            · refine z_aload_n dL_begins_38 rfl ?_
              refine z_iload dL_begins_39 rfl ?_
              refine z_iconst dL_begins_41 ?_
              refine z_iastore dL_begins_42 (by decide) rfl (by omega) (by omega) (by first | decide | omega) (by omega) ?_
              refine z_iinc dL_begins_43 rfl (by decide) rfl ?_
              refine z_goto 31 dL_begins_46 (by decide) ?_
              rw [show (k : Int) + 1 = ((k + 1 : Nat) : Int) by omega]
              exact ih31 _ (k + 1) (by omega) (by rw [up_ne _ _ _ (by decide)]; exact z2z) (fun j hj => by
                rw [up_at]
                show (if j = (k : Int).toNat then (0 : Int) else h2 48 j) = 0
                split
                · rfl
                · exact c2z j (by omega)) (fun a h1 h2 => by rw [up_ne _ _ _ h2]; exact F2 a h1 h2) (by omega)
        exact loop31 _ h1 0 (by omega) (fun j hj => zz j (by omega)) (fun j hj => absurd hj (Nat.not_lt_zero j)) (fun a ha _ => F1 a ha) (Nat.lt_succ_self _)
      · refine z_aload_n dL_begins_17 rfl ?_
        refine z_iload dL_begins_18 rfl ?_
        refine z_iconst dL_begins_20 ?_
        refine z_iastore dL_begins_21 (by decide) rfl (by omega) (by omega) (by first | decide | omega) (by omega) ?_
        refine z_iinc dL_begins_22 rfl (by decide) rfl ?_
        refine z_goto 10 dL_begins_25 (by decide) ?_
        rw [show (k : Int) + 1 = ((k + 1 : Nat) : Int) by omega]
        exact ih10 _ (k + 1) (by omega) (fun j hj => by
          rw [up_at]
          show (if j = (k : Int).toNat then (0 : Int) else h1 47 j) = 0
          split
          · rfl
          · exact zz j (by omega)) (fun a ha => by rw [up_ne _ _ _ ha]; exact F1 a ha) (by omega)
  exact loop10 _ h 0 (by omega) (fun j hj => absurd hj (Nat.not_lt_zero j)) (fun _ _ => rfl) (Nat.lt_succ_self _)

set_option maxRecDepth 100000 in
set_option maxHeartbeats 4000000 in
theorem c_X1_fillMinors {g : GG} {h : HH} {R C : Nat} (hRr : h 9 2 = (R : Int)) (hR6 : R ≤ 6) (hC : h 9 3 = (C : Int)) (h6 : C ≤ 6) (hb : ∀ r c, r < 2 ^ R → c < 2 ^ C → pc6 r = pc6 c → -9223372036854775808 < mnr (GA h) (pc6 r) r c ∧ mnr (GA h) (pc6 r) r c < 9223372036854775808) : CnV mX1_fillMinors g [vr 9] h (fun h' => ∃ f, h' = setc h 17 f ∧ MT f (GA h) R C) := by
  refine cn_q (lv := [vr 9, vx, vx, vx, vx]) tX1_fillMinors.1 rfl rfl (fun hR Q hQ => ?_)
  have b1 := b_shl hR6
  have b2 := b_shl h6
  have b3 := b_pos R
  have b4 := b_pos C
  refine z_aload_n dX1_fillMinors_0 rfl ?_
  refine z_getR fX1_14 dX1_fillMinors_1 (by decide) rfl rfl ?_
  refine z_iconst dX1_fillMinors_4 ?_
  refine z_lconst (z := 1) dX1_fillMinors_5 rfl ?_
  refine z_lastore dX1_fillMinors_6 (by decide) rfl (by omega) (by omega) (by first | decide | omega) (by omega) ?_
  rw [up_n (z := 0) (i := 0) rfl]
  refine z_iconst dX1_fillMinors_7 ?_
  refine z_istore_n dX1_fillMinors_8 (by decide) rfl ?_
  have loop9 : ∀ (nL9 : Nat) (r : Nat) (f : Nat → Int), (1 ≤ r ∧ r ≤ 2 ^ R) → (∀ r' c, r' < r → c < 2 ^ C → pc6 r' = pc6 c → f (r' * 64 + c) = mnr (GA h) (pc6 r') r' c) → 2 ^ R - r < nL9 → Z mX1_fillMinors g 9 [vr 9, vi (r : Int), vx, vx, vx] [] (setc h 17 f) Q := by
    intro nL9
    induction nL9 with
    | zero => intro r f hr hF hnL9; exact absurd hnL9 (Nat.not_lt_zero _)
    | succ nL9 ih9 =>
      intro r f hr hF hnL9
      refine z_iload_n dX1_fillMinors_9 rfl ?_
      refine z_iconst dX1_fillMinors_10 ?_
      refine z_aload_n dX1_fillMinors_11 rfl ?_
      refine z_getI fX1_18 dX1_fillMinors_12 (by decide) rfl rfl (fun r12 => ?_)
      rw [show (setc h 17 f) 9 2 = (R : Int) from by rw [setc_ne _ _ (by decide)]; exact hRr]
      refine z_ishl dX1_fillMinors_15 ?_
      rw [b1.1]
      refine z_icmp_ge 90 dX1_fillMinors_16 (by decide) (by omega) (by omega) (fun c16 => ?_) (fun c16 => ?_)
      · exact z_return dX1_fillMinors_90 rfl (hQ _ _ ⟨rfl, ⟨f, rfl, fun r' c h1 h2 h3 => hF r' c (by omega) h2 h3⟩⟩)
      · have p1 := pc6_r (c := r) (by omega)
        refine z_iload_n dX1_fillMinors_19 rfl ?_
        refine z_callS_eI (M := mX1_fillMinors) [_] tJ6_bitCount_0f7a4 kX1_53 dX1_fillMinors_20 ⟨by decide, by decide⟩ rfl (Nat.le_of_ble_eq_true rfl) rfl (c_bc (by omega)) ?_
        refine z_istore_n dX1_fillMinors_23 (by decide) rfl ?_
        refine z_iconst dX1_fillMinors_24 ?_
        refine z_istore_n dX1_fillMinors_25 (by decide) rfl ?_
        have loop26 : ∀ (nL9 : Nat) (c : Nat) (f : Nat → Int), (1 ≤ c ∧ c ≤ 2 ^ C) → (∀ r' c, r' < r → c < 2 ^ C → pc6 r' = pc6 c → f (r' * 64 + c) = mnr (GA h) (pc6 r') r' c) → (∀ c', c' < c → pc6 r = pc6 c' → f (r * 64 + c') = mnr (GA h) (pc6 r) r c') → 2 ^ C - c < nL9 → Z mX1_fillMinors g 26 [vr 9, vi (r : Int), vi (pc6 r : Int), vi (c : Int), vx] [] (setc h 17 f) Q := by
          intro nL9
          induction nL9 with
          | zero => intro c f hc hF hG hnL9; exact absurd hnL9 (Nat.not_lt_zero _)
          | succ nL9 ih26 =>
            intro c f hc hF hG hnL9
            refine z_iload_n dX1_fillMinors_26 rfl ?_
            refine z_iconst dX1_fillMinors_27 ?_
            refine z_aload_n dX1_fillMinors_28 rfl ?_
            refine z_getI fX1_22 dX1_fillMinors_29 (by decide) rfl rfl (fun r29 => ?_)
            rw [show (setc h 17 f) 9 3 = (C : Int) from by rw [setc_ne _ _ (by decide)]; exact hC]
            refine z_ishl dX1_fillMinors_32 ?_
            rw [b2.1]
            refine z_icmp_ge 84 dX1_fillMinors_33 (by decide) (by omega) (by omega) (fun c33 => ?_) (fun c33 => ?_)
            · refine z_iinc dX1_fillMinors_84 rfl (by decide) rfl ?_
              refine z_goto 9 dX1_fillMinors_87 (by decide) ?_
              refine z_forget 2 ?_
              refine z_forget 3 ?_
              exact ih9 (r + 1) f (by omega) (fun r' c' h1 h2 h3 => by
                rcases (show r' < r ∨ r' = r by omega) with q | q
                · exact hF r' c' q h2 h3
                · subst q; exact hG c' (by omega) h3) (by omega)
            · refine z_iload_n dX1_fillMinors_36 rfl ?_
              refine z_bipush dX1_fillMinors_37 (by decide) ?_
              refine z_imul dX1_fillMinors_39 ?_
              refine z_iload_n dX1_fillMinors_40 rfl ?_
              refine z_iadd dX1_fillMinors_41 ?_
              refine z_istore dX1_fillMinors_42 (by decide) rfl ?_
              have p2 := pc6_r (c := c) (by omega)
              refine z_iload_n dX1_fillMinors_44 rfl ?_
              refine z_callS_eI (M := mX1_fillMinors) [_] tJ6_bitCount_0f7a4 kX1_53 dX1_fillMinors_45 ⟨by decide, by decide⟩ rfl (Nat.le_of_ble_eq_true rfl) rfl (c_bc (by omega)) ?_
              refine z_iload_n dX1_fillMinors_48 rfl ?_
              refine z_icmp_ne 78 dX1_fillMinors_49 (by decide) (by omega) (by omega) (fun c49 => ?_) (fun c49 => ?_)
              · refine z_iinc dX1_fillMinors_78 rfl (by decide) rfl ?_
                refine z_goto 26 dX1_fillMinors_81 (by decide) ?_
                refine z_forget 4 ?_
                exact ih26 (c + 1) f (by omega) hF (fun c' h1 h2 => by
                  rcases (show c' < c ∨ c' = c by omega) with q | q
                  · exact hG c' q h2
                  · subst q; omega) (by omega)
              · refine z_iload dX1_fillMinors_52 rfl ?_
                refine z_aload_n dX1_fillMinors_54 rfl ?_
                refine z_getR fX1_14 dX1_fillMinors_55 (by decide) rfl rfl ?_
                refine z_alen2 dX1_fillMinors_58 (by decide) rfl ?_
                refine z_callN_eI (M := mX1_fillMinors) [_, _] tX5_isWithin (by decide) dX1_fillMinors_59 ⟨by decide, by decide⟩ rfl (Nat.le_of_ble_eq_true rfl) rfl (c_X5_isWithin (by omega) (by decide)) ?_
                refine z_if_eq 78 dX1_fillMinors_62 (by decide) (bi_r _) (fun c62 => ?_) (fun c62 => ?_)
                · have c62 := bi_eq.mp c62
                  exact absurd ⟨by omega, by omega⟩ c62
                · have c62 := bi_ne.mp c62
                  refine z_aload_n dX1_fillMinors_65 rfl ?_
                  refine z_getR fX1_14 dX1_fillMinors_66 (by decide) rfl rfl ?_
                  refine z_iload dX1_fillMinors_69 rfl ?_
                  refine z_aload_n dX1_fillMinors_71 rfl ?_
                  refine z_iload_n dX1_fillMinors_72 rfl ?_
                  refine z_iload_n dX1_fillMinors_73 rfl ?_
                  refine z_callV_eL (M := mX1_fillMinors) [_, _] tX1_expandedMinor kX1_58 dX1_fillMinors_74 ⟨by decide, rfl, _, _, rfl⟩ ⟨by decide, by decide⟩ rfl (Nat.le_of_ble_eq_true rfl) rfl (c_X1_expandedMinor (h := setc h 17 f) (by rw [setc_ne _ _ (by decide)]; exact hC) h6 (k := pc6 r - 1) (r := r) (c := c) (by omega) (by omega) (by omega) (fun j hj hm => by rw [setc_at, mnr_set]; exact mt_step hR6 h6 (by omega) (by omega) (by omega) (by omega) hF j hj hm)) ?_
                  rw [show pc6 r - 1 + 1 = pc6 r by omega, mnr_set]
                  have hbv := hb r c (by omega) (by omega) (by omega)
                  refine z_lastore dX1_fillMinors_77 (by decide) rfl (by omega) (by omega) (by first | decide | omega) (by omega) ?_
                  refine z_iinc dX1_fillMinors_78 rfl (by decide) rfl ?_
                  refine z_goto 26 dX1_fillMinors_81 (by decide) ?_
                  rw [up_s (i := r * 64 + c) (by omega)]
                  refine z_forget 4 ?_
                  exact ih26 (c + 1) _ (by omega) (fun r' c' h1 h2 h3 => by rw [upn_ne (by omega)]; exact hF r' c' h1 h2 h3) (fun c' h1 h2 => by
                    rcases (show c' < c ∨ c' = c by omega) with q | q
                    · rw [upn_ne (by omega)]; exact hG c' q h2
                    · subst q; exact upn_eq rfl) (by omega)
        exact loop26 _ 1 f (by omega) hF (fun c' h1 h2 => by
          have : c' = 0 := by omega
          subst this
          have := p1.2.mp h2
          omega) (Nat.lt_succ_self _)
  exact loop9 _ 1 (upn (h 17) 0 1) (by omega) (fun r' c h1 h2 h3 => by
    have : r' = 0 := by omega
    subst this
    have := (pc6_r (c := c) (by omega)).2.mp h3.symm
    subst this
    exact upn_eq rfl) (Nat.lt_succ_self _)

set_option maxRecDepth 100000 in
set_option maxHeartbeats 4000000 in
theorem c_X1_divisorOfMinors {g : GG} {h : HH} {R C : Nat} (hRr : h 9 2 = (R : Int)) (hR6 : R ≤ 6) (h6 : C ≤ 6) {A : Nat → Nat → Int} (mt : MT (h 17) A R C) (hb : ∀ r c, r < 2 ^ R → c < 2 ^ C → pc6 r = pc6 c → -9223372036854775808 < mnr A (pc6 r) r c ∧ mnr A (pc6 r) r c < 9223372036854775808) {a : Nat} (ha : a < 2 ^ C) {k : Nat} (hk : (k : Int) < 2147483648) : CpL mX1_divisorOfMinors g [vr 9, vi (k : Int), vi (a : Int)] h (fun z => ∃ d : Nat, z = d ∧ d < 2 ^ 63 ∧ Dv A R a k d) := by
  refine cn_q (lv := [vr 9, vi (k : Int), vi (a : Int), vx, vx, vx, vx]) tX1_divisorOfMinors.1 rfl rfl (fun hR Q hQ => ?_)
  have b1 := b_shl hR6
  have b2 := b_shl h6
  have b3 := b_pos R
  have b4 := b_pos C
  refine z_lconst (z := 0) dX1_divisorOfMinors_0 rfl ?_
  refine z_lstore_n dX1_divisorOfMinors_1 (by decide) rfl ?_
  refine z_iconst dX1_divisorOfMinors_2 ?_
  refine z_istore dX1_divisorOfMinors_3 (by decide) rfl ?_
  have loop5 : ∀ (nL9 : Nat) (r : Nat) (d : Nat), (r ≤ 2 ^ R) → (d < 2 ^ 63) → (∀ r' c', r' < r → c' &&& a = c' → pc6 r' = k → pc6 c' = k → (d : Int) ∣ mnr A k r' c') → (∀ x : Nat, (∀ r c, r < 2 ^ R → c &&& a = c → pc6 r = k → pc6 c = k → (x : Int) ∣ mnr A k r c) → x ∣ d) → 2 ^ R - r < nL9 → Z mX1_divisorOfMinors g 5 [vr 9, vi (k : Int), vi (a : Int), vl (d : Int), vx, vi (r : Int), vx] [] h Q := by
    intro nL9
    induction nL9 with
    | zero => intro r d hr hd hU hW hnL9; exact absurd hnL9 (Nat.not_lt_zero _)
    | succ nL9 ih5 =>
      intro r d hr hd hU hW hnL9
      refine z_iload dX1_divisorOfMinors_5 rfl ?_
      refine z_iconst dX1_divisorOfMinors_7 ?_
      refine z_aload_n dX1_divisorOfMinors_8 rfl ?_
      refine z_getI fX1_18 dX1_divisorOfMinors_9 (by decide) rfl rfl (fun r9 => ?_)
      rw [hRr]
      refine z_ishl dX1_divisorOfMinors_12 ?_
      rw [b1.1]
      refine z_icmp_ge 86 dX1_divisorOfMinors_13 (by decide) (by omega) (by omega) (fun c13 => ?_) (fun c13 => ?_)
      · refine z_lload_n dX1_divisorOfMinors_86 rfl ?_
        exact z_lreturn dX1_divisorOfMinors_87 rfl (hQ _ _ ⟨_, rfl, ⟨d, rfl, hd, fun r' c h1 h2 h3 h4 => hU r' c (by omega) h2 h3 h4, hW⟩, rfl⟩)
      · have p1 := pc6_r (c := r) (by omega)
        refine z_iload dX1_divisorOfMinors_16 rfl ?_
        refine z_callS_eI (M := mX1_divisorOfMinors) [_] tJ6_bitCount_0f7a4 kX1_53 dX1_divisorOfMinors_18 ⟨by decide, by decide⟩ rfl (Nat.le_of_ble_eq_true rfl) rfl (c_bc (by omega)) ?_
        refine z_iload_n dX1_divisorOfMinors_21 rfl ?_
        refine z_icmp_eq 28 dX1_divisorOfMinors_22 (by decide) (by omega) (by omega) (fun c22 => ?_) (fun c22 => ?_)
        · refine z_iconst dX1_divisorOfMinors_28 ?_
          refine z_istore dX1_divisorOfMinors_29 (by decide) rfl ?_
          have loop31 : ∀ (nL9 : Nat) (c : Nat) (d : Nat), (c ≤ a + 1) → (d < 2 ^ 63) → (∀ r' c', r' < r → c' &&& a = c' → pc6 r' = k → pc6 c' = k → (d : Int) ∣ mnr A k r' c') → (∀ c', c' < c → c' &&& a = c' → pc6 c' = k → (d : Int) ∣ mnr A k r c') → (∀ x : Nat, (∀ r c, r < 2 ^ R → c &&& a = c → pc6 r = k → pc6 c = k → (x : Int) ∣ mnr A k r c) → x ∣ d) → a + 1 - c < nL9 → Z mX1_divisorOfMinors g 31 [vr 9, vi (k : Int), vi (a : Int), vl (d : Int), vx, vi (r : Int), vi (c : Int)] [] h Q := by
            intro nL9
            induction nL9 with
            | zero => intro c d hc hd hU hV hW hnL9; exact absurd hnL9 (Nat.not_lt_zero _)
            | succ nL9 ih31 =>
              intro c d hc hd hU hV hW hnL9
              refine z_lload_n dX1_divisorOfMinors_31 rfl ?_
              refine z_lconst (z := 1) dX1_divisorOfMinors_32 rfl ?_
              refine z_lcmp dX1_divisorOfMinors_33 (by omega) (by decide) ?_
              refine z_if_eq 80 dX1_divisorOfMinors_34 (by decide) (icmp_r _ _) (fun c34 => ?_) (fun c34 => ?_)
              · have c34 := icmp_eq.mp c34
                refine z_iinc dX1_divisorOfMinors_80 rfl (by decide) rfl ?_
                refine z_goto 5 dX1_divisorOfMinors_83 (by decide) ?_
                refine z_forget 6 ?_
                exact ih5 (r + 1) d (by omega) hd (fun r' c' h1 h2 h3 h4 => by
                  rcases (show r' < r ∨ r' = r by omega) with q | q
                  · exact hU r' c' q h2 h3 h4
                  · subst q; have e1 : d = 1 := by omega
                    subst e1; exact Int.one_dvd _) hW (by omega)
              · have c34 := icmp_ne.mp c34
                refine z_iload dX1_divisorOfMinors_37 rfl ?_
                refine z_iload_n dX1_divisorOfMinors_39 rfl ?_
                refine z_icmp_gt 80 dX1_divisorOfMinors_40 (by decide) (by omega) (by omega) (fun c40 => ?_) (fun c40 => ?_)
                · refine z_iinc dX1_divisorOfMinors_80 rfl (by decide) rfl ?_
                  refine z_goto 5 dX1_divisorOfMinors_83 (by decide) ?_
                  refine z_forget 6 ?_
                  exact ih5 (r + 1) d (by omega) hd (fun r' c' h1 h2 h3 h4 => by
                    rcases (show r' < r ∨ r' = r by omega) with q | q
                    · exact hU r' c' q h2 h3 h4
                    · subst q; exact hV c' (by have := and_le h2; omega) h2 h4) hW (by omega)
                · have p2 := pc6_r (c := c) (by omega)
                  have p3 := b_subr (c := c) (a := a) (by omega) (by omega)
                  refine z_iload dX1_divisorOfMinors_43 rfl ?_
                  refine z_iload_n dX1_divisorOfMinors_45 rfl ?_
                  refine z_iconst dX1_divisorOfMinors_46 ?_
                  refine z_ixor dX1_divisorOfMinors_47 ?_
                  refine z_iand dX1_divisorOfMinors_48 ?_
                  refine z_if_ne 74 dX1_divisorOfMinors_49 (by decide) (by omega) (fun c49 => ?_) (fun c49 => ?_)
                  · have d1 : ¬ (c &&& a = c) := fun q => c49 ((b_sub (c := c) (a := a) (by omega) (by omega)).mpr q)
                    refine z_iinc dX1_divisorOfMinors_74 rfl (by decide) rfl ?_
                    refine z_goto 31 dX1_divisorOfMinors_77 (by decide) ?_
                    exact ih31 (c + 1) d (by omega) hd hU (fun c' h1 h2 h4 => by
                      rcases (show c' < c ∨ c' = c by omega) with q | q
                      · exact hV c' q h2 h4
                      · subst q; exact absurd h2 d1) hW (by omega)
                  · have d1 : c &&& a = c := (b_sub (c := c) (a := a) (by omega) (by omega)).mp c49
                    refine z_iload dX1_divisorOfMinors_52 rfl ?_
                    refine z_callS_eI (M := mX1_divisorOfMinors) [_] tJ6_bitCount_0f7a4 kX1_53 dX1_divisorOfMinors_54 ⟨by decide, by decide⟩ rfl (Nat.le_of_ble_eq_true rfl) rfl (c_bc (by omega)) ?_
                    refine z_iload_n dX1_divisorOfMinors_57 rfl ?_
                    refine z_icmp_ne 74 dX1_divisorOfMinors_58 (by decide) (by omega) (by omega) (fun c58 => ?_) (fun c58 => ?_)
                    · refine z_iinc dX1_divisorOfMinors_74 rfl (by decide) rfl ?_
                      refine z_goto 31 dX1_divisorOfMinors_77 (by decide) ?_
                      exact ih31 (c + 1) d (by omega) hd hU (fun c' h1 h2 h4 => by
                        rcases (show c' < c ∨ c' = c by omega) with q | q
                        · exact hV c' q h2 h4
                        · subst q; omega) hW (by omega)
                    · refine z_lload_n dX1_divisorOfMinors_61 rfl ?_
                      refine z_aload_n dX1_divisorOfMinors_62 rfl ?_
                      refine z_iload dX1_divisorOfMinors_63 rfl ?_
                      refine z_iload dX1_divisorOfMinors_65 rfl ?_
                      refine z_callV_eL (M := mX1_divisorOfMinors) [_, _] tX1_minorOf kX1_62 dX1_divisorOfMinors_67 ⟨by decide, rfl, _, _, rfl⟩ ⟨by decide, by decide⟩ rfl (Nat.le_of_ble_eq_true rfl) rfl (c_X1_minorOf (by omega) (by omega)) ?_
                      have d2 : h 17 (r * 64 + c) = mnr A k r c := by rw [mt r c (by omega) (by omega) (by omega)]; congr 1; omega
                      rw [d2]
                      have d3 := hb r c (by omega) (by omega) (by omega)
                      rw [show pc6 r = k from by omega] at d3
                      refine z_callN_eL (M := mX1_divisorOfMinors) [_, _] tX5_gcd (by decide) dX1_divisorOfMinors_70 ⟨by decide, by decide⟩ rfl (Nat.le_of_ble_eq_true rfl) rfl (c_X5_gcd (by omega) d3) ?_
                      refine z_lstore_n dX1_divisorOfMinors_73 (by decide) rfl ?_
                      refine z_iinc dX1_divisorOfMinors_74 rfl (by decide) rfl ?_
                      refine z_goto 31 dX1_divisorOfMinors_77 (by decide) ?_
                      have g1 : ((Int.gcd (d : Int) (mnr A k r c) : Nat) : Int) ∣ (d : Int) := Int.gcd_dvd_left ..
                      have g2 : ((Int.gcd (d : Int) (mnr A k r c) : Nat) : Int) ∣ mnr A k r c := Int.gcd_dvd_right ..
                      exact ih31 (c + 1) (Int.gcd (d : Int) (mnr A k r c)) (by omega) (igcd_lt hd (by omega)) (fun r' c' h1 h2 h3 h4 => Int.dvd_trans g1 (hU r' c' h1 h2 h3 h4)) (fun c' h1 h2 h4 => by
                        rcases (show c' < c ∨ c' = c by omega) with q | q
                        · exact Int.dvd_trans g1 (hV c' q h2 h4)
                        · subst q; exact g2) (fun x hx => Nat.dvd_gcd (by rw [Int.natAbs_natCast]; exact hW x hx) (Int.ofNat_dvd_left.mp (hx r c (by omega) d1 (by omega) (by omega)))) (by omega)
          exact loop31 _ 0 d (by omega) hd hU (fun c' h1 => absurd h1 (Nat.not_lt_zero _)) hW (Nat.lt_succ_self _)
        · refine z_goto 80 dX1_divisorOfMinors_25 (by decide) ?_
          refine z_iinc dX1_divisorOfMinors_80 rfl (by decide) rfl ?_
          refine z_goto 5 dX1_divisorOfMinors_83 (by decide) ?_
          refine z_forget 6 ?_
          exact ih5 (r + 1) d (by omega) hd (fun r' c' h1 h2 h3 h4 => by
            rcases (show r' < r ∨ r' = r by omega) with q | q
            · exact hU r' c' q h2 h3 h4
            · subst q; omega) hW (by omega)
  exact loop5 _ 0 0 (by omega) (by omega) (fun r' c h1 => absurd h1 (Nat.not_lt_zero _)) (fun x _ => Nat.dvd_zero x) (Nat.lt_succ_self _)

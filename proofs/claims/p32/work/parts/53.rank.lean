set_option maxRecDepth 100000 in
set_option maxHeartbeats 4000000 in
theorem c_X1_rankBy {g : GG} {h : HH} {R C : Nat} (hRr : h 9 2 = (R : Int)) (hR6 : R ≤ 6) (hC : h 9 3 = (C : Int)) (h6 : C ≤ 6) {A : Nat → Nat → Int} (mt : MT (h 17) A R C) {p : Int} (hp : R32 p) {a : Nat} (ha : a < 2 ^ C) : CpI mX1_rankBy g [vr 9, vi p, vi (a : Int)] h (fun z => ∃ k : Nat, z = k ∧ k ≤ 6 ∧ Rk A R a p k) := by
  refine cn_q (lv := [vr 9, vi p, vi (a : Int), vx, vx, vx, vx]) tX1_rankBy.1 rfl rfl (fun hR Q hQ => ?_)
  have b1 := b_shl hR6
  have b2 := b_shl h6
  have b3 := b_pos R
  have b4 := b_pos C
  refine z_iconst dX1_rankBy_0 ?_
  refine z_istore_n dX1_rankBy_1 (by decide) rfl ?_
  refine z_iconst dX1_rankBy_2 ?_
  refine z_istore dX1_rankBy_3 (by decide) rfl ?_
  have loop5 : ∀ (nL9 : Nat) (r : Nat) (z : Nat), (1 ≤ r ∧ r ≤ 2 ^ R) → (z ≤ 6) → (∀ r' c', r' < r → c' &&& a = c' → pc6 r' = pc6 c' → nzp p (mnr A (pc6 r') r' c') → pc6 r' ≤ z) → (z = 0 ∨ ∃ r c, r < 2 ^ R ∧ c &&& a = c ∧ pc6 r = pc6 c ∧ pc6 r = z ∧ nzp p (mnr A (pc6 r) r c)) → 2 ^ R - r < nL9 → Z mX1_rankBy g 5 [vr 9, vi p, vi (a : Int), vi (z : Int), vi (r : Int), vx, vx] [] h Q := by
    intro nL9
    induction nL9 with
    | zero => intro r z hr hz hU hW hnL9; exact absurd hnL9 (Nat.not_lt_zero _)
    | succ nL9 ih5 =>
      intro r z hr hz hU hW hnL9
      refine z_iload dX1_rankBy_5 rfl ?_
      refine z_iconst dX1_rankBy_7 ?_
      refine z_aload_n dX1_rankBy_8 rfl ?_
      refine z_getI fX1_18 dX1_rankBy_9 (by decide) rfl rfl (fun r9 => ?_)
      rw [hRr]
      refine z_ishl dX1_rankBy_12 ?_
      rw [b1.1]
      refine z_icmp_ge 87 dX1_rankBy_13 (by decide) (by omega) (by omega) (fun c13 => ?_) (fun c13 => ?_)
      · refine z_iload_n dX1_rankBy_87 rfl ?_
        exact z_ireturn dX1_rankBy_88 rfl (hQ _ _ ⟨_, rfl, ⟨z, rfl, hz, fun r' c h1 h2 h3 h4 => hU r' c (by omega) h2 h3 h4, hW⟩, rfl⟩)
      · have p1 := pc6_r (c := r) (by omega)
        refine z_iload dX1_rankBy_16 rfl ?_
        refine z_callS_eI (M := mX1_rankBy) [_] tJ6_bitCount_0f7a4 kX1_53 dX1_rankBy_18 ⟨by decide, by decide⟩ rfl (Nat.le_of_ble_eq_true rfl) rfl (c_bc (by omega)) ?_
        refine z_istore dX1_rankBy_21 (by decide) rfl ?_
        refine z_iconst dX1_rankBy_23 ?_
        refine z_istore dX1_rankBy_24 (by decide) rfl ?_
        have loop26 : ∀ (nL9 : Nat) (c : Nat) (z : Nat), (1 ≤ c ∧ c ≤ a + 1) → (z ≤ 6) → (∀ r' c', r' < r → c' &&& a = c' → pc6 r' = pc6 c' → nzp p (mnr A (pc6 r') r' c') → pc6 r' ≤ z) → (∀ c', c' < c → c' &&& a = c' → pc6 r = pc6 c' → nzp p (mnr A (pc6 r) r c') → pc6 r ≤ z) → (z = 0 ∨ ∃ r c, r < 2 ^ R ∧ c &&& a = c ∧ pc6 r = pc6 c ∧ pc6 r = z ∧ nzp p (mnr A (pc6 r) r c)) → a + 1 - c < nL9 → Z mX1_rankBy g 26 [vr 9, vi p, vi (a : Int), vi (z : Int), vi (r : Int), vi (pc6 r : Int), vi (c : Int)] [] h Q := by
          intro nL9
          induction nL9 with
          | zero => intro c z hc hz hU hV hW hnL9; exact absurd hnL9 (Nat.not_lt_zero _)
          | succ nL9 ih26 =>
            intro c z hc hz hU hV hW hnL9
            refine z_iload dX1_rankBy_26 rfl ?_
            refine z_iload_n dX1_rankBy_28 rfl ?_
            refine z_icmp_le 81 dX1_rankBy_29 (by decide) (by omega) (by omega) (fun c29 => ?_) (fun c29 => ?_)
            · refine z_iinc dX1_rankBy_81 rfl (by decide) rfl ?_
              refine z_goto 5 dX1_rankBy_84 (by decide) ?_
              refine z_forget 5 ?_
              refine z_forget 6 ?_
              exact ih5 (r + 1) z (by omega) hz (fun r' c' h1 h2 h3 h4 => by
                rcases (show r' < r ∨ r' = r by omega) with q | q
                · exact hU r' c' q h2 h3 h4
                · subst q; omega) hW (by omega)
            · refine z_iload dX1_rankBy_32 rfl ?_
              refine z_iload_n dX1_rankBy_34 rfl ?_
              refine z_icmp_gt 81 dX1_rankBy_35 (by decide) (by omega) (by omega) (fun c35 => ?_) (fun c35 => ?_)
              · refine z_iinc dX1_rankBy_81 rfl (by decide) rfl ?_
                refine z_goto 5 dX1_rankBy_84 (by decide) ?_
                refine z_forget 5 ?_
                refine z_forget 6 ?_
                exact ih5 (r + 1) z (by omega) hz (fun r' c' h1 h2 h3 h4 => by
                  rcases (show r' < r ∨ r' = r by omega) with q | q
                  · exact hU r' c' q h2 h3 h4
                  · subst q; exact hV c' (by have := and_le h2; omega) h2 h3 h4) hW (by omega)
              · have p2 := pc6_r (c := c) (by omega)
                have p3 := b_subr (c := c) (a := a) (by omega) (by omega)
                refine z_iload dX1_rankBy_38 rfl ?_
                refine z_iload_n dX1_rankBy_40 rfl ?_
                refine z_iconst dX1_rankBy_41 ?_
                refine z_ixor dX1_rankBy_42 ?_
                refine z_iand dX1_rankBy_43 ?_
                refine z_if_ne 75 dX1_rankBy_44 (by decide) (by omega) (fun c44 => ?_) (fun c44 => ?_)
                · have d1 : ¬ (c &&& a = c) := fun q => c44 ((b_sub (c := c) (a := a) (by omega) (by omega)).mpr q)
                  refine z_iinc dX1_rankBy_75 rfl (by decide) rfl ?_
                  refine z_goto 26 dX1_rankBy_78 (by decide) ?_
                  exact ih26 (c + 1) z (by omega) hz hU (fun c' h1 h2 h3 h4 => by
                    rcases (show c' < c ∨ c' = c by omega) with q | q
                    · exact hV c' q h2 h3 h4
                    · subst q; exact absurd h2 d1) hW (by omega)
                · have d1 : c &&& a = c := (b_sub (c := c) (a := a) (by omega) (by omega)).mp c44
                  refine z_iload dX1_rankBy_47 rfl ?_
                  refine z_callS_eI (M := mX1_rankBy) [_] tJ6_bitCount_0f7a4 kX1_53 dX1_rankBy_49 ⟨by decide, by decide⟩ rfl (Nat.le_of_ble_eq_true rfl) rfl (c_bc (by omega)) ?_
                  refine z_iload dX1_rankBy_52 rfl ?_
                  refine z_icmp_ne 75 dX1_rankBy_54 (by decide) (by omega) (by omega) (fun c54 => ?_) (fun c54 => ?_)
                  · refine z_iinc dX1_rankBy_75 rfl (by decide) rfl ?_
                    refine z_goto 26 dX1_rankBy_78 (by decide) ?_
                    exact ih26 (c + 1) z (by omega) hz hU (fun c' h1 h2 h3 h4 => by
                      rcases (show c' < c ∨ c' = c by omega) with q | q
                      · exact hV c' q h2 h3 h4
                      · subst q; omega) hW (by omega)
                  · refine z_aload_n dX1_rankBy_57 rfl ?_
                    refine z_iload dX1_rankBy_58 rfl ?_
                    refine z_iload dX1_rankBy_60 rfl ?_
                    refine z_callV_eL (M := mX1_rankBy) [_, _] tX1_minorOf kX1_62 dX1_rankBy_62 ⟨by decide, rfl, _, _, rfl⟩ ⟨by decide, by decide⟩ rfl (Nat.le_of_ble_eq_true rfl) rfl (c_X1_minorOf (by omega) (by omega)) ?_
                    have d2 := mt r c (by omega) (by omega) (by omega)
                    have r62 : R64 (h 17 (r * 64 + c)) := hR.1 17 _
                    refine z_iload_n dX1_rankBy_65 rfl ?_
                    refine z_callS_eI (M := mX1_rankBy) [_, _] tX1_isZero kX1_65 dX1_rankBy_66 ⟨by decide, by decide⟩ rfl (Nat.le_of_ble_eq_true rfl) rfl (c_X1_isZero (by omega) hp) ?_
                    refine z_if_ne 75 dX1_rankBy_69 (by decide) (bi_r _) (fun c69 => ?_) (fun c69 => ?_)
                    · have c69 := bi_ne.mp c69
                      have d3 : ¬ nzp p (mnr A (pc6 r) r c) := by rw [← d2]; exact fun q => q c69
                      refine z_iinc dX1_rankBy_75 rfl (by decide) rfl ?_
                      refine z_goto 26 dX1_rankBy_78 (by decide) ?_
                      exact ih26 (c + 1) z (by omega) hz hU (fun c' h1 h2 h3 h4 => by
                        rcases (show c' < c ∨ c' = c by omega) with q | q
                        · exact hV c' q h2 h3 h4
                        · subst q; exact absurd h4 d3) hW (by omega)
                    · have c69 := bi_eq.mp c69
                      have c69 : nzp p (mnr A (pc6 r) r c) := by rw [← d2]; exact c69
                      refine z_iload dX1_rankBy_72 rfl ?_
                      refine z_istore_n dX1_rankBy_74 (by decide) rfl ?_
                      refine z_iinc dX1_rankBy_75 rfl (by decide) rfl ?_
                      refine z_goto 26 dX1_rankBy_78 (by decide) ?_
                      exact ih26 (c + 1) (pc6 r) (by omega) (by omega) (fun r' c' h1 h2 h3 h4 => by have := hU r' c' h1 h2 h3 h4; omega) (fun c' h1 h2 h3 h4 => Nat.le_refl _) (Or.inr ⟨r, c, by omega, d1, by omega, rfl, c69⟩) (by omega)
        exact loop26 _ 1 z (by omega) hz hU (fun c' h1 h2 h3 _ => by
          have : c' = 0 := by omega
          subst this
          have := p1.2.mp h3
          omega) hW (Nat.lt_succ_self _)
  exact loop5 _ 1 0 (by omega) (by omega) (fun r' c h1 h2 h3 _ => by
    have : r' = 0 := by omega
    subst this; exact Nat.le_refl _) (Or.inl rfl) (Nat.lt_succ_self _)

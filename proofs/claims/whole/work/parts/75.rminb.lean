set_option maxRecDepth 100000 in
set_option maxHeartbeats 4000000 in
theorem c_X6_minor {g : GG} {h : HH} {d ch : Int} {R a : Nat} {A : Nat → Nat → Int} (hR6 : R ≤ 6) (ha : a < 64) (w : WD g h d ch R a A) {r c : Nat} (hr : r < 2 ^ R) (hc : c &&& a = c) (hp : pc6 r = pc6 c) : CnL mX6_minor g [vr 47, vi d, vi (r : Int), vi (c : Int), vi ch] h (fun z h' => z = mnr A (pc6 r) r c ∧ ∃ f, h' = setc h 54 f) := by
  refine cn_q (lv := [vr 47, vi d, vi (r : Int), vi (c : Int), vi ch, vx, vx]) tX6_minor.1 rfl rfl (fun hR Q hQ => ?_)
  have b := b_shl hR6
  obtain ⟨c1, c2, c3⟩ := and_bit ha hc
  have p6 := (pc6_r c1).1
  have nn := nn_36 (n := pc6 r) (by omega)
  refine z_iload_n dX6_minor_0 rfl ?_
  refine z_callS_eI (M := mX6_minor) [_] tX6_ones kX6_99 dX6_minor_1 ⟨by decide, by decide⟩ rfl (Nat.le_of_ble_eq_true rfl) rfl (c_X6_ones (by omega)) ?_
  refine z_istore dX6_minor_4 (by decide) rfl ?_
  refine z_iconst dX6_minor_6 ?_
  refine z_istore dX6_minor_7 (by decide) rfl ?_
  have loop9 : ∀ (nL9 : Nat) (k : Nat) (f : Nat → Int), (k ≤ pc6 r * pc6 r) → (LY (pc6 r) k (fun i j => A (nt r i) (nt c j)) f) → pc6 r * pc6 r - k < nL9 → Z mX6_minor g 9 [vr 47, vi d, vi (r : Int), vi (c : Int), vi ch, vi (pc6 r : Int), vi (k : Int)] [] (setc h 54 f) Q := by
    intro nL9
    induction nL9 with
    | zero => intro k f hk hL hnL9; exact absurd hnL9 (Nat.not_lt_zero _)
    | succ nL9 ih9 =>
      intro k f hk hL hnL9
      refine z_iload dX6_minor_9 rfl ?_
      refine z_iload dX6_minor_11 rfl ?_
      refine z_iload dX6_minor_13 rfl ?_
      refine z_imul dX6_minor_15 ?_
      rw [show (pc6 r : Int) * (pc6 r : Int) = ((pc6 r * pc6 r : Nat) : Int) from rfl]
      refine z_icmp_ge 70 dX6_minor_16 (by decide) (by omega) (by omega) (fun c16 => ?_) (fun c16 => ?_)
      · have hk9 : k = pc6 r * pc6 r := by omega
        subst hk9
        refine z_aload_n dX6_minor_70 rfl ?_
        refine z_iload dX6_minor_71 rfl ?_
        refine z_callV_L (M := mX6_minor) [_] tX6_determinant kX6_109 dX6_minor_73 ⟨by decide, rfl, _, _, rfl⟩ ⟨by decide, by decide⟩ rfl (Nat.le_of_ble_eq_true rfl) rfl (c_X6_determinant (n := pc6 r) (b := 9) (by omega) (fun i j hi hj => by
    rw [setc_at, hL.all i j hi hj]
    have n1 := nt_1 c1 (t := j) (by omega)
    exact (w.2 f (nt r i) (nt c j) (nt_C hR6 hr hi) n1.1 (c3 _ n1.1 n1.2.1)).2) (fun k hk => fcb9 (pc6 r) k (by omega) hk)) (fun z73 h73 q73 => ?_)
        exact z_lreturn dX6_minor_76 rfl (hQ _ _ ⟨_, rfl, (by
  obtain ⟨e1, f', e2⟩ := q73
  refine ⟨?_, f', by rw [e2, setc_setc]⟩
  rw [e1, setc_at, mnr_dT A (pc6 r) r c (by omega) c1 rfl hp.symm]
  exact dT_congr _ fun i j hi hj => hL.all i j hi hj)⟩)
      · obtain ⟨d1, d2, d3⟩ := nn_dm (show k < pc6 r * pc6 r by omega)
        obtain ⟨x, hx⟩ : ∃ x, x = k / pc6 r := ⟨_, rfl⟩
        obtain ⟨y, hy⟩ : ∃ y, y = k % pc6 r := ⟨_, rfl⟩
        rw [← hx] at d2
        rw [← hy] at d3
        have n1 := nt_1 c1 (t := y) (by omega)
        refine z_aload_n dX6_minor_19 rfl ?_
        refine z_getR fX6_29 dX6_minor_20 (by decide) rfl rfl ?_
        refine z_bipush dX6_minor_23 (by decide) ?_
        refine z_iload dX6_minor_25 rfl ?_
        refine z_iload dX6_minor_27 rfl ?_
        refine z_idiv dX6_minor_29 (by omega) (by omega) (by omega) ?_
        rw [show (k : Int).tdiv (pc6 r : Int) = ((k / pc6 r : Nat) : Int) from rfl, ← hx]
        refine z_imul dX6_minor_30 ?_
        refine z_iload dX6_minor_31 rfl ?_
        refine z_iload dX6_minor_33 rfl ?_
        refine z_irem dX6_minor_35 (by omega) (by omega) (by omega) ?_
        rw [show (k : Int).tmod (pc6 r : Int) = ((k % pc6 r : Nat) : Int) from rfl, ← hy]
        refine z_iadd dX6_minor_36 ?_
        refine z_aload_n dX6_minor_37 rfl ?_
        refine z_iload_n dX6_minor_38 rfl ?_
        refine z_iload_n dX6_minor_39 rfl ?_
        refine z_iload dX6_minor_40 rfl ?_
        refine z_iload dX6_minor_42 rfl ?_
        refine z_idiv dX6_minor_44 (by omega) (by omega) (by omega) ?_
        rw [show (k : Int).tdiv (pc6 r : Int) = ((k / pc6 r : Nat) : Int) from rfl, ← hx]
        refine z_callS_eI (M := mX6_minor) [_, _] tX6_nth kX6_102 dX6_minor_45 ⟨by decide, by decide⟩ rfl (Nat.le_of_ble_eq_true rfl) rfl (c_X6_nth (c := r) (k := x) (by omega) (by omega)) ?_
        refine z_iload_n dX6_minor_48 rfl ?_
        refine z_iload dX6_minor_49 rfl ?_
        refine z_iload dX6_minor_51 rfl ?_
        refine z_irem dX6_minor_53 (by omega) (by omega) (by omega) ?_
        rw [show (k : Int).tmod (pc6 r : Int) = ((k % pc6 r : Nat) : Int) from rfl, ← hy]
        refine z_callS_eI (M := mX6_minor) [_, _] tX6_nth kX6_102 dX6_minor_54 ⟨by decide, by decide⟩ rfl (Nat.le_of_ble_eq_true rfl) rfl (c_X6_nth (c := c) (k := y) c1 (by omega)) ?_
        refine z_iload dX6_minor_57 rfl ?_
        refine z_callV_eI (M := mX6_minor) [_, _, _, _] tX6_wide kX6_105 dX6_minor_59 ⟨by decide, rfl, _, _, rfl⟩ ⟨by decide, by decide⟩ rfl (Nat.le_of_ble_eq_true rfl) rfl (w.2 f (nt r x) (nt c y) (nt_C hR6 hr (by omega)) n1.1 (c3 _ n1.1 n1.2.1)).1 ?_
        have b9 := (w.2 f (nt r x) (nt c y) (nt_C hR6 hr (by omega)) n1.1 (c3 _ n1.1 n1.2.1)).2
        refine z_i2l dX6_minor_62 (by omega) ?_
        refine z_lastore dX6_minor_63 (by decide) rfl (by omega) (by omega) (by first | decide | omega) (by omega) ?_
        rw [up_s (i := 6 * x + y) (by omega)]
        refine z_iinc dX6_minor_64 rfl (by decide) rfl ?_
        refine z_goto 9 dX6_minor_67 (by decide) ?_
        have x0 := ih9 (k + 1) _ (by omega) (hL.put (by omega) d1 rfl) (by omega)
        rw [← hx, ← hy] at x0
        exact x0
  have x0 := loop9 _ 0 (h 54) (by omega) (fun t ht => absurd ht (Nat.not_lt_zero _)) (Nat.lt_succ_self _)
  rw [setc_self] at x0
  exact x0
set_option maxRecDepth 100000 in
set_option maxHeartbeats 4000000 in
theorem c_X6_minorsOf {g : GG} {h : HH} {d ch : Int} {R a : Nat} {A : Nat → Nat → Int} (hR6 : R ≤ 6) (ha : a < 64) (w : WD g h d ch R a A) {k : Nat} (hk : (k : Int) < 2147483648) : CnL mX6_minorsOf g [vr 47, vi d, vi (a : Int), vi (k : Int), vi ch] h (fun z h' => (∃ e : Nat, z = e ∧ e < 2 ^ 63 ∧ Dv A R a k e) ∧ ∃ f, h' = setc h 54 f) := by
  refine cn_q (lv := [vr 47, vi d, vi (a : Int), vi (k : Int), vi ch, vx, vx, vx, vx]) tX6_minorsOf.1 rfl rfl (fun hR Q hQ => ?_)
  have b1 := b_shl hR6
  have b3 := b_pos R
  refine z_lconst (z := 0) dX6_minorsOf_0 rfl ?_
  refine z_lstore dX6_minorsOf_1 (by decide) rfl ?_
  refine z_iconst dX6_minorsOf_3 ?_
  refine z_istore dX6_minorsOf_4 (by decide) rfl ?_
  have loop6 : ∀ (nL9 : Nat) (r : Nat) (e : Nat) (f : Nat → Int), (r ≤ 2 ^ R) → (e < 2 ^ 63) → (∀ r' c', r' < r → c' &&& a = c' → pc6 r' = k → pc6 c' = k → (e : Int) ∣ mnr A k r' c') → (∀ x : Nat, (∀ r c, r < 2 ^ R → c &&& a = c → pc6 r = k → pc6 c = k → (x : Int) ∣ mnr A k r c) → x ∣ e) → 2 ^ R - r < nL9 → Z mX6_minorsOf g 6 [vr 47, vi d, vi (a : Int), vi (k : Int), vi ch, vl (e : Int), vx, vi (r : Int), vx] [] (setc h 54 f) Q := by
    intro nL9
    induction nL9 with
    | zero => intro r e f hr he hU hW hnL9; exact absurd hnL9 (Nat.not_lt_zero _)
    | succ nL9 ih6 =>
      intro r e f hr he hU hW hnL9
      refine z_iload dX6_minorsOf_6 rfl ?_
      refine z_iconst dX6_minorsOf_8 ?_
      refine z_aload_n dX6_minorsOf_9 rfl ?_
      refine z_iload_n dX6_minorsOf_10 rfl ?_
      refine z_callV_eI (M := mX6_minorsOf) [_] tX6_rows kX6_96 dX6_minorsOf_11 ⟨by decide, rfl, _, _, rfl⟩ ⟨by decide, by decide⟩ rfl (Nat.le_of_ble_eq_true rfl) rfl (w.1 f) ?_
      refine z_ishl dX6_minorsOf_14 ?_
      rw [b1.1]
      refine z_icmp_ge 84 dX6_minorsOf_15 (by decide) (by omega) (by omega) (fun c15 => ?_) (fun c15 => ?_)
      · refine z_lload dX6_minorsOf_84 rfl ?_
        exact z_lreturn dX6_minorsOf_86 rfl (hQ _ _ ⟨_, rfl, ⟨⟨e, rfl, he, fun r' c h1 h2 h3 h4 => hU r' c (by omega) h2 h3 h4, hW⟩, f, rfl⟩⟩)
      · refine z_iconst dX6_minorsOf_18 ?_
        refine z_istore dX6_minorsOf_19 (by decide) rfl ?_
        have loop21 : ∀ (nL9 : Nat) (c : Nat) (e : Nat) (f : Nat → Int), (c ≤ a + 1) → (e < 2 ^ 63) → (∀ r' c', r' < r → c' &&& a = c' → pc6 r' = k → pc6 c' = k → (e : Int) ∣ mnr A k r' c') → (pc6 r = k → ∀ c', c' < c → c' &&& a = c' → pc6 c' = k → (e : Int) ∣ mnr A k r c') → (∀ x : Nat, (∀ r c, r < 2 ^ R → c &&& a = c → pc6 r = k → pc6 c = k → (x : Int) ∣ mnr A k r c) → x ∣ e) → a + 1 - c < nL9 → Z mX6_minorsOf g 21 [vr 47, vi d, vi (a : Int), vi (k : Int), vi ch, vl (e : Int), vx, vi (r : Int), vi (c : Int)] [] (setc h 54 f) Q := by
          intro nL9
          induction nL9 with
          | zero => intro c e f hc he hU hV hW hnL9; exact absurd hnL9 (Nat.not_lt_zero _)
          | succ nL9 ih21 =>
            intro c e f hc he hU hV hW hnL9
            refine z_iload dX6_minorsOf_21 rfl ?_
            refine z_iload_n dX6_minorsOf_23 rfl ?_
            refine z_icmp_gt 78 dX6_minorsOf_24 (by decide) (by omega) (by omega) (fun c24 => ?_) (fun c24 => ?_)
            · refine z_iinc dX6_minorsOf_78 rfl (by decide) rfl ?_
              refine z_goto 6 dX6_minorsOf_81 (by decide) ?_
              refine z_forget 8 ?_
              exact ih6 (r + 1) e f (by omega) he (fun r' c' h1 h2 h3 h4 => by
                rcases (show r' < r ∨ r' = r by omega) with q | q
                · exact hU r' c' q h2 h3 h4
                · subst q; exact hV h3 c' (by have := and_le h2; omega) h2 h4) hW (by omega)
            · refine z_iload dX6_minorsOf_27 rfl ?_
              have p1 := pc6_r (c := r) (by omega)
              refine z_callS_eI (M := mX6_minorsOf) [_] tX6_ones kX6_99 dX6_minorsOf_29 ⟨by decide, by decide⟩ rfl (Nat.le_of_ble_eq_true rfl) rfl (c_X6_ones (by omega)) ?_
              refine z_iload_n dX6_minorsOf_32 rfl ?_
              refine z_icmp_ne 72 dX6_minorsOf_33 (by decide) (by omega) (by omega) (fun c33 => ?_) (fun c33 => ?_)
              · refine z_iinc dX6_minorsOf_72 rfl (by decide) rfl ?_
                refine z_goto 21 dX6_minorsOf_75 (by decide) ?_
                exact ih21 (c + 1) e f (by omega) he hU (fun hrk c' h1 h2 h4 => by
                  rcases (show c' < c ∨ c' = c by omega) with q | q
                  · exact hV hrk c' q h2 h4
                  · subst q; omega) hW (by omega)
              · refine z_iload dX6_minorsOf_36 rfl ?_
                have p2 := pc6_r (c := c) (by omega)
                have p3 := b_subr (c := c) (a := a) (by omega) ha
                refine z_callS_eI (M := mX6_minorsOf) [_] tX6_ones kX6_99 dX6_minorsOf_38 ⟨by decide, by decide⟩ rfl (Nat.le_of_ble_eq_true rfl) rfl (c_X6_ones (by omega)) ?_
                refine z_iload_n dX6_minorsOf_41 rfl ?_
                refine z_icmp_ne 72 dX6_minorsOf_42 (by decide) (by omega) (by omega) (fun c42 => ?_) (fun c42 => ?_)
                · refine z_iinc dX6_minorsOf_72 rfl (by decide) rfl ?_
                  refine z_goto 21 dX6_minorsOf_75 (by decide) ?_
                  exact ih21 (c + 1) e f (by omega) he hU (fun hrk c' h1 h2 h4 => by
                    rcases (show c' < c ∨ c' = c by omega) with q | q
                    · exact hV hrk c' q h2 h4
                    · subst q; omega) hW (by omega)
                · refine z_iload dX6_minorsOf_45 rfl ?_
                  refine z_iload_n dX6_minorsOf_47 rfl ?_
                  refine z_iconst dX6_minorsOf_48 ?_
                  refine z_ixor dX6_minorsOf_49 ?_
                  refine z_iand dX6_minorsOf_50 ?_
                  refine z_if_ne 72 dX6_minorsOf_51 (by decide) (by omega) (fun c51 => ?_) (fun c51 => ?_)
                  · have d1 : ¬ (c &&& a = c) := fun q => c51 ((b_sub (c := c) (a := a) (by omega) ha).mpr q)
                    refine z_iinc dX6_minorsOf_72 rfl (by decide) rfl ?_
                    refine z_goto 21 dX6_minorsOf_75 (by decide) ?_
                    exact ih21 (c + 1) e f (by omega) he hU (fun hrk c' h1 h2 h4 => by
                      rcases (show c' < c ∨ c' = c by omega) with q | q
                      · exact hV hrk c' q h2 h4
                      · subst q; exact absurd h2 d1) hW (by omega)
                  · have d1 : c &&& a = c := (b_sub (c := c) (a := a) (by omega) ha).mp c51
                    refine z_lload dX6_minorsOf_54 rfl ?_
                    refine z_aload_n dX6_minorsOf_56 rfl ?_
                    refine z_iload_n dX6_minorsOf_57 rfl ?_
                    refine z_iload dX6_minorsOf_58 rfl ?_
                    refine z_iload dX6_minorsOf_60 rfl ?_
                    refine z_iload dX6_minorsOf_62 rfl ?_
                    refine z_callV_L (M := mX6_minorsOf) [_, _, _, _] tX6_minor kX6_113 dX6_minorsOf_64 ⟨by decide, rfl, _, _, rfl⟩ ⟨by decide, by decide⟩ rfl (Nat.le_of_ble_eq_true rfl) rfl (c_X6_minor hR6 ha (w.set f) (r := r) (c := c) (by omega) d1 (by omega)) (fun z64 h64 q64 => ?_)
                    obtain ⟨m1, f1, m2⟩ := q64
                    rw [m1, m2, setc_setc]
                    have d3 := wd_64 w hR6 ha (r := r) (c := c) (by omega) d1 (by omega)
                    rw [show pc6 r = k from by omega] at d3 ⊢
                    refine z_callS_eL (M := mX6_minorsOf) [_, _] tX6_gcd kX6_117 dX6_minorsOf_67 ⟨by decide, by decide⟩ rfl (Nat.le_of_ble_eq_true rfl) rfl (c_X6_gcd (by omega) d3) ?_
                    refine z_lstore dX6_minorsOf_70 (by decide) rfl ?_
                    refine z_iinc dX6_minorsOf_72 rfl (by decide) rfl ?_
                    refine z_goto 21 dX6_minorsOf_75 (by decide) ?_
                    have g1 : ((Int.gcd (e : Int) (mnr A k r c) : Nat) : Int) ∣ (e : Int) := Int.gcd_dvd_left ..
                    have g2 : ((Int.gcd (e : Int) (mnr A k r c) : Nat) : Int) ∣ mnr A k r c := Int.gcd_dvd_right ..
                    exact ih21 (c + 1) (Int.gcd (e : Int) (mnr A k r c)) f1 (by omega) (igcd_lt he (by omega)) (fun r' c' h1 h2 h3 h4 => Int.dvd_trans g1 (hU r' c' h1 h2 h3 h4)) (fun hrk c' h1 h2 h4 => by
                      rcases (show c' < c ∨ c' = c by omega) with q | q
                      · exact Int.dvd_trans g1 (hV hrk c' q h2 h4)
                      · subst q; exact g2) (fun x hx => Nat.dvd_gcd (by rw [Int.natAbs_natCast]; exact hW x hx) (Int.ofNat_dvd_left.mp (hx r c (by omega) d1 (by omega) (by omega)))) (by omega)
        exact loop21 _ 0 e f (by omega) he hU (fun _ c' h1 => absurd h1 (Nat.not_lt_zero _)) hW (Nat.lt_succ_self _)
  have x0 := loop6 _ 0 0 (h 54) (by omega) (by omega) (fun r' c h1 => absurd h1 (Nat.not_lt_zero _)) (fun x _ => Nat.dvd_zero x) (Nat.lt_succ_self _)
  rw [setc_self] at x0
  exact x0
set_option maxRecDepth 100000 in
set_option maxHeartbeats 4000000 in
theorem c_X6_rankOf {g : GG} {h : HH} {d ch : Int} {R a : Nat} {A : Nat → Nat → Int} (hR6 : R ≤ 6) (ha : a < 64) (w : WD g h d ch R a A) : CnI mX6_rankOf g [vr 47, vi d, vi (a : Int), vi ch] h (fun z h' => (∃ y : Nat, z = y ∧ y ≤ 6 ∧ Rk A R a 0 y) ∧ ∃ f, h' = setc h 54 f) := by
  refine cn_q (lv := [vr 47, vi d, vi (a : Int), vi ch, vx, vx]) tX6_rankOf.1 rfl rfl (fun hR Q hQ => ?_)
  have p6 := (pc6_r ha).1
  refine z_iconst dX6_rankOf_0 ?_
  refine z_istore dX6_rankOf_1 (by decide) rfl ?_
  refine z_iconst dX6_rankOf_3 ?_
  refine z_istore dX6_rankOf_4 (by decide) rfl ?_
  have loop6 : ∀ (nL9 : Nat) (k : Nat) (y : Nat) (f : Nat → Int), (1 ≤ k ∧ k ≤ 7) → (RO A R a k y) → 8 - k < nL9 → Z mX6_rankOf g 6 [vr 47, vi d, vi (a : Int), vi ch, vi (y : Int), vi (k : Int)] [] (setc h 54 f) Q := by
    intro nL9
    induction nL9 with
    | zero => intro k y f hk hO hnL9; exact absurd hnL9 (Nat.not_lt_zero _)
    | succ nL9 ih6 =>
      intro k y f hk hO hnL9
      refine z_iload dX6_rankOf_6 rfl ?_
      refine z_iload_n dX6_rankOf_8 rfl ?_
      refine z_callS_eI (M := mX6_rankOf) [_] tX6_ones kX6_99 dX6_rankOf_9 ⟨by decide, by decide⟩ rfl (Nat.le_of_ble_eq_true rfl) rfl (c_X6_ones (by omega)) ?_
      refine z_icmp_gt 54 dX6_rankOf_12 (by decide) (by omega) (by omega) (fun c12 => ?_) (fun c12 => ?_)
      · refine z_iload dX6_rankOf_54 rfl ?_
        exact z_ireturn dX6_rankOf_56 rfl (hQ _ _ ⟨_, rfl, ⟨⟨y, rfl, by have := hO.1; omega, hO.end hR6 ha (by omega)⟩, f, rfl⟩⟩)
      · refine z_iload dX6_rankOf_15 rfl ?_
        refine z_aload_n dX6_rankOf_17 rfl ?_
        refine z_iload_n dX6_rankOf_18 rfl ?_
        refine z_callV_eI (M := mX6_rankOf) [_] tX6_rows kX6_96 dX6_rankOf_19 ⟨by decide, rfl, _, _, rfl⟩ ⟨by decide, by decide⟩ rfl (Nat.le_of_ble_eq_true rfl) rfl (w.1 f) ?_
        refine z_icmp_gt 54 dX6_rankOf_22 (by decide) (by omega) (by omega) (fun c22 => ?_) (fun c22 => ?_)
        · refine z_iload dX6_rankOf_54 rfl ?_
          exact z_ireturn dX6_rankOf_56 rfl (hQ _ _ ⟨_, rfl, ⟨⟨y, rfl, by have := hO.1; omega, hO.end hR6 ha (by omega)⟩, f, rfl⟩⟩)
        · refine z_aload_n dX6_rankOf_25 rfl ?_
          refine z_iload_n dX6_rankOf_26 rfl ?_
          refine z_iload_n dX6_rankOf_27 rfl ?_
          refine z_iload dX6_rankOf_28 rfl ?_
          refine z_iload_n dX6_rankOf_30 rfl ?_
          refine z_callV_L (M := mX6_rankOf) [_, _, _, _] tX6_minorsOf kX6_121 dX6_rankOf_31 ⟨by decide, rfl, _, _, rfl⟩ ⟨by decide, by decide⟩ rfl (Nat.le_of_ble_eq_true rfl) rfl (c_X6_minorsOf hR6 ha (w.set f) (k := k) (by omega)) (fun z31 h31 q31 => ?_)
          obtain ⟨⟨e, m1, m4, m5⟩, f1, m2⟩ := q31
          rw [m1, m2, setc_setc]
          refine z_lconst (z := 0) dX6_rankOf_34 rfl ?_
          refine z_lcmp dX6_rankOf_35 (by omega) (by decide) ?_
          refine z_if_eq 44 dX6_rankOf_36 (by decide) (icmp_r _ _) (fun c36 => ?_) (fun c36 => ?_)
          · have c36 := icmp_eq.mp c36
            refine z_iload dX6_rankOf_44 rfl ?_
            refine z_istore dX6_rankOf_46 (by decide) rfl ?_
            refine z_iinc dX6_rankOf_48 rfl (by decide) rfl ?_
            refine z_goto 6 dX6_rankOf_51 (by decide) ?_
            exact ih6 (k + 1) y f1 (by omega) (hO.no m5 (by omega)) (by omega)
          · have c36 := icmp_ne.mp c36
            refine z_iload dX6_rankOf_39 rfl ?_
            refine z_goto 46 dX6_rankOf_41 (by decide) ?_
            refine z_istore dX6_rankOf_46 (by decide) rfl ?_
            refine z_iinc dX6_rankOf_48 rfl (by decide) rfl ?_
            refine z_goto 6 dX6_rankOf_51 (by decide) ?_
            exact ih6 (k + 1) k f1 (by omega) (hO.yes m5 (by omega)) (by omega)
  have x0 := loop6 _ 1 0 (h 54) (by omega) ⟨by omega, Or.inl rfl, fun s h1 h2 => by omega⟩ (Nat.lt_succ_self _)
  rw [setc_self] at x0
  exact x0

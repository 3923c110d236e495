set_option maxRecDepth 100000 in
set_option maxHeartbeats 4000000 in
theorem c_X6_has {g : GG} {h : HH} {c j : Nat} (hc : c < 64) (hj : j < 6) : CeI mX6_has g [vi (c : Int), vi (j : Int)] h (bi (mbit c j)) := by
  refine cn_q (lv := [vi (c : Int), vi (j : Int)]) tX6_has.1 rfl rfl (fun hR Q hQ => ?_)
  refine z_iload_n dX6_has_0 rfl ?_
  refine z_iload_n dX6_has_1 rfl ?_
  refine z_ishr dX6_has_2 ?_
  refine z_iconst dX6_has_3 ?_
  refine z_iand dX6_has_4 ?_
  rw [(b_tst (c := c) (j := j) hc hj).1]
  refine z_iconst dX6_has_5 ?_
  refine z_icmp_ne 13 dX6_has_6 (by decide) (by split <;> omega) (by decide) (fun c6 => ?_) (fun c6 => ?_)
  · have c6 : ¬ mbit c j := fun q => c6 (if_pos q)
    refine z_iconst dX6_has_13 ?_
    exact z_zreturn dX6_has_14 rfl (by first | exact Or.inl rfl | exact Or.inr rfl | exact bi_01 _ | omega) (hQ _ _ ⟨_, rfl, (bi_f c6), rfl⟩)
  · have c6 : mbit c j := Classical.byContradiction (fun q => by rw [if_neg q] at c6; omega)
    refine z_iconst dX6_has_9 ?_
    refine z_goto 14 dX6_has_10 (by decide) ?_
    exact z_zreturn dX6_has_14 rfl (by first | exact Or.inl rfl | exact Or.inr rfl | exact bi_01 _ | omega) (hQ _ _ ⟨_, rfl, (bi_t c6), rfl⟩)
set_option maxRecDepth 100000 in
set_option maxHeartbeats 4000000 in
theorem c_X6_ones {g : GG} {h : HH} {c : Nat} (hc : c < 64) : CeI mX6_ones g [vi (c : Int)] h (pc6 c) := by
  refine cn_q (lv := [vi (c : Int), vx, vx]) tX6_ones.1 rfl rfl (fun hR Q hQ => ?_)
  refine z_iconst dX6_ones_0 ?_
  refine z_istore_n dX6_ones_1 (by decide) rfl ?_
  refine z_iconst dX6_ones_2 ?_
  refine z_istore_n dX6_ones_3 (by decide) rfl ?_
  have loop4 : ∀ (nL9 : Nat) (k : Nat), (k ≤ 6) → 6 - k < nL9 → Z mX6_ones g 4 [vi (c : Int), vi (pc6 (c % 2 ^ k) : Int), vi (k : Int)] [] h Q := by
    intro nL9
    induction nL9 with
    | zero => intro k hk hnL9; exact absurd hnL9 (Nat.not_lt_zero _)
    | succ nL9 ih4 =>
      intro k hk hnL9
      refine z_iload_n dX6_ones_4 rfl ?_
      refine z_bipush dX6_ones_5 (by decide) ?_
      refine z_icmp_ge 32 dX6_ones_7 (by decide) (by omega) (by omega) (fun c7 => ?_) (fun c7 => ?_)
      · refine z_iload_n dX6_ones_32 rfl ?_
        exact z_ireturn dX6_ones_33 rfl (hQ _ _ ⟨_, rfl, (by rw [show k = 6 from by omega, show c % 2 ^ 6 = c from Nat.mod_eq_of_lt hc]), rfl⟩)
      · refine z_iload_n dX6_ones_10 rfl ?_
        refine z_iload_n dX6_ones_11 rfl ?_
        refine z_iload_n dX6_ones_12 rfl ?_
        refine z_callS_eI (M := mX6_ones) [_, _] tX6_has kX6_48 dX6_ones_13 ⟨by decide, by decide⟩ rfl (Nat.le_of_ble_eq_true rfl) rfl (c_X6_has (j := k) hc (by omega)) ?_
        refine z_if_eq 23 dX6_ones_16 (by decide) (bi_r _) (fun c16 => ?_) (fun c16 => ?_)
        · have c16 := bi_eq.mp c16
          refine z_iconst dX6_ones_23 ?_
          refine z_iadd dX6_ones_24 ?_
          refine z_istore_n dX6_ones_25 (by decide) rfl ?_
          refine z_iinc dX6_ones_26 rfl (by decide) rfl ?_
          refine z_goto 4 dX6_ones_29 (by decide) ?_
          have x0 := ih4 (k + 1) (by omega) (by omega)
          rw [p6_s hc (by omega), if_neg c16] at x0
          exact x0
        · have c16 := bi_ne.mp c16
          refine z_iconst dX6_ones_19 ?_
          refine z_goto 24 dX6_ones_20 (by decide) ?_
          refine z_iadd dX6_ones_24 ?_
          refine z_istore_n dX6_ones_25 (by decide) rfl ?_
          refine z_iinc dX6_ones_26 rfl (by decide) rfl ?_
          refine z_goto 4 dX6_ones_29 (by decide) ?_
          have x0 := ih4 (k + 1) (by omega) (by omega)
          rw [p6_s hc (by omega), if_pos c16] at x0
          exact x0
  have x0 := loop4 _ 0 (by omega) (Nat.lt_succ_self _)
  rw [show pc6 (c % 2 ^ 0) = 0 from by rw [show c % 2 ^ 0 = 0 from Nat.mod_one c]; rfl] at x0
  exact x0
set_option maxRecDepth 100000 in
set_option maxHeartbeats 4000000 in
theorem c_X6_nth {g : GG} {h : HH} {c k : Nat} (hc : c < 64) (hk : k < pc6 c) : CeI mX6_nth g [vi (c : Int), vi (k : Int)] h (nt c k) := by
  refine cn_q (lv := [vi (c : Int), vi (k : Int), vx, vx]) tX6_nth.1 rfl rfl (fun hR Q hQ => ?_)
  obtain ⟨n1, n2, n3, n4⟩ := nt_1 hc hk
  have p6 := (pc6_r hc).1
  refine z_iload_n dX6_nth_0 rfl ?_
  refine z_istore_n dX6_nth_1 (by decide) rfl ?_
  refine z_iconst dX6_nth_2 ?_
  refine z_istore_n dX6_nth_3 (by decide) rfl ?_
  have loop4 : ∀ (nL9 : Nat) (i : Nat) (l : Nat), (i ≤ nt c k) → (l + pc6 (c % 2 ^ i) = k) → 6 - i < nL9 → Z mX6_nth g 4 [vi (c : Int), vi (k : Int), vi (l : Int), vi (i : Int)] [] h Q := by
    intro nL9
    induction nL9 with
    | zero => intro i l hi hl hnL9; exact absurd hnL9 (Nat.not_lt_zero _)
    | succ nL9 ih4 =>
      intro i l hi hl hnL9
      refine z_iload_n dX6_nth_4 rfl ?_
      refine z_if_gt 16 dX6_nth_5 (by decide) (by omega) (fun c5 => ?_) (fun c5 => ?_)
      · refine z_iload_n dX6_nth_16 rfl ?_
        refine z_iload_n dX6_nth_17 rfl ?_
        refine z_iload_n dX6_nth_18 rfl ?_
        refine z_callS_eI (M := mX6_nth) [_, _] tX6_has kX6_48 dX6_nth_19 ⟨by decide, by decide⟩ rfl (Nat.le_of_ble_eq_true rfl) rfl (c_X6_has (j := i) hc (by omega)) ?_
        refine z_if_eq 29 dX6_nth_22 (by decide) (bi_r _) (fun c22 => ?_) (fun c22 => ?_)
        · have c22 := bi_eq.mp c22
          refine z_iconst dX6_nth_29 ?_
          refine z_isub dX6_nth_30 ?_
          refine z_istore_n dX6_nth_31 (by decide) rfl ?_
          refine z_iinc dX6_nth_32 rfl (by decide) rfl ?_
          refine z_goto 4 dX6_nth_35 (by decide) ?_
          rw [show (l : Int) - 0 = l from by omega]
          have e9 : i ≠ nt c k := fun q => by rw [← q] at n3; omega
          have e8 := p6_s hc (show i < 6 by omega)
          rw [if_neg c22] at e8
          exact ih4 (i + 1) l (by omega) (by omega) (by omega)
        · have c22 := bi_ne.mp c22
          refine z_iconst dX6_nth_25 ?_
          refine z_goto 30 dX6_nth_26 (by decide) ?_
          refine z_isub dX6_nth_30 ?_
          refine z_istore_n dX6_nth_31 (by decide) rfl ?_
          refine z_iinc dX6_nth_32 rfl (by decide) rfl ?_
          refine z_goto 4 dX6_nth_35 (by decide) ?_
          have e9 : i ≠ nt c k := fun q => by rw [← q] at n3; omega
          have e8 := p6_s hc (show i < 6 by omega)
          rw [if_pos c22] at e8
          rw [show (l : Int) - 1 = ((l - 1 : Nat) : Int) from by omega]
          exact ih4 (i + 1) (l - 1) (by omega) (by omega) (by omega)
      · refine z_iload_n dX6_nth_8 rfl ?_
        refine z_iload_n dX6_nth_9 rfl ?_
        refine z_callS_eI (M := mX6_nth) [_, _] tX6_has kX6_48 dX6_nth_10 ⟨by decide, by decide⟩ rfl (Nat.le_of_ble_eq_true rfl) rfl (c_X6_has (j := i) hc (by omega)) ?_
        refine z_if_ne 38 dX6_nth_13 (by decide) (bi_r _) (fun c13 => ?_) (fun c13 => ?_)
        · have c13 := bi_ne.mp c13
          have m0 := nt_0 hc (by omega) c13
          rw [show pc6 (c % 2 ^ i) = k from by omega] at m0
          refine z_iload_n dX6_nth_38 rfl ?_
          exact z_ireturn dX6_nth_39 rfl (hQ _ _ ⟨_, rfl, (by rw [m0.1]), rfl⟩)
        · have c13 := bi_eq.mp c13
          refine z_iload_n dX6_nth_16 rfl ?_
          refine z_iload_n dX6_nth_17 rfl ?_
          refine z_iload_n dX6_nth_18 rfl ?_
          refine z_callS_eI (M := mX6_nth) [_, _] tX6_has kX6_48 dX6_nth_19 ⟨by decide, by decide⟩ rfl (Nat.le_of_ble_eq_true rfl) rfl (c_X6_has (j := i) hc (by omega)) ?_
          refine z_if_eq 29 dX6_nth_22 (by decide) (bi_r _) (fun c22 => ?_) (fun c22 => ?_)
          · have c22 := bi_eq.mp c22
            refine z_iconst dX6_nth_29 ?_
            refine z_isub dX6_nth_30 ?_
            refine z_istore_n dX6_nth_31 (by decide) rfl ?_
            refine z_iinc dX6_nth_32 rfl (by decide) rfl ?_
            refine z_goto 4 dX6_nth_35 (by decide) ?_
            rw [show (l : Int) - 0 = l from by omega]
            have e9 : i ≠ nt c k := fun q => by rw [← q] at n2; exact c22 n2
            have e8 := p6_s hc (show i < 6 by omega)
            rw [if_neg c22] at e8
            exact ih4 (i + 1) l (by omega) (by omega) (by omega)
          · have c22 := bi_ne.mp c22
            refine z_iconst dX6_nth_25 ?_
            refine z_goto 30 dX6_nth_26 (by decide) ?_
            refine z_isub dX6_nth_30 ?_
            refine z_istore_n dX6_nth_31 (by decide) rfl ?_
            refine z_iinc dX6_nth_32 rfl (by decide) rfl ?_
            refine z_goto 4 dX6_nth_35 (by decide) ?_
            exact absurd c22 c13
  exact loop4 _ 0 k (by omega) (by rw [show c % 2 ^ 0 = 0 from Nat.mod_one c]; rfl) (Nat.lt_succ_self _)
set_option maxRecDepth 100000 in
set_option maxHeartbeats 4000000 in
theorem c_X6_gcd {g : GG} {h : HH} {a b : Int} (ha : -9223372036854775808 < a ∧ a < 9223372036854775808) (hb : -9223372036854775808 < b ∧ b < 9223372036854775808) : CeL mX6_gcd g [vl a, vl b] h (Int.gcd a b : Int) := by
  refine cn_q (lv := [vl a, vx, vl b, vx, vx, vx, vx, vx, vx, vx]) tX6_gcd.1 rfl rfl (fun hR Q hQ => ?_)
  refine z_lload_n dX6_gcd_0 rfl ?_
  refine z_lconst (z := 0) dX6_gcd_1 rfl ?_
  refine z_lcmp dX6_gcd_2 (by omega) (by decide) ?_
  refine z_if_ge 11 dX6_gcd_3 (by decide) (icmp_r _ _) (fun c3 => ?_) (fun c3 => ?_)
  · have c3 := icmp_ge.mp c3
    refine z_lload_n dX6_gcd_11 rfl ?_
    refine z_lstore dX6_gcd_12 (by decide) rfl ?_
    refine z_lload_n dX6_gcd_14 rfl ?_
    refine z_lconst (z := 0) dX6_gcd_15 rfl ?_
    refine z_lcmp dX6_gcd_16 (by omega) (by decide) ?_
    refine z_if_ge 25 dX6_gcd_17 (by decide) (icmp_r _ _) (fun c17 => ?_) (fun c17 => ?_)
    · have c17 := icmp_ge.mp c17
      refine z_lload_n dX6_gcd_25 rfl ?_
      refine z_lstore dX6_gcd_26 (by decide) rfl ?_
      have loop28 : ∀ (nL9 : Nat) (x : Nat) (y : Nat), (Nat.gcd x y = Int.gcd a b) → (x < 2 ^ 63 ∧ y < 2 ^ 63) → y < nL9 → Z mX6_gcd g 28 [vl a, vx, vl b, vx, vl (x : Int), vx, vl (y : Int), vx, vx, vx] [] h Q := by
        intro nL9
        induction nL9 with
        | zero => intro x y hG hx hnL9; exact absurd hnL9 (Nat.not_lt_zero _)
        | succ nL9 ih28 =>
          intro x y hG hx hnL9
          refine z_lload dX6_gcd_28 rfl ?_
          refine z_lconst (z := 0) dX6_gcd_30 rfl ?_
          refine z_lcmp dX6_gcd_31 (by omega) (by decide) ?_
          refine z_if_eq 53 dX6_gcd_32 (by decide) (icmp_r _ _) (fun c32 => ?_) (fun c32 => ?_)
          · have c32 := icmp_eq.mp c32
            refine z_lload dX6_gcd_53 rfl ?_
            exact z_lreturn dX6_gcd_55 rfl (hQ _ _ ⟨_, rfl, (by
  have : y = 0 := by omega
  subst this
  rw [← hG, Nat.gcd_zero_right]), rfl⟩)
          · have c32 := icmp_ne.mp c32
            refine z_lload dX6_gcd_35 rfl ?_
            refine z_lload dX6_gcd_37 rfl ?_
            refine z_lrem dX6_gcd_39 (by omega) (by omega) (by omega) ?_
            rw [show (x : Int).tmod (y : Int) = ((x % y : Nat) : Int) from rfl]
            have my := Nat.mod_lt x (show 0 < y by omega)
            refine z_lstore dX6_gcd_40 (by decide) rfl ?_
            refine z_lload dX6_gcd_42 rfl ?_
            refine z_lstore dX6_gcd_44 (by decide) rfl ?_
            refine z_lload dX6_gcd_46 rfl ?_
            refine z_lstore dX6_gcd_48 (by decide) rfl ?_
            refine z_goto 28 dX6_gcd_50 (by decide) ?_
            refine z_forget 8 ?_
            exact ih28 y (x % y) (by rw [Nat.gcd_comm, ← Nat.gcd_rec, Nat.gcd_comm]; exact hG) (by omega) (by omega)
      have x0 := loop28 _ a.natAbs b.natAbs rfl (by omega) (Nat.lt_succ_self _)
      first | rw [show ((a.natAbs : Nat) : Int) = a from by omega] at x0 | rw [show ((a.natAbs : Nat) : Int) = -a from by omega] at x0
      first | rw [show ((b.natAbs : Nat) : Int) = b from by omega] at x0 | rw [show ((b.natAbs : Nat) : Int) = -b from by omega] at x0
      exact x0
    · have c17 := icmp_lt.mp c17
      refine z_lload_n dX6_gcd_20 rfl ?_
      refine z_lneg dX6_gcd_21 ?_
      refine z_goto 26 dX6_gcd_22 (by decide) ?_
      refine z_lstore dX6_gcd_26 (by decide) rfl ?_
      have loop28 : ∀ (nL9 : Nat) (x : Nat) (y : Nat), (Nat.gcd x y = Int.gcd a b) → (x < 2 ^ 63 ∧ y < 2 ^ 63) → y < nL9 → Z mX6_gcd g 28 [vl a, vx, vl b, vx, vl (x : Int), vx, vl (y : Int), vx, vx, vx] [] h Q := by
        intro nL9
        induction nL9 with
        | zero => intro x y hG hx hnL9; exact absurd hnL9 (Nat.not_lt_zero _)
        | succ nL9 ih28 =>
          intro x y hG hx hnL9
          refine z_lload dX6_gcd_28 rfl ?_
          refine z_lconst (z := 0) dX6_gcd_30 rfl ?_
          refine z_lcmp dX6_gcd_31 (by omega) (by decide) ?_
          refine z_if_eq 53 dX6_gcd_32 (by decide) (icmp_r _ _) (fun c32 => ?_) (fun c32 => ?_)
          · have c32 := icmp_eq.mp c32
            refine z_lload dX6_gcd_53 rfl ?_
            exact z_lreturn dX6_gcd_55 rfl (hQ _ _ ⟨_, rfl, (by
  have : y = 0 := by omega
  subst this
  rw [← hG, Nat.gcd_zero_right]), rfl⟩)
          · have c32 := icmp_ne.mp c32
            refine z_lload dX6_gcd_35 rfl ?_
            refine z_lload dX6_gcd_37 rfl ?_
            refine z_lrem dX6_gcd_39 (by omega) (by omega) (by omega) ?_
            rw [show (x : Int).tmod (y : Int) = ((x % y : Nat) : Int) from rfl]
            have my := Nat.mod_lt x (show 0 < y by omega)
            refine z_lstore dX6_gcd_40 (by decide) rfl ?_
            refine z_lload dX6_gcd_42 rfl ?_
            refine z_lstore dX6_gcd_44 (by decide) rfl ?_
            refine z_lload dX6_gcd_46 rfl ?_
            refine z_lstore dX6_gcd_48 (by decide) rfl ?_
            refine z_goto 28 dX6_gcd_50 (by decide) ?_
            refine z_forget 8 ?_
            exact ih28 y (x % y) (by rw [Nat.gcd_comm, ← Nat.gcd_rec, Nat.gcd_comm]; exact hG) (by omega) (by omega)
      have x0 := loop28 _ a.natAbs b.natAbs rfl (by omega) (Nat.lt_succ_self _)
      first | rw [show ((a.natAbs : Nat) : Int) = a from by omega] at x0 | rw [show ((a.natAbs : Nat) : Int) = -a from by omega] at x0
      first | rw [show ((b.natAbs : Nat) : Int) = b from by omega] at x0 | rw [show ((b.natAbs : Nat) : Int) = -b from by omega] at x0
      exact x0
  · have c3 := icmp_lt.mp c3
    refine z_lload_n dX6_gcd_6 rfl ?_
    refine z_lneg dX6_gcd_7 ?_
    refine z_goto 12 dX6_gcd_8 (by decide) ?_
    refine z_lstore dX6_gcd_12 (by decide) rfl ?_
    refine z_lload_n dX6_gcd_14 rfl ?_
    refine z_lconst (z := 0) dX6_gcd_15 rfl ?_
    refine z_lcmp dX6_gcd_16 (by omega) (by decide) ?_
    refine z_if_ge 25 dX6_gcd_17 (by decide) (icmp_r _ _) (fun c17 => ?_) (fun c17 => ?_)
    · have c17 := icmp_ge.mp c17
      refine z_lload_n dX6_gcd_25 rfl ?_
      refine z_lstore dX6_gcd_26 (by decide) rfl ?_
      have loop28 : ∀ (nL9 : Nat) (x : Nat) (y : Nat), (Nat.gcd x y = Int.gcd a b) → (x < 2 ^ 63 ∧ y < 2 ^ 63) → y < nL9 → Z mX6_gcd g 28 [vl a, vx, vl b, vx, vl (x : Int), vx, vl (y : Int), vx, vx, vx] [] h Q := by
        intro nL9
        induction nL9 with
        | zero => intro x y hG hx hnL9; exact absurd hnL9 (Nat.not_lt_zero _)
        | succ nL9 ih28 =>
          intro x y hG hx hnL9
          refine z_lload dX6_gcd_28 rfl ?_
          refine z_lconst (z := 0) dX6_gcd_30 rfl ?_
          refine z_lcmp dX6_gcd_31 (by omega) (by decide) ?_
          refine z_if_eq 53 dX6_gcd_32 (by decide) (icmp_r _ _) (fun c32 => ?_) (fun c32 => ?_)
          · have c32 := icmp_eq.mp c32
            refine z_lload dX6_gcd_53 rfl ?_
            exact z_lreturn dX6_gcd_55 rfl (hQ _ _ ⟨_, rfl, (by
  have : y = 0 := by omega
  subst this
  rw [← hG, Nat.gcd_zero_right]), rfl⟩)
          · have c32 := icmp_ne.mp c32
            refine z_lload dX6_gcd_35 rfl ?_
            refine z_lload dX6_gcd_37 rfl ?_
            refine z_lrem dX6_gcd_39 (by omega) (by omega) (by omega) ?_
            rw [show (x : Int).tmod (y : Int) = ((x % y : Nat) : Int) from rfl]
            have my := Nat.mod_lt x (show 0 < y by omega)
            refine z_lstore dX6_gcd_40 (by decide) rfl ?_
            refine z_lload dX6_gcd_42 rfl ?_
            refine z_lstore dX6_gcd_44 (by decide) rfl ?_
            refine z_lload dX6_gcd_46 rfl ?_
            refine z_lstore dX6_gcd_48 (by decide) rfl ?_
            refine z_goto 28 dX6_gcd_50 (by decide) ?_
            refine z_forget 8 ?_
            exact ih28 y (x % y) (by rw [Nat.gcd_comm, ← Nat.gcd_rec, Nat.gcd_comm]; exact hG) (by omega) (by omega)
      have x0 := loop28 _ a.natAbs b.natAbs rfl (by omega) (Nat.lt_succ_self _)
      first | rw [show ((a.natAbs : Nat) : Int) = a from by omega] at x0 | rw [show ((a.natAbs : Nat) : Int) = -a from by omega] at x0
      first | rw [show ((b.natAbs : Nat) : Int) = b from by omega] at x0 | rw [show ((b.natAbs : Nat) : Int) = -b from by omega] at x0
      exact x0
    · have c17 := icmp_lt.mp c17
      refine z_lload_n dX6_gcd_20 rfl ?_
      refine z_lneg dX6_gcd_21 ?_
      refine z_goto 26 dX6_gcd_22 (by decide) ?_
      refine z_lstore dX6_gcd_26 (by decide) rfl ?_
      have loop28 : ∀ (nL9 : Nat) (x : Nat) (y : Nat), (Nat.gcd x y = Int.gcd a b) → (x < 2 ^ 63 ∧ y < 2 ^ 63) → y < nL9 → Z mX6_gcd g 28 [vl a, vx, vl b, vx, vl (x : Int), vx, vl (y : Int), vx, vx, vx] [] h Q := by
        intro nL9
        induction nL9 with
        | zero => intro x y hG hx hnL9; exact absurd hnL9 (Nat.not_lt_zero _)
        | succ nL9 ih28 =>
          intro x y hG hx hnL9
          refine z_lload dX6_gcd_28 rfl ?_
          refine z_lconst (z := 0) dX6_gcd_30 rfl ?_
          refine z_lcmp dX6_gcd_31 (by omega) (by decide) ?_
          refine z_if_eq 53 dX6_gcd_32 (by decide) (icmp_r _ _) (fun c32 => ?_) (fun c32 => ?_)
          · have c32 := icmp_eq.mp c32
            refine z_lload dX6_gcd_53 rfl ?_
            exact z_lreturn dX6_gcd_55 rfl (hQ _ _ ⟨_, rfl, (by
  have : y = 0 := by omega
  subst this
  rw [← hG, Nat.gcd_zero_right]), rfl⟩)
          · have c32 := icmp_ne.mp c32
            refine z_lload dX6_gcd_35 rfl ?_
            refine z_lload dX6_gcd_37 rfl ?_
            refine z_lrem dX6_gcd_39 (by omega) (by omega) (by omega) ?_
            rw [show (x : Int).tmod (y : Int) = ((x % y : Nat) : Int) from rfl]
            have my := Nat.mod_lt x (show 0 < y by omega)
            refine z_lstore dX6_gcd_40 (by decide) rfl ?_
            refine z_lload dX6_gcd_42 rfl ?_
            refine z_lstore dX6_gcd_44 (by decide) rfl ?_
            refine z_lload dX6_gcd_46 rfl ?_
            refine z_lstore dX6_gcd_48 (by decide) rfl ?_
            refine z_goto 28 dX6_gcd_50 (by decide) ?_
            refine z_forget 8 ?_
            exact ih28 y (x % y) (by rw [Nat.gcd_comm, ← Nat.gcd_rec, Nat.gcd_comm]; exact hG) (by omega) (by omega)
      have x0 := loop28 _ a.natAbs b.natAbs rfl (by omega) (Nat.lt_succ_self _)
      first | rw [show ((a.natAbs : Nat) : Int) = a from by omega] at x0 | rw [show ((a.natAbs : Nat) : Int) = -a from by omega] at x0
      first | rw [show ((b.natAbs : Nat) : Int) = b from by omega] at x0 | rw [show ((b.natAbs : Nat) : Int) = -b from by omega] at x0
      exact x0
set_option maxRecDepth 100000 in
set_option maxHeartbeats 4000000 in
theorem c_X6_swaps {g : GG} {h : HH} {a b : Nat} (ha : a < 6) (hb : b < 6) : CnV mX6_swaps g [vr 47, vi (a : Int), vi (b : Int)] h (fun h' => h' = setc h 54 (swf a b 6 (h 54))) := by
  refine cn_q (lv := [vr 47, vi (a : Int), vi (b : Int), vx, vx, vx]) tX6_swaps.1 rfl rfl (fun hR Q hQ => ?_)
  refine z_iconst dX6_swaps_0 ?_
  refine z_istore_n dX6_swaps_1 (by decide) rfl ?_
  have loop2 : ∀ (nL9 : Nat) (k : Nat), (k ≤ 6) → 6 - k < nL9 → Z mX6_swaps g 2 [vr 47, vi (a : Int), vi (b : Int), vi (k : Int), vx, vx] [] (setc h 54 (swf a b k (h 54))) Q := by
    intro nL9
    induction nL9 with
    | zero => intro k hk hnL9; exact absurd hnL9 (Nat.not_lt_zero _)
    | succ nL9 ih2 =>
      intro k hk hnL9
      refine z_iload_n dX6_swaps_2 rfl ?_
      refine z_bipush dX6_swaps_3 (by decide) ?_
      refine z_icmp_ge 62 dX6_swaps_5 (by decide) (by omega) (by omega) (fun c5 => ?_) (fun c5 => ?_)
      · exact z_return dX6_swaps_62 rfl (hQ _ _ ⟨rfl, (by rw [show k = 6 from by omega])⟩)
      · refine z_aload_n dX6_swaps_8 rfl ?_
        refine z_getR fX6_29 dX6_swaps_9 (by decide) rfl rfl ?_
        refine z_bipush dX6_swaps_12 (by decide) ?_
        refine z_iload_n dX6_swaps_14 rfl ?_
        refine z_imul dX6_swaps_15 ?_
        refine z_iload_n dX6_swaps_16 rfl ?_
        refine z_iadd dX6_swaps_17 ?_
        rw [show (6 : Int) * (a : Int) + (k : Int) = ((6 * a + k : Nat) : Int) from by omega]
        refine z_laload dX6_swaps_18 (by decide) rfl (by omega) (by omega) (by first | decide | omega) (fun r18 => ?_)
        refine z_lstore dX6_swaps_19 (by decide) rfl ?_
        refine z_aload_n dX6_swaps_21 rfl ?_
        refine z_getR fX6_29 dX6_swaps_22 (by decide) rfl rfl ?_
        refine z_bipush dX6_swaps_25 (by decide) ?_
        refine z_iload_n dX6_swaps_27 rfl ?_
        refine z_imul dX6_swaps_28 ?_
        refine z_iload_n dX6_swaps_29 rfl ?_
        refine z_iadd dX6_swaps_30 ?_
        rw [show (6 : Int) * (a : Int) + (k : Int) = ((6 * a + k : Nat) : Int) from by omega]
        refine z_aload_n dX6_swaps_31 rfl ?_
        refine z_getR fX6_29 dX6_swaps_32 (by decide) rfl rfl ?_
        refine z_bipush dX6_swaps_35 (by decide) ?_
        refine z_iload_n dX6_swaps_37 rfl ?_
        refine z_imul dX6_swaps_38 ?_
        refine z_iload_n dX6_swaps_39 rfl ?_
        refine z_iadd dX6_swaps_40 ?_
        rw [show (6 : Int) * (b : Int) + (k : Int) = ((6 * b + k : Nat) : Int) from by omega]
        refine z_laload dX6_swaps_41 (by decide) rfl (by omega) (by omega) (by first | decide | omega) (fun r41 => ?_)
        refine z_lastore dX6_swaps_42 (by decide) rfl (by omega) (by omega) (by first | decide | omega) (by omega) ?_
        rw [up_s (i := 6 * a + k) rfl]
        refine z_aload_n dX6_swaps_43 rfl ?_
        refine z_getR fX6_29 dX6_swaps_44 (by decide) rfl rfl ?_
        refine z_bipush dX6_swaps_47 (by decide) ?_
        refine z_iload_n dX6_swaps_49 rfl ?_
        refine z_imul dX6_swaps_50 ?_
        refine z_iload_n dX6_swaps_51 rfl ?_
        refine z_iadd dX6_swaps_52 ?_
        rw [show (6 : Int) * (b : Int) + (k : Int) = ((6 * b + k : Nat) : Int) from by omega]
        refine z_lload dX6_swaps_53 rfl ?_
        refine z_lastore dX6_swaps_55 (by decide) rfl (by omega) (by omega) (by first | decide | omega) (by omega) ?_
        rw [up_s (i := 6 * b + k) rfl]
        refine z_iinc dX6_swaps_56 rfl (by decide) rfl ?_
        refine z_goto 2 dX6_swaps_59 (by decide) ?_
        have e9 := swf_s (a := a) (b := b) (k := k) (by omega) (h 54)
        have x0 := ih2 (k + 1) (by omega) (by omega)
        rw [← e9] at x0
        refine z_forget 4 ?_
        exact x0
  have x0 := loop2 _ 0 (by omega) (Nat.lt_succ_self _)
  rw [swf_0, setc_self] at x0
  exact x0

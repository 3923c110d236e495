set_option maxRecDepth 100000 in
set_option maxHeartbeats 4000000 in
theorem c_X6_inverse {g : GG} {h : HH} {p : Nat} (hp : p = 2 ∨ p = 3 ∨ p = 5 ∨ p = 7) {a : Nat} (ha : 1 ≤ a ∧ a < p) : CpL mX6_inverse g [vl (a : Int), vi (p : Int)] h (fun z => ∃ y : Nat, z = y ∧ y < 8 ∧ y * a % p = 1) := by
  refine cn_q (lv := [vl (a : Int), vx, vi (p : Int), vx, vx]) tX6_inverse.1 rfl rfl (fun hR Q hQ => ?_)
  obtain ⟨b, b1, b2⟩ := inv0 ⟨a, by omega⟩ ⟨p, by omega⟩ hp ha.1 ha.2
  have b3 := b.isLt
  refine z_lconst (z := 1) dX6_inverse_0 rfl ?_
  refine z_lstore_n dX6_inverse_1 (by decide) rfl ?_
  have loop2 : ∀ (nL9 : Nat) (y : Nat), (1 ≤ y ∧ y ≤ b.val) → b.val - y < nL9 → Z mX6_inverse g 2 [vl (a : Int), vx, vi (p : Int), vl (y : Int), vx] [] h Q := by
    intro nL9
    induction nL9 with
    | zero => intro y hy hnL9; exact absurd hnL9 (Nat.not_lt_zero _)
    | succ nL9 ih2 =>
      intro y hy hnL9
      refine z_lload_n dX6_inverse_2 rfl ?_
      refine z_lload_n dX6_inverse_3 rfl ?_
      refine z_lmul dX6_inverse_4 ?_
      have m1 : y * a ≤ 7 * 7 := Nat.mul_le_mul (by omega) (by omega)
      rw [show (y : Int) * (a : Int) = ((y * a : Nat) : Int) from rfl]
      refine z_iload_n dX6_inverse_5 rfl ?_
      refine z_i2l dX6_inverse_6 (by omega) ?_
      refine z_lrem dX6_inverse_7 (by omega) (by omega) (by omega) ?_
      rw [show ((y * a : Nat) : Int).tmod (p : Int) = ((y * a % p : Nat) : Int) from rfl]
      have m2 := Nat.mod_lt (y * a) (show 0 < p by omega)
      refine z_lconst (z := 1) dX6_inverse_8 rfl ?_
      refine z_lcmp dX6_inverse_9 (by omega) (by decide) ?_
      refine z_if_eq 20 dX6_inverse_10 (by decide) (icmp_r _ _) (fun c10 => ?_) (fun c10 => ?_)
      · have c10 := icmp_eq.mp c10
        refine z_lload_n dX6_inverse_20 rfl ?_
        exact z_lreturn dX6_inverse_21 rfl (hQ _ _ ⟨_, rfl, ⟨y, rfl, by omega, by omega⟩, rfl⟩)
      · have c10 := icmp_ne.mp c10
        refine z_lload_n dX6_inverse_13 rfl ?_
        refine z_lconst (z := 1) dX6_inverse_14 rfl ?_
        refine z_ladd dX6_inverse_15 ?_
        refine z_lstore_n dX6_inverse_16 (by decide) rfl ?_
        refine z_goto 2 dX6_inverse_17 (by decide) ?_
        have e1 : y ≠ b.val := fun q => by
          have b2 : b.val * a % p = 1 := b2
          rw [← q] at b2; omega
        exact ih2 (y + 1) (by omega) (by omega)
  exact loop2 _ 1 (by omega) (Nat.lt_succ_self _)
set_option maxRecDepth 100000 in
set_option maxHeartbeats 4000000 in
theorem c_X6_clears {g : GG} {h : HH} {p : Nat} (hp : p = 2 ∨ p = 3 ∨ p = 5 ∨ p = 7) {r j R : Nat} (hr : r < R) (hR6 : R ≤ 6) (hj : j < 6) (B : PB p (h 54)) (hv : MM (h 54) r j ≠ 0) : CnV mX6_clears g [vr 47, vi (r : Int), vi (j : Int), vi (R : Int), vi (p : Int)] h (fun h' => ∃ f, h' = setc h 54 f ∧ CQ p r R (h 54) f ∧ PB p f ∧ ∀ a, r < a → a < R → (p : Int) ∣ MM f a j) := by
  refine cn_q (lv := [vr 47, vi (r : Int), vi (j : Int), vi (R : Int), vi (p : Int), vx, vx, vx, vx, vx, vx]) tX6_clears.1 rfl rfl (fun hR Q hQ => ?_)
  have p0 : (0 : Int) < p := by omega
  have p8 : (p : Int) < 8 := by omega
  have Bv := B r j (by omega) hj
  obtain ⟨a, ha⟩ : ∃ a : Nat, MM (h 54) r j = a := ⟨(MM (h 54) r j).toNat, by omega⟩
  refine z_aload_n dX6_clears_0 rfl ?_
  refine z_getR fX6_29 dX6_clears_1 (by decide) rfl rfl ?_
  refine z_bipush dX6_clears_4 (by decide) ?_
  refine z_iload_n dX6_clears_6 rfl ?_
  refine z_imul dX6_clears_7 ?_
  refine z_iload_n dX6_clears_8 rfl ?_
  refine z_iadd dX6_clears_9 ?_
  refine z_laload dX6_clears_10 (by decide) rfl (by omega) (by omega) (by first | decide | omega) (fun r10 => ?_)
  rw [rd5 (f := h 54) (i := r) (j := j) (z := 6 * (r : Int) + (j : Int)) rfl, ha]
  refine z_iload dX6_clears_11 rfl ?_
  refine z_callS_pL (M := mX6_clears) [_, _] tX6_inverse kX6_92 dX6_clears_13 ⟨by decide, by decide⟩ rfl (Nat.le_of_ble_eq_true rfl) rfl (c_X6_inverse hp (a := a) (by omega)) (fun z13 q13 => ?_)
  obtain ⟨y, y1, y2, y3⟩ := q13
  rw [y1]
  refine z_lstore dX6_clears_16 (by decide) rfl ?_
  refine z_iload_n dX6_clears_18 rfl ?_
  refine z_iconst dX6_clears_19 ?_
  refine z_iadd dX6_clears_20 ?_
  refine z_istore dX6_clears_21 (by decide) rfl ?_
  have loop23 : ∀ (nL9 : Nat) (i : Nat) (f : Nat → Int), (r + 1 ≤ i ∧ i ≤ R) → (CD p y r j i 0 (h 54) f) → R - i < nL9 → Z mX6_clears g 23 [vr 47, vi (r : Int), vi (j : Int), vi (R : Int), vi (p : Int), vl (y : Int), vx, vi (i : Int), vx, vx, vx] [] (setc h 54 f) Q := by
    intro nL9
    induction nL9 with
    | zero => intro i f hi hD hnL9; exact absurd hnL9 (Nat.not_lt_zero _)
    | succ nL9 ih23 =>
      intro i f hi hD hnL9
      refine z_iload dX6_clears_23 rfl ?_
      refine z_iload_n dX6_clears_25 rfl ?_
      refine z_icmp_ge 126 dX6_clears_26 (by decide) (by omega) (by omega) (fun c26 => ?_) (fun c26 => ?_)
      · exact z_return dX6_clears_126 rfl (hQ _ _ ⟨rfl, (by
  obtain ⟨c1, c2, c3⟩ := hD.end p0 (by omega) hR6 hr hj B (by rw [ha]; exact inv_of y3)
  exact ⟨f, rfl, c1, c2, c3⟩)⟩)
      · refine z_aload_n dX6_clears_29 rfl ?_
        refine z_getR fX6_29 dX6_clears_30 (by decide) rfl rfl ?_
        refine z_bipush dX6_clears_33 (by decide) ?_
        refine z_iload dX6_clears_35 rfl ?_
        refine z_imul dX6_clears_37 ?_
        refine z_iload_n dX6_clears_38 rfl ?_
        refine z_iadd dX6_clears_39 ?_
        refine z_laload dX6_clears_40 (by decide) rfl (by omega) (by omega) (by first | decide | omega) (fun r40 => ?_)
        rw [rd54 (i := i) (j := j) (z := 6 * (i : Int) + (j : Int)) rfl, hD.old (by omega) hj (by omega)]
        have Bi := B i j (by omega) hj
        have mb := mul8 (a := MM (h 54) i j) (b := (y : Int)) (by omega) (by omega)
        refine z_lload dX6_clears_41 rfl ?_
        refine z_lmul dX6_clears_43 ?_
        refine z_iload dX6_clears_44 rfl ?_
        refine z_i2l dX6_clears_46 (by omega) ?_
        refine z_lrem dX6_clears_47 (by omega) (by omega) (by omega) ?_
        have t0 := Int.tmod_nonneg (p : Int) mb.1
        have t1 := tmod_rg (v := MM (h 54) i j * (y : Int)) p0
        refine z_lstore dX6_clears_48 (by decide) rfl ?_
        refine z_iconst dX6_clears_50 ?_
        refine z_istore dX6_clears_51 (by decide) rfl ?_
        have loop53 : ∀ (nL9 : Nat) (k : Nat) (f : Nat → Int), (k ≤ 6) → (CD p y r j i k (h 54) f) → 6 - k < nL9 → Z mX6_clears g 53 [vr 47, vi (r : Int), vi (j : Int), vi (R : Int), vi (p : Int), vl (y : Int), vx, vi (i : Int), vl ((MM (h 54) i j * (y : Int)).tmod (p : Int)), vx, vi (k : Int)] [] (setc h 54 f) Q := by
          intro nL9
          induction nL9 with
          | zero => intro k f hk hD hnL9; exact absurd hnL9 (Nat.not_lt_zero _)
          | succ nL9 ih53 =>
            intro k f hk hD hnL9
            refine z_iload dX6_clears_53 rfl ?_
            refine z_bipush dX6_clears_55 (by decide) ?_
            refine z_icmp_ge 120 dX6_clears_57 (by decide) (by omega) (by omega) (fun c57 => ?_) (fun c57 => ?_)
            · refine z_iinc dX6_clears_120 rfl (by decide) rfl ?_
              refine z_goto 23 dX6_clears_123 (by decide) ?_
              refine z_forget 8 ?_
              refine z_forget 10 ?_
              exact ih23 (i + 1) f (by omega) (by rw [show k = 6 from by omega] at hD; exact hD.next) (by omega)
            · refine z_aload_n dX6_clears_60 rfl ?_
              refine z_getR fX6_29 dX6_clears_61 (by decide) rfl rfl ?_
              refine z_bipush dX6_clears_64 (by decide) ?_
              refine z_iload dX6_clears_66 rfl ?_
              refine z_imul dX6_clears_68 ?_
              refine z_iload dX6_clears_69 rfl ?_
              refine z_iadd dX6_clears_71 ?_
              refine z_aload_n dX6_clears_72 rfl ?_
              refine z_getR fX6_29 dX6_clears_73 (by decide) rfl rfl ?_
              refine z_bipush dX6_clears_76 (by decide) ?_
              refine z_iload dX6_clears_78 rfl ?_
              refine z_imul dX6_clears_80 ?_
              refine z_iload dX6_clears_81 rfl ?_
              refine z_iadd dX6_clears_83 ?_
              refine z_laload dX6_clears_84 (by decide) rfl (by omega) (by omega) (by first | decide | omega) (fun r84 => ?_)
              refine z_lload dX6_clears_85 rfl ?_
              refine z_aload_n dX6_clears_87 rfl ?_
              refine z_getR fX6_29 dX6_clears_88 (by decide) rfl rfl ?_
              refine z_bipush dX6_clears_91 (by decide) ?_
              refine z_iload_n dX6_clears_93 rfl ?_
              refine z_imul dX6_clears_94 ?_
              refine z_iload dX6_clears_95 rfl ?_
              refine z_iadd dX6_clears_97 ?_
              refine z_laload dX6_clears_98 (by decide) rfl (by omega) (by omega) (by first | decide | omega) (fun r98 => ?_)
              refine z_lmul dX6_clears_99 ?_
              refine z_lsub dX6_clears_100 ?_
              rw [rd54 (i := i) (j := k) (z := 6 * (i : Int) + (k : Int)) rfl, rd54 (i := r) (j := k) (z := 6 * (r : Int) + (k : Int)) rfl, hD.old (by omega) (by omega) (by omega), hD.old (by omega) (by omega) (by omega)]
              have Bk := B i k (by omega) (by omega)
              have Br := B r k (by omega) (by omega)
              have mk := mul8 (a := (MM (h 54) i j * (y : Int)).tmod (p : Int)) (b := MM (h 54) r k) (by omega) (by omega)
              have t2 := tmod_rg (v := MM (h 54) i k - (MM (h 54) i j * (y : Int)).tmod (p : Int) * MM (h 54) r k) p0
              have t3 := pn_r (v := MM (h 54) i k - (MM (h 54) i j * (y : Int)).tmod (p : Int) * MM (h 54) r k) p0
              unfold pn at t3
              refine z_iload dX6_clears_101 rfl ?_
              refine z_i2l dX6_clears_103 (by omega) ?_
              refine z_lrem dX6_clears_104 (by omega) (by omega) (by omega) ?_
              refine z_iload dX6_clears_105 rfl ?_
              refine z_i2l dX6_clears_107 (by omega) ?_
              refine z_ladd dX6_clears_108 ?_
              refine z_iload dX6_clears_109 rfl ?_
              refine z_i2l dX6_clears_111 (by omega) ?_
              refine z_lrem dX6_clears_112 (by omega) (by omega) (by omega) ?_
              refine z_lastore dX6_clears_113 (by decide) rfl (by omega) (by omega) (by first | decide | omega) (by omega) ?_
              rw [up_s (i := 6 * i + k) (by omega)]
              refine z_iinc dX6_clears_114 rfl (by decide) rfl ?_
              refine z_goto 53 dX6_clears_117 (by decide) ?_
              exact ih53 (k + 1) _ (by omega) (hD.put (by omega) (by omega) rfl) (by omega)
        exact loop53 _ 0 f (by omega) hD (Nat.lt_succ_self _)
  have x0 := loop23 _ (r + 1) (h 54) (by omega) CD.zero (Nat.lt_succ_self _)
  rw [setc_self] at x0
  exact x0
set_option maxRecDepth 100000 in
set_option maxHeartbeats 4000000 in
theorem c_X6_lays1 {g : GG} {h : HH} {σ : SG} (W : WF σ) (R : RM (h 48) σ) : CnV mX6_lays g [vr 47, vi 1] h (fun h' => ∃ f, h' = setc h 54 f ∧ ∀ i j, i < sP σ → j < sE σ → MM f i j = ent1 σ i j) := by
  refine cn_q (lv := [vr 47, vi 1, vx]) tX6_lays.1 rfl rfl (fun hR Q hQ => ?_)
  have w1 := W.1
  have w2 := W.2.1
  have w3 := W.2.2.1
  refine z_iconst dX6_lays_0 ?_
  refine z_istore_n dX6_lays_1 (by decide) rfl ?_
  have loop2 : ∀ (nL9 : Nat) (k : Nat) (f : Nat → Int), (k ≤ 36) → (LZ (ent1 σ) (sP σ) (sE σ) k f) → 36 - k < nL9 → Z mX6_lays g 2 [vr 47, vi 1, vi (k : Int)] [] (setc h 54 f) Q := by
    intro nL9
    induction nL9 with
    | zero => intro k f hk hL hnL9; exact absurd hnL9 (Nat.not_lt_zero _)
    | succ nL9 ih2 =>
      intro k f hk hL hnL9
      refine z_iload_n dX6_lays_2 rfl ?_
      refine z_bipush dX6_lays_3 (by decide) ?_
      refine z_icmp_ge 62 dX6_lays_5 (by decide) (by omega) (by omega) (fun c5 => ?_) (fun c5 => ?_)
      · exact z_return dX6_lays_62 rfl (hQ _ _ ⟨rfl, (by
  rw [show k = 36 from by omega] at hL
  exact ⟨f, rfl, hL.all (by omega) (by omega)⟩)⟩)
      · refine z_aload_n dX6_lays_8 rfl ?_
        refine z_getR fX6_29 dX6_lays_9 (by decide) rfl rfl ?_
        refine z_iload_n dX6_lays_12 rfl ?_
        refine z_iload_n dX6_lays_13 rfl ?_
        refine z_bipush dX6_lays_14 (by decide) ?_
        refine z_idiv dX6_lays_16 (by omega) (by decide) (by decide) ?_
        refine z_aload_n dX6_lays_17 rfl ?_
        refine z_iload_n dX6_lays_18 rfl ?_
        refine z_callV_eI (M := mX6_lays) [_] tX6_rows kX6_96 dX6_lays_19 ⟨by decide, rfl, _, _, rfl⟩ ⟨by decide, by decide⟩ rfl (Nat.le_of_ble_eq_true rfl) rfl (c_X6_rows1 (by rw [setc_ne _ _ (by decide)]; exact R)) ?_
        rw [show (k : Int).tdiv 6 = ((k / 6 : Nat) : Int) from rfl]
        refine z_icmp_ge 54 dX6_lays_22 (by decide) (by omega) (by omega) (fun c22 => ?_) (fun c22 => ?_)
        · refine z_lconst (z := 0) dX6_lays_54 rfl ?_
          refine z_lastore dX6_lays_55 (by decide) rfl (by omega) (by omega) (by first | decide | omega) (by omega) ?_
          rw [up_s (i := k) rfl]
          refine z_iinc dX6_lays_56 rfl (by decide) rfl ?_
          refine z_goto 2 dX6_lays_59 (by decide) ?_
          exact ih2 (k + 1) _ (by omega) (hL.put (by rw [if_neg (by omega)])) (by omega)
        · refine z_iload_n dX6_lays_25 rfl ?_
          refine z_bipush dX6_lays_26 (by decide) ?_
          refine z_irem dX6_lays_28 (by omega) (by decide) (by decide) ?_
          refine z_aload_n dX6_lays_29 rfl ?_
          refine z_iload_n dX6_lays_30 rfl ?_
          refine z_callV_eI (M := mX6_lays) [_] tX6_columns kX6_74 dX6_lays_31 ⟨by decide, rfl, _, _, rfl⟩ ⟨by decide, by decide⟩ rfl (Nat.le_of_ble_eq_true rfl) rfl (c_X6_columns1 (by rw [setc_ne _ _ (by decide)]; exact R)) ?_
          rw [show (k : Int).tmod 6 = ((k % 6 : Nat) : Int) from rfl]
          refine z_icmp_ge 54 dX6_lays_34 (by decide) (by omega) (by omega) (fun c34 => ?_) (fun c34 => ?_)
          · refine z_lconst (z := 0) dX6_lays_54 rfl ?_
            refine z_lastore dX6_lays_55 (by decide) rfl (by omega) (by omega) (by first | decide | omega) (by omega) ?_
            rw [up_s (i := k) rfl]
            refine z_iinc dX6_lays_56 rfl (by decide) rfl ?_
            refine z_goto 2 dX6_lays_59 (by decide) ?_
            exact ih2 (k + 1) _ (by omega) (hL.put (by rw [if_neg (by omega)])) (by omega)
          · refine z_aload_n dX6_lays_37 rfl ?_
            refine z_iload_n dX6_lays_38 rfl ?_
            refine z_iload_n dX6_lays_39 rfl ?_
            refine z_bipush dX6_lays_40 (by decide) ?_
            refine z_idiv dX6_lays_42 (by omega) (by decide) (by decide) ?_
            refine z_iload_n dX6_lays_43 rfl ?_
            refine z_bipush dX6_lays_44 (by decide) ?_
            refine z_irem dX6_lays_46 (by omega) (by decide) (by decide) ?_
            rw [show (k : Int).tdiv 6 = ((k / 6 : Nat) : Int) from rfl, show (k : Int).tmod 6 = ((k % 6 : Nat) : Int) from rfl]
            have b9 := ent1_9 σ (k / 6) (k % 6)
            refine z_callV_eI (M := mX6_lays) [_, _, _] tX6_entry kX6_77 dX6_lays_47 ⟨by decide, rfl, _, _, rfl⟩ ⟨by decide, by decide⟩ rfl (Nat.le_of_ble_eq_true rfl) rfl (c_X6_entry1 W (by rw [setc_ne _ _ (by decide)]; exact R) (i := k / 6) (j := k % 6) (by omega) (by omega)) ?_
            refine z_i2l dX6_lays_50 (by omega) ?_
            refine z_goto 55 dX6_lays_51 (by decide) ?_
            refine z_lastore dX6_lays_55 (by decide) rfl (by omega) (by omega) (by first | decide | omega) (by omega) ?_
            rw [up_s (i := k) rfl]
            refine z_iinc dX6_lays_56 rfl (by decide) rfl ?_
            refine z_goto 2 dX6_lays_59 (by decide) ?_
            exact ih2 (k + 1) _ (by omega) (hL.put (by rw [if_pos (by omega)])) (by omega)
  have x0 := loop2 _ 0 (h 54) (by omega) (fun t ht => absurd ht (Nat.not_lt_zero _)) (Nat.lt_succ_self _)
  rw [setc_self] at x0
  exact x0
set_option maxRecDepth 100000 in
set_option maxHeartbeats 4000000 in
theorem c_X6_lays2 {g : GG} {h : HH} {σ : SG} (W : WF σ) (R : RM (h 48) σ) : CnV mX6_lays g [vr 47, vi 2] h (fun h' => ∃ f, h' = setc h 54 f ∧ ∀ i j, i < sE σ → j < sF σ → MM f i j = ent2 σ i j) := by
  refine cn_q (lv := [vr 47, vi 2, vx]) tX6_lays.1 rfl rfl (fun hR Q hQ => ?_)
  have w1 := W.1
  have w2 := W.2.1
  have w3 := W.2.2.1
  refine z_iconst dX6_lays_0 ?_
  refine z_istore_n dX6_lays_1 (by decide) rfl ?_
  have loop2 : ∀ (nL9 : Nat) (k : Nat) (f : Nat → Int), (k ≤ 36) → (LZ (ent2 σ) (sE σ) (sF σ) k f) → 36 - k < nL9 → Z mX6_lays g 2 [vr 47, vi 2, vi (k : Int)] [] (setc h 54 f) Q := by
    intro nL9
    induction nL9 with
    | zero => intro k f hk hL hnL9; exact absurd hnL9 (Nat.not_lt_zero _)
    | succ nL9 ih2 =>
      intro k f hk hL hnL9
      refine z_iload_n dX6_lays_2 rfl ?_
      refine z_bipush dX6_lays_3 (by decide) ?_
      refine z_icmp_ge 62 dX6_lays_5 (by decide) (by omega) (by omega) (fun c5 => ?_) (fun c5 => ?_)
      · exact z_return dX6_lays_62 rfl (hQ _ _ ⟨rfl, (by
  rw [show k = 36 from by omega] at hL
  exact ⟨f, rfl, hL.all (by omega) (by omega)⟩)⟩)
      · refine z_aload_n dX6_lays_8 rfl ?_
        refine z_getR fX6_29 dX6_lays_9 (by decide) rfl rfl ?_
        refine z_iload_n dX6_lays_12 rfl ?_
        refine z_iload_n dX6_lays_13 rfl ?_
        refine z_bipush dX6_lays_14 (by decide) ?_
        refine z_idiv dX6_lays_16 (by omega) (by decide) (by decide) ?_
        refine z_aload_n dX6_lays_17 rfl ?_
        refine z_iload_n dX6_lays_18 rfl ?_
        refine z_callV_eI (M := mX6_lays) [_] tX6_rows kX6_96 dX6_lays_19 ⟨by decide, rfl, _, _, rfl⟩ ⟨by decide, by decide⟩ rfl (Nat.le_of_ble_eq_true rfl) rfl (c_X6_rows2 (by rw [setc_ne _ _ (by decide)]; exact R)) ?_
        rw [show (k : Int).tdiv 6 = ((k / 6 : Nat) : Int) from rfl]
        refine z_icmp_ge 54 dX6_lays_22 (by decide) (by omega) (by omega) (fun c22 => ?_) (fun c22 => ?_)
        · refine z_lconst (z := 0) dX6_lays_54 rfl ?_
          refine z_lastore dX6_lays_55 (by decide) rfl (by omega) (by omega) (by first | decide | omega) (by omega) ?_
          rw [up_s (i := k) rfl]
          refine z_iinc dX6_lays_56 rfl (by decide) rfl ?_
          refine z_goto 2 dX6_lays_59 (by decide) ?_
          exact ih2 (k + 1) _ (by omega) (hL.put (by rw [if_neg (by omega)])) (by omega)
        · refine z_iload_n dX6_lays_25 rfl ?_
          refine z_bipush dX6_lays_26 (by decide) ?_
          refine z_irem dX6_lays_28 (by omega) (by decide) (by decide) ?_
          refine z_aload_n dX6_lays_29 rfl ?_
          refine z_iload_n dX6_lays_30 rfl ?_
          refine z_callV_eI (M := mX6_lays) [_] tX6_columns kX6_74 dX6_lays_31 ⟨by decide, rfl, _, _, rfl⟩ ⟨by decide, by decide⟩ rfl (Nat.le_of_ble_eq_true rfl) rfl (c_X6_columns2 (by rw [setc_ne _ _ (by decide)]; exact R)) ?_
          rw [show (k : Int).tmod 6 = ((k % 6 : Nat) : Int) from rfl]
          refine z_icmp_ge 54 dX6_lays_34 (by decide) (by omega) (by omega) (fun c34 => ?_) (fun c34 => ?_)
          · refine z_lconst (z := 0) dX6_lays_54 rfl ?_
            refine z_lastore dX6_lays_55 (by decide) rfl (by omega) (by omega) (by first | decide | omega) (by omega) ?_
            rw [up_s (i := k) rfl]
            refine z_iinc dX6_lays_56 rfl (by decide) rfl ?_
            refine z_goto 2 dX6_lays_59 (by decide) ?_
            exact ih2 (k + 1) _ (by omega) (hL.put (by rw [if_neg (by omega)])) (by omega)
          · refine z_aload_n dX6_lays_37 rfl ?_
            refine z_iload_n dX6_lays_38 rfl ?_
            refine z_iload_n dX6_lays_39 rfl ?_
            refine z_bipush dX6_lays_40 (by decide) ?_
            refine z_idiv dX6_lays_42 (by omega) (by decide) (by decide) ?_
            refine z_iload_n dX6_lays_43 rfl ?_
            refine z_bipush dX6_lays_44 (by decide) ?_
            refine z_irem dX6_lays_46 (by omega) (by decide) (by decide) ?_
            rw [show (k : Int).tdiv 6 = ((k / 6 : Nat) : Int) from rfl, show (k : Int).tmod 6 = ((k % 6 : Nat) : Int) from rfl]
            have b9 := ent2_9 W (i := k / 6) (show k % 6 < sF σ by omega)
            refine z_callV_eI (M := mX6_lays) [_, _, _] tX6_entry kX6_77 dX6_lays_47 ⟨by decide, rfl, _, _, rfl⟩ ⟨by decide, by decide⟩ rfl (Nat.le_of_ble_eq_true rfl) rfl (c_X6_entry2 W (by rw [setc_ne _ _ (by decide)]; exact R) (i := k / 6) (j := k % 6) (by omega) (by omega)) ?_
            refine z_i2l dX6_lays_50 (by omega) ?_
            refine z_goto 55 dX6_lays_51 (by decide) ?_
            refine z_lastore dX6_lays_55 (by decide) rfl (by omega) (by omega) (by first | decide | omega) (by omega) ?_
            rw [up_s (i := k) rfl]
            refine z_iinc dX6_lays_56 rfl (by decide) rfl ?_
            refine z_goto 2 dX6_lays_59 (by decide) ?_
            exact ih2 (k + 1) _ (by omega) (hL.put (by rw [if_pos (by omega)])) (by omega)
  have x0 := loop2 _ 0 (h 54) (by omega) (fun t ht => absurd ht (Nat.not_lt_zero _)) (Nat.lt_succ_self _)
  rw [setc_self] at x0
  exact x0

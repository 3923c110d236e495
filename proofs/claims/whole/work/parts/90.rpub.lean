set_option maxRecDepth 100000 in
set_option maxHeartbeats 4000000 in
theorem c_X6_product1 {g : GG} {h : HH} {σ : SG} (W : WF σ) (R : RM (h 48) σ) {a b : Nat} (ha : a < sP σ) (hb : b < sP σ) : CeL mX6_product g [vr 47, vi 1, vi (a : Int), vi (b : Int)] h (prd σ 1 a b) := by
  refine cn_q (lv := [vr 47, vi 1, vi (a : Int), vi (b : Int), vx, vx, vx]) tX6_product.1 rfl rfl (fun hR Q hQ => ?_)
  have w1 := W.1
  have w2 := W.2.1
  have w3 := W.2.2.1
  refine z_iload_n dX6_product_0 rfl ?_
  refine z_iconst dX6_product_1 ?_
  refine z_icmp_ne 14 dX6_product_2 (by decide) (by omega) (by omega) (fun c2 => ?_) (fun c2 => ?_)
  · omega
  · refine z_aload_n dX6_product_5 rfl ?_
    refine z_iconst dX6_product_6 ?_
    refine z_iload_n dX6_product_7 rfl ?_
    refine z_iload_n dX6_product_8 rfl ?_
    refine z_callV_eI (M := mX6_product) [_, _, _] tX6_nearBy kX6_300 dX6_product_9 ⟨by decide, rfl, _, _, rfl⟩ ⟨by decide, by decide⟩ rfl (Nat.le_of_ble_eq_true rfl) rfl (c_X6_near0 W R ha hb) ?_
    have n9 := near0_r W a b
    refine z_i2l dX6_product_12 (by omega) ?_
    exact z_lreturn dX6_product_13 rfl (hQ _ _ ⟨_, rfl, rfl, rfl⟩)
set_option maxRecDepth 100000 in
set_option maxHeartbeats 4000000 in
theorem c_X6_product2 {g : GG} {h : HH} {σ : SG} (W : WF σ) (R : RM (h 48) σ) {a b : Nat} (ha : a < sF σ) (hb : b < sF σ) : CeL mX6_product g [vr 47, vi 2, vi (a : Int), vi (b : Int)] h (prd σ 2 a b) := by
  refine cn_q (lv := [vr 47, vi 2, vi (a : Int), vi (b : Int), vx, vx, vx]) tX6_product.1 rfl rfl (fun hR Q hQ => ?_)
  have w1 := W.1
  have w2 := W.2.1
  have w3 := W.2.2.1
  refine z_iload_n dX6_product_0 rfl ?_
  refine z_iconst dX6_product_1 ?_
  refine z_icmp_ne 14 dX6_product_2 (by decide) (by omega) (by omega) (fun c2 => ?_) (fun c2 => ?_)
  · refine z_lconst (z := 0) dX6_product_14 rfl ?_
    refine z_lstore dX6_product_15 (by decide) rfl ?_
    refine z_iconst dX6_product_17 ?_
    refine z_istore dX6_product_18 (by decide) rfl ?_
    have loop20 : ∀ (nL9 : Nat) (k : Nat), (k ≤ sE σ) → sE σ - k < nL9 → Z mX6_product g 20 [vr 47, vi 2, vi (a : Int), vi (b : Int), vl (ipw k (msr σ) (ryF σ a) (ryF σ b)), vx, vi (k : Int)] [] h Q := by
      intro nL9
      induction nL9 with
      | zero => intro k hk hnL9; exact absurd hnL9 (Nat.not_lt_zero _)
      | succ nL9 ih20 =>
        intro k hk hnL9
        refine z_iload dX6_product_20 rfl ?_
        refine z_aload_n dX6_product_22 rfl ?_
        refine z_getR fX6_7 dX6_product_23 (by decide) rfl rfl ?_
        refine z_iconst dX6_product_26 ?_
        refine z_iaload dX6_product_27 (by decide) rfl (by omega) (by omega) (by first | decide | omega) (fun r27 => ?_)
        rw [show h 48 (Int.toNat 1) = sE σ from rm_E R]
        refine z_icmp_ge 74 dX6_product_28 (by decide) (by omega) (by omega) (fun c28 => ?_) (fun c28 => ?_)
        · refine z_lload dX6_product_74 rfl ?_
          exact z_lreturn dX6_product_76 rfl (hQ _ _ ⟨_, rfl, (by rw [show k = sE σ from by omega]; rfl), rfl⟩)
        · refine z_lload dX6_product_31 rfl ?_
          refine z_aload_n dX6_product_33 rfl ?_
          refine z_iload dX6_product_34 rfl ?_
          refine z_iload_n dX6_product_36 rfl ?_
          refine z_callV_eI (M := mX6_product) [_, _] tX6_two kX6_71 dX6_product_37 ⟨by decide, rfl, _, _, rfl⟩ ⟨by decide, by decide⟩ rfl (Nat.le_of_ble_eq_true rfl) rfl (c_X6_two W R (e := k) (f := a) (by omega) ha) ?_
          have t9ha := ent2_r W ha (i := k)
          refine z_i2l dX6_product_40 (by omega) ?_
          refine z_aload_n dX6_product_41 rfl ?_
          refine z_iload dX6_product_42 rfl ?_
          refine z_iload_n dX6_product_44 rfl ?_
          refine z_callV_eI (M := mX6_product) [_, _] tX6_two kX6_71 dX6_product_45 ⟨by decide, rfl, _, _, rfl⟩ ⟨by decide, by decide⟩ rfl (Nat.le_of_ble_eq_true rfl) rfl (c_X6_two W R (e := k) (f := b) (by omega) hb) ?_
          have t9hb := ent2_r W hb (i := k)
          refine z_i2l dX6_product_48 (by omega) ?_
          refine z_lmul dX6_product_49 ?_
          refine z_bipush dX6_product_50 (by decide) ?_
          refine z_aload_n dX6_product_52 rfl ?_
          refine z_getR fX6_7 dX6_product_53 (by decide) rfl rfl ?_
          refine z_iconst dX6_product_56 ?_
          refine z_iload dX6_product_57 rfl ?_
          refine z_callS_eI (M := mX6_product) [_, _, _] tX6_weight kX6_81 dX6_product_59 ⟨by decide, by decide⟩ rfl (Nat.le_of_ble_eq_true rfl) rfl (c_X6_weightE isB48 W.wb R (by omega)) ?_
          have w9 := W.2.2.2.1 k (by omega)
          refine z_idiv dX6_product_62 (by omega) (by omega) (by omega) ?_
          rw [show (6 : Int).tdiv (sew σ k : Int) = msr σ k from rfl]
          have m9 := msr_r W (e := k) (by omega)
          refine z_i2l dX6_product_63 (by omega) ?_
          refine z_lmul dX6_product_64 ?_
          refine z_ladd dX6_product_65 ?_
          refine z_lstore dX6_product_66 (by decide) rfl ?_
          refine z_iinc dX6_product_68 rfl (by decide) rfl ?_
          refine z_goto 20 dX6_product_71 (by decide) ?_
          exact ih20 (k + 1) (by omega) (by omega)
    exact loop20 _ 0 (by omega) (Nat.lt_succ_self _)
  · omega
set_option maxRecDepth 100000 in
set_option maxHeartbeats 4000000 in
theorem c_X6_against1 {g : GG} {h : HH} {σ : SG} (W : WF σ) (R : RM (h 48) σ) {a c : Nat} (ha : a < sP σ) (hc : c < 3) : CeL mX6_against g [vr 47, vi 1, vi (a : Int), vi (c : Int)] h (agn σ 1 c a) := by
  refine cn_q (lv := [vr 47, vi 1, vi (a : Int), vi (c : Int), vx, vx, vx]) tX6_against.1 rfl rfl (fun hR Q hQ => ?_)
  have w1 := W.1
  have w2 := W.2.1
  have w3 := W.2.2.1
  refine z_iload_n dX6_against_0 rfl ?_
  refine z_iconst dX6_against_1 ?_
  refine z_icmp_ne 13 dX6_against_2 (by decide) (by omega) (by omega) (fun c2 => ?_) (fun c2 => ?_)
  · omega
  · refine z_aload_n dX6_against_5 rfl ?_
    refine z_iload_n dX6_against_6 rfl ?_
    refine z_iload_n dX6_against_7 rfl ?_
    refine z_callV_eI (M := mX6_against) [_, _] tX6_endsAt kX6_318 dX6_against_8 ⟨by decide, rfl, _, _, rfl⟩ ⟨by decide, by decide⟩ rfl (Nat.le_of_ble_eq_true rfl) rfl (c_X6_endsAt W R hc ha) ?_
    have n9 := ends_r W hc (p := a)
    refine z_i2l dX6_against_11 (by omega) ?_
    exact z_lreturn dX6_against_12 rfl (hQ _ _ ⟨_, rfl, rfl, rfl⟩)
set_option maxRecDepth 100000 in
set_option maxHeartbeats 4000000 in
theorem c_X6_against2 {g : GG} {h : HH} {σ : SG} (W : WF σ) (R : RM (h 48) σ) {a c : Nat} (ha : a < sF σ) (hc : c < 3) : CeL mX6_against g [vr 47, vi 2, vi (a : Int), vi (c : Int)] h (agn σ 2 c a) := by
  refine cn_q (lv := [vr 47, vi 2, vi (a : Int), vi (c : Int), vx, vx, vx]) tX6_against.1 rfl rfl (fun hR Q hQ => ?_)
  have w1 := W.1
  have w2 := W.2.1
  have w3 := W.2.2.1
  refine z_iload_n dX6_against_0 rfl ?_
  refine z_iconst dX6_against_1 ?_
  refine z_icmp_ne 13 dX6_against_2 (by decide) (by omega) (by omega) (fun c2 => ?_) (fun c2 => ?_)
  · refine z_lconst (z := 0) dX6_against_13 rfl ?_
    refine z_lstore dX6_against_14 (by decide) rfl ?_
    refine z_iconst dX6_against_16 ?_
    refine z_istore dX6_against_17 (by decide) rfl ?_
    have loop19 : ∀ (nL9 : Nat) (k : Nat), (k ≤ sE σ) → sE σ - k < nL9 → Z mX6_against g 19 [vr 47, vi 2, vi (a : Int), vi (c : Int), vl (ipw k (msr σ) (ryF σ a) (sch σ c)), vx, vi (k : Int)] [] h Q := by
      intro nL9
      induction nL9 with
      | zero => intro k hk hnL9; exact absurd hnL9 (Nat.not_lt_zero _)
      | succ nL9 ih19 =>
        intro k hk hnL9
        refine z_iload dX6_against_19 rfl ?_
        refine z_aload_n dX6_against_21 rfl ?_
        refine z_getR fX6_7 dX6_against_22 (by decide) rfl rfl ?_
        refine z_iconst dX6_against_25 ?_
        refine z_iaload dX6_against_26 (by decide) rfl (by omega) (by omega) (by first | decide | omega) (fun r26 => ?_)
        rw [show h 48 (Int.toNat 1) = sE σ from rm_E R]
        refine z_icmp_ge 81 dX6_against_27 (by decide) (by omega) (by omega) (fun c27 => ?_) (fun c27 => ?_)
        · refine z_lload dX6_against_81 rfl ?_
          exact z_lreturn dX6_against_83 rfl (hQ _ _ ⟨_, rfl, (by rw [show k = sE σ from by omega]; rfl), rfl⟩)
        · refine z_lload dX6_against_30 rfl ?_
          refine z_aload_n dX6_against_32 rfl ?_
          refine z_iload dX6_against_33 rfl ?_
          refine z_iload_n dX6_against_35 rfl ?_
          refine z_callV_eI (M := mX6_against) [_, _] tX6_two kX6_71 dX6_against_36 ⟨by decide, rfl, _, _, rfl⟩ ⟨by decide, by decide⟩ rfl (Nat.le_of_ble_eq_true rfl) rfl (c_X6_two W R (e := k) (f := a) (by omega) ha) ?_
          have t9ha := ent2_r W ha (i := k)
          refine z_i2l dX6_against_39 (by omega) ?_
          refine z_aload_n dX6_against_40 rfl ?_
          refine z_getR fX6_7 dX6_against_41 (by decide) rfl rfl ?_
          refine z_bipush dX6_against_44 (by decide) ?_
          refine z_bipush dX6_against_46 (by decide) ?_
          refine z_iload_n dX6_against_48 rfl ?_
          refine z_imul dX6_against_49 ?_
          refine z_iadd dX6_against_50 ?_
          refine z_iload dX6_against_51 rfl ?_
          refine z_iadd dX6_against_53 ?_
          refine z_iaload dX6_against_54 (by decide) rfl (by omega) (by omega) (by first | decide | omega) (fun r54 => ?_)
          rw [rm_ch R hc (e := k) (by omega) (z := 45 + 6 * (c : Int) + (k : Int)) (by omega)]
          have c9 := W.2.2.2.2.2 c k hc (by omega)
          refine z_i2l dX6_against_55 (by omega) ?_
          refine z_lmul dX6_against_56 ?_
          refine z_bipush dX6_against_57 (by decide) ?_
          refine z_aload_n dX6_against_59 rfl ?_
          refine z_getR fX6_7 dX6_against_60 (by decide) rfl rfl ?_
          refine z_iconst dX6_against_63 ?_
          refine z_iload dX6_against_64 rfl ?_
          refine z_callS_eI (M := mX6_against) [_, _, _] tX6_weight kX6_81 dX6_against_66 ⟨by decide, by decide⟩ rfl (Nat.le_of_ble_eq_true rfl) rfl (c_X6_weightE isB48 W.wb R (by omega)) ?_
          have w9 := W.2.2.2.1 k (by omega)
          refine z_idiv dX6_against_69 (by omega) (by omega) (by omega) ?_
          rw [show (6 : Int).tdiv (sew σ k : Int) = msr σ k from rfl]
          have m9 := msr_r W (e := k) (by omega)
          refine z_i2l dX6_against_70 (by omega) ?_
          refine z_lmul dX6_against_71 ?_
          refine z_ladd dX6_against_72 ?_
          refine z_lstore dX6_against_73 (by decide) rfl ?_
          refine z_iinc dX6_against_75 rfl (by decide) rfl ?_
          refine z_goto 19 dX6_against_78 (by decide) ?_
          exact ih19 (k + 1) (by omega) (by omega)
    exact loop19 _ 0 (by omega) (Nat.lt_succ_self _)
  · omega
set_option maxRecDepth 100000 in
set_option maxHeartbeats 4000000 in
theorem c_X6_rankOfRows {g : GG} {h : HH} {σ : SG} (W : WF σ) (R : RM (h 48) σ) {a : Nat} (ha : a < 2 ^ sP σ) (h0 : 0 < a) : CnI mX6_rankOfRows g [vr 47, vi (a : Int)] h (fun z h' => (∃ y : Nat, z = y ∧ y ≤ 6 ∧ (y = pc6 a ↔ NZr σ a)) ∧ F54 h h') := by
  refine cn_q (lv := [vr 47, vi (a : Int), vx, vx, vx]) tX6_rankOfRows.1 rfl rfl (fun hR Q hQ => ?_)
  have w1 := W.1
  have w2 := W.2.1
  have w3 := W.2.2.1
  have b1 := b_shl (j := sP σ) (by omega)
  have b2 := b_shl (j := sE σ) (by omega)
  have b3 := b_pos (sE σ)
  have ha64 : a < 64 := by omega
  have pa := pc6_r ha64
  have mk := mask1 (C := sE σ) (by omega)
  refine z_iconst dX6_rankOfRows_0 ?_
  refine z_istore_n dX6_rankOfRows_1 (by decide) rfl ?_
  refine z_iload_n dX6_rankOfRows_2 rfl ?_
  refine z_istore_n dX6_rankOfRows_3 (by decide) rfl ?_
  have loop4 : ∀ (nL9 : Nat) (r : Nat) (y : Nat) (f : Nat → Int), (r &&& a = r ∧ r ≤ a) → (RRw σ a r y 0) → r < nL9 → Z mX6_rankOfRows g 4 [vr 47, vi (a : Int), vi (y : Int), vi (r : Int), vx] [] (setc h 54 f) Q := by
    intro nL9
    induction nL9 with
    | zero => intro r y f hr hO hnL9; exact absurd hnL9 (Nat.not_lt_zero _)
    | succ nL9 ih4 =>
      intro r y f hr hO hnL9
      refine z_iload_n dX6_rankOfRows_4 rfl ?_
      refine z_if_le 78 dX6_rankOfRows_5 (by decide) (by omega) (fun c5 => ?_) (fun c5 => ?_)
      · refine z_iload_n dX6_rankOfRows_78 rfl ?_
        exact z_ireturn dX6_rankOfRows_79 rfl (hQ _ _ ⟨_, rfl, ⟨⟨y, rfl, by have := hO.1; omega, hO.2.2 (by omega)⟩, f, rfl⟩⟩)
      · refine z_iconst dX6_rankOfRows_8 ?_
        refine z_istore dX6_rankOfRows_9 (by decide) rfl ?_
        have loop11 : ∀ (nL9 : Nat) (c : Nat) (y : Nat) (f : Nat → Int), (c ≤ 2 ^ sE σ) → (RRw σ a r y c) → 2 ^ sE σ - c < nL9 → Z mX6_rankOfRows g 11 [vr 47, vi (a : Int), vi (y : Int), vi (r : Int), vi (c : Int)] [] (setc h 54 f) Q := by
          intro nL9
          induction nL9 with
          | zero => intro c y f hc hO hnL9; exact absurd hnL9 (Nat.not_lt_zero _)
          | succ nL9 ih11 =>
            intro c y f hc hO hnL9
            refine z_iload dX6_rankOfRows_11 rfl ?_
            refine z_iconst dX6_rankOfRows_13 ?_
            refine z_aload_n dX6_rankOfRows_14 rfl ?_
            refine z_getR fX6_7 dX6_rankOfRows_15 (by decide) rfl rfl ?_
            refine z_iconst dX6_rankOfRows_18 ?_
            refine z_iaload dX6_rankOfRows_19 (by decide) rfl (by omega) (by omega) (by first | decide | omega) (fun r19 => ?_)
            rw [show setc h 54 f 48 (Int.toNat 1) = sE σ from rm_E (rm54 R f)]
            refine z_ishl dX6_rankOfRows_20 ?_
            rw [b2.1]
            refine z_icmp_ge 69 dX6_rankOfRows_21 (by decide) (by omega) (by omega) (fun c21 => ?_) (fun c21 => ?_)
            · refine z_iload_n dX6_rankOfRows_69 rfl ?_
              refine z_iconst dX6_rankOfRows_70 ?_
              refine z_isub dX6_rankOfRows_71 ?_
              refine z_iload_n dX6_rankOfRows_72 rfl ?_
              rw [show (r : Int) - 1 = ((r - 1 : Nat) : Int) from by omega]
              refine z_iand dX6_rankOfRows_73 ?_
              obtain ⟨a1, a2, a3⟩ := b_and2 (x := r - 1) (a := a) (by omega) ha64
              rw [a1]
              refine z_istore_n dX6_rankOfRows_74 (by decide) rfl ?_
              refine z_goto 4 dX6_rankOfRows_75 (by decide) ?_
              refine z_forget 4 ?_
              have hO9 : RRw σ a r y (2 ^ sE σ) := by rw [show 2 ^ sE σ = c from by omega]; exact hO
              exact ih4 ((r - 1) &&& a) y f ⟨a2, by omega⟩ (hO9.next (by omega)) (by omega)
            · refine z_iload dX6_rankOfRows_24 rfl ?_
              have y9 := hO.1
              have pc9 := pc6_r (c := c) (by omega)
              have pr9 := pc6_r (c := r) (by omega)
              refine z_callS_eI (M := mX6_rankOfRows) [_] tX6_ones kX6_99 dX6_rankOfRows_26 ⟨by decide, by decide⟩ rfl (Nat.le_of_ble_eq_true rfl) rfl (c_X6_ones (by omega)) ?_
              refine z_iload_n dX6_rankOfRows_29 rfl ?_
              refine z_callS_eI (M := mX6_rankOfRows) [_] tX6_ones kX6_99 dX6_rankOfRows_30 ⟨by decide, by decide⟩ rfl (Nat.le_of_ble_eq_true rfl) rfl (c_X6_ones (by omega)) ?_
              refine z_icmp_ne 63 dX6_rankOfRows_33 (by decide) (by omega) (by omega) (fun c33 => ?_) (fun c33 => ?_)
              · refine z_iinc dX6_rankOfRows_63 rfl (by decide) rfl ?_
                refine z_goto 11 dX6_rankOfRows_66 (by decide) ?_
                exact ih11 (c + 1) y f (by omega) (hO.same (fun e q => by rw [e] at c33; omega)) (by omega)
              · refine z_iload_n dX6_rankOfRows_36 rfl ?_
                refine z_callS_eI (M := mX6_rankOfRows) [_] tX6_ones kX6_99 dX6_rankOfRows_37 ⟨by decide, by decide⟩ rfl (Nat.le_of_ble_eq_true rfl) rfl (c_X6_ones (by omega)) ?_
                refine z_iload_n dX6_rankOfRows_40 rfl ?_
                refine z_icmp_le 63 dX6_rankOfRows_41 (by decide) (by omega) (by omega) (fun c41 => ?_) (fun c41 => ?_)
                · refine z_iinc dX6_rankOfRows_63 rfl (by decide) rfl ?_
                  refine z_goto 11 dX6_rankOfRows_66 (by decide) ?_
                  exact ih11 (c + 1) y f (by omega) (hO.same (fun e q => Or.inl (by have := hO.1; rw [e] at c41; omega))) (by omega)
                · refine z_aload_n dX6_rankOfRows_44 rfl ?_
                  refine z_iconst dX6_rankOfRows_45 ?_
                  refine z_iload_n dX6_rankOfRows_46 rfl ?_
                  refine z_iload dX6_rankOfRows_47 rfl ?_
                  refine z_iconst dX6_rankOfRows_49 ?_
                  refine z_callV_L (M := mX6_rankOfRows) [_, _, _, _] tX6_minor kX6_113 dX6_rankOfRows_50 ⟨by decide, rfl, _, _, rfl⟩ ⟨by decide, by decide⟩ rfl (Nat.le_of_ble_eq_true rfl) rfl (c_X6_minor (ch := 0) (R := sP σ) (a := 2 ^ sE σ - 1) (A := ent1 σ) (by omega) mk.2 (wd_1 W (rm54 R f) (by decide) mk.1) (r := r) (c := c) (by omega) ((sub_mask (by omega)).mp (by omega)) (by omega)) (fun z50 h50 q50 => ?_)
                  obtain ⟨m1, f1, m2⟩ := q50
                  rw [m1, m2, setc_setc]
                  have b64 := wd_64 (wd_1 (g := g) W R (ch := 0) (by decide) mk.1) (by omega) mk.2 (r := r) (c := c) (by omega) ((sub_mask (by omega)).mp (by omega)) (by omega)
                  refine z_lconst (z := 0) dX6_rankOfRows_53 rfl ?_
                  refine z_lcmp dX6_rankOfRows_54 (by omega) (by decide) ?_
                  refine z_if_eq 63 dX6_rankOfRows_55 (by decide) (icmp_r _ _) (fun c55 => ?_) (fun c55 => ?_)
                  · have c55 := icmp_eq.mp c55
                    refine z_iinc dX6_rankOfRows_63 rfl (by decide) rfl ?_
                    refine z_goto 11 dX6_rankOfRows_66 (by decide) ?_
                    exact ih11 (c + 1) y f1 (by omega) (hO.same (fun e q => Or.inr (by rw [e] at c55; exact c55))) (by omega)
                  · have c55 := icmp_ne.mp c55
                    refine z_iload_n dX6_rankOfRows_58 rfl ?_
                    refine z_callS_eI (M := mX6_rankOfRows) [_] tX6_ones kX6_99 dX6_rankOfRows_59 ⟨by decide, by decide⟩ rfl (Nat.le_of_ble_eq_true rfl) rfl (c_X6_ones (by omega)) ?_
                    refine z_istore_n dX6_rankOfRows_62 (by decide) rfl ?_
                    refine z_iinc dX6_rankOfRows_63 rfl (by decide) rfl ?_
                    refine z_goto 11 dX6_rankOfRows_66 (by decide) ?_
                    exact ih11 (c + 1) (pc6 r) f1 (by omega) (hO.put ha64 hr.1 (by omega) (by omega) c55) (by omega)
        exact loop11 _ 0 y f (by omega) hO (Nat.lt_succ_self _)
  have x0 := loop4 _ a 0 (h 54) (by simp) (RRw.init (by have := pa.2; omega)) (Nat.lt_succ_self _)
  rw [setc_self] at x0
  exact x0

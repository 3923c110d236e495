set_option maxRecDepth 100000 in
set_option maxHeartbeats 4000000 in
theorem c_X6_counts1 {g : GG} {h : HH} {σ : SG} (W : WF σ) (R : RM (h 48) σ) {a : Nat} (ha : a < 2 ^ sE σ) : CeL mX6_counts g [vr 47, vi 1, vi (a : Int)] h (wpP (sew σ) a 1 (sE σ)) := by
  refine cn_q (lv := [vr 47, vi 1, vi (a : Int), vx, vx, vx, vx]) tX6_counts.1 rfl rfl (fun hR Q hQ => ?_)
  have w1 := W.1
  have w2 := W.2.1
  have w3 := W.2.2.1
  have b1 := b_shl (j := sE σ) (by omega)
  have ha64 : a < 64 := by omega
  have ok9 := ha64
  refine z_lconst (z := 1) dX6_counts_0 rfl ?_
  refine z_lstore_n dX6_counts_1 (by decide) rfl ?_
  refine z_iconst dX6_counts_2 ?_
  refine z_istore dX6_counts_3 (by decide) rfl ?_
  have loop5 : ∀ (nL9 : Nat) (k : Nat), (k ≤ sE σ) → sE σ - k < nL9 → Z mX6_counts g 5 [vr 47, vi 1, vi (a : Int), vl (wpP (sew σ) a 1 k), vx, vi (k : Int), vx] [] h Q := by
    intro nL9
    induction nL9 with
    | zero => intro k hk hnL9; exact absurd hnL9 (Nat.not_lt_zero _)
    | succ nL9 ih5 =>
      intro k hk hnL9
      refine z_iload dX6_counts_5 rfl ?_
      refine z_aload_n dX6_counts_7 rfl ?_
      refine z_iload_n dX6_counts_8 rfl ?_
      refine z_callV_eI (M := mX6_counts) [_] tX6_columns kX6_74 dX6_counts_9 ⟨by decide, rfl, _, _, rfl⟩ ⟨by decide, by decide⟩ rfl (Nat.le_of_ble_eq_true rfl) rfl (c_X6_columns1 R) ?_
      refine z_icmp_ge 48 dX6_counts_12 (by decide) (by omega) (by omega) (fun c12 => ?_) (fun c12 => ?_)
      · refine z_iload_n dX6_counts_48 rfl ?_
        refine z_iconst dX6_counts_49 ?_
        refine z_icmp_ne 67 dX6_counts_50 (by decide) (by omega) (by omega) (fun c50 => ?_) (fun c50 => ?_)
        · refine z_lconst (z := 1) dX6_counts_67 rfl ?_
          refine z_lstore dX6_counts_68 (by decide) rfl ?_
          refine z_lload_n dX6_counts_70 rfl ?_
          refine z_lload dX6_counts_71 rfl ?_
          refine z_lmul dX6_counts_73 ?_
          refine z_lload dX6_counts_74 rfl ?_
          refine z_lmul dX6_counts_76 ?_
          exact z_lreturn dX6_counts_77 rfl (hQ _ _ ⟨_, rfl, (by rw [Int.mul_one, Int.mul_one, show sE σ = k from by omega]), rfl⟩)
        · omega
      · refine z_lload_n dX6_counts_15 rfl ?_
        refine z_iload_n dX6_counts_16 rfl ?_
        refine z_iload dX6_counts_17 rfl ?_
        refine z_callS_eI (M := mX6_counts) [_, _] tX6_has kX6_48 dX6_counts_19 ⟨by decide, by decide⟩ rfl (Nat.le_of_ble_eq_true rfl) rfl (c_X6_has (c := a) (j := k) ha64 (by omega)) ?_
        refine z_if_eq 39 dX6_counts_22 (by decide) (bi_r _) (fun c22 => ?_) (fun c22 => ?_)
        · have c22 := bi_eq.mp c22
          refine z_lconst (z := 1) dX6_counts_39 rfl ?_
          refine z_lmul dX6_counts_40 ?_
          refine z_lstore_n dX6_counts_41 (by decide) rfl ?_
          refine z_iinc dX6_counts_42 rfl (by decide) rfl ?_
          refine z_goto 5 dX6_counts_45 (by decide) ?_
          have x0 := ih5 (k + 1) (by omega) (by omega)
          rw [show wpP (sew σ) a 1 (k + 1) = wpP (sew σ) a 1 k * 1 from by rw [Int.mul_one]; exact if_neg c22] at x0
          exact x0
        · have c22 := bi_ne.mp c22
          refine z_aload_n dX6_counts_25 rfl ?_
          refine z_getR fX6_7 dX6_counts_26 (by decide) rfl rfl ?_
          refine z_iload_n dX6_counts_29 rfl ?_
          refine z_iload dX6_counts_30 rfl ?_
          refine z_callS_eI (M := mX6_counts) [_, _, _] tX6_weight kX6_81 dX6_counts_32 ⟨by decide, by decide⟩ rfl (Nat.le_of_ble_eq_true rfl) rfl (c_X6_weightE isB48 W.wb R (by omega)) ?_
          have rw9 : R32 (sew σ k) := by
            have := W.2.2.2.1 k (by omega)
            omega
          refine z_i2l dX6_counts_35 (by omega) ?_
          refine z_goto 40 dX6_counts_36 (by decide) ?_
          refine z_lmul dX6_counts_40 ?_
          refine z_lstore_n dX6_counts_41 (by decide) rfl ?_
          refine z_iinc dX6_counts_42 rfl (by decide) rfl ?_
          refine z_goto 5 dX6_counts_45 (by decide) ?_
          have x0 := ih5 (k + 1) (by omega) (by omega)
          rw [show wpP (sew σ) a 1 (k + 1) = wpP (sew σ) a 1 k * (sew σ k : Int) from if_pos c22] at x0
          exact x0
  exact loop5 _ 0 (by omega) (Nat.lt_succ_self _)
set_option maxRecDepth 100000 in
set_option maxHeartbeats 4000000 in
theorem c_X6_counts2 {g : GG} {h : HH} {σ : SG} (W : WF σ) (R : RM (h 48) σ) {a : Nat} (ha : a < 2 ^ sF σ) : CnL mX6_counts g [vr 47, vi 2, vi (a : Int)] h (fun z h' => F54 h h' ∧ ∃ e : Nat, Dv (ent2 σ) (sE σ) a (pc6 a) e ∧ z = wpP (sfw σ) a ((e : Int) * (e : Int)) (sF σ)) := by
  refine cn_q (lv := [vr 47, vi 2, vi (a : Int), vx, vx, vx, vx]) tX6_counts.1 rfl rfl (fun hR Q hQ => ?_)
  have w1 := W.1
  have w2 := W.2.1
  have w3 := W.2.2.1
  have b1 := b_shl (j := sF σ) (by omega)
  have ha64 : a < 64 := by omega
  have ok := okc_f W (a := a) ha
  refine z_lconst (z := 1) dX6_counts_0 rfl ?_
  refine z_lstore_n dX6_counts_1 (by decide) rfl ?_
  refine z_iconst dX6_counts_2 ?_
  refine z_istore dX6_counts_3 (by decide) rfl ?_
  have loop5 : ∀ (nL9 : Nat) (k : Nat), (k ≤ sF σ) → sF σ - k < nL9 → Z mX6_counts g 5 [vr 47, vi 2, vi (a : Int), vl (wpP (sfw σ) a 1 k), vx, vi (k : Int), vx] [] h Q := by
    intro nL9
    induction nL9 with
    | zero => intro k hk hnL9; exact absurd hnL9 (Nat.not_lt_zero _)
    | succ nL9 ih5 =>
      intro k hk hnL9
      refine z_iload dX6_counts_5 rfl ?_
      refine z_aload_n dX6_counts_7 rfl ?_
      refine z_iload_n dX6_counts_8 rfl ?_
      refine z_callV_eI (M := mX6_counts) [_] tX6_columns kX6_74 dX6_counts_9 ⟨by decide, rfl, _, _, rfl⟩ ⟨by decide, by decide⟩ rfl (Nat.le_of_ble_eq_true rfl) rfl (c_X6_columns2 R) ?_
      refine z_icmp_ge 48 dX6_counts_12 (by decide) (by omega) (by omega) (fun c12 => ?_) (fun c12 => ?_)
      · refine z_iload_n dX6_counts_48 rfl ?_
        refine z_iconst dX6_counts_49 ?_
        refine z_icmp_ne 67 dX6_counts_50 (by decide) (by omega) (by omega) (fun c50 => ?_) (fun c50 => ?_)
        · omega
        · refine z_aload_n dX6_counts_53 rfl ?_
          refine z_iconst dX6_counts_54 ?_
          refine z_iload_n dX6_counts_55 rfl ?_
          refine z_iload_n dX6_counts_56 rfl ?_
          have pa6 := (pc6_r ha64).1
          refine z_callS_eI (M := mX6_counts) [_] tX6_ones kX6_99 dX6_counts_57 ⟨by decide, by decide⟩ rfl (Nat.le_of_ble_eq_true rfl) rfl (c_X6_ones ha64) ?_
          refine z_iconst dX6_counts_60 ?_
          refine z_callV_L (M := mX6_counts) [_, _, _, _] tX6_minorsOf kX6_121 dX6_counts_61 ⟨by decide, rfl, _, _, rfl⟩ ⟨by decide, by decide⟩ rfl (Nat.le_of_ble_eq_true rfl) rfl (c_X6_minorsOf (ch := ((0 : Nat) : Int)) (by omega) ok.1 (wd_2 W R (by decide) ok) (k := pc6 a) (by omega)) (fun z61 h61 q61 => ?_)
          obtain ⟨⟨e, e1, e2, e3⟩, ef⟩ := q61
          rw [e1]
          refine z_goto 68 dX6_counts_64 (by decide) ?_
          refine z_lstore dX6_counts_68 (by decide) rfl ?_
          refine z_lload_n dX6_counts_70 rfl ?_
          refine z_lload dX6_counts_71 rfl ?_
          refine z_lmul dX6_counts_73 ?_
          refine z_lload dX6_counts_74 rfl ?_
          refine z_lmul dX6_counts_76 ?_
          exact z_lreturn dX6_counts_77 rfl (hQ _ _ ⟨_, rfl, ⟨ef, e, dv_cols w2 ok.1 (wd2_bit W ha) e3, by rw [wpP_v (sfw σ) a ((e : Int) * (e : Int)), show sF σ = k from by omega]; exact ct_end _ _⟩⟩)
      · refine z_lload_n dX6_counts_15 rfl ?_
        refine z_iload_n dX6_counts_16 rfl ?_
        refine z_iload dX6_counts_17 rfl ?_
        refine z_callS_eI (M := mX6_counts) [_, _] tX6_has kX6_48 dX6_counts_19 ⟨by decide, by decide⟩ rfl (Nat.le_of_ble_eq_true rfl) rfl (c_X6_has (c := a) (j := k) ha64 (by omega)) ?_
        refine z_if_eq 39 dX6_counts_22 (by decide) (bi_r _) (fun c22 => ?_) (fun c22 => ?_)
        · have c22 := bi_eq.mp c22
          refine z_lconst (z := 1) dX6_counts_39 rfl ?_
          refine z_lmul dX6_counts_40 ?_
          refine z_lstore_n dX6_counts_41 (by decide) rfl ?_
          refine z_iinc dX6_counts_42 rfl (by decide) rfl ?_
          refine z_goto 5 dX6_counts_45 (by decide) ?_
          have x0 := ih5 (k + 1) (by omega) (by omega)
          rw [show wpP (sfw σ) a 1 (k + 1) = wpP (sfw σ) a 1 k * 1 from by rw [Int.mul_one]; exact if_neg c22] at x0
          exact x0
        · have c22 := bi_ne.mp c22
          refine z_aload_n dX6_counts_25 rfl ?_
          refine z_getR fX6_7 dX6_counts_26 (by decide) rfl rfl ?_
          refine z_iload_n dX6_counts_29 rfl ?_
          refine z_iload dX6_counts_30 rfl ?_
          refine z_callS_eI (M := mX6_counts) [_, _, _] tX6_weight kX6_81 dX6_counts_32 ⟨by decide, by decide⟩ rfl (Nat.le_of_ble_eq_true rfl) rfl (c_X6_weightF isB48 W.wb R (by omega)) ?_
          have rw9 : R32 (sfw σ k) := by
            have y := W.2.2.2.2.1 k (by omega)
            have y1 := y.1
            have y2 := y.2.1
            omega
          refine z_i2l dX6_counts_35 (by omega) ?_
          refine z_goto 40 dX6_counts_36 (by decide) ?_
          refine z_lmul dX6_counts_40 ?_
          refine z_lstore_n dX6_counts_41 (by decide) rfl ?_
          refine z_iinc dX6_counts_42 rfl (by decide) rfl ?_
          refine z_goto 5 dX6_counts_45 (by decide) ?_
          have x0 := ih5 (k + 1) (by omega) (by omega)
          rw [show wpP (sfw σ) a 1 (k + 1) = wpP (sfw σ) a 1 k * (sfw σ k : Int) from if_pos c22] at x0
          exact x0
  exact loop5 _ 0 (by omega) (Nat.lt_succ_self _)
set_option maxRecDepth 100000 in
set_option maxHeartbeats 4000000 in
theorem c_X6_treesS {g : GG} {h : HH} {σ : SG} (W : WF σ) (R : RM (h 48) σ) {d p : Int} (hd : R32 d) (hp : R32 p) (h0 : sP σ = 0) : CeL mX6_trees g [vr 47, vi d, vi p] h kSTATE := by
  refine cn_q (lv := [vr 47, vi d, vi p, vx, vx, vx, vx]) tX6_trees.1 rfl rfl (fun hR Q hQ => ?_)
  refine z_aload_n dX6_trees_0 rfl ?_
  refine z_callV_eI (M := mX6_trees) [] tX6_isComplex kX6_244 dX6_trees_1 ⟨by decide, rfl, _, _, rfl⟩ ⟨by decide, by decide⟩ rfl (Nat.le_of_ble_eq_true rfl) rfl (c_X6_isComplex W.wb R) ?_
  refine z_if_ne 11 dX6_trees_4 (by decide) (bi_r _) (fun c4 => ?_) (fun c4 => ?_)
  · have c4 := bi_ne.mp c4
    omega
  · have c4 := bi_eq.mp c4
    refine z_ldc2 (-1000002) dX6_trees_7 qX6_369 rfl ?_
    exact z_lreturn dX6_trees_10 rfl (hQ _ _ ⟨_, rfl, rfl, rfl⟩)
set_option maxRecDepth 100000 in
set_option maxHeartbeats 4000000 in
theorem c_X6_treesO {g : GG} {h : HH} {σ : SG} (W : WF σ) (R : RM (h 48) σ) {d p : Int} (hd : R32 d) (hp : R32 p) (h0 : 0 < sP σ) (ho : ¬ (1 ≤ d ∧ d ≤ 2 ∧ 0 ≤ p ∧ p ≤ 1)) : CeL mX6_trees g [vr 47, vi d, vi p] h kBAD := by
  refine cn_q (lv := [vr 47, vi d, vi p, vx, vx, vx, vx]) tX6_trees.1 rfl rfl (fun hR Q hQ => ?_)
  refine z_aload_n dX6_trees_0 rfl ?_
  refine z_callV_eI (M := mX6_trees) [] tX6_isComplex kX6_244 dX6_trees_1 ⟨by decide, rfl, _, _, rfl⟩ ⟨by decide, by decide⟩ rfl (Nat.le_of_ble_eq_true rfl) rfl (c_X6_isComplex W.wb R) ?_
  refine z_if_ne 11 dX6_trees_4 (by decide) (bi_r _) (fun c4 => ?_) (fun c4 => ?_)
  · have c4 := bi_ne.mp c4
    refine z_iload_n dX6_trees_11 rfl ?_
    refine z_i2l dX6_trees_12 (by omega) ?_
    refine z_lconst (z := 1) dX6_trees_13 rfl ?_
    refine z_ldc2 (2) dX6_trees_14 qX6_242 rfl ?_
    refine z_callS_eI (M := mX6_trees) [_, _, _] tX6_in kX6_150 dX6_trees_17 ⟨by decide, by decide⟩ rfl (Nat.le_of_ble_eq_true rfl) rfl (c_X6_in (by omega) (by omega) (by omega)) ?_
    refine z_if_eq 33 dX6_trees_20 (by decide) (bi_r _) (fun c20 => ?_) (fun c20 => ?_)
    · have c20 := bi_eq.mp c20
      refine z_ldc2 (-1000001) dX6_trees_33 qX6_358 rfl ?_
      exact z_lreturn dX6_trees_36 rfl (hQ _ _ ⟨_, rfl, rfl, rfl⟩)
    · have c20 := bi_ne.mp c20
      refine z_iload_n dX6_trees_23 rfl ?_
      refine z_i2l dX6_trees_24 (by omega) ?_
      refine z_lconst (z := 0) dX6_trees_25 rfl ?_
      refine z_lconst (z := 1) dX6_trees_26 rfl ?_
      refine z_callS_eI (M := mX6_trees) [_, _, _] tX6_in kX6_150 dX6_trees_27 ⟨by decide, by decide⟩ rfl (Nat.le_of_ble_eq_true rfl) rfl (c_X6_in (by omega) (by omega) (by omega)) ?_
      refine z_if_ne 37 dX6_trees_30 (by decide) (bi_r _) (fun c30 => ?_) (fun c30 => ?_)
      · have c30 := bi_ne.mp c30
        omega
      · have c30 := bi_eq.mp c30
        refine z_ldc2 (-1000001) dX6_trees_33 qX6_358 rfl ?_
        exact z_lreturn dX6_trees_36 rfl (hQ _ _ ⟨_, rfl, rfl, rfl⟩)
  · have c4 := bi_eq.mp c4
    omega
set_option maxRecDepth 100000 in
set_option maxHeartbeats 4000000 in
theorem c_X6_trees10 {g : GG} {h : HH} {σ : SG} (W : WF σ) (R : RM (h 48) σ) (h0 : 0 < sP σ) : CnL mX6_trees g [vr 47, vi 1, vi 0] h (fun z h' => F54 h h' ∧ ∃ y : Nat, Rk (ent1 σ) (sP σ) (2 ^ sE σ - 1) 0 y ∧ z = sI (2 ^ sE σ) (trT (ent1 σ) (sP σ) y tv0)) := by
  refine cn_q (lv := [vr 47, vi 1, vi 0, vx, vx, vx, vx]) tX6_trees.1 rfl rfl (fun hR Q hQ => ?_)
  have w1 := W.1
  have w2 := W.2.1
  have w3 := W.2.2.1
  have b1 := b_shl (j := sE σ) (by omega)
  have b2 := b_pos (sE σ)
  refine z_aload_n dX6_trees_0 rfl ?_
  refine z_callV_eI (M := mX6_trees) [] tX6_isComplex kX6_244 dX6_trees_1 ⟨by decide, rfl, _, _, rfl⟩ ⟨by decide, by decide⟩ rfl (Nat.le_of_ble_eq_true rfl) rfl (c_X6_isComplex W.wb R) ?_
  refine z_if_ne 11 dX6_trees_4 (by decide) (bi_r _) (fun c4 => ?_) (fun c4 => ?_)
  · have c4 := bi_ne.mp c4
    refine z_iload_n dX6_trees_11 rfl ?_
    refine z_i2l dX6_trees_12 (by omega) ?_
    refine z_lconst (z := 1) dX6_trees_13 rfl ?_
    refine z_ldc2 (2) dX6_trees_14 qX6_242 rfl ?_
    refine z_callS_eI (M := mX6_trees) [_, _, _] tX6_in kX6_150 dX6_trees_17 ⟨by decide, by decide⟩ rfl (Nat.le_of_ble_eq_true rfl) rfl (c_X6_in (by omega) (by omega) (by omega)) ?_
    refine z_if_eq 33 dX6_trees_20 (by decide) (bi_r _) (fun c20 => ?_) (fun c20 => ?_)
    · have c20 := bi_eq.mp c20
      omega
    · have c20 := bi_ne.mp c20
      refine z_iload_n dX6_trees_23 rfl ?_
      refine z_i2l dX6_trees_24 (by omega) ?_
      refine z_lconst (z := 0) dX6_trees_25 rfl ?_
      refine z_lconst (z := 1) dX6_trees_26 rfl ?_
      refine z_callS_eI (M := mX6_trees) [_, _, _] tX6_in kX6_150 dX6_trees_27 ⟨by decide, by decide⟩ rfl (Nat.le_of_ble_eq_true rfl) rfl (c_X6_in (by omega) (by omega) (by omega)) ?_
      refine z_if_ne 37 dX6_trees_30 (by decide) (bi_r _) (fun c30 => ?_) (fun c30 => ?_)
      · have c30 := bi_ne.mp c30
        refine z_aload_n dX6_trees_37 rfl ?_
        refine z_iload_n dX6_trees_38 rfl ?_
        refine z_callV_I (M := mX6_trees) [_] tX6_rankAll kX6_303 dX6_trees_39 ⟨by decide, rfl, _, _, rfl⟩ ⟨by decide, by decide⟩ rfl (Nat.le_of_ble_eq_true rfl) rfl (c_X6_rankAll1 W R) (fun z39 h39 q39 => ?_)
        obtain ⟨⟨y, y1, y2, y3⟩, yf⟩ := q39
        rw [y1]
        have Ry := F54.rm yf R
        refine z_istore_n dX6_trees_42 (by decide) rfl ?_
        refine z_lconst (z := 0) dX6_trees_43 rfl ?_
        refine z_lstore dX6_trees_44 (by decide) rfl ?_
        refine z_iconst dX6_trees_46 ?_
        refine z_istore dX6_trees_47 (by decide) rfl ?_
        have loop49 : ∀ (nL9 : Nat) (s : Nat) (h1 : HH), (s ≤ 2 ^ sE σ) → (F54 h h1) → (RM (h1 48) σ) → 2 ^ sE σ - s < nL9 → Z mX6_trees g 49 [vr 47, vi 1, vi 0, vi (y : Int), vl (sI s (trT (ent1 σ) (sP σ) y tv0)), vx, vi (s : Int)] [] h1 Q := by
          intro nL9
          induction nL9 with
          | zero => intro s h1 hs F1 R1 hnL9; exact absurd hnL9 (Nat.not_lt_zero _)
          | succ nL9 ih49 =>
            intro s h1 hs F1 R1 hnL9
            refine z_iload dX6_trees_49 rfl ?_
            refine z_aload_n dX6_trees_51 rfl ?_
            refine z_iload_n dX6_trees_52 rfl ?_
            refine z_callV_eI (M := mX6_trees) [_] tX6_allColumns kX6_124 dX6_trees_53 ⟨by decide, rfl, _, _, rfl⟩ ⟨by decide, by decide⟩ rfl (Nat.le_of_ble_eq_true rfl) rfl (c_X6_allColumns1 W R1) ?_
            refine z_icmp_gt 106 dX6_trees_56 (by decide) (by omega) (by omega) (fun c56 => ?_) (fun c56 => ?_)
            · refine z_lload dX6_trees_106 rfl ?_
              exact z_lreturn dX6_trees_108 rfl (hQ _ _ ⟨_, rfl, ⟨F1, y, y3, by rw [show 2 ^ sE σ = s from by omega]⟩⟩)
            · refine z_iload dX6_trees_59 rfl ?_
              refine z_callS_eI (M := mX6_trees) [_] tX6_ones kX6_99 dX6_trees_61 ⟨by decide, by decide⟩ rfl (Nat.le_of_ble_eq_true rfl) rfl (c_X6_ones (c := s) (by omega)) ?_
              have ps6 := (pc6_r (c := s) (by omega)).1
              refine z_iload_n dX6_trees_64 rfl ?_
              refine z_icmp_ne 100 dX6_trees_65 (by decide) (by omega) (by omega) (fun c65 => ?_) (fun c65 => ?_)
              · refine z_iinc dX6_trees_100 rfl (by decide) rfl ?_
                refine z_goto 49 dX6_trees_103 (by decide) ?_
                have x0 := ih49 (s + 1) h1 (by omega) F1 R1 (by omega)
                rw [show sI (s + 1) (trT (ent1 σ) (sP σ) y tv0) = sI s (trT (ent1 σ) (sP σ) y tv0) from by rw [sI_s, trT_n (fun q => by have := q.1; omega)]; omega] at x0
                exact x0
              · refine z_aload_n dX6_trees_68 rfl ?_
                refine z_iload_n dX6_trees_69 rfl ?_
                refine z_iload dX6_trees_70 rfl ?_
                refine z_iconst dX6_trees_72 ?_
                refine z_callV_I (M := mX6_trees) [_, _, _] tX6_rankOf kX6_127 dX6_trees_73 ⟨by decide, rfl, _, _, rfl⟩ ⟨by decide, by decide⟩ rfl (Nat.le_of_ble_eq_true rfl) rfl (c_X6_rankOf (ch := 0) (a := s) (by omega) (by omega) (wd_1 W R1 (by decide) (by omega))) (fun z73 h73 q73 => ?_)
                obtain ⟨⟨v, v1, v2, v3⟩, vf⟩ := q73
                rw [v1]
                have R3 := F54.rm vf R1
                have nz := nzs_rk (a := s) (y := y) (by omega) (by omega) (v3)
                have F3 := F54.tr F1 vf
                refine z_iload_n dX6_trees_76 rfl ?_
                refine z_icmp_ne 100 dX6_trees_77 (by decide) (by omega) (by omega) (fun c77 => ?_) (fun c77 => ?_)
                · refine z_iinc dX6_trees_100 rfl (by decide) rfl ?_
                  refine z_goto 49 dX6_trees_103 (by decide) ?_
                  have x0 := ih49 (s + 1) h73 (by omega) F3 R3 (by omega)
                  rw [show sI (s + 1) (trT (ent1 σ) (sP σ) y tv0) = sI s (trT (ent1 σ) (sP σ) y tv0) from by rw [sI_s, trT_n (fun q => by have := nz.mp q.2; omega)]; omega] at x0
                  exact x0
                · refine z_lload dX6_trees_80 rfl ?_
                  refine z_iload_n dX6_trees_82 rfl ?_
                  refine z_if_ne 90 dX6_trees_83 (by decide) (by omega) (fun c83 => ?_) (fun c83 => ?_)
                  · omega
                  · refine z_lconst (z := 1) dX6_trees_86 rfl ?_
                    refine z_goto 97 dX6_trees_87 (by decide) ?_
                    refine z_ladd dX6_trees_97 ?_
                    refine z_lstore dX6_trees_98 (by decide) rfl ?_
                    refine z_iinc dX6_trees_100 rfl (by decide) rfl ?_
                    refine z_goto 49 dX6_trees_103 (by decide) ?_
                    have x0 := ih49 (s + 1) h73 (by omega) F3 R3 (by omega)
                    rw [show sI (s + 1) (trT (ent1 σ) (sP σ) y tv0) = sI s (trT (ent1 σ) (sP σ) y tv0) + 1 from by rw [sI_s, trT_y ⟨by omega, nz.mpr (by omega)⟩]; rfl] at x0
                    exact x0
        exact loop49 _ 0 h39 (by omega) yf Ry (Nat.lt_succ_self _)
      · have c30 := bi_eq.mp c30
        omega
  · have c4 := bi_eq.mp c4
    omega
set_option maxRecDepth 100000 in
set_option maxHeartbeats 4000000 in
theorem c_X6_trees11 {g : GG} {h : HH} {σ : SG} (W : WF σ) (R : RM (h 48) σ) (h0 : 0 < sP σ) : CnL mX6_trees g [vr 47, vi 1, vi 1] h (fun z h' => F54 h h' ∧ ∃ y : Nat, Rk (ent1 σ) (sP σ) (2 ^ sE σ - 1) 0 y ∧ z = sI (2 ^ sE σ) (trT (ent1 σ) (sP σ) y (tv1 σ))) := by
  refine cn_q (lv := [vr 47, vi 1, vi 1, vx, vx, vx, vx]) tX6_trees.1 rfl rfl (fun hR Q hQ => ?_)
  have w1 := W.1
  have w2 := W.2.1
  have w3 := W.2.2.1
  have b1 := b_shl (j := sE σ) (by omega)
  have b2 := b_pos (sE σ)
  refine z_aload_n dX6_trees_0 rfl ?_
  refine z_callV_eI (M := mX6_trees) [] tX6_isComplex kX6_244 dX6_trees_1 ⟨by decide, rfl, _, _, rfl⟩ ⟨by decide, by decide⟩ rfl (Nat.le_of_ble_eq_true rfl) rfl (c_X6_isComplex W.wb R) ?_
  refine z_if_ne 11 dX6_trees_4 (by decide) (bi_r _) (fun c4 => ?_) (fun c4 => ?_)
  · have c4 := bi_ne.mp c4
    refine z_iload_n dX6_trees_11 rfl ?_
    refine z_i2l dX6_trees_12 (by omega) ?_
    refine z_lconst (z := 1) dX6_trees_13 rfl ?_
    refine z_ldc2 (2) dX6_trees_14 qX6_242 rfl ?_
    refine z_callS_eI (M := mX6_trees) [_, _, _] tX6_in kX6_150 dX6_trees_17 ⟨by decide, by decide⟩ rfl (Nat.le_of_ble_eq_true rfl) rfl (c_X6_in (by omega) (by omega) (by omega)) ?_
    refine z_if_eq 33 dX6_trees_20 (by decide) (bi_r _) (fun c20 => ?_) (fun c20 => ?_)
    · have c20 := bi_eq.mp c20
      omega
    · have c20 := bi_ne.mp c20
      refine z_iload_n dX6_trees_23 rfl ?_
      refine z_i2l dX6_trees_24 (by omega) ?_
      refine z_lconst (z := 0) dX6_trees_25 rfl ?_
      refine z_lconst (z := 1) dX6_trees_26 rfl ?_
      refine z_callS_eI (M := mX6_trees) [_, _, _] tX6_in kX6_150 dX6_trees_27 ⟨by decide, by decide⟩ rfl (Nat.le_of_ble_eq_true rfl) rfl (c_X6_in (by omega) (by omega) (by omega)) ?_
      refine z_if_ne 37 dX6_trees_30 (by decide) (bi_r _) (fun c30 => ?_) (fun c30 => ?_)
      · have c30 := bi_ne.mp c30
        refine z_aload_n dX6_trees_37 rfl ?_
        refine z_iload_n dX6_trees_38 rfl ?_
        refine z_callV_I (M := mX6_trees) [_] tX6_rankAll kX6_303 dX6_trees_39 ⟨by decide, rfl, _, _, rfl⟩ ⟨by decide, by decide⟩ rfl (Nat.le_of_ble_eq_true rfl) rfl (c_X6_rankAll1 W R) (fun z39 h39 q39 => ?_)
        obtain ⟨⟨y, y1, y2, y3⟩, yf⟩ := q39
        rw [y1]
        have Ry := F54.rm yf R
        refine z_istore_n dX6_trees_42 (by decide) rfl ?_
        refine z_lconst (z := 0) dX6_trees_43 rfl ?_
        refine z_lstore dX6_trees_44 (by decide) rfl ?_
        refine z_iconst dX6_trees_46 ?_
        refine z_istore dX6_trees_47 (by decide) rfl ?_
        have loop49 : ∀ (nL9 : Nat) (s : Nat) (h1 : HH), (s ≤ 2 ^ sE σ) → (F54 h h1) → (RM (h1 48) σ) → 2 ^ sE σ - s < nL9 → Z mX6_trees g 49 [vr 47, vi 1, vi 1, vi (y : Int), vl (sI s (trT (ent1 σ) (sP σ) y (tv1 σ))), vx, vi (s : Int)] [] h1 Q := by
          intro nL9
          induction nL9 with
          | zero => intro s h1 hs F1 R1 hnL9; exact absurd hnL9 (Nat.not_lt_zero _)
          | succ nL9 ih49 =>
            intro s h1 hs F1 R1 hnL9
            refine z_iload dX6_trees_49 rfl ?_
            refine z_aload_n dX6_trees_51 rfl ?_
            refine z_iload_n dX6_trees_52 rfl ?_
            refine z_callV_eI (M := mX6_trees) [_] tX6_allColumns kX6_124 dX6_trees_53 ⟨by decide, rfl, _, _, rfl⟩ ⟨by decide, by decide⟩ rfl (Nat.le_of_ble_eq_true rfl) rfl (c_X6_allColumns1 W R1) ?_
            refine z_icmp_gt 106 dX6_trees_56 (by decide) (by omega) (by omega) (fun c56 => ?_) (fun c56 => ?_)
            · refine z_lload dX6_trees_106 rfl ?_
              exact z_lreturn dX6_trees_108 rfl (hQ _ _ ⟨_, rfl, ⟨F1, y, y3, by rw [show 2 ^ sE σ = s from by omega]⟩⟩)
            · refine z_iload dX6_trees_59 rfl ?_
              refine z_callS_eI (M := mX6_trees) [_] tX6_ones kX6_99 dX6_trees_61 ⟨by decide, by decide⟩ rfl (Nat.le_of_ble_eq_true rfl) rfl (c_X6_ones (c := s) (by omega)) ?_
              have ps6 := (pc6_r (c := s) (by omega)).1
              refine z_iload_n dX6_trees_64 rfl ?_
              refine z_icmp_ne 100 dX6_trees_65 (by decide) (by omega) (by omega) (fun c65 => ?_) (fun c65 => ?_)
              · refine z_iinc dX6_trees_100 rfl (by decide) rfl ?_
                refine z_goto 49 dX6_trees_103 (by decide) ?_
                have x0 := ih49 (s + 1) h1 (by omega) F1 R1 (by omega)
                rw [show sI (s + 1) (trT (ent1 σ) (sP σ) y (tv1 σ)) = sI s (trT (ent1 σ) (sP σ) y (tv1 σ)) from by rw [sI_s, trT_n (fun q => by have := q.1; omega)]; omega] at x0
                exact x0
              · refine z_aload_n dX6_trees_68 rfl ?_
                refine z_iload_n dX6_trees_69 rfl ?_
                refine z_iload dX6_trees_70 rfl ?_
                refine z_iconst dX6_trees_72 ?_
                refine z_callV_I (M := mX6_trees) [_, _, _] tX6_rankOf kX6_127 dX6_trees_73 ⟨by decide, rfl, _, _, rfl⟩ ⟨by decide, by decide⟩ rfl (Nat.le_of_ble_eq_true rfl) rfl (c_X6_rankOf (ch := 0) (a := s) (by omega) (by omega) (wd_1 W R1 (by decide) (by omega))) (fun z73 h73 q73 => ?_)
                obtain ⟨⟨v, v1, v2, v3⟩, vf⟩ := q73
                rw [v1]
                have R3 := F54.rm vf R1
                have nz := nzs_rk (a := s) (y := y) (by omega) (by omega) (v3)
                have F3 := F54.tr F1 vf
                refine z_iload_n dX6_trees_76 rfl ?_
                refine z_icmp_ne 100 dX6_trees_77 (by decide) (by omega) (by omega) (fun c77 => ?_) (fun c77 => ?_)
                · refine z_iinc dX6_trees_100 rfl (by decide) rfl ?_
                  refine z_goto 49 dX6_trees_103 (by decide) ?_
                  have x0 := ih49 (s + 1) h73 (by omega) F3 R3 (by omega)
                  rw [show sI (s + 1) (trT (ent1 σ) (sP σ) y (tv1 σ)) = sI s (trT (ent1 σ) (sP σ) y (tv1 σ)) from by rw [sI_s, trT_n (fun q => by have := nz.mp q.2; omega)]; omega] at x0
                  exact x0
                · refine z_lload dX6_trees_80 rfl ?_
                  refine z_iload_n dX6_trees_82 rfl ?_
                  refine z_if_ne 90 dX6_trees_83 (by decide) (by omega) (fun c83 => ?_) (fun c83 => ?_)
                  · refine z_aload_n dX6_trees_90 rfl ?_
                    refine z_iload_n dX6_trees_91 rfl ?_
                    refine z_iload dX6_trees_92 rfl ?_
                    refine z_callV_eL (M := mX6_trees) [_, _] tX6_counts kX6_375 dX6_trees_94 ⟨by decide, rfl, _, _, rfl⟩ ⟨by decide, by decide⟩ rfl (Nat.le_of_ble_eq_true rfl) rfl (c_X6_counts1 W R3 (show s < 2 ^ sE σ by omega)) ?_
                    refine z_ladd dX6_trees_97 ?_
                    refine z_lstore dX6_trees_98 (by decide) rfl ?_
                    refine z_iinc dX6_trees_100 rfl (by decide) rfl ?_
                    refine z_goto 49 dX6_trees_103 (by decide) ?_
                    have x0 := ih49 (s + 1) h73 (by omega) F3 R3 (by omega)
                    rw [show sI (s + 1) (trT (ent1 σ) (sP σ) y (tv1 σ)) = sI s (trT (ent1 σ) (sP σ) y (tv1 σ)) + wpP (sew σ) s 1 (sE σ) from by rw [sI_s, trT_y ⟨by omega, nz.mpr (by omega)⟩]; rfl] at x0
                    exact x0
                  · omega
        exact loop49 _ 0 h39 (by omega) yf Ry (Nat.lt_succ_self _)
      · have c30 := bi_eq.mp c30
        omega
  · have c4 := bi_eq.mp c4
    omega
set_option maxRecDepth 100000 in
set_option maxHeartbeats 4000000 in
theorem c_X6_trees20 {g : GG} {h : HH} {σ : SG} (W : WF σ) (R : RM (h 48) σ) (h0 : 0 < sP σ) : CnL mX6_trees g [vr 47, vi 2, vi 0] h (fun z h' => F54 h h' ∧ ∃ y : Nat, Rk (ent2 σ) (sE σ) (2 ^ sF σ - 1) 0 y ∧ z = sI (2 ^ sF σ) (trT (ent2 σ) (sE σ) y tv0)) := by
  refine cn_q (lv := [vr 47, vi 2, vi 0, vx, vx, vx, vx]) tX6_trees.1 rfl rfl (fun hR Q hQ => ?_)
  have w1 := W.1
  have w2 := W.2.1
  have w3 := W.2.2.1
  have b1 := b_shl (j := sF σ) (by omega)
  have b2 := b_pos (sF σ)
  refine z_aload_n dX6_trees_0 rfl ?_
  refine z_callV_eI (M := mX6_trees) [] tX6_isComplex kX6_244 dX6_trees_1 ⟨by decide, rfl, _, _, rfl⟩ ⟨by decide, by decide⟩ rfl (Nat.le_of_ble_eq_true rfl) rfl (c_X6_isComplex W.wb R) ?_
  refine z_if_ne 11 dX6_trees_4 (by decide) (bi_r _) (fun c4 => ?_) (fun c4 => ?_)
  · have c4 := bi_ne.mp c4
    refine z_iload_n dX6_trees_11 rfl ?_
    refine z_i2l dX6_trees_12 (by omega) ?_
    refine z_lconst (z := 1) dX6_trees_13 rfl ?_
    refine z_ldc2 (2) dX6_trees_14 qX6_242 rfl ?_
    refine z_callS_eI (M := mX6_trees) [_, _, _] tX6_in kX6_150 dX6_trees_17 ⟨by decide, by decide⟩ rfl (Nat.le_of_ble_eq_true rfl) rfl (c_X6_in (by omega) (by omega) (by omega)) ?_
    refine z_if_eq 33 dX6_trees_20 (by decide) (bi_r _) (fun c20 => ?_) (fun c20 => ?_)
    · have c20 := bi_eq.mp c20
      omega
    · have c20 := bi_ne.mp c20
      refine z_iload_n dX6_trees_23 rfl ?_
      refine z_i2l dX6_trees_24 (by omega) ?_
      refine z_lconst (z := 0) dX6_trees_25 rfl ?_
      refine z_lconst (z := 1) dX6_trees_26 rfl ?_
      refine z_callS_eI (M := mX6_trees) [_, _, _] tX6_in kX6_150 dX6_trees_27 ⟨by decide, by decide⟩ rfl (Nat.le_of_ble_eq_true rfl) rfl (c_X6_in (by omega) (by omega) (by omega)) ?_
      refine z_if_ne 37 dX6_trees_30 (by decide) (bi_r _) (fun c30 => ?_) (fun c30 => ?_)
      · have c30 := bi_ne.mp c30
        refine z_aload_n dX6_trees_37 rfl ?_
        refine z_iload_n dX6_trees_38 rfl ?_
        refine z_callV_I (M := mX6_trees) [_] tX6_rankAll kX6_303 dX6_trees_39 ⟨by decide, rfl, _, _, rfl⟩ ⟨by decide, by decide⟩ rfl (Nat.le_of_ble_eq_true rfl) rfl (c_X6_rankAll2 W R) (fun z39 h39 q39 => ?_)
        obtain ⟨⟨y, y1, y2, y3⟩, yf⟩ := q39
        rw [y1]
        have Ry := F54.rm yf R
        refine z_istore_n dX6_trees_42 (by decide) rfl ?_
        refine z_lconst (z := 0) dX6_trees_43 rfl ?_
        refine z_lstore dX6_trees_44 (by decide) rfl ?_
        refine z_iconst dX6_trees_46 ?_
        refine z_istore dX6_trees_47 (by decide) rfl ?_
        have loop49 : ∀ (nL9 : Nat) (s : Nat) (h1 : HH), (s ≤ 2 ^ sF σ) → (F54 h h1) → (RM (h1 48) σ) → 2 ^ sF σ - s < nL9 → Z mX6_trees g 49 [vr 47, vi 2, vi 0, vi (y : Int), vl (sI s (trT (ent2 σ) (sE σ) y tv0)), vx, vi (s : Int)] [] h1 Q := by
          intro nL9
          induction nL9 with
          | zero => intro s h1 hs F1 R1 hnL9; exact absurd hnL9 (Nat.not_lt_zero _)
          | succ nL9 ih49 =>
            intro s h1 hs F1 R1 hnL9
            refine z_iload dX6_trees_49 rfl ?_
            refine z_aload_n dX6_trees_51 rfl ?_
            refine z_iload_n dX6_trees_52 rfl ?_
            refine z_callV_eI (M := mX6_trees) [_] tX6_allColumns kX6_124 dX6_trees_53 ⟨by decide, rfl, _, _, rfl⟩ ⟨by decide, by decide⟩ rfl (Nat.le_of_ble_eq_true rfl) rfl (c_X6_allColumns2 W R1) ?_
            refine z_icmp_gt 106 dX6_trees_56 (by decide) (by omega) (by omega) (fun c56 => ?_) (fun c56 => ?_)
            · refine z_lload dX6_trees_106 rfl ?_
              exact z_lreturn dX6_trees_108 rfl (hQ _ _ ⟨_, rfl, ⟨F1, y, y3, by rw [show 2 ^ sF σ = s from by omega]⟩⟩)
            · refine z_iload dX6_trees_59 rfl ?_
              refine z_callS_eI (M := mX6_trees) [_] tX6_ones kX6_99 dX6_trees_61 ⟨by decide, by decide⟩ rfl (Nat.le_of_ble_eq_true rfl) rfl (c_X6_ones (c := s) (by omega)) ?_
              have ps6 := (pc6_r (c := s) (by omega)).1
              refine z_iload_n dX6_trees_64 rfl ?_
              refine z_icmp_ne 100 dX6_trees_65 (by decide) (by omega) (by omega) (fun c65 => ?_) (fun c65 => ?_)
              · refine z_iinc dX6_trees_100 rfl (by decide) rfl ?_
                refine z_goto 49 dX6_trees_103 (by decide) ?_
                have x0 := ih49 (s + 1) h1 (by omega) F1 R1 (by omega)
                rw [show sI (s + 1) (trT (ent2 σ) (sE σ) y tv0) = sI s (trT (ent2 σ) (sE σ) y tv0) from by rw [sI_s, trT_n (fun q => by have := q.1; omega)]; omega] at x0
                exact x0
              · refine z_aload_n dX6_trees_68 rfl ?_
                refine z_iload_n dX6_trees_69 rfl ?_
                refine z_iload dX6_trees_70 rfl ?_
                refine z_iconst dX6_trees_72 ?_
                refine z_callV_I (M := mX6_trees) [_, _, _] tX6_rankOf kX6_127 dX6_trees_73 ⟨by decide, rfl, _, _, rfl⟩ ⟨by decide, by decide⟩ rfl (Nat.le_of_ble_eq_true rfl) rfl (c_X6_rankOf (ch := ((0 : Nat) : Int)) (a := s) (by omega) (by omega) (wd_2 W R1 (by decide) (okc_f W (by omega)))) (fun z73 h73 q73 => ?_)
                obtain ⟨⟨v, v1, v2, v3⟩, vf⟩ := q73
                rw [v1]
                have R3 := F54.rm vf R1
                have nz := nzs_rk (a := s) (y := y) (by omega) (by omega) (rk_cols w2 (by omega) (wd2_bit W (c := 0) (show s < 2 ^ sF σ by omega)) v3)
                have F3 := F54.tr F1 vf
                refine z_iload_n dX6_trees_76 rfl ?_
                refine z_icmp_ne 100 dX6_trees_77 (by decide) (by omega) (by omega) (fun c77 => ?_) (fun c77 => ?_)
                · refine z_iinc dX6_trees_100 rfl (by decide) rfl ?_
                  refine z_goto 49 dX6_trees_103 (by decide) ?_
                  have x0 := ih49 (s + 1) h73 (by omega) F3 R3 (by omega)
                  rw [show sI (s + 1) (trT (ent2 σ) (sE σ) y tv0) = sI s (trT (ent2 σ) (sE σ) y tv0) from by rw [sI_s, trT_n (fun q => by have := nz.mp q.2; omega)]; omega] at x0
                  exact x0
                · refine z_lload dX6_trees_80 rfl ?_
                  refine z_iload_n dX6_trees_82 rfl ?_
                  refine z_if_ne 90 dX6_trees_83 (by decide) (by omega) (fun c83 => ?_) (fun c83 => ?_)
                  · omega
                  · refine z_lconst (z := 1) dX6_trees_86 rfl ?_
                    refine z_goto 97 dX6_trees_87 (by decide) ?_
                    refine z_ladd dX6_trees_97 ?_
                    refine z_lstore dX6_trees_98 (by decide) rfl ?_
                    refine z_iinc dX6_trees_100 rfl (by decide) rfl ?_
                    refine z_goto 49 dX6_trees_103 (by decide) ?_
                    have x0 := ih49 (s + 1) h73 (by omega) F3 R3 (by omega)
                    rw [show sI (s + 1) (trT (ent2 σ) (sE σ) y tv0) = sI s (trT (ent2 σ) (sE σ) y tv0) + 1 from by rw [sI_s, trT_y ⟨by omega, nz.mpr (by omega)⟩]; rfl] at x0
                    exact x0
        exact loop49 _ 0 h39 (by omega) yf Ry (Nat.lt_succ_self _)
      · have c30 := bi_eq.mp c30
        omega
  · have c4 := bi_eq.mp c4
    omega
set_option maxRecDepth 100000 in
set_option maxHeartbeats 4000000 in
theorem c_X6_trees21 {g : GG} {h : HH} {σ : SG} (W : WF σ) (R : RM (h 48) σ) (h0 : 0 < sP σ) : CnL mX6_trees g [vr 47, vi 2, vi 1] h (fun z h' => F54 h h' ∧ ∃ y : Nat, Rk (ent2 σ) (sE σ) (2 ^ sF σ - 1) 0 y ∧ z = sI (2 ^ sF σ) (trT (ent2 σ) (sE σ) y (tv2 σ))) := by
  refine cn_q (lv := [vr 47, vi 2, vi 1, vx, vx, vx, vx]) tX6_trees.1 rfl rfl (fun hR Q hQ => ?_)
  have w1 := W.1
  have w2 := W.2.1
  have w3 := W.2.2.1
  have b1 := b_shl (j := sF σ) (by omega)
  have b2 := b_pos (sF σ)
  refine z_aload_n dX6_trees_0 rfl ?_
  refine z_callV_eI (M := mX6_trees) [] tX6_isComplex kX6_244 dX6_trees_1 ⟨by decide, rfl, _, _, rfl⟩ ⟨by decide, by decide⟩ rfl (Nat.le_of_ble_eq_true rfl) rfl (c_X6_isComplex W.wb R) ?_
  refine z_if_ne 11 dX6_trees_4 (by decide) (bi_r _) (fun c4 => ?_) (fun c4 => ?_)
  · have c4 := bi_ne.mp c4
    refine z_iload_n dX6_trees_11 rfl ?_
    refine z_i2l dX6_trees_12 (by omega) ?_
    refine z_lconst (z := 1) dX6_trees_13 rfl ?_
    refine z_ldc2 (2) dX6_trees_14 qX6_242 rfl ?_
    refine z_callS_eI (M := mX6_trees) [_, _, _] tX6_in kX6_150 dX6_trees_17 ⟨by decide, by decide⟩ rfl (Nat.le_of_ble_eq_true rfl) rfl (c_X6_in (by omega) (by omega) (by omega)) ?_
    refine z_if_eq 33 dX6_trees_20 (by decide) (bi_r _) (fun c20 => ?_) (fun c20 => ?_)
    · have c20 := bi_eq.mp c20
      omega
    · have c20 := bi_ne.mp c20
      refine z_iload_n dX6_trees_23 rfl ?_
      refine z_i2l dX6_trees_24 (by omega) ?_
      refine z_lconst (z := 0) dX6_trees_25 rfl ?_
      refine z_lconst (z := 1) dX6_trees_26 rfl ?_
      refine z_callS_eI (M := mX6_trees) [_, _, _] tX6_in kX6_150 dX6_trees_27 ⟨by decide, by decide⟩ rfl (Nat.le_of_ble_eq_true rfl) rfl (c_X6_in (by omega) (by omega) (by omega)) ?_
      refine z_if_ne 37 dX6_trees_30 (by decide) (bi_r _) (fun c30 => ?_) (fun c30 => ?_)
      · have c30 := bi_ne.mp c30
        refine z_aload_n dX6_trees_37 rfl ?_
        refine z_iload_n dX6_trees_38 rfl ?_
        refine z_callV_I (M := mX6_trees) [_] tX6_rankAll kX6_303 dX6_trees_39 ⟨by decide, rfl, _, _, rfl⟩ ⟨by decide, by decide⟩ rfl (Nat.le_of_ble_eq_true rfl) rfl (c_X6_rankAll2 W R) (fun z39 h39 q39 => ?_)
        obtain ⟨⟨y, y1, y2, y3⟩, yf⟩ := q39
        rw [y1]
        have Ry := F54.rm yf R
        refine z_istore_n dX6_trees_42 (by decide) rfl ?_
        refine z_lconst (z := 0) dX6_trees_43 rfl ?_
        refine z_lstore dX6_trees_44 (by decide) rfl ?_
        refine z_iconst dX6_trees_46 ?_
        refine z_istore dX6_trees_47 (by decide) rfl ?_
        have loop49 : ∀ (nL9 : Nat) (s : Nat) (h1 : HH), (s ≤ 2 ^ sF σ) → (F54 h h1) → (RM (h1 48) σ) → 2 ^ sF σ - s < nL9 → Z mX6_trees g 49 [vr 47, vi 2, vi 1, vi (y : Int), vl (sI s (trT (ent2 σ) (sE σ) y (tv2 σ))), vx, vi (s : Int)] [] h1 Q := by
          intro nL9
          induction nL9 with
          | zero => intro s h1 hs F1 R1 hnL9; exact absurd hnL9 (Nat.not_lt_zero _)
          | succ nL9 ih49 =>
            intro s h1 hs F1 R1 hnL9
            refine z_iload dX6_trees_49 rfl ?_
            refine z_aload_n dX6_trees_51 rfl ?_
            refine z_iload_n dX6_trees_52 rfl ?_
            refine z_callV_eI (M := mX6_trees) [_] tX6_allColumns kX6_124 dX6_trees_53 ⟨by decide, rfl, _, _, rfl⟩ ⟨by decide, by decide⟩ rfl (Nat.le_of_ble_eq_true rfl) rfl (c_X6_allColumns2 W R1) ?_
            refine z_icmp_gt 106 dX6_trees_56 (by decide) (by omega) (by omega) (fun c56 => ?_) (fun c56 => ?_)
            · refine z_lload dX6_trees_106 rfl ?_
              exact z_lreturn dX6_trees_108 rfl (hQ _ _ ⟨_, rfl, ⟨F1, y, y3, by rw [show 2 ^ sF σ = s from by omega]⟩⟩)
            · refine z_iload dX6_trees_59 rfl ?_
              refine z_callS_eI (M := mX6_trees) [_] tX6_ones kX6_99 dX6_trees_61 ⟨by decide, by decide⟩ rfl (Nat.le_of_ble_eq_true rfl) rfl (c_X6_ones (c := s) (by omega)) ?_
              have ps6 := (pc6_r (c := s) (by omega)).1
              refine z_iload_n dX6_trees_64 rfl ?_
              refine z_icmp_ne 100 dX6_trees_65 (by decide) (by omega) (by omega) (fun c65 => ?_) (fun c65 => ?_)
              · refine z_iinc dX6_trees_100 rfl (by decide) rfl ?_
                refine z_goto 49 dX6_trees_103 (by decide) ?_
                have x0 := ih49 (s + 1) h1 (by omega) F1 R1 (by omega)
                rw [show sI (s + 1) (trT (ent2 σ) (sE σ) y (tv2 σ)) = sI s (trT (ent2 σ) (sE σ) y (tv2 σ)) from by rw [sI_s, trT_n (fun q => by have := q.1; omega)]; omega] at x0
                exact x0
              · refine z_aload_n dX6_trees_68 rfl ?_
                refine z_iload_n dX6_trees_69 rfl ?_
                refine z_iload dX6_trees_70 rfl ?_
                refine z_iconst dX6_trees_72 ?_
                refine z_callV_I (M := mX6_trees) [_, _, _] tX6_rankOf kX6_127 dX6_trees_73 ⟨by decide, rfl, _, _, rfl⟩ ⟨by decide, by decide⟩ rfl (Nat.le_of_ble_eq_true rfl) rfl (c_X6_rankOf (ch := ((0 : Nat) : Int)) (a := s) (by omega) (by omega) (wd_2 W R1 (by decide) (okc_f W (by omega)))) (fun z73 h73 q73 => ?_)
                obtain ⟨⟨v, v1, v2, v3⟩, vf⟩ := q73
                rw [v1]
                have R3 := F54.rm vf R1
                have nz := nzs_rk (a := s) (y := y) (by omega) (by omega) (rk_cols w2 (by omega) (wd2_bit W (c := 0) (show s < 2 ^ sF σ by omega)) v3)
                have F3 := F54.tr F1 vf
                refine z_iload_n dX6_trees_76 rfl ?_
                refine z_icmp_ne 100 dX6_trees_77 (by decide) (by omega) (by omega) (fun c77 => ?_) (fun c77 => ?_)
                · refine z_iinc dX6_trees_100 rfl (by decide) rfl ?_
                  refine z_goto 49 dX6_trees_103 (by decide) ?_
                  have x0 := ih49 (s + 1) h73 (by omega) F3 R3 (by omega)
                  rw [show sI (s + 1) (trT (ent2 σ) (sE σ) y (tv2 σ)) = sI s (trT (ent2 σ) (sE σ) y (tv2 σ)) from by rw [sI_s, trT_n (fun q => by have := nz.mp q.2; omega)]; omega] at x0
                  exact x0
                · refine z_lload dX6_trees_80 rfl ?_
                  refine z_iload_n dX6_trees_82 rfl ?_
                  refine z_if_ne 90 dX6_trees_83 (by decide) (by omega) (fun c83 => ?_) (fun c83 => ?_)
                  · refine z_aload_n dX6_trees_90 rfl ?_
                    refine z_iload_n dX6_trees_91 rfl ?_
                    refine z_iload dX6_trees_92 rfl ?_
                    refine z_callV_L (M := mX6_trees) [_, _] tX6_counts kX6_375 dX6_trees_94 ⟨by decide, rfl, _, _, rfl⟩ ⟨by decide, by decide⟩ rfl (Nat.le_of_ble_eq_true rfl) rfl (c_X6_counts2 W R3 (show s < 2 ^ sF σ by omega)) (fun z94 h94 q94 => ?_)
                    obtain ⟨ff, e9, e8, e7⟩ := q94
                    rw [e7]
                    have F4 := F54.tr F3 ff
                    have R4 := F54.rm ff R3
                    refine z_ladd dX6_trees_97 ?_
                    refine z_lstore dX6_trees_98 (by decide) rfl ?_
                    refine z_iinc dX6_trees_100 rfl (by decide) rfl ?_
                    refine z_goto 49 dX6_trees_103 (by decide) ?_
                    have x0 := ih49 (s + 1) h94 (by omega) F4 R4 (by omega)
                    rw [show sI (s + 1) (trT (ent2 σ) (sE σ) y (tv2 σ)) = sI s (trT (ent2 σ) (sE σ) y (tv2 σ)) + wpP (sfw σ) s ((e9 : Int) * (e9 : Int)) (sF σ) from by rw [sI_s, trT_y ⟨by omega, nz.mpr (by omega)⟩]; unfold tv2; rw [gdv_e e8]] at x0
                    exact x0
                  · omega
        exact loop49 _ 0 h39 (by omega) yf Ry (Nat.lt_succ_self _)
      · have c30 := bi_eq.mp c30
        omega
  · have c4 := bi_eq.mp c4
    omega
set_option maxRecDepth 100000 in
set_option maxHeartbeats 4000000 in
theorem c_X6_minorsS {g : GG} {h : HH} {σ : SG} (W : WF σ) (R : RM (h 48) σ) {d : Int} (hd : R32 d) (h0 : sP σ = 0) : CeL mX6_minors g [vr 47, vi d] h kSTATE := by
  refine cn_q (lv := [vr 47, vi d, vx, vx, vx, vx, vx]) tX6_minors.1 rfl rfl (fun hR Q hQ => ?_)
  refine z_aload_n dX6_minors_0 rfl ?_
  refine z_callV_eI (M := mX6_minors) [] tX6_isComplex kX6_244 dX6_minors_1 ⟨by decide, rfl, _, _, rfl⟩ ⟨by decide, by decide⟩ rfl (Nat.le_of_ble_eq_true rfl) rfl (c_X6_isComplex W.wb R) ?_
  refine z_if_ne 11 dX6_minors_4 (by decide) (bi_r _) (fun c4 => ?_) (fun c4 => ?_)
  · have c4 := bi_ne.mp c4
    omega
  · have c4 := bi_eq.mp c4
    refine z_ldc2 (-1000002) dX6_minors_7 qX6_369 rfl ?_
    exact z_lreturn dX6_minors_10 rfl (hQ _ _ ⟨_, rfl, rfl, rfl⟩)
set_option maxRecDepth 100000 in
set_option maxHeartbeats 4000000 in
theorem c_X6_minorsO {g : GG} {h : HH} {σ : SG} (W : WF σ) (R : RM (h 48) σ) {d : Int} (hd : R32 d) (h0 : 0 < sP σ) (ho : ¬ (0 ≤ d ∧ d ≤ 2)) : CeL mX6_minors g [vr 47, vi d] h kBAD := by
  refine cn_q (lv := [vr 47, vi d, vx, vx, vx, vx, vx]) tX6_minors.1 rfl rfl (fun hR Q hQ => ?_)
  refine z_aload_n dX6_minors_0 rfl ?_
  refine z_callV_eI (M := mX6_minors) [] tX6_isComplex kX6_244 dX6_minors_1 ⟨by decide, rfl, _, _, rfl⟩ ⟨by decide, by decide⟩ rfl (Nat.le_of_ble_eq_true rfl) rfl (c_X6_isComplex W.wb R) ?_
  refine z_if_ne 11 dX6_minors_4 (by decide) (bi_r _) (fun c4 => ?_) (fun c4 => ?_)
  · have c4 := bi_ne.mp c4
    refine z_iload_n dX6_minors_11 rfl ?_
    refine z_i2l dX6_minors_12 (by omega) ?_
    refine z_lconst (z := 0) dX6_minors_13 rfl ?_
    refine z_ldc2 (2) dX6_minors_14 qX6_242 rfl ?_
    refine z_callS_eI (M := mX6_minors) [_, _, _] tX6_in kX6_150 dX6_minors_17 ⟨by decide, by decide⟩ rfl (Nat.le_of_ble_eq_true rfl) rfl (c_X6_in (by omega) (by omega) (by omega)) ?_
    refine z_if_ne 27 dX6_minors_20 (by decide) (bi_r _) (fun c20 => ?_) (fun c20 => ?_)
    · have c20 := bi_ne.mp c20
      omega
    · have c20 := bi_eq.mp c20
      refine z_ldc2 (-1000001) dX6_minors_23 qX6_358 rfl ?_
      exact z_lreturn dX6_minors_26 rfl (hQ _ _ ⟨_, rfl, rfl, rfl⟩)
  · have c4 := bi_eq.mp c4
    omega
set_option maxRecDepth 100000 in
set_option maxHeartbeats 4000000 in
theorem c_X6_minors0 {g : GG} {h : HH} {σ : SG} (W : WF σ) (R : RM (h 48) σ) (h0 : 0 < sP σ) : CnL mX6_minors g [vr 47, vi 0] h (fun z h' => F54 h h' ∧ ∃ y : Nat, Rk (ent1 σ) (sP σ) (2 ^ sE σ - 1) 0 y ∧ z = sI (2 ^ sP σ) (pmT (near0 σ) y)) := by
  refine cn_q (lv := [vr 47, vi 0, vx, vx, vx, vx, vx]) tX6_minors.1 rfl rfl (fun hR Q hQ => ?_)
  have w1 := W.1
  have w2 := W.2.1
  have w3 := W.2.2.1
  have b1 := b_shl (j := sP σ) (by omega)
  have b2 := b_pos (sP σ)
  refine z_aload_n dX6_minors_0 rfl ?_
  refine z_callV_eI (M := mX6_minors) [] tX6_isComplex kX6_244 dX6_minors_1 ⟨by decide, rfl, _, _, rfl⟩ ⟨by decide, by decide⟩ rfl (Nat.le_of_ble_eq_true rfl) rfl (c_X6_isComplex W.wb R) ?_
  refine z_if_ne 11 dX6_minors_4 (by decide) (bi_r _) (fun c4 => ?_) (fun c4 => ?_)
  · have c4 := bi_ne.mp c4
    refine z_iload_n dX6_minors_11 rfl ?_
    refine z_i2l dX6_minors_12 (by omega) ?_
    refine z_lconst (z := 0) dX6_minors_13 rfl ?_
    refine z_ldc2 (2) dX6_minors_14 qX6_242 rfl ?_
    refine z_callS_eI (M := mX6_minors) [_, _, _] tX6_in kX6_150 dX6_minors_17 ⟨by decide, by decide⟩ rfl (Nat.le_of_ble_eq_true rfl) rfl (c_X6_in (by omega) (by omega) (by omega)) ?_
    refine z_if_ne 27 dX6_minors_20 (by decide) (bi_r _) (fun c20 => ?_) (fun c20 => ?_)
    · have c20 := bi_ne.mp c20
      refine z_aload_n dX6_minors_27 rfl ?_
      refine z_iload_n dX6_minors_28 rfl ?_
      refine z_iconst dX6_minors_29 ?_
      refine z_icmp_ne 37 dX6_minors_30 (by decide) (by omega) (by omega) (fun c30 => ?_) (fun c30 => ?_)
      · refine z_iconst dX6_minors_37 ?_
        refine z_callV_I (M := mX6_minors) [_] tX6_rankAll kX6_303 dX6_minors_38 ⟨by decide, rfl, _, _, rfl⟩ ⟨by decide, by decide⟩ rfl (Nat.le_of_ble_eq_true rfl) rfl (c_X6_rankAll1 W R) (fun z38 h38 q38 => ?_)
        obtain ⟨⟨y, y1, y2, y3⟩, f0, yf⟩ := q38
        rw [y1, yf]
        have y5 : y ≤ 5 := by have := rk_leR (by omega) y3; omega
        refine z_istore_n dX6_minors_41 (by decide) rfl ?_
        refine z_lconst (z := 0) dX6_minors_42 rfl ?_
        refine z_lstore_n dX6_minors_43 (by decide) rfl ?_
        refine z_iconst dX6_minors_44 ?_
        refine z_istore dX6_minors_45 (by decide) rfl ?_
        have loop47 : ∀ (nL9 : Nat) (s : Nat) (f : Nat → Int), (s ≤ 2 ^ sP σ) → 2 ^ sP σ - s < nL9 → Z mX6_minors g 47 [vr 47, vi 0, vi (y : Int), vl (sI s (pmT (near0 σ) y)), vx, vi (s : Int), vx] [] (setc h 54 f) Q := by
          intro nL9
          induction nL9 with
          | zero => intro s f hs hnL9; exact absurd hnL9 (Nat.not_lt_zero _)
          | succ nL9 ih47 =>
            intro s f hs hnL9
            refine z_iload dX6_minors_47 rfl ?_
            refine z_iconst dX6_minors_49 ?_
            refine z_aload_n dX6_minors_50 rfl ?_
            refine z_iload_n dX6_minors_51 rfl ?_
            refine z_callV_eI (M := mX6_minors) [_] tX6_nearSize kX6_297 dX6_minors_52 ⟨by decide, rfl, _, _, rfl⟩ ⟨by decide, by decide⟩ rfl (Nat.le_of_ble_eq_true rfl) rfl (c_X6_nearSize0 (rm54 R f)) ?_
            refine z_ishl dX6_minors_55 ?_
            rw [b1.1]
            refine z_icmp_ge 140 dX6_minors_56 (by decide) (by omega) (by omega) (fun c56 => ?_) (fun c56 => ?_)
            · refine z_lload_n dX6_minors_140 rfl ?_
              exact z_lreturn dX6_minors_141 rfl (hQ _ _ ⟨_, rfl, ⟨⟨f, rfl⟩, y, y3, by rw [show 2 ^ sP σ = s from by omega]⟩⟩)
            · refine z_iload dX6_minors_59 rfl ?_
              refine z_callS_eI (M := mX6_minors) [_] tX6_ones kX6_99 dX6_minors_61 ⟨by decide, by decide⟩ rfl (Nat.le_of_ble_eq_true rfl) rfl (c_X6_ones (c := s) (by omega)) ?_
              have ps6 := (pc6_r (c := s) (by omega)).1
              refine z_iload_n dX6_minors_64 rfl ?_
              refine z_icmp_ne 134 dX6_minors_65 (by decide) (by omega) (by omega) (fun c65 => ?_) (fun c65 => ?_)
              · refine z_iinc dX6_minors_134 rfl (by decide) rfl ?_
                refine z_goto 47 dX6_minors_137 (by decide) ?_
                have x0 := ih47 (s + 1) f (by omega) (by omega)
                rw [show sI (s + 1) (pmT (near0 σ) y) = sI s (pmT (near0 σ) y) from by rw [sI_s]; unfold pmT; rw [if_neg (by omega)]; omega] at x0
                exact x0
              · have hs2 : s < 2 ^ sP σ := by omega
                refine z_iconst dX6_minors_68 ?_
                refine z_istore dX6_minors_69 (by decide) rfl ?_
                have loop71 : ∀ (nL9 : Nat) (k : Nat) (f : Nat → Int), (k ≤ y * y) → (LY y k (fun i j => near0 σ (nt s i) (nt s j)) f) → y * y - k < nL9 → Z mX6_minors g 71 [vr 47, vi 0, vi (y : Int), vl (sI s (pmT (near0 σ) y)), vx, vi (s : Int), vi (k : Int)] [] (setc h 54 f) Q := by
                  intro nL9
                  induction nL9 with
                  | zero => intro k f hk hL hnL9; exact absurd hnL9 (Nat.not_lt_zero _)
                  | succ nL9 ih71 =>
                    intro k f hk hL hnL9
                    refine z_iload dX6_minors_71 rfl ?_
                    refine z_iload_n dX6_minors_73 rfl ?_
                    refine z_iload_n dX6_minors_74 rfl ?_
                    refine z_imul dX6_minors_75 ?_
                    rw [show (y : Int) * (y : Int) = ((y * y : Nat) : Int) from rfl]
                    have yy := nn_36 (n := y) (by omega)
                    refine z_icmp_ge 126 dX6_minors_76 (by decide) (by omega) (by omega) (fun c76 => ?_) (fun c76 => ?_)
                    · refine z_lload_n dX6_minors_126 rfl ?_
                      have hk9 : k = y * y := by omega
                      subst hk9
                      refine z_aload_n dX6_minors_127 rfl ?_
                      refine z_iload_n dX6_minors_128 rfl ?_
                      refine z_callV_L (M := mX6_minors) [_] tX6_determinant kX6_109 dX6_minors_129 ⟨by decide, rfl, _, _, rfl⟩ ⟨by decide, by decide⟩ rfl (Nat.le_of_ble_eq_true rfl) rfl (c_X6_determinant (n := y) (b := 18) (by omega) (fun i j hi hj => by
    rw [setc_at, hL.all i j hi hj]
    have := near0_r W (nt s i) (nt s j)
    show (near0 σ (nt s i) (nt s j)).natAbs ≤ 18
    omega) (fun k hk => fcb_w y k (by omega) hk)) (fun z129 h129 q129 => ?_)
                      obtain ⟨e1, f2, e2⟩ := q129
                      rw [e1, e2, setc_setc, setc_at]
                      have e3 : dT y (MM f) = mnr (near0 σ) y s s := by
                        rw [mnr_dT (near0 σ) y s s (by omega) (by omega) (by omega) (by omega)]
                        exact dT_congr y fun i j hi hj => hL.all i j hi hj
                      rw [e3]
                      refine z_ladd dX6_minors_132 ?_
                      refine z_lstore_n dX6_minors_133 (by decide) rfl ?_
                      refine z_iinc dX6_minors_134 rfl (by decide) rfl ?_
                      refine z_goto 47 dX6_minors_137 (by decide) ?_
                      refine z_forget 6 ?_
                      have x0 := ih47 (s + 1) f2 (by omega) (by omega)
                      rw [show sI (s + 1) (pmT (near0 σ) y) = sI s (pmT (near0 σ) y) + mnr (near0 σ) y s s from by rw [sI_s]; unfold pmT; rw [if_pos (by omega)]] at x0
                      exact x0
                    · obtain ⟨d1, d2, d3⟩ := nn_dm (show k < y * y by omega)
                      obtain ⟨x, hx⟩ : ∃ x, x = k / y := ⟨_, rfl⟩
                      obtain ⟨w, hw⟩ : ∃ w, w = k % y := ⟨_, rfl⟩
                      rw [← hx] at d2
                      rw [← hw] at d3
                      refine z_aload_n dX6_minors_79 rfl ?_
                      refine z_getR fX6_29 dX6_minors_80 (by decide) rfl rfl ?_
                      refine z_bipush dX6_minors_83 (by decide) ?_
                      refine z_iload dX6_minors_85 rfl ?_
                      refine z_iload_n dX6_minors_87 rfl ?_
                      refine z_idiv dX6_minors_88 (by omega) (by omega) (by omega) ?_
                      rw [show (k : Int).tdiv (y : Int) = ((k / y : Nat) : Int) from rfl, ← hx]
                      refine z_imul dX6_minors_89 ?_
                      refine z_iload dX6_minors_90 rfl ?_
                      refine z_iload_n dX6_minors_92 rfl ?_
                      refine z_irem dX6_minors_93 (by omega) (by omega) (by omega) ?_
                      rw [show (k : Int).tmod (y : Int) = ((k % y : Nat) : Int) from rfl, ← hw]
                      refine z_iadd dX6_minors_94 ?_
                      refine z_aload_n dX6_minors_95 rfl ?_
                      refine z_iload_n dX6_minors_96 rfl ?_
                      refine z_iload dX6_minors_97 rfl ?_
                      refine z_iload dX6_minors_99 rfl ?_
                      refine z_iload_n dX6_minors_101 rfl ?_
                      refine z_idiv dX6_minors_102 (by omega) (by omega) (by omega) ?_
                      rw [show (k : Int).tdiv (y : Int) = ((k / y : Nat) : Int) from rfl, ← hx]
                      refine z_callS_eI (M := mX6_minors) [_, _] tX6_nth kX6_102 dX6_minors_103 ⟨by decide, by decide⟩ rfl (Nat.le_of_ble_eq_true rfl) rfl (c_X6_nth (c := s) (k := x) (by omega) (by omega)) ?_
                      refine z_iload dX6_minors_106 rfl ?_
                      refine z_iload dX6_minors_108 rfl ?_
                      refine z_iload_n dX6_minors_110 rfl ?_
                      refine z_irem dX6_minors_111 (by omega) (by omega) (by omega) ?_
                      rw [show (k : Int).tmod (y : Int) = ((k % y : Nat) : Int) from rfl, ← hw]
                      refine z_callS_eI (M := mX6_minors) [_, _] tX6_nth kX6_102 dX6_minors_112 ⟨by decide, by decide⟩ rfl (Nat.le_of_ble_eq_true rfl) rfl (c_X6_nth (c := s) (k := w) (by omega) (by omega)) ?_
                      refine z_callV_eI (M := mX6_minors) [_, _, _] tX6_nearBy kX6_300 dX6_minors_115 ⟨by decide, rfl, _, _, rfl⟩ ⟨by decide, by decide⟩ rfl (Nat.le_of_ble_eq_true rfl) rfl (c_X6_near0 W (rm54 R f) (nt_C (by omega) hs2 (by omega)) (nt_C (by omega) hs2 (by omega))) ?_
                      have b9 := near0_r W (nt s x) (nt s w)
                      refine z_i2l dX6_minors_118 (by omega) ?_
                      refine z_lastore dX6_minors_119 (by decide) rfl (by omega) (by omega) (by first | decide | omega) (by omega) ?_
                      rw [up_s (i := 6 * x + w) (by omega)]
                      refine z_iinc dX6_minors_120 rfl (by decide) rfl ?_
                      refine z_goto 71 dX6_minors_123 (by decide) ?_
                      have x0 := ih71 (k + 1) _ (by omega) (hL.put (by omega) d1 rfl) (by omega)
                      rw [← hx, ← hw] at x0
                      exact x0
                exact loop71 _ 0 f (by omega) (fun t ht => absurd ht (Nat.not_lt_zero _)) (Nat.lt_succ_self _)
        exact loop47 _ 0 f0 (by omega) (Nat.lt_succ_self _)
      · omega
    · have c20 := bi_eq.mp c20
      omega
  · have c4 := bi_eq.mp c4
    omega
set_option maxRecDepth 100000 in
set_option maxHeartbeats 4000000 in
theorem c_X6_minors1 {g : GG} {h : HH} {σ : SG} (W : WF σ) (R : RM (h 48) σ) (h0 : 0 < sP σ) : CnL mX6_minors g [vr 47, vi 1] h (fun z h' => F54 h h' ∧ ∃ y : Nat, Rk (ent1 σ) (sP σ) (2 ^ sE σ - 1) 0 y ∧ z = sI (2 ^ sE σ) (pmT (near1 σ) y)) := by
  refine cn_q (lv := [vr 47, vi 1, vx, vx, vx, vx, vx]) tX6_minors.1 rfl rfl (fun hR Q hQ => ?_)
  have w1 := W.1
  have w2 := W.2.1
  have w3 := W.2.2.1
  have b1 := b_shl (j := sE σ) (by omega)
  have b2 := b_pos (sE σ)
  refine z_aload_n dX6_minors_0 rfl ?_
  refine z_callV_eI (M := mX6_minors) [] tX6_isComplex kX6_244 dX6_minors_1 ⟨by decide, rfl, _, _, rfl⟩ ⟨by decide, by decide⟩ rfl (Nat.le_of_ble_eq_true rfl) rfl (c_X6_isComplex W.wb R) ?_
  refine z_if_ne 11 dX6_minors_4 (by decide) (bi_r _) (fun c4 => ?_) (fun c4 => ?_)
  · have c4 := bi_ne.mp c4
    refine z_iload_n dX6_minors_11 rfl ?_
    refine z_i2l dX6_minors_12 (by omega) ?_
    refine z_lconst (z := 0) dX6_minors_13 rfl ?_
    refine z_ldc2 (2) dX6_minors_14 qX6_242 rfl ?_
    refine z_callS_eI (M := mX6_minors) [_, _, _] tX6_in kX6_150 dX6_minors_17 ⟨by decide, by decide⟩ rfl (Nat.le_of_ble_eq_true rfl) rfl (c_X6_in (by omega) (by omega) (by omega)) ?_
    refine z_if_ne 27 dX6_minors_20 (by decide) (bi_r _) (fun c20 => ?_) (fun c20 => ?_)
    · have c20 := bi_ne.mp c20
      refine z_aload_n dX6_minors_27 rfl ?_
      refine z_iload_n dX6_minors_28 rfl ?_
      refine z_iconst dX6_minors_29 ?_
      refine z_icmp_ne 37 dX6_minors_30 (by decide) (by omega) (by omega) (fun c30 => ?_) (fun c30 => ?_)
      · refine z_iconst dX6_minors_37 ?_
        refine z_callV_I (M := mX6_minors) [_] tX6_rankAll kX6_303 dX6_minors_38 ⟨by decide, rfl, _, _, rfl⟩ ⟨by decide, by decide⟩ rfl (Nat.le_of_ble_eq_true rfl) rfl (c_X6_rankAll1 W R) (fun z38 h38 q38 => ?_)
        obtain ⟨⟨y, y1, y2, y3⟩, f0, yf⟩ := q38
        rw [y1, yf]
        have y5 : y ≤ 5 := by have := rk_leR (by omega) y3; omega
        refine z_istore_n dX6_minors_41 (by decide) rfl ?_
        refine z_lconst (z := 0) dX6_minors_42 rfl ?_
        refine z_lstore_n dX6_minors_43 (by decide) rfl ?_
        refine z_iconst dX6_minors_44 ?_
        refine z_istore dX6_minors_45 (by decide) rfl ?_
        have loop47 : ∀ (nL9 : Nat) (s : Nat) (f : Nat → Int), (s ≤ 2 ^ sE σ) → 2 ^ sE σ - s < nL9 → Z mX6_minors g 47 [vr 47, vi 1, vi (y : Int), vl (sI s (pmT (near1 σ) y)), vx, vi (s : Int), vx] [] (setc h 54 f) Q := by
          intro nL9
          induction nL9 with
          | zero => intro s f hs hnL9; exact absurd hnL9 (Nat.not_lt_zero _)
          | succ nL9 ih47 =>
            intro s f hs hnL9
            refine z_iload dX6_minors_47 rfl ?_
            refine z_iconst dX6_minors_49 ?_
            refine z_aload_n dX6_minors_50 rfl ?_
            refine z_iload_n dX6_minors_51 rfl ?_
            refine z_callV_eI (M := mX6_minors) [_] tX6_nearSize kX6_297 dX6_minors_52 ⟨by decide, rfl, _, _, rfl⟩ ⟨by decide, by decide⟩ rfl (Nat.le_of_ble_eq_true rfl) rfl (c_X6_nearSize1 (rm54 R f)) ?_
            refine z_ishl dX6_minors_55 ?_
            rw [b1.1]
            refine z_icmp_ge 140 dX6_minors_56 (by decide) (by omega) (by omega) (fun c56 => ?_) (fun c56 => ?_)
            · refine z_lload_n dX6_minors_140 rfl ?_
              exact z_lreturn dX6_minors_141 rfl (hQ _ _ ⟨_, rfl, ⟨⟨f, rfl⟩, y, y3, by rw [show 2 ^ sE σ = s from by omega]⟩⟩)
            · refine z_iload dX6_minors_59 rfl ?_
              refine z_callS_eI (M := mX6_minors) [_] tX6_ones kX6_99 dX6_minors_61 ⟨by decide, by decide⟩ rfl (Nat.le_of_ble_eq_true rfl) rfl (c_X6_ones (c := s) (by omega)) ?_
              have ps6 := (pc6_r (c := s) (by omega)).1
              refine z_iload_n dX6_minors_64 rfl ?_
              refine z_icmp_ne 134 dX6_minors_65 (by decide) (by omega) (by omega) (fun c65 => ?_) (fun c65 => ?_)
              · refine z_iinc dX6_minors_134 rfl (by decide) rfl ?_
                refine z_goto 47 dX6_minors_137 (by decide) ?_
                have x0 := ih47 (s + 1) f (by omega) (by omega)
                rw [show sI (s + 1) (pmT (near1 σ) y) = sI s (pmT (near1 σ) y) from by rw [sI_s]; unfold pmT; rw [if_neg (by omega)]; omega] at x0
                exact x0
              · have hs2 : s < 2 ^ sE σ := by omega
                refine z_iconst dX6_minors_68 ?_
                refine z_istore dX6_minors_69 (by decide) rfl ?_
                have loop71 : ∀ (nL9 : Nat) (k : Nat) (f : Nat → Int), (k ≤ y * y) → (LY y k (fun i j => near1 σ (nt s i) (nt s j)) f) → y * y - k < nL9 → Z mX6_minors g 71 [vr 47, vi 1, vi (y : Int), vl (sI s (pmT (near1 σ) y)), vx, vi (s : Int), vi (k : Int)] [] (setc h 54 f) Q := by
                  intro nL9
                  induction nL9 with
                  | zero => intro k f hk hL hnL9; exact absurd hnL9 (Nat.not_lt_zero _)
                  | succ nL9 ih71 =>
                    intro k f hk hL hnL9
                    refine z_iload dX6_minors_71 rfl ?_
                    refine z_iload_n dX6_minors_73 rfl ?_
                    refine z_iload_n dX6_minors_74 rfl ?_
                    refine z_imul dX6_minors_75 ?_
                    rw [show (y : Int) * (y : Int) = ((y * y : Nat) : Int) from rfl]
                    have yy := nn_36 (n := y) (by omega)
                    refine z_icmp_ge 126 dX6_minors_76 (by decide) (by omega) (by omega) (fun c76 => ?_) (fun c76 => ?_)
                    · refine z_lload_n dX6_minors_126 rfl ?_
                      have hk9 : k = y * y := by omega
                      subst hk9
                      refine z_aload_n dX6_minors_127 rfl ?_
                      refine z_iload_n dX6_minors_128 rfl ?_
                      refine z_callV_L (M := mX6_minors) [_] tX6_determinant kX6_109 dX6_minors_129 ⟨by decide, rfl, _, _, rfl⟩ ⟨by decide, by decide⟩ rfl (Nat.le_of_ble_eq_true rfl) rfl (c_X6_determinant (n := y) (b := 18) (by omega) (fun i j hi hj => by
    rw [setc_at, hL.all i j hi hj]
    have := near1_r W (nt s i) (nt s j)
    show (near1 σ (nt s i) (nt s j)).natAbs ≤ 18
    omega) (fun k hk => fcb_w y k (by omega) hk)) (fun z129 h129 q129 => ?_)
                      obtain ⟨e1, f2, e2⟩ := q129
                      rw [e1, e2, setc_setc, setc_at]
                      have e3 : dT y (MM f) = mnr (near1 σ) y s s := by
                        rw [mnr_dT (near1 σ) y s s (by omega) (by omega) (by omega) (by omega)]
                        exact dT_congr y fun i j hi hj => hL.all i j hi hj
                      rw [e3]
                      refine z_ladd dX6_minors_132 ?_
                      refine z_lstore_n dX6_minors_133 (by decide) rfl ?_
                      refine z_iinc dX6_minors_134 rfl (by decide) rfl ?_
                      refine z_goto 47 dX6_minors_137 (by decide) ?_
                      refine z_forget 6 ?_
                      have x0 := ih47 (s + 1) f2 (by omega) (by omega)
                      rw [show sI (s + 1) (pmT (near1 σ) y) = sI s (pmT (near1 σ) y) + mnr (near1 σ) y s s from by rw [sI_s]; unfold pmT; rw [if_pos (by omega)]] at x0
                      exact x0
                    · obtain ⟨d1, d2, d3⟩ := nn_dm (show k < y * y by omega)
                      obtain ⟨x, hx⟩ : ∃ x, x = k / y := ⟨_, rfl⟩
                      obtain ⟨w, hw⟩ : ∃ w, w = k % y := ⟨_, rfl⟩
                      rw [← hx] at d2
                      rw [← hw] at d3
                      refine z_aload_n dX6_minors_79 rfl ?_
                      refine z_getR fX6_29 dX6_minors_80 (by decide) rfl rfl ?_
                      refine z_bipush dX6_minors_83 (by decide) ?_
                      refine z_iload dX6_minors_85 rfl ?_
                      refine z_iload_n dX6_minors_87 rfl ?_
                      refine z_idiv dX6_minors_88 (by omega) (by omega) (by omega) ?_
                      rw [show (k : Int).tdiv (y : Int) = ((k / y : Nat) : Int) from rfl, ← hx]
                      refine z_imul dX6_minors_89 ?_
                      refine z_iload dX6_minors_90 rfl ?_
                      refine z_iload_n dX6_minors_92 rfl ?_
                      refine z_irem dX6_minors_93 (by omega) (by omega) (by omega) ?_
                      rw [show (k : Int).tmod (y : Int) = ((k % y : Nat) : Int) from rfl, ← hw]
                      refine z_iadd dX6_minors_94 ?_
                      refine z_aload_n dX6_minors_95 rfl ?_
                      refine z_iload_n dX6_minors_96 rfl ?_
                      refine z_iload dX6_minors_97 rfl ?_
                      refine z_iload dX6_minors_99 rfl ?_
                      refine z_iload_n dX6_minors_101 rfl ?_
                      refine z_idiv dX6_minors_102 (by omega) (by omega) (by omega) ?_
                      rw [show (k : Int).tdiv (y : Int) = ((k / y : Nat) : Int) from rfl, ← hx]
                      refine z_callS_eI (M := mX6_minors) [_, _] tX6_nth kX6_102 dX6_minors_103 ⟨by decide, by decide⟩ rfl (Nat.le_of_ble_eq_true rfl) rfl (c_X6_nth (c := s) (k := x) (by omega) (by omega)) ?_
                      refine z_iload dX6_minors_106 rfl ?_
                      refine z_iload dX6_minors_108 rfl ?_
                      refine z_iload_n dX6_minors_110 rfl ?_
                      refine z_irem dX6_minors_111 (by omega) (by omega) (by omega) ?_
                      rw [show (k : Int).tmod (y : Int) = ((k % y : Nat) : Int) from rfl, ← hw]
                      refine z_callS_eI (M := mX6_minors) [_, _] tX6_nth kX6_102 dX6_minors_112 ⟨by decide, by decide⟩ rfl (Nat.le_of_ble_eq_true rfl) rfl (c_X6_nth (c := s) (k := w) (by omega) (by omega)) ?_
                      refine z_callV_eI (M := mX6_minors) [_, _, _] tX6_nearBy kX6_300 dX6_minors_115 ⟨by decide, rfl, _, _, rfl⟩ ⟨by decide, by decide⟩ rfl (Nat.le_of_ble_eq_true rfl) rfl (c_X6_near1 W (rm54 R f) (nt_C (by omega) hs2 (by omega)) (nt_C (by omega) hs2 (by omega))) ?_
                      have b9 := near1_r W (nt s x) (nt s w)
                      refine z_i2l dX6_minors_118 (by omega) ?_
                      refine z_lastore dX6_minors_119 (by decide) rfl (by omega) (by omega) (by first | decide | omega) (by omega) ?_
                      rw [up_s (i := 6 * x + w) (by omega)]
                      refine z_iinc dX6_minors_120 rfl (by decide) rfl ?_
                      refine z_goto 71 dX6_minors_123 (by decide) ?_
                      have x0 := ih71 (k + 1) _ (by omega) (hL.put (by omega) d1 rfl) (by omega)
                      rw [← hx, ← hw] at x0
                      exact x0
                exact loop71 _ 0 f (by omega) (fun t ht => absurd ht (Nat.not_lt_zero _)) (Nat.lt_succ_self _)
        exact loop47 _ 0 f0 (by omega) (Nat.lt_succ_self _)
      · omega
    · have c20 := bi_eq.mp c20
      omega
  · have c4 := bi_eq.mp c4
    omega
set_option maxRecDepth 100000 in
set_option maxHeartbeats 4000000 in
theorem c_X6_minors2 {g : GG} {h : HH} {σ : SG} (W : WF σ) (R : RM (h 48) σ) (h0 : 0 < sP σ) : CnL mX6_minors g [vr 47, vi 2] h (fun z h' => F54 h h' ∧ ∃ y : Nat, Rk (ent2 σ) (sE σ) (2 ^ sF σ - 1) 0 y ∧ z = sI (2 ^ sE σ) (pmT (near2 σ) y)) := by
  refine cn_q (lv := [vr 47, vi 2, vx, vx, vx, vx, vx]) tX6_minors.1 rfl rfl (fun hR Q hQ => ?_)
  have w1 := W.1
  have w2 := W.2.1
  have w3 := W.2.2.1
  have b1 := b_shl (j := sE σ) (by omega)
  have b2 := b_pos (sE σ)
  refine z_aload_n dX6_minors_0 rfl ?_
  refine z_callV_eI (M := mX6_minors) [] tX6_isComplex kX6_244 dX6_minors_1 ⟨by decide, rfl, _, _, rfl⟩ ⟨by decide, by decide⟩ rfl (Nat.le_of_ble_eq_true rfl) rfl (c_X6_isComplex W.wb R) ?_
  refine z_if_ne 11 dX6_minors_4 (by decide) (bi_r _) (fun c4 => ?_) (fun c4 => ?_)
  · have c4 := bi_ne.mp c4
    refine z_iload_n dX6_minors_11 rfl ?_
    refine z_i2l dX6_minors_12 (by omega) ?_
    refine z_lconst (z := 0) dX6_minors_13 rfl ?_
    refine z_ldc2 (2) dX6_minors_14 qX6_242 rfl ?_
    refine z_callS_eI (M := mX6_minors) [_, _, _] tX6_in kX6_150 dX6_minors_17 ⟨by decide, by decide⟩ rfl (Nat.le_of_ble_eq_true rfl) rfl (c_X6_in (by omega) (by omega) (by omega)) ?_
    refine z_if_ne 27 dX6_minors_20 (by decide) (bi_r _) (fun c20 => ?_) (fun c20 => ?_)
    · have c20 := bi_ne.mp c20
      refine z_aload_n dX6_minors_27 rfl ?_
      refine z_iload_n dX6_minors_28 rfl ?_
      refine z_iconst dX6_minors_29 ?_
      refine z_icmp_ne 37 dX6_minors_30 (by decide) (by omega) (by omega) (fun c30 => ?_) (fun c30 => ?_)
      · omega
      · refine z_iconst dX6_minors_33 ?_
        refine z_goto 38 dX6_minors_34 (by decide) ?_
        refine z_callV_I (M := mX6_minors) [_] tX6_rankAll kX6_303 dX6_minors_38 ⟨by decide, rfl, _, _, rfl⟩ ⟨by decide, by decide⟩ rfl (Nat.le_of_ble_eq_true rfl) rfl (c_X6_rankAll2 W R) (fun z38 h38 q38 => ?_)
        obtain ⟨⟨y, y1, y2, y3⟩, f0, yf⟩ := q38
        rw [y1, yf]
        have y5 : y ≤ 4 := by have := rk_le (mask1 (C := sF σ) (by omega)).2 y3; have := pcF0 ⟨sF σ, by omega⟩; exact Nat.le_trans (rk_le (mask1 (C := sF σ) (by omega)).2 y3) (pcF0 ⟨sF σ, by omega⟩)
        refine z_istore_n dX6_minors_41 (by decide) rfl ?_
        refine z_lconst (z := 0) dX6_minors_42 rfl ?_
        refine z_lstore_n dX6_minors_43 (by decide) rfl ?_
        refine z_iconst dX6_minors_44 ?_
        refine z_istore dX6_minors_45 (by decide) rfl ?_
        have loop47 : ∀ (nL9 : Nat) (s : Nat) (f : Nat → Int), (s ≤ 2 ^ sE σ) → 2 ^ sE σ - s < nL9 → Z mX6_minors g 47 [vr 47, vi 2, vi (y : Int), vl (sI s (pmT (near2 σ) y)), vx, vi (s : Int), vx] [] (setc h 54 f) Q := by
          intro nL9
          induction nL9 with
          | zero => intro s f hs hnL9; exact absurd hnL9 (Nat.not_lt_zero _)
          | succ nL9 ih47 =>
            intro s f hs hnL9
            refine z_iload dX6_minors_47 rfl ?_
            refine z_iconst dX6_minors_49 ?_
            refine z_aload_n dX6_minors_50 rfl ?_
            refine z_iload_n dX6_minors_51 rfl ?_
            refine z_callV_eI (M := mX6_minors) [_] tX6_nearSize kX6_297 dX6_minors_52 ⟨by decide, rfl, _, _, rfl⟩ ⟨by decide, by decide⟩ rfl (Nat.le_of_ble_eq_true rfl) rfl (c_X6_nearSize2 (rm54 R f)) ?_
            refine z_ishl dX6_minors_55 ?_
            rw [b1.1]
            refine z_icmp_ge 140 dX6_minors_56 (by decide) (by omega) (by omega) (fun c56 => ?_) (fun c56 => ?_)
            · refine z_lload_n dX6_minors_140 rfl ?_
              exact z_lreturn dX6_minors_141 rfl (hQ _ _ ⟨_, rfl, ⟨⟨f, rfl⟩, y, y3, by rw [show 2 ^ sE σ = s from by omega]⟩⟩)
            · refine z_iload dX6_minors_59 rfl ?_
              refine z_callS_eI (M := mX6_minors) [_] tX6_ones kX6_99 dX6_minors_61 ⟨by decide, by decide⟩ rfl (Nat.le_of_ble_eq_true rfl) rfl (c_X6_ones (c := s) (by omega)) ?_
              have ps6 := (pc6_r (c := s) (by omega)).1
              refine z_iload_n dX6_minors_64 rfl ?_
              refine z_icmp_ne 134 dX6_minors_65 (by decide) (by omega) (by omega) (fun c65 => ?_) (fun c65 => ?_)
              · refine z_iinc dX6_minors_134 rfl (by decide) rfl ?_
                refine z_goto 47 dX6_minors_137 (by decide) ?_
                have x0 := ih47 (s + 1) f (by omega) (by omega)
                rw [show sI (s + 1) (pmT (near2 σ) y) = sI s (pmT (near2 σ) y) from by rw [sI_s]; unfold pmT; rw [if_neg (by omega)]; omega] at x0
                exact x0
              · have hs2 : s < 2 ^ sE σ := by omega
                refine z_iconst dX6_minors_68 ?_
                refine z_istore dX6_minors_69 (by decide) rfl ?_
                have loop71 : ∀ (nL9 : Nat) (k : Nat) (f : Nat → Int), (k ≤ y * y) → (LY y k (fun i j => near2 σ (nt s i) (nt s j)) f) → y * y - k < nL9 → Z mX6_minors g 71 [vr 47, vi 2, vi (y : Int), vl (sI s (pmT (near2 σ) y)), vx, vi (s : Int), vi (k : Int)] [] (setc h 54 f) Q := by
                  intro nL9
                  induction nL9 with
                  | zero => intro k f hk hL hnL9; exact absurd hnL9 (Nat.not_lt_zero _)
                  | succ nL9 ih71 =>
                    intro k f hk hL hnL9
                    refine z_iload dX6_minors_71 rfl ?_
                    refine z_iload_n dX6_minors_73 rfl ?_
                    refine z_iload_n dX6_minors_74 rfl ?_
                    refine z_imul dX6_minors_75 ?_
                    rw [show (y : Int) * (y : Int) = ((y * y : Nat) : Int) from rfl]
                    have yy := nn_36 (n := y) (by omega)
                    refine z_icmp_ge 126 dX6_minors_76 (by decide) (by omega) (by omega) (fun c76 => ?_) (fun c76 => ?_)
                    · refine z_lload_n dX6_minors_126 rfl ?_
                      have hk9 : k = y * y := by omega
                      subst hk9
                      refine z_aload_n dX6_minors_127 rfl ?_
                      refine z_iload_n dX6_minors_128 rfl ?_
                      refine z_callV_L (M := mX6_minors) [_] tX6_determinant kX6_109 dX6_minors_129 ⟨by decide, rfl, _, _, rfl⟩ ⟨by decide, by decide⟩ rfl (Nat.le_of_ble_eq_true rfl) rfl (c_X6_determinant (n := y) (b := 192) (by omega) (fun i j hi hj => by
    rw [setc_at, hL.all i j hi hj]
    have := near2_r W (nt s i) (nt s j)
    show (near2 σ (nt s i) (nt s j)).natAbs ≤ 192
    omega) (fun k hk => fcb_192 y k (by omega) hk)) (fun z129 h129 q129 => ?_)
                      obtain ⟨e1, f2, e2⟩ := q129
                      rw [e1, e2, setc_setc, setc_at]
                      have e3 : dT y (MM f) = mnr (near2 σ) y s s := by
                        rw [mnr_dT (near2 σ) y s s (by omega) (by omega) (by omega) (by omega)]
                        exact dT_congr y fun i j hi hj => hL.all i j hi hj
                      rw [e3]
                      refine z_ladd dX6_minors_132 ?_
                      refine z_lstore_n dX6_minors_133 (by decide) rfl ?_
                      refine z_iinc dX6_minors_134 rfl (by decide) rfl ?_
                      refine z_goto 47 dX6_minors_137 (by decide) ?_
                      refine z_forget 6 ?_
                      have x0 := ih47 (s + 1) f2 (by omega) (by omega)
                      rw [show sI (s + 1) (pmT (near2 σ) y) = sI s (pmT (near2 σ) y) + mnr (near2 σ) y s s from by rw [sI_s]; unfold pmT; rw [if_pos (by omega)]] at x0
                      exact x0
                    · obtain ⟨d1, d2, d3⟩ := nn_dm (show k < y * y by omega)
                      obtain ⟨x, hx⟩ : ∃ x, x = k / y := ⟨_, rfl⟩
                      obtain ⟨w, hw⟩ : ∃ w, w = k % y := ⟨_, rfl⟩
                      rw [← hx] at d2
                      rw [← hw] at d3
                      refine z_aload_n dX6_minors_79 rfl ?_
                      refine z_getR fX6_29 dX6_minors_80 (by decide) rfl rfl ?_
                      refine z_bipush dX6_minors_83 (by decide) ?_
                      refine z_iload dX6_minors_85 rfl ?_
                      refine z_iload_n dX6_minors_87 rfl ?_
                      refine z_idiv dX6_minors_88 (by omega) (by omega) (by omega) ?_
                      rw [show (k : Int).tdiv (y : Int) = ((k / y : Nat) : Int) from rfl, ← hx]
                      refine z_imul dX6_minors_89 ?_
                      refine z_iload dX6_minors_90 rfl ?_
                      refine z_iload_n dX6_minors_92 rfl ?_
                      refine z_irem dX6_minors_93 (by omega) (by omega) (by omega) ?_
                      rw [show (k : Int).tmod (y : Int) = ((k % y : Nat) : Int) from rfl, ← hw]
                      refine z_iadd dX6_minors_94 ?_
                      refine z_aload_n dX6_minors_95 rfl ?_
                      refine z_iload_n dX6_minors_96 rfl ?_
                      refine z_iload dX6_minors_97 rfl ?_
                      refine z_iload dX6_minors_99 rfl ?_
                      refine z_iload_n dX6_minors_101 rfl ?_
                      refine z_idiv dX6_minors_102 (by omega) (by omega) (by omega) ?_
                      rw [show (k : Int).tdiv (y : Int) = ((k / y : Nat) : Int) from rfl, ← hx]
                      refine z_callS_eI (M := mX6_minors) [_, _] tX6_nth kX6_102 dX6_minors_103 ⟨by decide, by decide⟩ rfl (Nat.le_of_ble_eq_true rfl) rfl (c_X6_nth (c := s) (k := x) (by omega) (by omega)) ?_
                      refine z_iload dX6_minors_106 rfl ?_
                      refine z_iload dX6_minors_108 rfl ?_
                      refine z_iload_n dX6_minors_110 rfl ?_
                      refine z_irem dX6_minors_111 (by omega) (by omega) (by omega) ?_
                      rw [show (k : Int).tmod (y : Int) = ((k % y : Nat) : Int) from rfl, ← hw]
                      refine z_callS_eI (M := mX6_minors) [_, _] tX6_nth kX6_102 dX6_minors_112 ⟨by decide, by decide⟩ rfl (Nat.le_of_ble_eq_true rfl) rfl (c_X6_nth (c := s) (k := w) (by omega) (by omega)) ?_
                      refine z_callV_eI (M := mX6_minors) [_, _, _] tX6_nearBy kX6_300 dX6_minors_115 ⟨by decide, rfl, _, _, rfl⟩ ⟨by decide, by decide⟩ rfl (Nat.le_of_ble_eq_true rfl) rfl (c_X6_near2 W (rm54 R f) (nt_C (by omega) hs2 (by omega)) (nt_C (by omega) hs2 (by omega))) ?_
                      have b9 := near2_r W (nt s x) (nt s w)
                      refine z_i2l dX6_minors_118 (by omega) ?_
                      refine z_lastore dX6_minors_119 (by decide) rfl (by omega) (by omega) (by first | decide | omega) (by omega) ?_
                      rw [up_s (i := 6 * x + w) (by omega)]
                      refine z_iinc dX6_minors_120 rfl (by decide) rfl ?_
                      refine z_goto 71 dX6_minors_123 (by decide) ?_
                      have x0 := ih71 (k + 1) _ (by omega) (hL.put (by omega) d1 rfl) (by omega)
                      rw [← hx, ← hw] at x0
                      exact x0
                exact loop71 _ 0 f (by omega) (fun t ht => absurd ht (Nat.not_lt_zero _)) (Nat.lt_succ_self _)
        exact loop47 _ 0 f0 (by omega) (Nat.lt_succ_self _)
    · have c20 := bi_eq.mp c20
      omega
  · have c4 := bi_eq.mp c4
    omega

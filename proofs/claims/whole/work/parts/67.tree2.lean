set_option maxRecDepth 100000 in
set_option maxHeartbeats 4000000 in
theorem c_X5_treeCount1 {g : GG} {h : HH} {σ : SG} (W : WF σ) (C : RC (h 2) σ) {c : Nat} (hc : c < 64) {v : Int} : CeL mX5_treeCount g [vr 0, vi 1, vi (c : Int), vl v] h (wpP (sew σ) c (1) (sE σ)) := by
  refine cn_q (lv := [vr 0, vi 1, vi (c : Int), vl v, vx, vx, vx, vx]) tX5_treeCount.1 rfl rfl (fun hR Q hQ => ?_)
  have w2 := W.2.1
  have w3 := W.2.2.1
  refine z_iload_n dX5_treeCount_0 rfl ?_
  refine z_iconst dX5_treeCount_1 ?_
  refine z_icmp_ne 11 dX5_treeCount_2 (by decide) (by omega) (by omega) (fun c2 => ?_) (fun c2 => ?_)
  · refine z_lconst (z := 1) dX5_treeCount_11 rfl ?_
    refine z_lstore dX5_treeCount_12 (by decide) rfl ?_
    refine z_iconst dX5_treeCount_14 ?_
    refine z_istore dX5_treeCount_15 (by decide) rfl ?_
    have loop17 : ∀ (nL9 : Nat) (i : Nat), (i ≤ sE σ) → sE σ - i < nL9 → Z mX5_treeCount g 17 [vr 0, vi 1, vi (c : Int), vl v, vx, vl (wpP (sew σ) c (1) i), vx, vi (i : Int)] [] h Q := by
      intro nL9
      induction nL9 with
      | zero => intro i hi hnL9; exact absurd hnL9 (Nat.not_lt_zero _)
      | succ nL9 ih17 =>
        intro i hi hnL9
        refine z_iload dX5_treeCount_17 rfl ?_
        refine z_aload_n dX5_treeCount_19 rfl ?_
        refine z_getR fX5_10 dX5_treeCount_20 (by decide) rfl rfl ?_
        refine z_iload_n dX5_treeCount_23 rfl ?_
        refine z_callV_eI (M := mX5_treeCount) [_] tX0_sizeOf kX5_97 dX5_treeCount_24 ⟨by decide, rfl, _, _, rfl⟩ ⟨by decide, by decide⟩ rfl (Nat.le_of_ble_eq_true rfl) rfl (s_X0_sizeE isC1 C) ?_
        refine z_icmp_ge 62 dX5_treeCount_27 (by decide) (by omega) (by omega) (fun c27 => ?_) (fun c27 => ?_)
        · refine z_lload dX5_treeCount_62 rfl ?_
          exact z_lreturn dX5_treeCount_64 rfl (hQ _ _ ⟨_, rfl, (by rw [show sE σ = i from by omega]), rfl⟩)
        · refine z_iload_n dX5_treeCount_30 rfl ?_
          refine z_iload dX5_treeCount_31 rfl ?_
          refine z_ishr dX5_treeCount_33 ?_
          refine z_iconst dX5_treeCount_34 ?_
          refine z_iand dX5_treeCount_35 ?_
          have b1 := b_tst (c := c) (j := i) hc (by omega)
          rw [b1.1]
          refine z_iconst dX5_treeCount_36 ?_
          refine z_icmp_ne 56 dX5_treeCount_37 (by decide) (by split <;> omega) (by decide) (fun c37 => ?_) (fun c37 => ?_)
          · have c37 : ¬ mbit c i := fun q => c37 (if_pos q)
            refine z_iinc dX5_treeCount_56 rfl (by decide) rfl ?_
            refine z_goto 17 dX5_treeCount_59 (by decide) ?_
            have x0 := ih17 (i + 1) (by omega) (by omega)
            rw [show wpP (sew σ) c (1) (i + 1) = wpP (sew σ) c (1) i from if_neg c37] at x0
            exact x0
          · have c37 : mbit c i := Classical.byContradiction (fun q => by rw [if_neg q] at c37; omega)
            refine z_lload dX5_treeCount_40 rfl ?_
            refine z_aload_n dX5_treeCount_42 rfl ?_
            refine z_getR fX5_10 dX5_treeCount_43 (by decide) rfl rfl ?_
            refine z_iload_n dX5_treeCount_46 rfl ?_
            refine z_iload dX5_treeCount_47 rfl ?_
            refine z_callV_eI (M := mX5_treeCount) [_, _] tX0_weightOf kX5_112 dX5_treeCount_49 ⟨by decide, rfl, _, _, rfl⟩ ⟨by decide, by decide⟩ rfl (Nat.le_of_ble_eq_true rfl) rfl (s_X0_weightE isC1 W.wb C (by omega)) ?_
            have rw9 : R32 (sew σ i) := by
              have := W.2.2.2.1 i (by omega)
              omega
            refine z_i2l dX5_treeCount_52 (by omega) ?_
            refine z_lmul dX5_treeCount_53 ?_
            refine z_lstore dX5_treeCount_54 (by decide) rfl ?_
            refine z_iinc dX5_treeCount_56 rfl (by decide) rfl ?_
            refine z_goto 17 dX5_treeCount_59 (by decide) ?_
            have x0 := ih17 (i + 1) (by omega) (by omega)
            rw [show wpP (sew σ) c (1) (i + 1) = wpP (sew σ) c (1) i * (sew σ i : Int) from if_pos c37] at x0
            exact x0
    exact loop17 _ 0 (by omega) (Nat.lt_succ_self _)
  · omega
set_option maxRecDepth 100000 in
set_option maxHeartbeats 4000000 in
theorem c_X5_treeCount2 {g : GG} {h : HH} {σ : SG} (W : WF σ) (C : RC (h 2) σ) {c : Nat} (hc : c < 64) {v : Int} : CeL mX5_treeCount g [vr 0, vi 2, vi (c : Int), vl v] h (wpP (sfw σ) c (v * v) (sF σ)) := by
  refine cn_q (lv := [vr 0, vi 2, vi (c : Int), vl v, vx, vx, vx, vx]) tX5_treeCount.1 rfl rfl (fun hR Q hQ => ?_)
  have w2 := W.2.1
  have w3 := W.2.2.1
  refine z_iload_n dX5_treeCount_0 rfl ?_
  refine z_iconst dX5_treeCount_1 ?_
  refine z_icmp_ne 11 dX5_treeCount_2 (by decide) (by omega) (by omega) (fun c2 => ?_) (fun c2 => ?_)
  · omega
  · refine z_lload_n dX5_treeCount_5 rfl ?_
    refine z_lload_n dX5_treeCount_6 rfl ?_
    refine z_lmul dX5_treeCount_7 ?_
    refine z_goto 12 dX5_treeCount_8 (by decide) ?_
    refine z_lstore dX5_treeCount_12 (by decide) rfl ?_
    refine z_iconst dX5_treeCount_14 ?_
    refine z_istore dX5_treeCount_15 (by decide) rfl ?_
    have loop17 : ∀ (nL9 : Nat) (i : Nat), (i ≤ sF σ) → sF σ - i < nL9 → Z mX5_treeCount g 17 [vr 0, vi 2, vi (c : Int), vl v, vx, vl (wpP (sfw σ) c (v * v) i), vx, vi (i : Int)] [] h Q := by
      intro nL9
      induction nL9 with
      | zero => intro i hi hnL9; exact absurd hnL9 (Nat.not_lt_zero _)
      | succ nL9 ih17 =>
        intro i hi hnL9
        refine z_iload dX5_treeCount_17 rfl ?_
        refine z_aload_n dX5_treeCount_19 rfl ?_
        refine z_getR fX5_10 dX5_treeCount_20 (by decide) rfl rfl ?_
        refine z_iload_n dX5_treeCount_23 rfl ?_
        refine z_callV_eI (M := mX5_treeCount) [_] tX0_sizeOf kX5_97 dX5_treeCount_24 ⟨by decide, rfl, _, _, rfl⟩ ⟨by decide, by decide⟩ rfl (Nat.le_of_ble_eq_true rfl) rfl (s_X0_sizeF isC1 C) ?_
        refine z_icmp_ge 62 dX5_treeCount_27 (by decide) (by omega) (by omega) (fun c27 => ?_) (fun c27 => ?_)
        · refine z_lload dX5_treeCount_62 rfl ?_
          exact z_lreturn dX5_treeCount_64 rfl (hQ _ _ ⟨_, rfl, (by rw [show sF σ = i from by omega]), rfl⟩)
        · refine z_iload_n dX5_treeCount_30 rfl ?_
          refine z_iload dX5_treeCount_31 rfl ?_
          refine z_ishr dX5_treeCount_33 ?_
          refine z_iconst dX5_treeCount_34 ?_
          refine z_iand dX5_treeCount_35 ?_
          have b1 := b_tst (c := c) (j := i) hc (by omega)
          rw [b1.1]
          refine z_iconst dX5_treeCount_36 ?_
          refine z_icmp_ne 56 dX5_treeCount_37 (by decide) (by split <;> omega) (by decide) (fun c37 => ?_) (fun c37 => ?_)
          · have c37 : ¬ mbit c i := fun q => c37 (if_pos q)
            refine z_iinc dX5_treeCount_56 rfl (by decide) rfl ?_
            refine z_goto 17 dX5_treeCount_59 (by decide) ?_
            have x0 := ih17 (i + 1) (by omega) (by omega)
            rw [show wpP (sfw σ) c (v * v) (i + 1) = wpP (sfw σ) c (v * v) i from if_neg c37] at x0
            exact x0
          · have c37 : mbit c i := Classical.byContradiction (fun q => by rw [if_neg q] at c37; omega)
            refine z_lload dX5_treeCount_40 rfl ?_
            refine z_aload_n dX5_treeCount_42 rfl ?_
            refine z_getR fX5_10 dX5_treeCount_43 (by decide) rfl rfl ?_
            refine z_iload_n dX5_treeCount_46 rfl ?_
            refine z_iload dX5_treeCount_47 rfl ?_
            refine z_callV_eI (M := mX5_treeCount) [_, _] tX0_weightOf kX5_112 dX5_treeCount_49 ⟨by decide, rfl, _, _, rfl⟩ ⟨by decide, by decide⟩ rfl (Nat.le_of_ble_eq_true rfl) rfl (s_X0_weightF isC1 W.wb C (by omega)) ?_
            have rw9 : R32 (sfw σ i) := by
              have y := W.2.2.2.2.1 i (by omega)
              have y1 := y.1
              have y2 := y.2.1
              omega
            refine z_i2l dX5_treeCount_52 (by omega) ?_
            refine z_lmul dX5_treeCount_53 ?_
            refine z_lstore dX5_treeCount_54 (by decide) rfl ?_
            refine z_iinc dX5_treeCount_56 rfl (by decide) rfl ?_
            refine z_goto 17 dX5_treeCount_59 (by decide) ?_
            have x0 := ih17 (i + 1) (by omega) (by omega)
            rw [show wpP (sfw σ) c (v * v) (i + 1) = wpP (sfw σ) c (v * v) i * (sfw σ i : Int) from if_pos c37] at x0
            exact x0
    exact loop17 _ 0 (by omega) (Nat.lt_succ_self _)

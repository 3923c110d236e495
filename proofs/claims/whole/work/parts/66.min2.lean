set_option maxRecDepth 100000 in
set_option maxHeartbeats 4000000 in
theorem c_X5_minorsS {g : GG} {h : HH} {σ : SG} (W : WF σ) (C : RC (h 2) σ) {d : Int} (hd : R32 d) (h0 : sP σ = 0) : CeL mX5_minors g [vr 0, vi d] h kSTATE := by
  refine cn_q (lv := [vr 0, vi d, vx, vx, vx, vx]) tX5_minors.1 rfl rfl (fun hR Q hQ => ?_)
  refine z_aload_n dX5_minors_0 rfl ?_
  refine z_getR fX5_10 dX5_minors_1 (by decide) rfl rfl ?_
  refine z_callV_eI (M := mX5_minors) [] tX0_isThere kX5_123 dX5_minors_4 ⟨by decide, rfl, _, _, rfl⟩ ⟨by decide, by decide⟩ rfl (Nat.le_of_ble_eq_true rfl) rfl (s_X0_isThere isC1 C) ?_
  refine z_if_ne 14 dX5_minors_7 (by decide) (bi_r _) (fun c7 => ?_) (fun c7 => ?_)
  · have c7 := bi_ne.mp c7
    omega
  · have c7 := bi_eq.mp c7
    refine z_ldc2 (-1000002) dX5_minors_10 qX5_249 rfl ?_
    exact z_lreturn dX5_minors_13 rfl (hQ _ _ ⟨_, rfl, rfl, rfl⟩)
set_option maxRecDepth 100000 in
set_option maxHeartbeats 4000000 in
theorem c_X5_minorsO {g : GG} {h : HH} {σ : SG} (W : WF σ) (C : RC (h 2) σ) {d : Int} (hd : R32 d) (h0 : 0 < sP σ) (ho : ¬ (0 ≤ d ∧ d ≤ 2)) : CeL mX5_minors g [vr 0, vi d] h kBAD := by
  refine cn_q (lv := [vr 0, vi d, vx, vx, vx, vx]) tX5_minors.1 rfl rfl (fun hR Q hQ => ?_)
  refine z_aload_n dX5_minors_0 rfl ?_
  refine z_getR fX5_10 dX5_minors_1 (by decide) rfl rfl ?_
  refine z_callV_eI (M := mX5_minors) [] tX0_isThere kX5_123 dX5_minors_4 ⟨by decide, rfl, _, _, rfl⟩ ⟨by decide, by decide⟩ rfl (Nat.le_of_ble_eq_true rfl) rfl (s_X0_isThere isC1 C) ?_
  refine z_if_ne 14 dX5_minors_7 (by decide) (bi_r _) (fun c7 => ?_) (fun c7 => ?_)
  · have c7 := bi_ne.mp c7
    refine z_iload_n dX5_minors_14 rfl ?_
    refine z_if_lt 23 dX5_minors_15 (by decide) (by omega) (fun c15 => ?_) (fun c15 => ?_)
    · refine z_ldc2 (-1000001) dX5_minors_23 qX5_232 rfl ?_
      exact z_lreturn dX5_minors_26 rfl (hQ _ _ ⟨_, rfl, rfl, rfl⟩)
    · refine z_iload_n dX5_minors_18 rfl ?_
      refine z_iconst dX5_minors_19 ?_
      refine z_icmp_le 27 dX5_minors_20 (by decide) (by omega) (by omega) (fun c20 => ?_) (fun c20 => ?_)
      · omega
      · refine z_ldc2 (-1000001) dX5_minors_23 qX5_232 rfl ?_
        exact z_lreturn dX5_minors_26 rfl (hQ _ _ ⟨_, rfl, rfl, rfl⟩)
  · have c7 := bi_eq.mp c7
    omega
set_option maxRecDepth 100000 in
set_option maxHeartbeats 4000000 in
theorem c_X5_minors0 {g : GG} {h : HH} {σ : SG} (W : WF σ) (C : RC (h 2) σ) (h0 : 0 < sP σ) : CnL mX5_minors g [vr 0, vi 0] h (fun z h' => GF h h' ∧ ∃ k : Nat, Rk (near0 σ) (sP σ) (2 ^ sP σ - 1) 0 k ∧ z = sI (2 ^ sP σ) (pmT (near0 σ) k)) := by
  refine cn_q (lv := [vr 0, vi 0, vx, vx, vx, vx]) tX5_minors.1 rfl rfl (fun hR Q hQ => ?_)
  have w1 := W.1
  have w2 := W.2.1
  have w3 := W.2.2.1
  have b1 := b_shl (j := sP σ) (by omega)
  have b2 := b_pos (sP σ)
  refine z_aload_n dX5_minors_0 rfl ?_
  refine z_getR fX5_10 dX5_minors_1 (by decide) rfl rfl ?_
  refine z_callV_eI (M := mX5_minors) [] tX0_isThere kX5_123 dX5_minors_4 ⟨by decide, rfl, _, _, rfl⟩ ⟨by decide, by decide⟩ rfl (Nat.le_of_ble_eq_true rfl) rfl (s_X0_isThere isC1 C) ?_
  refine z_if_ne 14 dX5_minors_7 (by decide) (bi_r _) (fun c7 => ?_) (fun c7 => ?_)
  · have c7 := bi_ne.mp c7
    refine z_iload_n dX5_minors_14 rfl ?_
    refine z_if_lt 23 dX5_minors_15 (by decide) (by omega) (fun c15 => ?_) (fun c15 => ?_)
    · omega
    · refine z_iload_n dX5_minors_18 rfl ?_
      refine z_iconst dX5_minors_19 ?_
      refine z_icmp_le 27 dX5_minors_20 (by decide) (by omega) (by omega) (fun c20 => ?_) (fun c20 => ?_)
      · refine z_aload_n dX5_minors_27 rfl ?_
        refine z_getR fX5_36 dX5_minors_28 (by decide) rfl rfl ?_
        refine z_aload_n dX5_minors_31 rfl ?_
        refine z_getR fX5_10 dX5_minors_32 (by decide) rfl rfl ?_
        refine z_iload_n dX5_minors_35 rfl ?_
        refine z_callV_V (M := mX5_minors) [_, _] tX1_loadNear kX5_269 dX5_minors_36 ⟨by decide, rfl, _, _, rfl⟩ ⟨by decide, by decide⟩ rfl (Nat.le_of_ble_eq_true rfl) rfl (c_X1_loadNear0 W C) (fun h36 q36 => ?_)
        refine z_aload_n dX5_minors_39 rfl ?_
        refine z_getR fX5_36 dX5_minors_40 (by decide) rfl rfl ?_
        refine z_callV_V (M := mX5_minors) [] tX1_fillMinors kX5_209 dX5_minors_43 ⟨by decide, rfl, _, _, rfl⟩ ⟨by decide, by decide⟩ rfl (Nat.le_of_ble_eq_true rfl) rfl (c_X1_fillMinors q36.2.1 (by omega) q36.2.2.1 (by omega) (lg_64 q36 (by omega) (by omega) (fun i j _ _ => by have := near0_r W i j; omega))) (fun h43 q43 => ?_)
        obtain ⟨f, g1, g2⟩ := q43
        have E2 : h43 9 2 = sP σ := by rw [g1, setc_ne _ _ (by decide)]; exact q36.2.1
        have E3 : h43 9 3 = sP σ := by rw [g1, setc_ne _ _ (by decide)]; exact q36.2.2.1
        have F43 : GF h h43 := by rw [g1]; exact lg_gf q36 f
        have m43 : MT (h43 17) (GA h36) (sP σ) (sP σ) := by rw [g1, setc_at]; exact g2
        refine z_aload_n dX5_minors_46 rfl ?_
        refine z_getR fX5_36 dX5_minors_47 (by decide) rfl rfl ?_
        refine z_iconst dX5_minors_50 ?_
        refine z_aload_n dX5_minors_51 rfl ?_
        refine z_getR fX5_36 dX5_minors_52 (by decide) rfl rfl ?_
        refine z_callV_eI (M := mX5_minors) [] tX1_allColumns kX5_257 dX5_minors_55 ⟨by decide, rfl, _, _, rfl⟩ ⟨by decide, by decide⟩ rfl (Nat.le_of_ble_eq_true rfl) rfl (c_X1_allColumns E3 (by omega)) ?_
        refine z_callV_pI (M := mX5_minors) [_, _] tX1_rankBy kX5_212 dX5_minors_58 ⟨by decide, rfl, _, _, rfl⟩ ⟨by decide, by decide⟩ rfl (Nat.le_of_ble_eq_true rfl) rfl (c_X1_rankBy E2 (by omega) E3 (by omega) m43 (p := 0) (by decide) (a := 2 ^ sP σ - 1) (by omega)) (fun z58 q58 => ?_)
        obtain ⟨k, k1, k2, k3⟩ := q58
        rw [k1]
        have k4 := rk_grid (by omega) (by omega) (lg_ga q36) (by omega) k3
        refine z_istore_n dX5_minors_61 (by decide) rfl ?_
        refine z_lconst (z := 0) dX5_minors_62 rfl ?_
        refine z_lstore_n dX5_minors_63 (by decide) rfl ?_
        refine z_iconst dX5_minors_64 ?_
        refine z_istore dX5_minors_65 (by decide) rfl ?_
        have loop67 : ∀ (nL9 : Nat) (i : Nat), (i ≤ 2 ^ sP σ) → 2 ^ sP σ - i < nL9 → Z mX5_minors g 67 [vr 0, vi 0, vi (k : Int), vl (sI i (pmT (near0 σ) k)), vx, vi (i : Int)] [] h43 Q := by
          intro nL9
          induction nL9 with
          | zero => intro i hi hnL9; exact absurd hnL9 (Nat.not_lt_zero _)
          | succ nL9 ih67 =>
            intro i hi hnL9
            refine z_iload dX5_minors_67 rfl ?_
            refine z_aload_n dX5_minors_69 rfl ?_
            refine z_getR fX5_36 dX5_minors_70 (by decide) rfl rfl ?_
            refine z_callV_eI (M := mX5_minors) [] tX1_allColumns kX5_257 dX5_minors_73 ⟨by decide, rfl, _, _, rfl⟩ ⟨by decide, by decide⟩ rfl (Nat.le_of_ble_eq_true rfl) rfl (c_X1_allColumns E3 (by omega)) ?_
            refine z_icmp_gt 108 dX5_minors_76 (by decide) (by omega) (by omega) (fun c76 => ?_) (fun c76 => ?_)
            · refine z_lload_n dX5_minors_108 rfl ?_
              exact z_lreturn dX5_minors_109 rfl (hQ _ _ ⟨_, rfl, ⟨F43, k, k4, by rw [show 2 ^ sP σ = i from by omega]⟩⟩)
            · refine z_iload dX5_minors_79 rfl ?_
              refine z_callS_eI (M := mX5_minors) [_] tJ6_bitCount_0f7a4 kX5_260 dX5_minors_81 ⟨by decide, by decide⟩ rfl (Nat.le_of_ble_eq_true rfl) rfl (c_bc (by omega)) ?_
              have p1 := pc6_r (c := i) (by omega)
              refine z_iload_n dX5_minors_84 rfl ?_
              refine z_icmp_ne 102 dX5_minors_85 (by decide) (by omega) (by omega) (fun c85 => ?_) (fun c85 => ?_)
              · refine z_iinc dX5_minors_102 rfl (by decide) rfl ?_
                refine z_goto 67 dX5_minors_105 (by decide) ?_
                have x0 := ih67 (i + 1) (by omega) (by omega)
                rw [show sI (i + 1) (pmT (near0 σ) k) = sI i (pmT (near0 σ) k) from by rw [sI_s]; unfold pmT; rw [if_neg (by omega)]; omega] at x0
                exact x0
              · refine z_lload_n dX5_minors_88 rfl ?_
                refine z_aload_n dX5_minors_89 rfl ?_
                refine z_getR fX5_36 dX5_minors_90 (by decide) rfl rfl ?_
                refine z_iload dX5_minors_93 rfl ?_
                refine z_iload dX5_minors_95 rfl ?_
                refine z_callV_eL (M := mX5_minors) [_, _] tX1_minorOf kX5_272 dX5_minors_97 ⟨by decide, rfl, _, _, rfl⟩ ⟨by decide, by decide⟩ rfl (Nat.le_of_ble_eq_true rfl) rfl (c_X1_minorOf (by omega) (by omega)) ?_
                refine z_ladd dX5_minors_100 ?_
                refine z_lstore_n dX5_minors_101 (by decide) rfl ?_
                refine z_iinc dX5_minors_102 rfl (by decide) rfl ?_
                refine z_goto 67 dX5_minors_105 (by decide) ?_
                have x0 := ih67 (i + 1) (by omega) (by omega)
                rw [show sI (i + 1) (pmT (near0 σ) k) = sI i (pmT (near0 σ) k) + h43 17 (i * 64 + i) from by rw [sI_s, m43 i i (by omega) (by omega) rfl, mnr_grid (by omega) (by omega) (lg_ga q36) _ i i (by omega) (by omega) rfl]; unfold pmT; rw [if_pos (by omega), show pc6 i = k from by omega]] at x0
                exact x0
        exact loop67 _ 0 (by omega) (Nat.lt_succ_self _)
      · omega
  · have c7 := bi_eq.mp c7
    omega
set_option maxRecDepth 100000 in
set_option maxHeartbeats 4000000 in
theorem c_X5_minors1 {g : GG} {h : HH} {σ : SG} (W : WF σ) (C : RC (h 2) σ) (h0 : 0 < sP σ) : CnL mX5_minors g [vr 0, vi 1] h (fun z h' => GF h h' ∧ ∃ k : Nat, Rk (near1 σ) (sE σ) (2 ^ sE σ - 1) 0 k ∧ z = sI (2 ^ sE σ) (pmT (near1 σ) k)) := by
  refine cn_q (lv := [vr 0, vi 1, vx, vx, vx, vx]) tX5_minors.1 rfl rfl (fun hR Q hQ => ?_)
  have w1 := W.1
  have w2 := W.2.1
  have w3 := W.2.2.1
  have b1 := b_shl (j := sE σ) (by omega)
  have b2 := b_pos (sE σ)
  refine z_aload_n dX5_minors_0 rfl ?_
  refine z_getR fX5_10 dX5_minors_1 (by decide) rfl rfl ?_
  refine z_callV_eI (M := mX5_minors) [] tX0_isThere kX5_123 dX5_minors_4 ⟨by decide, rfl, _, _, rfl⟩ ⟨by decide, by decide⟩ rfl (Nat.le_of_ble_eq_true rfl) rfl (s_X0_isThere isC1 C) ?_
  refine z_if_ne 14 dX5_minors_7 (by decide) (bi_r _) (fun c7 => ?_) (fun c7 => ?_)
  · have c7 := bi_ne.mp c7
    refine z_iload_n dX5_minors_14 rfl ?_
    refine z_if_lt 23 dX5_minors_15 (by decide) (by omega) (fun c15 => ?_) (fun c15 => ?_)
    · omega
    · refine z_iload_n dX5_minors_18 rfl ?_
      refine z_iconst dX5_minors_19 ?_
      refine z_icmp_le 27 dX5_minors_20 (by decide) (by omega) (by omega) (fun c20 => ?_) (fun c20 => ?_)
      · refine z_aload_n dX5_minors_27 rfl ?_
        refine z_getR fX5_36 dX5_minors_28 (by decide) rfl rfl ?_
        refine z_aload_n dX5_minors_31 rfl ?_
        refine z_getR fX5_10 dX5_minors_32 (by decide) rfl rfl ?_
        refine z_iload_n dX5_minors_35 rfl ?_
        refine z_callV_V (M := mX5_minors) [_, _] tX1_loadNear kX5_269 dX5_minors_36 ⟨by decide, rfl, _, _, rfl⟩ ⟨by decide, by decide⟩ rfl (Nat.le_of_ble_eq_true rfl) rfl (c_X1_loadNear1 W C) (fun h36 q36 => ?_)
        refine z_aload_n dX5_minors_39 rfl ?_
        refine z_getR fX5_36 dX5_minors_40 (by decide) rfl rfl ?_
        refine z_callV_V (M := mX5_minors) [] tX1_fillMinors kX5_209 dX5_minors_43 ⟨by decide, rfl, _, _, rfl⟩ ⟨by decide, by decide⟩ rfl (Nat.le_of_ble_eq_true rfl) rfl (c_X1_fillMinors q36.2.1 (by omega) q36.2.2.1 (by omega) (lg_64 q36 (by omega) (by omega) (fun i j _ _ => by have := near1_r W i j; omega))) (fun h43 q43 => ?_)
        obtain ⟨f, g1, g2⟩ := q43
        have E2 : h43 9 2 = sE σ := by rw [g1, setc_ne _ _ (by decide)]; exact q36.2.1
        have E3 : h43 9 3 = sE σ := by rw [g1, setc_ne _ _ (by decide)]; exact q36.2.2.1
        have F43 : GF h h43 := by rw [g1]; exact lg_gf q36 f
        have m43 : MT (h43 17) (GA h36) (sE σ) (sE σ) := by rw [g1, setc_at]; exact g2
        refine z_aload_n dX5_minors_46 rfl ?_
        refine z_getR fX5_36 dX5_minors_47 (by decide) rfl rfl ?_
        refine z_iconst dX5_minors_50 ?_
        refine z_aload_n dX5_minors_51 rfl ?_
        refine z_getR fX5_36 dX5_minors_52 (by decide) rfl rfl ?_
        refine z_callV_eI (M := mX5_minors) [] tX1_allColumns kX5_257 dX5_minors_55 ⟨by decide, rfl, _, _, rfl⟩ ⟨by decide, by decide⟩ rfl (Nat.le_of_ble_eq_true rfl) rfl (c_X1_allColumns E3 (by omega)) ?_
        refine z_callV_pI (M := mX5_minors) [_, _] tX1_rankBy kX5_212 dX5_minors_58 ⟨by decide, rfl, _, _, rfl⟩ ⟨by decide, by decide⟩ rfl (Nat.le_of_ble_eq_true rfl) rfl (c_X1_rankBy E2 (by omega) E3 (by omega) m43 (p := 0) (by decide) (a := 2 ^ sE σ - 1) (by omega)) (fun z58 q58 => ?_)
        obtain ⟨k, k1, k2, k3⟩ := q58
        rw [k1]
        have k4 := rk_grid (by omega) (by omega) (lg_ga q36) (by omega) k3
        refine z_istore_n dX5_minors_61 (by decide) rfl ?_
        refine z_lconst (z := 0) dX5_minors_62 rfl ?_
        refine z_lstore_n dX5_minors_63 (by decide) rfl ?_
        refine z_iconst dX5_minors_64 ?_
        refine z_istore dX5_minors_65 (by decide) rfl ?_
        have loop67 : ∀ (nL9 : Nat) (i : Nat), (i ≤ 2 ^ sE σ) → 2 ^ sE σ - i < nL9 → Z mX5_minors g 67 [vr 0, vi 1, vi (k : Int), vl (sI i (pmT (near1 σ) k)), vx, vi (i : Int)] [] h43 Q := by
          intro nL9
          induction nL9 with
          | zero => intro i hi hnL9; exact absurd hnL9 (Nat.not_lt_zero _)
          | succ nL9 ih67 =>
            intro i hi hnL9
            refine z_iload dX5_minors_67 rfl ?_
            refine z_aload_n dX5_minors_69 rfl ?_
            refine z_getR fX5_36 dX5_minors_70 (by decide) rfl rfl ?_
            refine z_callV_eI (M := mX5_minors) [] tX1_allColumns kX5_257 dX5_minors_73 ⟨by decide, rfl, _, _, rfl⟩ ⟨by decide, by decide⟩ rfl (Nat.le_of_ble_eq_true rfl) rfl (c_X1_allColumns E3 (by omega)) ?_
            refine z_icmp_gt 108 dX5_minors_76 (by decide) (by omega) (by omega) (fun c76 => ?_) (fun c76 => ?_)
            · refine z_lload_n dX5_minors_108 rfl ?_
              exact z_lreturn dX5_minors_109 rfl (hQ _ _ ⟨_, rfl, ⟨F43, k, k4, by rw [show 2 ^ sE σ = i from by omega]⟩⟩)
            · refine z_iload dX5_minors_79 rfl ?_
              refine z_callS_eI (M := mX5_minors) [_] tJ6_bitCount_0f7a4 kX5_260 dX5_minors_81 ⟨by decide, by decide⟩ rfl (Nat.le_of_ble_eq_true rfl) rfl (c_bc (by omega)) ?_
              have p1 := pc6_r (c := i) (by omega)
              refine z_iload_n dX5_minors_84 rfl ?_
              refine z_icmp_ne 102 dX5_minors_85 (by decide) (by omega) (by omega) (fun c85 => ?_) (fun c85 => ?_)
              · refine z_iinc dX5_minors_102 rfl (by decide) rfl ?_
                refine z_goto 67 dX5_minors_105 (by decide) ?_
                have x0 := ih67 (i + 1) (by omega) (by omega)
                rw [show sI (i + 1) (pmT (near1 σ) k) = sI i (pmT (near1 σ) k) from by rw [sI_s]; unfold pmT; rw [if_neg (by omega)]; omega] at x0
                exact x0
              · refine z_lload_n dX5_minors_88 rfl ?_
                refine z_aload_n dX5_minors_89 rfl ?_
                refine z_getR fX5_36 dX5_minors_90 (by decide) rfl rfl ?_
                refine z_iload dX5_minors_93 rfl ?_
                refine z_iload dX5_minors_95 rfl ?_
                refine z_callV_eL (M := mX5_minors) [_, _] tX1_minorOf kX5_272 dX5_minors_97 ⟨by decide, rfl, _, _, rfl⟩ ⟨by decide, by decide⟩ rfl (Nat.le_of_ble_eq_true rfl) rfl (c_X1_minorOf (by omega) (by omega)) ?_
                refine z_ladd dX5_minors_100 ?_
                refine z_lstore_n dX5_minors_101 (by decide) rfl ?_
                refine z_iinc dX5_minors_102 rfl (by decide) rfl ?_
                refine z_goto 67 dX5_minors_105 (by decide) ?_
                have x0 := ih67 (i + 1) (by omega) (by omega)
                rw [show sI (i + 1) (pmT (near1 σ) k) = sI i (pmT (near1 σ) k) + h43 17 (i * 64 + i) from by rw [sI_s, m43 i i (by omega) (by omega) rfl, mnr_grid (by omega) (by omega) (lg_ga q36) _ i i (by omega) (by omega) rfl]; unfold pmT; rw [if_pos (by omega), show pc6 i = k from by omega]] at x0
                exact x0
        exact loop67 _ 0 (by omega) (Nat.lt_succ_self _)
      · omega
  · have c7 := bi_eq.mp c7
    omega
set_option maxRecDepth 100000 in
set_option maxHeartbeats 4000000 in
theorem c_X5_minors2 {g : GG} {h : HH} {σ : SG} (W : WF σ) (C : RC (h 2) σ) (h0 : 0 < sP σ) : CnL mX5_minors g [vr 0, vi 2] h (fun z h' => GF h h' ∧ ∃ k : Nat, Rk (near2 σ) (sE σ) (2 ^ sE σ - 1) 0 k ∧ z = sI (2 ^ sE σ) (pmT (near2 σ) k)) := by
  refine cn_q (lv := [vr 0, vi 2, vx, vx, vx, vx]) tX5_minors.1 rfl rfl (fun hR Q hQ => ?_)
  have w1 := W.1
  have w2 := W.2.1
  have w3 := W.2.2.1
  have b1 := b_shl (j := sE σ) (by omega)
  have b2 := b_pos (sE σ)
  refine z_aload_n dX5_minors_0 rfl ?_
  refine z_getR fX5_10 dX5_minors_1 (by decide) rfl rfl ?_
  refine z_callV_eI (M := mX5_minors) [] tX0_isThere kX5_123 dX5_minors_4 ⟨by decide, rfl, _, _, rfl⟩ ⟨by decide, by decide⟩ rfl (Nat.le_of_ble_eq_true rfl) rfl (s_X0_isThere isC1 C) ?_
  refine z_if_ne 14 dX5_minors_7 (by decide) (bi_r _) (fun c7 => ?_) (fun c7 => ?_)
  · have c7 := bi_ne.mp c7
    refine z_iload_n dX5_minors_14 rfl ?_
    refine z_if_lt 23 dX5_minors_15 (by decide) (by omega) (fun c15 => ?_) (fun c15 => ?_)
    · omega
    · refine z_iload_n dX5_minors_18 rfl ?_
      refine z_iconst dX5_minors_19 ?_
      refine z_icmp_le 27 dX5_minors_20 (by decide) (by omega) (by omega) (fun c20 => ?_) (fun c20 => ?_)
      · refine z_aload_n dX5_minors_27 rfl ?_
        refine z_getR fX5_36 dX5_minors_28 (by decide) rfl rfl ?_
        refine z_aload_n dX5_minors_31 rfl ?_
        refine z_getR fX5_10 dX5_minors_32 (by decide) rfl rfl ?_
        refine z_iload_n dX5_minors_35 rfl ?_
        refine z_callV_V (M := mX5_minors) [_, _] tX1_loadNear kX5_269 dX5_minors_36 ⟨by decide, rfl, _, _, rfl⟩ ⟨by decide, by decide⟩ rfl (Nat.le_of_ble_eq_true rfl) rfl (c_X1_loadNear2 W C) (fun h36 q36 => ?_)
        refine z_aload_n dX5_minors_39 rfl ?_
        refine z_getR fX5_36 dX5_minors_40 (by decide) rfl rfl ?_
        refine z_callV_V (M := mX5_minors) [] tX1_fillMinors kX5_209 dX5_minors_43 ⟨by decide, rfl, _, _, rfl⟩ ⟨by decide, by decide⟩ rfl (Nat.le_of_ble_eq_true rfl) rfl (c_X1_fillMinors q36.2.1 (by omega) q36.2.2.1 (by omega) (lg_64 q36 (by omega) (by omega) (fun i j _ _ => by have := near2_r W i j; omega))) (fun h43 q43 => ?_)
        obtain ⟨f, g1, g2⟩ := q43
        have E2 : h43 9 2 = sE σ := by rw [g1, setc_ne _ _ (by decide)]; exact q36.2.1
        have E3 : h43 9 3 = sE σ := by rw [g1, setc_ne _ _ (by decide)]; exact q36.2.2.1
        have F43 : GF h h43 := by rw [g1]; exact lg_gf q36 f
        have m43 : MT (h43 17) (GA h36) (sE σ) (sE σ) := by rw [g1, setc_at]; exact g2
        refine z_aload_n dX5_minors_46 rfl ?_
        refine z_getR fX5_36 dX5_minors_47 (by decide) rfl rfl ?_
        refine z_iconst dX5_minors_50 ?_
        refine z_aload_n dX5_minors_51 rfl ?_
        refine z_getR fX5_36 dX5_minors_52 (by decide) rfl rfl ?_
        refine z_callV_eI (M := mX5_minors) [] tX1_allColumns kX5_257 dX5_minors_55 ⟨by decide, rfl, _, _, rfl⟩ ⟨by decide, by decide⟩ rfl (Nat.le_of_ble_eq_true rfl) rfl (c_X1_allColumns E3 (by omega)) ?_
        refine z_callV_pI (M := mX5_minors) [_, _] tX1_rankBy kX5_212 dX5_minors_58 ⟨by decide, rfl, _, _, rfl⟩ ⟨by decide, by decide⟩ rfl (Nat.le_of_ble_eq_true rfl) rfl (c_X1_rankBy E2 (by omega) E3 (by omega) m43 (p := 0) (by decide) (a := 2 ^ sE σ - 1) (by omega)) (fun z58 q58 => ?_)
        obtain ⟨k, k1, k2, k3⟩ := q58
        rw [k1]
        have k4 := rk_grid (by omega) (by omega) (lg_ga q36) (by omega) k3
        refine z_istore_n dX5_minors_61 (by decide) rfl ?_
        refine z_lconst (z := 0) dX5_minors_62 rfl ?_
        refine z_lstore_n dX5_minors_63 (by decide) rfl ?_
        refine z_iconst dX5_minors_64 ?_
        refine z_istore dX5_minors_65 (by decide) rfl ?_
        have loop67 : ∀ (nL9 : Nat) (i : Nat), (i ≤ 2 ^ sE σ) → 2 ^ sE σ - i < nL9 → Z mX5_minors g 67 [vr 0, vi 2, vi (k : Int), vl (sI i (pmT (near2 σ) k)), vx, vi (i : Int)] [] h43 Q := by
          intro nL9
          induction nL9 with
          | zero => intro i hi hnL9; exact absurd hnL9 (Nat.not_lt_zero _)
          | succ nL9 ih67 =>
            intro i hi hnL9
            refine z_iload dX5_minors_67 rfl ?_
            refine z_aload_n dX5_minors_69 rfl ?_
            refine z_getR fX5_36 dX5_minors_70 (by decide) rfl rfl ?_
            refine z_callV_eI (M := mX5_minors) [] tX1_allColumns kX5_257 dX5_minors_73 ⟨by decide, rfl, _, _, rfl⟩ ⟨by decide, by decide⟩ rfl (Nat.le_of_ble_eq_true rfl) rfl (c_X1_allColumns E3 (by omega)) ?_
            refine z_icmp_gt 108 dX5_minors_76 (by decide) (by omega) (by omega) (fun c76 => ?_) (fun c76 => ?_)
            · refine z_lload_n dX5_minors_108 rfl ?_
              exact z_lreturn dX5_minors_109 rfl (hQ _ _ ⟨_, rfl, ⟨F43, k, k4, by rw [show 2 ^ sE σ = i from by omega]⟩⟩)
            · refine z_iload dX5_minors_79 rfl ?_
              refine z_callS_eI (M := mX5_minors) [_] tJ6_bitCount_0f7a4 kX5_260 dX5_minors_81 ⟨by decide, by decide⟩ rfl (Nat.le_of_ble_eq_true rfl) rfl (c_bc (by omega)) ?_
              have p1 := pc6_r (c := i) (by omega)
              refine z_iload_n dX5_minors_84 rfl ?_
              refine z_icmp_ne 102 dX5_minors_85 (by decide) (by omega) (by omega) (fun c85 => ?_) (fun c85 => ?_)
              · refine z_iinc dX5_minors_102 rfl (by decide) rfl ?_
                refine z_goto 67 dX5_minors_105 (by decide) ?_
                have x0 := ih67 (i + 1) (by omega) (by omega)
                rw [show sI (i + 1) (pmT (near2 σ) k) = sI i (pmT (near2 σ) k) from by rw [sI_s]; unfold pmT; rw [if_neg (by omega)]; omega] at x0
                exact x0
              · refine z_lload_n dX5_minors_88 rfl ?_
                refine z_aload_n dX5_minors_89 rfl ?_
                refine z_getR fX5_36 dX5_minors_90 (by decide) rfl rfl ?_
                refine z_iload dX5_minors_93 rfl ?_
                refine z_iload dX5_minors_95 rfl ?_
                refine z_callV_eL (M := mX5_minors) [_, _] tX1_minorOf kX5_272 dX5_minors_97 ⟨by decide, rfl, _, _, rfl⟩ ⟨by decide, by decide⟩ rfl (Nat.le_of_ble_eq_true rfl) rfl (c_X1_minorOf (by omega) (by omega)) ?_
                refine z_ladd dX5_minors_100 ?_
                refine z_lstore_n dX5_minors_101 (by decide) rfl ?_
                refine z_iinc dX5_minors_102 rfl (by decide) rfl ?_
                refine z_goto 67 dX5_minors_105 (by decide) ?_
                have x0 := ih67 (i + 1) (by omega) (by omega)
                rw [show sI (i + 1) (pmT (near2 σ) k) = sI i (pmT (near2 σ) k) + h43 17 (i * 64 + i) from by rw [sI_s, m43 i i (by omega) (by omega) rfl, mnr_grid (by omega) (by omega) (lg_ga q36) _ i i (by omega) (by omega) rfl]; unfold pmT; rw [if_pos (by omega), show pc6 i = k from by omega]] at x0
                exact x0
        exact loop67 _ 0 (by omega) (Nat.lt_succ_self _)
      · omega
  · have c7 := bi_eq.mp c7
    omega

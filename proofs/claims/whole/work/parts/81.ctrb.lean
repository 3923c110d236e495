set_option maxRecDepth 100000 in
set_option maxHeartbeats 4000000 in
theorem c_X5_lowestTerm0 {g : GG} {h : HH} {a b : Int} (ha : -9223372036854775808 < a ∧ a < 9223372036854775808) (hb : -9223372036854775808 < b ∧ b < 9223372036854775808) (h0 : b ≠ 0) : CeL mX5_lowestTerm g [vl a, vl b, vi 0] h (a.tdiv (Int.gcd a b)) := by
  refine cn_q (lv := [vl a, vx, vl b, vx, vi 0, vx, vx]) tX5_lowestTerm.1 rfl rfl (fun hR Q hQ => ?_)
  have g1 := gcd_b (a := a) h0
  have g2 : Int.gcd a b < 2 ^ 63 := by omega
  refine z_lload_n dX5_lowestTerm_0 rfl ?_
  refine z_lload_n dX5_lowestTerm_1 rfl ?_
  refine z_callS_eL (M := mX5_lowestTerm) [_, _] tX5_gcd kX5_290 dX5_lowestTerm_2 ⟨by decide, by decide⟩ rfl (Nat.le_of_ble_eq_true rfl) rfl (c_X5_gcd ha hb) ?_
  refine z_lstore dX5_lowestTerm_5 (by decide) rfl ?_
  refine z_lload dX5_lowestTerm_7 rfl ?_
  refine z_lconst (z := 0) dX5_lowestTerm_9 rfl ?_
  refine z_lcmp dX5_lowestTerm_10 (by omega) (by omega) ?_
  refine z_if_ne 18 dX5_lowestTerm_11 (by decide) (icmp_r _ _) (fun c11 => ?_) (fun c11 => ?_)
  · have c11 := icmp_ne.mp c11
    refine z_iload dX5_lowestTerm_18 rfl ?_
    refine z_if_ne 27 dX5_lowestTerm_20 (by decide) (by omega) (fun c20 => ?_) (fun c20 => ?_)
    · omega
    · refine z_lload_n dX5_lowestTerm_23 rfl ?_
      refine z_goto 28 dX5_lowestTerm_24 (by decide) ?_
      refine z_lload dX5_lowestTerm_28 rfl ?_
      refine z_ldiv dX5_lowestTerm_30 (by omega) (by omega) (by omega) ?_
      exact z_lreturn dX5_lowestTerm_31 rfl (hQ _ _ ⟨_, rfl, rfl, rfl⟩)
  · have c11 := icmp_eq.mp c11
    omega
set_option maxRecDepth 100000 in
set_option maxHeartbeats 4000000 in
theorem c_X5_lowestTerm1 {g : GG} {h : HH} {a b : Int} (ha : -9223372036854775808 < a ∧ a < 9223372036854775808) (hb : -9223372036854775808 < b ∧ b < 9223372036854775808) (h0 : b ≠ 0) : CeL mX5_lowestTerm g [vl a, vl b, vi 1] h (b.tdiv (Int.gcd a b)) := by
  refine cn_q (lv := [vl a, vx, vl b, vx, vi 1, vx, vx]) tX5_lowestTerm.1 rfl rfl (fun hR Q hQ => ?_)
  have g1 := gcd_b (a := a) h0
  have g2 : Int.gcd a b < 2 ^ 63 := by omega
  refine z_lload_n dX5_lowestTerm_0 rfl ?_
  refine z_lload_n dX5_lowestTerm_1 rfl ?_
  refine z_callS_eL (M := mX5_lowestTerm) [_, _] tX5_gcd kX5_290 dX5_lowestTerm_2 ⟨by decide, by decide⟩ rfl (Nat.le_of_ble_eq_true rfl) rfl (c_X5_gcd ha hb) ?_
  refine z_lstore dX5_lowestTerm_5 (by decide) rfl ?_
  refine z_lload dX5_lowestTerm_7 rfl ?_
  refine z_lconst (z := 0) dX5_lowestTerm_9 rfl ?_
  refine z_lcmp dX5_lowestTerm_10 (by omega) (by omega) ?_
  refine z_if_ne 18 dX5_lowestTerm_11 (by decide) (icmp_r _ _) (fun c11 => ?_) (fun c11 => ?_)
  · have c11 := icmp_ne.mp c11
    refine z_iload dX5_lowestTerm_18 rfl ?_
    refine z_if_ne 27 dX5_lowestTerm_20 (by decide) (by omega) (fun c20 => ?_) (fun c20 => ?_)
    · refine z_lload_n dX5_lowestTerm_27 rfl ?_
      refine z_lload dX5_lowestTerm_28 rfl ?_
      refine z_ldiv dX5_lowestTerm_30 (by omega) (by omega) (by omega) ?_
      exact z_lreturn dX5_lowestTerm_31 rfl (hQ _ _ ⟨_, rfl, rfl, rfl⟩)
    · omega
  · have c11 := icmp_eq.mp c11
    omega
set_option maxRecDepth 100000 in
set_option maxHeartbeats 4000000 in
theorem c_X5_treesS {g : GG} {h : HH} {σ : SG} (W : WF σ) (C : RC (h 2) σ) {d p : Int} (hd : R32 d) (hp : R32 p) (h0 : sP σ = 0) : CeL mX5_trees g [vr 0, vi d, vi p] h kSTATE := by
  refine cn_q (lv := [vr 0, vi d, vi p, vx, vx, vx, vx, vx, vx]) tX5_trees.1 rfl rfl (fun hR Q hQ => ?_)
  refine z_aload_n dX5_trees_0 rfl ?_
  refine z_getR fX5_10 dX5_trees_1 (by decide) rfl rfl ?_
  refine z_callV_eI (M := mX5_trees) [] tX0_isThere kX5_123 dX5_trees_4 ⟨by decide, rfl, _, _, rfl⟩ ⟨by decide, by decide⟩ rfl (Nat.le_of_ble_eq_true rfl) rfl (s_X0_isThere isC1 C) ?_
  refine z_if_ne 14 dX5_trees_7 (by decide) (bi_r _) (fun c7 => ?_) (fun c7 => ?_)
  · have c7 := bi_ne.mp c7
    omega
  · have c7 := bi_eq.mp c7
    refine z_ldc2 (-1000002) dX5_trees_10 qX5_249 rfl ?_
    exact z_lreturn dX5_trees_13 rfl (hQ _ _ ⟨_, rfl, rfl, rfl⟩)
set_option maxRecDepth 100000 in
set_option maxHeartbeats 4000000 in
theorem c_X5_treesO {g : GG} {h : HH} {σ : SG} (W : WF σ) (C : RC (h 2) σ) {d p : Int} (hd : R32 d) (hp : R32 p) (h0 : 0 < sP σ) (ho : ¬ (1 ≤ d ∧ d ≤ 2 ∧ 0 ≤ p ∧ p ≤ 1)) : CeL mX5_trees g [vr 0, vi d, vi p] h kBAD := by
  refine cn_q (lv := [vr 0, vi d, vi p, vx, vx, vx, vx, vx, vx]) tX5_trees.1 rfl rfl (fun hR Q hQ => ?_)
  refine z_aload_n dX5_trees_0 rfl ?_
  refine z_getR fX5_10 dX5_trees_1 (by decide) rfl rfl ?_
  refine z_callV_eI (M := mX5_trees) [] tX0_isThere kX5_123 dX5_trees_4 ⟨by decide, rfl, _, _, rfl⟩ ⟨by decide, by decide⟩ rfl (Nat.le_of_ble_eq_true rfl) rfl (s_X0_isThere isC1 C) ?_
  refine z_if_ne 14 dX5_trees_7 (by decide) (bi_r _) (fun c7 => ?_) (fun c7 => ?_)
  · have c7 := bi_ne.mp c7
    refine z_iload_n dX5_trees_14 rfl ?_
    refine z_iconst dX5_trees_15 ?_
    refine z_icmp_lt 31 dX5_trees_16 (by decide) (by omega) (by omega) (fun c16 => ?_) (fun c16 => ?_)
    · refine z_ldc2 (-1000001) dX5_trees_31 qX5_232 rfl ?_
      exact z_lreturn dX5_trees_34 rfl (hQ _ _ ⟨_, rfl, rfl, rfl⟩)
    · refine z_iload_n dX5_trees_19 rfl ?_
      refine z_iconst dX5_trees_20 ?_
      refine z_icmp_gt 31 dX5_trees_21 (by decide) (by omega) (by omega) (fun c21 => ?_) (fun c21 => ?_)
      · refine z_ldc2 (-1000001) dX5_trees_31 qX5_232 rfl ?_
        exact z_lreturn dX5_trees_34 rfl (hQ _ _ ⟨_, rfl, rfl, rfl⟩)
      · refine z_iload_n dX5_trees_24 rfl ?_
        refine z_callS_eI (M := mX5_trees) [_] tX5_isSide kX5_229 dX5_trees_25 ⟨by decide, by decide⟩ rfl (Nat.le_of_ble_eq_true rfl) rfl (c_X5_isSide (by omega)) ?_
        refine z_if_ne 35 dX5_trees_28 (by decide) (bi_r _) (fun c28 => ?_) (fun c28 => ?_)
        · have c28 := bi_ne.mp c28
          omega
        · have c28 := bi_eq.mp c28
          refine z_ldc2 (-1000001) dX5_trees_31 qX5_232 rfl ?_
          exact z_lreturn dX5_trees_34 rfl (hQ _ _ ⟨_, rfl, rfl, rfl⟩)
  · have c7 := bi_eq.mp c7
    omega
set_option maxRecDepth 100000 in
set_option maxHeartbeats 4000000 in
theorem c_X5_trees10 {g : GG} {h : HH} {σ : SG} (W : WF σ) (C : RC (h 2) σ) (h0 : 0 < sP σ) : CnL mX5_trees g [vr 0, vi 1, vi 0] h (fun z h' => GF h h' ∧ ∃ y : Nat, Rk (ent1 σ) (sP σ) (2 ^ sE σ - 1) 0 y ∧ z = sI (2 ^ sE σ) (trT (ent1 σ) (sP σ) y tv0)) := by
  refine cn_q (lv := [vr 0, vi 1, vi 0, vx, vx, vx, vx, vx, vx]) tX5_trees.1 rfl rfl (fun hR Q hQ => ?_)
  have w1 := W.1
  have w2 := W.2.1
  have w3 := W.2.2.1
  have b1 := b_shl (j := sE σ) (by omega)
  have b2 := b_pos (sE σ)
  refine z_aload_n dX5_trees_0 rfl ?_
  refine z_getR fX5_10 dX5_trees_1 (by decide) rfl rfl ?_
  refine z_callV_eI (M := mX5_trees) [] tX0_isThere kX5_123 dX5_trees_4 ⟨by decide, rfl, _, _, rfl⟩ ⟨by decide, by decide⟩ rfl (Nat.le_of_ble_eq_true rfl) rfl (s_X0_isThere isC1 C) ?_
  refine z_if_ne 14 dX5_trees_7 (by decide) (bi_r _) (fun c7 => ?_) (fun c7 => ?_)
  · have c7 := bi_ne.mp c7
    refine z_iload_n dX5_trees_14 rfl ?_
    refine z_iconst dX5_trees_15 ?_
    refine z_icmp_lt 31 dX5_trees_16 (by decide) (by omega) (by omega) (fun c16 => ?_) (fun c16 => ?_)
    · omega
    · refine z_iload_n dX5_trees_19 rfl ?_
      refine z_iconst dX5_trees_20 ?_
      refine z_icmp_gt 31 dX5_trees_21 (by decide) (by omega) (by omega) (fun c21 => ?_) (fun c21 => ?_)
      · omega
      · refine z_iload_n dX5_trees_24 rfl ?_
        refine z_callS_eI (M := mX5_trees) [_] tX5_isSide kX5_229 dX5_trees_25 ⟨by decide, by decide⟩ rfl (Nat.le_of_ble_eq_true rfl) rfl (c_X5_isSide (by omega)) ?_
        refine z_if_ne 35 dX5_trees_28 (by decide) (bi_r _) (fun c28 => ?_) (fun c28 => ?_)
        · have c28 := bi_ne.mp c28
          refine z_aload_n dX5_trees_35 rfl ?_
          refine z_getR fX5_36 dX5_trees_36 (by decide) rfl rfl ?_
          refine z_aload_n dX5_trees_39 rfl ?_
          refine z_getR fX5_10 dX5_trees_40 (by decide) rfl rfl ?_
          refine z_iload_n dX5_trees_43 rfl ?_
          refine z_callV_V (M := mX5_trees) [_, _] tX1_loadTable kX5_205 dX5_trees_44 ⟨by decide, rfl, _, _, rfl⟩ ⟨by decide, by decide⟩ rfl (Nat.le_of_ble_eq_true rfl) rfl (c_X1_loadTable1 W C) (fun h44 q44 => ?_)
          refine z_aload_n dX5_trees_47 rfl ?_
          refine z_getR fX5_36 dX5_trees_48 (by decide) rfl rfl ?_
          refine z_callV_V (M := mX5_trees) [] tX1_fillMinors kX5_209 dX5_trees_51 ⟨by decide, rfl, _, _, rfl⟩ ⟨by decide, by decide⟩ rfl (Nat.le_of_ble_eq_true rfl) rfl (c_X1_fillMinors q44.2.1 (by omega) q44.2.2.1 (by omega) (lg_64 q44 (by omega) (by omega) (ent1_64 W))) (fun h51 q51 => ?_)
          obtain ⟨f, g1, g2⟩ := q51
          have E2 : h51 9 2 = sP σ := by rw [g1, setc_ne _ _ (by decide)]; exact q44.2.1
          have E3 : h51 9 3 = sE σ := by rw [g1, setc_ne _ _ (by decide)]; exact q44.2.2.1
          have F51 : GF h h51 := by rw [g1]; exact lg_gf q44 f
          have C51 := F51.rc C
          have m51 : MT (h51 17) (GA h44) (sP σ) (sE σ) := by rw [g1, setc_at]; exact g2
          have b64 := lg_64 q44 (by omega) (by omega) (ent1_64 W)
          refine z_aload_n dX5_trees_54 rfl ?_
          refine z_getR fX5_36 dX5_trees_55 (by decide) rfl rfl ?_
          refine z_iconst dX5_trees_58 ?_
          refine z_aload_n dX5_trees_59 rfl ?_
          refine z_getR fX5_36 dX5_trees_60 (by decide) rfl rfl ?_
          refine z_callV_eI (M := mX5_trees) [] tX1_allColumns kX5_257 dX5_trees_63 ⟨by decide, rfl, _, _, rfl⟩ ⟨by decide, by decide⟩ rfl (Nat.le_of_ble_eq_true rfl) rfl (c_X1_allColumns E3 (by omega)) ?_
          refine z_callV_pI (M := mX5_trees) [_, _] tX1_rankBy kX5_212 dX5_trees_66 ⟨by decide, rfl, _, _, rfl⟩ ⟨by decide, by decide⟩ rfl (Nat.le_of_ble_eq_true rfl) rfl (c_X1_rankBy E2 (by omega) E3 (by omega) m51 (p := 0) (by decide) (a := 2 ^ sE σ - 1) (by omega)) (fun z66 q66 => ?_)
          obtain ⟨y, y1, y2, y3⟩ := q66
          rw [y1]
          have y4 := rk_grid (by omega) (by omega) (lg_ga q44) (by omega) y3
          refine z_istore_n dX5_trees_69 (by decide) rfl ?_
          refine z_lconst (z := 0) dX5_trees_70 rfl ?_
          refine z_lstore dX5_trees_71 (by decide) rfl ?_
          refine z_iconst dX5_trees_73 ?_
          refine z_istore dX5_trees_74 (by decide) rfl ?_
          have loop76 : ∀ (nL9 : Nat) (s : Nat), (s ≤ 2 ^ sE σ) → 2 ^ sE σ - s < nL9 → Z mX5_trees g 76 [vr 0, vi 1, vi 0, vi (y : Int), vl (sI s (trT (ent1 σ) (sP σ) y tv0)), vx, vi (s : Int), vx, vx] [] h51 Q := by
            intro nL9
            induction nL9 with
            | zero => intro s hs hnL9; exact absurd hnL9 (Nat.not_lt_zero _)
            | succ nL9 ih76 =>
              intro s hs hnL9
              refine z_iload dX5_trees_76 rfl ?_
              refine z_aload_n dX5_trees_78 rfl ?_
              refine z_getR fX5_36 dX5_trees_79 (by decide) rfl rfl ?_
              refine z_callV_eI (M := mX5_trees) [] tX1_allColumns kX5_257 dX5_trees_82 ⟨by decide, rfl, _, _, rfl⟩ ⟨by decide, by decide⟩ rfl (Nat.le_of_ble_eq_true rfl) rfl (c_X1_allColumns E3 (by omega)) ?_
              refine z_icmp_gt 148 dX5_trees_85 (by decide) (by omega) (by omega) (fun c85 => ?_) (fun c85 => ?_)
              · refine z_lload dX5_trees_148 rfl ?_
                exact z_lreturn dX5_trees_150 rfl (hQ _ _ ⟨_, rfl, ⟨F51, y, y4, by rw [show 2 ^ sE σ = s from by omega]⟩⟩)
              · have cut113 : ∀ t : Int, twp (ent1 σ) (sP σ) s y t → R64 t → Z mX5_trees g 113 [vr 0, vi 1, vi 0, vi (y : Int), vl (sI s (trT (ent1 σ) (sP σ) y tv0)), vx, vi (s : Int), vl t, vx] [] h51 Q := by
                  intro t ht ht2
                  refine z_lload dX5_trees_113 rfl ?_
                  refine z_lconst (z := 0) dX5_trees_115 rfl ?_
                  refine z_lcmp dX5_trees_116 ht2 (by decide) ?_
                  refine z_if_eq 142 dX5_trees_117 (by decide) (icmp_r _ _) (fun c117 => ?_) (fun c117 => ?_)
                  · have c117 := icmp_eq.mp c117
                    refine z_iinc dX5_trees_142 rfl (by decide) rfl ?_
                    refine z_goto 76 dX5_trees_145 (by decide) ?_
                    refine z_forget 7 ?_
                    have x0 := ih76 (s + 1) (by omega) (by omega)
                    rw [show sI (s + 1) (trT (ent1 σ) (sP σ) y tv0) = sI s (trT (ent1 σ) (sP σ) y tv0) from by
                      rw [sI_s, trT_n (fun q => by
                        rcases ht with ⟨a1, d, a2, a3⟩ | ⟨a1, -⟩
                        · exact (nzs_dv a3).mp q.2 (by omega)
                        · exact a1 q.1)]; omega] at x0
                    exact x0
                  · have c117 := icmp_ne.mp c117
                    refine z_lload dX5_trees_120 rfl ?_
                    refine z_iload_n dX5_trees_122 rfl ?_
                    refine z_if_ne 130 dX5_trees_123 (by decide) (by omega) (fun c123 => ?_) (fun c123 => ?_)
                    · omega
                    · refine z_lconst (z := 1) dX5_trees_126 rfl ?_
                      refine z_goto 139 dX5_trees_127 (by decide) ?_
                      refine z_ladd dX5_trees_139 ?_
                      refine z_lstore dX5_trees_140 (by decide) rfl ?_
                      refine z_iinc dX5_trees_142 rfl (by decide) rfl ?_
                      refine z_goto 76 dX5_trees_145 (by decide) ?_
                      refine z_forget 7 ?_
                      have x0 := ih76 (s + 1) (by omega) (by omega)
                      rcases ht with ⟨a1, d, a2, a3⟩ | ⟨-, a1⟩
                      · have a4 : pc6 s = y ∧ nzs (ent1 σ) (sP σ) s y := ⟨a1, (nzs_dv a3).mpr (by omega)⟩
                        rw [show sI (s + 1) (trT (ent1 σ) (sP σ) y tv0) = sI s (trT (ent1 σ) (sP σ) y tv0) + 1 from by rw [sI_s, trT_y a4]; rfl] at x0
                        exact x0
                      · exact absurd a1 c117
                refine z_iload dX5_trees_88 rfl ?_
                refine z_callS_eI (M := mX5_trees) [_] tJ6_bitCount_0f7a4 kX5_260 dX5_trees_90 ⟨by decide, by decide⟩ rfl (Nat.le_of_ble_eq_true rfl) rfl (c_bc (by omega)) ?_
                have p1 := pc6_r (c := s) (by omega)
                refine z_iload_n dX5_trees_93 rfl ?_
                refine z_icmp_ne 110 dX5_trees_94 (by decide) (by omega) (by omega) (fun c94 => ?_) (fun c94 => ?_)
                · refine z_lconst (z := 0) dX5_trees_110 rfl ?_
                  refine z_lstore dX5_trees_111 (by decide) rfl ?_
                  exact cut113 0 (Or.inr ⟨by omega, rfl⟩) (by decide)
                · refine z_aload_n dX5_trees_97 rfl ?_
                  refine z_getR fX5_36 dX5_trees_98 (by decide) rfl rfl ?_
                  refine z_iload_n dX5_trees_101 rfl ?_
                  refine z_iload dX5_trees_102 rfl ?_
                  refine z_callV_pL (M := mX5_trees) [_, _] tX1_divisorOfMinors kX5_215 dX5_trees_104 ⟨by decide, rfl, _, _, rfl⟩ ⟨by decide, by decide⟩ rfl (Nat.le_of_ble_eq_true rfl) rfl (c_X1_divisorOfMinors E2 (by omega) (by omega) m51 b64 (a := s) (by omega) (k := y) (by omega)) (fun z104 q104 => ?_)
                  obtain ⟨d, d1, d2, d3⟩ := q104
                  rw [d1]
                  have d4 := dv_grid (by omega) (by omega) (lg_ga q44) (show s < 2 ^ sE σ by omega) d3
                  refine z_goto 111 dX5_trees_107 (by decide) ?_
                  refine z_lstore dX5_trees_111 (by decide) rfl ?_
                  exact cut113 d (Or.inl ⟨by omega, d, rfl, d4⟩) (by omega)
          exact loop76 _ 0 (by omega) (Nat.lt_succ_self _)
        · have c28 := bi_eq.mp c28
          omega
  · have c7 := bi_eq.mp c7
    omega
set_option maxRecDepth 100000 in
set_option maxHeartbeats 4000000 in
theorem c_X5_trees11 {g : GG} {h : HH} {σ : SG} (W : WF σ) (C : RC (h 2) σ) (h0 : 0 < sP σ) : CnL mX5_trees g [vr 0, vi 1, vi 1] h (fun z h' => GF h h' ∧ ∃ y : Nat, Rk (ent1 σ) (sP σ) (2 ^ sE σ - 1) 0 y ∧ z = sI (2 ^ sE σ) (trT (ent1 σ) (sP σ) y (tv1 σ))) := by
  refine cn_q (lv := [vr 0, vi 1, vi 1, vx, vx, vx, vx, vx, vx]) tX5_trees.1 rfl rfl (fun hR Q hQ => ?_)
  have w1 := W.1
  have w2 := W.2.1
  have w3 := W.2.2.1
  have b1 := b_shl (j := sE σ) (by omega)
  have b2 := b_pos (sE σ)
  refine z_aload_n dX5_trees_0 rfl ?_
  refine z_getR fX5_10 dX5_trees_1 (by decide) rfl rfl ?_
  refine z_callV_eI (M := mX5_trees) [] tX0_isThere kX5_123 dX5_trees_4 ⟨by decide, rfl, _, _, rfl⟩ ⟨by decide, by decide⟩ rfl (Nat.le_of_ble_eq_true rfl) rfl (s_X0_isThere isC1 C) ?_
  refine z_if_ne 14 dX5_trees_7 (by decide) (bi_r _) (fun c7 => ?_) (fun c7 => ?_)
  · have c7 := bi_ne.mp c7
    refine z_iload_n dX5_trees_14 rfl ?_
    refine z_iconst dX5_trees_15 ?_
    refine z_icmp_lt 31 dX5_trees_16 (by decide) (by omega) (by omega) (fun c16 => ?_) (fun c16 => ?_)
    · omega
    · refine z_iload_n dX5_trees_19 rfl ?_
      refine z_iconst dX5_trees_20 ?_
      refine z_icmp_gt 31 dX5_trees_21 (by decide) (by omega) (by omega) (fun c21 => ?_) (fun c21 => ?_)
      · omega
      · refine z_iload_n dX5_trees_24 rfl ?_
        refine z_callS_eI (M := mX5_trees) [_] tX5_isSide kX5_229 dX5_trees_25 ⟨by decide, by decide⟩ rfl (Nat.le_of_ble_eq_true rfl) rfl (c_X5_isSide (by omega)) ?_
        refine z_if_ne 35 dX5_trees_28 (by decide) (bi_r _) (fun c28 => ?_) (fun c28 => ?_)
        · have c28 := bi_ne.mp c28
          refine z_aload_n dX5_trees_35 rfl ?_
          refine z_getR fX5_36 dX5_trees_36 (by decide) rfl rfl ?_
          refine z_aload_n dX5_trees_39 rfl ?_
          refine z_getR fX5_10 dX5_trees_40 (by decide) rfl rfl ?_
          refine z_iload_n dX5_trees_43 rfl ?_
          refine z_callV_V (M := mX5_trees) [_, _] tX1_loadTable kX5_205 dX5_trees_44 ⟨by decide, rfl, _, _, rfl⟩ ⟨by decide, by decide⟩ rfl (Nat.le_of_ble_eq_true rfl) rfl (c_X1_loadTable1 W C) (fun h44 q44 => ?_)
          refine z_aload_n dX5_trees_47 rfl ?_
          refine z_getR fX5_36 dX5_trees_48 (by decide) rfl rfl ?_
          refine z_callV_V (M := mX5_trees) [] tX1_fillMinors kX5_209 dX5_trees_51 ⟨by decide, rfl, _, _, rfl⟩ ⟨by decide, by decide⟩ rfl (Nat.le_of_ble_eq_true rfl) rfl (c_X1_fillMinors q44.2.1 (by omega) q44.2.2.1 (by omega) (lg_64 q44 (by omega) (by omega) (ent1_64 W))) (fun h51 q51 => ?_)
          obtain ⟨f, g1, g2⟩ := q51
          have E2 : h51 9 2 = sP σ := by rw [g1, setc_ne _ _ (by decide)]; exact q44.2.1
          have E3 : h51 9 3 = sE σ := by rw [g1, setc_ne _ _ (by decide)]; exact q44.2.2.1
          have F51 : GF h h51 := by rw [g1]; exact lg_gf q44 f
          have C51 := F51.rc C
          have m51 : MT (h51 17) (GA h44) (sP σ) (sE σ) := by rw [g1, setc_at]; exact g2
          have b64 := lg_64 q44 (by omega) (by omega) (ent1_64 W)
          refine z_aload_n dX5_trees_54 rfl ?_
          refine z_getR fX5_36 dX5_trees_55 (by decide) rfl rfl ?_
          refine z_iconst dX5_trees_58 ?_
          refine z_aload_n dX5_trees_59 rfl ?_
          refine z_getR fX5_36 dX5_trees_60 (by decide) rfl rfl ?_
          refine z_callV_eI (M := mX5_trees) [] tX1_allColumns kX5_257 dX5_trees_63 ⟨by decide, rfl, _, _, rfl⟩ ⟨by decide, by decide⟩ rfl (Nat.le_of_ble_eq_true rfl) rfl (c_X1_allColumns E3 (by omega)) ?_
          refine z_callV_pI (M := mX5_trees) [_, _] tX1_rankBy kX5_212 dX5_trees_66 ⟨by decide, rfl, _, _, rfl⟩ ⟨by decide, by decide⟩ rfl (Nat.le_of_ble_eq_true rfl) rfl (c_X1_rankBy E2 (by omega) E3 (by omega) m51 (p := 0) (by decide) (a := 2 ^ sE σ - 1) (by omega)) (fun z66 q66 => ?_)
          obtain ⟨y, y1, y2, y3⟩ := q66
          rw [y1]
          have y4 := rk_grid (by omega) (by omega) (lg_ga q44) (by omega) y3
          refine z_istore_n dX5_trees_69 (by decide) rfl ?_
          refine z_lconst (z := 0) dX5_trees_70 rfl ?_
          refine z_lstore dX5_trees_71 (by decide) rfl ?_
          refine z_iconst dX5_trees_73 ?_
          refine z_istore dX5_trees_74 (by decide) rfl ?_
          have loop76 : ∀ (nL9 : Nat) (s : Nat), (s ≤ 2 ^ sE σ) → 2 ^ sE σ - s < nL9 → Z mX5_trees g 76 [vr 0, vi 1, vi 1, vi (y : Int), vl (sI s (trT (ent1 σ) (sP σ) y (tv1 σ))), vx, vi (s : Int), vx, vx] [] h51 Q := by
            intro nL9
            induction nL9 with
            | zero => intro s hs hnL9; exact absurd hnL9 (Nat.not_lt_zero _)
            | succ nL9 ih76 =>
              intro s hs hnL9
              refine z_iload dX5_trees_76 rfl ?_
              refine z_aload_n dX5_trees_78 rfl ?_
              refine z_getR fX5_36 dX5_trees_79 (by decide) rfl rfl ?_
              refine z_callV_eI (M := mX5_trees) [] tX1_allColumns kX5_257 dX5_trees_82 ⟨by decide, rfl, _, _, rfl⟩ ⟨by decide, by decide⟩ rfl (Nat.le_of_ble_eq_true rfl) rfl (c_X1_allColumns E3 (by omega)) ?_
              refine z_icmp_gt 148 dX5_trees_85 (by decide) (by omega) (by omega) (fun c85 => ?_) (fun c85 => ?_)
              · refine z_lload dX5_trees_148 rfl ?_
                exact z_lreturn dX5_trees_150 rfl (hQ _ _ ⟨_, rfl, ⟨F51, y, y4, by rw [show 2 ^ sE σ = s from by omega]⟩⟩)
              · have cut113 : ∀ t : Int, twp (ent1 σ) (sP σ) s y t → R64 t → Z mX5_trees g 113 [vr 0, vi 1, vi 1, vi (y : Int), vl (sI s (trT (ent1 σ) (sP σ) y (tv1 σ))), vx, vi (s : Int), vl t, vx] [] h51 Q := by
                  intro t ht ht2
                  refine z_lload dX5_trees_113 rfl ?_
                  refine z_lconst (z := 0) dX5_trees_115 rfl ?_
                  refine z_lcmp dX5_trees_116 ht2 (by decide) ?_
                  refine z_if_eq 142 dX5_trees_117 (by decide) (icmp_r _ _) (fun c117 => ?_) (fun c117 => ?_)
                  · have c117 := icmp_eq.mp c117
                    refine z_iinc dX5_trees_142 rfl (by decide) rfl ?_
                    refine z_goto 76 dX5_trees_145 (by decide) ?_
                    refine z_forget 7 ?_
                    have x0 := ih76 (s + 1) (by omega) (by omega)
                    rw [show sI (s + 1) (trT (ent1 σ) (sP σ) y (tv1 σ)) = sI s (trT (ent1 σ) (sP σ) y (tv1 σ)) from by
                      rw [sI_s, trT_n (fun q => by
                        rcases ht with ⟨a1, d, a2, a3⟩ | ⟨a1, -⟩
                        · exact (nzs_dv a3).mp q.2 (by omega)
                        · exact a1 q.1)]; omega] at x0
                    exact x0
                  · have c117 := icmp_ne.mp c117
                    refine z_lload dX5_trees_120 rfl ?_
                    refine z_iload_n dX5_trees_122 rfl ?_
                    refine z_if_ne 130 dX5_trees_123 (by decide) (by omega) (fun c123 => ?_) (fun c123 => ?_)
                    · refine z_aload_n dX5_trees_130 rfl ?_
                      refine z_iload_n dX5_trees_131 rfl ?_
                      refine z_iload dX5_trees_132 rfl ?_
                      refine z_lload dX5_trees_134 rfl ?_
                      refine z_callV_eL (M := mX5_trees) [_, _, _] tX5_treeCount kX5_265 dX5_trees_136 ⟨by decide, rfl, _, _, rfl⟩ ⟨by decide, by decide⟩ rfl (Nat.le_of_ble_eq_true rfl) rfl (c_X5_treeCount1 W C51 (c := s) (by omega) (v := t)) ?_
                      refine z_ladd dX5_trees_139 ?_
                      refine z_lstore dX5_trees_140 (by decide) rfl ?_
                      refine z_iinc dX5_trees_142 rfl (by decide) rfl ?_
                      refine z_goto 76 dX5_trees_145 (by decide) ?_
                      refine z_forget 7 ?_
                      have x0 := ih76 (s + 1) (by omega) (by omega)
                      rcases ht with ⟨a1, d, a2, a3⟩ | ⟨-, a1⟩
                      · have a4 : pc6 s = y ∧ nzs (ent1 σ) (sP σ) s y := ⟨a1, (nzs_dv a3).mpr (by omega)⟩
                        rw [show sI (s + 1) (trT (ent1 σ) (sP σ) y (tv1 σ)) = sI s (trT (ent1 σ) (sP σ) y (tv1 σ)) + wpP (sew σ) s 1 (sE σ) from by rw [sI_s, trT_y a4]; rfl] at x0
                        exact x0
                      · exact absurd a1 c117
                    · omega
                refine z_iload dX5_trees_88 rfl ?_
                refine z_callS_eI (M := mX5_trees) [_] tJ6_bitCount_0f7a4 kX5_260 dX5_trees_90 ⟨by decide, by decide⟩ rfl (Nat.le_of_ble_eq_true rfl) rfl (c_bc (by omega)) ?_
                have p1 := pc6_r (c := s) (by omega)
                refine z_iload_n dX5_trees_93 rfl ?_
                refine z_icmp_ne 110 dX5_trees_94 (by decide) (by omega) (by omega) (fun c94 => ?_) (fun c94 => ?_)
                · refine z_lconst (z := 0) dX5_trees_110 rfl ?_
                  refine z_lstore dX5_trees_111 (by decide) rfl ?_
                  exact cut113 0 (Or.inr ⟨by omega, rfl⟩) (by decide)
                · refine z_aload_n dX5_trees_97 rfl ?_
                  refine z_getR fX5_36 dX5_trees_98 (by decide) rfl rfl ?_
                  refine z_iload_n dX5_trees_101 rfl ?_
                  refine z_iload dX5_trees_102 rfl ?_
                  refine z_callV_pL (M := mX5_trees) [_, _] tX1_divisorOfMinors kX5_215 dX5_trees_104 ⟨by decide, rfl, _, _, rfl⟩ ⟨by decide, by decide⟩ rfl (Nat.le_of_ble_eq_true rfl) rfl (c_X1_divisorOfMinors E2 (by omega) (by omega) m51 b64 (a := s) (by omega) (k := y) (by omega)) (fun z104 q104 => ?_)
                  obtain ⟨d, d1, d2, d3⟩ := q104
                  rw [d1]
                  have d4 := dv_grid (by omega) (by omega) (lg_ga q44) (show s < 2 ^ sE σ by omega) d3
                  refine z_goto 111 dX5_trees_107 (by decide) ?_
                  refine z_lstore dX5_trees_111 (by decide) rfl ?_
                  exact cut113 d (Or.inl ⟨by omega, d, rfl, d4⟩) (by omega)
          exact loop76 _ 0 (by omega) (Nat.lt_succ_self _)
        · have c28 := bi_eq.mp c28
          omega
  · have c7 := bi_eq.mp c7
    omega
set_option maxRecDepth 100000 in
set_option maxHeartbeats 4000000 in
theorem c_X5_trees20 {g : GG} {h : HH} {σ : SG} (W : WF σ) (C : RC (h 2) σ) (h0 : 0 < sP σ) : CnL mX5_trees g [vr 0, vi 2, vi 0] h (fun z h' => GF h h' ∧ ∃ y : Nat, Rk (ent2 σ) (sE σ) (2 ^ sF σ - 1) 0 y ∧ z = sI (2 ^ sF σ) (trT (ent2 σ) (sE σ) y tv0)) := by
  refine cn_q (lv := [vr 0, vi 2, vi 0, vx, vx, vx, vx, vx, vx]) tX5_trees.1 rfl rfl (fun hR Q hQ => ?_)
  have w1 := W.1
  have w2 := W.2.1
  have w3 := W.2.2.1
  have b1 := b_shl (j := sF σ) (by omega)
  have b2 := b_pos (sF σ)
  refine z_aload_n dX5_trees_0 rfl ?_
  refine z_getR fX5_10 dX5_trees_1 (by decide) rfl rfl ?_
  refine z_callV_eI (M := mX5_trees) [] tX0_isThere kX5_123 dX5_trees_4 ⟨by decide, rfl, _, _, rfl⟩ ⟨by decide, by decide⟩ rfl (Nat.le_of_ble_eq_true rfl) rfl (s_X0_isThere isC1 C) ?_
  refine z_if_ne 14 dX5_trees_7 (by decide) (bi_r _) (fun c7 => ?_) (fun c7 => ?_)
  · have c7 := bi_ne.mp c7
    refine z_iload_n dX5_trees_14 rfl ?_
    refine z_iconst dX5_trees_15 ?_
    refine z_icmp_lt 31 dX5_trees_16 (by decide) (by omega) (by omega) (fun c16 => ?_) (fun c16 => ?_)
    · omega
    · refine z_iload_n dX5_trees_19 rfl ?_
      refine z_iconst dX5_trees_20 ?_
      refine z_icmp_gt 31 dX5_trees_21 (by decide) (by omega) (by omega) (fun c21 => ?_) (fun c21 => ?_)
      · omega
      · refine z_iload_n dX5_trees_24 rfl ?_
        refine z_callS_eI (M := mX5_trees) [_] tX5_isSide kX5_229 dX5_trees_25 ⟨by decide, by decide⟩ rfl (Nat.le_of_ble_eq_true rfl) rfl (c_X5_isSide (by omega)) ?_
        refine z_if_ne 35 dX5_trees_28 (by decide) (bi_r _) (fun c28 => ?_) (fun c28 => ?_)
        · have c28 := bi_ne.mp c28
          refine z_aload_n dX5_trees_35 rfl ?_
          refine z_getR fX5_36 dX5_trees_36 (by decide) rfl rfl ?_
          refine z_aload_n dX5_trees_39 rfl ?_
          refine z_getR fX5_10 dX5_trees_40 (by decide) rfl rfl ?_
          refine z_iload_n dX5_trees_43 rfl ?_
          refine z_callV_V (M := mX5_trees) [_, _] tX1_loadTable kX5_205 dX5_trees_44 ⟨by decide, rfl, _, _, rfl⟩ ⟨by decide, by decide⟩ rfl (Nat.le_of_ble_eq_true rfl) rfl (c_X1_loadTable2 W C) (fun h44 q44 => ?_)
          refine z_aload_n dX5_trees_47 rfl ?_
          refine z_getR fX5_36 dX5_trees_48 (by decide) rfl rfl ?_
          refine z_callV_V (M := mX5_trees) [] tX1_fillMinors kX5_209 dX5_trees_51 ⟨by decide, rfl, _, _, rfl⟩ ⟨by decide, by decide⟩ rfl (Nat.le_of_ble_eq_true rfl) rfl (c_X1_fillMinors q44.2.1 (by omega) q44.2.2.1 (by omega) (lg_64 q44 (by omega) (by omega) (ent2_64 W))) (fun h51 q51 => ?_)
          obtain ⟨f, g1, g2⟩ := q51
          have E2 : h51 9 2 = sE σ := by rw [g1, setc_ne _ _ (by decide)]; exact q44.2.1
          have E3 : h51 9 3 = sF σ := by rw [g1, setc_ne _ _ (by decide)]; exact q44.2.2.1
          have F51 : GF h h51 := by rw [g1]; exact lg_gf q44 f
          have C51 := F51.rc C
          have m51 : MT (h51 17) (GA h44) (sE σ) (sF σ) := by rw [g1, setc_at]; exact g2
          have b64 := lg_64 q44 (by omega) (by omega) (ent2_64 W)
          refine z_aload_n dX5_trees_54 rfl ?_
          refine z_getR fX5_36 dX5_trees_55 (by decide) rfl rfl ?_
          refine z_iconst dX5_trees_58 ?_
          refine z_aload_n dX5_trees_59 rfl ?_
          refine z_getR fX5_36 dX5_trees_60 (by decide) rfl rfl ?_
          refine z_callV_eI (M := mX5_trees) [] tX1_allColumns kX5_257 dX5_trees_63 ⟨by decide, rfl, _, _, rfl⟩ ⟨by decide, by decide⟩ rfl (Nat.le_of_ble_eq_true rfl) rfl (c_X1_allColumns E3 (by omega)) ?_
          refine z_callV_pI (M := mX5_trees) [_, _] tX1_rankBy kX5_212 dX5_trees_66 ⟨by decide, rfl, _, _, rfl⟩ ⟨by decide, by decide⟩ rfl (Nat.le_of_ble_eq_true rfl) rfl (c_X1_rankBy E2 (by omega) E3 (by omega) m51 (p := 0) (by decide) (a := 2 ^ sF σ - 1) (by omega)) (fun z66 q66 => ?_)
          obtain ⟨y, y1, y2, y3⟩ := q66
          rw [y1]
          have y4 := rk_grid (by omega) (by omega) (lg_ga q44) (by omega) y3
          refine z_istore_n dX5_trees_69 (by decide) rfl ?_
          refine z_lconst (z := 0) dX5_trees_70 rfl ?_
          refine z_lstore dX5_trees_71 (by decide) rfl ?_
          refine z_iconst dX5_trees_73 ?_
          refine z_istore dX5_trees_74 (by decide) rfl ?_
          have loop76 : ∀ (nL9 : Nat) (s : Nat), (s ≤ 2 ^ sF σ) → 2 ^ sF σ - s < nL9 → Z mX5_trees g 76 [vr 0, vi 2, vi 0, vi (y : Int), vl (sI s (trT (ent2 σ) (sE σ) y tv0)), vx, vi (s : Int), vx, vx] [] h51 Q := by
            intro nL9
            induction nL9 with
            | zero => intro s hs hnL9; exact absurd hnL9 (Nat.not_lt_zero _)
            | succ nL9 ih76 =>
              intro s hs hnL9
              refine z_iload dX5_trees_76 rfl ?_
              refine z_aload_n dX5_trees_78 rfl ?_
              refine z_getR fX5_36 dX5_trees_79 (by decide) rfl rfl ?_
              refine z_callV_eI (M := mX5_trees) [] tX1_allColumns kX5_257 dX5_trees_82 ⟨by decide, rfl, _, _, rfl⟩ ⟨by decide, by decide⟩ rfl (Nat.le_of_ble_eq_true rfl) rfl (c_X1_allColumns E3 (by omega)) ?_
              refine z_icmp_gt 148 dX5_trees_85 (by decide) (by omega) (by omega) (fun c85 => ?_) (fun c85 => ?_)
              · refine z_lload dX5_trees_148 rfl ?_
                exact z_lreturn dX5_trees_150 rfl (hQ _ _ ⟨_, rfl, ⟨F51, y, y4, by rw [show 2 ^ sF σ = s from by omega]⟩⟩)
              · have cut113 : ∀ t : Int, twp (ent2 σ) (sE σ) s y t → R64 t → Z mX5_trees g 113 [vr 0, vi 2, vi 0, vi (y : Int), vl (sI s (trT (ent2 σ) (sE σ) y tv0)), vx, vi (s : Int), vl t, vx] [] h51 Q := by
                  intro t ht ht2
                  refine z_lload dX5_trees_113 rfl ?_
                  refine z_lconst (z := 0) dX5_trees_115 rfl ?_
                  refine z_lcmp dX5_trees_116 ht2 (by decide) ?_
                  refine z_if_eq 142 dX5_trees_117 (by decide) (icmp_r _ _) (fun c117 => ?_) (fun c117 => ?_)
                  · have c117 := icmp_eq.mp c117
                    refine z_iinc dX5_trees_142 rfl (by decide) rfl ?_
                    refine z_goto 76 dX5_trees_145 (by decide) ?_
                    refine z_forget 7 ?_
                    have x0 := ih76 (s + 1) (by omega) (by omega)
                    rw [show sI (s + 1) (trT (ent2 σ) (sE σ) y tv0) = sI s (trT (ent2 σ) (sE σ) y tv0) from by
                      rw [sI_s, trT_n (fun q => by
                        rcases ht with ⟨a1, d, a2, a3⟩ | ⟨a1, -⟩
                        · exact (nzs_dv a3).mp q.2 (by omega)
                        · exact a1 q.1)]; omega] at x0
                    exact x0
                  · have c117 := icmp_ne.mp c117
                    refine z_lload dX5_trees_120 rfl ?_
                    refine z_iload_n dX5_trees_122 rfl ?_
                    refine z_if_ne 130 dX5_trees_123 (by decide) (by omega) (fun c123 => ?_) (fun c123 => ?_)
                    · omega
                    · refine z_lconst (z := 1) dX5_trees_126 rfl ?_
                      refine z_goto 139 dX5_trees_127 (by decide) ?_
                      refine z_ladd dX5_trees_139 ?_
                      refine z_lstore dX5_trees_140 (by decide) rfl ?_
                      refine z_iinc dX5_trees_142 rfl (by decide) rfl ?_
                      refine z_goto 76 dX5_trees_145 (by decide) ?_
                      refine z_forget 7 ?_
                      have x0 := ih76 (s + 1) (by omega) (by omega)
                      rcases ht with ⟨a1, d, a2, a3⟩ | ⟨-, a1⟩
                      · have a4 : pc6 s = y ∧ nzs (ent2 σ) (sE σ) s y := ⟨a1, (nzs_dv a3).mpr (by omega)⟩
                        rw [show sI (s + 1) (trT (ent2 σ) (sE σ) y tv0) = sI s (trT (ent2 σ) (sE σ) y tv0) + 1 from by rw [sI_s, trT_y a4]; rfl] at x0
                        exact x0
                      · exact absurd a1 c117
                refine z_iload dX5_trees_88 rfl ?_
                refine z_callS_eI (M := mX5_trees) [_] tJ6_bitCount_0f7a4 kX5_260 dX5_trees_90 ⟨by decide, by decide⟩ rfl (Nat.le_of_ble_eq_true rfl) rfl (c_bc (by omega)) ?_
                have p1 := pc6_r (c := s) (by omega)
                refine z_iload_n dX5_trees_93 rfl ?_
                refine z_icmp_ne 110 dX5_trees_94 (by decide) (by omega) (by omega) (fun c94 => ?_) (fun c94 => ?_)
                · refine z_lconst (z := 0) dX5_trees_110 rfl ?_
                  refine z_lstore dX5_trees_111 (by decide) rfl ?_
                  exact cut113 0 (Or.inr ⟨by omega, rfl⟩) (by decide)
                · refine z_aload_n dX5_trees_97 rfl ?_
                  refine z_getR fX5_36 dX5_trees_98 (by decide) rfl rfl ?_
                  refine z_iload_n dX5_trees_101 rfl ?_
                  refine z_iload dX5_trees_102 rfl ?_
                  refine z_callV_pL (M := mX5_trees) [_, _] tX1_divisorOfMinors kX5_215 dX5_trees_104 ⟨by decide, rfl, _, _, rfl⟩ ⟨by decide, by decide⟩ rfl (Nat.le_of_ble_eq_true rfl) rfl (c_X1_divisorOfMinors E2 (by omega) (by omega) m51 b64 (a := s) (by omega) (k := y) (by omega)) (fun z104 q104 => ?_)
                  obtain ⟨d, d1, d2, d3⟩ := q104
                  rw [d1]
                  have d4 := dv_grid (by omega) (by omega) (lg_ga q44) (show s < 2 ^ sF σ by omega) d3
                  refine z_goto 111 dX5_trees_107 (by decide) ?_
                  refine z_lstore dX5_trees_111 (by decide) rfl ?_
                  exact cut113 d (Or.inl ⟨by omega, d, rfl, d4⟩) (by omega)
          exact loop76 _ 0 (by omega) (Nat.lt_succ_self _)
        · have c28 := bi_eq.mp c28
          omega
  · have c7 := bi_eq.mp c7
    omega
set_option maxRecDepth 100000 in
set_option maxHeartbeats 4000000 in
theorem c_X5_trees21 {g : GG} {h : HH} {σ : SG} (W : WF σ) (C : RC (h 2) σ) (h0 : 0 < sP σ) : CnL mX5_trees g [vr 0, vi 2, vi 1] h (fun z h' => GF h h' ∧ ∃ y : Nat, Rk (ent2 σ) (sE σ) (2 ^ sF σ - 1) 0 y ∧ z = sI (2 ^ sF σ) (trT (ent2 σ) (sE σ) y (tv2 σ))) := by
  refine cn_q (lv := [vr 0, vi 2, vi 1, vx, vx, vx, vx, vx, vx]) tX5_trees.1 rfl rfl (fun hR Q hQ => ?_)
  have w1 := W.1
  have w2 := W.2.1
  have w3 := W.2.2.1
  have b1 := b_shl (j := sF σ) (by omega)
  have b2 := b_pos (sF σ)
  refine z_aload_n dX5_trees_0 rfl ?_
  refine z_getR fX5_10 dX5_trees_1 (by decide) rfl rfl ?_
  refine z_callV_eI (M := mX5_trees) [] tX0_isThere kX5_123 dX5_trees_4 ⟨by decide, rfl, _, _, rfl⟩ ⟨by decide, by decide⟩ rfl (Nat.le_of_ble_eq_true rfl) rfl (s_X0_isThere isC1 C) ?_
  refine z_if_ne 14 dX5_trees_7 (by decide) (bi_r _) (fun c7 => ?_) (fun c7 => ?_)
  · have c7 := bi_ne.mp c7
    refine z_iload_n dX5_trees_14 rfl ?_
    refine z_iconst dX5_trees_15 ?_
    refine z_icmp_lt 31 dX5_trees_16 (by decide) (by omega) (by omega) (fun c16 => ?_) (fun c16 => ?_)
    · omega
    · refine z_iload_n dX5_trees_19 rfl ?_
      refine z_iconst dX5_trees_20 ?_
      refine z_icmp_gt 31 dX5_trees_21 (by decide) (by omega) (by omega) (fun c21 => ?_) (fun c21 => ?_)
      · omega
      · refine z_iload_n dX5_trees_24 rfl ?_
        refine z_callS_eI (M := mX5_trees) [_] tX5_isSide kX5_229 dX5_trees_25 ⟨by decide, by decide⟩ rfl (Nat.le_of_ble_eq_true rfl) rfl (c_X5_isSide (by omega)) ?_
        refine z_if_ne 35 dX5_trees_28 (by decide) (bi_r _) (fun c28 => ?_) (fun c28 => ?_)
        · have c28 := bi_ne.mp c28
          refine z_aload_n dX5_trees_35 rfl ?_
          refine z_getR fX5_36 dX5_trees_36 (by decide) rfl rfl ?_
          refine z_aload_n dX5_trees_39 rfl ?_
          refine z_getR fX5_10 dX5_trees_40 (by decide) rfl rfl ?_
          refine z_iload_n dX5_trees_43 rfl ?_
          refine z_callV_V (M := mX5_trees) [_, _] tX1_loadTable kX5_205 dX5_trees_44 ⟨by decide, rfl, _, _, rfl⟩ ⟨by decide, by decide⟩ rfl (Nat.le_of_ble_eq_true rfl) rfl (c_X1_loadTable2 W C) (fun h44 q44 => ?_)
          refine z_aload_n dX5_trees_47 rfl ?_
          refine z_getR fX5_36 dX5_trees_48 (by decide) rfl rfl ?_
          refine z_callV_V (M := mX5_trees) [] tX1_fillMinors kX5_209 dX5_trees_51 ⟨by decide, rfl, _, _, rfl⟩ ⟨by decide, by decide⟩ rfl (Nat.le_of_ble_eq_true rfl) rfl (c_X1_fillMinors q44.2.1 (by omega) q44.2.2.1 (by omega) (lg_64 q44 (by omega) (by omega) (ent2_64 W))) (fun h51 q51 => ?_)
          obtain ⟨f, g1, g2⟩ := q51
          have E2 : h51 9 2 = sE σ := by rw [g1, setc_ne _ _ (by decide)]; exact q44.2.1
          have E3 : h51 9 3 = sF σ := by rw [g1, setc_ne _ _ (by decide)]; exact q44.2.2.1
          have F51 : GF h h51 := by rw [g1]; exact lg_gf q44 f
          have C51 := F51.rc C
          have m51 : MT (h51 17) (GA h44) (sE σ) (sF σ) := by rw [g1, setc_at]; exact g2
          have b64 := lg_64 q44 (by omega) (by omega) (ent2_64 W)
          refine z_aload_n dX5_trees_54 rfl ?_
          refine z_getR fX5_36 dX5_trees_55 (by decide) rfl rfl ?_
          refine z_iconst dX5_trees_58 ?_
          refine z_aload_n dX5_trees_59 rfl ?_
          refine z_getR fX5_36 dX5_trees_60 (by decide) rfl rfl ?_
          refine z_callV_eI (M := mX5_trees) [] tX1_allColumns kX5_257 dX5_trees_63 ⟨by decide, rfl, _, _, rfl⟩ ⟨by decide, by decide⟩ rfl (Nat.le_of_ble_eq_true rfl) rfl (c_X1_allColumns E3 (by omega)) ?_
          refine z_callV_pI (M := mX5_trees) [_, _] tX1_rankBy kX5_212 dX5_trees_66 ⟨by decide, rfl, _, _, rfl⟩ ⟨by decide, by decide⟩ rfl (Nat.le_of_ble_eq_true rfl) rfl (c_X1_rankBy E2 (by omega) E3 (by omega) m51 (p := 0) (by decide) (a := 2 ^ sF σ - 1) (by omega)) (fun z66 q66 => ?_)
          obtain ⟨y, y1, y2, y3⟩ := q66
          rw [y1]
          have y4 := rk_grid (by omega) (by omega) (lg_ga q44) (by omega) y3
          refine z_istore_n dX5_trees_69 (by decide) rfl ?_
          refine z_lconst (z := 0) dX5_trees_70 rfl ?_
          refine z_lstore dX5_trees_71 (by decide) rfl ?_
          refine z_iconst dX5_trees_73 ?_
          refine z_istore dX5_trees_74 (by decide) rfl ?_
          have loop76 : ∀ (nL9 : Nat) (s : Nat), (s ≤ 2 ^ sF σ) → 2 ^ sF σ - s < nL9 → Z mX5_trees g 76 [vr 0, vi 2, vi 1, vi (y : Int), vl (sI s (trT (ent2 σ) (sE σ) y (tv2 σ))), vx, vi (s : Int), vx, vx] [] h51 Q := by
            intro nL9
            induction nL9 with
            | zero => intro s hs hnL9; exact absurd hnL9 (Nat.not_lt_zero _)
            | succ nL9 ih76 =>
              intro s hs hnL9
              refine z_iload dX5_trees_76 rfl ?_
              refine z_aload_n dX5_trees_78 rfl ?_
              refine z_getR fX5_36 dX5_trees_79 (by decide) rfl rfl ?_
              refine z_callV_eI (M := mX5_trees) [] tX1_allColumns kX5_257 dX5_trees_82 ⟨by decide, rfl, _, _, rfl⟩ ⟨by decide, by decide⟩ rfl (Nat.le_of_ble_eq_true rfl) rfl (c_X1_allColumns E3 (by omega)) ?_
              refine z_icmp_gt 148 dX5_trees_85 (by decide) (by omega) (by omega) (fun c85 => ?_) (fun c85 => ?_)
              · refine z_lload dX5_trees_148 rfl ?_
                exact z_lreturn dX5_trees_150 rfl (hQ _ _ ⟨_, rfl, ⟨F51, y, y4, by rw [show 2 ^ sF σ = s from by omega]⟩⟩)
              · have cut113 : ∀ t : Int, twp (ent2 σ) (sE σ) s y t → R64 t → Z mX5_trees g 113 [vr 0, vi 2, vi 1, vi (y : Int), vl (sI s (trT (ent2 σ) (sE σ) y (tv2 σ))), vx, vi (s : Int), vl t, vx] [] h51 Q := by
                  intro t ht ht2
                  refine z_lload dX5_trees_113 rfl ?_
                  refine z_lconst (z := 0) dX5_trees_115 rfl ?_
                  refine z_lcmp dX5_trees_116 ht2 (by decide) ?_
                  refine z_if_eq 142 dX5_trees_117 (by decide) (icmp_r _ _) (fun c117 => ?_) (fun c117 => ?_)
                  · have c117 := icmp_eq.mp c117
                    refine z_iinc dX5_trees_142 rfl (by decide) rfl ?_
                    refine z_goto 76 dX5_trees_145 (by decide) ?_
                    refine z_forget 7 ?_
                    have x0 := ih76 (s + 1) (by omega) (by omega)
                    rw [show sI (s + 1) (trT (ent2 σ) (sE σ) y (tv2 σ)) = sI s (trT (ent2 σ) (sE σ) y (tv2 σ)) from by
                      rw [sI_s, trT_n (fun q => by
                        rcases ht with ⟨a1, d, a2, a3⟩ | ⟨a1, -⟩
                        · exact (nzs_dv a3).mp q.2 (by omega)
                        · exact a1 q.1)]; omega] at x0
                    exact x0
                  · have c117 := icmp_ne.mp c117
                    refine z_lload dX5_trees_120 rfl ?_
                    refine z_iload_n dX5_trees_122 rfl ?_
                    refine z_if_ne 130 dX5_trees_123 (by decide) (by omega) (fun c123 => ?_) (fun c123 => ?_)
                    · refine z_aload_n dX5_trees_130 rfl ?_
                      refine z_iload_n dX5_trees_131 rfl ?_
                      refine z_iload dX5_trees_132 rfl ?_
                      refine z_lload dX5_trees_134 rfl ?_
                      refine z_callV_eL (M := mX5_trees) [_, _, _] tX5_treeCount kX5_265 dX5_trees_136 ⟨by decide, rfl, _, _, rfl⟩ ⟨by decide, by decide⟩ rfl (Nat.le_of_ble_eq_true rfl) rfl (c_X5_treeCount2 W C51 (c := s) (by omega) (v := t)) ?_
                      refine z_ladd dX5_trees_139 ?_
                      refine z_lstore dX5_trees_140 (by decide) rfl ?_
                      refine z_iinc dX5_trees_142 rfl (by decide) rfl ?_
                      refine z_goto 76 dX5_trees_145 (by decide) ?_
                      refine z_forget 7 ?_
                      have x0 := ih76 (s + 1) (by omega) (by omega)
                      rcases ht with ⟨a1, d, a2, a3⟩ | ⟨-, a1⟩
                      · have a4 : pc6 s = y ∧ nzs (ent2 σ) (sE σ) s y := ⟨a1, (nzs_dv a3).mpr (by omega)⟩
                        rw [show sI (s + 1) (trT (ent2 σ) (sE σ) y (tv2 σ)) = sI s (trT (ent2 σ) (sE σ) y (tv2 σ)) + wpP (sfw σ) s (t * t) (sF σ) from by rw [sI_s, trT_y a4]; unfold tv2; rw [a1, gdv_e a3, a2]] at x0
                        exact x0
                      · exact absurd a1 c117
                    · omega
                refine z_iload dX5_trees_88 rfl ?_
                refine z_callS_eI (M := mX5_trees) [_] tJ6_bitCount_0f7a4 kX5_260 dX5_trees_90 ⟨by decide, by decide⟩ rfl (Nat.le_of_ble_eq_true rfl) rfl (c_bc (by omega)) ?_
                have p1 := pc6_r (c := s) (by omega)
                refine z_iload_n dX5_trees_93 rfl ?_
                refine z_icmp_ne 110 dX5_trees_94 (by decide) (by omega) (by omega) (fun c94 => ?_) (fun c94 => ?_)
                · refine z_lconst (z := 0) dX5_trees_110 rfl ?_
                  refine z_lstore dX5_trees_111 (by decide) rfl ?_
                  exact cut113 0 (Or.inr ⟨by omega, rfl⟩) (by decide)
                · refine z_aload_n dX5_trees_97 rfl ?_
                  refine z_getR fX5_36 dX5_trees_98 (by decide) rfl rfl ?_
                  refine z_iload_n dX5_trees_101 rfl ?_
                  refine z_iload dX5_trees_102 rfl ?_
                  refine z_callV_pL (M := mX5_trees) [_, _] tX1_divisorOfMinors kX5_215 dX5_trees_104 ⟨by decide, rfl, _, _, rfl⟩ ⟨by decide, by decide⟩ rfl (Nat.le_of_ble_eq_true rfl) rfl (c_X1_divisorOfMinors E2 (by omega) (by omega) m51 b64 (a := s) (by omega) (k := y) (by omega)) (fun z104 q104 => ?_)
                  obtain ⟨d, d1, d2, d3⟩ := q104
                  rw [d1]
                  have d4 := dv_grid (by omega) (by omega) (lg_ga q44) (show s < 2 ^ sF σ by omega) d3
                  refine z_goto 111 dX5_trees_107 (by decide) ?_
                  refine z_lstore dX5_trees_111 (by decide) rfl ?_
                  exact cut113 d (Or.inl ⟨by omega, d, rfl, d4⟩) (by omega)
          exact loop76 _ 0 (by omega) (Nat.lt_succ_self _)
        · have c28 := bi_eq.mp c28
          omega
  · have c7 := bi_eq.mp c7
    omega

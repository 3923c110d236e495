set_option maxRecDepth 100000 in
set_option maxHeartbeats 4000000 in
theorem c_X6_complexF {g : GG} {h : HH} {tk : Nat → Int} {n : Nat} (T : TP h tk n) (hf : (pAll tk n).1.2 ≠ 0) : CnI mX6_complex g [vr 47] h (fun z h' => z = -1000100 - ((pAll tk n).1.1 : Int) ∧ h' 47 14 = (pAll tk n).1.2 ∧ h' 47 7 = 0 ∧ (∀ k, k ≠ 47 → k ≠ 49 → h' k = h k) ∧ ∀ j, j < 7 ∨ 14 < j → h' 47 j = h 47 j) := by
  refine cn_q (lv := [vr 47, vx]) tX6_complex.1 rfl rfl (fun hR Q hQ => ?_)
  refine z_iconst dX6_complex_0 ?_
  refine z_istore_n dX6_complex_1 (by decide) rfl ?_
  have loop2 : ∀ (nL9 : Nat) (k : Nat), (k ≤ 63) → 63 - k < nL9 → Z mX6_complex g 2 [vr 47, vi (k : Int)] [] (setc h 49 (zr (h 49) k)) Q := by
    intro nL9
    induction nL9 with
    | zero => intro k hk hnL9; exact absurd hnL9 (Nat.not_lt_zero _)
    | succ nL9 ih2 =>
      intro k hk hnL9
      refine z_iload_n dX6_complex_2 rfl ?_
      refine z_bipush dX6_complex_3 (by decide) ?_
      refine z_icmp_ge 21 dX6_complex_5 (by decide) (by omega) (by omega) (fun c5 => ?_) (fun c5 => ?_)
      · rw [show k = 63 from by omega]
        refine z_aload_n dX6_complex_21 rfl ?_
        refine z_iconst dX6_complex_22 ?_
        refine z_putI pX6_134 dX6_complex_23 (by decide) rfl rfl (by omega) ?_
        refine z_aload_n dX6_complex_26 rfl ?_
        refine z_iconst dX6_complex_27 ?_
        refine z_putI pX6_165 dX6_complex_28 (by decide) rfl rfl (by omega) ?_
        refine z_aload_n dX6_complex_31 rfl ?_
        have T0 : TP (up (up (setc h 49 (zr (h 49) 63)) 47 8 0) 47 12 0) tk n := TP_of T (by rw [up_o _ _ (by decide), up_o _ _ (by decide), setc_ne _ _ (by decide)]) (by rw [up_ne _ _ _ (by decide), up_ne _ _ _ (by decide), setc_ne _ _ (by decide)])
        refine z_callV_V (M := mX6_complex) [] tX6_reads kX6_171 dX6_complex_32 ⟨by decide, rfl, _, _, rfl⟩ ⟨by decide, by decide⟩ rfl (Nat.le_of_ble_eq_true rfl) rfl (c_X6_reads T0 (i := 0) (by rw [up_o _ _ (by decide), up_same]; rfl) (by decide)) (fun h32 q32 => ?_)
        obtain ⟨f', g1, g2, g3, g4, g5⟩ := q32
        have F32 : FM h h32 := by
          refine ⟨fun k k1 k2 => by rw [g1, setc_ne _ _ k1, up_ne _ _ _ k1, up_ne _ _ _ k1, setc_ne _ _ k2], fun j hj => ?_⟩
          rw [g1, setc_at, g2 j hj, up_o _ _ (by omega), up_o _ _ (by omega), setc_ne _ _ (by decide)]
        have E32 : h32 49 = (zr (h 49) 63) := by rw [g1, setc_ne _ _ (by decide), up_ne _ _ _ (by decide), up_ne _ _ _ (by decide), setc_at]
        have L32 : LAf tk (h32 47) (0, 0) := by
          rw [g1, setc_at]
          exact ⟨by rw [g3, up_same]; rfl, fun q => absurd rfl q, fun _ => g5, by rw [g5.2.1]; exact T.2.2.2.1 0⟩
        have T32 := F32.tp T
        have K49 : ∀ (h1 : HH) (s1 : PF), Pt h32 tk s1 h1 → (s1.2 = 0 → tk s1.1 = 99) → goS s1 = tkS tk 99 (0, 0) → Z mX6_complex g 49 [vr 47, vx] [] h1 Q := by
          intro h1 s1 P1 k1 k2
          refine z_aload_n dX6_complex_49 rfl ?_
          refine z_callV_V (M := mX6_complex) [] tX6_goesOn kX6_178 dX6_complex_50 ⟨by decide, rfl, _, _, rfl⟩ ⟨by decide, by decide⟩ rfl (Nat.le_of_ble_eq_true rfl) rfl (c_X6_goesOn (P1.tp T32) P1.la (fun q => by rw [k1 q]; decide)) (fun h50 q50 => ?_)
          rw [k2] at q50
          have P2 := P1.tr q50
          refine z_aload_n dX6_complex_53 rfl ?_
          refine z_getR fX6_13 dX6_complex_54 (by decide) rfl rfl ?_
          refine z_iconst dX6_complex_57 ?_
          refine z_aload_n dX6_complex_58 rfl ?_
          refine z_iconst dX6_complex_59 ?_
          refine z_iconst dX6_complex_60 ?_
          refine z_callV_I (M := mX6_complex) [_, _] tX6_digit kX6_191 dX6_complex_61 ⟨by decide, rfl, _, _, rfl⟩ ⟨by decide, by decide⟩ rfl (Nat.le_of_ble_eq_true rfl) rfl (c_X6_digit (P2.tp T32) P2.la (lo := 1) (hi := 5) (by decide) (by decide)) (fun z61 h61 q61 => ?_)
          obtain ⟨q1, q2⟩ := q61
          have P3 := P2.tr q1
          have dn := tkD_n tk (lo := 1) (hi := 5) (tkS tk 99 (0, 0))
          have d5 := tkD_le tk (lo := 1) (hi := 5) (tkS tk 99 (0, 0)) (by decide)
          have hP5 : (tkD tk 1 5 (tkS tk 99 (0, 0))).1 ≤ 5 := by omega
          have r61 : R32 z61 := by rw [q2]; split <;> omega
          have E61 : h61 49 = (zr (h 49) 63) := (P3.ne (by decide)).trans E32
          refine z_iastore dX6_complex_64 (by decide) rfl (by omega) (by omega) (by first | decide | omega) (by omega) ?_
          rw [up_n (z := 0) (i := 0) rfl]
          refine z_aload_n dX6_complex_65 rfl ?_
          refine z_callV_V (M := mX6_complex) [] tX6_stop kX6_194 dX6_complex_66 ⟨by decide, rfl, _, _, rfl⟩ ⟨by decide, by decide⟩ rfl (Nat.le_of_ble_eq_true rfl) rfl (c_X6_stop (FM.tp (F32.tr (P3.fm.tr (FM.set _ _))) T) (la_set P3.la)) (fun h66 q66 => ?_)
          have F66 := F32.tr (P3.fm.tr ((FM.set _ _).tr q66.fm))
          have E66 : h66 49 = upn (zr (h 49) 63) 0 z61 := by rw [q66.ne (by decide), setc_at, E61]
          have R66 : (tkS tk 59 (tkD tk 1 5 (tkS tk 99 (0, 0))).2).2 = 0 → RM (h66 49) (sg0 (tkD tk 1 5 (tkS tk 99 (0, 0))).1) ∧ ∀ j, 45 ≤ j → j < 63 → h66 49 j = 0 := fun q => by
            have m1 := (tkS_ok q).1
            rw [if_pos m1] at q2
            rw [E66]
            exact ⟨rm_sg0 q2 (fun j hj => if_pos hj), fun j j1 j2 => by rw [upn_ne (by omega)]; exact if_pos j2⟩
          have loop69 : ∀ (nL9 : Nat) (h1 : HH) (S : PF × SG) (m : Nat), (FM h h1) → (LAf tk (h1 47) S.1) → (S.1.2 = 0 → RM (h1 49) S.2 ∧ ∀ j, 45 ≤ j → j < 63 → h1 49 j = 0) → (WB S.2) → (pEdges tk 90 (tkS tk 59 (tkD tk 1 5 (tkS tk 99 (0, 0))).2, sg0 (tkD tk 1 5 (tkS tk 99 (0, 0))).1) = pEdges tk m S) → (S.1.2 = 0 → n - S.1.1 ≤ m) → (if S.1.2 = 0 then 91 - S.1.1 else 0) < nL9 → Z mX6_complex g 69 [vr 47, vx] [] h1 Q := by
            intro nL9
            induction nL9 with
            | zero => intro h1 S m F1 L1 R1 W1 hE hm hnL9; exact absurd hnL9 (Nat.not_lt_zero _)
            | succ nL9 ih69 =>
              intro h1 S m F1 L1 R1 W1 hE hm hnL9
              have K113 : ∀ (h1 : HH) (F1 : FM h h1) (L1 : LAf tk (h1 47) (pAll tk n).1) (R1 : (pAll tk n).1.2 = 0 → RM (h1 49) (pAll tk n).2), Z mX6_complex g 113 [vr 47, vx] [] h1 Q := by
                intro h1 F1 L1 R1
                have l1 := L1.1
                have k6 : ∀ j, (up h1 47 7 0) 47 j = if j = 7 then 0 else h1 47 j := fun j => by rw [up_at]
                refine z_aload_n dX6_complex_113 rfl ?_
                refine z_iconst dX6_complex_114 ?_
                refine z_putI pX6_130 dX6_complex_115 (by decide) rfl rfl (by omega) ?_
                refine z_aload_n dX6_complex_118 rfl ?_
                refine z_getI fX6_165 dX6_complex_119 (by decide) rfl rfl (fun r119 => ?_)
                rw [k6 12, if_neg (by decide), l1] at r119 ⊢
                refine z_if_le 141 dX6_complex_122 (by decide) (by omega) (fun c122 => ?_) (fun c122 => ?_)
                · omega
                · refine z_aload_n dX6_complex_125 rfl ?_
                  refine z_aload_n dX6_complex_126 rfl ?_
                  refine z_getI fX6_165 dX6_complex_127 (by decide) rfl rfl (fun r127 => ?_)
                  rw [k6 12, if_neg (by decide), l1] at r127 ⊢
                  refine z_putI pX6_230 dX6_complex_130 (by decide) rfl rfl (by omega) ?_
                  refine z_ldc (-1000100) dX6_complex_133 qX6_233 rfl ?_
                  refine z_aload_n dX6_complex_135 rfl ?_
                  refine z_getI fX6_168 dX6_complex_136 (by decide) rfl rfl (fun r136 => ?_)
                  rw [up_o _ _ (show (13 : Nat) ≠ 14 by decide), k6 13, if_neg (by decide), L1.2.1 hf]
                  refine z_isub dX6_complex_139 ?_
                  exact z_ireturn dX6_complex_140 rfl (hQ _ _ ⟨_, rfl, ⟨by omega, by rw [up_same], by rw [up_o _ _ (by decide), up_same], fun k k1 k2 => by rw [up_ne _ _ _ k1, up_ne _ _ _ k1]; exact F1.1 k k1 k2, fun j hj => by rw [up_o _ _ (by omega), up_o _ _ (by omega)]; exact F1.2 j (by omega)⟩⟩)
              refine z_aload_n dX6_complex_69 rfl ?_
              refine z_bipush dX6_complex_70 (by decide) ?_
              refine z_callV_eI (M := mX6_complex) [_] tX6_isLetter kX6_220 dX6_complex_72 ⟨by decide, rfl, _, _, rfl⟩ ⟨by decide, by decide⟩ rfl (Nat.le_of_ble_eq_true rfl) rfl (c_X6_isLetter (F1.tp T) L1 (c := 101) (by decide) (by decide)) ?_
              refine z_if_eq 85 dX6_complex_75 (by decide) (bi_r _) (fun c75 => ?_) (fun c75 => ?_)
              · have c75 := bi_eq.mp c75
                have loop85 : ∀ (nL9 : Nat) (h1 : HH) (S : PF × SG) (m : Nat), (FM h h1) → (LAf tk (h1 47) S.1) → (S.1.2 = 0 → RM (h1 49) S.2) → (WB S.2) → (pFaces tk 90 (pEdges tk 90 (tkS tk 59 (tkD tk 1 5 (tkS tk 99 (0, 0))).2, sg0 (tkD tk 1 5 (tkS tk 99 (0, 0))).1)) = pFaces tk m S) → (S.1.2 = 0 → n - S.1.1 ≤ m) → (if S.1.2 = 0 then 91 - S.1.1 else 0) < nL9 → Z mX6_complex g 85 [vr 47, vx] [] h1 Q := by
                  intro nL9
                  induction nL9 with
                  | zero => intro h1 S m F1 L1 R1 W1 hE hm hnL9; exact absurd hnL9 (Nat.not_lt_zero _)
                  | succ nL9 ih85 =>
                    intro h1 S m F1 L1 R1 W1 hE hm hnL9
                    refine z_aload_n dX6_complex_85 rfl ?_
                    refine z_bipush dX6_complex_86 (by decide) ?_
                    refine z_callV_eI (M := mX6_complex) [_] tX6_isLetter kX6_220 dX6_complex_88 ⟨by decide, rfl, _, _, rfl⟩ ⟨by decide, by decide⟩ rfl (Nat.le_of_ble_eq_true rfl) rfl (c_X6_isLetter (F1.tp T) L1 (c := 102) (by decide) (by decide)) ?_
                    refine z_if_eq 101 dX6_complex_91 (by decide) (bi_r _) (fun c91 => ?_) (fun c91 => ?_)
                    · have c91 := bi_eq.mp c91
                      refine z_aload_n dX6_complex_101 rfl ?_
                      refine z_getI fX6_162 dX6_complex_102 (by decide) rfl rfl (fun r102 => ?_)
                      refine z_if_eq 113 dX6_complex_105 (by decide) (by omega) (fun c105 => ?_) (fun c105 => ?_)
                      · have hst := pFaces_stop c91 m
                        obtain ⟨a1, a2⟩ := pAll_1 (n := n) (hE.trans hst)
                        have a3 : (pAll tk n).1 = S.1 := by
                          rw [a1, if_neg]
                          rintro ⟨q, q'⟩
                          have m6 := (L1.2.2.1 q).2.2.1
                          have m7 := T.2.2.2.2 _ q'
                          have m8 := kd_0.mp (m6.symm.trans c105)
                          omega
                        exact K113 h1 F1 (by rw [a3]; exact L1) (fun q => by rw [a3] at q; rw [a2]; exact R1 q)
                      · refine z_aload_n dX6_complex_108 rfl ?_
                        refine z_iconst dX6_complex_109 ?_
                        refine z_callV_V (M := mX6_complex) [_] tX6_bad kX6_174 dX6_complex_110 ⟨by decide, rfl, _, _, rfl⟩ ⟨by decide, by decide⟩ rfl (Nat.le_of_ble_eq_true rfl) rfl (c_X6_bad L1 (c := 1) (by decide)) (fun h110 q110 => ?_)
                        have hst := pFaces_stop c91 m
                        obtain ⟨a1, a2⟩ := pAll_1 (n := n) (hE.trans hst)
                        have a3 : (pAll tk n).1 = bdS S.1 1 := by
                          rw [a1]
                          unfold bdS
                          by_cases q : S.1.2 = 0
                          · have m6 := (L1.2.2.1 q).2.2.1
                            have m8 : ¬ tk S.1.1 < 0 := fun r => c105 (m6.trans (kd_0.mpr r))
                            rw [if_pos ⟨q, tp_lt T (by omega)⟩, if_neg (fun r => r q)]
                          · rw [if_neg (fun r => q r.1), if_pos q]
                        exact K113 h110 (F1.tr q110.fm) (by rw [a3]; exact q110.la) (fun q => by rw [a3] at q; exact (bdS_0 (by decide) q).elim)
                    · have c91 := bi_ne.mp c91
                      refine z_aload_n dX6_complex_94 rfl ?_
                      refine z_callV_V (M := mX6_complex) [] tX6_readsFace kX6_227 dX6_complex_95 ⟨by decide, rfl, _, _, rfl⟩ ⟨by decide, by decide⟩ rfl (Nat.le_of_ble_eq_true rfl) rfl (c_X6_readsFace (F1.tp T) L1 c91.1 W1 (R1 c91.1) c91.2) (fun h95 q95 => ?_)
                      refine z_goto 85 dX6_complex_98 (by decide) ?_
                      obtain ⟨b1, b2, b3⟩ := q95
                      have hgo := pFaces_go (tk := tk) (s := S) c91 (m - 1)
                      have hm2 := hm c91.1
                      have lt := tp_lt T (i := S.1.1) (by rw [c91.2]; decide)
                      have t3 := T.2.2.1
                      rw [show m - 1 + 1 = m by omega] at hgo
                      rw [if_pos c91.1] at hnL9
                      exact ih85 h95 (pFace tk S) (m - 1) (F1.tr b1) b2 b3 (pFace_WB W1) (hE.trans hgo) (fun q => by have := pFace_pr c91.1 c91.2 q; omega) (dec_ok (fun q => pFace_pr c91.1 c91.2 q) (by omega) hnL9)
                have hst := pEdges_stop c75 m
                exact loop85 _ h1 S 90 F1 L1 (fun q => (R1 q).1) W1 (by rw [hE, hst]) (fun _ => by have := T.2.2.1; omega) (Nat.lt_succ_self _)
              · have c75 := bi_ne.mp c75
                refine z_aload_n dX6_complex_78 rfl ?_
                refine z_callV_V (M := mX6_complex) [] tX6_readsEdge kX6_224 dX6_complex_79 ⟨by decide, rfl, _, _, rfl⟩ ⟨by decide, by decide⟩ rfl (Nat.le_of_ble_eq_true rfl) rfl (c_X6_readsEdge (F1.tp T) L1 c75.1 W1 (R1 c75.1).1 c75.2 (R1 c75.1).2) (fun h79 q79 => ?_)
                refine z_goto 69 dX6_complex_82 (by decide) ?_
                obtain ⟨b1, b2, b3, b4⟩ := q79
                have hgo := pEdges_go (tk := tk) (s := S) c75 (m - 1)
                have hm2 := hm c75.1
                have lt := tp_lt T (i := S.1.1) (by rw [c75.2]; decide)
                have t3 := T.2.2.1
                rw [show m - 1 + 1 = m by omega] at hgo
                rw [if_pos c75.1] at hnL9
                exact ih69 h79 (pEdge tk S) (m - 1) (F1.tr b1) b2 (fun _ => ⟨b3, b4⟩) (pEdge_WB W1) (hE.trans hgo) (fun q => by have := (pEdge_ok q).1; omega) (dec_ok (fun q => (pEdge_ok q).1) (by omega) hnL9)
          exact loop69 _ h66 (tkS tk 59 (tkD tk 1 5 (tkS tk 99 (0, 0))).2, sg0 (tkD tk 1 5 (tkS tk 99 (0, 0))).1) 90 F66 q66.la R66 (WB_sg0 hP5) rfl (fun _ => by have := T.2.2.1; omega) (Nat.lt_succ_self _)
        refine z_aload_n dX6_complex_35 rfl ?_
        refine z_bipush dX6_complex_36 (by decide) ?_
        refine z_callV_eI (M := mX6_complex) [_] tX6_isLetter kX6_220 dX6_complex_38 ⟨by decide, rfl, _, _, rfl⟩ ⟨by decide, by decide⟩ rfl (Nat.le_of_ble_eq_true rfl) rfl (c_X6_isLetter T32 L32 (c := 99) (by decide) (by decide)) ?_
        refine z_if_ne 49 dX6_complex_41 (by decide) (bi_r _) (fun c41 => ?_) (fun c41 => ?_)
        · have c41 := bi_ne.mp c41
          refine z_forget 1 ?_
          exact K49 h32 (0, 0) (Pt.refl L32) (fun _ => c41.2) (goS_tkS (fun _ => c41.2))
        · have c41 := bi_eq.mp c41
          refine z_aload_n dX6_complex_44 rfl ?_
          refine z_iconst dX6_complex_45 ?_
          refine z_callV_V (M := mX6_complex) [_] tX6_bad kX6_174 dX6_complex_46 ⟨by decide, rfl, _, _, rfl⟩ ⟨by decide, by decide⟩ rfl (Nat.le_of_ble_eq_true rfl) rfl (c_X6_bad L32 (c := 1) (by decide)) (fun h46 q46 => ?_)
          have e8 : bdS (0, 0) 1 = (0, 1) := rfl
          rw [e8] at q46
          refine z_forget 1 ?_
          exact K49 _ (0, 1) q46 (fun q => absurd q (show ¬ (1 : Nat) = 0 by decide)) (by unfold goS tkS; rw [if_pos (show (1 : Nat) ≠ 0 by decide), if_neg (show ¬ (0 : Nat) ≠ 0 by decide), if_neg (fun q => c41 ⟨rfl, q⟩)])
      · refine z_aload_n dX6_complex_8 rfl ?_
        refine z_getR fX6_13 dX6_complex_9 (by decide) rfl rfl ?_
        refine z_iload_n dX6_complex_12 rfl ?_
        refine z_iconst dX6_complex_13 ?_
        refine z_iastore dX6_complex_14 (by decide) rfl (by omega) (by omega) (by first | decide | omega) (by omega) ?_
        rw [up_s (i := k) rfl, zr_s]
        refine z_iinc dX6_complex_15 rfl (by decide) rfl ?_
        refine z_goto 2 dX6_complex_18 (by decide) ?_
        exact ih2 (k + 1) (by omega) (by omega)
  have x0 := loop2 _ 0 (by omega) (Nat.lt_succ_self _)
  rw [show zr (h 49) 0 = h 49 from by funext j; exact if_neg (by omega), setc_self] at x0
  exact x0
set_option maxRecDepth 100000 in
set_option maxHeartbeats 4000000 in
theorem c_X6_complex1 {g : GG} {h : HH} {tk : Nat → Int} {n : Nat} (T : TP h tk n) (hf : (pAll tk n).1.2 = 0) : CnI mX6_complex g [vr 47] h (fun z h' => z = (sP (pAll tk n).2 : Int) + sE (pAll tk n).2 + sF (pAll tk n).2 ∧ RM (h' 48) (pAll tk n).2 ∧ h' 47 3 = 0 ∧ h' 47 7 = 0 ∧ (∀ k, k ≠ 47 → k ≠ 48 → k ≠ 49 → h' k = h k) ∧ ∀ j, j ≠ 3 → j < 7 ∨ 14 ≤ j → h' 47 j = h 47 j) := by
  refine cn_q (lv := [vr 47, vx]) tX6_complex.1 rfl rfl (fun hR Q hQ => ?_)
  refine z_iconst dX6_complex_0 ?_
  refine z_istore_n dX6_complex_1 (by decide) rfl ?_
  have loop2 : ∀ (nL9 : Nat) (k : Nat), (k ≤ 63) → 63 - k < nL9 → Z mX6_complex g 2 [vr 47, vi (k : Int)] [] (setc h 49 (zr (h 49) k)) Q := by
    intro nL9
    induction nL9 with
    | zero => intro k hk hnL9; exact absurd hnL9 (Nat.not_lt_zero _)
    | succ nL9 ih2 =>
      intro k hk hnL9
      refine z_iload_n dX6_complex_2 rfl ?_
      refine z_bipush dX6_complex_3 (by decide) ?_
      refine z_icmp_ge 21 dX6_complex_5 (by decide) (by omega) (by omega) (fun c5 => ?_) (fun c5 => ?_)
      · rw [show k = 63 from by omega]
        refine z_aload_n dX6_complex_21 rfl ?_
        refine z_iconst dX6_complex_22 ?_
        refine z_putI pX6_134 dX6_complex_23 (by decide) rfl rfl (by omega) ?_
        refine z_aload_n dX6_complex_26 rfl ?_
        refine z_iconst dX6_complex_27 ?_
        refine z_putI pX6_165 dX6_complex_28 (by decide) rfl rfl (by omega) ?_
        refine z_aload_n dX6_complex_31 rfl ?_
        have T0 : TP (up (up (setc h 49 (zr (h 49) 63)) 47 8 0) 47 12 0) tk n := TP_of T (by rw [up_o _ _ (by decide), up_o _ _ (by decide), setc_ne _ _ (by decide)]) (by rw [up_ne _ _ _ (by decide), up_ne _ _ _ (by decide), setc_ne _ _ (by decide)])
        refine z_callV_V (M := mX6_complex) [] tX6_reads kX6_171 dX6_complex_32 ⟨by decide, rfl, _, _, rfl⟩ ⟨by decide, by decide⟩ rfl (Nat.le_of_ble_eq_true rfl) rfl (c_X6_reads T0 (i := 0) (by rw [up_o _ _ (by decide), up_same]; rfl) (by decide)) (fun h32 q32 => ?_)
        obtain ⟨f', g1, g2, g3, g4, g5⟩ := q32
        have F32 : FM h h32 := by
          refine ⟨fun k k1 k2 => by rw [g1, setc_ne _ _ k1, up_ne _ _ _ k1, up_ne _ _ _ k1, setc_ne _ _ k2], fun j hj => ?_⟩
          rw [g1, setc_at, g2 j hj, up_o _ _ (by omega), up_o _ _ (by omega), setc_ne _ _ (by decide)]
        have E32 : h32 49 = (zr (h 49) 63) := by rw [g1, setc_ne _ _ (by decide), up_ne _ _ _ (by decide), up_ne _ _ _ (by decide), setc_at]
        have L32 : LAf tk (h32 47) (0, 0) := by
          rw [g1, setc_at]
          exact ⟨by rw [g3, up_same]; rfl, fun q => absurd rfl q, fun _ => g5, by rw [g5.2.1]; exact T.2.2.2.1 0⟩
        have T32 := F32.tp T
        have K49 : ∀ (h1 : HH) (s1 : PF), Pt h32 tk s1 h1 → (s1.2 = 0 → tk s1.1 = 99) → goS s1 = tkS tk 99 (0, 0) → Z mX6_complex g 49 [vr 47, vx] [] h1 Q := by
          intro h1 s1 P1 k1 k2
          refine z_aload_n dX6_complex_49 rfl ?_
          refine z_callV_V (M := mX6_complex) [] tX6_goesOn kX6_178 dX6_complex_50 ⟨by decide, rfl, _, _, rfl⟩ ⟨by decide, by decide⟩ rfl (Nat.le_of_ble_eq_true rfl) rfl (c_X6_goesOn (P1.tp T32) P1.la (fun q => by rw [k1 q]; decide)) (fun h50 q50 => ?_)
          rw [k2] at q50
          have P2 := P1.tr q50
          refine z_aload_n dX6_complex_53 rfl ?_
          refine z_getR fX6_13 dX6_complex_54 (by decide) rfl rfl ?_
          refine z_iconst dX6_complex_57 ?_
          refine z_aload_n dX6_complex_58 rfl ?_
          refine z_iconst dX6_complex_59 ?_
          refine z_iconst dX6_complex_60 ?_
          refine z_callV_I (M := mX6_complex) [_, _] tX6_digit kX6_191 dX6_complex_61 ⟨by decide, rfl, _, _, rfl⟩ ⟨by decide, by decide⟩ rfl (Nat.le_of_ble_eq_true rfl) rfl (c_X6_digit (P2.tp T32) P2.la (lo := 1) (hi := 5) (by decide) (by decide)) (fun z61 h61 q61 => ?_)
          obtain ⟨q1, q2⟩ := q61
          have P3 := P2.tr q1
          have dn := tkD_n tk (lo := 1) (hi := 5) (tkS tk 99 (0, 0))
          have d5 := tkD_le tk (lo := 1) (hi := 5) (tkS tk 99 (0, 0)) (by decide)
          have hP5 : (tkD tk 1 5 (tkS tk 99 (0, 0))).1 ≤ 5 := by omega
          have r61 : R32 z61 := by rw [q2]; split <;> omega
          have E61 : h61 49 = (zr (h 49) 63) := (P3.ne (by decide)).trans E32
          refine z_iastore dX6_complex_64 (by decide) rfl (by omega) (by omega) (by first | decide | omega) (by omega) ?_
          rw [up_n (z := 0) (i := 0) rfl]
          refine z_aload_n dX6_complex_65 rfl ?_
          refine z_callV_V (M := mX6_complex) [] tX6_stop kX6_194 dX6_complex_66 ⟨by decide, rfl, _, _, rfl⟩ ⟨by decide, by decide⟩ rfl (Nat.le_of_ble_eq_true rfl) rfl (c_X6_stop (FM.tp (F32.tr (P3.fm.tr (FM.set _ _))) T) (la_set P3.la)) (fun h66 q66 => ?_)
          have F66 := F32.tr (P3.fm.tr ((FM.set _ _).tr q66.fm))
          have E66 : h66 49 = upn (zr (h 49) 63) 0 z61 := by rw [q66.ne (by decide), setc_at, E61]
          have R66 : (tkS tk 59 (tkD tk 1 5 (tkS tk 99 (0, 0))).2).2 = 0 → RM (h66 49) (sg0 (tkD tk 1 5 (tkS tk 99 (0, 0))).1) ∧ ∀ j, 45 ≤ j → j < 63 → h66 49 j = 0 := fun q => by
            have m1 := (tkS_ok q).1
            rw [if_pos m1] at q2
            rw [E66]
            exact ⟨rm_sg0 q2 (fun j hj => if_pos hj), fun j j1 j2 => by rw [upn_ne (by omega)]; exact if_pos j2⟩
          have loop69 : ∀ (nL9 : Nat) (h1 : HH) (S : PF × SG) (m : Nat), (FM h h1) → (LAf tk (h1 47) S.1) → (S.1.2 = 0 → RM (h1 49) S.2 ∧ ∀ j, 45 ≤ j → j < 63 → h1 49 j = 0) → (WB S.2) → (pEdges tk 90 (tkS tk 59 (tkD tk 1 5 (tkS tk 99 (0, 0))).2, sg0 (tkD tk 1 5 (tkS tk 99 (0, 0))).1) = pEdges tk m S) → (S.1.2 = 0 → n - S.1.1 ≤ m) → (if S.1.2 = 0 then 91 - S.1.1 else 0) < nL9 → Z mX6_complex g 69 [vr 47, vx] [] h1 Q := by
            intro nL9
            induction nL9 with
            | zero => intro h1 S m F1 L1 R1 W1 hE hm hnL9; exact absurd hnL9 (Nat.not_lt_zero _)
            | succ nL9 ih69 =>
              intro h1 S m F1 L1 R1 W1 hE hm hnL9
              have K113 : ∀ (h1 : HH) (F1 : FM h h1) (L1 : LAf tk (h1 47) (pAll tk n).1) (R1 : (pAll tk n).1.2 = 0 → RM (h1 49) (pAll tk n).2), Z mX6_complex g 113 [vr 47, vx] [] h1 Q := by
                intro h1 F1 L1 R1
                have l1 := L1.1
                have k6 : ∀ j, (up h1 47 7 0) 47 j = if j = 7 then 0 else h1 47 j := fun j => by rw [up_at]
                refine z_aload_n dX6_complex_113 rfl ?_
                refine z_iconst dX6_complex_114 ?_
                refine z_putI pX6_130 dX6_complex_115 (by decide) rfl rfl (by omega) ?_
                refine z_aload_n dX6_complex_118 rfl ?_
                refine z_getI fX6_165 dX6_complex_119 (by decide) rfl rfl (fun r119 => ?_)
                rw [k6 12, if_neg (by decide), l1] at r119 ⊢
                refine z_if_le 141 dX6_complex_122 (by decide) (by omega) (fun c122 => ?_) (fun c122 => ?_)
                · refine z_aload_n dX6_complex_141 rfl ?_
                  refine z_getR fX6_13 dX6_complex_142 (by decide) rfl rfl ?_
                  refine z_iconst dX6_complex_145 ?_
                  refine z_aload_n dX6_complex_146 rfl ?_
                  refine z_getR fX6_7 dX6_complex_147 (by decide) rfl rfl ?_
                  refine z_iconst dX6_complex_150 ?_
                  refine z_callS_V (M := mX6_complex) [_, _, _, _] tX6_copies kX6_234 dX6_complex_151 ⟨by decide, by decide⟩ rfl (Nat.le_of_ble_eq_true rfl) rfl (c_X6_copies (x := 49) (a := 0) (y := 48) (b := 0) (by decide) (by decide) (by decide) rfl rfl (by decide) (by decide) (by decide) (by decide)) (fun h151 q151 => ?_)
                  obtain ⟨f2, e2, f3, f4⟩ := cpB_g (up h1 47 7 0) 49 48
                  rw [q151, e2]
                  have pw := pAll_WB tk n
                  have R7 : RM f2 (pAll tk n).2 := RM_congr pw (R1 hf) (fun j hj => by rw [f3 j hj, up_ne _ _ _ (by decide)])
                  refine z_aload_n dX6_complex_154 rfl ?_
                  refine z_iconst dX6_complex_155 ?_
                  refine z_putI pX6_238 dX6_complex_156 (by decide) rfl rfl (by omega) ?_
                  have R8 : RM ((up (setc (up h1 47 7 0) 48 f2) 47 3 0) 48) (pAll tk n).2 := by rw [up_ne _ _ _ (by decide), setc_at]; exact R7
                  have y1 := rm_P R8
                  have y2 := rm_E R8
                  have y3 := rm_F R8
                  have w1 := pw.1
                  have w2 := pw.2.1
                  have w3 := pw.2.2.1
                  rw [show (0 : Nat) = Int.toNat 0 from rfl] at y1
                  rw [show (1 : Nat) = Int.toNat 1 from rfl] at y2
                  rw [show (2 : Nat) = Int.toNat 2 from rfl] at y3
                  refine z_aload_n dX6_complex_159 rfl ?_
                  refine z_getR fX6_7 dX6_complex_160 (by decide) rfl rfl ?_
                  refine z_iconst dX6_complex_163 ?_
                  refine z_iaload dX6_complex_164 (by decide) rfl (by omega) (by omega) (by first | decide | omega) (fun r164 => ?_)
                  refine z_aload_n dX6_complex_165 rfl ?_
                  refine z_getR fX6_7 dX6_complex_166 (by decide) rfl rfl ?_
                  refine z_iconst dX6_complex_169 ?_
                  refine z_iaload dX6_complex_170 (by decide) rfl (by omega) (by omega) (by first | decide | omega) (fun r170 => ?_)
                  refine z_iadd dX6_complex_171 ?_
                  refine z_aload_n dX6_complex_172 rfl ?_
                  refine z_getR fX6_7 dX6_complex_173 (by decide) rfl rfl ?_
                  refine z_iconst dX6_complex_176 ?_
                  refine z_iaload dX6_complex_177 (by decide) rfl (by omega) (by omega) (by first | decide | omega) (fun r177 => ?_)
                  refine z_iadd dX6_complex_178 ?_
                  exact z_ireturn dX6_complex_179 rfl (hQ _ _ ⟨_, rfl, ⟨by omega, R8, up_same _ _ _ _, by rw [up_o _ _ (by decide), setc_ne _ _ (by decide), up_same], fun k k1 k2 k3 => by rw [up_ne _ _ _ k1, setc_ne _ _ k2, up_ne _ _ _ k1]; exact F1.1 k k1 k3, fun j j3 hj => by rw [up_o _ _ j3, setc_ne _ _ (by decide), up_o _ _ (by omega)]; exact F1.2 j (by omega)⟩⟩)
                · omega
              refine z_aload_n dX6_complex_69 rfl ?_
              refine z_bipush dX6_complex_70 (by decide) ?_
              refine z_callV_eI (M := mX6_complex) [_] tX6_isLetter kX6_220 dX6_complex_72 ⟨by decide, rfl, _, _, rfl⟩ ⟨by decide, by decide⟩ rfl (Nat.le_of_ble_eq_true rfl) rfl (c_X6_isLetter (F1.tp T) L1 (c := 101) (by decide) (by decide)) ?_
              refine z_if_eq 85 dX6_complex_75 (by decide) (bi_r _) (fun c75 => ?_) (fun c75 => ?_)
              · have c75 := bi_eq.mp c75
                have loop85 : ∀ (nL9 : Nat) (h1 : HH) (S : PF × SG) (m : Nat), (FM h h1) → (LAf tk (h1 47) S.1) → (S.1.2 = 0 → RM (h1 49) S.2) → (WB S.2) → (pFaces tk 90 (pEdges tk 90 (tkS tk 59 (tkD tk 1 5 (tkS tk 99 (0, 0))).2, sg0 (tkD tk 1 5 (tkS tk 99 (0, 0))).1)) = pFaces tk m S) → (S.1.2 = 0 → n - S.1.1 ≤ m) → (if S.1.2 = 0 then 91 - S.1.1 else 0) < nL9 → Z mX6_complex g 85 [vr 47, vx] [] h1 Q := by
                  intro nL9
                  induction nL9 with
                  | zero => intro h1 S m F1 L1 R1 W1 hE hm hnL9; exact absurd hnL9 (Nat.not_lt_zero _)
                  | succ nL9 ih85 =>
                    intro h1 S m F1 L1 R1 W1 hE hm hnL9
                    refine z_aload_n dX6_complex_85 rfl ?_
                    refine z_bipush dX6_complex_86 (by decide) ?_
                    refine z_callV_eI (M := mX6_complex) [_] tX6_isLetter kX6_220 dX6_complex_88 ⟨by decide, rfl, _, _, rfl⟩ ⟨by decide, by decide⟩ rfl (Nat.le_of_ble_eq_true rfl) rfl (c_X6_isLetter (F1.tp T) L1 (c := 102) (by decide) (by decide)) ?_
                    refine z_if_eq 101 dX6_complex_91 (by decide) (bi_r _) (fun c91 => ?_) (fun c91 => ?_)
                    · have c91 := bi_eq.mp c91
                      refine z_aload_n dX6_complex_101 rfl ?_
                      refine z_getI fX6_162 dX6_complex_102 (by decide) rfl rfl (fun r102 => ?_)
                      refine z_if_eq 113 dX6_complex_105 (by decide) (by omega) (fun c105 => ?_) (fun c105 => ?_)
                      · have hst := pFaces_stop c91 m
                        obtain ⟨a1, a2⟩ := pAll_1 (n := n) (hE.trans hst)
                        have a3 : (pAll tk n).1 = S.1 := by
                          rw [a1, if_neg]
                          rintro ⟨q, q'⟩
                          have m6 := (L1.2.2.1 q).2.2.1
                          have m7 := T.2.2.2.2 _ q'
                          have m8 := kd_0.mp (m6.symm.trans c105)
                          omega
                        exact K113 h1 F1 (by rw [a3]; exact L1) (fun q => by rw [a3] at q; rw [a2]; exact R1 q)
                      · refine z_aload_n dX6_complex_108 rfl ?_
                        refine z_iconst dX6_complex_109 ?_
                        refine z_callV_V (M := mX6_complex) [_] tX6_bad kX6_174 dX6_complex_110 ⟨by decide, rfl, _, _, rfl⟩ ⟨by decide, by decide⟩ rfl (Nat.le_of_ble_eq_true rfl) rfl (c_X6_bad L1 (c := 1) (by decide)) (fun h110 q110 => ?_)
                        have hst := pFaces_stop c91 m
                        obtain ⟨a1, a2⟩ := pAll_1 (n := n) (hE.trans hst)
                        have a3 : (pAll tk n).1 = bdS S.1 1 := by
                          rw [a1]
                          unfold bdS
                          by_cases q : S.1.2 = 0
                          · have m6 := (L1.2.2.1 q).2.2.1
                            have m8 : ¬ tk S.1.1 < 0 := fun r => c105 (m6.trans (kd_0.mpr r))
                            rw [if_pos ⟨q, tp_lt T (by omega)⟩, if_neg (fun r => r q)]
                          · rw [if_neg (fun r => q r.1), if_pos q]
                        exact K113 h110 (F1.tr q110.fm) (by rw [a3]; exact q110.la) (fun q => by rw [a3] at q; exact (bdS_0 (by decide) q).elim)
                    · have c91 := bi_ne.mp c91
                      refine z_aload_n dX6_complex_94 rfl ?_
                      refine z_callV_V (M := mX6_complex) [] tX6_readsFace kX6_227 dX6_complex_95 ⟨by decide, rfl, _, _, rfl⟩ ⟨by decide, by decide⟩ rfl (Nat.le_of_ble_eq_true rfl) rfl (c_X6_readsFace (F1.tp T) L1 c91.1 W1 (R1 c91.1) c91.2) (fun h95 q95 => ?_)
                      refine z_goto 85 dX6_complex_98 (by decide) ?_
                      obtain ⟨b1, b2, b3⟩ := q95
                      have hgo := pFaces_go (tk := tk) (s := S) c91 (m - 1)
                      have hm2 := hm c91.1
                      have lt := tp_lt T (i := S.1.1) (by rw [c91.2]; decide)
                      have t3 := T.2.2.1
                      rw [show m - 1 + 1 = m by omega] at hgo
                      rw [if_pos c91.1] at hnL9
                      exact ih85 h95 (pFace tk S) (m - 1) (F1.tr b1) b2 b3 (pFace_WB W1) (hE.trans hgo) (fun q => by have := pFace_pr c91.1 c91.2 q; omega) (dec_ok (fun q => pFace_pr c91.1 c91.2 q) (by omega) hnL9)
                have hst := pEdges_stop c75 m
                exact loop85 _ h1 S 90 F1 L1 (fun q => (R1 q).1) W1 (by rw [hE, hst]) (fun _ => by have := T.2.2.1; omega) (Nat.lt_succ_self _)
              · have c75 := bi_ne.mp c75
                refine z_aload_n dX6_complex_78 rfl ?_
                refine z_callV_V (M := mX6_complex) [] tX6_readsEdge kX6_224 dX6_complex_79 ⟨by decide, rfl, _, _, rfl⟩ ⟨by decide, by decide⟩ rfl (Nat.le_of_ble_eq_true rfl) rfl (c_X6_readsEdge (F1.tp T) L1 c75.1 W1 (R1 c75.1).1 c75.2 (R1 c75.1).2) (fun h79 q79 => ?_)
                refine z_goto 69 dX6_complex_82 (by decide) ?_
                obtain ⟨b1, b2, b3, b4⟩ := q79
                have hgo := pEdges_go (tk := tk) (s := S) c75 (m - 1)
                have hm2 := hm c75.1
                have lt := tp_lt T (i := S.1.1) (by rw [c75.2]; decide)
                have t3 := T.2.2.1
                rw [show m - 1 + 1 = m by omega] at hgo
                rw [if_pos c75.1] at hnL9
                exact ih69 h79 (pEdge tk S) (m - 1) (F1.tr b1) b2 (fun _ => ⟨b3, b4⟩) (pEdge_WB W1) (hE.trans hgo) (fun q => by have := (pEdge_ok q).1; omega) (dec_ok (fun q => (pEdge_ok q).1) (by omega) hnL9)
          exact loop69 _ h66 (tkS tk 59 (tkD tk 1 5 (tkS tk 99 (0, 0))).2, sg0 (tkD tk 1 5 (tkS tk 99 (0, 0))).1) 90 F66 q66.la R66 (WB_sg0 hP5) rfl (fun _ => by have := T.2.2.1; omega) (Nat.lt_succ_self _)
        refine z_aload_n dX6_complex_35 rfl ?_
        refine z_bipush dX6_complex_36 (by decide) ?_
        refine z_callV_eI (M := mX6_complex) [_] tX6_isLetter kX6_220 dX6_complex_38 ⟨by decide, rfl, _, _, rfl⟩ ⟨by decide, by decide⟩ rfl (Nat.le_of_ble_eq_true rfl) rfl (c_X6_isLetter T32 L32 (c := 99) (by decide) (by decide)) ?_
        refine z_if_ne 49 dX6_complex_41 (by decide) (bi_r _) (fun c41 => ?_) (fun c41 => ?_)
        · have c41 := bi_ne.mp c41
          refine z_forget 1 ?_
          exact K49 h32 (0, 0) (Pt.refl L32) (fun _ => c41.2) (goS_tkS (fun _ => c41.2))
        · have c41 := bi_eq.mp c41
          refine z_aload_n dX6_complex_44 rfl ?_
          refine z_iconst dX6_complex_45 ?_
          refine z_callV_V (M := mX6_complex) [_] tX6_bad kX6_174 dX6_complex_46 ⟨by decide, rfl, _, _, rfl⟩ ⟨by decide, by decide⟩ rfl (Nat.le_of_ble_eq_true rfl) rfl (c_X6_bad L32 (c := 1) (by decide)) (fun h46 q46 => ?_)
          have e8 : bdS (0, 0) 1 = (0, 1) := rfl
          rw [e8] at q46
          refine z_forget 1 ?_
          exact K49 _ (0, 1) q46 (fun q => absurd q (show ¬ (1 : Nat) = 0 by decide)) (by unfold goS tkS; rw [if_pos (show (1 : Nat) ≠ 0 by decide), if_neg (show ¬ (0 : Nat) ≠ 0 by decide), if_neg (fun q => c41 ⟨rfl, q⟩)])
      · refine z_aload_n dX6_complex_8 rfl ?_
        refine z_getR fX6_13 dX6_complex_9 (by decide) rfl rfl ?_
        refine z_iload_n dX6_complex_12 rfl ?_
        refine z_iconst dX6_complex_13 ?_
        refine z_iastore dX6_complex_14 (by decide) rfl (by omega) (by omega) (by first | decide | omega) (by omega) ?_
        rw [up_s (i := k) rfl, zr_s]
        refine z_iinc dX6_complex_15 rfl (by decide) rfl ?_
        refine z_goto 2 dX6_complex_18 (by decide) ?_
        exact ih2 (k + 1) (by omega) (by omega)
  have x0 := loop2 _ 0 (by omega) (Nat.lt_succ_self _)
  rw [show zr (h 49) 0 = h 49 from by funext j; exact if_neg (by omega), setc_self] at x0
  exact x0

theorem pEdge_WB {tk : Nat → Int} {s : PF × SG} (W : WB s.2) : WB (pEdge tk s).2 := by
  by_cases q : (pEdge tk s).1.2 = 0
  · obtain ⟨-, h6, a, b, w, -, -, -, -, e⟩ := pEdge_ok q
    rw [e]; exact WB_add W h6 a b w
  · rcases pEdge_sg (tk := tk) s with e | e
    · rw [e]; exact W
    · exact absurd e q
theorem pEdge_le {h : HH} {n : Nat} (hn : h 5 1 = n) {s : PF × SG} (hs : s.1.1 ≤ n) : (pEdge (tkT h) s).1.1 ≤ n := by
  unfold pEdge
  by_cases q : 6 ≤ sE s.2
  · rw [if_pos q]; exact hs
  · rw [if_neg q]
    exact tkS_le hn (by decide) (tkD_lep hn (tkD_lep hn (tkD_lep hn (tkS_le hn (by decide) hs))))
theorem pLet_n4 {σ : SG} {tk : Nat → Int} {s : PW} (hs : s.2.1 ≤ 4) : (pLet σ tk s).2.1 ≤ 4 := by
  by_cases q : apOK σ s.2.1 s.2.2.1 s.2.2.2 (tk s.1.1)
  · rw [pLet_t q]; exact q.1
  · rw [pLet_f q]; exact hs
theorem pLets_n4 {σ : SG} {tk : Nat → Int} : ∀ (n : Nat) {s : PW}, s.2.1 ≤ 4 → (pLets σ tk n s).2.1 ≤ 4
  | 0, _, hs => hs
  | n + 1, s, hs => by
    by_cases q : s.1.2 = 0 ∧ 0 ≤ edg (tk s.1.1)
    · rw [pLets_go q]; exact pLets_n4 n (pLet_n4 hs)
    · rw [pLets_stop q]; exact hs
theorem pLet_le {h : HH} {n : Nat} (hn : h 5 1 = n) {σ : SG} {s : PW} (hs : s.1.1 ≤ n) (hE : sE σ ≤ 6) : (pLet σ (tkT h) s).1.1 ≤ n := by
  by_cases q : apOK σ s.2.1 s.2.2.1 s.2.2.2 (tkT h s.1.1)
  · rw [pLet_t q]
    obtain ⟨-, e, b, h1, h2, -⟩ := q
    show s.1.1 + 1 ≤ n
    rcases Nat.lt_or_ge s.1.1 n with r | r
    · exact r
    · rw [tkT_ge hn r] at h1; have := cod_r b (show e < 26 by omega); omega
  · rw [pLet_f q]; exact hs
theorem pLets_le {h : HH} {n : Nat} (hn : h 5 1 = n) {σ : SG} (hE : sE σ ≤ 6) : ∀ (m : Nat) {s : PW}, s.1.1 ≤ n → (pLets σ (tkT h) m s).1.1 ≤ n
  | 0, _, hs => hs
  | m + 1, s, hs => by
    by_cases q : s.1.2 = 0 ∧ 0 ≤ edg (tkT h s.1.1)
    · rw [pLets_go q]; exact pLets_le hn hE m (pLet_le hn hs hE)
    · rw [pLets_stop q]; exact hs
theorem pFace_le {h : HH} {n : Nat} (hn : h 5 1 = n) {s : PF × SG} (W : WB s.2) (hs : s.1.1 ≤ n) : (pFace (tkT h) s).1.1 ≤ n := by
  unfold pFace
  by_cases q : 4 ≤ sF s.2
  · rw [if_pos q]; exact hs
  · rw [if_neg q]
    refine tkS_le hn (by decide) ?_
    rw [pEndW_1]
    exact pLets_le hn W.2.1 90 (tkD_lep hn (tkS_le hn (by decide) hs))
theorem pFace_WB {tk : Nat → Int} {s : PF × SG} (W : WB s.2) : WB (pFace tk s).2 := by
  unfold pFace
  by_cases q : 4 ≤ sF s.2
  · rw [if_pos q]; exact W
  · rw [if_neg q]
    dsimp only
    split
    · exact WB_addF W (by omega) _ _ (pLets_n4 90 (Nat.zero_le _)) _ _
    · exact W
theorem WB_sg0 {P : Nat} (hP : P ≤ 5) : WB (sg0 P) := ⟨hP, Nat.zero_le _, Nat.zero_le _, fun _ h => absurd h (Nat.not_lt_zero _)⟩
theorem rc_sg0 (f : Nat → Int) (P : Nat) : RC (upn (fun j => if j < 63 then 0 else f j) 0 P) (sg0 P) := by
  refine ⟨upn_eq rfl, ?_, ?_, fun e he => absurd he (Nat.not_lt_zero _), fun k hk => absurd hk (Nat.not_lt_zero _), fun c e _ he => absurd he (Nat.not_lt_zero _)⟩
  · rw [upn_ne (by decide)]; rfl
  · rw [upn_ne (by decide)]; rfl
set_option maxRecDepth 100000 in
set_option maxHeartbeats 4000000 in
theorem c_X3_readComplex {g : GG} {h : HH} {n : Nat} (hn : h 5 1 = n) (hn9 : n ≤ 90) (hB : TB h) : CnI mX3_readComplex g [vr 5, vr 3, vr 7] h (fun z h' => FR5 h h' ∧ h' 5 2 = (pAll (tkT h) n).1.1 ∧ h' 5 3 = (pAll (tkT h) n).1.2 ∧ RC (h' 4) (pAll (tkT h) n).2 ∧ z = bi ((pAll (tkT h) n).1.2 = 0)) := by
  refine cn_q (lv := [vr 5, vr 3, vr 7, vx]) tX3_readComplex.1 rfl rfl (fun hR Q hQ => ?_)
  refine z_aload_n dX3_readComplex_0 rfl ?_
  refine z_callV_V (M := mX3_readComplex) [] tX0_clear kX3_46 dX3_readComplex_1 ⟨by decide, rfl, _, _, rfl⟩ ⟨by decide, by decide⟩ rfl (Nat.le_of_ble_eq_true rfl) rfl (c_X0_clear isC3) (fun h1 q1 => ?_)
  rw [q1]
  rw [show 3 + 1 = 4 from rfl]
  obtain ⟨h2, eh2⟩ : ∃ x, x = setc h 4 (fun j => if j < 63 then 0 else h 4 j) := ⟨_, rfl⟩
  rw [← eh2]
  have F2 : FR5 h h2 := by rw [eh2]; exact FR5_setc _ _
  have T2 := FR5_tk F2
  have B2 := FR5_TB F2 hB
  refine z_aload_n dX3_readComplex_4 rfl ?_
  refine z_iconst dX3_readComplex_5 ?_
  refine z_putI pX3_19 dX3_readComplex_6 (by decide) rfl rfl (by omega) ?_
  refine z_aload_n dX3_readComplex_9 rfl ?_
  refine z_iconst dX3_readComplex_10 ?_
  refine z_putI pX3_22 dX3_readComplex_11 (by decide) rfl rfl (by omega) ?_
  rw [show up (up h2 5 2 0) 5 3 0 = setPF h2 (0, 0) from rfl]
  refine z_aload_n dX3_readComplex_14 rfl ?_
  refine z_bipush dX3_readComplex_15 (by decide) ?_
  refine z_callV_V (M := mX3_readComplex) [_] tX3_takeSign kX3_49 dX3_readComplex_17 ⟨by decide, rfl, _, _, rfl⟩ ⟨by decide, by decide⟩ rfl (Nat.le_of_ble_eq_true rfl) rfl (c_X3_takeSign (setPF_52 h2 (0, 0)) (setPF_53 h2 (0, 0)) (by decide) (by decide)) (fun h17 q17 => ?_)
  subst q17
  rw [tkT_setPF, setPF_set, T2]
  have bs0 := tkS_le hn (c := 99) (by decide) (s := (0, 0)) (Nat.zero_le n)
  obtain ⟨s0, es0⟩ : ∃ x, x = tkS (tkT h) 99 (0, 0) := ⟨_, rfl⟩
  rw [← es0] at bs0 ⊢
  refine z_aload_n dX3_readComplex_20 rfl ?_
  refine z_aload_n dX3_readComplex_21 rfl ?_
  refine z_iconst dX3_readComplex_22 ?_
  refine z_iconst dX3_readComplex_23 ?_
  refine z_callV_I (M := mX3_readComplex) [_, _] tX3_takeDigit kX3_53 dX3_readComplex_24 ⟨by decide, rfl, _, _, rfl⟩ ⟨by decide, by decide⟩ rfl (Nat.le_of_ble_eq_true rfl) rfl (c_X3_takeDigit (setPF_52 h2 s0) (setPF_53 h2 s0) (by omega) (TB_setPF B2 _) (by decide) (by decide)) (fun z24 h24 q24 => ?_)
  obtain ⟨q1, q2⟩ := q24
  subst q1 q2
  rw [tkT_setPF, setPF_set, T2]
  have bP := tkD_lep hn (lo := 1) (hi := 5) (s := s0) (by omega)
  have dP := tkD_le (tkT h) (lo := 1) (hi := 5) s0 (by decide)
  obtain ⟨P, eP⟩ : ∃ x, x = tkD (tkT h) 1 5 s0 := ⟨_, rfl⟩
  rw [← eP] at bP dP ⊢
  refine z_callV_V (M := mX3_readComplex) [_] tX0_setPoints kX3_57 dX3_readComplex_27 ⟨by decide, rfl, _, _, rfl⟩ ⟨by decide, by decide⟩ rfl (Nat.le_of_ble_eq_true rfl) rfl (c_X0_setPoints isC3 (by omega)) (fun h27 q27 => ?_)
  rw [q27, ss_n (i := 0) (z := 0) (by decide) rfl, show 3 + 1 = 4 from rfl, setPF_ne h2 P.2 (by decide)]
  obtain ⟨h3, eh3⟩ : ∃ x, x = setc (setPF h2 P.2) 4 (upn (h2 4) 0 (P.1 : Int)) := ⟨_, rfl⟩
  rw [← eh3]
  have F3 : FR5 h h3 := by rw [eh3]; exact FR5_trans F2 (FR5_trans (FR5_PF h2 P.2) (FR5_setc _ _))
  have C3 : RC (h3 4) (sg0 P.1) := by rw [eh3, setc_at, eh2, setc_at]; exact rc_sg0 _ _
  have p3 : h3 5 2 = P.2.1 := by rw [eh3, setc_ne _ _ (by decide), setPF_52]
  have f3 : h3 5 3 = P.2.2 := by rw [eh3, setc_ne _ _ (by decide), setPF_53]
  refine z_aload_n dX3_readComplex_30 rfl ?_
  refine z_bipush dX3_readComplex_31 (by decide) ?_
  refine z_callV_V (M := mX3_readComplex) [_] tX3_takeSign kX3_49 dX3_readComplex_33 ⟨by decide, rfl, _, _, rfl⟩ ⟨by decide, by decide⟩ rfl (Nat.le_of_ble_eq_true rfl) rfl (c_X3_takeSign p3 f3 (by omega) (by decide)) (fun h33 q33 => ?_)
  rw [q33, FR5_tk F3]
  have bt1 := tkS_le hn (c := 59) (by decide) (s := P.2) (by omega)
  obtain ⟨t1, et1⟩ : ∃ x, x = tkS (tkT h) 59 P.2 := ⟨_, rfl⟩
  rw [← et1] at bt1 ⊢
  have eA : pAll (tkT h) n = (if (pFaces (tkT h) 90 (pEdges (tkT h) 90 (t1, sg0 P.1))).1.2 = 0 ∧ (pFaces (tkT h) 90 (pEdges (tkT h) 90 (t1, sg0 P.1))).1.1 < n then ((pFaces (tkT h) 90 (pEdges (tkT h) 90 (t1, sg0 P.1))).1.1, 1) else (pFaces (tkT h) 90 (pEdges (tkT h) 90 (t1, sg0 P.1))).1, (pFaces (tkT h) 90 (pEdges (tkT h) 90 (t1, sg0 P.1))).2) := by
    unfold pAll; dsimp only; rw [← es0, ← eP, ← et1]
  have K75 : ∀ (e : HH) (S : PF × SG) (Fe : FR5 h e) (pe : e 5 2 = S.1.1) (fe : e 5 3 = S.1.2) (Ce : RC (e 4) S.2) (We : WB S.2) (ne : S.1.1 ≤ n) (hL : pEdges (tkT h) 90 ((t1, sg0 P.1) : PF × SG) = S), Z mX3_readComplex g 75 [vr 5, vr 3, vr 7, vx] [] e Q := by
    intro e S Fe pe fe Ce We ne hL
    rw [hL] at eA
    have K115 : ∀ (f : HH) (U : PF × SG) (Ff : FR5 h f) (pf : f 5 2 = U.1.1) (ff : f 5 3 = U.1.2) (Cf : RC (f 4) U.2) (Wf : WB U.2) (nf : U.1.1 ≤ n) (hL : pFaces (tkT h) 90 S = U), Z mX3_readComplex g 115 [vr 5, vr 3, vr 7, vx] [] f Q := by
      intro f U Ff pf ff Cf Wf nf hL
      rw [hL] at eA
      have K138 : ∀ s4 : PF, s4 = (if U.1.2 = 0 ∧ U.1.1 < n then (U.1.1, 1) else U.1) → Z mX3_readComplex g 138 [vr 5, vr 3, vr 7, vx] [] (setPF f s4) Q := by
        intro s4 e4
        rw [← e4] at eA
        refine z_aload_n dX3_readComplex_138 rfl ?_
        refine z_getI fX3_22 dX3_readComplex_139 (by decide) rfl rfl (fun r139 => ?_)
        refine z_if_ne 149 dX3_readComplex_142 (by decide) (by omega) (fun c142 => ?_) (fun c142 => ?_)
        · refine z_iconst dX3_readComplex_149 ?_
          exact z_zreturn dX3_readComplex_150 rfl (by first | exact Or.inl rfl | exact Or.inr rfl | exact bi_01 _ | omega) (hQ _ _ ⟨_, rfl, (by
  rw [eA]
  rw [setPF_53] at c142
  exact ⟨FR5_trans Ff (FR5_PF f s4), setPF_52 f s4, setPF_53 f s4, by rw [setPF_ne f s4 (by decide)]; exact Cf, bi_f (fun q => c142 (by rw [show s4.2 = 0 from q]; rfl))⟩)⟩)
        · refine z_iconst dX3_readComplex_145 ?_
          refine z_goto 150 dX3_readComplex_146 (by decide) ?_
          exact z_zreturn dX3_readComplex_150 rfl (by first | exact Or.inl rfl | exact Or.inr rfl | exact bi_01 _ | omega) (hQ _ _ ⟨_, rfl, (by
  rw [eA]
  rw [setPF_53] at c142
  exact ⟨FR5_trans Ff (FR5_PF f s4), setPF_52 f s4, setPF_53 f s4, by rw [setPF_ne f s4 (by decide)]; exact Cf, bi_t (by show s4.2 = 0; omega)⟩)⟩)
      refine z_aload_n dX3_readComplex_115 rfl ?_
      refine z_getI fX3_22 dX3_readComplex_116 (by decide) rfl rfl (fun r116 => ?_)
      refine z_if_ne 138 dX3_readComplex_119 (by decide) (by omega) (fun c119 => ?_) (fun c119 => ?_)
      · have x := K138 U.1 (by rw [if_neg (by omega)])
        rw [setPF_self pf ff] at x
        exact x
      · refine z_aload_n dX3_readComplex_122 rfl ?_
        refine z_getI fX3_19 dX3_readComplex_123 (by decide) rfl rfl (fun r123 => ?_)
        refine z_aload_n dX3_readComplex_126 rfl ?_
        have n1 : f 5 1 = n := by rw [Ff.2]; exact hn
        refine z_getI fX3_15 dX3_readComplex_127 (by decide) rfl rfl (fun r127 => ?_)
        refine z_icmp_ge 138 dX3_readComplex_130 (by decide) (by omega) (by omega) (fun c130 => ?_) (fun c130 => ?_)
        · have x := K138 U.1 (by rw [if_neg (by omega)])
          rw [setPF_self pf ff] at x
          exact x
        · refine z_aload_n dX3_readComplex_133 rfl ?_
          refine z_iconst dX3_readComplex_134 ?_
          refine z_putI pX3_22 dX3_readComplex_135 (by decide) rfl rfl (by omega) ?_
          have x := K138 (U.1.1, 1) (by rw [if_pos ⟨by omega, by omega⟩])
          rw [setPF_up3 pf 1 (z := 1) rfl]
          exact x
    refine z_iconst dX3_readComplex_75 ?_
    refine z_istore_n dX3_readComplex_76 (by decide) rfl ?_
    have loop77 : ∀ (nw : Nat) (i : Nat) (f : HH) (U : PF × SG), (i ≤ 90) → (FR5 h f) → (f 5 2 = U.1.1) → (f 5 3 = U.1.2) → (RC (f 4) U.2) → (WB U.2) → (U.1.1 ≤ n) → (pFaces (tkT h) 90 S = pFaces (tkT h) (90 - i) U) → 90 - i < nw → Z mX3_readComplex g 77 [vr 5, vr 3, vr 7, vi (i : Int)] [] f Q := by
      intro nw
      induction nw with
      | zero => intro i f U hi Ff pf ff Cf Wf nf hL hnw; exact absurd hnw (Nat.not_lt_zero _)
      | succ nw ih77 =>
        intro i f U hi Ff pf ff Cf Wf nf hL hnw
        refine z_iload_n dX3_readComplex_77 rfl ?_
        refine z_bipush dX3_readComplex_78 (by decide) ?_
        refine z_icmp_ge 115 dX3_readComplex_80 (by decide) (by omega) (by omega) (fun c80 => ?_) (fun c80 => ?_)
        · refine z_forget 3 ?_
          exact K115 f U Ff pf ff Cf Wf nf (by rw [hL]; rw [show 90 - i = 0 by omega]; rfl)
        · refine z_aload_n dX3_readComplex_83 rfl ?_
          refine z_getI fX3_22 dX3_readComplex_84 (by decide) rfl rfl (fun r84 => ?_)
          refine z_if_ne 115 dX3_readComplex_87 (by decide) (by omega) (fun c87 => ?_) (fun c87 => ?_)
          · refine z_forget 3 ?_
            exact K115 f U Ff pf ff Cf Wf nf (by rw [hL]; exact pFaces_stop (fun q => by omega) _)
          · refine z_aload_n dX3_readComplex_90 rfl ?_
            refine z_aload_n dX3_readComplex_91 rfl ?_
            refine z_getI fX3_19 dX3_readComplex_92 (by decide) rfl rfl (fun r92 => ?_)
            refine z_callV_eI (M := mX3_readComplex) [_] tX3_token kX3_34 dX3_readComplex_95 ⟨by decide, rfl, _, _, rfl⟩ ⟨by decide, by decide⟩ rfl (Nat.le_of_ble_eq_true rfl) rfl (c_X3_token (by omega)) ?_
            have tf : tkI f (f 5 2) = tkT h U.1.1 := by rw [← FR5_tk Ff]; unfold tkT; rw [pf]
            rw [tf]
            have tb := tk_b hB U.1.1
            refine z_bipush dX3_readComplex_98 (by decide) ?_
            refine z_icmp_ne 115 dX3_readComplex_100 (by decide) (by omega) (by omega) (fun c100 => ?_) (fun c100 => ?_)
            · refine z_forget 3 ?_
              exact K115 f U Ff pf ff Cf Wf nf (by rw [hL]; exact pFaces_stop (fun q => by omega) _)
            · refine z_aload_n dX3_readComplex_103 rfl ?_
              refine z_aload_n dX3_readComplex_104 rfl ?_
              refine z_aload_n dX3_readComplex_105 rfl ?_
              refine z_callV_V (M := mX3_readComplex) [_, _] tX3_readFace kX3_64 dX3_readComplex_106 ⟨by decide, rfl, _, _, rfl⟩ ⟨by decide, by decide⟩ rfl (Nat.le_of_ble_eq_true rfl) rfl (c_X3_readFace (by rw [Ff.2]; exact hn) hn9 pf ff nf (FR5_TB Ff hB) (by omega) Wf Cf) (fun h106 q106 => ?_)
              refine z_iinc dX3_readComplex_109 rfl (by decide) rfl ?_
              refine z_goto 77 dX3_readComplex_112 (by decide) ?_
              obtain ⟨g1, g2, g3, g4⟩ := q106
              rw [FR5_tk Ff] at g2 g3 g4
              have hc := pFaces_go (tk := tkT h) (s := U) ⟨by omega, by omega⟩ (90 - (i + 1))
              rw [show 90 - (i + 1) + 1 = 90 - i by omega] at hc
              exact ih77 (i + 1) h106 (pFace (tkT h) U) (by omega) (FR5_trans Ff g1) g2 g3 g4 (pFace_WB Wf) (pFace_le hn Wf nf) (hL.trans hc) (by omega)
    exact loop77 _ 0 e S (by omega) Fe pe fe Ce We ne rfl (Nat.lt_succ_self _)
  refine z_iconst dX3_readComplex_36 ?_
  refine z_istore_n dX3_readComplex_37 (by decide) rfl ?_
  have loop38 : ∀ (nw : Nat) (i : Nat) (e : HH) (S : PF × SG), (i ≤ 90) → (FR5 h e) → (e 5 2 = S.1.1) → (e 5 3 = S.1.2) → (RC (e 4) S.2) → (WB S.2) → (S.1.1 ≤ n) → (pEdges (tkT h) 90 ((t1, sg0 P.1) : PF × SG) = pEdges (tkT h) (90 - i) S) → 90 - i < nw → Z mX3_readComplex g 38 [vr 5, vr 3, vr 7, vi (i : Int)] [] e Q := by
    intro nw
    induction nw with
    | zero => intro i e S hi Fe pe fe Ce We ne hL hnw; exact absurd hnw (Nat.not_lt_zero _)
    | succ nw ih38 =>
      intro i e S hi Fe pe fe Ce We ne hL hnw
      refine z_iload_n dX3_readComplex_38 rfl ?_
      refine z_bipush dX3_readComplex_39 (by decide) ?_
      refine z_icmp_ge 75 dX3_readComplex_41 (by decide) (by omega) (by omega) (fun c41 => ?_) (fun c41 => ?_)
      · refine z_forget 3 ?_
        exact K75 e S Fe pe fe Ce We ne (by rw [hL]; rw [show 90 - i = 0 by omega]; rfl)
      · refine z_aload_n dX3_readComplex_44 rfl ?_
        refine z_getI fX3_22 dX3_readComplex_45 (by decide) rfl rfl (fun r45 => ?_)
        refine z_if_ne 75 dX3_readComplex_48 (by decide) (by omega) (fun c48 => ?_) (fun c48 => ?_)
        · refine z_forget 3 ?_
          exact K75 e S Fe pe fe Ce We ne (by rw [hL]; exact pEdges_stop (fun q => by omega) _)
        · refine z_aload_n dX3_readComplex_51 rfl ?_
          refine z_aload_n dX3_readComplex_52 rfl ?_
          refine z_getI fX3_19 dX3_readComplex_53 (by decide) rfl rfl (fun r53 => ?_)
          refine z_callV_eI (M := mX3_readComplex) [_] tX3_token kX3_34 dX3_readComplex_56 ⟨by decide, rfl, _, _, rfl⟩ ⟨by decide, by decide⟩ rfl (Nat.le_of_ble_eq_true rfl) rfl (c_X3_token (by omega)) ?_
          have te : tkI e (e 5 2) = tkT h S.1.1 := by rw [← FR5_tk Fe]; unfold tkT; rw [pe]
          rw [te]
          have tb := tk_b hB S.1.1
          refine z_bipush dX3_readComplex_59 (by decide) ?_
          refine z_icmp_ne 75 dX3_readComplex_61 (by decide) (by omega) (by omega) (fun c61 => ?_) (fun c61 => ?_)
          · refine z_forget 3 ?_
            exact K75 e S Fe pe fe Ce We ne (by rw [hL]; exact pEdges_stop (fun q => by omega) _)
          · refine z_aload_n dX3_readComplex_64 rfl ?_
            refine z_aload_n dX3_readComplex_65 rfl ?_
            refine z_callV_V (M := mX3_readComplex) [_] tX3_readEdge kX3_60 dX3_readComplex_66 ⟨by decide, rfl, _, _, rfl⟩ ⟨by decide, by decide⟩ rfl (Nat.le_of_ble_eq_true rfl) rfl (c_X3_readEdge (by rw [Fe.2]; exact hn) hn9 pe fe ne (FR5_TB Fe hB) (by omega) We Ce) (fun h66 q66 => ?_)
            refine z_iinc dX3_readComplex_69 rfl (by decide) rfl ?_
            refine z_goto 38 dX3_readComplex_72 (by decide) ?_
            obtain ⟨g1, g2, g3, g4⟩ := q66
            rw [FR5_tk Fe] at g2 g3 g4
            have hc := pEdges_go (tk := tkT h) (s := S) ⟨by omega, by omega⟩ (90 - (i + 1))
            rw [show 90 - (i + 1) + 1 = 90 - i by omega] at hc
            exact ih38 (i + 1) h66 (pEdge (tkT h) S) (by omega) (FR5_trans Fe g1) g2 g3 g4 (pEdge_WB We) (pEdge_le hn ne) (hL.trans hc) (by omega)
  exact loop38 _ 0 (setPF h3 t1) (t1, sg0 P.1) (by omega) (FR5_trans F3 (FR5_PF h3 t1)) (setPF_52 h3 t1) (setPF_53 h3 t1) (by rw [setPF_ne h3 t1 (by decide)]; exact C3) (WB_sg0 (by omega)) bt1 rfl (Nat.lt_succ_self _)

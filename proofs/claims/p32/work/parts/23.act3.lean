/-- the tape is empty then; word and tape's own places aside, the rest stays -/
def TapeClr (h h' : HH) : Prop := h' 5 1 = 0 ∧ ∀ k, k ≠ 5 → k ≠ 7 → k ≠ 8 → h' k = h k
/-- an image's row: none kept, or a complex with points -/
def RI (f : Nat → Int) (o : Option SG) : Prop := match o with
  | none => f 0 = 0
  | some σ => RC f σ ∧ WF σ ∧ 0 < sP σ
theorem ra_undo {h : HH} {σ : SG} {as : List SG} (R : RA h (σ :: as)) {nw : Nat} (hn : nw < 8) (h8 : h 0 8 = nw) {h' : HH} (e8 : h' 0 8 = ((nw + 7) % 8 : Nat)) (e9 : h' 0 9 = as.length) (hk : ∀ k, 36 ≤ k → k < 44 → h' k = h k) : RA h' as := by
  obtain ⟨r1, r2, nw', r3, r4, r5⟩ := R
  have e : nw' = nw := by omega
  subst e
  have r1 : as.length + 1 ≤ 8 := r1
  refine ⟨by omega, e9, (nw' + 7) % 8, Nat.mod_lt _ (by decide), e8, fun k σ' hk' => ?_⟩
  have := r5 (k + 1) σ' hk'
  have hkl := (List.getElem?_eq_some_iff.mp hk').1
  rw [show ((nw' + 7) % 8 + 8 - k) % 8 = (nw' + 8 - (k + 1)) % 8 by omega, hk _ (by omega) (by omega)]
  exact this
theorem pEdges_inv {h : HH} {n : Nat} (hn : h 5 1 = n) : ∀ (m : Nat) {s : PF × SG}, s.1.1 ≤ n → WB s.2 → (pEdges (tkT h) m s).1.1 ≤ n ∧ WB (pEdges (tkT h) m s).2
  | 0, _, h1, h2 => ⟨h1, h2⟩
  | m + 1, s, h1, h2 => by
    by_cases q : s.1.2 = 0 ∧ tkT h s.1.1 = 101
    · rw [pEdges_go q]; exact pEdges_inv hn m (pEdge_le hn h1) (pEdge_WB h2)
    · rw [pEdges_stop q]; exact ⟨h1, h2⟩
theorem pFaces_inv {h : HH} {n : Nat} (hn : h 5 1 = n) : ∀ (m : Nat) {s : PF × SG}, s.1.1 ≤ n → WB s.2 → (pFaces (tkT h) m s).1.1 ≤ n ∧ WB (pFaces (tkT h) m s).2
  | 0, _, h1, h2 => ⟨h1, h2⟩
  | m + 1, s, h1, h2 => by
    by_cases q : s.1.2 = 0 ∧ tkT h s.1.1 = 102
    · rw [pFaces_go q]; exact pFaces_inv hn m (pFace_le hn h2 h1) (pFace_WB h2)
    · rw [pFaces_stop q]; exact ⟨h1, h2⟩
theorem pEdges_WB (tk : Nat → Int) : ∀ (m : Nat) {s : PF × SG}, WB s.2 → WB (pEdges tk m s).2
  | 0, _, h2 => h2
  | m + 1, s, h2 => by
    by_cases q : s.1.2 = 0 ∧ tk s.1.1 = 101
    · rw [pEdges_go q]; exact pEdges_WB tk m (pEdge_WB h2)
    · rw [pEdges_stop q]; exact h2
theorem pFaces_WB (tk : Nat → Int) : ∀ (m : Nat) {s : PF × SG}, WB s.2 → WB (pFaces tk m s).2
  | 0, _, h2 => h2
  | m + 1, s, h2 => by
    by_cases q : s.1.2 = 0 ∧ tk s.1.1 = 102
    · rw [pFaces_go q]; exact pFaces_WB tk m (pFace_WB h2)
    · rw [pFaces_stop q]; exact h2
theorem pAll_WB (tk : Nat → Int) (n : Nat) : WB (pAll tk n).2 := by
  unfold pAll
  have := tkD_le tk (lo := 1) (hi := 5) (tkS tk 99 (0, 0)) (by decide)
  exact pFaces_WB tk 90 (pEdges_WB tk 90 (WB_sg0 (by omega)))
theorem tkS_f (tk : Nat → Int) (c : Int) (s : PF) (h : s.2 ≤ 3) : (tkS tk c s).2 ≤ 3 := by
  unfold tkS; split
  · exact h
  · split
    · exact (show 0 ≤ 3 by decide)
    · exact (show 1 ≤ 3 by decide)
theorem tkD_f (tk : Nat → Int) (lo hi : Int) (s : PF) (h : s.2 ≤ 3) : (tkD tk lo hi s).2.2 ≤ 3 := by
  unfold tkD; split
  · exact h
  · split
    · exact (show 1 ≤ 3 by decide)
    · split
      · exact (show 2 ≤ 3 by decide)
      · exact (show 0 ≤ 3 by decide)
theorem pEdge_f (tk : Nat → Int) (s : PF × SG) (h : s.1.2 ≤ 3) : (pEdge tk s).1.2 ≤ 3 := by
  unfold pEdge
  by_cases q : 6 ≤ sE s.2
  · rw [if_pos q]; exact (show 3 ≤ 3 by decide)
  · rw [if_neg q]; exact tkS_f _ _ _ (tkD_f _ _ _ _ (tkD_f _ _ _ _ (tkD_f _ _ _ _ (tkS_f _ _ _ h))))
theorem pLets_f (σ : SG) (tk : Nat → Int) : ∀ (m : Nat) (s : PW), s.1.2 ≤ 3 → (pLets σ tk m s).1.2 ≤ 3
  | 0, _, h => h
  | m + 1, s, h => by
    by_cases q : s.1.2 = 0 ∧ 0 ≤ edg (tk s.1.1)
    · rw [pLets_go q]
      refine pLets_f σ tk m _ ?_
      by_cases q2 : apOK σ s.2.1 s.2.2.1 s.2.2.2 (tk s.1.1)
      · rw [pLet_t q2]; exact (show 0 ≤ 3 by decide)
      · rw [pLet_f q2]; exact (show 2 ≤ 3 by decide)
    · rw [pLets_stop q]; exact h
theorem pEndW_f3 (σ : SG) (tk : Nat → Int) (L : PW) (h : L.1.2 ≤ 3) : (pEndW σ tk L).2 ≤ 3 := by
  have hA : (pA σ tk L).2 ≤ 3 := by
    unfold pA; split
    · exact (show 2 ≤ 3 by decide)
    · exact h
  unfold pEndW; split
  · exact (show 1 ≤ 3 by decide)
  · exact hA
theorem pFace_f (tk : Nat → Int) (s : PF × SG) (h : s.1.2 ≤ 3) : (pFace tk s).1.2 ≤ 3 := by
  unfold pFace
  by_cases q : 4 ≤ sF s.2
  · rw [if_pos q]; exact (show 3 ≤ 3 by decide)
  · rw [if_neg q]; exact tkS_f _ _ _ (pEndW_f3 _ _ _ (pLets_f _ _ _ _ (tkD_f _ _ _ _ (tkS_f _ _ _ h))))
theorem pEdges_f (tk : Nat → Int) : ∀ (m : Nat) (s : PF × SG), s.1.2 ≤ 3 → (pEdges tk m s).1.2 ≤ 3
  | 0, _, h => h
  | m + 1, s, h => by
    by_cases q : s.1.2 = 0 ∧ tk s.1.1 = 101
    · rw [pEdges_go q]; exact pEdges_f tk m _ (pEdge_f tk s h)
    · rw [pEdges_stop q]; exact h
theorem pFaces_f (tk : Nat → Int) : ∀ (m : Nat) (s : PF × SG), s.1.2 ≤ 3 → (pFaces tk m s).1.2 ≤ 3
  | 0, _, h => h
  | m + 1, s, h => by
    by_cases q : s.1.2 = 0 ∧ tk s.1.1 = 102
    · rw [pFaces_go q]; exact pFaces_f tk m _ (pFace_f tk s h)
    · rw [pFaces_stop q]; exact h
theorem pAll_r {h : HH} {n : Nat} (hn : h 5 1 = n) (hn9 : n ≤ 90) : (pAll (tkT h) n).1.1 ≤ 90 ∧ (pAll (tkT h) n).1.2 ≤ 3 := by
  have h0 := tkS_le hn (c := 99) (by decide) (s := (0, 0)) (Nat.zero_le n)
  have h1 := tkD_lep hn (lo := 1) (hi := 5) h0
  have h2 := tkS_le hn (c := 59) (by decide) h1
  have hP := tkD_le (tkT h) (lo := 1) (hi := 5) (tkS (tkT h) 99 (0, 0)) (by decide)
  have h3 := pEdges_inv hn 90 (s := (tkS (tkT h) 59 (tkD (tkT h) 1 5 (tkS (tkT h) 99 (0, 0))).2, sg0 (tkD (tkT h) 1 5 (tkS (tkT h) 99 (0, 0))).1)) h2 (WB_sg0 (by omega))
  have h4 := pFaces_inv hn 90 h3.1 h3.2
  have f4 := pFaces_f (tkT h) 90 _ (pEdges_f (tkT h) 90 (tkS (tkT h) 59 (tkD (tkT h) 1 5 (tkS (tkT h) 99 (0, 0))).2, sg0 (tkD (tkT h) 1 5 (tkS (tkT h) 99 (0, 0))).1) (tkS_f _ _ _ (tkD_f _ _ _ _ (tkS_f _ _ _ (Nat.zero_le 3)))))
  unfold pAll
  dsimp only
  split
  · exact ⟨by have := h4.1; show _ ≤ 90; omega, (show 1 ≤ 3 by decide)⟩
  · exact ⟨by have := h4.1; omega, f4⟩
set_option maxRecDepth 100000 in
set_option maxHeartbeats 4000000 in
theorem c_X5_feedO {g : GG} {h : HH} {b : Int} (hb : R32 b) (ho : ¬ (0 ≤ b ∧ b ≤ 255)) : CeI mX5_feed g [vr 0, vi b] h kBAD := by
  refine cn_q (lv := [vr 0, vi b]) tX5_feed.1 rfl rfl (fun hR Q hQ => ?_)
  refine z_iload_n dX5_feed_0 rfl ?_
  refine z_if_lt 11 dX5_feed_1 (by decide) (by omega) (fun c1 => ?_) (fun c1 => ?_)
  · refine z_ldc (-1000001) dX5_feed_11 qX5_65 rfl ?_
    exact z_ireturn dX5_feed_13 rfl (hQ _ _ ⟨_, rfl, rfl, rfl⟩)
  · refine z_iload_n dX5_feed_4 rfl ?_
    refine z_sipush dX5_feed_5 (by decide) ?_
    refine z_icmp_le 14 dX5_feed_8 (by decide) (by omega) (by omega) (fun c8 => ?_) (fun c8 => ?_)
    · omega
    · refine z_ldc (-1000001) dX5_feed_11 qX5_65 rfl ?_
      exact z_ireturn dX5_feed_13 rfl (hQ _ _ ⟨_, rfl, rfl, rfl⟩)
set_option maxRecDepth 100000 in
set_option maxHeartbeats 4000000 in
theorem c_X5_feedF {g : GG} {h : HH} {n : Nat} (hn : h 5 1 = n) (hn9 : n ≤ 90) {b : Int} (hb : 0 ≤ b ∧ b ≤ 255) (hf : n = 90) : CeI mX5_feed g [vr 0, vi b] h kFULL := by
  refine cn_q (lv := [vr 0, vi b]) tX5_feed.1 rfl rfl (fun hR Q hQ => ?_)
  refine z_iload_n dX5_feed_0 rfl ?_
  refine z_if_lt 11 dX5_feed_1 (by decide) (by omega) (fun c1 => ?_) (fun c1 => ?_)
  · omega
  · refine z_iload_n dX5_feed_4 rfl ?_
    refine z_sipush dX5_feed_5 (by decide) ?_
    refine z_icmp_le 14 dX5_feed_8 (by decide) (by omega) (by omega) (fun c8 => ?_) (fun c8 => ?_)
    · refine z_aload_n dX5_feed_14 rfl ?_
      refine z_getR fX5_22 dX5_feed_15 (by decide) rfl rfl ?_
      refine z_iload_n dX5_feed_18 rfl ?_
      refine z_callV_I (M := mX5_feed) [_] tX3_append kX5_66 dX5_feed_19 ⟨by decide, rfl, _, _, rfl⟩ ⟨by decide, by decide⟩ rfl (Nat.le_of_ble_eq_true rfl) rfl (c_X3_append hn (by omega)) (fun z19 h19 q19 => ?_)
      obtain ⟨q1, q2, q3⟩ : 90 ≤ n ∧ z19 = 0 ∧ h19 = h := by
        rcases q19 with ⟨r, -⟩ | r
        · omega
        · exact r
      rw [q3]
      refine z_if_eq 35 dX5_feed_22 (by decide) (by omega) (fun c22 => ?_) (fun c22 => ?_)
      · refine z_ldc (-1000003) dX5_feed_35 qX5_74 rfl ?_
        exact z_ireturn dX5_feed_37 rfl (hQ _ _ ⟨_, rfl, rfl, rfl⟩)
      · omega
    · omega
set_option maxRecDepth 100000 in
set_option maxHeartbeats 4000000 in
theorem c_X5_feed1 {g : GG} {h : HH} {n : Nat} (hn : h 5 1 = n) (hn9 : n ≤ 90) {b : Int} (hb : 0 ≤ b ∧ b ≤ 255) (hf : n < 90) : CnI mX5_feed g [vr 0, vi b] h (fun z h' => z = n + 1 ∧ h' = up (up h 6 n b) 5 1 ((n : Int) + 1)) := by
  refine cn_q (lv := [vr 0, vi b]) tX5_feed.1 rfl rfl (fun hR Q hQ => ?_)
  refine z_iload_n dX5_feed_0 rfl ?_
  refine z_if_lt 11 dX5_feed_1 (by decide) (by omega) (fun c1 => ?_) (fun c1 => ?_)
  · omega
  · refine z_iload_n dX5_feed_4 rfl ?_
    refine z_sipush dX5_feed_5 (by decide) ?_
    refine z_icmp_le 14 dX5_feed_8 (by decide) (by omega) (by omega) (fun c8 => ?_) (fun c8 => ?_)
    · refine z_aload_n dX5_feed_14 rfl ?_
      refine z_getR fX5_22 dX5_feed_15 (by decide) rfl rfl ?_
      refine z_iload_n dX5_feed_18 rfl ?_
      refine z_callV_I (M := mX5_feed) [_] tX3_append kX5_66 dX5_feed_19 ⟨by decide, rfl, _, _, rfl⟩ ⟨by decide, by decide⟩ rfl (Nat.le_of_ble_eq_true rfl) rfl (c_X3_append hn (by omega)) (fun z19 h19 q19 => ?_)
      obtain ⟨q1, q2, q3⟩ : n < 90 ∧ z19 = 1 ∧ h19 = up (up h 6 n b) 5 1 ((n : Int) + 1) := by
        rcases q19 with r | ⟨r, -⟩
        · exact r
        · omega
      rw [q3]
      refine z_if_eq 35 dX5_feed_22 (by decide) (by omega) (fun c22 => ?_) (fun c22 => ?_)
      · omega
      · refine z_aload_n dX5_feed_25 rfl ?_
        refine z_getR fX5_22 dX5_feed_26 (by decide) rfl rfl ?_
        refine z_callV_eI (M := mX5_feed) [] tX3_size kX5_70 dX5_feed_29 ⟨by decide, rfl, _, _, rfl⟩ ⟨by decide, by decide⟩ rfl (Nat.le_of_ble_eq_true rfl) rfl c_X3_size ?_
        refine z_goto 37 dX5_feed_32 (by decide) ?_
        exact z_ireturn dX5_feed_37 rfl (hQ _ _ ⟨_, rfl, ⟨up_same _ _ _ _, rfl⟩⟩)
    · omega
set_option maxRecDepth 100000 in
set_option maxHeartbeats 4000000 in
theorem c_X5_faceS {g : GG} {h : HH} {n : Nat} (hn : h 5 1 = n) (hn9 : n ≤ 90) (hB : TB h) {σ : SG} (W : WF σ) (C : RC (h 2) σ) {w : Int} (hw : R32 w) (h0 : sP σ = 0) : CnI mX5_face g [vr 0, vi w] h (fun z h' => z = kSTATE ∧ TapeClr h h') := by
  refine cn_q (lv := [vr 0, vi w, vx]) tX5_face.1 rfl rfl (fun hR Q hQ => ?_)
  refine z_aload_n dX5_face_0 rfl ?_
  refine z_getR fX5_22 dX5_face_1 (by decide) rfl rfl ?_
  refine z_aload_n dX5_face_4 rfl ?_
  refine z_getR fX5_10 dX5_face_5 (by decide) rfl rfl ?_
  refine z_aload_n dX5_face_8 rfl ?_
  refine z_getR fX5_29 dX5_face_9 (by decide) rfl rfl ?_
  refine z_callV_I (M := mX5_face) [_, _] tX3_readWord kX5_133 dX5_face_12 ⟨by decide, rfl, _, _, rfl⟩ ⟨by decide, by decide⟩ rfl (Nat.le_of_ble_eq_true rfl) rfl (c_X3_readWord hn hn9 hB W.wb C) (fun z12 h12 q12 => ?_)
  obtain ⟨g1, g2, g3⟩ := q12
  subst g3
  refine z_istore_n dX5_face_15 (by decide) rfl ?_
  refine z_aload_n dX5_face_16 rfl ?_
  refine z_getR fX5_22 dX5_face_17 (by decide) rfl rfl ?_
  refine z_callV_V (M := mX5_face) [] tX3_clear kX5_79 dX5_face_20 ⟨by decide, rfl, _, _, rfl⟩ ⟨by decide, by decide⟩ rfl (Nat.le_of_ble_eq_true rfl) rfl c_X3_clear (fun h20 q20 => ?_)
  rw [q20]
  have T1 : TapeClr h (up h12 5 1 0) := ⟨up_same _ _ _ _, fun k k5 k7 k8 => by rw [up_ne _ _ _ k5]; exact g1 k k7 k8⟩
  obtain ⟨k1, ek1⟩ : ∃ x, x = up h12 5 1 0 := ⟨_, rfl⟩
  rw [← ek1] at T1 ⊢
  have Ck : RC (k1 2) σ := by rw [T1.2 2 (by decide) (by decide) (by decide)]; exact C
  refine z_aload_n dX5_face_23 rfl ?_
  refine z_getR fX5_10 dX5_face_24 (by decide) rfl rfl ?_
  refine z_callV_eI (M := mX5_face) [] tX0_isThere kX5_123 dX5_face_27 ⟨by decide, rfl, _, _, rfl⟩ ⟨by decide, by decide⟩ rfl (Nat.le_of_ble_eq_true rfl) rfl (s_X0_isThere isC1 Ck) ?_
  refine z_if_ne 36 dX5_face_30 (by decide) (bi_r _) (fun c30 => ?_) (fun c30 => ?_)
  · have c30 := bi_ne.mp c30
    omega
  · have c30 := bi_eq.mp c30
    refine z_ldc (-1000002) dX5_face_33 qX5_105 rfl ?_
    exact z_ireturn dX5_face_35 rfl (hQ _ _ ⟨_, rfl, ⟨rfl, T1⟩⟩)
set_option maxRecDepth 100000 in
set_option maxHeartbeats 4000000 in
theorem c_X5_faceO {g : GG} {h : HH} {n : Nat} (hn : h 5 1 = n) (hn9 : n ≤ 90) (hB : TB h) {σ : SG} (W : WF σ) (C : RC (h 2) σ) {w : Int} (hw : R32 w) (h0 : 0 < sP σ) (ho : pWord σ (tkT h) n 0 (fun _ => 0) (fun _ => false) 0 = none ∨ ¬ (1 ≤ w ∧ w ≤ 3)) : CnI mX5_face g [vr 0, vi w] h (fun z h' => z = kBAD ∧ TapeClr h h') := by
  refine cn_q (lv := [vr 0, vi w, vx]) tX5_face.1 rfl rfl (fun hR Q hQ => ?_)
  refine z_aload_n dX5_face_0 rfl ?_
  refine z_getR fX5_22 dX5_face_1 (by decide) rfl rfl ?_
  refine z_aload_n dX5_face_4 rfl ?_
  refine z_getR fX5_10 dX5_face_5 (by decide) rfl rfl ?_
  refine z_aload_n dX5_face_8 rfl ?_
  refine z_getR fX5_29 dX5_face_9 (by decide) rfl rfl ?_
  refine z_callV_I (M := mX5_face) [_, _] tX3_readWord kX5_133 dX5_face_12 ⟨by decide, rfl, _, _, rfl⟩ ⟨by decide, by decide⟩ rfl (Nat.le_of_ble_eq_true rfl) rfl (c_X3_readWord hn hn9 hB W.wb C) (fun z12 h12 q12 => ?_)
  obtain ⟨g1, g2, g3⟩ := q12
  subst g3
  refine z_istore_n dX5_face_15 (by decide) rfl ?_
  refine z_aload_n dX5_face_16 rfl ?_
  refine z_getR fX5_22 dX5_face_17 (by decide) rfl rfl ?_
  refine z_callV_V (M := mX5_face) [] tX3_clear kX5_79 dX5_face_20 ⟨by decide, rfl, _, _, rfl⟩ ⟨by decide, by decide⟩ rfl (Nat.le_of_ble_eq_true rfl) rfl c_X3_clear (fun h20 q20 => ?_)
  rw [q20]
  have T1 : TapeClr h (up h12 5 1 0) := ⟨up_same _ _ _ _, fun k k5 k7 k8 => by rw [up_ne _ _ _ k5]; exact g1 k k7 k8⟩
  obtain ⟨k1, ek1⟩ : ∃ x, x = up h12 5 1 0 := ⟨_, rfl⟩
  rw [← ek1] at T1 ⊢
  have Ck : RC (k1 2) σ := by rw [T1.2 2 (by decide) (by decide) (by decide)]; exact C
  refine z_aload_n dX5_face_23 rfl ?_
  refine z_getR fX5_10 dX5_face_24 (by decide) rfl rfl ?_
  refine z_callV_eI (M := mX5_face) [] tX0_isThere kX5_123 dX5_face_27 ⟨by decide, rfl, _, _, rfl⟩ ⟨by decide, by decide⟩ rfl (Nat.le_of_ble_eq_true rfl) rfl (s_X0_isThere isC1 Ck) ?_
  refine z_if_ne 36 dX5_face_30 (by decide) (bi_r _) (fun c30 => ?_) (fun c30 => ?_)
  · have c30 := bi_ne.mp c30
    refine z_iload_n dX5_face_36 rfl ?_
    have b12 := bi_r (pWord σ (tkT h) n 0 (fun _ => 0) (fun _ => false) 0 ≠ none)
    refine z_if_eq 47 dX5_face_37 (by decide) (by omega) (fun c37 => ?_) (fun c37 => ?_)
    · have c37 := bi_eq.mp c37
      refine z_ldc (-1000001) dX5_face_47 qX5_65 rfl ?_
      exact z_ireturn dX5_face_49 rfl (hQ _ _ ⟨_, rfl, ⟨rfl, T1⟩⟩)
    · have c37 := bi_ne.mp c37
      refine z_iload_n dX5_face_40 rfl ?_
      refine z_callS_eI (M := mX5_face) [_] tX5_isWeight kX5_109 dX5_face_41 ⟨by decide, by decide⟩ rfl (Nat.le_of_ble_eq_true rfl) rfl (c_X5_isWeight (by omega)) ?_
      refine z_if_ne 50 dX5_face_44 (by decide) (bi_r _) (fun c44 => ?_) (fun c44 => ?_)
      · have c44 := bi_ne.mp c44
        exact ho.elim (fun q => absurd q c37) (fun q => absurd c44 q)
      · have c44 := bi_eq.mp c44
        refine z_ldc (-1000001) dX5_face_47 qX5_65 rfl ?_
        exact z_ireturn dX5_face_49 rfl (hQ _ _ ⟨_, rfl, ⟨rfl, T1⟩⟩)
  · have c30 := bi_eq.mp c30
    omega
set_option maxRecDepth 100000 in
set_option maxHeartbeats 4000000 in
theorem c_X5_faceF {g : GG} {h : HH} {n : Nat} (hn : h 5 1 = n) (hn9 : n ≤ 90) (hB : TB h) {σ : SG} (W : WF σ) (C : RC (h 2) σ) {w : Nat} (hw : 1 ≤ w ∧ w ≤ 3) (h0 : 0 < sP σ) {m : Nat} {le : Nat → Nat} {sg : Nat → Bool} (hW : pWord σ (tkT h) n 0 (fun _ => 0) (fun _ => false) 0 = some (m, le, sg)) (hF : sF σ = 4) : CnI mX5_face g [vr 0, vi (w : Int)] h (fun z h' => z = kFULL ∧ TapeClr h h') := by
  refine cn_q (lv := [vr 0, vi (w : Int), vx]) tX5_face.1 rfl rfl (fun hR Q hQ => ?_)
  have w1 := W.1
  have w2 := W.2.1
  have w3 := W.2.2.1
  refine z_aload_n dX5_face_0 rfl ?_
  refine z_getR fX5_22 dX5_face_1 (by decide) rfl rfl ?_
  refine z_aload_n dX5_face_4 rfl ?_
  refine z_getR fX5_10 dX5_face_5 (by decide) rfl rfl ?_
  refine z_aload_n dX5_face_8 rfl ?_
  refine z_getR fX5_29 dX5_face_9 (by decide) rfl rfl ?_
  refine z_callV_I (M := mX5_face) [_, _] tX3_readWord kX5_133 dX5_face_12 ⟨by decide, rfl, _, _, rfl⟩ ⟨by decide, by decide⟩ rfl (Nat.le_of_ble_eq_true rfl) rfl (c_X3_readWord hn hn9 hB W.wb C) (fun z12 h12 q12 => ?_)
  obtain ⟨g1, g2, g3⟩ := q12
  subst g3
  refine z_istore_n dX5_face_15 (by decide) rfl ?_
  refine z_aload_n dX5_face_16 rfl ?_
  refine z_getR fX5_22 dX5_face_17 (by decide) rfl rfl ?_
  refine z_callV_V (M := mX5_face) [] tX3_clear kX5_79 dX5_face_20 ⟨by decide, rfl, _, _, rfl⟩ ⟨by decide, by decide⟩ rfl (Nat.le_of_ble_eq_true rfl) rfl c_X3_clear (fun h20 q20 => ?_)
  rw [q20]
  have T1 : TapeClr h (up h12 5 1 0) := ⟨up_same _ _ _ _, fun k k5 k7 k8 => by rw [up_ne _ _ _ k5]; exact g1 k k7 k8⟩
  obtain ⟨k1, ek1⟩ : ∃ x, x = up h12 5 1 0 := ⟨_, rfl⟩
  rw [← ek1] at T1 ⊢
  have Ck : RC (k1 2) σ := by rw [T1.2 2 (by decide) (by decide) (by decide)]; exact C
  refine z_aload_n dX5_face_23 rfl ?_
  refine z_getR fX5_10 dX5_face_24 (by decide) rfl rfl ?_
  refine z_callV_eI (M := mX5_face) [] tX0_isThere kX5_123 dX5_face_27 ⟨by decide, rfl, _, _, rfl⟩ ⟨by decide, by decide⟩ rfl (Nat.le_of_ble_eq_true rfl) rfl (s_X0_isThere isC1 Ck) ?_
  refine z_if_ne 36 dX5_face_30 (by decide) (bi_r _) (fun c30 => ?_) (fun c30 => ?_)
  · have c30 := bi_ne.mp c30
    refine z_iload_n dX5_face_36 rfl ?_
    have b12 := bi_r (pWord σ (tkT h) n 0 (fun _ => 0) (fun _ => false) 0 ≠ none)
    refine z_if_eq 47 dX5_face_37 (by decide) (by omega) (fun c37 => ?_) (fun c37 => ?_)
    · have c37 := bi_eq.mp c37
      exact (c37 (fun q => by rw [hW] at q; cases q)).elim
    · have c37 := bi_ne.mp c37
      refine z_iload_n dX5_face_40 rfl ?_
      refine z_callS_eI (M := mX5_face) [_] tX5_isWeight kX5_109 dX5_face_41 ⟨by decide, by decide⟩ rfl (Nat.le_of_ble_eq_true rfl) rfl (c_X5_isWeight (by omega)) ?_
      refine z_if_ne 50 dX5_face_44 (by decide) (bi_r _) (fun c44 => ?_) (fun c44 => ?_)
      · have c44 := bi_ne.mp c44
        refine z_aload_n dX5_face_50 rfl ?_
        refine z_getR fX5_10 dX5_face_51 (by decide) rfl rfl ?_
        refine z_iconst dX5_face_54 ?_
        refine z_callV_eI (M := mX5_face) [_] tX0_sizeOf kX5_97 dX5_face_55 ⟨by decide, rfl, _, _, rfl⟩ ⟨by decide, by decide⟩ rfl (Nat.le_of_ble_eq_true rfl) rfl (s_X0_sizeF isC1 Ck) ?_
        refine z_iconst dX5_face_58 ?_
        refine z_icmp_lt 65 dX5_face_59 (by decide) (by omega) (by omega) (fun c59 => ?_) (fun c59 => ?_)
        · omega
        · refine z_ldc (-1000003) dX5_face_62 qX5_74 rfl ?_
          exact z_ireturn dX5_face_64 rfl (hQ _ _ ⟨_, rfl, ⟨rfl, T1⟩⟩)
      · have c44 := bi_eq.mp c44
        omega
  · have c30 := bi_eq.mp c30
    omega
set_option maxRecDepth 100000 in
set_option maxHeartbeats 4000000 in
theorem c_X5_face1 {g : GG} {h : HH} {n : Nat} (hn : h 5 1 = n) (hn9 : n ≤ 90) (hB : TB h) {σ : SG} (W : WF σ) (C : RC (h 2) σ) {w : Nat} (hw : 1 ≤ w ∧ w ≤ 3) (h0 : 0 < sP σ) {m : Nat} {le : Nat → Nat} {sg : Nat → Bool} (hW : pWord σ (tkT h) n 0 (fun _ => 0) (fun _ => false) 0 = some (m, le, sg)) (hF : sF σ < 4) {as : List SG} (R : RA h as) : CnI mX5_face g [vr 0, vi (w : Int)] h (fun z h' => z = sF σ ∧ ∃ h1, TapeClr h h1 ∧ ActP h1 h' σ as (addF σ w m le sg)) := by
  refine cn_q (lv := [vr 0, vi (w : Int), vx]) tX5_face.1 rfl rfl (fun hR Q hQ => ?_)
  have w1 := W.1
  have w2 := W.2.1
  have w3 := W.2.2.1
  refine z_aload_n dX5_face_0 rfl ?_
  refine z_getR fX5_22 dX5_face_1 (by decide) rfl rfl ?_
  refine z_aload_n dX5_face_4 rfl ?_
  refine z_getR fX5_10 dX5_face_5 (by decide) rfl rfl ?_
  refine z_aload_n dX5_face_8 rfl ?_
  refine z_getR fX5_29 dX5_face_9 (by decide) rfl rfl ?_
  refine z_callV_I (M := mX5_face) [_, _] tX3_readWord kX5_133 dX5_face_12 ⟨by decide, rfl, _, _, rfl⟩ ⟨by decide, by decide⟩ rfl (Nat.le_of_ble_eq_true rfl) rfl (c_X3_readWord hn hn9 hB W.wb C) (fun z12 h12 q12 => ?_)
  obtain ⟨g1, g2, g3⟩ := q12
  subst g3
  refine z_istore_n dX5_face_15 (by decide) rfl ?_
  refine z_aload_n dX5_face_16 rfl ?_
  refine z_getR fX5_22 dX5_face_17 (by decide) rfl rfl ?_
  refine z_callV_V (M := mX5_face) [] tX3_clear kX5_79 dX5_face_20 ⟨by decide, rfl, _, _, rfl⟩ ⟨by decide, by decide⟩ rfl (Nat.le_of_ble_eq_true rfl) rfl c_X3_clear (fun h20 q20 => ?_)
  rw [q20]
  have T1 : TapeClr h (up h12 5 1 0) := ⟨up_same _ _ _ _, fun k k5 k7 k8 => by rw [up_ne _ _ _ k5]; exact g1 k k7 k8⟩
  obtain ⟨k1, ek1⟩ : ∃ x, x = up h12 5 1 0 := ⟨_, rfl⟩
  rw [← ek1] at T1 ⊢
  have Ck : RC (k1 2) σ := by rw [T1.2 2 (by decide) (by decide) (by decide)]; exact C
  refine z_aload_n dX5_face_23 rfl ?_
  refine z_getR fX5_10 dX5_face_24 (by decide) rfl rfl ?_
  refine z_callV_eI (M := mX5_face) [] tX0_isThere kX5_123 dX5_face_27 ⟨by decide, rfl, _, _, rfl⟩ ⟨by decide, by decide⟩ rfl (Nat.le_of_ble_eq_true rfl) rfl (s_X0_isThere isC1 Ck) ?_
  refine z_if_ne 36 dX5_face_30 (by decide) (bi_r _) (fun c30 => ?_) (fun c30 => ?_)
  · have c30 := bi_ne.mp c30
    refine z_iload_n dX5_face_36 rfl ?_
    have b12 := bi_r (pWord σ (tkT h) n 0 (fun _ => 0) (fun _ => false) 0 ≠ none)
    refine z_if_eq 47 dX5_face_37 (by decide) (by omega) (fun c37 => ?_) (fun c37 => ?_)
    · have c37 := bi_eq.mp c37
      exact (c37 (fun q => by rw [hW] at q; cases q)).elim
    · have c37 := bi_ne.mp c37
      refine z_iload_n dX5_face_40 rfl ?_
      refine z_callS_eI (M := mX5_face) [_] tX5_isWeight kX5_109 dX5_face_41 ⟨by decide, by decide⟩ rfl (Nat.le_of_ble_eq_true rfl) rfl (c_X5_isWeight (by omega)) ?_
      refine z_if_ne 50 dX5_face_44 (by decide) (bi_r _) (fun c44 => ?_) (fun c44 => ?_)
      · have c44 := bi_ne.mp c44
        refine z_aload_n dX5_face_50 rfl ?_
        refine z_getR fX5_10 dX5_face_51 (by decide) rfl rfl ?_
        refine z_iconst dX5_face_54 ?_
        refine z_callV_eI (M := mX5_face) [_] tX0_sizeOf kX5_97 dX5_face_55 ⟨by decide, rfl, _, _, rfl⟩ ⟨by decide, by decide⟩ rfl (Nat.le_of_ble_eq_true rfl) rfl (s_X0_sizeF isC1 Ck) ?_
        refine z_iconst dX5_face_58 ?_
        refine z_icmp_lt 65 dX5_face_59 (by decide) (by omega) (by omega) (fun c59 => ?_) (fun c59 => ?_)
        · have R1 : RA k1 as := RA_keep R (fun j _ => by rw [T1.2 0 (by decide) (by decide) (by decide)]) (fun k k0 k4 => T1.2 k (by omega) (by omega) (by omega))
          obtain ⟨ra1, ra9, nw, hnw, ra8, raR⟩ := id R1
          refine z_aload_n dX5_face_65 rfl ?_
          refine z_callV_V (M := mX5_face) [] tX5_keepAct kX5_116 dX5_face_66 ⟨by decide, rfl, _, _, rfl⟩ ⟨by decide, by decide⟩ rfl (Nat.le_of_ble_eq_true rfl) rfl (c_X5_keepAct hnw ra1 ra8 ra9) (fun h66 q66 => ?_)
          rw [q66]
          have C2 : RC ((keepH k1 ((nw + 1) % 8) as.length) 2) σ := by rw [keepH_ne k1 (by decide) (by omega)]; exact Ck
          have qw : RW (keepH k1 ((nw + 1) % 8) as.length) m le sg := by
            rw [hW] at g2
            refine RW_keep g2.1 ?_ ?_
            · rw [keepH_ne k1 (by decide) (by omega), ek1, up_ne _ _ _ (by decide)]
            · rw [keepH_ne k1 (by decide) (by omega), ek1, up_ne _ _ _ (by decide)]
          refine z_aload_n dX5_face_69 rfl ?_
          refine z_getR fX5_10 dX5_face_70 (by decide) rfl rfl ?_
          refine z_aload_n dX5_face_73 rfl ?_
          refine z_getR fX5_29 dX5_face_74 (by decide) rfl rfl ?_
          refine z_iload_n dX5_face_77 rfl ?_
          refine z_callV_V (M := mX5_face) [_, _] tX0_addFace kX5_136 dX5_face_78 ⟨by decide, rfl, _, _, rfl⟩ ⟨by decide, by decide⟩ rfl (Nat.le_of_ble_eq_true rfl) rfl (c_X0_addFace isC1 W.wb C2 qw (by omega) hF) (fun h78 q78 => ?_)
          obtain ⟨f', x1, x2⟩ := q78
          rw [x1, show 1 + 1 = 2 from rfl]
          refine z_aload_n dX5_face_81 rfl ?_
          refine z_getR fX5_10 dX5_face_82 (by decide) rfl rfl ?_
          refine z_iconst dX5_face_85 ?_
          refine z_callV_eI (M := mX5_face) [_] tX0_sizeOf kX5_97 dX5_face_86 ⟨by decide, rfl, _, _, rfl⟩ ⟨by decide, by decide⟩ rfl (Nat.le_of_ble_eq_true rfl) rfl (s_X0_sizeF (σ := addF σ w m le sg) isC1 (by rw [show 1 + 1 = 2 from rfl, setc_at]; exact x2)) ?_
          refine z_iconst dX5_face_89 ?_
          refine z_isub dX5_face_90 ?_
          exact z_ireturn dX5_face_91 rfl (hQ _ _ ⟨_, rfl, ⟨by show ((sF σ + 1 : Nat) : Int) - 1 = _; omega, k1, T1, act_of W Ck ra1 hnw raR x2⟩⟩)
        · omega
      · have c44 := bi_eq.mp c44
        omega
  · have c30 := bi_eq.mp c30
    omega
set_option maxRecDepth 100000 in
set_option maxHeartbeats 4000000 in
theorem c_X5_complexF {g : GG} {h : HH} {n : Nat} (hn : h 5 1 = n) (hn9 : n ≤ 90) (hB : TB h) (hf : (pAll (tkT h) n).1.2 ≠ 0) : CnI mX5_complex g [vr 0] h (fun z h' => z = -1000100 - ((pAll (tkT h) n).1.1 : Int) ∧ h' 0 10 = (pAll (tkT h) n).1.2 ∧ h' 5 1 = 0 ∧ (∀ j, j ≠ 10 → h' 0 j = h 0 j) ∧ ∀ k, k ≠ 0 → k ≠ 4 → k ≠ 5 → k ≠ 7 → k ≠ 8 → h' k = h k) := by
  refine cn_q (lv := [vr 0, vx]) tX5_complex.1 rfl rfl (fun hR Q hQ => ?_)
  refine z_aload_n dX5_complex_0 rfl ?_
  refine z_getR fX5_22 dX5_complex_1 (by decide) rfl rfl ?_
  refine z_aload_n dX5_complex_4 rfl ?_
  refine z_getR fX5_16 dX5_complex_5 (by decide) rfl rfl ?_
  refine z_aload_n dX5_complex_8 rfl ?_
  refine z_getR fX5_29 dX5_complex_9 (by decide) rfl rfl ?_
  refine z_callV_I (M := mX5_complex) [_, _] tX3_readComplex kX5_75 dX5_complex_12 ⟨by decide, rfl, _, _, rfl⟩ ⟨by decide, by decide⟩ rfl (Nat.le_of_ble_eq_true rfl) rfl (c_X3_readComplex hn hn9 hB) (fun z12 h12 q12 => ?_)
  obtain ⟨g1, g2, g3, g4, g5⟩ := q12
  subst g5
  refine z_istore_n dX5_complex_15 (by decide) rfl ?_
  refine z_aload_n dX5_complex_16 rfl ?_
  refine z_getR fX5_22 dX5_complex_17 (by decide) rfl rfl ?_
  refine z_callV_V (M := mX5_complex) [] tX3_clear kX5_79 dX5_complex_20 ⟨by decide, rfl, _, _, rfl⟩ ⟨by decide, by decide⟩ rfl (Nat.le_of_ble_eq_true rfl) rfl c_X3_clear (fun h20 q20 => ?_)
  rw [q20]
  obtain ⟨k1, ek1⟩ : ∃ x, x = up h12 5 1 0 := ⟨_, rfl⟩
  have K5 : k1 5 = fun b => if b = 1 then 0 else h12 5 b := by rw [ek1, up_at]
  have Kn : ∀ k, k ≠ 5 → k1 k = h12 k := fun k k5 => by rw [ek1, up_ne _ _ _ k5]
  rw [← ek1]
  refine z_iload_n dX5_complex_23 rfl ?_
  have b12 := bi_r ((pAll (tkT h) n).1.2 = 0)
  refine z_if_ne 49 dX5_complex_24 (by decide) (by omega) (fun c24 => ?_) (fun c24 => ?_)
  · have c24 := bi_ne.mp c24
    exact absurd c24 hf
  · have c24 := bi_eq.mp c24
    refine z_aload_n dX5_complex_27 rfl ?_
    refine z_aload_n dX5_complex_28 rfl ?_
    refine z_getR fX5_22 dX5_complex_29 (by decide) rfl rfl ?_
    refine z_callV_eI (M := mX5_complex) [] tX3_faultRead kX5_82 dX5_complex_32 ⟨by decide, rfl, _, _, rfl⟩ ⟨by decide, by decide⟩ rfl (Nat.le_of_ble_eq_true rfl) rfl c_X3_faultRead ?_
    rw [K5]
    simp only [show ¬ ((3 : Nat) = 1) by decide, if_false]
    rw [g3]
    have pr := pAll_r (h := h) hn hn9
    refine z_putI pX5_62 dX5_complex_35 (by decide) rfl rfl (by omega) ?_
    refine z_ldc (-1000100) dX5_complex_38 qX5_85 rfl ?_
    refine z_aload_n dX5_complex_40 rfl ?_
    refine z_getR fX5_22 dX5_complex_41 (by decide) rfl rfl ?_
    refine z_callV_eI (M := mX5_complex) [] tX3_place kX5_86 dX5_complex_44 ⟨by decide, rfl, _, _, rfl⟩ ⟨by decide, by decide⟩ rfl (Nat.le_of_ble_eq_true rfl) rfl c_X3_place ?_
    refine z_isub dX5_complex_47 ?_
    exact z_ireturn dX5_complex_48 rfl (hQ _ _ ⟨_, rfl, ⟨by rw [up_ne _ _ _ (by decide), K5]; show _ - h12 5 2 = _; rw [g2], up_same _ _ _ _, by rw [up_ne _ _ _ (by decide), K5]; rfl, fun j hj => by rw [up_at]; simp only [if_neg hj]; rw [Kn 0 (by decide), g1.1 0 (by decide) (by decide) (by decide) (by decide)], fun k k0 k4 k5 k7 k8 => by rw [up_ne _ _ _ k0, Kn k k5, g1.1 k k4 k5 k7 k8]⟩⟩)
set_option maxRecDepth 100000 in
set_option maxHeartbeats 4000000 in
theorem c_X5_complex1 {g : GG} {h : HH} {n : Nat} (hn : h 5 1 = n) (hn9 : n ≤ 90) (hB : TB h) (hf : (pAll (tkT h) n).1.2 = 0) : CnI mX5_complex g [vr 0] h (fun z h' => z = (sP (pAll (tkT h) n).2 : Int) + sE (pAll (tkT h) n).2 + sF (pAll (tkT h) n).2 ∧ RC (h' 2) (pAll (tkT h) n).2 ∧ h' 0 9 = 0 ∧ h' 5 1 = 0 ∧ (∀ j, j ≠ 9 → h' 0 j = h 0 j) ∧ ∀ k, k ≠ 0 → k ≠ 2 → k ≠ 4 → k ≠ 5 → k ≠ 7 → k ≠ 8 → h' k = h k) := by
  refine cn_q (lv := [vr 0, vx]) tX5_complex.1 rfl rfl (fun hR Q hQ => ?_)
  refine z_aload_n dX5_complex_0 rfl ?_
  refine z_getR fX5_22 dX5_complex_1 (by decide) rfl rfl ?_
  refine z_aload_n dX5_complex_4 rfl ?_
  refine z_getR fX5_16 dX5_complex_5 (by decide) rfl rfl ?_
  refine z_aload_n dX5_complex_8 rfl ?_
  refine z_getR fX5_29 dX5_complex_9 (by decide) rfl rfl ?_
  refine z_callV_I (M := mX5_complex) [_, _] tX3_readComplex kX5_75 dX5_complex_12 ⟨by decide, rfl, _, _, rfl⟩ ⟨by decide, by decide⟩ rfl (Nat.le_of_ble_eq_true rfl) rfl (c_X3_readComplex hn hn9 hB) (fun z12 h12 q12 => ?_)
  obtain ⟨g1, g2, g3, g4, g5⟩ := q12
  subst g5
  refine z_istore_n dX5_complex_15 (by decide) rfl ?_
  refine z_aload_n dX5_complex_16 rfl ?_
  refine z_getR fX5_22 dX5_complex_17 (by decide) rfl rfl ?_
  refine z_callV_V (M := mX5_complex) [] tX3_clear kX5_79 dX5_complex_20 ⟨by decide, rfl, _, _, rfl⟩ ⟨by decide, by decide⟩ rfl (Nat.le_of_ble_eq_true rfl) rfl c_X3_clear (fun h20 q20 => ?_)
  rw [q20]
  obtain ⟨k1, ek1⟩ : ∃ x, x = up h12 5 1 0 := ⟨_, rfl⟩
  have K5 : k1 5 = fun b => if b = 1 then 0 else h12 5 b := by rw [ek1, up_at]
  have Kn : ∀ k, k ≠ 5 → k1 k = h12 k := fun k k5 => by rw [ek1, up_ne _ _ _ k5]
  rw [← ek1]
  refine z_iload_n dX5_complex_23 rfl ?_
  have b12 := bi_r ((pAll (tkT h) n).1.2 = 0)
  refine z_if_ne 49 dX5_complex_24 (by decide) (by omega) (fun c24 => ?_) (fun c24 => ?_)
  · have c24 := bi_ne.mp c24
    refine z_aload_n dX5_complex_49 rfl ?_
    refine z_getR fX5_10 dX5_complex_50 (by decide) rfl rfl ?_
    refine z_aload_n dX5_complex_53 rfl ?_
    refine z_getR fX5_16 dX5_complex_54 (by decide) rfl rfl ?_
    refine z_callV_eR (M := mX5_complex) [] tX0_row kX5_89 dX5_complex_57 ⟨by decide, rfl, _, _, rfl⟩ ⟨by decide, by decide⟩ rfl (Nat.le_of_ble_eq_true rfl) rfl (c_X0_row isC3) ?_
    rw [show 3 + 1 = 4 from rfl]
    refine z_callV_V (M := mX5_complex) [_] tX0_loadFrom kX5_93 dX5_complex_60 ⟨by decide, rfl, _, _, rfl⟩ ⟨by decide, by decide⟩ rfl (Nat.le_of_ble_eq_true rfl) rfl (c_X0_loadFrom isC1 (by decide) rfl) (fun h60 q60 => ?_)
    rw [q60, show 1 + 1 = 2 from rfl]
    have pw := pAll_WB (tkT h) n
    have X2 : RC ((up (cpy k1 4 2 63) 0 9 0) 2) (pAll (tkT h) n).2 := by
      rw [up_ne _ _ _ (by decide), cpy_at]
      refine RC_congr pw (f := h12 4) g4 (fun j hj => ?_)
      simp only [if_pos hj]
      rw [Kn 4 (by decide)]
    refine z_aload_n dX5_complex_63 rfl ?_
    refine z_iconst dX5_complex_64 ?_
    refine z_putI pX5_59 dX5_complex_65 (by decide) rfl rfl (by omega) ?_
    refine z_aload_n dX5_complex_68 rfl ?_
    refine z_getR fX5_10 dX5_complex_69 (by decide) rfl rfl ?_
    refine z_iconst dX5_complex_72 ?_
    refine z_callV_eI (M := mX5_complex) [_] tX0_sizeOf kX5_97 dX5_complex_73 ⟨by decide, rfl, _, _, rfl⟩ ⟨by decide, by decide⟩ rfl (Nat.le_of_ble_eq_true rfl) rfl (s_X0_sizeP isC1 X2) ?_
    refine z_aload_n dX5_complex_76 rfl ?_
    refine z_getR fX5_10 dX5_complex_77 (by decide) rfl rfl ?_
    refine z_iconst dX5_complex_80 ?_
    refine z_callV_eI (M := mX5_complex) [_] tX0_sizeOf kX5_97 dX5_complex_81 ⟨by decide, rfl, _, _, rfl⟩ ⟨by decide, by decide⟩ rfl (Nat.le_of_ble_eq_true rfl) rfl (s_X0_sizeE isC1 X2) ?_
    refine z_iadd dX5_complex_84 ?_
    refine z_aload_n dX5_complex_85 rfl ?_
    refine z_getR fX5_10 dX5_complex_86 (by decide) rfl rfl ?_
    refine z_iconst dX5_complex_89 ?_
    refine z_callV_eI (M := mX5_complex) [_] tX0_sizeOf kX5_97 dX5_complex_90 ⟨by decide, rfl, _, _, rfl⟩ ⟨by decide, by decide⟩ rfl (Nat.le_of_ble_eq_true rfl) rfl (s_X0_sizeF isC1 X2) ?_
    refine z_iadd dX5_complex_93 ?_
    exact z_ireturn dX5_complex_94 rfl (hQ _ _ ⟨_, rfl, ⟨rfl, X2, up_same _ _ _ _, by rw [up_ne _ _ _ (by decide), cpy_ne _ (by decide), K5]; rfl, fun j hj => by rw [up_at]; simp only [if_neg hj]; rw [cpy_ne _ (by decide), Kn 0 (by decide), g1.1 0 (by decide) (by decide) (by decide) (by decide)], fun k k0 k2 k4 k5 k7 k8 => by rw [up_ne _ _ _ k0, cpy_ne _ k2, Kn k k5, g1.1 k k4 k5 k7 k8]⟩⟩)
  · have c24 := bi_eq.mp c24
    exact absurd hf c24

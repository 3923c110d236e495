set_option maxRecDepth 100000 in
set_option maxHeartbeats 4000000 in
theorem pr_feed {g : GG} {h : HH} (J : JJ h) {b : Int} (hb : R32 b) : PrX vi mX5_feed mX6_feed g [vi b] h := by
  obtain ⟨S, ok, j, m⟩ := J
  by_cases q : 0 ≤ b ∧ b ≤ 255
  · by_cases r : S.n = 90
    · exact prEI ok j m (c_X5_feedF j.2.2.2.1 ok.2.1 q r) fun h1 m1 => c_X6_feedF m1.2.2.2.1 q r
    · have r : S.n < 90 := by have := ok.2.1; omega
      refine prX (mk := vi) (S := S) (S' := S.fed b) (P1 := fun z h' => z = (S.n : Int) + 1 ∧ h' = up (up h 6 S.n b) 5 1 ((S.n : Int) + 1)) (P2 := fun h1 z h' => z = (S.n : Int) + 1 ∧ h' = up (up h1 53 S.n b) 47 7 ((S.n : Int) + 1)) (fun z => z = (S.n : Int) + 1) (fun z => z = (S.n : Int) + 1) m (SS.fed_ok ok q r) (c_X5_feed1 j.2.2.2.1 ok.2.1 q r) (fun z h1 a => ⟨a.1, ?_⟩) (fun h1 m1 => c_X6_feed1 m1.2.2.2.1 q r) (fun h1 w h2 m1 a => ⟨a.1, ?_⟩) (fun z w a b => by rw [a, b])
      · rw [a.2]; exact j.fed ok q r
      · rw [a.2]; exact m1.fed b
  · exact prEI ok j m (c_X5_feedO hb q) fun h1 m1 => c_X6_feedO hb q
theorem RA_nil {h h' : HH} {as : List SG} (R : RA h as) (h9 : h' 0 9 = 0) (h8 : h' 0 8 = h 0 8) : RA h' [] := by
  obtain ⟨r1, r2, nw, r3, r4, r5⟩ := R
  exact ⟨Nat.zero_le _, h9, nw, r3, h8.trans r4, fun k σ' e => by simp at e⟩
theorem RPast_nil {h : HH} (h3 : h 47 3 = 0) : RPast h [] := ⟨Nat.zero_le _, h3, fun k σ' e => by simp at e⟩
set_option maxRecDepth 100000 in
set_option maxHeartbeats 4000000 in
theorem pr_complex {g : GG} {h : HH} (J : JJ h) : PrX vi mX5_complex mX6_complex g [] h := by
  obtain ⟨S, ok, j, m⟩ := J
  have j' := j
  obtain ⟨j1, j2, j3, j4, j5, j6, j7⟩ := j'
  by_cases hf : (pAll S.tk S.n).1.2 = 0
  · have c1 := c_X5_complex1 (g := g) j4 ok.2.1 j5 (by rw [j6]; exact hf)
    rw [j6] at c1
    refine prX (mk := vi) (S := S) (S' := ((pAll S.tk S.n).2, [], 0, (fun _ => -1), S.lf, S.im)) (fun z => z = (sP (pAll S.tk S.n).2 : Int) + sE (pAll S.tk S.n).2 + sF (pAll S.tk S.n).2) (fun z => z = (sP (pAll S.tk S.n).2 : Int) + sE (pAll S.tk S.n).2 + sF (pAll S.tk S.n).2) m ?_ c1 (fun z h1 a => ⟨a.1, ?_⟩) (fun h1 m1 => c_X6_complex1 (m1.tp ok) hf) (fun h1 w h2 m1 a => ⟨a.1, ?_⟩) (fun z w a b => by rw [a, b])
    · have o := SS.clr_ok ok
      exact ⟨pAll_wf S.tk S.n, o.2⟩
    · obtain ⟨_, a1, a2, a3, a4, a5⟩ := a
      refine ⟨⟨a1, RA_nil j2 a2 (a4 8 (by decide)), fun k hk => ?_, a3, ?_, tkT_0 a3, ?_⟩, fun k hk => a5 k (by omega) (by omega) (by omega) (by omega) (by omega) (by omega)⟩
      · rw [a5 _ (by omega) (by omega) (by omega) (by omega) (by omega) (by omega)]; exact j3 k hk
      · unfold TB; rw [a5 6 (by decide) (by decide) (by decide) (by decide) (by decide) (by decide)]; exact j5
      · rw [a4 10 (by decide)]; exact j7
    · obtain ⟨_, a1, a2, a3, a4, a5⟩ := a
      obtain ⟨m1', m2, m3, m4, m5, m6⟩ := m1
      refine ⟨⟨a1, RPast_nil a2, fun k hk => IM_fr (a4 51 (by decide) (by decide) (by decide)) (a4 52 (by decide) (by decide) (by decide)) (m3 k hk), a3, mtk_0 a3, ?_⟩, fun k hk => a4 k (by omega) (by omega) (by omega)⟩
      rw [a5 14 (by decide) (by omega)]; exact m6
  · have c1 := c_X5_complexF (g := g) j4 ok.2.1 j5 (by rw [j6]; exact hf)
    rw [j6] at c1
    refine prX (mk := vi) (S := S) (S' := (S.σ, S.as, 0, (fun _ => -1), ((pAll S.tk S.n).1.2 : Int), S.im)) (fun z => z = -1000100 - ((pAll S.tk S.n).1.1 : Int)) (fun z => z = -1000100 - ((pAll S.tk S.n).1.1 : Int)) m ?_ c1 (fun z h1 a => ⟨a.1, ?_⟩) (fun h1 m1 => c_X6_complexF (m1.tp ok) hf) (fun h1 w h2 m1 a => ⟨a.1, ?_⟩) (fun z w a b => by rw [a, b])
    · exact SS.clr_ok ok
    · obtain ⟨_, a1, a2, a3, a4⟩ := a
      refine ⟨⟨?_, RA_keep j2 (fun j hj => a3 j (by omega)) (fun k k1 k2 => a4 k (by omega) (by omega) (by omega) (by omega) (by omega)), fun k hk => ?_, a2, ?_, tkT_0 a2, a1⟩, fun k hk => a4 k (by omega) (by omega) (by omega) (by omega) (by omega)⟩
      · rw [a4 2 (by decide) (by decide) (by decide) (by decide) (by decide)]; exact j1
      · rw [a4 _ (by omega) (by omega) (by omega) (by omega) (by omega)]; exact j3 k hk
      · unfold TB; rw [a4 6 (by decide) (by decide) (by decide) (by decide) (by decide)]; exact j5
    · obtain ⟨_, a1, a2, a3, a4⟩ := a
      obtain ⟨m1', m2, m3, m4, m5, m6⟩ := m1
      refine ⟨⟨?_, RPast_keep m2 (a4 3 (by omega)) (a3 50 (by decide) (by decide)), fun k hk => IM_fr (a3 51 (by decide) (by decide)) (a3 52 (by decide) (by decide)) (m3 k hk), a2, mtk_0 a2, a1⟩, fun k hk => a3 k (by omega) (by omega)⟩
      rw [a3 48 (by decide) (by decide)]; exact m1'
set_option maxRecDepth 100000 in
set_option maxHeartbeats 4000000 in
theorem pr_undo {g : GG} {h : HH} (J : JJ h) : PrX vi mX5_undo mX6_undo g [] h := by
  obtain ⟨S, ok, j, m⟩ := J
  have j' := j
  obtain ⟨j1, j2, j3, j4, j5, j6, j7⟩ := j'
  rcases hS : S.as with _ | ⟨σ', as'⟩
  · refine prEI ok j m (c_X5_undoS ?_) fun h1 m1 => c_X6_undoS ?_
    · rw [j2.2.1, hS]; rfl
    · rw [m1.2.1.2.1, hS]; rfl
  · rw [hS] at j2
    have Wσ : WF σ' := by
      obtain ⟨r1, r2, nw, r3, r4, r5⟩ := j2
      exact (r5 0 σ' rfl).2
    refine prX (mk := vi) (S := S) (S' := (σ', as', S.n, S.tk, S.lf, S.im)) (P2 := fun h1 z h' => z = (as'.length : Int) ∧ UndoM h1 h' σ' as') (fun z => z = (as'.length : Int)) (fun z => z = (as'.length : Int)) m ⟨Wσ, ok.2⟩ (c_X5_undo1 j2) (fun z h1 a => ⟨a.1, ?_⟩) (fun h1 m1 => c_X6_undo1 (by rw [← hS]; exact m1.2.1)) (fun h1 w h2 m1 a => ⟨a.1, ?_⟩) (fun z w a b => by rw [a, b])
    · obtain ⟨_, a1, a2, a3, a4⟩ := a
      refine ⟨⟨a1, a2, fun k hk => ?_, ?_, ?_, ?_, ?_⟩, fun k hk => a3 k (by omega) (by omega)⟩
      · rw [a3 _ (by omega) (by omega)]; exact j3 k hk
      · rw [a3 5 (by decide) (by decide)]; exact j4
      · unfold TB; rw [a3 6 (by decide) (by decide)]; exact j5
      · rw [tkT_fr (by rw [a3 5 (by decide) (by decide)]) (a3 6 (by decide) (by decide))]; exact j6
      · rw [a4 10 (by decide) (by decide)]; exact j7
    · obtain ⟨_, a1, a2, a3, a4⟩ := a
      obtain ⟨m1', m2, m3, m4, m5, m6⟩ := m1
      refine ⟨⟨a1, a2, fun k hk => IM_fr (a3 51 (by decide) (by decide)) (a3 52 (by decide) (by decide)) (m3 k hk), ?_, ?_, ?_⟩, fun k hk => a3 k (by omega) (by omega)⟩
      · rw [a4 7 (by decide)]; exact m4
      · rw [mtk_fr (a4 7 (by decide)) (a3 53 (by decide) (by decide))]; exact m5
      · rw [a4 14 (by decide)]; exact m6
/-- a word refused, or no room -/
theorem prClr {M1 M2 : MD} {g : GG} {av : List AV} {h : HH} {S : SS} {y : Int} (ok : S.ok) (j : JC h S) (m : JM h S) (c1 : CnI M1 g (vr 0 :: av) h (fun z h' => z = y ∧ TapeClr h h')) (c2 : ∀ h1, JM h1 S → CnI M2 g (vr 47 :: av) h1 (fun z h' => z = y ∧ TClrM h1 h')) : PrX vi M1 M2 g av h :=
  prX (mk := vi) (S := S) (S' := S.clr) (P1 := fun z h' => z = y ∧ TapeClr h h') (P2 := fun h1 z h' => z = y ∧ TClrM h1 h') (fun z => z = y) (fun z => z = y) m (SS.clr_ok ok) c1 (fun z h1 a => ⟨a.1, j.clr a.2⟩) c2 (fun h1 w h2 m1 a => ⟨a.1, m1.clr a.2⟩) (fun z w a b => by rw [a, b])
set_option maxRecDepth 100000 in
set_option maxHeartbeats 4000000 in
theorem pr_face {g : GG} {h : HH} (J : JJ h) {w : Int} (hw : R32 w) : PrX vi mX5_face mX6_face g [vi w] h := by
  obtain ⟨S, ok, j, m⟩ := J
  have W := ok.1
  have j6 := j.2.2.2.2.2.1
  by_cases h0 : sP S.σ = 0
  · exact prClr ok j m (c_X5_faceS j.2.2.2.1 ok.2.1 j.2.2.2.2.1 W j.1 hw h0) fun h1 m1 => c_X6_faceS (m1.tp ok) W m1.1 hw h0
  · have h0 : 0 < sP S.σ := by omega
    by_cases ho : pWord S.σ S.tk S.n 0 (fun _ => 0) (fun _ => false) 0 = none ∨ ¬ (1 ≤ w ∧ w ≤ 3)
    · exact prClr ok j m (c_X5_faceO j.2.2.2.1 ok.2.1 j.2.2.2.2.1 W j.1 hw h0 (by rw [j6]; exact ho)) fun h1 m1 => c_X6_faceO (m1.tp ok) W m1.1 hw h0 ho
    · have hw3 : 1 ≤ w ∧ w ≤ 3 := Classical.byContradiction fun q => ho (Or.inr q)
      obtain ⟨⟨n, le, sg⟩, hW⟩ := Option.ne_none_iff_exists'.mp (fun q => ho (Or.inl q))
      have V := pWord_wv W.2.1 S.n 0 _ _ 0 (wv_0 _) _ hW
      obtain ⟨wn, rfl⟩ : ∃ n : Nat, w = n := ⟨w.toNat, by omega⟩
      by_cases hF : sF S.σ = 4
      · exact prClr ok j m (c_X5_faceF j.2.2.2.1 ok.2.1 j.2.2.2.2.1 W j.1 (by omega) h0 (by rw [j6]; exact hW) hF) fun h1 m1 => c_X6_faceF (m1.tp ok) W m1.1 (by omega) h0 hW hF
      · have hF : sF S.σ < 4 := by have := W.2.2.1; omega
        refine prX (mk := vi) (S := S) (S' := S.clr.act (addF S.σ wn n le sg)) (P2 := fun h1 z h' => z = (sF S.σ : Int) ∧ ∃ h2, TClrM h1 h2 ∧ ActM h2 h' S.σ S.as (addF S.σ wn n le sg)) (fun z => z = (sF S.σ : Int)) (fun z => z = (sF S.σ : Int)) m (SS.act_ok (SS.clr_ok ok) (WF_addF W hF (by omega) V.1 V.2)) (c_X5_face1 j.2.2.2.1 ok.2.1 j.2.2.2.2.1 W j.1 (by omega) h0 (by rw [j6]; exact hW) hF j.2.1) (fun z h1 a => ⟨a.1, ?_⟩) (fun h1 m1 => c_X6_face1 (m1.tp ok) W m1.1 (by omega) h0 hW hF m1.2.1) (fun h1 w h2 m1 a => ⟨a.1, ?_⟩) (fun z w a b => by rw [a, b])
        · obtain ⟨_, h3, t, a⟩ := a
          obtain ⟨x1, x2⟩ := j.clr t
          obtain ⟨y1, y2⟩ := JC.act (S := S.clr) x1 a
          exact ⟨y1, fun k hk => (y2 k hk).trans (x2 k hk)⟩
        · obtain ⟨_, h3, t, a⟩ := a
          obtain ⟨x1, x2⟩ := m1.clr t
          obtain ⟨y1, y2⟩ := JM.act (S := S.clr) x1 a
          exact ⟨y1, fun k hk => (y2 k hk).trans (x2 k hk)⟩
set_option maxRecDepth 100000 in
set_option maxHeartbeats 4000000 in
theorem pr_image {g : GG} {h : HH} (J : JJ h) {k : Int} (hk : R32 k) : PrX vi mX5_image mX6_image g [vi k] h := by
  obtain ⟨S, ok, j, m⟩ := J
  have W := ok.1
  by_cases q : 0 ≤ k ∧ k < 2
  · obtain ⟨n, rfl⟩ : ∃ n : Nat, k = n := ⟨k.toNat, by omega⟩
    have n2 : n < 2 := by omega
    by_cases h0 : sP S.σ = 0
    · exact prEI ok j m (c_X5_imageS W j.1 n2 h0) fun h1 m1 => c_X6_imageS W m1.1 n2 h0
    · have h0 : 0 < sP S.σ := by omega
      refine prX (mk := vi) (S := S) (S' := (S.σ, S.as, S.n, S.tk, S.lf, fun i => if i = n then some S.σ else S.im i)) (P2 := fun h1 z h' => z = 1 ∧ h' = up (cpB h1 48 0 51 (63 * n) 63) 52 n 1) (fun z => z = 1) (fun z => z = 1) m ok (c_X5_image1 W j.1 n2 h0) (fun z h1 a => ⟨a.1, ?_⟩) (fun h1 m1 => c_X6_image1 W m1.1 n2 h0) (fun h1 w h2 m1 a => ⟨a.1, ?_⟩) (fun z w a b => by rw [a, b])
      · obtain ⟨_, rfl⟩ := a
        have e : ∀ i, i ≠ 45 + n → cpy h 2 (45 + n) 63 i = h i := fun i hi => cpy_ne _ hi
        obtain ⟨j1, j2, j3, j4, j5, j6, j7⟩ := j
        refine ⟨⟨?_, RA_keep j2 (fun j _ => by rw [e 0 (by omega)]) (fun i i1 i2 => e i (by omega)), fun i hi => ?_, ?_, ?_, ?_, ?_⟩, fun i hi => e i (by omega)⟩
        · rw [e 2 (by omega)]; exact j1
        · show RI _ (if i = n then some S.σ else S.im i)
          by_cases r : i = n
          · subst r
            rw [if_pos rfl, cpy_at]
            exact ⟨RC_congr W.wb j1 fun j hj => if_pos hj, W, h0⟩
          · rw [if_neg r, e _ (by omega)]; exact j3 i hi
        · rw [e 5 (by omega)]; exact j4
        · unfold TB; rw [e 6 (by omega)]; exact j5
        · rw [tkT_fr (by rw [e 5 (by omega)]) (e 6 (by omega))]; exact j6
        · rw [e 0 (by omega)]; exact j7
      · obtain ⟨_, rfl⟩ := a
        obtain ⟨j1, j2, j3, j4, j5, j6⟩ := m1
        have e : ∀ i, i ≠ 51 → i ≠ 52 → up (cpB h1 48 0 51 (63 * n) 63) 52 n 1 i = h1 i := fun i i1 i2 => by rw [up_ne _ _ _ i2]; unfold cpB; rw [setc_ne _ _ i1]
        have e52 : up (cpB h1 48 0 51 (63 * n) 63) 52 n 1 52 = fun b => if b = n then 1 else h1 52 b := by rw [up_at]; unfold cpB; rw [setc_ne _ _ (by decide)]
        have e51 : up (cpB h1 48 0 51 (63 * n) 63) 52 n 1 51 = fun j => if 63 * n ≤ j ∧ j < 63 * n + 63 then h1 48 (0 + (j - 63 * n)) else h1 51 j := by rw [up_ne _ _ _ (by decide)]; unfold cpB; rw [setc_at]
        refine ⟨⟨?_, RPast_keep j2 (by rw [e 47 (by decide) (by decide)]) (e 50 (by decide) (by decide)), fun i hi => ?_, ?_, ?_, ?_⟩, fun i hi => e i (by omega) (by omega)⟩
        · rw [e 48 (by decide) (by decide)]; exact j1
        · show IM _ i (if i = n then some S.σ else S.im i)
          by_cases r : i = n
          · subst r
            rw [if_pos rfl]
            refine ⟨by rw [e52]; exact if_pos rfl, RM_congr W.wb j1 fun j hj => ?_, W⟩
            rw [e51]
            show (if 63 * i ≤ 63 * i + j ∧ 63 * i + j < 63 * i + 63 then h1 48 (0 + (63 * i + j - 63 * i)) else h1 51 (63 * i + j)) = h1 48 j
            rw [if_pos (by omega), show 0 + (63 * i + j - 63 * i) = j by omega]
          · rw [if_neg r]
            have i3 := j3 i hi
            revert i3
            cases S.im i with
            | none =>
              intro i3
              show up (cpB h1 48 0 51 (63 * n) 63) 52 n 1 52 i = 0
              rw [e52]; exact (if_neg r).trans i3
            | some σ' =>
              intro i3
              refine ⟨by rw [e52]; exact (if_neg r).trans i3.1, RM_congr i3.2.2.wb i3.2.1 fun j hj => ?_, i3.2.2⟩
              rw [e51]
              show (if 63 * n ≤ 63 * i + j ∧ 63 * i + j < 63 * n + 63 then h1 48 (0 + (63 * i + j - 63 * n)) else h1 51 (63 * i + j)) = h1 51 (63 * i + j)
              rw [if_neg (by omega)]
        · rw [e 47 (by decide) (by decide)]; exact j4
        · rw [mtk_fr (by rw [e 47 (by decide) (by decide)]) (e 53 (by decide) (by decide))]; exact j5
        · rw [e 47 (by decide) (by decide)]; exact j6
  · exact prEI ok j m (c_X5_imageO W j.1 hk q) fun h1 m1 => c_X6_imageO W m1.1 hk q

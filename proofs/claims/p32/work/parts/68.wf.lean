/-! VALID COMPLEXES stay valid -/
theorem WF_setWE {σ : SG} (W : WF σ) {c w : Nat} (hw : 1 ≤ w ∧ w ≤ 3) : WF (setWE σ c w) := by
  obtain ⟨w1, w2, w3, w4, w5, w6⟩ := W
  refine ⟨w1, w2, w3, fun e he => ?_, w5, w6⟩
  obtain ⟨a, b, d⟩ := w4 e he
  refine ⟨a, b, ?_⟩
  show 1 ≤ (if e = c then w else sew σ e) ∧ (if e = c then w else sew σ e) ≤ 3
  split
  · exact hw
  · exact d
theorem WF_setWF {σ : SG} (W : WF σ) {c w : Nat} (hw : 1 ≤ w ∧ w ≤ 3) : WF (setWF σ c w) := by
  obtain ⟨w1, w2, w3, w4, w5, w6⟩ := W
  refine ⟨w1, w2, w3, w4, fun f hf => ?_, w6⟩
  obtain ⟨a, b, d⟩ := w5 f hf
  have : 1 ≤ (if f = c then w else sfw σ f) ∧ (if f = c then w else sfw σ f) ≤ 3 := by
    split
    · exact hw
    · exact ⟨a, b⟩
  exact ⟨this.1, this.2, d⟩
theorem WF_setCh {σ : SG} (W : WF σ) {c e : Nat} {v : Int} (hv : -9 ≤ v ∧ v ≤ 9) : WF (setCh σ c e v) := by
  obtain ⟨w1, w2, w3, w4, w5, w6⟩ := W
  refine ⟨w1, w2, w3, w4, w5, fun c' e' hc he => ?_⟩
  show -9 ≤ (if c' = c ∧ e' = e then v else sch σ c' e') ∧ (if c' = c ∧ e' = e then v else sch σ c' e') ≤ 9
  split
  · exact hv
  · exact w6 c' e' hc he
theorem WF_addE {σ : SG} (W : WF σ) {a b w : Nat} (hE : sE σ < 6) (ha : a < sP σ) (hb : b < sP σ) (hw : 1 ≤ w ∧ w ≤ 3) : WF (addE σ a b w) := by
  obtain ⟨w1, w2, w3, w4, w5, w6⟩ := W
  refine ⟨w1, hE, w3, fun e he => ?_, fun f hf => ?_, fun c e hc he => ?_⟩
  · have he : e < sE σ + 1 := he
    show (if e = sE σ then a else sfr σ e) < sP σ ∧ (if e = sE σ then b else sto σ e) < sP σ ∧ 1 ≤ (if e = sE σ then w else sew σ e) ∧ (if e = sE σ then w else sew σ e) ≤ 3
    by_cases q : e = sE σ
    · rw [if_pos q, if_pos q, if_pos q]; exact ⟨ha, hb, hw⟩
    · rw [if_neg q, if_neg q, if_neg q]; exact w4 e (by omega)
  · obtain ⟨x1, x2, x3, x4, x5, x6, x7⟩ := w5 f hf
    have e1 : ∀ k, k < swl σ f → bgn (addE σ a b w) f k = bgn σ f k ∧ edn (addE σ a b w) f k = edn σ f k := fun k hk => by
      have := x5 k hk
      show (if ssg σ f k then (if sle σ f k = sE σ then b else sto σ (sle σ f k)) else (if sle σ f k = sE σ then a else sfr σ (sle σ f k))) = _ ∧ (if ssg σ f k then (if sle σ f k = sE σ then a else sfr σ (sle σ f k)) else (if sle σ f k = sE σ then b else sto σ (sle σ f k))) = _
      rw [if_neg (show ¬ sle σ f k = sE σ by omega), if_neg (show ¬ sle σ f k = sE σ by omega)]
      exact ⟨rfl, rfl⟩
    refine ⟨x1, x2, x3, x4, fun k hk => ?_, fun k hk => ?_, ?_⟩
    · have := x5 k hk; show sle σ f k < sE σ + 1; omega
    · have hk : k + 1 < swl σ f := hk
      rw [(e1 (k + 1) hk).1, (e1 k (by omega)).2]; exact x6 k hk
    · show bgn (addE σ a b w) f 0 = edn (addE σ a b w) f (swl σ f - 1)
      rw [(e1 0 (by omega)).1, (e1 _ (by omega)).2]; exact x7
  · have he : e < sE σ + 1 := he
    show -9 ≤ (if e = sE σ then 0 else sch σ c e) ∧ (if e = sE σ then 0 else sch σ c e) ≤ 9
    by_cases q : e = sE σ
    · rw [if_pos q]; omega
    · rw [if_neg q]; exact w6 c e hc (by omega)
/-- a word read so far -/
def WV (σ : SG) (n : Nat) (le : Nat → Nat) (sg : Nat → Bool) : Prop := n ≤ 4 ∧ (∀ k, k < n → le k < sE σ) ∧ ∀ k, k + 1 < n → bgE σ (le (k + 1)) (sg (k + 1)) = enE σ (le k) (sg k)
theorem edg_cod {e : Nat} {b : Bool} (he : e < 26) : (edg (cod e b)).toNat = e ∧ decide (cod e b ≤ 90) = b := by
  unfold edg cod
  cases b
  · simp only [Bool.false_eq_true, if_false]
    rw [if_neg (by omega), if_pos (by omega)]
    exact ⟨by omega, decide_eq_false (by omega)⟩
  · simp only [if_true]
    rw [if_pos (by omega)]
    exact ⟨by omega, decide_eq_true (by omega)⟩
theorem wv_step {σ : SG} (hE : sE σ ≤ 6) {n : Nat} {le : Nat → Nat} {sg : Nat → Bool} {c : Int} (V : WV σ n le sg) (h : apOK σ n le sg c) : WV σ (n + 1) (fun k => if k = n then (edg c).toNat else le k) (fun k => if k = n then decide (c ≤ 90) else sg k) := by
  obtain ⟨v1, v2, v3⟩ := V
  obtain ⟨n4, e, b, rfl, he, hb⟩ := h
  obtain ⟨d1, d2⟩ := edg_cod (e := e) (b := b) (by omega)
  rw [d1, d2]
  refine ⟨by omega, fun k hk => ?_, fun k hk => ?_⟩
  · show (if k = n then e else le k) < sE σ
    by_cases q : k = n
    · rw [if_pos q]; exact he
    · rw [if_neg q]; exact v2 k (by omega)
  · show bgE σ (if k + 1 = n then e else le (k + 1)) (if k + 1 = n then b else sg (k + 1)) = enE σ (if k = n then e else le k) (if k = n then b else sg k)
    rw [if_neg (show ¬ k = n by omega), if_neg (show ¬ k = n by omega)]
    by_cases q : k + 1 = n
    · rw [if_pos q, if_pos q, hb (by omega), show n - 1 = k by omega]
    · rw [if_neg q, if_neg q]; exact v3 k (by omega)
theorem WF_addF {σ : SG} (W : WF σ) {w n : Nat} {le : Nat → Nat} {sg : Nat → Bool} (hF : sF σ < 4) (hw : 1 ≤ w ∧ w ≤ 3) (V : WV σ n le sg) (hc : wcl σ n le sg) : WF (addF σ w n le sg) := by
  obtain ⟨w1, w2, w3, w4, w5, w6⟩ := W
  obtain ⟨v1, v2, v3⟩ := V
  refine ⟨w1, w2, hF, w4, fun f hf => ?_, w6⟩
  have hf : f < sF σ + 1 := hf
  by_cases q : f = sF σ
  · have a1 : sfw (addF σ w n le sg) f = w := if_pos q
    have a2 : swl (addF σ w n le sg) f = n := if_pos q
    have a3 : ∀ k, sle (addF σ w n le sg) f k = le k := fun k => if_pos q
    have a4 : ∀ k, ssg (addF σ w n le sg) f k = sg k := fun k => if_pos q
    have b1 : ∀ k, bgn (addF σ w n le sg) f k = bgE σ (le k) (sg k) := fun k => by unfold bgn; rw [a3, a4]; rfl
    have b2 : ∀ k, edn (addF σ w n le sg) f k = enE σ (le k) (sg k) := fun k => by unfold edn; rw [a3, a4]; rfl
    unfold WFw
    rw [a1, a2]
    refine ⟨hw.1, hw.2, hc.1, v1, fun k hk => by rw [a3]; exact v2 k hk, fun k hk => by rw [b1, b2]; exact v3 k hk, by rw [b1, b2]; exact hc.2⟩
  · obtain ⟨x1, x2, x3, x4, x5, x6, x7⟩ := w5 f (by omega)
    have a1 : sfw (addF σ w n le sg) f = sfw σ f := if_neg q
    have a2 : swl (addF σ w n le sg) f = swl σ f := if_neg q
    have a3 : ∀ k, sle (addF σ w n le sg) f k = sle σ f k := fun k => if_neg q
    have a4 : ∀ k, ssg (addF σ w n le sg) f k = ssg σ f k := fun k => if_neg q
    have b1 : ∀ k, bgn (addF σ w n le sg) f k = bgn σ f k := fun k => by unfold bgn; rw [a3, a4]; rfl
    have b2 : ∀ k, edn (addF σ w n le sg) f k = edn σ f k := fun k => by unfold edn; rw [a3, a4]; rfl
    unfold WFw
    rw [a1, a2]
    refine ⟨x1, x2, x3, x4, fun k hk => by rw [a3]; exact x5 k hk, fun k hk => by rw [b1, b2]; exact x6 k hk, by rw [b1, b2]; exact x7⟩
theorem WF_dropF {σ : SG} (W : WF σ) {d : Nat} (hd : d < sF σ) : WF (dropF σ d) := by
  obtain ⟨w1, w2, w3, w4, w5, w6⟩ := W
  refine ⟨w1, w2, by show sF σ - 1 ≤ 4; omega, w4, fun f hf => ?_, w6⟩
  have hf : f < sF σ - 1 := hf
  have key : ∀ f', f' < sF σ → sfw (dropF σ d) f = sfw σ f' → swl (dropF σ d) f = swl σ f' → (∀ k, sle (dropF σ d) f k = sle σ f' k) → (∀ k, ssg (dropF σ d) f k = ssg σ f' k) → WFw (dropF σ d) f := fun f' hf' a1 a2 a3 a4 => by
    obtain ⟨x1, x2, x3, x4, x5, x6, x7⟩ := w5 f' hf'
    have b1 : ∀ k, bgn (dropF σ d) f k = bgn σ f' k := fun k => by unfold bgn; rw [a3, a4]; rfl
    have b2 : ∀ k, edn (dropF σ d) f k = edn σ f' k := fun k => by unfold edn; rw [a3, a4]; rfl
    unfold WFw
    rw [a1, a2]
    exact ⟨x1, x2, x3, x4, fun k hk => by rw [a3]; exact x5 k hk, fun k hk => by rw [b1, b2]; exact x6 k hk, by rw [b1, b2]; exact x7⟩
  by_cases q : f < d
  · exact key f (by omega) (if_pos q) (if_pos q) (fun _ => if_pos q) (fun _ => if_pos q)
  · exact key (f + 1) (by omega) (if_neg q) (if_neg q) (fun _ => if_neg q) (fun _ => if_neg q)
theorem WF_dropE {σ : SG} (W : WF σ) {d : Nat} (hd : d < sE σ) (hs : ¬ sewn σ d) : WF (dropE σ d) := by
  obtain ⟨w1, w2, w3, w4, w5, w6⟩ := W
  refine ⟨w1, by show sE σ - 1 ≤ 6; omega, w3, fun e he => ?_, fun f hf => ?_, fun c e hc he => ?_⟩
  · have he : e < sE σ - 1 := he
    show (if e < d then sfr σ e else sfr σ (e + 1)) < sP σ ∧ (if e < d then sto σ e else sto σ (e + 1)) < sP σ ∧ 1 ≤ (if e < d then sew σ e else sew σ (e + 1)) ∧ (if e < d then sew σ e else sew σ (e + 1)) ≤ 3
    by_cases q : e < d
    · rw [if_pos q, if_pos q, if_pos q]; exact w4 e (by omega)
    · rw [if_neg q, if_neg q, if_neg q]; exact w4 (e + 1) (by omega)
  · have hf : f < sF σ := hf
    obtain ⟨x1, x2, x3, x4, x5, x6, x7⟩ := w5 f hf
    have a3 : ∀ k, k < swl σ f → sle (dropE σ d) f k = if d < sle σ f k then sle σ f k - 1 else sle σ f k := fun k hk => by
      show (if (f < sF σ ∨ (f = sF σ ∧ k < 0)) ∧ d < sle σ f k then sle σ f k - 1 else sle σ f k) = _
      by_cases q : d < sle σ f k
      · rw [if_pos ⟨Or.inl hf, q⟩, if_pos q]
      · rw [if_neg (fun z => q z.2), if_neg q]
    have ne : ∀ k, k < swl σ f → sle σ f k ≠ d := fun k hk e => hs ⟨f, k, hf, hk, e⟩
    have b0 : ∀ k, k < swl σ f → sfr (dropE σ d) (sle (dropE σ d) f k) = sfr σ (sle σ f k) ∧ sto (dropE σ d) (sle (dropE σ d) f k) = sto σ (sle σ f k) := fun k hk => by
      have n1 := ne k hk
      rw [a3 k hk]
      by_cases q : d < sle σ f k
      · rw [if_pos q]
        show (if sle σ f k - 1 < d then sfr σ (sle σ f k - 1) else sfr σ (sle σ f k - 1 + 1)) = _ ∧ (if sle σ f k - 1 < d then sto σ (sle σ f k - 1) else sto σ (sle σ f k - 1 + 1)) = _
        rw [if_neg (by omega), if_neg (by omega), show sle σ f k - 1 + 1 = sle σ f k by omega]
        exact ⟨rfl, rfl⟩
      · rw [if_neg q]
        show (if sle σ f k < d then sfr σ (sle σ f k) else sfr σ (sle σ f k + 1)) = _ ∧ (if sle σ f k < d then sto σ (sle σ f k) else sto σ (sle σ f k + 1)) = _
        rw [if_pos (by omega), if_pos (by omega)]
        exact ⟨rfl, rfl⟩
    have b1 : ∀ k, k < swl σ f → bgn (dropE σ d) f k = bgn σ f k ∧ edn (dropE σ d) f k = edn σ f k := fun k hk => by
      unfold bgn edn
      rw [(b0 k hk).1, (b0 k hk).2]
      exact ⟨rfl, rfl⟩
    refine ⟨x1, x2, x3, x4, fun k hk => ?_, fun k hk => ?_, ?_⟩
    · have hk : k < swl σ f := hk
      rw [a3 k hk]
      have := x5 k hk
      have := ne k hk
      show _ < sE σ - 1
      split <;> omega
    · have hk : k + 1 < swl σ f := hk
      rw [(b1 (k + 1) hk).1, (b1 k (by omega)).2]; exact x6 k hk
    · show bgn (dropE σ d) f 0 = edn (dropE σ d) f (swl σ f - 1)
      rw [(b1 0 (by omega)).1, (b1 _ (by omega)).2]; exact x7
  · have he : e < sE σ - 1 := he
    show -9 ≤ (if e < d then sch σ c e else sch σ c (e + 1)) ∧ (if e < d then sch σ c e else sch σ c (e + 1)) ≤ 9
    by_cases q : e < d
    · rw [if_pos q]; exact w6 c e hc (by omega)
    · rw [if_neg q]; exact w6 c (e + 1) hc (by omega)
theorem pWord_wv {σ : SG} (hE : sE σ ≤ 6) {tk : Nat → Int} : ∀ (m n : Nat) (le : Nat → Nat) (sg : Nat → Bool) (i : Nat), WV σ n le sg → ∀ r, pWord σ tk m n le sg i = some r → WV σ r.1 r.2.1 r.2.2 ∧ wcl σ r.1 r.2.1 r.2.2
  | 0, n, le, sg, i, V, r, h => by
    by_cases q : wcl σ n le sg
    · rw [pWord_0t q] at h
      cases h
      exact ⟨V, q⟩
    · rw [pWord_0f q] at h
      cases h
  | m + 1, n, le, sg, i, V, r, h => by
    by_cases q : apOK σ n le sg (tk i)
    · rw [pWord_t q] at h
      exact pWord_wv hE m _ _ _ _ (wv_step hE V q) r h
    · rw [pWord_f q] at h
      cases h
theorem wv_0 (σ : SG) : WV σ 0 (fun _ => 0) (fun _ => false) := ⟨by decide, fun k hk => by omega, fun k hk => by omega⟩
theorem pLets_wv {σ : SG} (hE : sE σ ≤ 6) {tk : Nat → Int} : ∀ (m : Nat) (s : PW), WV σ s.2.1 s.2.2.1 s.2.2.2 → WV σ (pLets σ tk m s).2.1 (pLets σ tk m s).2.2.1 (pLets σ tk m s).2.2.2
  | 0, s, V => V
  | m + 1, s, V => by
    by_cases q : s.1.2 = 0 ∧ 0 ≤ edg (tk s.1.1)
    · rw [pLets_go q]
      refine pLets_wv hE m _ ?_
      by_cases r : apOK σ s.2.1 s.2.2.1 s.2.2.2 (tk s.1.1)
      · have e : pLet σ tk s = _ := if_pos r
        rw [e]
        exact wv_step hE V r
      · have e : pLet σ tk s = _ := if_neg r
        rw [e]
        exact V
    · rw [pLets_stop q]; exact V
/-- no fault yet behind a digit: it stands in its range -/
theorem tkD_ok2 {tk : Nat → Int} {lo hi : Int} {s : PF} (h : (tkD tk lo hi s).2.2 = 0) : s.2 = 0 ∧ lo ≤ (tkD tk lo hi s).1 ∧ ((tkD tk lo hi s).1 : Int) ≤ hi := by
  unfold tkD at h ⊢
  by_cases q : s.2 ≠ 0
  · rw [if_pos q] at h; exact absurd h q
  · rw [if_neg q] at h ⊢
    by_cases q2 : ¬ (0 ≤ tk s.1 - 48 ∧ tk s.1 - 48 < 10)
    · rw [if_pos q2] at h; exact absurd (show (1 : Nat) = 0 from h) (by decide)
    · rw [if_neg q2] at h ⊢
      by_cases q3 : tk s.1 - 48 < lo ∨ hi < tk s.1 - 48
      · rw [if_pos q3] at h; exact absurd (show (2 : Nat) = 0 from h) (by decide)
      · rw [if_neg q3]
        refine ⟨by omega, ?_, ?_⟩
        · show lo ≤ ((tk s.1 - 48).toNat : Int); omega
        · show ((tk s.1 - 48).toNat : Int) ≤ hi; omega
theorem tkS_ok2 {tk : Nat → Int} {c : Int} {s : PF} (h : (tkS tk c s).2 = 0) : s.2 = 0 ∧ tk s.1 = c := by
  unfold tkS at h
  by_cases q : s.2 ≠ 0
  · rw [if_pos q] at h; exact absurd h q
  · rw [if_neg q] at h
    by_cases q2 : tk s.1 = c
    · exact ⟨by omega, q2⟩
    · rw [if_neg q2] at h; exact absurd (show (1 : Nat) = 0 from h) (by decide)
theorem pEdge_wf {tk : Nat → Int} {s : PF × SG} (W : WF s.2) : WF (pEdge tk s).2 := by
  unfold pEdge
  split
  · exact W
  · rename_i hE
    simp only
    split
    · rename_i he
      have s1 := tkS_ok2 he
      have s2 := tkD_ok2 s1.1
      have s3 := tkD_ok2 s2.1
      have s4 := tkD_ok2 s3.1
      exact WF_addE W (by omega) (by omega) (by omega) ⟨by omega, by omega⟩
    · exact W
theorem pEdges_wf {tk : Nat → Int} : ∀ (n : Nat) {s : PF × SG}, WF s.2 → WF (pEdges tk n s).2
  | 0, s, W => W
  | n + 1, s, W => by
    unfold pEdges
    split
    · exact pEdges_wf n (pEdge_wf W)
    · exact W
theorem pEndW_ok {σ : SG} {tk : Nat → Int} {L : PW} (h : (pEndW σ tk L).2 = 0) (ht : tk (pEndW σ tk L).1 = 59) : wcl σ L.2.1 L.2.2.1 L.2.2.2 := by
  rw [pEndW_1] at ht
  by_cases q : (pA σ tk L).2 = 0 ∧ L.2.1 = 0
  · rw [pEndW_t q] at h; exact absurd (show (1 : Nat) = 0 from h) (by decide)
  · rw [pEndW_f q] at h
    by_cases r : L.1.2 = 0 ∧ tk L.1.1 = 59 ∧ 0 < L.2.1 ∧ ¬ wcl σ L.2.1 L.2.2.1 L.2.2.2
    · rw [pA_t r] at h; exact absurd (show (2 : Nat) = 0 from h) (by decide)
    · have h' := h
      rw [pA_f r] at h'
      refine Classical.byContradiction fun w => r ⟨h', ht, ?_, w⟩
      have : L.2.1 ≠ 0 := fun z => q ⟨h, z⟩
      omega
theorem pFace_wf {tk : Nat → Int} {s : PF × SG} (W : WF s.2) : WF (pFace tk s).2 := by
  unfold pFace
  split
  · exact W
  · rename_i hF
    simp only
    split
    · rename_i he
      have s1 := tkS_ok2 he
      have hc := pEndW_ok s1.1 s1.2
      have V := pLets_wv W.2.1 (tk := tk) 90 ((tkD tk 1 3 (tkS tk 102 s.1)).2, 0, (fun _ => 0), (fun _ => false)) (wv_0 _)
      by_cases q : (tkD tk 1 3 (tkS tk 102 s.1)).2.2 = 0
      · have s2 := tkD_ok2 q
        exact WF_addF W (by omega) ⟨by omega, by omega⟩ V hc
      · refine absurd hc.1 ?_
        rw [pLets_stop (fun z => q z.1)]
        exact Nat.lt_irrefl 0
    · exact W
theorem pFaces_wf {tk : Nat → Int} : ∀ (n : Nat) {s : PF × SG}, WF s.2 → WF (pFaces tk n s).2
  | 0, s, W => W
  | n + 1, s, W => by
    unfold pFaces
    split
    · exact pFaces_wf n (pFace_wf W)
    · exact W
theorem WF_sg0 {P : Nat} (hP : P ≤ 5) : WF (sg0 P) := ⟨hP, Nat.zero_le _, Nat.zero_le _, fun e he => absurd he (Nat.not_lt_zero e), fun f hf => absurd hf (Nat.not_lt_zero f), fun c e _ he => absurd he (Nat.not_lt_zero e)⟩
theorem tkD_hi {tk : Nat → Int} {lo : Int} {hi : Nat} {s : PF} : (tkD tk lo hi s).1 ≤ hi := by
  unfold tkD
  split
  · exact Nat.zero_le _
  · split
    · exact Nat.zero_le _
    · split
      · exact Nat.zero_le _
      · rename_i q; show (tk s.1 - 48).toNat ≤ hi; omega
theorem pAll_wf (tk : Nat → Int) (n : Nat) : WF (pAll tk n).2 := by
  unfold pAll
  exact pFaces_wf 90 (pEdges_wf 90 (WF_sg0 (tkD_hi (hi := 5))))

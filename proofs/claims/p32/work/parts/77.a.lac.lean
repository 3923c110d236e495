/-! THE LAW'S DEEDS: the class's cells and the law's together. -/
def JP (h : HH) (σ : SG) (as : List SG) : Prop := RC (h 2) σ ∧ RA h as ∧ h 5 1 = 0 ∧ TB h
def LJ (h : HH) (σ : SG) (n : Nat) : Prop := ZC (h 47) σ ∧ h 47 3 = (n : Int) ∧ ZB (h 47) ∧ CC (h 48) σ
def JL (h : HH) (σ : SG) (as : List SG) : Prop := WF σ ∧ JP h σ as ∧ LJ h σ as.length ∧ 0 < sP σ
def LW (h h1 : HH) : Prop := ∀ k, k ≠ 47 → k ≠ 48 → h1 k = h k
theorem LW.up47 {h h1 : HH} (L : LW h h1) (j : Nat) (v : Int) : LW h (up h1 47 j v) := fun k k1 k2 => by rw [up_ne _ _ _ k1]; exact L k k1 k2
theorem LW.up48 {h h1 : HH} (L : LW h h1) (j : Nat) (v : Int) : LW h (up h1 48 j v) := fun k k1 k2 => by rw [up_ne _ _ _ k2]; exact L k k1 k2
theorem LW.refl {h : HH} : LW h h := fun _ _ _ => rfl
theorem JP.lw {h h1 : HH} {σ : SG} {as : List SG} (P : JP h σ as) (L : LW h h1) : JP h1 σ as := by
  obtain ⟨p1, p2, p3, p4⟩ := P
  refine ⟨by rw [L 2 (by decide) (by decide)]; exact p1, RA_keep p2 (fun j _ => by rw [L 0 (by decide) (by decide)]) (fun k k1 k2 => L k (by omega) (by omega)), by rw [L 5 (by decide) (by decide)]; exact p3, ?_⟩
  unfold TB; rw [L 6 (by decide) (by decide)]; exact p4
theorem ActP.k {h1 h2 : HH} {σ σ' : SG} {as : List SG} (A : ActP h1 h2 σ as σ') {k : Nat} (h0 : k ≠ 0) (hk2 : k ≠ 2) (hk : k < 36 ∨ 44 ≤ k) : h2 k = h1 k := A.2.2.1 k h0 hk2 hk
theorem zc_up3 {f : Nat → Int} {σ : SG} (Zc : ZC f σ) (v : Int) : ZC (fun j => if j = 3 then v else f j) σ := by
  obtain ⟨z1, z2, z3, z4, z5⟩ := Zc
  have e : ∀ j, j ≠ 3 → (fun j => if j = 3 then v else f j) j = f j := fun j hj => if_neg hj
  refine ⟨by rw [e 0 (by decide)]; exact z1, by rw [e 1 (by decide)]; exact z2, by rw [e 2 (by decide)]; exact z3, fun i hi => ?_, fun k hk => ?_⟩
  · rw [e _ (by omega), e _ (by omega), e _ (by omega)]; exact z4 i hi
  · rw [e _ (by omega), e _ (by omega)]
    exact ⟨(z5 k hk).1, (z5 k hk).2.1, fun j hj => by rw [e _ (by omega)]; exact (z5 k hk).2.2 j hj⟩
theorem JL.fin {h1 h2 : HH} {σ σ' : SG} {as : List SG} (W' : WF σ') (P : JP h1 σ as) (L : LJ h1 σ' as.length) (A : ActP h1 h2 σ as σ') (h0 : 0 < sP σ') : JL (up h2 47 3 ((min (as.length + 1) 8 : Nat) : Int)) σ' ((σ :: as).take 8) := by
  obtain ⟨p1, p2, p3, p4⟩ := P
  obtain ⟨l1, l2, l3, l4⟩ := L
  have n : ∀ k, k ≠ 47 → up h2 47 3 ((min (as.length + 1) 8 : Nat) : Int) k = h2 k := fun k hk => up_ne _ _ _ hk
  have e47 : up h2 47 3 ((min (as.length + 1) 8 : Nat) : Int) 47 = fun j => if j = 3 then ((min (as.length + 1) 8 : Nat) : Int) else h1 47 j := by rw [up_at, A.k (by decide) (by decide) (by decide)]
  refine ⟨W', ⟨by rw [n 2 (by decide)]; exact A.1, RA_keep A.2.1 (fun j _ => by rw [n 0 (by decide)]) (fun k k1 k2 => n k (by omega)), by rw [n 5 (by decide), A.k (by decide) (by decide) (by decide)]; exact p3, ?_⟩, ⟨by rw [e47]; exact zc_up3 l1 _, ?_, by rw [e47]; exact ZB_up l3 (by omega), by rw [n 48 (by decide), A.k (by decide) (by decide) (by decide)]; exact l4⟩, h0⟩
  · unfold TB; rw [n 6 (by decide), A.k (by decide) (by decide) (by decide)]; exact p4
  · rw [e47]
    show (if 3 = 3 then ((min (as.length + 1) 8 : Nat) : Int) else _) = (((σ :: as).take 8).length : Int)
    rw [if_pos rfl, List.length_take, List.length_cons, Nat.min_comm]
theorem LJ.n3 {h1 h2 : HH} {σ σ' τ : SG} {as : List SG} {n : Nat} (L : LJ h1 τ n) (A : ActP h1 h2 σ as σ') : h2 47 3 = (n : Int) := by rw [A.k (by decide) (by decide) (by decide)]; exact L.2.1
/-! weights -/
theorem zc_setWE {f : Nat → Int} {σ : SG} (w2 : sE σ ≤ 6) (Zc : ZC f σ) {e w : Nat} (he : e < sE σ) : ZC (fun j => if j = 6 + 3 * e then (w : Int) else f j) (setWE σ e w) := by
  obtain ⟨z1, z2, z3, z4, z5⟩ := Zc
  have n : ∀ j, j ≠ 6 + 3 * e → (fun j => if j = 6 + 3 * e then (w : Int) else f j) j = f j := fun j hj => if_neg hj
  refine ⟨by rw [n 0 (by omega)]; exact z1, by rw [n 1 (by omega)]; exact z2, by rw [n 2 (by omega)]; exact z3, fun i hi => ?_, fun k hk => ?_⟩
  · have hi : i < sE σ := hi
    rw [n _ (by omega), n _ (by omega)]
    refine ⟨(z4 i hi).1, (z4 i hi).2.1, ?_⟩
    show (if 6 + 3 * i = 6 + 3 * e then (w : Int) else f (6 + 3 * i)) = ((if i = e then w else sew σ i : Nat) : Int)
    by_cases q : i = e
    · rw [if_pos (by omega), if_pos q]
    · rw [if_neg (by omega), if_neg q]; exact (z4 i hi).2.2
  · rw [n _ (by omega), n _ (by omega)]
    exact ⟨(z5 k hk).1, (z5 k hk).2.1, fun j hj => by rw [n _ (by omega)]; exact (z5 k hk).2.2 j hj⟩
theorem zc_setWF {f : Nat → Int} {σ : SG} (W : WF σ) (Zc : ZC f σ) {d w : Nat} (hd : d < sF σ) : ZC (fun j => if j = 22 + 6 * d then (w : Int) else f j) (setWF σ d w) := by
  have w2 := W.2.1
  obtain ⟨z1, z2, z3, z4, z5⟩ := Zc
  have n : ∀ j, j ≠ 22 + 6 * d → (fun j => if j = 22 + 6 * d then (w : Int) else f j) j = f j := fun j hj => if_neg hj
  refine ⟨by rw [n 0 (by omega)]; exact z1, by rw [n 1 (by omega)]; exact z2, by rw [n 2 (by omega)]; exact z3, fun i hi => ?_, fun k hk => ?_⟩
  · have hi : i < sE σ := hi
    rw [n _ (by omega), n _ (by omega), n _ (by omega)]; exact z4 i hi
  · have hk : k < sF σ := hk
    have x4 := (W.2.2.2.2.1 k hk).2.2.2.1
    rw [n (23 + 6 * k) (by omega)]
    refine ⟨?_, (z5 k hk).2.1, fun j hj => ?_⟩
    · show (if 22 + 6 * k = 22 + 6 * d then (w : Int) else f (22 + 6 * k)) = ((if k = d then w else sfw σ k : Nat) : Int)
      by_cases q : k = d
      · rw [if_pos (by omega), if_pos q]
      · rw [if_neg (by omega), if_neg q]; exact (z5 k hk).1
    · have hj : j < swl σ k := hj
      rw [n _ (by omega)]; exact (z5 k hk).2.2 j hj
/-! an edge more, a face more -/
theorem zc_addE {f f' : Nat → Int} {σ : SG} (W : WF σ) (Zc : ZC f σ) {a b w : Nat} (hE : sE σ < 6) (n : ∀ j, j ≠ 1 → j ≠ 4 + 3 * sE σ → j ≠ 5 + 3 * sE σ → j ≠ 6 + 3 * sE σ → f' j = f j) (e1 : f' 1 = (sE σ : Int) + 1) (e4 : f' (4 + 3 * sE σ) = a) (e5 : f' (5 + 3 * sE σ) = b) (e6 : f' (6 + 3 * sE σ) = w) : ZC f' (addE σ a b w) := by
  obtain ⟨z1, z2, z3, z4, z5⟩ := Zc
  refine ⟨by rw [n 0 (by omega) (by omega) (by omega) (by omega)]; exact z1, e1, by rw [n 2 (by omega) (by omega) (by omega) (by omega)]; exact z3, fun i hi => ?_, fun k hk => ?_⟩
  · have hi : i < sE σ + 1 := hi
    show f' (4 + 3 * i) = ((if i = sE σ then a else sfr σ i : Nat) : Int) ∧ f' (5 + 3 * i) = ((if i = sE σ then b else sto σ i : Nat) : Int) ∧ f' (6 + 3 * i) = ((if i = sE σ then w else sew σ i : Nat) : Int)
    by_cases q : i = sE σ
    · rw [if_pos q, if_pos q, if_pos q, q]; exact ⟨e4, e5, e6⟩
    · rw [if_neg q, if_neg q, if_neg q, n _ (by omega) (by omega) (by omega) (by omega), n _ (by omega) (by omega) (by omega) (by omega), n _ (by omega) (by omega) (by omega) (by omega)]
      exact z4 i (by omega)
  · have hk : k < sF σ := hk
    rw [n _ (by omega) (by omega) (by omega) (by omega), n _ (by omega) (by omega) (by omega) (by omega)]
    exact ⟨(z5 k hk).1, (z5 k hk).2.1, fun j hj => by rw [n _ (by omega) (by omega) (by omega) (by omega)]; exact (z5 k hk).2.2 j hj⟩
theorem zc_addF {f f' : Nat → Int} {σ : SG} (W : WF σ) (Zc : ZC f σ) {w m : Nat} {le : Nat → Nat} {sg : Nat → Bool} (n : ∀ j, j ≠ 2 → j < 22 + 6 * sF σ → f' j = f j) (e2 : f' 2 = (sF σ : Int) + 1) (e22 : f' (22 + 6 * sF σ) = w) (e23 : f' (23 + 6 * sF σ) = m) (L : WL f' (24 + 6 * sF σ) m le sg) : ZC f' (addF σ w m le sg) := by
  have w2 := W.2.1
  obtain ⟨z1, z2, z3, z4, z5⟩ := Zc
  refine ⟨by rw [n 0 (by omega) (by omega)]; exact z1, by rw [n 1 (by omega) (by omega)]; exact z2, e2, fun i hi => ?_, fun k hk => ?_⟩
  · have hi : i < sE σ := hi
    rw [n _ (by omega) (by omega), n _ (by omega) (by omega), n _ (by omega) (by omega)]; exact z4 i hi
  · have hk : k < sF σ + 1 := hk
    by_cases q : k = sF σ
    · have a1 : sfw (addF σ w m le sg) k = w := if_pos q
      have a2 : swl (addF σ w m le sg) k = m := if_pos q
      have a3 : ∀ j, sle (addF σ w m le sg) k j = le j := fun j => if_pos q
      have a4 : ∀ j, ssg (addF σ w m le sg) k j = sg j := fun j => if_pos q
      rw [a1, a2]
      refine ⟨by rw [q]; exact e22, by rw [q]; exact e23, fun j hj => ?_⟩
      rw [a3, a4, q]; exact L j hj
    · have a1 : sfw (addF σ w m le sg) k = sfw σ k := if_neg q
      have a2 : swl (addF σ w m le sg) k = swl σ k := if_neg q
      have a3 : ∀ j, sle (addF σ w m le sg) k j = sle σ k j := fun j => if_neg q
      have a4 : ∀ j, ssg (addF σ w m le sg) k j = ssg σ k j := fun j => if_neg q
      have x4 := (W.2.2.2.2.1 k (by omega)).2.2.2.1
      obtain ⟨b1, b2, b3⟩ := z5 k (by omega)
      rw [a1, a2, n _ (by omega) (by omega), n _ (by omega) (by omega)]
      refine ⟨b1, b2, fun j hj => ?_⟩
      rw [a3, a4, n _ (by omega) (by omega)]; exact b3 j hj
theorem cc_addE {f : Nat → Int} {σ : SG} (Cc : CC f σ) {a b w : Nat} (h0 : ∀ c, c < 3 → f (6 * c + sE σ) = 0) : CC f (addE σ a b w) := fun c e hc he => by
  have he : e < sE σ + 1 := he
  show f (6 * c + e) = if e = sE σ then 0 else sch σ c e
  by_cases q : e = sE σ
  · rw [if_pos q, q]; exact h0 c hc
  · rw [if_neg q]; exact Cc c e hc (by omega)
/-! chains -/
theorem cc_put {f : Nat → Int} {σ : SG} (w2 : sE σ ≤ 6) (Cc : CC f σ) {c e : Nat} {v : Int} (hc : c < 3) (he : e < sE σ) : CC (fun j => if j = 6 * c + e then v else f j) (setCh σ c e v) := fun c' e' hc' he' => by
  have he' : e' < sE σ := he'
  show (if 6 * c' + e' = 6 * c + e then v else f (6 * c' + e')) = if c' = c ∧ e' = e then v else sch σ c' e'
  by_cases q : c' = c ∧ e' = e
  · rw [if_pos (by omega), if_pos q]
  · rw [if_neg (by omega), if_neg q]; exact Cc c' e' hc' he'
theorem cc_ch0 {f : Nat → Int} {σ : SG} (Cc : CC f σ) (c : Nat) (v : Nat → Int) : CC f (chS σ c 0 v) := fun c' e' hc' he' => by
  show f (6 * c' + e') = if c' = c ∧ e' < 0 then v e' else sch σ c' e'
  rw [if_neg (by omega)]; exact Cc c' e' hc' he'
theorem cc_chs {f : Nat → Int} {σ : SG} (w2 : sE σ ≤ 6) {c i : Nat} {v : Nat → Int} (Cc : CC f (chS σ c i v)) (hc : c < 3) (hi : i < sE σ) : CC (fun j => if j = 6 * c + i then v i else f j) (chS σ c (i + 1) v) := fun c' e' hc' he' => by
  have he' : e' < sE σ := he'
  show (if 6 * c' + e' = 6 * c + i then v i else f (6 * c' + e')) = if c' = c ∧ e' < i + 1 then v e' else sch σ c' e'
  have := Cc c' e' hc' he'
  by_cases q : c' = c ∧ e' = i
  · rw [if_pos (by omega), if_pos (by omega), q.2]
  · rw [if_neg (by omega), this]
    show (if c' = c ∧ e' < i then v e' else sch σ c' e') = _
    by_cases q2 : c' = c ∧ e' < i
    · rw [if_pos q2, if_pos (by omega)]
    · rw [if_neg q2, if_neg (by omega)]
theorem chs_at {σ : SG} {c i : Nat} {v : Nat → Int} : sch (chS σ c i v) c i = sch σ c i := if_neg (by omega)
/-! a word as the tape has it is read -/
theorem wcl_eq {σ : SG} {n : Nat} {le le' : Nat → Nat} {sg sg' : Nat → Bool} (h : ∀ k, k < n → le' k = le k ∧ sg' k = sg k) (hc : wcl σ n le sg) : wcl σ n le' sg' := by
  have h0 := hc.1
  refine ⟨h0, ?_⟩
  rw [(h 0 h0).1, (h 0 h0).2, (h (n - 1) (by omega)).1, (h (n - 1) (by omega)).2]
  exact hc.2
theorem pWord_ok {σ : SG} (hE : sE σ ≤ 6) {tk : Nat → Int} {n : Nat} {le : Nat → Nat} {sg : Nat → Bool} (V : WV σ n le sg) (hc : wcl σ n le sg) : ∀ (m i p : Nat) (le0 : Nat → Nat) (sg0 : Nat → Bool), i + m = n → (∀ k, k < i → le0 k = le k ∧ sg0 k = sg k) → (∀ j, j < m → tk (p + j) = cod (le (i + j)) (sg (i + j))) → ∃ le' sg', pWord σ tk m i le0 sg0 p = some (n, le', sg') ∧ ∀ k, k < n → le' k = le k ∧ sg' k = sg k
  | 0, i, p, le0, sg0, hm, ha, _ => by
    have hm : i = n := hm
    subst hm
    exact ⟨le0, sg0, pWord_0t (wcl_eq ha hc), ha⟩
  | m + 1, i, p, le0, sg0, hm, ha, ht => by
    obtain ⟨v1, v2, v3⟩ := V
    have t0 := ht 0 (by omega)
    rw [Nat.add_zero, Nat.add_zero] at t0
    have hle := v2 i (by omega)
    obtain ⟨d1, d2⟩ := edg_cod (e := le i) (b := sg i) (by omega)
    have ok : apOK σ i le0 sg0 (tk p) := ⟨by omega, le i, sg i, t0, hle, fun h0 => by
      rw [(ha (i - 1) (by omega)).1, (ha (i - 1) (by omega)).2]
      have := v3 (i - 1) (by omega)
      rw [show i - 1 + 1 = i by omega] at this
      exact this⟩
    rw [pWord_t ok, t0, d1, d2]
    refine pWord_ok hE ⟨v1, v2, v3⟩ hc m (i + 1) (p + 1) _ _ (by omega) (fun k hk => ?_) (fun j hj => ?_)
    · by_cases q : k = i
      · rw [if_pos q, if_pos q, q]; exact ⟨rfl, rfl⟩
      · rw [if_neg q, if_neg q]; exact ha k (by omega)
    · have := ht (j + 1) (by omega)
      rw [show p + 1 + j = p + (j + 1) by omega, this, show i + 1 + j = i + (j + 1) by omega]
theorem tl_wls (l : List Int) {n : Nat} (le : Nat → Nat) (sg : Nat → Bool) {j : Nat} (hj : j < n) : tl (l ++ wls n le sg) (l.length + j) = cod (le j) (sg j) := by
  unfold tl wls
  rw [List.getD_eq_getElem?_getD, List.getElem?_append_right (by omega), show l.length + j - l.length = j by omega, List.getElem?_map, List.getElem?_range hj]
  rfl
theorem pWord_tape {σ : SG} (hE : sE σ ≤ 6) {n : Nat} {le : Nat → Nat} {sg : Nat → Bool} (V : WV σ n le sg) (hc : wcl σ n le sg) : ∃ le' sg', pWord σ (tl ([] ++ wls n le sg)) n 0 (fun _ => 0) (fun _ => false) 0 = some (n, le', sg') ∧ ∀ k, k < n → le' k = le k ∧ sg' k = sg k :=
  pWord_ok hE V hc n 0 0 _ _ (by omega) (fun k hk => absurd hk (Nat.not_lt_zero k)) (fun j hj => by
    have := tl_wls [] le sg hj
    rw [show ([] : List Int).length + j = 0 + j by simp] at this
    rw [this, Nat.zero_add])
theorem TL.nil {h : HH} (h51 : h 5 1 = 0) (hB : TB h) : TL h [] := ⟨h51, by decide, fun x hx => by simp at hx, hB, fun i hi => absurd hi (Nat.not_lt_zero i)⟩
theorem wls_aA : wls 2 (fun _ => 0) (fun k => decide (k = 1)) = [97, 65] := by
  unfold wls
  rfl

def upc (f : Nat → Int) (i : Nat) : Nat → Int := upn f i (f (i + 1))
theorem shE_in {f : Nat → Int} {d e j : Nat} (h : (3 + d ≤ j ∧ j < 3 + e) ∨ (9 + d ≤ j ∧ j < 9 + e) ∨ (15 + d ≤ j ∧ j < 15 + e) ∨ (45 + d ≤ j ∧ j < 45 + e) ∨ (51 + d ≤ j ∧ j < 51 + e) ∨ (57 + d ≤ j ∧ j < 57 + e)) : shE f d e j = f (j + 1) := if_pos h
theorem shE_out {f : Nat → Int} {d e j : Nat} (h : ¬ ((3 + d ≤ j ∧ j < 3 + e) ∨ (9 + d ≤ j ∧ j < 9 + e) ∨ (15 + d ≤ j ∧ j < 15 + e) ∨ (45 + d ≤ j ∧ j < 45 + e) ∨ (51 + d ≤ j ∧ j < 51 + e) ∨ (57 + d ≤ j ∧ j < 57 + e))) : shE f d e j = f j := if_neg h
theorem shE_step (f : Nat → Int) {d e : Nat} (hd : d ≤ e) (he : e < 5) : upc (upc (upc (upc (upc (upc (shE f d e) (3 + e)) (9 + e)) (15 + e)) (45 + e)) (51 + e)) (57 + e) = shE f d (e + 1) := by
  funext j
  unfold upc
  rcases (show j = 3 + e ∨ j = 9 + e ∨ j = 15 + e ∨ j = 45 + e ∨ j = 51 + e ∨ j = 57 + e ∨ (j ≠ 3 + e ∧ j ≠ 9 + e ∧ j ≠ 15 + e ∧ j ≠ 45 + e ∧ j ≠ 51 + e ∧ j ≠ 57 + e) by omega) with q | q | q | q | q | q | q
  · subst q; rw [shE_in (d := d) (e := e + 1) (by omega)]; simp (disch := omega) only [upn_ne, upn_eq]; rw [shE_out (by omega)]
  · subst q; rw [shE_in (d := d) (e := e + 1) (by omega)]; simp (disch := omega) only [upn_ne, upn_eq]; rw [shE_out (by omega)]
  · subst q; rw [shE_in (d := d) (e := e + 1) (by omega)]; simp (disch := omega) only [upn_ne, upn_eq]; rw [shE_out (by omega)]
  · subst q; rw [shE_in (d := d) (e := e + 1) (by omega)]; simp (disch := omega) only [upn_ne, upn_eq]; rw [shE_out (by omega)]
  · subst q; rw [shE_in (d := d) (e := e + 1) (by omega)]; simp (disch := omega) only [upn_ne, upn_eq]; rw [shE_out (by omega)]
  · subst q; rw [shE_in (d := d) (e := e + 1) (by omega)]; simp (disch := omega) only [upn_ne, upn_eq]; rw [shE_out (by omega)]
  · obtain ⟨q1, q2, q3, q4, q5, q6⟩ := q
    simp (disch := assumption) only [upn_ne]
    unfold shE
    by_cases p : (3 + d ≤ j ∧ j < 3 + e) ∨ (9 + d ≤ j ∧ j < 9 + e) ∨ (15 + d ≤ j ∧ j < 15 + e) ∨ (45 + d ≤ j ∧ j < 45 + e) ∨ (51 + d ≤ j ∧ j < 51 + e) ∨ (57 + d ≤ j ∧ j < 57 + e)
    · rw [if_pos p, if_pos (by omega)]
    · rw [if_neg p, if_neg (by omega)]
def up4 (f : Nat → Int) (e k : Nat) : Nat → Int := upn f (29 + 4 * e + k) (f (29 + 4 * e + k + 4))
theorem shF_step (f : Nat → Int) {d e : Nat} (hd : d ≤ e) (he : e < 3) : up4 (up4 (up4 (up4 (upc (upc (shF f d e) (21 + e)) (25 + e)) e 0) e 1) e 2) e 3 = shF f d (e + 1) := by
  funext j
  unfold upc up4
  rcases (show j = 21 + e ∨ j = 25 + e ∨ j = 29 + 4 * e + 0 ∨ j = 29 + 4 * e + 1 ∨ j = 29 + 4 * e + 2 ∨ j = 29 + 4 * e + 3 ∨ (j ≠ 21 + e ∧ j ≠ 25 + e ∧ j ≠ 29 + 4 * e + 0 ∧ j ≠ 29 + 4 * e + 1 ∧ j ≠ 29 + 4 * e + 2 ∧ j ≠ 29 + 4 * e + 3) by omega) with q | q | q | q | q | q | q
  · subst q; simp (disch := omega) only [upn_ne, upn_eq]; unfold shF; rw [if_neg (by omega), if_neg (by omega), if_pos (by omega)]
  · subst q; simp (disch := omega) only [upn_ne, upn_eq]; unfold shF; rw [if_neg (by omega), if_neg (by omega), if_pos (by omega)]
  · subst q; simp (disch := omega) only [upn_ne, upn_eq]; unfold shF; rw [if_neg (by omega), if_neg (by omega), if_neg (by omega), if_pos (by omega)]
  · subst q; simp (disch := omega) only [upn_ne, upn_eq]; unfold shF; rw [if_neg (by omega), if_neg (by omega), if_neg (by omega), if_pos (by omega)]
  · subst q; simp (disch := omega) only [upn_ne, upn_eq]; unfold shF; rw [if_neg (by omega), if_neg (by omega), if_neg (by omega), if_pos (by omega)]
  · subst q; simp (disch := omega) only [upn_ne, upn_eq]; unfold shF; rw [if_neg (by omega), if_neg (by omega), if_neg (by omega), if_pos (by omega)]
  · obtain ⟨q1, q2, q3, q4, q5, q6⟩ := q
    simp (disch := assumption) only [upn_ne]
    unfold shF
    have x1 : (21 + d ≤ j ∧ j < 21 + (e + 1)) ∨ (25 + d ≤ j ∧ j < 25 + (e + 1)) ↔ (21 + d ≤ j ∧ j < 21 + e) ∨ (25 + d ≤ j ∧ j < 25 + e) := by omega
    have x2 : 29 + 4 * d ≤ j ∧ j < 29 + 4 * (e + 1) ↔ 29 + 4 * d ≤ j ∧ j < 29 + 4 * e := by omega
    simp only [x1, x2]
theorem rc_cutE {f : Nat → Int} {σ : SG} (W : WB σ) (C : RC f σ) {d : Nat} (hd : d < sE σ) : RC (upn (shE f d (sE σ - 1)) 1 ((sE σ : Int) - 1)) (cutE σ d) := by
  obtain ⟨c1, c2, c3, c4, c5, c6⟩ := C
  have w2 := W.2.1
  have w3 := W.2.2.1
  refine ⟨?_, ?_, ?_, fun e he => ?_, fun k hk => ?_, fun c e hc he => ?_⟩
  · rw [upn_ne (by omega), shE_out (by omega)]; exact c1
  · rw [upn_eq rfl]; show _ = ((sE σ - 1 : Nat) : Int); omega
  · rw [upn_ne (by omega), shE_out (by omega)]; exact c3
  · have he : e < sE σ - 1 := he
    rw [upn_ne (by omega), upn_ne (by omega), upn_ne (by omega)]
    by_cases q : e < d
    · obtain ⟨d1, d2, d3⟩ := c4 e (by omega)
      rw [shE_out (by omega), shE_out (by omega), shE_out (by omega), d1, d2, d3]
      simp [cutE, sfr, sto, sew, q]
    · obtain ⟨d1, d2, d3⟩ := c4 (e + 1) (by omega)
      rw [shE_in (by omega), shE_in (by omega), shE_in (by omega), show 3 + e + 1 = 3 + (e + 1) by omega, show 9 + e + 1 = 9 + (e + 1) by omega, show 15 + e + 1 = 15 + (e + 1) by omega, d1, d2, d3]
      simp [cutE, sfr, sto, sew, q]
  · have hk : k < sF σ := hk
    obtain ⟨d1, d2, d3⟩ := c5 k hk
    have w4 := W.2.2.2 k hk
    refine ⟨?_, ?_, fun j hj => ?_⟩
    · rw [upn_ne (by omega), shE_out (by omega)]; exact d1
    · rw [upn_ne (by omega), shE_out (by omega)]; exact d2
    · have hj : j < swl σ k := hj
      rw [upn_ne (by omega), shE_out (by omega)]; exact d3 j hj
  · have he : e < sE σ - 1 := he
    rw [upn_ne (by omega)]
    by_cases q : e < d
    · rw [shE_out (by omega), c6 c e hc (by omega)]
      simp [cutE, sch, q]
    · rw [shE_in (by omega), show 45 + c * 6 + e + 1 = 45 + c * 6 + (e + 1) by omega, c6 c (e + 1) hc (by omega)]
      simp [cutE, sch, q]
theorem rc_dropF {f : Nat → Int} {σ : SG} (W : WB σ) (C : RC f σ) {d : Nat} (hd : d < sF σ) : RC (upn (shF f d (sF σ - 1)) 2 ((sF σ : Int) - 1)) (dropF σ d) := by
  obtain ⟨c1, c2, c3, c4, c5, c6⟩ := C
  have w2 := W.2.1
  have w3 := W.2.2.1
  have out : ∀ {j : Nat}, ¬ ((21 + d ≤ j ∧ j < 21 + (sF σ - 1)) ∨ (25 + d ≤ j ∧ j < 25 + (sF σ - 1))) → ¬ (29 + 4 * d ≤ j ∧ j < 29 + 4 * (sF σ - 1)) → shF f d (sF σ - 1) j = f j := fun h1 h2 => by unfold shF; rw [if_neg h1, if_neg h2]
  refine ⟨?_, ?_, ?_, fun e he => ?_, fun k hk => ?_, fun c e hc he => ?_⟩
  · rw [upn_ne (by omega), out (by omega) (by omega)]; exact c1
  · rw [upn_ne (by omega), out (by omega) (by omega)]; exact c2
  · rw [upn_eq rfl]; show _ = ((sF σ - 1 : Nat) : Int); omega
  · have he : e < sE σ := he
    rw [upn_ne (by omega), upn_ne (by omega), upn_ne (by omega), out (by omega) (by omega), out (by omega) (by omega), out (by omega) (by omega)]
    exact c4 e he
  · have hk : k < sF σ - 1 := hk
    by_cases q : k < d
    · obtain ⟨d1, d2, d3⟩ := c5 k (by omega)
      have w4 := W.2.2.2 k (by omega)
      refine ⟨?_, ?_, fun j hj => ?_⟩
      · rw [upn_ne (by omega), out (by omega) (by omega), d1]; simp [dropF, sfw, q]
      · rw [upn_ne (by omega), out (by omega) (by omega), d2]; simp [dropF, swl, q]
      · have hj : j < swl σ k := by simpa [dropF, swl, q] using hj
        rw [upn_ne (by omega), out (by omega) (by omega), d3 j hj]; simp [dropF, sle, ssg, q]
    · obtain ⟨d1, d2, d3⟩ := c5 (k + 1) (by omega)
      have w4 := W.2.2.2 (k + 1) (by omega)
      refine ⟨?_, ?_, fun j hj => ?_⟩
      · rw [upn_ne (by omega), show shF f d (sF σ - 1) (21 + k) = f (21 + (k + 1)) by unfold shF; rw [if_pos (by omega)]; rfl, d1]; simp [dropF, sfw, q]
      · rw [upn_ne (by omega), show shF f d (sF σ - 1) (25 + k) = f (25 + (k + 1)) by unfold shF; rw [if_pos (by omega)]; rfl, d2]; simp [dropF, swl, q]
      · have hj : j < swl σ (k + 1) := by simpa [dropF, swl, q] using hj
        rw [upn_ne (by omega), show shF f d (sF σ - 1) (29 + k * 4 + j) = f (29 + (k + 1) * 4 + j) by unfold shF; rw [if_neg (by omega), if_pos (by omega)]; congr 1; omega, d3 j hj]; simp [dropF, sle, ssg, q]
  · have he : e < sE σ := he
    rw [upn_ne (by omega), out (by omega) (by omega)]
    exact c6 c e hc he
theorem lowS_0 {f : Nat → Int} {σ : SG} (d : Nat) (C : RC f σ) : RC f (lowS σ d 0 0) := by
  obtain ⟨c1, c2, c3, c4, c5, c6⟩ := C
  refine ⟨c1, c2, c3, c4, fun k hk => ?_, c6⟩
  obtain ⟨d1, d2, d3⟩ := c5 k hk
  refine ⟨d1, d2, fun j hj => ?_⟩
  have : sle (lowS σ d 0 0) k j = sle σ k j := by
    show (if (k < 0 ∨ (k = 0 ∧ j < 0)) ∧ d < sle σ k j then sle σ k j - 1 else sle σ k j) = _
    rw [if_neg (by omega)]
  rw [this]; exact d3 j hj
theorem lowS_row {f : Nat → Int} {σ : SG} {d a : Nat} (C : RC f (lowS σ d a (swl σ a))) : RC f (lowS σ d (a + 1) 0) := by
  obtain ⟨c1, c2, c3, c4, c5, c6⟩ := C
  refine ⟨c1, c2, c3, c4, fun k hk => ?_, c6⟩
  obtain ⟨d1, d2, d3⟩ := c5 k hk
  refine ⟨d1, d2, fun j hj => ?_⟩
  have hj : j < swl σ k := hj
  have : sle (lowS σ d (a + 1) 0) k j = sle (lowS σ d a (swl σ a)) k j := by
    show (if (k < a + 1 ∨ (k = a + 1 ∧ j < 0)) ∧ d < sle σ k j then sle σ k j - 1 else sle σ k j) = (if (k < a ∨ (k = a ∧ j < swl σ a)) ∧ d < sle σ k j then sle σ k j - 1 else sle σ k j)
    by_cases q : k = a
    · subst q
      by_cases q2 : d < sle σ k j
      · rw [if_pos ⟨by omega, q2⟩, if_pos ⟨Or.inr ⟨rfl, hj⟩, q2⟩]
      · rw [if_neg (fun z => q2 z.2), if_neg (fun z => q2 z.2)]
    · by_cases q2 : k < a ∧ d < sle σ k j
      · rw [if_pos ⟨by omega, q2.2⟩, if_pos ⟨Or.inl q2.1, q2.2⟩]
      · rw [if_neg (by omega), if_neg (by omega)]
  rw [this]; exact d3 j hj
theorem lowS_skip {f : Nat → Int} {σ : SG} {d a k : Nat} (hk : ¬ d < sle σ a k) (C : RC f (lowS σ d a k)) : RC f (lowS σ d a (k + 1)) := by
  obtain ⟨c1, c2, c3, c4, c5, c6⟩ := C
  refine ⟨c1, c2, c3, c4, fun x hx => ?_, c6⟩
  obtain ⟨d1, d2, d3⟩ := c5 x hx
  refine ⟨d1, d2, fun j hj => ?_⟩
  have : sle (lowS σ d a (k + 1)) x j = sle (lowS σ d a k) x j := by
    show (if (x < a ∨ (x = a ∧ j < k + 1)) ∧ d < sle σ x j then sle σ x j - 1 else sle σ x j) = (if (x < a ∨ (x = a ∧ j < k)) ∧ d < sle σ x j then sle σ x j - 1 else sle σ x j)
    by_cases q : x = a ∧ j = k
    · obtain ⟨rfl, rfl⟩ := q
      rw [if_neg (fun z => hk z.2), if_neg (fun z => hk z.2)]
    · by_cases q2 : (x < a ∨ (x = a ∧ j < k)) ∧ d < sle σ x j
      · rw [if_pos q2, if_pos ⟨by omega, q2.2⟩]
      · rw [if_neg q2, if_neg (by omega)]
  rw [this]; exact d3 j hj
theorem lowS_put {f : Nat → Int} {σ : SG} (W : WB σ) {d a k : Nat} (ha : a < sF σ) (hk : k < swl σ a) (hd : d < sle σ a k) (C : RC f (lowS σ d a k)) : RC (upn f (29 + a * 4 + k) (cod (sle σ a k) (ssg σ a k) - 1)) (lowS σ d a (k + 1)) := by
  obtain ⟨c1, c2, c3, c4, c5, c6⟩ := C
  have w2 := W.2.1
  have w3 := W.2.2.1
  have w4 := W.2.2.2 a ha
  refine ⟨?_, ?_, ?_, fun e he => ?_, fun x hx => ?_, fun c e hc he => ?_⟩
  · rw [upn_ne (by omega)]; exact c1
  · rw [upn_ne (by omega)]; exact c2
  · rw [upn_ne (by omega)]; exact c3
  · have he2 : e < sE σ := he
    rw [upn_ne (by omega), upn_ne (by omega), upn_ne (by omega)]; exact c4 e he
  · have hx2 : x < sF σ := hx
    obtain ⟨d1, d2, d3⟩ := c5 x hx
    have w5 := W.2.2.2 x hx2
    refine ⟨?_, ?_, fun j hj => ?_⟩
    · rw [upn_ne (by omega)]; exact d1
    · rw [upn_ne (by omega)]; exact d2
    · have hj2 : j < swl σ x := hj
      have e1 : sle (lowS σ d a (k + 1)) x j = (if (x < a ∨ (x = a ∧ j < k + 1)) ∧ d < sle σ x j then sle σ x j - 1 else sle σ x j) := rfl
      have e2 : sle (lowS σ d a k) x j = (if (x < a ∨ (x = a ∧ j < k)) ∧ d < sle σ x j then sle σ x j - 1 else sle σ x j) := rfl
      have e4 : ssg (lowS σ d a (k + 1)) x j = ssg σ x j := rfl
      have e5 : ssg (lowS σ d a k) x j = ssg σ x j := rfl
      by_cases q : x = a ∧ j = k
      · obtain ⟨rfl, rfl⟩ := q
        rw [upn_eq rfl, e1, e4, if_pos ⟨Or.inr ⟨rfl, by omega⟩, hd⟩]
        unfold cod; cases ssg σ x j <;> simp <;> omega
      · rw [upn_ne (by omega), d3 j hj, e1, e2, e4, e5]
        by_cases q2 : (x < a ∨ (x = a ∧ j < k)) ∧ d < sle σ x j
        · rw [if_pos q2, if_pos ⟨by omega, q2.2⟩]
        · rw [if_neg q2, if_neg (by omega)]
  · have he2 : e < sE σ := he
    rw [upn_ne (by omega)]; exact c6 c e hc he
theorem WB_low {σ : SG} (W : WB σ) (d a k : Nat) : WB (lowS σ d a k) := W
theorem WB_cut {σ : SG} (W : WB σ) (d : Nat) : WB (cutE σ d) := ⟨W.1, by have := W.2.1; show sE σ - 1 ≤ 6; omega, W.2.2.1, W.2.2.2⟩

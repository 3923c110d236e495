/-! WHAT IS GONE, in the law's z and c. -/
def spq (σ : SG) (e i : Nat) : Prop := ∃ q, q < i ∧ q % 4 < swl σ (q / 4) ∧ sle σ (q / 4) (q % 4) = e
theorem spq_all {σ : SG} (W : WF σ) (e : Nat) : spq σ e (4 * sF σ) ↔ sewn σ e := by
  constructor
  · rintro ⟨q, h1, h2, h3⟩
    exact ⟨q / 4, q % 4, by omega, h2, h3⟩
  · rintro ⟨f, k, h1, h2, h3⟩
    have := (W.2.2.2.2.1 f h1).2.2.2.1
    refine ⟨4 * f + k, by omega, ?_, ?_⟩
    · rw [show (4 * f + k) % 4 = k by omega, show (4 * f + k) / 4 = f by omega]; exact h2
    · rw [show (4 * f + k) % 4 = k by omega, show (4 * f + k) / 4 = f by omega]; exact h3
theorem spq_t {σ : SG} {e i : Nat} (h : spq σ e i) : spq σ e (i + 1) := by
  obtain ⟨q, h1, h2⟩ := h
  exact ⟨q, by omega, h2⟩
theorem spq_y {σ : SG} {e i : Nat} (h1 : i % 4 < swl σ (i / 4)) (h2 : sle σ (i / 4) (i % 4) = e) : spq σ e (i + 1) := ⟨i, by omega, h1, h2⟩
theorem spq_n {σ : SG} {e i : Nat} (h : ¬ spq σ e i) (h2 : ¬ (i % 4 < swl σ (i / 4) ∧ sle σ (i / 4) (i % 4) = e)) : ¬ spq σ e (i + 1) := by
  rintro ⟨q, h3, h4, h5⟩
  by_cases z : q = i
  · subst z; exact h2 ⟨h4, h5⟩
  · exact h ⟨q, by omega, h4, h5⟩
/-- a face taken out of z, from 22 + 6 d up to i -/
def gF (d i : Nat) (f : Nat → Int) : Nat → Int := fun j => if 22 + 6 * d ≤ j ∧ j < i then f (j + 6) else f j
theorem gF_s {d i : Nat} (f : Nat → Int) (hi : 22 + 6 * d ≤ i) : (fun j => if j = i then gF d i f (i + 6) else gF d i f j) = gF d (i + 1) f := by
  funext j
  show (if j = i then (if 22 + 6 * d ≤ i + 6 ∧ i + 6 < i then _ else f (i + 6)) else (if 22 + 6 * d ≤ j ∧ j < i then f (j + 6) else f j)) = if 22 + 6 * d ≤ j ∧ j < i + 1 then f (j + 6) else f j
  by_cases e : j = i
  · rw [if_pos e, if_neg (by omega), if_pos (by omega), e]
  · rw [if_neg e]
    by_cases q : 22 + 6 * d ≤ j ∧ j < i
    · rw [if_pos q, if_pos (by omega)]
    · rw [if_neg q, if_neg (by omega)]
theorem gF_b {d i : Nat} {f : Nat → Int} (h : ZB f) (hi : i ≤ 40) : ZB (gF d i f) := fun j hj => by
  show -100 ≤ (if 22 + 6 * d ≤ j ∧ j < i then f (j + 6) else f j) ∧ (if 22 + 6 * d ≤ j ∧ j < i then f (j + 6) else f j) ≤ 100
  split
  · exact h (j + 6) (by omega)
  · exact h j hj
theorem gF_lo {d i j : Nat} (f : Nat → Int) (h : j < 22 + 6 * d) : gF d i f j = f j := if_neg (by omega)
theorem gF_hi {d j : Nat} (f : Nat → Int) (h1 : 22 + 6 * d ≤ j) (h2 : j < 40) : gF d 40 f j = f (j + 6) := if_pos ⟨h1, h2⟩
theorem ZB_up {f : Nat → Int} (h : ZB f) {i : Nat} {v : Int} (hv : -100 ≤ v ∧ v ≤ 100) : ZB (fun j => if j = i then v else f j) := fun j hj => by
  show -100 ≤ (if j = i then v else f j) ∧ (if j = i then v else f j) ≤ 100
  split
  · exact hv
  · exact h j hj
theorem zc_dropF {σ : SG} (W : WF σ) {f : Nat → Int} (Zc : ZC f σ) {d : Nat} (hd : d < sF σ) : ZC (fun j => if j = 2 then (sF σ : Int) - 1 else gF d 40 f j) (dropF σ d) := by
  have w2 := W.2.1
  have w3 := W.2.2.1
  obtain ⟨z1, z2, z3, z4, z5⟩ := Zc
  have lo : ∀ j, j ≠ 2 → j < 22 + 6 * d → (fun j => if j = 2 then (sF σ : Int) - 1 else gF d 40 f j) j = f j := fun j h2 hj => by
    show (if j = 2 then (sF σ : Int) - 1 else gF d 40 f j) = f j
    rw [if_neg h2, gF_lo f hj]
  have hi : ∀ j, 22 + 6 * d ≤ j → j < 40 → (fun j => if j = 2 then (sF σ : Int) - 1 else gF d 40 f j) j = f (j + 6) := fun j h2 hj => by
    show (if j = 2 then (sF σ : Int) - 1 else gF d 40 f j) = _
    rw [if_neg (by omega), gF_hi f h2 hj]
  refine ⟨by rw [lo 0 (by decide) (by omega)]; exact z1, by rw [lo 1 (by decide) (by omega)]; exact z2, ?_, fun e he => ?_, fun k hk => ?_⟩
  · show (if 2 = 2 then (sF σ : Int) - 1 else _) = ((sF σ - 1 : Nat) : Int)
    rw [if_pos rfl]; omega
  · have he : e < sE σ := he
    rw [lo _ (by omega) (by omega), lo _ (by omega) (by omega), lo _ (by omega) (by omega)]
    exact z4 e he
  · have hk : k < sF σ - 1 := hk
    by_cases q : k < d
    · obtain ⟨a1, a2, a3⟩ := z5 k (by omega)
      have e1 : sfw (dropF σ d) k = sfw σ k := if_pos q
      have e2 : swl (dropF σ d) k = swl σ k := if_pos q
      have e3 : ∀ j, sle (dropF σ d) k j = sle σ k j := fun j => if_pos q
      have e4 : ∀ j, ssg (dropF σ d) k j = ssg σ k j := fun j => if_pos q
      rw [lo _ (by omega) (by omega), lo _ (by omega) (by omega), e1, e2]
      refine ⟨a1, a2, fun j hj => ?_⟩
      have := (W.2.2.2.2.1 k (by omega)).2.2.2.1
      rw [lo _ (by omega) (by omega), e3, e4]; exact a3 j hj
    · obtain ⟨a1, a2, a3⟩ := z5 (k + 1) (by omega)
      have e1 : sfw (dropF σ d) k = sfw σ (k + 1) := if_neg q
      have e2 : swl (dropF σ d) k = swl σ (k + 1) := if_neg q
      have e3 : ∀ j, sle (dropF σ d) k j = sle σ (k + 1) j := fun j => if_neg q
      have e4 : ∀ j, ssg (dropF σ d) k j = ssg σ (k + 1) j := fun j => if_neg q
      rw [hi _ (by omega) (by omega), hi _ (by omega) (by omega), e1, e2]
      refine ⟨by rw [show 22 + 6 * k + 6 = 22 + 6 * (k + 1) by omega]; exact a1, by rw [show 23 + 6 * k + 6 = 23 + 6 * (k + 1) by omega]; exact a2, fun j hj => ?_⟩
      have := (W.2.2.2.2.1 (k + 1) (by omega)).2.2.2.1
      rw [hi _ (by omega) (by omega), e3, e4, show 24 + 6 * k + j + 6 = 24 + 6 * (k + 1) + j by omega]; exact a3 j hj
/-- an edge taken out of z: its three numbers -/
def gE (d i : Nat) (f : Nat → Int) : Nat → Int := fun j => if 4 + 3 * d ≤ j ∧ j < i then f (j + 3) else f j
theorem gE_s {d i : Nat} (f : Nat → Int) (hi : 4 + 3 * d ≤ i) : (fun j => if j = i then gE d i f (i + 3) else gE d i f j) = gE d (i + 1) f := by
  funext j
  show (if j = i then (if 4 + 3 * d ≤ i + 3 ∧ i + 3 < i then _ else f (i + 3)) else (if 4 + 3 * d ≤ j ∧ j < i then f (j + 3) else f j)) = if 4 + 3 * d ≤ j ∧ j < i + 1 then f (j + 3) else f j
  by_cases e : j = i
  · rw [if_pos e, if_neg (by omega), if_pos (by omega), e]
  · rw [if_neg e]
    by_cases q : 4 + 3 * d ≤ j ∧ j < i
    · rw [if_pos q, if_pos (by omega)]
    · rw [if_neg q, if_neg (by omega)]
theorem gE_b {d i : Nat} {f : Nat → Int} (h : ZB f) (hi : i ≤ 19) : ZB (gE d i f) := fun j hj => by
  show -100 ≤ (if 4 + 3 * d ≤ j ∧ j < i then f (j + 3) else f j) ∧ (if 4 + 3 * d ≤ j ∧ j < i then f (j + 3) else f j) ≤ 100
  split
  · exact h (j + 3) (by omega)
  · exact h j hj
/-- the numbers of the chains moved -/
def gC (d i : Nat) (f : Nat → Int) : Nat → Int := fun j => if j < i then (if j % 6 < d then f j else if j % 6 < 5 then f (j + 1) else 0) else f j
theorem gC_s {d i : Nat} (f : Nat → Int) {v : Int} (hv : v = if i % 6 < d then f i else if i % 6 < 5 then f (i + 1) else 0) : (fun j => if j = i then v else gC d i f j) = gC d (i + 1) f := by
  funext j
  show (if j = i then v else (if j < i then (if j % 6 < d then f j else if j % 6 < 5 then f (j + 1) else 0) else f j)) = if j < i + 1 then (if j % 6 < d then f j else if j % 6 < 5 then f (j + 1) else 0) else f j
  by_cases e : j = i
  · rw [if_pos e, if_pos (show j < i + 1 by omega), hv, e]
  · rw [if_neg e]
    by_cases q : j < i
    · rw [if_pos q, if_pos (show j < i + 1 by omega)]
    · rw [if_neg q, if_neg (show ¬ j < i + 1 by omega)]
theorem gC_at {d i j : Nat} (f : Nat → Int) (h : i ≤ j) : gC d i f j = f j := if_neg (by omega)
/-- a letter behind the edge d is one lower -/
def low1 (d : Nat) (v : Int) : Int := v - (if (d : Int) + 1 < v then 1 else if v < -(d : Int) - 1 then -1 else 0)
theorem low1_ltr {d e : Nat} {b : Bool} : low1 d (ltr e b) = ltr (if d < e then e - 1 else e) b := by
  unfold low1 ltr
  cases b <;> simp <;> split <;> (try split) <;> (try split) <;> omega
theorem low1_b {d : Nat} {v : Int} (h : -100 ≤ v ∧ v ≤ 100) : -100 ≤ low1 d v ∧ low1 d v ≤ 100 := by
  unfold low1
  split <;> (try split) <;> omega
def gL (d i : Nat) (f : Nat → Int) : Nat → Int := fun j => if 24 ≤ j ∧ (j - 24) % 6 < 4 ∧ 4 * ((j - 24) / 6) + (j - 24) % 6 < i then low1 d (f j) else f j
theorem gL_at (d i : Nat) (f : Nat → Int) : gL d i f (24 + 6 * (i / 4) + i % 4) = f (24 + 6 * (i / 4) + i % 4) := if_neg (by omega)
theorem gL_s {d i : Nat} (f : Nat → Int) {v : Int} (hv : v = low1 d (f (24 + 6 * (i / 4) + i % 4))) : (fun j => if j = 24 + 6 * (i / 4) + i % 4 then v else gL d i f j) = gL d (i + 1) f := by
  funext j
  show (if j = 24 + 6 * (i / 4) + i % 4 then v else (if 24 ≤ j ∧ (j - 24) % 6 < 4 ∧ 4 * ((j - 24) / 6) + (j - 24) % 6 < i then low1 d (f j) else f j)) = if 24 ≤ j ∧ (j - 24) % 6 < 4 ∧ 4 * ((j - 24) / 6) + (j - 24) % 6 < i + 1 then low1 d (f j) else f j
  by_cases e : j = 24 + 6 * (i / 4) + i % 4
  · rw [if_pos e, if_pos (by omega), hv, e]
  · rw [if_neg e]
    by_cases q : 24 ≤ j ∧ (j - 24) % 6 < 4 ∧ 4 * ((j - 24) / 6) + (j - 24) % 6 < i
    · rw [if_pos q, if_pos (by omega)]
    · rw [if_neg q, if_neg (by omega)]
theorem gL_b {d i : Nat} {f : Nat → Int} (h : ZB f) : ZB (gL d i f) := fun j hj => by
  show -100 ≤ (if 24 ≤ j ∧ (j - 24) % 6 < 4 ∧ 4 * ((j - 24) / 6) + (j - 24) % 6 < i then low1 d (f j) else f j) ∧ (if 24 ≤ j ∧ (j - 24) % 6 < 4 ∧ 4 * ((j - 24) / 6) + (j - 24) % 6 < i then low1 d (f j) else f j) ≤ 100
  split
  · exact low1_b (h j hj)
  · exact h j hj
theorem gL_lo {d i j : Nat} (f : Nat → Int) (h : j < 24) : gL d i f j = f j := if_neg (by omega)
theorem gE_o {d i j : Nat} (f : Nat → Int) (h : j < 4 + 3 * d ∨ i ≤ j) : gE d i f j = f j := if_neg (by omega)
theorem gE_i {d i j : Nat} (f : Nat → Int) (h : 4 + 3 * d ≤ j) (h2 : j < i) : gE d i f j = f (j + 3) := if_pos ⟨h, h2⟩
theorem zc_dropE {σ : SG} (W : WF σ) {f : Nat → Int} (Zc : ZC f σ) {d : Nat} (hd : d < sE σ) : ZC (fun j => if j = 1 then (sE σ : Int) - 1 else gL d (4 * sF σ) (gE d 19 f) j) (dropE σ d) := by
  have w2 := W.2.1
  have w3 := W.2.2.1
  obtain ⟨z1, z2, z3, z4, z5⟩ := Zc
  have lo : ∀ j, j ≠ 1 → j < 24 → (fun j => if j = 1 then (sE σ : Int) - 1 else gL d (4 * sF σ) (gE d 19 f) j) j = gE d 19 f j := fun j h2 hj => by
    show (if j = 1 then (sE σ : Int) - 1 else gL d (4 * sF σ) (gE d 19 f) j) = _
    rw [if_neg h2, gL_lo _ hj]
  have mid : ∀ k t, k < sF σ → t < 2 → (fun j => if j = 1 then (sE σ : Int) - 1 else gL d (4 * sF σ) (gE d 19 f) j) (22 + 6 * k + t) = f (22 + 6 * k + t) := fun k t hk ht => by
    show (if 22 + 6 * k + t = 1 then (sE σ : Int) - 1 else gL d (4 * sF σ) (gE d 19 f) (22 + 6 * k + t)) = _
    rw [if_neg (by omega), show gL d (4 * sF σ) (gE d 19 f) (22 + 6 * k + t) = gE d 19 f (22 + 6 * k + t) from if_neg (by omega), gE_o f (by omega)]
  have let' : ∀ k t, k < sF σ → t < 4 → (fun j => if j = 1 then (sE σ : Int) - 1 else gL d (4 * sF σ) (gE d 19 f) j) (24 + 6 * k + t) = low1 d (f (24 + 6 * k + t)) := fun k t hk ht => by
    show (if 24 + 6 * k + t = 1 then (sE σ : Int) - 1 else gL d (4 * sF σ) (gE d 19 f) (24 + 6 * k + t)) = _
    rw [if_neg (by omega), show gL d (4 * sF σ) (gE d 19 f) (24 + 6 * k + t) = low1 d (gE d 19 f (24 + 6 * k + t)) from if_pos (by omega), gE_o f (by omega)]
  refine ⟨by rw [lo 0 (by decide) (by decide), gE_o f (by omega)]; exact z1, ?_, by rw [lo 2 (by decide) (by decide), gE_o f (by omega)]; exact z3, fun e he => ?_, fun k hk => ?_⟩
  · show (if 1 = 1 then (sE σ : Int) - 1 else _) = ((sE σ - 1 : Nat) : Int)
    rw [if_pos rfl]; omega
  · have he : e < sE σ - 1 := he
    rw [lo _ (by omega) (by omega), lo _ (by omega) (by omega), lo _ (by omega) (by omega)]
    show gE d 19 f (4 + 3 * e) = ((if e < d then sfr σ e else sfr σ (e + 1) : Nat) : Int) ∧ gE d 19 f (5 + 3 * e) = ((if e < d then sto σ e else sto σ (e + 1) : Nat) : Int) ∧ gE d 19 f (6 + 3 * e) = ((if e < d then sew σ e else sew σ (e + 1) : Nat) : Int)
    by_cases q : e < d
    · rw [if_pos q, if_pos q, if_pos q, gE_o f (by omega), gE_o f (by omega), gE_o f (by omega)]
      exact z4 e (by omega)
    · rw [if_neg q, if_neg q, if_neg q, gE_i f (by omega) (by omega), gE_i f (by omega) (by omega), gE_i f (by omega) (by omega), show 4 + 3 * e + 3 = 4 + 3 * (e + 1) by omega, show 5 + 3 * e + 3 = 5 + 3 * (e + 1) by omega, show 6 + 3 * e + 3 = 6 + 3 * (e + 1) by omega]
      exact z4 (e + 1) (by omega)
  · have hk : k < sF σ := hk
    obtain ⟨a1, a2, a3⟩ := z5 k hk
    have x4 := (W.2.2.2.2.1 k hk).2.2.2.1
    refine ⟨(mid k 0 hk (by decide)).trans a1, (by rw [show 23 + 6 * k = 22 + 6 * k + 1 by omega]; exact (mid k 1 hk (by decide)).trans (by rw [show 22 + 6 * k + 1 = 23 + 6 * k by omega]; exact a2)), fun j hj => ?_⟩
    have hj : j < swl σ k := hj
    rw [let' k j hk (by omega), a3 j hj, low1_ltr]
    show _ = ltr (if (k < sF σ ∨ (k = sF σ ∧ j < 0)) ∧ d < sle σ k j then sle σ k j - 1 else sle σ k j) (ssg σ k j)
    by_cases q : d < sle σ k j
    · rw [if_pos q, if_pos ⟨Or.inl hk, q⟩]
    · rw [if_neg q, if_neg (fun z => q z.2)]
theorem cc_dropE {σ : SG} (W : WF σ) {f : Nat → Int} (Cc : CC f σ) {d : Nat} (hd : d < sE σ) : CC (gC d 18 f) (dropE σ d) := fun c e hc he => by
  have w2 := W.2.1
  have he : e < sE σ - 1 := he
  show (if 6 * c + e < 18 then (if (6 * c + e) % 6 < d then f (6 * c + e) else if (6 * c + e) % 6 < 5 then f (6 * c + e + 1) else 0) else f (6 * c + e)) = if e < d then sch σ c e else sch σ c (e + 1)
  rw [if_pos (by omega), show (6 * c + e) % 6 = e by omega]
  by_cases q : e < d
  · rw [if_pos q, if_pos q]; exact Cc c e hc (by omega)
  · rw [if_neg q, if_neg q, if_pos (by omega)]; exact Cc c (e + 1) hc (by omega)

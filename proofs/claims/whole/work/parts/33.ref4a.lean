theorem c_X6_notes {g : GG} {h : HH} {σ : SG} (W : WF σ) (R : RM (h 48) σ) {as : List SG} (P : RPast h as) : CnV mX6_notes g [vr 47] h (fun h' => NoteP h h' σ as) := by
  have p1 := P.1
  rcases (show as.length < 8 ∨ as.length = 8 by omega) with q | q
  · exact c_X6_notesN W R P q
  · exact c_X6_notes8 W R P q
theorem rm_zero {f : Nat → Int} {σ : SG} (W : WB σ) (C : RM f σ) {c : Nat} (hE : sE σ < 6) {i : Nat} (hi : i = 45 + 6 * c + sE σ) : RM (upn f i 0) σ := by
  subst hi
  have w3 := W.2.2.1
  obtain ⟨c1, c2, c3, c4, c5, c6⟩ := C
  refine ⟨by rw [upn_ne (by omega)]; exact c1, by rw [upn_ne (by omega)]; exact c2, by rw [upn_ne (by omega)]; exact c3, fun e he => ?_, fun k hk => ?_, fun c' e hc he => ?_⟩
  · rw [upn_ne (by omega), upn_ne (by omega), upn_ne (by omega)]; exact c4 e he
  · have w4 := W.2.2.2 k hk
    obtain ⟨d1, d2, d3⟩ := c5 k hk
    exact ⟨by rw [upn_ne (by omega)]; exact d1, by rw [upn_ne (by omega)]; exact d2, fun j hj => by rw [upn_ne (by omega)]; exact d3 j hj⟩
  · rw [upn_ne (by omega)]; exact c6 c' e hc he
/-- the edges' numbers shifted, from edge d on, up to place k -/
def shA (f : Nat → Int) (d k : Nat) : Nat → Int := fun j => if 3 + 3 * d ≤ j ∧ j < k then f (j + 3) else f j
theorem shA_s (f : Nat → Int) {d k : Nat} (h : 3 + 3 * d ≤ k) : upn (shA f d k) k (shA f d k (k + 3)) = shA f d (k + 1) := by
  funext j
  by_cases q : j = k
  · subst q; rw [upn_eq rfl]; unfold shA; rw [if_neg (by omega), if_pos (by omega)]
  · rw [upn_ne q]; unfold shA
    by_cases q2 : 3 + 3 * d ≤ j ∧ j < k
    · rw [if_pos q2, if_pos (by omega)]
    · rw [if_neg q2, if_neg (by omega)]
/-- the chains' numbers shifted, from edge d on, up to place 45 + k -/
def shB (f : Nat → Int) (d k : Nat) : Nat → Int := fun j => if 45 ≤ j ∧ j < 45 + k ∧ d ≤ (j - 45) % 6 then (if 5 ≤ (j - 45) % 6 then 0 else f (j + 1)) else f j
theorem shB_s (f : Nat → Int) {d k : Nat} {v : Int} (hv : v = if d ≤ k % 6 then (if 5 ≤ k % 6 then 0 else shB f d k (45 + k + 1)) else shB f d k (45 + k)) : upn (shB f d k) (45 + k) v = shB f d (k + 1) := by
  subst hv
  funext j
  by_cases q : j = 45 + k
  · subst q; rw [upn_eq rfl]; unfold shB
    have e : 45 + k - 45 = k := by omega
    rw [e]
    by_cases q2 : d ≤ k % 6
    · rw [if_pos q2, if_pos (show 45 ≤ 45 + k ∧ 45 + k < 45 + (k + 1) ∧ d ≤ k % 6 from ⟨by omega, by omega, q2⟩)]
      rw [if_neg (show ¬ (45 ≤ 45 + k + 1 ∧ 45 + k + 1 < 45 + k ∧ d ≤ (45 + k + 1 - 45) % 6) by omega)]
    · rw [if_neg q2, if_neg (show ¬ (45 ≤ 45 + k ∧ 45 + k < 45 + k ∧ d ≤ k % 6) by omega), if_neg (show ¬ (45 ≤ 45 + k ∧ 45 + k < 45 + (k + 1) ∧ d ≤ k % 6) by omega)]
  · rw [upn_ne q]; unfold shB
    by_cases q2 : 45 ≤ j ∧ j < 45 + k ∧ d ≤ (j - 45) % 6
    · rw [if_pos q2, if_pos (show 45 ≤ j ∧ j < 45 + (k + 1) ∧ d ≤ (j - 45) % 6 from ⟨q2.1, by omega, q2.2.2⟩)]
    · rw [if_neg q2, if_neg (show ¬ (45 ≤ j ∧ j < 45 + (k + 1) ∧ d ≤ (j - 45) % 6) by omega)]
theorem rm_cutE {f : Nat → Int} {σ : SG} (W : WB σ) (C : RM f σ) {d : Nat} (hd : d < sE σ) : RM (upn (shB (shA f d 18) d 18) 1 ((sE σ : Int) - 1)) (cutE σ d) := by
  obtain ⟨c1, c2, c3, c4, c5, c6⟩ := C
  have w2 := W.2.1
  have w3 := W.2.2.1
  have oB : ∀ {g : Nat → Int} {j : Nat}, j < 45 → shB g d 18 j = g j := fun h1 => if_neg (by omega)
  have iA : ∀ {j : Nat}, (3 + 3 * d ≤ j ∧ j < 18) → shA f d 18 j = f (j + 3) := fun h1 => if_pos h1
  have oA : ∀ {j : Nat}, ¬ (3 + 3 * d ≤ j ∧ j < 18) → shA f d 18 j = f j := fun h1 => if_neg h1
  refine ⟨?_, ?_, ?_, fun e he => ?_, fun k hk => ?_, fun c e hc he => ?_⟩
  · rw [upn_ne (by omega), oB (by omega), oA (by omega)]; exact c1
  · rw [upn_eq rfl]; show _ = ((sE σ - 1 : Nat) : Int); omega
  · rw [upn_ne (by omega), oB (by omega), oA (by omega)]; exact c3
  · have he : e < sE σ - 1 := he
    rw [upn_ne (by omega), upn_ne (by omega), upn_ne (by omega), oB (by omega), oB (by omega), oB (by omega)]
    by_cases q : e < d
    · obtain ⟨d1, d2, d3⟩ := c4 e (by omega)
      rw [oA (by omega), oA (by omega), oA (by omega), d1, d2, d3]
      simp [cutE, sfr, sto, sew, q]
    · obtain ⟨d1, d2, d3⟩ := c4 (e + 1) (by omega)
      rw [iA (by omega), iA (by omega), iA (by omega), show 3 + 3 * e + 3 = 3 + 3 * (e + 1) by omega, show 3 + 3 * e + 1 + 3 = 3 + 3 * (e + 1) + 1 by omega, show 3 + 3 * e + 2 + 3 = 3 + 3 * (e + 1) + 2 by omega, d1, d2, d3]
      simp [cutE, sfr, sto, sew, q]
  · have hk : k < sF σ := hk
    obtain ⟨d1, d2, d3⟩ := c5 k hk
    have w4 := W.2.2.2 k hk
    refine ⟨?_, ?_, fun j hj => ?_⟩
    · rw [upn_ne (by omega), oB (by omega), oA (by omega)]; exact d1
    · rw [upn_ne (by omega), oB (by omega), oA (by omega)]; exact d2
    · have hj : j < swl σ k := hj
      rw [upn_ne (by omega), oB (by omega), oA (by omega)]; exact d3 j hj
  · have he : e < sE σ - 1 := he
    rw [upn_ne (by omega)]
    have e1 : (45 + 6 * c + e - 45) % 6 = e := by omega
    by_cases q : e < d
    · rw [show shB (shA f d 18) d 18 (45 + 6 * c + e) = shA f d 18 (45 + 6 * c + e) from if_neg (by omega), oA (by omega), c6 c e hc (by omega)]
      simp [cutE, sch, q]
    · rw [show shB (shA f d 18) d 18 (45 + 6 * c + e) = shA f d 18 (45 + 6 * c + e + 1) by unfold shB; rw [if_pos (by omega), if_neg (by omega)], oA (by omega), show 45 + 6 * c + e + 1 = 45 + 6 * c + (e + 1) by omega, c6 c (e + 1) hc (by omega)]
      simp [cutE, sch, q]
/-- the letters above d lowered, the first n of them (four to a face) -/
def lowN (σ : SG) (d n : Nat) : SG := ((sP σ, sE σ, sF σ), sfr σ, sto σ, sew σ, sfw σ, swl σ, (fun a j => if 4 * a + j < n ∧ d < sle σ a j then sle σ a j - 1 else sle σ a j), ssg σ, sch σ)
theorem lowN_0 {f : Nat → Int} {σ : SG} (d : Nat) (C : RM f σ) : RM f (lowN σ d 0) := by
  obtain ⟨c1, c2, c3, c4, c5, c6⟩ := C
  refine ⟨c1, c2, c3, c4, fun k hk => ?_, c6⟩
  obtain ⟨d1, d2, d3⟩ := c5 k hk
  refine ⟨d1, d2, fun j hj => ?_⟩
  have : sle (lowN σ d 0) k j = sle σ k j := by
    show (if 4 * k + j < 0 ∧ d < sle σ k j then sle σ k j - 1 else sle σ k j) = _
    rw [if_neg (by omega)]
  rw [this]; exact d3 j hj
theorem lowN_end {f : Nat → Int} {σ : SG} (W : WB σ) {d n : Nat} (hn : n = 4 * sF σ) (C : RM f (lowN σ d n)) : RM f (lowS σ d (sF σ) 0) := by
  obtain ⟨c1, c2, c3, c4, c5, c6⟩ := C
  refine ⟨c1, c2, c3, c4, fun k hk => ?_, c6⟩
  have hk : k < sF σ := hk
  have w4 := W.2.2.2 k hk
  obtain ⟨d1, d2, d3⟩ := c5 k hk
  refine ⟨d1, d2, fun j hj => ?_⟩
  have hj : j < swl σ k := hj
  have : sle (lowS σ d (sF σ) 0) k j = sle (lowN σ d n) k j := by
    show (if (k < sF σ ∨ (k = sF σ ∧ j < 0)) ∧ d < sle σ k j then sle σ k j - 1 else sle σ k j) = (if 4 * k + j < n ∧ d < sle σ k j then sle σ k j - 1 else sle σ k j)
    by_cases q : d < sle σ k j
    · rw [if_pos ⟨Or.inl hk, q⟩, if_pos ⟨by omega, q⟩]
    · rw [if_neg (fun x => q x.2), if_neg (fun x => q x.2)]
  rw [this]; exact d3 j hj
theorem lowN_skip {f : Nat → Int} {σ : SG} (W : WB σ) {d n : Nat} (hk : swl σ (n / 4) ≤ n % 4 ∨ ¬ d < sle σ (n / 4) (n % 4)) (C : RM f (lowN σ d n)) : RM f (lowN σ d (n + 1)) := by
  obtain ⟨c1, c2, c3, c4, c5, c6⟩ := C
  refine ⟨c1, c2, c3, c4, fun x hx => ?_, c6⟩
  have hx : x < sF σ := hx
  have w4 := W.2.2.2 x hx
  obtain ⟨d1, d2, d3⟩ := c5 x hx
  refine ⟨d1, d2, fun j hj => ?_⟩
  have hj : j < swl σ x := hj
  have : sle (lowN σ d (n + 1)) x j = sle (lowN σ d n) x j := by
    show (if 4 * x + j < n + 1 ∧ d < sle σ x j then sle σ x j - 1 else sle σ x j) = (if 4 * x + j < n ∧ d < sle σ x j then sle σ x j - 1 else sle σ x j)
    by_cases q : 4 * x + j = n
    · have e1 : n / 4 = x := by omega
      have e2 : n % 4 = j := by omega
      rw [e1, e2] at hk
      rw [if_neg (fun z => by omega), if_neg (fun z => by omega)]
    · by_cases q2 : 4 * x + j < n ∧ d < sle σ x j
      · rw [if_pos q2, if_pos ⟨by omega, q2.2⟩]
      · rw [if_neg q2, if_neg (by omega)]
  rw [this]; exact d3 j hj
theorem lcd_down {e : Nat} (b : Bool) (he : 0 < e) : lcd (e - 1) b = lcd e b + (if lcd e b < 0 then 1 else -1) := by
  unfold lcd; cases b <;> simp <;> split <;> omega
theorem lowN_put {f : Nat → Int} {σ : SG} (W : WB σ) {d n p : Nat} (hn : n < 4 * sF σ) (hk : n % 4 < swl σ (n / 4)) (hd : d < sle σ (n / 4) (n % 4)) (hp : p = 21 + 6 * (n / 4) + 2 + n % 4) {v : Int} (hv : v = lcd (sle σ (n / 4) (n % 4) - 1) (ssg σ (n / 4) (n % 4))) (C : RM f (lowN σ d n)) : RM (upn f p v) (lowN σ d (n + 1)) := by
  subst hp
  subst hv
  obtain ⟨c1, c2, c3, c4, c5, c6⟩ := C
  have w2 := W.2.1
  have w3 := W.2.2.1
  refine ⟨?_, ?_, ?_, fun e he => ?_, fun x hx => ?_, fun c e hc he => ?_⟩
  · rw [upn_ne (by omega)]; exact c1
  · rw [upn_ne (by omega)]; exact c2
  · rw [upn_ne (by omega)]; exact c3
  · have he2 : e < sE σ := he
    rw [upn_ne (by omega), upn_ne (by omega), upn_ne (by omega)]; exact c4 e he
  · have hx2 : x < sF σ := hx
    obtain ⟨d1, d2, d3⟩ := c5 x hx
    have w5 := W.2.2.2 x hx2
    refine ⟨?_, ?_, fun j hj => ?_⟩
    · rw [upn_ne (by omega)]; exact d1
    · rw [upn_ne (by omega)]; exact d2
    · have hj2 : j < swl σ x := hj
      have e1 : sle (lowN σ d (n + 1)) x j = (if 4 * x + j < n + 1 ∧ d < sle σ x j then sle σ x j - 1 else sle σ x j) := rfl
      have e2 : sle (lowN σ d n) x j = (if 4 * x + j < n ∧ d < sle σ x j then sle σ x j - 1 else sle σ x j) := rfl
      have e4 : ssg (lowN σ d (n + 1)) x j = ssg σ x j := rfl
      have e5 : ssg (lowN σ d n) x j = ssg σ x j := rfl
      by_cases q : 4 * x + j = n
      · have g1 : n / 4 = x := by omega
        have g2 : n % 4 = j := by omega
        rw [g1, g2] at hd ⊢
        have e6 : sle (lowN σ d (n + 1)) x j = sle σ x j - 1 := by rw [e1]; exact if_pos ⟨by omega, hd⟩
        rw [upn_eq rfl, e6, e4]; rfl
      · have e6 : sle (lowN σ d (n + 1)) x j = sle (lowN σ d n) x j := by
          rw [e1, e2]
          by_cases q2 : 4 * x + j < n ∧ d < sle σ x j
          · rw [if_pos q2, if_pos ⟨by omega, q2.2⟩]
          · rw [if_neg q2, if_neg (by omega)]
        rw [upn_ne (by omega), d3 j hj, e6, e4, e5]
  · have he2 : e < sE σ := he
    rw [upn_ne (by omega)]; exact c6 c e hc he
theorem upn_comm {f : Nat → Int} {i j : Nat} {v w : Int} (hn : i ≠ j) : upn (upn f i v) j w = upn (upn f j w) i v := by
  funext x
  unfold upn
  by_cases q : x = i
  · subst q; rw [if_neg hn, if_pos rfl, if_pos rfl]
  · by_cases q2 : x = j
    · subst q2; rw [if_pos rfl, if_neg q, if_pos rfl]
    · rw [if_neg q2, if_neg q, if_neg q, if_neg q2]
theorem upn_self {f : Nat → Int} {i : Nat} {v : Int} (hv : v = f i) : upn f i v = f := by
  subst hv; funext x; unfold upn
  by_cases q : x = i
  · rw [if_pos q, q]
  · rw [if_neg q]
/-- a letter of edge d stands among the first n (four to a face) -/
def spl (σ : SG) (d n : Nat) : Prop := ∃ f k, 4 * f + k < n ∧ f < sF σ ∧ k < swl σ f ∧ sle σ f k = d
theorem spl_end {σ : SG} (W : WB σ) {d n : Nat} (hn : n = 4 * sF σ) : spl σ d n ↔ sewn σ d := by
  constructor
  · rintro ⟨f, k, -, h2, h3, h4⟩; exact ⟨f, k, h2, h3, h4⟩
  · rintro ⟨f, k, h2, h3, h4⟩
    have := W.2.2.2 f h2
    exact ⟨f, k, by omega, h2, h3, h4⟩
theorem spl_s {σ : SG} {d n : Nat} (h : spl σ d n) : spl σ d (n + 1) := by
  obtain ⟨f, k, h1, h2⟩ := h; exact ⟨f, k, by omega, h2⟩
theorem spl_t {σ : SG} {d n : Nat} (hn : n < 4 * sF σ) (hk : n % 4 < swl σ (n / 4)) (hd : sle σ (n / 4) (n % 4) = d) : spl σ d (n + 1) := ⟨n / 4, n % 4, by omega, by omega, hk, hd⟩
theorem spl_f {σ : SG} (W : WB σ) {d n : Nat} (h : ¬ spl σ d n) (hk : swl σ (n / 4) ≤ n % 4 ∨ sle σ (n / 4) (n % 4) ≠ d) : ¬ spl σ d (n + 1) := by
  rintro ⟨f, k, h1, h2, h3, h4⟩
  by_cases q : 4 * f + k = n
  · have := W.2.2.2 f h2
    have e1 : n / 4 = f := by omega
    have e2 : n % 4 = k := by omega
    rw [e1, e2] at hk
    omega
  · exact h ⟨f, k, by omega, h2, h3, h4⟩
/-- undo's work -/
def UndoM (h h' : HH) (σ' : SG) (as : List SG) : Prop := RM (h' 48) σ' ∧ RPast h' as ∧ (∀ k, k ≠ 47 → k ≠ 48 → h' k = h k) ∧ ∀ j, j ≠ 3 → h' 47 j = h 47 j
theorem undoM_of {h : HH} {σ' : SG} {as : List SG} (P : RPast h (σ' :: as)) : UndoM h (cpB (up h 47 3 as.length) 50 (63 * as.length) 48 0 63) σ' as := by
  obtain ⟨p1, p2, p3⟩ := P
  have p1 : as.length + 1 ≤ 8 := p1
  have e48 : cpB (up h 47 3 as.length) 50 (63 * as.length) 48 0 63 48 = fun j => if 0 ≤ j ∧ j < 0 + 63 then h 50 (63 * as.length + (j - 0)) else h 48 j := by
    unfold cpB; rw [setc_at, up_ne _ _ _ (by decide), up_ne _ _ _ (by decide)]
  have en : ∀ k, k ≠ 48 → cpB (up h 47 3 as.length) 50 (63 * as.length) 48 0 63 k = up h 47 3 as.length k := fun k hk => by unfold cpB; rw [setc_ne _ _ hk]
  refine ⟨?_, ⟨by omega, by rw [en 47 (by decide), up_same], fun k σ'' hk => ?_⟩, fun k k1 k2 => by rw [en k k2, up_ne _ _ _ k1], fun j hj => by rw [en 47 (by decide), up_at]; simp only [if_neg hj]⟩
  · obtain ⟨q1, q2⟩ := p3 0 σ' rfl
    refine RM_congr q2.wb q1 fun j hj => ?_
    rw [e48]
    try simp only []
    rw [if_pos (by omega)]
    rw [show (σ' :: as).length - 1 - 0 = as.length by rw [List.length_cons]; omega, show j - 0 = j by omega]
  · obtain ⟨q1, q2⟩ := p3 (k + 1) σ'' hk
    rw [show (σ' :: as).length - 1 - (k + 1) = as.length - 1 - k by rw [List.length_cons]; omega] at q1
    rw [en 50 (by decide), up_ne _ _ _ (by decide)]
    exact ⟨q1, q2⟩
theorem upn_zs {f : Nat → Int} {k E : Nat} (hz : ∀ c, c < k → f (45 + 6 * c + E) = 0) : ∀ c, c < k + 1 → upn f (45 + 6 * k + E) 0 (45 + 6 * c + E) = 0 := by
  intro c hc
  by_cases q : c = k
  · subst q; rw [upn_eq rfl]
  · rw [upn_ne (by omega)]; exact hz c (by omega)

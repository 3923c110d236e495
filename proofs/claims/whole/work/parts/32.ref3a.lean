/-! THE REFERENCE'S ACTS -/
theorem up_n {h : HH} {k : Nat} {z : Int} {i : Nat} (hz : z = (i : Int)) (v : Int) : up h k z.toNat v = setc h k (upn (h k) i v) := by
  subst hz; exact up_eq h k i v
theorem up_s {h : HH} {k : Nat} {f : Nat → Int} {z : Int} {i : Nat} (hz : z = (i : Int)) (v : Int) : up (setc h k f) k z.toNat v = setc h k (upn f i v) := by
  subst hz; exact up_setc h k i f v
theorem RM_congr {f f' : Nat → Int} {σ : SG} (W : WB σ) (C : RM f σ) (h : ∀ j, j < 63 → f' j = f j) : RM f' σ := by
  obtain ⟨c1, c2, c3, c4, c5, c6⟩ := C
  have w2 := W.2.1
  have w3 := W.2.2.1
  refine ⟨?_, ?_, ?_, fun e he => ?_, fun k hk => ?_, fun c e hc he => ?_⟩
  · rw [h 0 (by decide)]; exact c1
  · rw [h 1 (by decide)]; exact c2
  · rw [h 2 (by decide)]; exact c3
  · rw [h _ (by omega), h _ (by omega), h _ (by omega)]; exact c4 e he
  · have w4 := W.2.2.2 k hk
    obtain ⟨d1, d2, d3⟩ := c5 k hk
    exact ⟨by rw [h _ (by omega)]; exact d1, by rw [h _ (by omega)]; exact d2, fun j hj => by rw [h _ (by omega)]; exact d3 j hj⟩
  · rw [h _ (by omega)]; exact c6 c e hc he
/-- k numbers of cell x from a on, over those of cell y from b on -/
def cpB (h : HH) (x a y b k : Nat) : HH := setc h y (fun j => if b ≤ j ∧ j < b + k then h x (a + (j - b)) else h y j)
theorem cpB_0 (h : HH) (x a y b : Nat) : cpB h x a y b 0 = h := by
  unfold cpB
  have : (fun j => if b ≤ j ∧ j < b + 0 then h x (a + (j - b)) else h y j) = h y := by
    funext j; rw [if_neg (by omega)]
  rw [this, setc_self]
theorem cpB_s (h : HH) (x a y b k : Nat) {z : Int} (hz : z = ((b + k : Nat) : Int)) : up (cpB h x a y b k) y z.toNat (h x (a + k)) = cpB h x a y b (k + 1) := by
  unfold cpB
  rw [up_s hz]
  congr 1
  funext j
  by_cases q : j = b + k
  · subst q
    rw [upn_eq rfl, if_pos (by omega)]
    congr 1; omega
  · rw [upn_ne q]
    by_cases q2 : b ≤ j ∧ j < b + k
    · rw [if_pos q2, if_pos (by omega)]
    · rw [if_neg q2, if_neg (by omega)]
/-- the reference's acts, latest first -/
def RPast (h : HH) (as : List SG) : Prop := as.length ≤ 8 ∧ h 47 3 = as.length ∧ ∀ k σ', as[k]? = some σ' → RM (fun j => h 50 (63 * (as.length - 1 - k) + j)) σ' ∧ WF σ'
def NoteP (h h' : HH) (σ : SG) (as : List SG) : Prop := RPast h' ((σ :: as).take 8) ∧ (∀ k, k ≠ 47 → k ≠ 50 → h' k = h k) ∧ ∀ j, j ≠ 3 → h' 47 j = h 47 j
def ActM (h h' : HH) (σ : SG) (as : List SG) (σ' : SG) : Prop := RM (h' 48) σ' ∧ RPast h' ((σ :: as).take 8) ∧ (∀ k, k ≠ 47 → k ≠ 48 → k ≠ 50 → h' k = h k) ∧ ∀ j, j ≠ 3 → h' 47 j = h 47 j
theorem actM_of {h h1 : HH} {σ : SG} {as : List SG} (N : NoteP h h1 σ as) {f' : Nat → Int} {σ' : SG} (R : RM f' σ') : ActM h (setc h1 48 f') σ as σ' := by
  obtain ⟨⟨n1, n2, n3⟩, n4, n5⟩ := N
  refine ⟨by rw [setc_at]; exact R, ⟨n1, by rw [setc_ne _ _ (by decide)]; exact n2, fun k σ' hk => by rw [setc_ne _ _ (by decide)]; exact n3 k σ' hk⟩, fun k k1 k2 k3 => by rw [setc_ne _ _ k2]; exact n4 k k1 k3, fun j hj => by rw [setc_ne _ _ (by decide)]; exact n5 j hj⟩
theorem noteN {h : HH} {σ : SG} {as : List SG} (W : WF σ) (R : RM (h 48) σ) (P : RPast h as) (hn : as.length < 8) : NoteP h (up (cpB h 48 0 50 (63 * as.length) 63) 47 3 ((as.length : Int) + 1)) σ as := by
  obtain ⟨p1, p2, p3⟩ := P
  have e : (σ :: as).take 8 = σ :: as := List.take_of_length_le (by rw [List.length_cons]; omega)
  unfold NoteP
  rw [e]
  refine ⟨⟨by rw [List.length_cons]; omega, by rw [up_same, List.length_cons]; omega, fun k σ' hk => ?_⟩, fun k k1 k2 => ?_, fun j hj => ?_⟩
  · rw [List.length_cons]
    match k, hk with
    | 0, hk =>
      cases hk
      refine ⟨RM_congr W.wb R fun j hj => ?_, W⟩
      rw [up_ne _ _ _ (by decide)]
      unfold cpB
      rw [setc_at]
      rw [if_pos (by omega)]
      congr 1; omega
    | k + 1, hk =>
      have hk : as[k]? = some σ' := hk
      have hl := (List.getElem?_eq_some_iff.mp hk).1
      obtain ⟨q1, q2⟩ := p3 k σ' hk
      refine ⟨RM_congr q2.wb q1 fun j hj => ?_, q2⟩
      rw [up_ne _ _ _ (by decide)]
      unfold cpB
      rw [setc_at]
      rw [if_neg (by omega), show as.length + 1 - 1 - (k + 1) = as.length - 1 - k by omega]
  · rw [up_ne _ _ _ k1]; unfold cpB; rw [setc_ne _ _ k2]
  · rw [up_at]; simp only [if_neg hj]; unfold cpB; rw [setc_ne _ _ (by decide)]
def shP (f : Nat → Int) (k : Nat) : Nat → Int := fun j => if j < k then f (j + 63) else f j
theorem shP_s (f : Nat → Int) (k : Nat) : upn (shP f k) k (shP f k (k + 63)) = shP f (k + 1) := by
  funext j
  by_cases q : j = k
  · subst q; rw [upn_eq rfl]; unfold shP; rw [if_neg (by omega), if_pos (by omega)]
  · rw [upn_ne q]; unfold shP
    by_cases q2 : j < k
    · rw [if_pos q2, if_pos (by omega)]
    · rw [if_neg q2, if_neg (by omega)]
theorem note8 {h : HH} {σ : SG} {as : List SG} (W : WF σ) (R : RM (h 48) σ) (P : RPast h as) (hn : as.length = 8) : NoteP h (up (cpB (up (setc h 50 (shP (h 50) 441)) 47 3 7) 48 0 50 441 63) 47 3 8) σ as := by
  obtain ⟨p1, p2, p3⟩ := P
  have el : ((σ :: as).take 8).length = 8 := by rw [List.length_take, List.length_cons]; omega
  have e50 : up (cpB (up (setc h 50 (shP (h 50) 441)) 47 3 7) 48 0 50 441 63) 47 3 8 50 = fun j => if 441 ≤ j ∧ j < 441 + 63 then h 48 (0 + (j - 441)) else shP (h 50) 441 j := by
    rw [up_ne _ _ _ (by decide)]
    unfold cpB
    rw [setc_at, up_ne _ _ _ (by decide), setc_ne _ _ (by decide), up_ne _ _ _ (by decide), setc_at]
  refine ⟨⟨by omega, by rw [el, up_same]; rfl, fun k σ' hk => ?_⟩, fun k k1 k2 => ?_, fun j hj => ?_⟩
  · rw [el, e50]
    rw [List.getElem?_take] at hk
    split at hk
    · rename_i hk8
      match k, hk with
      | 0, hk =>
        cases hk
        refine ⟨RM_congr W.wb R fun j hj => ?_, W⟩
        try simp only []
        rw [if_pos (by omega), show 0 + (63 * (8 - 1 - 0) + j - 441) = j by omega]
      | k + 1, hk =>
        have hk : as[k]? = some σ' := hk
        obtain ⟨q1, q2⟩ := p3 k σ' hk
        refine ⟨RM_congr q2.wb q1 fun j hj => ?_, q2⟩
        try simp only []
        rw [if_neg (by omega)]
        unfold shP
        try simp only []
        rw [if_pos (by omega), show 63 * (8 - 1 - (k + 1)) + j + 63 = 63 * (as.length - 1 - k) + j by omega]
    · cases hk
  · rw [up_ne _ _ _ k1]; unfold cpB; rw [setc_ne _ _ k2, up_ne _ _ _ k1, setc_ne _ _ k2]
  · rw [up_at]; simp only [if_neg hj]; unfold cpB; rw [setc_ne _ _ (by decide), up_at]; simp only [if_neg hj]; rw [setc_ne _ _ (by decide)]
theorem rm_setWE {f : Nat → Int} {σ : SG} (W : WB σ) (C : RM f σ) {c w : Nat} (hc : c < sE σ) : RM (upn f (3 + 3 * c + 2) w) (setWE σ c w) := by
  obtain ⟨c1, c2, c3, c4, c5, c6⟩ := C
  have w2 := W.2.1
  have w3 := W.2.2.1
  refine ⟨by rw [upn_ne (by omega)]; exact c1, by rw [upn_ne (by omega)]; exact c2, by rw [upn_ne (by omega)]; exact c3, fun e he => ?_, fun k hk => ?_, fun c' e hc' he => ?_⟩
  · have he : e < sE σ := he
    obtain ⟨d1, d2, d3⟩ := c4 e he
    refine ⟨by rw [upn_ne (by omega)]; exact d1, by rw [upn_ne (by omega)]; exact d2, ?_⟩
    by_cases q : e = c
    · subst q; rw [upn_eq rfl]; simp [setWE, sew]
    · rw [upn_ne (by omega), d3]; simp [setWE, sew, q]
  · have hk : k < sF σ := hk
    have w4 := W.2.2.2 k hk
    obtain ⟨d1, d2, d3⟩ := c5 k hk
    exact ⟨by rw [upn_ne (by omega)]; exact d1, by rw [upn_ne (by omega)]; exact d2, fun j hj => by have hj : j < swl σ k := hj; rw [upn_ne (by omega)]; exact d3 j hj⟩
  · have he : e < sE σ := he
    rw [upn_ne (by omega)]; exact c6 c' e hc' he
theorem rm_setWF {f : Nat → Int} {σ : SG} (W : WB σ) (C : RM f σ) {c w : Nat} (hc : c < sF σ) : RM (upn f (21 + 6 * c) w) (setWF σ c w) := by
  obtain ⟨c1, c2, c3, c4, c5, c6⟩ := C
  have w2 := W.2.1
  have w3 := W.2.2.1
  refine ⟨by rw [upn_ne (by omega)]; exact c1, by rw [upn_ne (by omega)]; exact c2, by rw [upn_ne (by omega)]; exact c3, fun e he => ?_, fun k hk => ?_, fun c' e hc' he => ?_⟩
  · have he : e < sE σ := he
    obtain ⟨d1, d2, d3⟩ := c4 e he
    exact ⟨by rw [upn_ne (by omega)]; exact d1, by rw [upn_ne (by omega)]; exact d2, by rw [upn_ne (by omega)]; exact d3⟩
  · have hk : k < sF σ := hk
    have w4 := W.2.2.2 k hk
    obtain ⟨d1, d2, d3⟩ := c5 k hk
    refine ⟨?_, by rw [upn_ne (by omega)]; exact d2, fun j hj => by have hj : j < swl σ k := hj; rw [upn_ne (by omega)]; exact d3 j hj⟩
    by_cases q : k = c
    · subst q; rw [upn_eq rfl]; simp [setWF, sfw]
    · rw [upn_ne (by omega), d1]; simp [setWF, sfw, q]
  · have he : e < sE σ := he
    rw [upn_ne (by omega)]; exact c6 c' e hc' he
theorem rm_setCh {f : Nat → Int} {σ : SG} (W : WB σ) (C : RM f σ) {c e : Nat} (v : Int) (hc : c < 3) (he : e < sE σ) : RM (upn f (45 + 6 * c + e) v) (setCh σ c e v) := by
  obtain ⟨c1, c2, c3, c4, c5, c6⟩ := C
  have w2 := W.2.1
  have w3 := W.2.2.1
  refine ⟨by rw [upn_ne (by omega)]; exact c1, by rw [upn_ne (by omega)]; exact c2, by rw [upn_ne (by omega)]; exact c3, fun e' he' => ?_, fun k hk => ?_, fun c' e' hc' he' => ?_⟩
  · have he' : e' < sE σ := he'
    obtain ⟨d1, d2, d3⟩ := c4 e' he'
    exact ⟨by rw [upn_ne (by omega)]; exact d1, by rw [upn_ne (by omega)]; exact d2, by rw [upn_ne (by omega)]; exact d3⟩
  · have hk : k < sF σ := hk
    have w4 := W.2.2.2 k hk
    obtain ⟨d1, d2, d3⟩ := c5 k hk
    exact ⟨by rw [upn_ne (by omega)]; exact d1, by rw [upn_ne (by omega)]; exact d2, fun j hj => by have hj : j < swl σ k := hj; rw [upn_ne (by omega)]; exact d3 j hj⟩
  · have he' : e' < sE σ := he'
    by_cases q : c' = c ∧ e' = e
    · obtain ⟨rfl, rfl⟩ := q; rw [upn_eq rfl]; simp [setCh, sch]
    · rw [upn_ne (by omega), c6 c' e' hc' he']; simp [setCh, sch, q]
theorem mchS_0 {f : Nat → Int} {σ : SG} (c : Nat) (v : Nat → Int) (C : RM f σ) : RM f (chS σ c 0 v) := by
  obtain ⟨c1, c2, c3, c4, c5, c6⟩ := C
  refine ⟨c1, c2, c3, c4, c5, fun c' e hc he => ?_⟩
  show _ = if c' = c ∧ e < 0 then v e else sch σ c' e
  rw [if_neg (by omega)]; exact c6 c' e hc he
theorem mchS_s {f : Nat → Int} {σ : SG} (W : WB σ) {c k : Nat} {v : Nat → Int} (hc : c < 3) (hk : k < sE σ) (C : RM f (chS σ c k v)) {z : Int} (hz : z = v k) : RM (upn f (45 + 6 * c + k) z) (chS σ c (k + 1) v) := by
  have := rm_setCh (σ := chS σ c k v) W C z hc hk
  obtain ⟨c1, c2, c3, c4, c5, c6⟩ := this
  refine ⟨c1, c2, c3, c4, c5, fun c' e hc' he => ?_⟩
  rw [c6 c' e hc' he]
  show (if c' = c ∧ e = k then z else if c' = c ∧ e < k then v e else sch σ c' e) = if c' = c ∧ e < k + 1 then v e else sch σ c' e
  by_cases q : c' = c ∧ e = k
  · rw [if_pos q, if_pos (by omega), hz, q.2]
  · rw [if_neg q]
    by_cases q2 : c' = c ∧ e < k
    · rw [if_pos q2, if_pos (by omega)]
    · rw [if_neg q2, if_neg (by omega)]
theorem rm_addE {f : Nat → Int} {σ : SG} (W : WB σ) (C : RM f σ) (hE : sE σ < 6) (a b w : Nat) (hz : ∀ c, c < 3 → f (45 + 6 * c + sE σ) = 0) : RM (upn (upn (upn (upn f (3 + 3 * sE σ) a) (3 + 3 * sE σ + 1) b) (3 + 3 * sE σ + 2) w) 1 (sE σ + 1)) (addE σ a b w) := by
  obtain ⟨c1, c2, c3, c4, c5, c6⟩ := C
  have w3 := W.2.2.1
  refine ⟨?_, ?_, ?_, fun e he => ?_, fun k hk => ?_, fun c e hc he => ?_⟩
  · simp (disch := omega) only [upn_ne, upn_eq]; exact c1
  · simp (disch := omega) only [upn_ne, upn_eq]; rfl
  · simp (disch := omega) only [upn_ne, upn_eq]; exact c3
  · have he : e < sE σ + 1 := he
    by_cases q : e = sE σ
    · subst q
      refine ⟨?_, ?_, ?_⟩ <;> simp (disch := omega) only [upn_ne, upn_eq] <;> simp [addE, sfr, sto, sew]
    · obtain ⟨d1, d2, d3⟩ := c4 e (by omega)
      refine ⟨?_, ?_, ?_⟩ <;> simp (disch := omega) only [upn_ne, upn_eq]
      · rw [d1]; simp [addE, sfr, q]
      · rw [d2]; simp [addE, sto, q]
      · rw [d3]; simp [addE, sew, q]
  · have hk : k < sF σ := hk
    obtain ⟨d1, d2, d3⟩ := c5 k hk
    have w4 := W.2.2.2 k hk
    refine ⟨?_, ?_, fun j hj => ?_⟩
    · simp (disch := omega) only [upn_ne, upn_eq]; exact d1
    · simp (disch := omega) only [upn_ne, upn_eq]; exact d2
    · have hj : j < swl σ k := hj
      simp (disch := omega) only [upn_ne, upn_eq]; exact d3 j hj
  · have he : e < sE σ + 1 := he
    simp (disch := omega) only [upn_ne, upn_eq]
    by_cases q : e = sE σ
    · subst q; rw [hz c hc]; simp [addE, sch]
    · rw [c6 c e hc (by omega)]; simp [addE, sch, q]
def shD (f : Nat → Int) (d k : Nat) : Nat → Int := fun j => if 21 + 6 * d ≤ j ∧ j < k then f (j + 6) else f j
theorem shD_s (f : Nat → Int) {d k : Nat} (h : 21 + 6 * d ≤ k) : upn (shD f d k) k (shD f d k (k + 6)) = shD f d (k + 1) := by
  funext j
  by_cases q : j = k
  · subst q; rw [upn_eq rfl]; unfold shD; rw [if_neg (by omega), if_pos (by omega)]
  · rw [upn_ne q]; unfold shD
    by_cases q2 : 21 + 6 * d ≤ j ∧ j < k
    · rw [if_pos q2, if_pos (by omega)]
    · rw [if_neg q2, if_neg (by omega)]
theorem rm_dropF {f : Nat → Int} {σ : SG} (W : WB σ) (C : RM f σ) {d : Nat} (hd : d < sF σ) : RM (upn (shD f d 39) 2 ((sF σ : Int) - 1)) (dropF σ d) := by
  obtain ⟨c1, c2, c3, c4, c5, c6⟩ := C
  have w2 := W.2.1
  have w3 := W.2.2.1
  have out : ∀ {j : Nat}, ¬ (21 + 6 * d ≤ j ∧ j < 39) → shD f d 39 j = f j := fun h1 => if_neg h1
  have inn : ∀ {j : Nat}, (21 + 6 * d ≤ j ∧ j < 39) → shD f d 39 j = f (j + 6) := fun h1 => if_pos h1
  refine ⟨?_, ?_, ?_, fun e he => ?_, fun k hk => ?_, fun c e hc he => ?_⟩
  · rw [upn_ne (by omega), out (by omega)]; exact c1
  · rw [upn_ne (by omega), out (by omega)]; exact c2
  · rw [upn_eq rfl]; show _ = ((sF σ - 1 : Nat) : Int); omega
  · have he : e < sE σ := he
    rw [upn_ne (by omega), upn_ne (by omega), upn_ne (by omega), out (by omega), out (by omega), out (by omega)]
    exact c4 e he
  · have hk : k < sF σ - 1 := hk
    by_cases q : k < d
    · obtain ⟨d1, d2, d3⟩ := c5 k (by omega)
      have w4 := W.2.2.2 k (by omega)
      have e1 : ∀ j, sle (dropF σ d) k j = sle σ k j := fun j => by simp [dropF, sle, q]
      have e2 : ∀ j, ssg (dropF σ d) k j = ssg σ k j := fun j => by simp [dropF, ssg, q]
      refine ⟨?_, ?_, fun j hj => ?_⟩
      · rw [upn_ne (by omega), out (by omega), d1]; simp [dropF, sfw, q]
      · rw [upn_ne (by omega), out (by omega), d2]; simp [dropF, swl, q]
      · have hj : j < swl σ k := by simpa [dropF, swl, q] using hj
        rw [upn_ne (by omega), out (by omega), d3 j hj, e1 j, e2 j]
    · obtain ⟨d1, d2, d3⟩ := c5 (k + 1) (by omega)
      have w4 := W.2.2.2 (k + 1) (by omega)
      have e1 : ∀ j, sle (dropF σ d) k j = sle σ (k + 1) j := fun j => by simp [dropF, sle, q]
      have e2 : ∀ j, ssg (dropF σ d) k j = ssg σ (k + 1) j := fun j => by simp [dropF, ssg, q]
      refine ⟨?_, ?_, fun j hj => ?_⟩
      · rw [upn_ne (by omega), inn (by omega), show 21 + 6 * k + 6 = 21 + 6 * (k + 1) by omega, d1]; simp [dropF, sfw, q]
      · rw [upn_ne (by omega), inn (by omega), show 21 + 6 * k + 1 + 6 = 21 + 6 * (k + 1) + 1 by omega, d2]; simp [dropF, swl, q]
      · have hj : j < swl σ (k + 1) := by simpa [dropF, swl, q] using hj
        rw [upn_ne (by omega), inn (by omega), show 21 + 6 * k + 2 + j + 6 = 21 + 6 * (k + 1) + 2 + j by omega, d3 j hj, e1 j, e2 j]
  · have he : e < sE σ := he
    rw [upn_ne (by omega), out (by omega)]
    exact c6 c e hc he

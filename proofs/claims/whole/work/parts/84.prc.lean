/-! THE TWO SPANS: column sums, what fits 64 bits, how many rays in all, how long parts are. -/
def GMF (σ : SG) (c : Nat) : Nat → Nat → Int := GM (sE σ) (msr σ) (sF σ) (ryF σ) (sch σ c)
def GMD (σ : SG) (c : Nat) : Nat → Nat → Int := GM (sE σ) (msr σ) (sP σ) (ryD σ) (sch σ c)
theorem sI_const (n : Nat) (c : Int) : sI n (fun _ => c) = (n : Int) * c := by
  induction n with
  | zero => rw [sI_0]; exact (Int.zero_mul c).symm
  | succ n ih => rw [sI_s, ih, show ((n + 1 : Nat) : Int) = (n : Int) + 1 from rfl, Int.add_mul, Int.one_mul]
theorem colF {σ : SG} (W : WF σ) (y : Nat → Int) (B : Nat) (hB : ∀ e, e < sE σ → (y e * msr σ e).natAbs ≤ B) : sI (sF σ) (fun i => ((ipw (sE σ) (msr σ) (ryF σ i) y).natAbs : Int)) ≤ ((16 * B : Nat) : Int) := by
  have w3 := W.2.2.1
  have h1 : ∀ i, i < sF σ → ((ipw (sE σ) (msr σ) (ryF σ i) y).natAbs : Int) ≤ ((4 * B : Nat) : Int) := by
    intro i hi
    have a1 := sI_abs (sE σ) (fun e => ryF σ i e * y e * msr σ e)
    have a2 : sI (sE σ) (fun e => ((ryF σ i e * y e * msr σ e).natAbs : Int)) ≤ sI (sE σ) (fun e => ((ent2 σ e i).natAbs : Int) * (B : Int)) := by
      refine sI_mono fun e he => ?_
      rw [show ryF σ i e * y e * msr σ e = ent2 σ e i * (y e * msr σ e) by unfold ryF; grind, Int.natAbs_mul]
      have := Nat.mul_le_mul_left (ent2 σ e i).natAbs (hB e he)
      have e3 : (((ent2 σ e i).natAbs * B : Nat) : Int) = ((ent2 σ e i).natAbs : Int) * (B : Int) := Int.natCast_mul _ _
      omega
    rw [sI_mulr] at a2
    have a3 : sI (sE σ) (fun e => ((ent2 σ e i).natAbs : Int)) * (B : Int) ≤ 4 * (B : Int) := Int.mul_le_mul_of_nonneg_right (ent2_L1 W hi (sE σ)) (Int.natCast_nonneg _)
    unfold ipw
    omega
  have h2 := sI_mono h1
  rw [sI_const] at h2
  have h3 : (sF σ : Int) * ((4 * B : Nat) : Int) ≤ 4 * ((4 * B : Nat) : Int) := Int.mul_le_mul_of_nonneg_right (by omega) (Int.natCast_nonneg _)
  omega
theorem colD {σ : SG} (W : WF σ) (y : Nat → Int) (B : Nat) (hB : ∀ e, e < sE σ → (y e).natAbs ≤ B) : sI (sP σ) (fun i => ((ipw (sE σ) (msr σ) (ryD σ i) y).natAbs : Int)) ≤ ((72 * B : Nat) : Int) := by
  have w2 := W.2.1
  have h1 : ∀ i, i < sP σ → ((ipw (sE σ) (msr σ) (ryD σ i) y).natAbs : Int) ≤ sI (sE σ) (fun e => ((ent1 σ i e).natAbs : Int) * ((6 * B : Nat) : Int)) := by
    intro i hi
    have a1 := sI_abs (sE σ) (fun e => ryD σ i e * y e * msr σ e)
    have a2 : sI (sE σ) (fun e => ((ryD σ i e * y e * msr σ e).natAbs : Int)) ≤ sI (sE σ) (fun e => ((ent1 σ i e).natAbs : Int) * ((6 * B : Nat) : Int)) := by
      refine sI_mono fun e he => ?_
      have m := (msr_r W he).2.2
      rw [show ryD σ i e * y e * msr σ e = ent1 σ i e * (6 * y e) by unfold ryD; rw [← m]; grind, Int.natAbs_mul, Int.natAbs_mul]
      have := Nat.mul_le_mul_left (ent1 σ i e).natAbs (Nat.mul_le_mul_left (6 : Int).natAbs (hB e he))
      have e3 : (((ent1 σ i e).natAbs * ((6 : Int).natAbs * B) : Nat) : Int) = ((ent1 σ i e).natAbs : Int) * ((6 * B : Nat) : Int) := Int.natCast_mul _ _
      omega
    unfold ipw
    omega
  have h2 := sI_mono h1
  rw [sI_comm] at h2
  have h3 : sI (sE σ) (fun e => sI (sP σ) (fun i => ((ent1 σ i e).natAbs : Int) * ((6 * B : Nat) : Int))) ≤ sI (sE σ) (fun _ => 2 * ((6 * B : Nat) : Int)) := by
    refine sI_mono fun e _ => ?_
    rw [sI_mulr]
    exact Int.mul_le_mul_of_nonneg_right (ent1_L1 (sP σ) e) (Int.natCast_nonneg _)
  rw [sI_const] at h3
  have h4 : (sE σ : Int) * (2 * ((6 * B : Nat) : Int)) ≤ 6 * (2 * ((6 * B : Nat) : Int)) := Int.mul_le_mul_of_nonneg_right (by omega) (by omega)
  omega
theorem colF1 {σ : SG} (W : WF σ) (c : Nat) {j : Nat} (hj : j < sF σ) : sI (sF σ) (fun i => ((GMF σ c i j).natAbs : Int)) ≤ ((384 : Nat) : Int) := by
  have := colF W (ryF σ j) 24 (fun e he => by
    have m := msr_r W he
    have a := ent2_r W hj (i := e)
    rw [Int.natAbs_mul]
    exact Nat.le_trans (Nat.mul_le_mul (show (ryF σ j e).natAbs ≤ 4 by unfold ryF; omega) (show _ ≤ 6 by omega)) (by decide))
  unfold GMF GM
  simp only [if_pos hj]
  exact this
theorem colF2 {σ : SG} (W : WF σ) {c : Nat} (hc : c < 3) : sI (sF σ) (fun i => ((GMF σ c i (sF σ)).natAbs : Int)) ≤ ((864 : Nat) : Int) := by
  have := colF W (sch σ c) 54 (fun e he => by
    have m := msr_r W he
    have a := W.2.2.2.2.2 c e hc he
    rw [Int.natAbs_mul]
    exact Nat.le_trans (Nat.mul_le_mul (show _ ≤ 9 by omega) (show _ ≤ 6 by omega)) (by decide))
  unfold GMF GM
  simp only [if_neg (Nat.lt_irrefl (sF σ))]
  exact this
theorem ryD_r {σ : SG} (W : WF σ) {e : Nat} (he : e < sE σ) (p : Nat) : (ryD σ p e).natAbs ≤ 3 := by
  have w := W.2.2.2.1 e he
  have a := ent1_r σ p e
  unfold ryD
  rw [Int.natAbs_mul]
  exact Nat.le_trans (Nat.mul_le_mul (show _ ≤ 1 by omega) (show _ ≤ 3 by omega)) (by decide)
theorem colD1 {σ : SG} (W : WF σ) (c : Nat) {j : Nat} (hj : j < sP σ) : sI (sP σ) (fun i => ((GMD σ c i j).natAbs : Int)) ≤ ((216 : Nat) : Int) := by
  have := colD W (ryD σ j) 3 (fun e he => ryD_r W he j)
  unfold GMD GM
  simp only [if_pos hj]
  exact this
theorem colD2 {σ : SG} (W : WF σ) {c : Nat} (hc : c < 3) : sI (sP σ) (fun i => ((GMD σ c i (sP σ)).natAbs : Int)) ≤ ((648 : Nat) : Int) := by
  have := colD W (sch σ c) 9 (fun e he => by have a := W.2.2.2.2.2 c e hc he; omega)
  unfold GMD GM
  simp only [if_neg (Nat.lt_irrefl (sP σ))]
  exact this
/-- what a division takes fits 64 bits -/
def HN (n : Nat) (G : Nat → Nat → Int) : Prop := ∀ (S : Nat → Bool) (k r s : Nat), GI n G S k → k < n → r < n → r ≠ k → s ≤ n → XS n S G k k ≠ 0 → (dT n (KS S G) * XS n (addS S k) G r s).natAbs < 2 ^ 63
def HX (n : Nat) (G : Nat → Nat → Int) : Prop := ∀ (S : Nat → Bool) (r : Nat), r < n → (XS n S G r n).natAbs ≤ 2 ^ 50
theorem ds_b1 {n k a : Nat} {S : Nat → Bool} {G : Nat → Nat → Int} (h : ∀ j, j < n → sI n (fun i => ((G i j).natAbs : Int)) ≤ a) (ha : 1 ≤ a) (hk : k < n) (hS : S k = false) : (dT n (KS S G)).natAbs ≤ a ^ (n - 1) := by
  have h1 := dT_bc n _ _ (ks_col (S := S) h)
  have h2 := pdN_one n k a (fun j => if S j = true then a else 1) hk (fun j _ _ => by split <;> omega)
  simp only [hS] at h2
  have h3 : a ^ (n - 1) * (if false = true then a else 1) = a ^ (n - 1) := Nat.mul_one _
  omega
theorem ds_b2 {n k q a : Nat} {S : Nat → Bool} {G : Nat → Nat → Int} (h : ∀ j, j < n → sI n (fun i => ((G i j).natAbs : Int)) ≤ a) (ha : 1 ≤ a) (hk : k < n) (hS : S k = false) (hq : q < n) (hSq : S q = false) (hqk : q ≠ k) : (dT n (KS S G)).natAbs ≤ a ^ (n - 2) := by
  have h1 := dT_bc n _ _ (ks_col (S := S) h)
  have h2 := pdN_two n k q a (fun j => if S j = true then a else 1) hk hq (Ne.symm hqk) (fun j _ _ _ => by split <;> omega)
  simp only [hS, hSq] at h2
  have h3 : a ^ (n - 2) * ((if false = true then a else 1) * (if false = true then a else 1)) = a ^ (n - 2) := Nat.mul_one _
  omega
theorem xs_b1 {n : Nat} {S : Nat → Bool} {G : Nat → Nat → Int} {a b r s : Nat} (h : ∀ j, j < n → sI n (fun i => ((G i j).natAbs : Int)) ≤ a) (ha : 1 ≤ a) (hr : r < n) (hb : sI n (fun i => ((G i s).natAbs : Int)) ≤ b) : (XS n S G r s).natAbs ≤ a ^ (n - 1) * b := by
  have h1 := xs_b (S := S) h hr hb
  have h2 := pdN_one n r a (LB a b S r) hr (fun j _ hj => LB_o ha hj)
  rw [LB_r] at h2
  omega
theorem xs_b2 {n : Nat} {S : Nat → Bool} {G : Nat → Nat → Int} {a b r s q : Nat} (h : ∀ j, j < n → sI n (fun i => ((G i j).natAbs : Int)) ≤ a) (ha : 1 ≤ a) (hr : r < n) (hb : sI n (fun i => ((G i s).natAbs : Int)) ≤ b) (hq : q < n) (hqr : q ≠ r) (hS : S q = false) : (XS n S G r s).natAbs ≤ a ^ (n - 2) * b := by
  have h1 := xs_b (S := S) h hr hb
  have h2 := pdN_two n q r a (LB a b S r) hq hr hqr (fun j _ _ hj => LB_o ha hj)
  rw [LB_r, LB_1 hqr hS, Nat.one_mul] at h2
  omega
theorem mul_63 {x y : Int} {a b : Nat} (hx : x.natAbs ≤ a) (hy : y.natAbs ≤ b) (h : a * b < 2 ^ 63) : (x * y).natAbs < 2 ^ 63 := by
  rw [Int.natAbs_mul]
  exact Nat.lt_of_le_of_lt (Nat.mul_le_mul hx hy) h
theorem colF3 {σ : SG} (W : WF σ) {c : Nat} (hc : c < 3) {s : Nat} (hs : s ≤ sF σ) : sI (sF σ) (fun i => ((GMF σ c i s).natAbs : Int)) ≤ ((864 : Nat) : Int) := by
  rcases (show s < sF σ ∨ s = sF σ by omega) with q | q
  · have := colF1 W c q; omega
  · rw [q]; exact colF2 W hc
theorem colD3 {σ : SG} (W : WF σ) {c : Nat} (hc : c < 3) {s : Nat} (hs : s ≤ sP σ) : sI (sP σ) (fun i => ((GMD σ c i s).natAbs : Int)) ≤ ((648 : Nat) : Int) := by
  rcases (show s < sP σ ∨ s = sP σ by omega) with q | q
  · have := colD1 W c q; omega
  · rw [q]; exact colD2 W hc
theorem hn_F {σ : SG} (W : WF σ) {c : Nat} (hc : c < 3) : HN (sF σ) (GMF σ c) := by
  intro S k r s I hk hr hrk hs h0
  have w3 := W.2.2.1
  have b1 := ds_b1 (S := S) (fun j hj => colF1 W c hj) (by decide) hk (I.1 k (Nat.le_refl k))
  have b2 := xs_b1 (S := addS S k) (fun j hj => colF1 W c hj) (by decide) hr (colF3 W hc hs)
  have p1 : 384 ^ (sF σ - 1) ≤ 384 ^ 3 := Nat.pow_le_pow_right (by decide) (by omega)
  exact mul_63 (Nat.le_trans b1 p1) (Nat.le_trans b2 (Nat.mul_le_mul_right 864 p1)) (by decide)
theorem hx_F {σ : SG} (W : WF σ) {c : Nat} (hc : c < 3) : HX (sF σ) (GMF σ c) := by
  intro S r hr
  have w3 := W.2.2.1
  have b2 := xs_b1 (S := S) (fun j hj => colF1 W c hj) (by decide) hr (colF3 W hc (Nat.le_refl _))
  have p1 : 384 ^ (sF σ - 1) ≤ 384 ^ 3 := Nat.pow_le_pow_right (by decide) (by omega)
  exact Nat.le_trans b2 (Nat.le_trans (Nat.mul_le_mul_right 864 p1) (by decide))
theorem hx_D {σ : SG} (W : WF σ) {c : Nat} (hc : c < 3) : HX (sP σ) (GMD σ c) := by
  intro S r hr
  have w1 := W.1
  have b2 := xs_b1 (S := S) (fun j hj => colD1 W c hj) (by decide) hr (colD3 W hc (Nat.le_refl _))
  have p1 : 216 ^ (sP σ - 1) ≤ 216 ^ 4 := Nat.pow_le_pow_right (by decide) (by omega)
  exact Nat.le_trans b2 (Nat.le_trans (Nat.mul_le_mul_right 648 p1) (by decide))
/-- where all points but one are taken, nothing is left of that one -/
theorem last_D {σ : SG} (W : WF σ) {c r : Nat} {S : Nat → Bool} (hr : r < sP σ) (hall : ∀ j, j < sP σ → j ≠ r → S j = true) : XS (sP σ) S (GMD σ c) r r = 0 := by
  have e1 : ∀ s, s < sP σ → XS (sP σ) S (GMD σ c) r s = ipw (sE σ) (msr σ) (vS (sP σ) S (GMD σ c) (ryD σ) r) (ryD σ s) := by
    intro s hs
    have := vS_ip (E := sE σ) (m := msr σ) (c := sch σ c) (v := ryD σ) (S := S) (n := sP σ) (r := r) (s := s)
    rw [if_pos hs] at this
    exact this.symm
  have e2 : sI (sP σ) (fun s => XS (sP σ) S (GMD σ c) r s) = 0 := by
    rw [sI_congr e1]
    have e3 := ip_suml (sE σ) (sP σ) (msr σ) (fun _ => 1) (vS (sP σ) S (GMD σ c) (ryD σ) r) (ryD σ)
    have e4 : ipw (sE σ) (msr σ) (fun e => sI (sP σ) (fun r => 1 * ryD σ r e)) (vS (sP σ) S (GMD σ c) (ryD σ) r) = 0 := ip_0 fun e he => by
      rw [sI_mul, Int.one_mul]
      unfold ryD
      rw [sI_mulr, ent1_sum W he, Int.zero_mul]
    rw [e4] at e3
    rw [e3]
    exact sI_congr fun s _ => by rw [Int.one_mul, ip_comm]
  rw [sI_dl hr _ (fun s hs hne => by rw [xs_S hr hs (hall s hs hne), if_neg hne])] at e2
  exact e2
theorem hn_D {σ : SG} (W : WF σ) {c : Nat} (hc : c < 3) : HN (sP σ) (GMD σ c) := by
  intro S k r s I hk hr hrk hs h0
  have w1 := W.1
  rcases (show sP σ ≤ 4 ∨ sP σ = 5 by omega) with q5 | q5
  · have b1 := ds_b1 (S := S) (fun j hj => colD1 W c hj) (by decide) hk (I.1 k (Nat.le_refl k))
    have b2 := xs_b1 (S := addS S k) (fun j hj => colD1 W c hj) (by decide) hr (colD3 W hc hs)
    have p1 : 216 ^ (sP σ - 1) ≤ 216 ^ 3 := Nat.pow_le_pow_right (by decide) (by omega)
    exact mul_63 (Nat.le_trans b1 p1) (Nat.le_trans b2 (Nat.mul_le_mul_right 648 p1)) (by decide)
  · -- some other point is not taken
    have ex : ∃ q, q < sP σ ∧ q ≠ k ∧ S q = false := by
      refine Classical.byContradiction fun hn => h0 ?_
      exact last_D W hk fun j hj hne => by
        cases hS : S j
        · exact absurd ⟨j, hj, hne, hS⟩ hn
        · rfl
    obtain ⟨q, q1, q2, q3⟩ := ex
    have b1 := ds_b2 (S := S) (fun j hj => colD1 W c hj) (by decide) hk (I.1 k (Nat.le_refl k)) q1 q3 q2
    have aq : addS S k q = false := by unfold addS; rw [if_neg q2]; exact q3
    have p1 : 216 ^ (sP σ - 2) = 216 ^ 3 := by rw [q5]
    by_cases e : r = q
    · subst e
      by_cases ex2 : ∃ u, u < sP σ ∧ u ≠ r ∧ addS S k u = false
      · obtain ⟨u, u1, u2, u3⟩ := ex2
        have b2 := xs_b2 (S := addS S k) (fun j hj => colD1 W c hj) (by decide) hr (colD3 W hc hs) u1 u2 u3
        rw [p1] at b1 b2
        exact mul_63 b1 b2 (by decide)
      · have z0 := last_D W (c := c) (S := addS S k) hr fun j hj hne => by
          cases hS : addS S k j
          · exact absurd ⟨j, hj, hne, hS⟩ ex2
          · rfl
        have I2 := gi_step (msr_p W) hk I h0
        have z1 := ((gi_z (msr_p W) hr aq I2.2.1).2 z0).2 s
        have z1 : XS (sP σ) (addS S k) (GMD σ c) r s = 0 := z1
        rw [z1, Int.mul_zero]
        decide
    · have b2 := xs_b2 (S := addS S k) (fun j hj => colD1 W c hj) (by decide) hr (colD3 W hc hs) q1 (Ne.symm e) aq
      rw [p1] at b1 b2
      exact mul_63 b1 b2 (by decide)
/-- the places of S -/
theorem enS : ∀ (n : Nat) (S : Nat → Bool), ∃ q : Nat → Nat, (∀ t, t < cnS n S → q t < n ∧ S (q t) = true) ∧ ∀ t t', t < cnS n S → t' < cnS n S → q t = q t' → t = t'
  | 0, _ => ⟨fun _ => 0, fun t ht => absurd ht (Nat.not_lt_zero _), fun t _ ht => absurd ht (Nat.not_lt_zero _)⟩
  | n + 1, S => by
    obtain ⟨q, h1, h2⟩ := enS n (fun j => S (j + 1))
    by_cases q0 : S 0 = true
    · have e : cnS (n + 1) S = cnS n (fun j => S (j + 1)) + 1 := by
        show (if S 0 = true then 1 else 0) + _ = _
        rw [if_pos q0]; omega
      refine ⟨fun t => if t = 0 then 0 else q (t - 1) + 1, fun t ht => ?_, fun t t' ht ht' he => ?_⟩
      · by_cases z : t = 0
        · simp only [if_pos z]; exact ⟨by omega, q0⟩
        · simp only [if_neg z]
          have := h1 (t - 1) (by omega)
          exact ⟨by omega, this.2⟩
      · by_cases z : t = 0
        · by_cases z' : t' = 0
          · omega
          · simp only [if_pos z, if_neg z'] at he; omega
        · by_cases z' : t' = 0
          · simp only [if_neg z, if_pos z'] at he; omega
          · simp only [if_neg z, if_neg z'] at he
            have := h2 (t - 1) (t' - 1) (by omega) (by omega) (by omega)
            omega
    · have e : cnS (n + 1) S = cnS n (fun j => S (j + 1)) := by
        show (if S 0 = true then 1 else 0) + _ = _
        rw [if_neg q0]; omega
      refine ⟨fun t => q t + 1, fun t ht => ?_, fun t t' ht ht' he => h2 t t' (by omega) (by omega) (by simpa using he)⟩
      have := h1 t (by omega)
      exact ⟨by show q t + 1 < n + 1; omega, this.2⟩
theorem dep0 {n E : Nat} {m c : Nat → Int} {v : Nat → Nat → Int} {S : Nat → Bool} (hd : dT n (KS S (GM E m n v c)) ≠ 0) {z : Nat → Int} (hz : ∀ a, a < n → S a = false → z a = 0) (h : ∀ s, s < n → ipw E m (fun e => sI n (fun a => z a * v a e)) (v s) = 0) : ∀ a, a < n → z a = 0 := by
  intro a ha
  have := rcancel (n := n) (K := KS S (GM E m n v c)) (x := z) (fun s hs => by
    rw [← h s hs, ip_suml]
    refine sI_congr fun b hb => ?_
    by_cases q : S b = true
    · rw [show KS S (GM E m n v c) s b = GM E m n v c s b from if_pos q]
      unfold GM
      rw [if_pos hb, ip_comm E m (v s)]; grind
    · rw [hz b hb (by simpa using q), Int.mul_zero, Int.zero_mul]) ha
  rcases Int.mul_eq_zero.mp this with q | q
  · exact absurd q hd
  · exact q
theorem sI_split (a b : Nat) (f : Nat → Int) : sI (a + b) f = sI a f + sI b (fun t => f (a + t)) := by
  induction b with
  | zero => rw [Nat.add_zero, sI_0]; omega
  | succ b ih => rw [← Nat.add_assoc, sI_s, ih, sI_s]; omega
theorem gath {n k : Nat} {q : Nat → Nat} (hq : ∀ t, t < k → q t < n) (x : Nat → Int) (v : Nat → Int) : sI n (fun a => sI k (fun t => x t * (if q t = a then 1 else 0)) * v a) = sI k (fun t => x t * v (q t)) := by
  rw [show sI n (fun a => sI k (fun t => x t * (if q t = a then 1 else 0)) * v a) = sI n (fun a => sI k (fun t => x t * (v a * (if q t = a then 1 else 0)))) from sI_congr fun a _ => by
    rw [← sI_mulr]; exact sI_congr fun t _ => by grind]
  rw [sI_comm]
  exact sI_congr fun t ht => by rw [sI_mul, sI_delta (hq t ht)]
theorem gath1 {k t : Nat} {q : Nat → Nat} (ht : t < k) (hi : ∀ t t', t < k → t' < k → q t = q t' → t = t') (x : Nat → Int) : sI k (fun u => x u * (if q u = q t then 1 else 0)) = x t := by
  rw [sI_dl ht _ (fun u hu hne => by rw [if_neg (fun e => hne (hi u t hu ht e)), Int.mul_zero]), if_pos rfl, Int.mul_one]
theorem rank_sum {σ : SG} (W : WF σ) {c c' : Nat} {S T : Nat → Bool} (hF : dT (sF σ) (KS S (GMF σ c)) ≠ 0) (hD : dT (sP σ) (KS T (GMD σ c')) ≠ 0) : cnS (sF σ) S + cnS (sP σ) T ≤ sE σ := by
  have w2 := W.2.1
  refine Classical.byContradiction fun hn => ?_
  obtain ⟨q, q1, q2⟩ := enS (sF σ) S
  obtain ⟨u, u1, u2⟩ := enS (sP σ) T
  obtain ⟨kF, hkF⟩ : ∃ k, k = cnS (sF σ) S := ⟨_, rfl⟩
  obtain ⟨kP, hkP⟩ : ∃ k, k = cnS (sP σ) T := ⟨_, rfl⟩
  rw [← hkF] at q1 q2 hn
  rw [← hkP] at u1 u2 hn
  obtain ⟨x, ⟨t0, t1, t2⟩, hx⟩ := kr2 pr0 w2 (fun e t => if t < kF then ryF σ (q t) e else ryD σ (u (t - kF)) e) (kF + kP) (fun r r1 r2 => by have := pcR w2 r1; omega)
  obtain ⟨zF, hzF⟩ : ∃ z : Nat → Int, z = fun a => sI kF (fun t => x t * (if q t = a then 1 else 0)) := ⟨_, rfl⟩
  obtain ⟨zD, hzD⟩ : ∃ z : Nat → Int, z = fun a => sI kP (fun t => x (kF + t) * (if u t = a then 1 else 0)) := ⟨_, rfl⟩
  have eF : ∀ e, sI (sF σ) (fun a => zF a * ryF σ a e) = sI kF (fun t => x t * ryF σ (q t) e) := fun e => by
    rw [hzF]; exact gath (fun t ht => (q1 t ht).1) x (fun a => ryF σ a e)
  have eD : ∀ e, sI (sP σ) (fun a => zD a * ryD σ a e) = sI kP (fun t => x (kF + t) * ryD σ (u t) e) := fun e => by
    rw [hzD]; exact gath (fun t ht => (u1 t ht).1) (fun t => x (kF + t)) (fun a => ryD σ a e)
  have tot : ∀ e, e < sE σ → sI (sF σ) (fun a => zF a * ryF σ a e) + sI (sP σ) (fun a => zD a * ryD σ a e) = 0 := by
    intro e he
    have := Int.zero_dvd.mp (hx e he)
    rw [sI_split] at this
    rw [eF, eD, ← this]
    congr 1
    · exact sI_congr fun t ht => by rw [if_pos ht]; exact Int.mul_comm _ _
    · exact sI_congr fun t ht => by rw [if_neg (by omega), Nat.add_sub_cancel_left]; exact Int.mul_comm _ _
  have vF : ∀ a, a < sF σ → zF a = 0 := by
    refine dep0 (E := sE σ) (m := msr σ) (c := sch σ c) (v := ryF σ) (S := S) hF (fun a ha hS => ?_) (fun s hs => ?_)
    · rw [hzF]
      refine sI_zero kF fun t ht => ?_
      rw [if_neg (fun e => by have := (q1 t ht).2; rw [e, hS] at this; cases this), Int.mul_zero]
    · have e1 : ipw (sE σ) (msr σ) (fun e => sI (sF σ) (fun a => zF a * ryF σ a e)) (ryF σ s) = ipw (sE σ) (msr σ) (fun e => sI (sP σ) (fun a => (-zD a) * ryD σ a e)) (ryF σ s) := ip_congr (fun e he => by
        have h1 := tot e he
        have h2 : sI (sP σ) (fun a => (-zD a) * ryD σ a e) = (-1) * sI (sP σ) (fun a => zD a * ryD σ a e) := by rw [← sI_mul]; exact sI_congr fun a _ => by grind
        rw [h2]; omega) (fun e _ => rfl)
      rw [e1, ip_suml]
      exact sI_zero (sP σ) fun a _ => by rw [ip_comm, perp W hs, Int.mul_zero]
  have vD : ∀ a, a < sP σ → zD a = 0 := by
    refine dep0 (E := sE σ) (m := msr σ) (c := sch σ c') (v := ryD σ) (S := T) hD (fun a ha hS => ?_) (fun s hs => ?_)
    · rw [hzD]
      refine sI_zero kP fun t ht => ?_
      rw [if_neg (fun e => by have := (u1 t ht).2; rw [e, hS] at this; cases this), Int.mul_zero]
    · refine ip_0 fun e he => ?_
      have h1 := tot e he
      rw [sI_zero (sF σ) (fun a ha => by rw [vF a ha, Int.zero_mul])] at h1
      omega
  rcases (show t0 < kF ∨ kF ≤ t0 by omega) with e | e
  · have := vF (q t0) (q1 t0 e).1
    rw [hzF] at this
    simp only at this
    rw [gath1 e q2] at this
    exact t2 (by rw [this]; exact Int.dvd_refl 0)
  · have := vD (u (t0 - kF)) (u1 (t0 - kF) (by omega)).1
    rw [hzD] at this
    simp only at this
    rw [gath1 (k := kP) (t := t0 - kF) (by omega) u2 (fun t => x (kF + t)), show kF + (t0 - kF) = t0 by omega] at this
    exact t2 (by rw [this]; exact Int.dvd_refl 0)

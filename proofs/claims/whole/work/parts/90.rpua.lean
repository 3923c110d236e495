/-! THE REFERENCE: ranks of rows, independent sets, what solves lays. -/
def NZr (σ : SG) (a : Nat) : Prop := ∃ c, c < 2 ^ sE σ ∧ pc6 c = pc6 a ∧ mnr (ent1 σ) (pc6 a) a c ≠ 0
def RRw (σ : SG) (a r y c : Nat) : Prop := y ≤ pc6 a ∧ (r = a → (y = pc6 a ↔ ∃ c', c' < c ∧ pc6 c' = pc6 a ∧ mnr (ent1 σ) (pc6 a) a c' ≠ 0)) ∧ (r ≠ a → (y = pc6 a ↔ NZr σ a))
theorem sub_lt0 : ∀ r : Fin 64, ∀ a : Fin 64, r.val &&& a.val = r.val → r.val ≠ a.val → pc6 r.val < pc6 a.val := by decide +kernel
theorem RRw.same {σ : SG} {a r y c : Nat} (h : RRw σ a r y c) (hc : r = a → pc6 c = pc6 a → y = pc6 a ∨ mnr (ent1 σ) (pc6 a) a c = 0) : RRw σ a r y (c + 1) := by
  obtain ⟨h1, h2, h3⟩ := h
  refine ⟨h1, fun e => ?_, h3⟩
  constructor
  · intro q
    obtain ⟨c', a1, a2, a3⟩ := (h2 e).mp q
    exact ⟨c', by omega, a2, a3⟩
  · rintro ⟨c', a1, a2, a3⟩
    rcases (show c' < c ∨ c' = c by omega) with q | q
    · exact (h2 e).mpr ⟨c', q, a2, a3⟩
    · subst q
      rcases hc e a2 with z | z
      · exact z
      · exact absurd z a3
theorem RRw.put {σ : SG} {a r y c : Nat} (ha : a < 64) (h : RRw σ a r y c) (hr : r &&& a = r) (hy : y < pc6 r) (hp : pc6 c = pc6 r) (hm : mnr (ent1 σ) (pc6 r) r c ≠ 0) : RRw σ a r (pc6 r) (c + 1) := by
  obtain ⟨h1, h2, h3⟩ := h
  have sb := and_bit ha hr
  refine ⟨sb.2.1, fun e => ?_, fun e => ?_⟩
  · subst e
    exact ⟨fun _ => ⟨c, by omega, hp, hm⟩, fun _ => rfl⟩
  · have lt := sub_lt0 ⟨r, sb.1⟩ ⟨a, ha⟩ hr e
    have lt : pc6 r < pc6 a := lt
    exact ⟨fun q => by omega, fun q => by have := (h3 e).mpr q; omega⟩
theorem RRw.next {σ : SG} {a r y r' : Nat} (h : RRw σ a r y (2 ^ sE σ)) (hr : r' ≠ a) : RRw σ a r' y 0 := by
  obtain ⟨h1, h2, h3⟩ := h
  refine ⟨h1, fun e => absurd e hr, fun _ => ?_⟩
  by_cases q : r = a
  · exact h2 q
  · exact h3 q
theorem RRw.init {σ : SG} {a : Nat} (ha : 0 < pc6 a) : RRw σ a a 0 0 := ⟨Nat.zero_le _, fun _ => ⟨fun q => by omega, fun ⟨c', h, _⟩ => absurd h (Nat.not_lt_zero _)⟩, fun e => absurd rfl e⟩
theorem b_and20 : ∀ x : Fin 64, ∀ a : Fin 64, iand (x.val : Int) (a.val : Int) = ((x.val &&& a.val : Nat) : Int) ∧ (x.val &&& a.val) &&& a.val = x.val &&& a.val ∧ x.val &&& a.val ≤ x.val := by decide +kernel
theorem b_and2 {x a : Nat} (hx : x < 64) (ha : a < 64) : iand (x : Int) (a : Int) = ((x &&& a : Nat) : Int) ∧ (x &&& a) &&& a = x &&& a ∧ x &&& a ≤ x := b_and20 ⟨x, hx⟩ ⟨a, ha⟩
theorem ior_k0 : ∀ I : Fin 64, ∀ k : Fin 6, I.val < 2 ^ k.val → ior (I.val : Int) ((2 ^ k.val : Nat) : Int) = ((I.val + 2 ^ k.val : Nat) : Int) := by decide +kernel
theorem ior_k {I k : Nat} (hk : k < 6) (h : I < 2 ^ k) : ior (I : Int) ((2 ^ k : Nat) : Int) = ((I + 2 ^ k : Nat) : Int) := by
  have b := b_shl (j := k) (by omega)
  exact ior_k0 ⟨I, by omega⟩ ⟨k, hk⟩ h
theorem and_eq0 : ∀ c : Fin 64, ∀ a : Fin 64, c.val &&& a.val = c.val → pc6 c.val = pc6 a.val → c.val = a.val := by decide +kernel
theorem nzs_ind {A : Nat → Nat → Int} {R a : Nat} (hR : R ≤ 6) (ha : a < 64) (h : nzs A R a (pc6 a)) : indc 0 A R (pc6 a) (nt a) := by
  obtain ⟨r, c, h1, h2, h3, h4, h5⟩ := h
  have sb := and_bit ha h2
  have e : c = a := and_eq0 ⟨c, sb.1⟩ ⟨a, ha⟩ h2 h4
  subst e
  exact kr1 pr0 hR h1 ha h3 rfl (fun q => h5 (Int.zero_dvd.mp q))
theorem nzr_nzs {σ : SG} (W : WF σ) {a : Nat} (ha : a < 2 ^ sP σ) : NZr σ a ↔ nzs (fun e p => ent1 σ p e) (sE σ) a (pc6 a) := by
  have w1 := W.1
  have w2 := W.2.1
  have b1 := b_shl (j := sP σ) (by omega)
  have b2 := b_shl (j := sE σ) (by omega)
  constructor
  · rintro ⟨c, h1, h2, h3⟩
    exact ⟨c, a, h1, by simp, h2, rfl, by rw [mnr_tr (ent1 σ) (by omega) (by omega) rfl h2]; exact h3⟩
  · rintro ⟨r, c, h1, h2, h3, h4, h5⟩
    have sb := and_bit (by omega) h2
    have e : c = a := and_eq0 ⟨c, sb.1⟩ ⟨a, by omega⟩ h2 h4
    subst e
    exact ⟨r, h1, h3, by rw [mnr_tr (ent1 σ) (by omega) (by omega) rfl h3] at h5; exact h5⟩
/-- rows of points, and driven rays, are independent alike -/
theorem ind_w {σ : SG} (W : WF σ) {k I : Nat} (h : IND (sE σ) (sP σ) (fun p e => ent1 σ p e) k I) : IND (sE σ) (sP σ) (ryD σ) k I := by
  obtain ⟨h1, h2, h3⟩ := h
  refine ⟨h1, fun x hx t ht => h2 x (fun e he => ?_) t ht, fun s hs hb => ?_⟩
  · have h0 := Int.zero_dvd.mp (hx e he)
    have w := W.2.2.2.1 e he
    have e1 : sI (pc6 I) (fun t => ryD σ (nt I t) e * x t) = (sew σ e : Int) * sI (pc6 I) (fun t => ent1 σ (nt I t) e * x t) := by
      rw [← sI_mul]
      exact sI_congr fun t _ => by unfold ryD; grind
    rw [e1] at h0
    rcases Int.mul_eq_zero.mp h0 with q | q
    · omega
    · rw [show sI (pc6 I) (fun t => (fun e j => (fun p e => ent1 σ p e) j e) e (nt I t) * x t) = 0 from q]
      exact Int.dvd_refl 0
  · obtain ⟨a, z, a0, hz, he⟩ := h3 s hs hb
    refine ⟨a, z, a0, hz, fun e h => ?_⟩
    have := he e h
    have e2 : sI (sP σ) (fun j => z j * ryD σ j e) = sI (sP σ) (fun j => z j * ent1 σ j e) * (sew σ e : Int) := by
      rw [← sI_mulr]
      exact sI_congr fun j _ => by unfold ryD; grind
    rw [e2, ← this]
    unfold ryD; grind
theorem prd2_r {σ : SG} (W : WF σ) {a b : Nat} (ha : a < sF σ) (hb : b < sF σ) : (ipw (sE σ) (msr σ) (ryF σ a) (ryF σ b)).natAbs ≤ 96 := by
  have a1 := sI_abs (sE σ) (fun e => ryF σ a e * ryF σ b e * msr σ e)
  have a2 : sI (sE σ) (fun e => ((ryF σ a e * ryF σ b e * msr σ e).natAbs : Int)) ≤ sI (sE σ) (fun e => ((ent2 σ e a).natAbs : Int) * 24) := by
    refine sI_mono fun e he => ?_
    have m := msr_r W he
    have q := ent2_r W hb (i := e)
    rw [Int.natAbs_mul, Int.natAbs_mul, Nat.mul_assoc]
    have h1 : (ryF σ b e).natAbs * (msr σ e).natAbs ≤ 4 * 6 := Nat.mul_le_mul (show (ryF σ b e).natAbs ≤ 4 by unfold ryF; omega) (by omega)
    have h2 := Nat.mul_le_mul_left (ent2 σ e a).natAbs h1
    have e3 : (((ent2 σ e a).natAbs * (4 * 6) : Nat) : Int) = ((ent2 σ e a).natAbs : Int) * 24 := Int.natCast_mul _ _
    have e4 : (ryF σ a e).natAbs = (ent2 σ e a).natAbs := rfl
    rw [e4]
    omega
  rw [sI_mulr] at a2
  have a3 := Int.mul_le_mul_of_nonneg_right (ent2_L1 W ha (sE σ)) (show (0 : Int) ≤ 24 by decide)
  unfold ipw
  omega
theorem agn2_r {σ : SG} (W : WF σ) {a c : Nat} (ha : a < sF σ) (hc : c < 3) : (ipw (sE σ) (msr σ) (ryF σ a) (sch σ c)).natAbs ≤ 216 := by
  have a1 := sI_abs (sE σ) (fun e => ryF σ a e * sch σ c e * msr σ e)
  have a2 : sI (sE σ) (fun e => ((ryF σ a e * sch σ c e * msr σ e).natAbs : Int)) ≤ sI (sE σ) (fun e => ((ent2 σ e a).natAbs : Int) * 54) := by
    refine sI_mono fun e he => ?_
    have m := msr_r W he
    have q := W.2.2.2.2.2 c e hc he
    rw [Int.natAbs_mul, Int.natAbs_mul, Nat.mul_assoc]
    have h1 : (sch σ c e).natAbs * (msr σ e).natAbs ≤ 9 * 6 := Nat.mul_le_mul (by omega) (by omega)
    have h2 := Nat.mul_le_mul_left (ent2 σ e a).natAbs h1
    have e3 : (((ent2 σ e a).natAbs * (9 * 6) : Nat) : Int) = ((ent2 σ e a).natAbs : Int) * 54 := Int.natCast_mul _ _
    have e4 : (ryF σ a e).natAbs = (ent2 σ e a).natAbs := rfl
    rw [e4]
    omega
  rw [sI_mulr] at a2
  have a3 := Int.mul_le_mul_of_nonneg_right (ent2_L1 W ha (sE σ)) (show (0 : Int) ≤ 54 by decide)
  unfold ipw
  omega
theorem ipw_s (E : Nat) (m x y : Nat → Int) : ipw (E + 1) m x y = ipw E m x y + x E * y E * m E := rfl
theorem prd_s (σ : SG) (d : Nat) : prd σ 2 d = fun b => ipw (sE σ) (msr σ) (ryF σ d) (ryF σ b) := rfl

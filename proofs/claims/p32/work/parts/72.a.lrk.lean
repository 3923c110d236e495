/-! THE LAW'S RANK: of a table each of whose columns is 0 or has one 1 and one -1. Rows of seven. -/
def UJ (f : Nat → Int) (r R j : Nat) : Prop := (∀ i, r ≤ i → i < R → f (7 * i + j) = 0) ∨ ∃ a b, r ≤ a ∧ a < R ∧ r ≤ b ∧ b < R ∧ a ≠ b ∧ f (7 * a + j) = 1 ∧ f (7 * b + j) = -1 ∧ ∀ i, r ≤ i → i < R → i ≠ a → i ≠ b → f (7 * i + j) = 0
theorem UJ.b {f : Nat → Int} {r R j i : Nat} (h : UJ f r R j) (h1 : r ≤ i) (h2 : i < R) : -1 ≤ f (7 * i + j) ∧ f (7 * i + j) ≤ 1 := by
  rcases h with h | ⟨a, b, a1, a2, b1, b2, ab, fa, fb, fo⟩
  · rw [h i h1 h2]; omega
  · by_cases q1 : i = a
    · rw [q1, fa]; omega
    · by_cases q2 : i = b
      · rw [q2, fb]; omega
      · rw [fo i h1 h2 q1 q2]; omega
/-- as rows of six -/
def c76 (f : Nat → Int) : Nat → Int := fun t => f (7 * (t / 6) + t % 6)
theorem MM76 (f : Nat → Int) {i j : Nat} (hj : j < 6) : MM (c76 f) i j = f (7 * i + j) := by
  show f (7 * ((6 * i + j) / 6) + (6 * i + j) % 6) = _
  rw [show (6 * i + j) / 6 = i by omega, show (6 * i + j) % 6 = j by omega]
theorem KE.cong {p : Int} {R C : Nat} {A : Nat → Nat → Int} {f f1 : Nat → Int} (hC : C ≤ 6) (h : ∀ i j, i < R → j < 6 → MM f1 i j = MM f i j) (K : KE p R C A f) : KE p R C A f1 := fun x => by
  rw [K x]
  refine forall_congr' fun i => forall_congr' fun hi => ?_
  rw [sI_congr (f := fun j => MM f1 i j * x j) (g := fun j => MM f i j * x j) fun j hj => by rw [h i j hi (by omega)]]
/-- rows told with the other sign -/
def RSg (R : Nat) (f f1 : Nat → Int) : Prop := ∀ i, i < R → (∀ j, j < 6 → MM f1 i j = MM f i j) ∨ ∀ j, j < 6 → MM f1 i j = -MM f i j
theorem KE.sg {p : Int} {R C : Nat} {A : Nat → Nat → Int} {f f1 : Nat → Int} (hC : C ≤ 6) (h : RSg R f f1) (K : KE p R C A f) : KE p R C A f1 := fun x => by
  rw [K x]
  refine forall_congr' fun i => forall_congr' fun hi => ?_
  rcases h i hi with q | q
  · rw [sI_congr (f := fun j => MM f1 i j * x j) (g := fun j => MM f i j * x j) fun j hj => by rw [q j (by omega)]]
  · rw [sI_congr (f := fun j => MM f1 i j * x j) (g := fun j => -1 * (MM f i j * x j)) fun j hj => by rw [q j (by omega)]; grind, sI_mul]
    rw [show -1 * sI C (fun j => MM f i j * x j) = -(sI C fun j => MM f i j * x j) by omega, Int.dvd_neg]
theorem EC.sg {f f1 : Nat → Int} {p : Int} {R j c : Nat} (hj : j ≤ 6) (h : RSg R f f1) (E : EC f p R j c) : EC f1 p R j c := by
  obtain ⟨e1, e2, e3, e4⟩ := E
  have b1 := b_shl hj
  have dv : ∀ i k, i < R → k < 6 → (p ∣ MM f1 i k ↔ p ∣ MM f i k) := fun i k hi hk => by
    rcases h i hi with q | q
    · rw [q k hk]
    · rw [q k hk, Int.dvd_neg]
  have nl : ∀ i, i < pc6 c → nt c i < 6 := fun i hi => (nt_1 (by omega) hi).1
  refine ⟨e1, e2, fun i hi => ⟨?_, fun i' h1 h2 => ?_⟩, fun i h1 h2 j' hj' => ?_⟩
  · rw [dv i _ (by omega) (nl i hi)]; exact (e3 i hi).1
  · rw [dv i' _ h2 (nl i hi)]; exact (e3 i hi).2 i' h1 h2
  · rw [dv i j' h2 (by omega)]; exact e4 i h1 h2 j' hj'
/-- the state of the steps: column j, rank r -/
def RJ (A : Nat → Nat → Int) (R C : Nat) (f : Nat → Int) (j r : Nat) : Prop := r < R ∧ (∀ k, k < C → UJ f r R k) ∧ (∀ i k, i < R → C ≤ k → k < 7 → f (7 * i + k) = 0) ∧ ∀ p, PR p → KE p R C A (c76 f) ∧ ∃ c, EC (c76 f) p R j c ∧ pc6 c = r
theorem RJ.init {A : Nat → Nat → Int} {R C : Nat} {f : Nat → Int} (hR : 0 < R) (hC : C ≤ 6) (hf : ∀ i j, i < R → j < C → f (7 * i + j) = A i j) (hU : ∀ k, k < C → UJ f 0 R k) (hz : ∀ i k, i < R → C ≤ k → k < 7 → f (7 * i + k) = 0) : RJ A R C f 0 0 :=
  ⟨hR, hU, hz, fun p hp => ⟨KE.init fun i j hi hj => by rw [MM76 f (by omega), hf i j hi hj, Int.sub_self]; exact Int.dvd_zero p, 0, EC.init _ p R, rfl⟩⟩
theorem RJ.skip {A : Nat → Nat → Int} {R C : Nat} {f : Nat → Int} {j r : Nat} (h : RJ A R C f j r) (hj : j < 6) (hz : ∀ i, r ≤ i → i < R → f (7 * i + j) = 0) : RJ A R C f (j + 1) r := by
  obtain ⟨h1, h2, h0, h3⟩ := h
  refine ⟨h1, h2, h0, fun p hp => ?_⟩
  obtain ⟨K, c, E, rfl⟩ := h3 p hp
  exact ⟨K, c, E.skip (fun i i1 i2 => by rw [MM76 f hj]; exact hz i i1 i2), rfl⟩
theorem RJ.end {A : Nat → Nat → Int} {R C : Nat} {f : Nat → Int} {r : Nat} (h : RJ A R C f C r) (hR : R ≤ 6) (hC : C ≤ 6) : ∀ p, PR p → Rk A R (2 ^ C - 1) p r := fun p hp => by
  obtain ⟨K, c, E, rfl⟩ := h.2.2.2 p hp
  exact rk_ec hp hR hC K E
/-- two rows swapped -/
def SW7 (a b : Nat) (f g : Nat → Int) : Prop := ∀ i k, k < 7 → g (7 * i + k) = if i = a then f (7 * b + k) else if i = b then f (7 * a + k) else f (7 * i + k)
def ta (q r x : Nat) : Nat := if x = q then r else if x = r then q else x
theorem ta_ta (q r x : Nat) : ta q r (ta q r x) = x := by unfold ta; grind
theorem ta_r {q r R x : Nat} (hq : r ≤ q) (hq2 : q < R) (h1 : r ≤ x) (h2 : x < R) : r ≤ ta q r x ∧ ta q r x < R := by unfold ta; split <;> (try split) <;> omega
theorem SW7.at_ta {f g : Nat → Int} {q r : Nat} (S : SW7 q r f g) {i k : Nat} (hk : k < 7) : g (7 * i + k) = f (7 * ta q r i + k) := by
  rw [S i k hk]
  unfold ta
  by_cases c1 : i = q
  · rw [if_pos c1, if_pos c1]
  · rw [if_neg c1, if_neg c1]
    by_cases c2 : i = r
    · rw [if_pos c2, if_pos c2]
    · rw [if_neg c2, if_neg c2]
theorem SW7.uj {f g : Nat → Int} {q r R k : Nat} (S : SW7 q r f g) (hk : k < 7) (hq : r ≤ q) (hq2 : q < R) (U : UJ f r R k) : UJ g r R k := by
  rcases U with h | ⟨a, b, a1, a2, b1, b2, ab, fa, fb, fo⟩
  · refine Or.inl fun i i1 i2 => ?_
    rw [S.at_ta hk]
    exact h _ (ta_r hq hq2 i1 i2).1 (ta_r hq hq2 i1 i2).2
  · have ra := ta_r hq hq2 a1 a2
    have rb := ta_r hq hq2 b1 b2
    refine Or.inr ⟨ta q r a, ta q r b, ra.1, ra.2, rb.1, rb.2, fun e => ab ?_, ?_, ?_, fun i i1 i2 n1 n2 => ?_⟩
    · rw [← ta_ta q r a, e, ta_ta]
    · rw [S.at_ta hk, ta_ta, fa]
    · rw [S.at_ta hk, ta_ta, fb]
    · rw [S.at_ta hk]
      exact fo _ (ta_r hq hq2 i1 i2).1 (ta_r hq hq2 i1 i2).2 (fun e => n1 (by rw [← e, ta_ta])) (fun e => n2 (by rw [← e, ta_ta]))
theorem SW7.sw {f g : Nat → Int} {q r : Nat} (S : SW7 q r f g) {i j : Nat} (hj : j < 6) : MM (c76 g) i j = MM (swf q r 6 (c76 f)) i j := by
  rw [MM76 g hj, S i j (by omega), MM_sw (c76 f) hj, MM76 f hj, MM76 f hj, MM76 f hj]
/-- the rows below row r cleared of column j, the last pivot being d = 1 or -1 -/
def EL7 (R C r j : Nat) (d : Int) (g f1 : Nat → Int) : Prop := (∀ i k, k < 7 → (i ≤ r ∨ R ≤ i ∨ C ≤ k) → f1 (7 * i + k) = g (7 * i + k)) ∧ ∀ i k, r < i → i < R → k < C → f1 (7 * i + k) = (g (7 * i + k) * g (7 * r + j) - g (7 * r + k) * g (7 * i + j)) * d
def pm1 (d : Int) : Prop := d = 1 ∨ d = -1
/-- in column j stands the pivot, and once its opposite below -/
theorem UJ.piv {g : Nat → Int} {r R j : Nat} (hr : r < R) (U : UJ g r R j) (hv : g (7 * r + j) ≠ 0) : pm1 (g (7 * r + j)) ∧ ∃ q, r < q ∧ q < R ∧ g (7 * q + j) = -g (7 * r + j) ∧ ∀ i, r < i → i < R → i ≠ q → g (7 * i + j) = 0 := by
  rcases U with h | ⟨a, b, a1, a2, b1, b2, ab, fa, fb, fo⟩
  · exact absurd (h r (Nat.le_refl r) hr) hv
  · by_cases q1 : r = a
    · subst q1
      refine ⟨Or.inl fa, b, by omega, b2, by rw [fa, fb], fun i i1 i2 n => fo i (by omega) i2 (by omega) n⟩
    · by_cases q2 : r = b
      · subst q2
        refine ⟨Or.inr fb, a, by omega, a2, by rw [fa, fb]; rfl, fun i i1 i2 n => fo i (by omega) i2 n (by omega)⟩
      · exact absurd (fo r (Nat.le_refl r) hr q1 q2) hv
theorem pm_mul {a b : Int} (ha : pm1 a) (hb : pm1 b) : pm1 (a * b) := by
  rcases ha with rfl | rfl <;> rcases hb with rfl | rfl <;> first | exact Or.inl rfl | exact Or.inr rfl
theorem EL7.row {R C r j q : Nat} {d : Int} {g f1 : Nat → Int} (E : EL7 R C r j d g f1) (hd : pm1 d) (hp : pm1 (g (7 * r + j))) (hqr : r < q) (hq1 : g (7 * q + j) = -g (7 * r + j)) (hq2 : ∀ i, r < i → i < R → i ≠ q → g (7 * i + j) = 0) :
    ∃ s, pm1 s ∧ ∀ i k, r < i → i < R → k < C → f1 (7 * i + k) = s * (g (7 * i + k) + if i = q then g (7 * r + k) else 0) := by
  refine ⟨g (7 * r + j) * d, pm_mul hp hd, fun i k i1 i2 hk => ?_⟩
  rw [E.2 i k i1 i2 hk]
  by_cases e : i = q
  · rw [if_pos e, e, hq1]; grind
  · rw [if_neg e, hq2 i i1 i2 e]; grind
theorem EL7.uj {R C r q k : Nat} {s : Int} {g f1 : Nat → Int} (hs : pm1 s) (hqr : r < q) (hq : q < R) (h : ∀ i k, r < i → i < R → k < C → f1 (7 * i + k) = s * (g (7 * i + k) + if i = q then g (7 * r + k) else 0)) (hk : k < C) (U : UJ g r R k) : UJ f1 (r + 1) R k := by
  -- told with s: a 1 and a -1, in one order or the other
  have fin : ∀ a b, r < a → a < R → r < b → b < R → a ≠ b → f1 (7 * a + k) = s → f1 (7 * b + k) = -s → (∀ i, r < i → i < R → i ≠ a → i ≠ b → f1 (7 * i + k) = 0) → UJ f1 (r + 1) R k := by
    intro a b a1 a2 b1 b2 ab fa fb fo
    rcases hs with rfl | rfl
    · exact Or.inr ⟨a, b, a1, a2, b1, b2, ab, fa, fb, fun i i1 i2 n1 n2 => fo i (by omega) i2 n1 n2⟩
    · exact Or.inr ⟨b, a, b1, b2, a1, a2, Ne.symm ab, by rw [fb]; rfl, fa, fun i i1 i2 n1 n2 => fo i (by omega) i2 n2 n1⟩
  rcases U with z | ⟨a, b, a1, a2, b1, b2, ab, fa, fb, fo⟩
  · refine Or.inl fun i i1 i2 => ?_
    rw [h i k (by omega) i2 hk, z i (by omega) i2]
    split
    · rw [z r (Nat.le_refl r) (by omega)]; simp
    · simp
  · by_cases ra : r = a
    · subst ra
      by_cases qb : b = q
      · subst qb
        refine Or.inl fun i i1 i2 => ?_
        rw [h i k (by omega) i2 hk]
        by_cases e : i = b
        · rw [if_pos e, e, fb, fa]; simp
        · rw [if_neg e, fo i (by omega) i2 (by omega) e]; simp
      · refine fin q b hqr hq (by omega) b2 (Ne.symm qb) ?_ ?_ (fun i i1 i2 n1 n2 => ?_)
        · rw [h q k hqr hq hk, if_pos rfl, fo q (by omega) hq (by omega) (Ne.symm qb), fa]; simp
        · rw [h b k (by omega) b2 hk, if_neg qb, fb]; simp
        · rw [h i k i1 i2 hk, if_neg n1, fo i (by omega) i2 (by omega) n2]; simp
    · by_cases rb : r = b
      · subst rb
        by_cases qa : a = q
        · subst qa
          refine Or.inl fun i i1 i2 => ?_
          rw [h i k (by omega) i2 hk]
          by_cases e : i = a
          · rw [if_pos e, e, fb, fa]; simp
          · rw [if_neg e, fo i (by omega) i2 e (by omega)]; simp
        · refine fin a q (by omega) a2 hqr hq qa ?_ ?_ (fun i i1 i2 n1 n2 => ?_)
          · rw [h a k (by omega) a2 hk, if_neg qa, fa]; simp
          · rw [h q k hqr hq hk, if_pos rfl, fo q (by omega) hq (Ne.symm qa) (by omega), fb]; simp
          · rw [h i k i1 i2 hk, if_neg n2, fo i (by omega) i2 n1 (by omega)]; simp
      · have r0 := fo r (Nat.le_refl r) (by omega) ra rb
        have hv : ∀ i, r < i → i < R → f1 (7 * i + k) = s * g (7 * i + k) := fun i i1 i2 => by
          rw [h i k i1 i2 hk, r0]
          split <;> simp
        refine fin a b (by omega) a2 (by omega) b2 ab ?_ ?_ (fun i i1 i2 n1 n2 => ?_)
        · rw [hv a (by omega) a2, fa]; simp
        · rw [hv b (by omega) b2, fb]; simp
        · rw [hv i i1 i2, fo i (by omega) i2 n1 n2]; simp
theorem RJ.piv {A : Nat → Nat → Int} {R C : Nat} {f g f1 : Nat → Int} {j r q0 : Nat} {d : Int} (h : RJ A R C f j r) (hR : R ≤ 6) (hC : C ≤ 6) (hj : j < C) (hq : r ≤ q0) (hq2 : q0 < R) (hv : f (7 * q0 + j) ≠ 0) (hd : pm1 d) (S : SW7 q0 r f g) (E : EL7 R C r j d g f1) : RJ A R C f1 (j + 1) (r + 1) := by
  obtain ⟨h1, h2, h0, h3⟩ := h
  have Ug : ∀ k, k < C → UJ g r R k := fun k hk => S.uj (by omega) hq hq2 (h2 k hk)
  have gv : g (7 * r + j) ≠ 0 := by
    rw [S r j (by omega)]
    by_cases e : r = q0
    · rw [if_pos e, e]; exact hv
    · rw [if_neg e, if_pos rfl]; exact hv
  obtain ⟨p1, q, hqr, hqR, hq1, hqo⟩ := (Ug j hj).piv h1 gv
  obtain ⟨s, hs, hrow⟩ := E.row hd p1 hqr hq1 hqo
  have g0 : ∀ i k, i < R → C ≤ k → k < 7 → g (7 * i + k) = 0 := fun i k hi k1 k2 => by
    rw [S i k k2]
    split
    · exact h0 r k h1 k1 k2
    · split
      · exact h0 q0 k hq2 k1 k2
      · exact h0 i k hi k1 k2
  have f10 : ∀ i k, i < R → C ≤ k → k < 7 → f1 (7 * i + k) = 0 := fun i k hi k1 k2 => by
    rw [E.1 i k k2 (Or.inr (Or.inr k1))]; exact g0 i k hi k1 k2
  refine ⟨by omega, fun k hk => EL7.uj hs hqr hqR hrow hk (Ug k hk), f10, fun p hp => ?_⟩
  obtain ⟨K, c, EE, rfl⟩ := h3 p hp
  -- the step without the sign
  have K1 := K.sw hC hq2 h1
  obtain ⟨f2, hf2⟩ : ∃ f2 : Nat → Int, f2 = fun t => if pc6 c < t / 6 ∧ t / 6 < R then g (7 * (t / 6) + t % 6) + (if t / 6 = q then g (7 * pc6 c + t % 6) else 0) else g (7 * (t / 6) + t % 6) := ⟨_, rfl⟩
  have f2v : ∀ i k, k < 6 → MM f2 i k = if pc6 c < i ∧ i < R then g (7 * i + k) + (if i = q then g (7 * pc6 c + k) else 0) else g (7 * i + k) := fun i k hk => by
    rw [hf2]
    show (if pc6 c < (6 * i + k) / 6 ∧ (6 * i + k) / 6 < R then g (7 * ((6 * i + k) / 6) + (6 * i + k) % 6) + (if (6 * i + k) / 6 = q then g (7 * pc6 c + (6 * i + k) % 6) else 0) else g (7 * ((6 * i + k) / 6) + (6 * i + k) % 6)) = _
    rw [show (6 * i + k) / 6 = i by omega, show (6 * i + k) % 6 = k by omega]
  have CQ2 : CQ p (pc6 c) R (swf q0 (pc6 c) 6 (c76 f)) f2 := by
    refine ⟨fun i hi hir k hk => ?_, fun i i1 i2 => ⟨if i = q then -1 else 0, fun k hk => ?_⟩⟩
    · rw [f2v i k hk, if_neg (by omega), ← S.sw hk, MM76 g hk]
    · rw [f2v i k hk, if_pos ⟨i1, i2⟩, ← S.sw hk, ← S.sw hk, MM76 g hk, MM76 g hk]
      have : (if i = q then (-1 : Int) else 0) * g (7 * pc6 c + k) = -(if i = q then g (7 * pc6 c + k) else 0) := by split <;> simp
      rw [this, show ∀ a b : Int, a + b - (a - -b) = 0 from fun a b => by omega]
      exact Int.dvd_zero p
  have K2 := K1.cq hR hC h1 CQ2
  have hv2 : ¬ p ∣ MM (c76 f) q0 j := by
    rw [MM76 f (by omega)]
    have : pm1 (f (7 * q0 + j)) := by
      have := (h2 j hj).b hq hq2
      unfold pm1; omega
    rcases this with e | e
    · rw [e]; exact hp.2
    · rw [e, Int.dvd_neg]; exact hp.2
  have z2 : ∀ i, pc6 c < i → i < R → p ∣ MM f2 i j := fun i i1 i2 => by
    rw [f2v i j (by omega), if_pos ⟨i1, i2⟩]
    by_cases e : i = q
    · rw [if_pos e, e, hq1, show -g (7 * pc6 c + j) + g (7 * pc6 c + j) = 0 by omega]; exact Int.dvd_zero p
    · rw [if_neg e, hqo i i1 i2 e]; exact Int.dvd_zero p
  have E2 := EE.step hR (by omega) hq hq2 hv2 CQ2 z2
  have sgn : RSg R f2 (c76 f1) := by
    intro i hi
    by_cases q1 : i ≤ pc6 c
    · refine Or.inl fun k hk => ?_
      rw [MM76 f1 hk, f2v i k hk, if_neg (by omega), E.1 i k (by omega) (Or.inl q1)]
    · have key : ∀ k, k < 6 → MM (c76 f1) i k = s * MM f2 i k := fun k hk => by
        rw [MM76 f1 hk, f2v i k hk, if_pos ⟨by omega, hi⟩]
        by_cases q2 : k < C
        · exact hrow i k (by omega) hi q2
        · rw [f10 i k hi (by omega) (by omega), g0 i k hi (by omega) (by omega), g0 (pc6 c) k h1 (by omega) (by omega)]
          simp
      rcases hs with rfl | rfl
      · exact Or.inl fun k hk => by rw [key k hk, Int.one_mul]
      · exact Or.inr fun k hk => by rw [key k hk]; omega
  have c64 : c < 64 ∧ c < 2 ^ j := ⟨by have := EE.1; have := (b_shl (show j ≤ 6 by omega)).2; omega, EE.1⟩
  have t0 := (top0 ⟨c, c64.1⟩ ⟨j, by omega⟩ c64.2).1
  exact ⟨K2.sg hC sgn, c + 2 ^ j, E2.sg (by omega) sgn, t0⟩
theorem rd7 {f : Nat → Int} {i j : Nat} {z : Int} (hz : z = 7 * (i : Int) + (j : Int)) : f z.toNat = f (7 * i + j) := ix (by omega)
theorem pm_div {x d : Int} (hd : pm1 d) : x.tdiv d = x * d := by
  rcases hd with rfl | rfl
  · rw [Int.tdiv_one, Int.mul_one]
  · rw [Int.tdiv_neg, Int.tdiv_one]; omega
theorem pm_b {x d : Int} {n : Int} (hd : pm1 d) (h : -n ≤ x ∧ x ≤ n) : -n ≤ x * d ∧ x * d ≤ n := by
  rcases hd with rfl | rfl <;> omega
theorem b1_mul {x y : Int} (hx : -1 ≤ x ∧ x ≤ 1) (hy : -1 ≤ y ∧ y ≤ 1) : -1 ≤ x * y ∧ x * y ≤ 1 := by
  rcases (show x = -1 ∨ x = 0 ∨ x = 1 by omega) with rfl | rfl | rfl <;> omega
/-- the swap so far: columns below k -/
def SP7 (a b k : Nat) (f g : Nat → Int) : Prop := ∀ i t, t < 7 → g (7 * i + t) = if t < k then (if i = a then f (7 * b + t) else if i = b then f (7 * a + t) else f (7 * i + t)) else f (7 * i + t)
theorem SP7.zero (a b : Nat) (f : Nat → Int) : SP7 a b 0 f f := fun i t _ => by rw [if_neg (Nat.not_lt_zero t)]
theorem SP7.all {a b : Nat} {f g : Nat → Int} (S : SP7 a b 7 f g) : SW7 a b f g := fun i t ht => by rw [S i t ht, if_pos ht]
theorem SP7.step {a b k : Nat} {f g : Nat → Int} (S : SP7 a b k f g) (hk : k < 7) : SP7 a b (k + 1) f (fun t => if t = 7 * b + k then g (7 * a + k) else if t = 7 * a + k then g (7 * b + k) else g t) := fun i t ht => by
  show (if 7 * i + t = 7 * b + k then g (7 * a + k) else if 7 * i + t = 7 * a + k then g (7 * b + k) else g (7 * i + t)) = _
  have va : ∀ x, g (7 * x + k) = f (7 * x + k) := fun x => by rw [S x k hk, if_neg (Nat.lt_irrefl k)]
  rw [va, va]
  by_cases e : t = k
  · subst e
    rw [if_pos (Nat.lt_succ_self t)]
    by_cases e1 : i = b
    · rw [if_pos (by omega)]
      by_cases e2 : i = a
      · rw [if_pos e2, ← e1, ← e2]
      · rw [if_neg e2, if_pos e1]
    · rw [if_neg (by omega)]
      by_cases e2 : i = a
      · rw [if_pos (by omega), if_pos e2]
      · rw [if_neg (by omega), if_neg e2, if_neg e1, S i t ht, if_neg (Nat.lt_irrefl t)]
  · rw [if_neg (by omega), if_neg (by omega), S i t ht]
    by_cases e1 : t < k
    · rw [if_pos e1, if_pos (show t < k + 1 by omega)]
    · rw [if_neg e1, if_neg (show ¬ t < k + 1 by omega)]
/-- the clearing so far: rows below i, and row i below column k -/
def EP7 (C r j i k : Nat) (d : Int) (g f : Nat → Int) : Prop := ∀ a t, t < 7 → f (7 * a + t) = if r < a ∧ ((a < i ∧ t < C) ∨ (a = i ∧ t < k)) then (g (7 * a + t) * g (7 * r + j) - g (7 * r + t) * g (7 * a + j)) * d else g (7 * a + t)
theorem EP7.zero (C r j : Nat) (d : Int) (g : Nat → Int) : EP7 C r j (r + 1) 0 d g g := fun a t _ => by rw [if_neg (by omega)]
theorem EP7.next {C r j i : Nat} {d : Int} {g f : Nat → Int} (E : EP7 C r j i C d g f) : EP7 C r j (i + 1) 0 d g f := fun a t ht => by
  rw [E a t ht]
  by_cases q : r < a ∧ ((a < i ∧ t < C) ∨ (a = i ∧ t < C))
  · rw [if_pos q, if_pos (by omega)]
  · rw [if_neg q, if_neg (by omega)]
theorem EP7.step {C r j i k : Nat} {d v : Int} {g f : Nat → Int} (E : EP7 C r j i k d g f) (hi : r < i) (hk : k < 7) (hv : v = (g (7 * i + k) * g (7 * r + j) - g (7 * r + k) * g (7 * i + j)) * d) : EP7 C r j i (k + 1) d g (fun t => if t = 7 * i + k then v else f t) := fun a t ht => by
  show (if 7 * a + t = 7 * i + k then v else f (7 * a + t)) = _
  by_cases e : a = i ∧ t = k
  · rw [if_pos (by omega), if_pos (by omega), hv, e.1, e.2]
  · rw [if_neg (by omega), E a t ht]
    by_cases q : r < a ∧ ((a < i ∧ t < C) ∨ (a = i ∧ t < k))
    · rw [if_pos q, if_pos (by omega)]
    · rw [if_neg q, if_neg (by omega)]
theorem EP7.end {C r j i R : Nat} {d : Int} {g f : Nat → Int} (E : EP7 C r j i 0 d g f) (hC : C ≤ 6) (hi : i = R) (hr : r < R) : EL7 R C r j d g f :=
  ⟨fun a t ht h => by rw [E a t ht, if_neg (by omega)], fun a t h1 h2 h3 => by
    rw [E a t (by omega), if_pos (by omega)]⟩

/-! RANK BY A PRIME, by elimination. -/
def P4 (p : Int) : Prop := p = 2 ∨ p = 3 ∨ p = 5 ∨ p = 7
theorem inv0 : ∀ a : Fin 8, ∀ p : Fin 8, (p.val = 2 ∨ p.val = 3 ∨ p.val = 5 ∨ p.val = 7) → 1 ≤ a.val → a.val < p.val → ∃ b : Fin 8, 1 ≤ b.val ∧ b.val * a.val % p.val = 1 := by decide +kernel
/-- what a number leaves by p, 0 to p less 1 -/
def pn (p v : Int) : Int := (v.tmod p + p).tmod p
theorem tmod_dv (v p : Int) : p ∣ v - v.tmod p := by
  have := Int.tmod_add_tdiv_mul v p
  exact ⟨v.tdiv p, by rw [Int.mul_comm]; omega⟩
theorem tmod_rg {v p : Int} (hp : 0 < p) : -p < v.tmod p ∧ v.tmod p < p := by
  have h := Int.natAbs_tmod v p
  have h2 := Nat.mod_lt v.natAbs (show 0 < p.natAbs by omega)
  omega
theorem pn_r {p v : Int} (hp : 0 < p) : 0 ≤ pn p v ∧ pn p v < p := by
  have h1 := tmod_rg (v := v) hp
  have h2 := Int.tmod_nonneg p (show 0 ≤ v.tmod p + p by omega)
  have h3 := tmod_rg (v := v.tmod p + p) hp
  unfold pn; omega
theorem pn_d (p v : Int) : p ∣ pn p v - v := by
  have h1 := tmod_dv v p
  have h2 := tmod_dv (v.tmod p + p) p
  obtain ⟨a, ha⟩ := h1
  obtain ⟨b, hb⟩ := h2
  unfold pn
  exact ⟨1 - a - b, by rw [Int.mul_sub, Int.mul_sub, Int.mul_one]; omega⟩
theorem dv_cong {p a b : Int} (h : p ∣ a - b) : p ∣ a ↔ p ∣ b := by
  constructor
  · intro q; have := Int.dvd_sub q h; rwa [show a - (a - b) = b by omega] at this
  · intro q; have := Int.dvd_add h q; rwa [show a - b + b = a by omega] at this
theorem mul8 {a b : Int} (ha : 0 ≤ a ∧ a < 8) (hb : 0 ≤ b ∧ b < 8) : 0 ≤ a * b ∧ a * b < 64 := by
  refine ⟨Int.mul_nonneg ha.1 hb.1, ?_⟩
  have h1 : a * b ≤ 7 * b := Int.mul_le_mul_of_nonneg_right (by omega) hb.1
  omega
/-- all numbers are 0 to p less 1 -/
def PB (p : Int) (f : Nat → Int) : Prop := ∀ i j, i < 6 → j < 6 → 0 ≤ MM f i j ∧ MM f i j < p
/-- the same kernel -/
def KE (p : Int) (R C : Nat) (A : Nat → Nat → Int) (f : Nat → Int) : Prop := ∀ x : Nat → Int, (∀ i, i < R → p ∣ sI C (fun j => A i j * x j)) ↔ ∀ i, i < R → p ∣ sI C (fun j => MM f i j * x j)
theorem sI_dcong {p : Int} {n : Nat} {f g : Nat → Int} (h : ∀ k, k < n → p ∣ f k - g k) : p ∣ sI n f - sI n g := by
  rw [← sI_sub]; exact pd_sum h
theorem KE.init {p : Int} {R C : Nat} {A : Nat → Nat → Int} {f : Nat → Int} (h : ∀ i j, i < R → j < C → p ∣ MM f i j - A i j) : KE p R C A f := fun x => by
  refine forall_congr' fun i => forall_congr' fun hi => (dv_cong ?_).symm
  refine sI_dcong fun j hj => ?_
  rw [← Int.sub_mul]
  exact pd_mull _ (h i j hi hj)
theorem KE.sw {p : Int} {R C : Nat} {A : Nat → Nat → Int} {f : Nat → Int} (h : KE p R C A f) (hC : C ≤ 6) {a b : Nat} (ha : a < R) (hb : b < R) : KE p R C A (swf a b 6 f) := fun x => by
  rw [h x]
  have e : ∀ i, sI C (fun j => MM (swf a b 6 f) i j * x j) = if i = a then sI C (fun j => MM f b j * x j) else if i = b then sI C (fun j => MM f a j * x j) else sI C (fun j => MM f i j * x j) := by
    intro i
    by_cases q1 : i = a
    · rw [if_pos q1]; exact sI_congr fun j hj => by rw [MM_sw f (by omega), if_pos q1]
    · rw [if_neg q1]
      by_cases q2 : i = b
      · rw [if_pos q2]; exact sI_congr fun j hj => by rw [MM_sw f (by omega), if_neg q1, if_pos q2]
      · rw [if_neg q2]; exact sI_congr fun j hj => by rw [MM_sw f (by omega), if_neg q1, if_neg q2]
  constructor
  · intro k i hi
    rw [e]
    split
    · exact k b hb
    · split
      · exact k a ha
      · exact k i hi
  · intro k i hi
    by_cases q1 : i = a
    · have := k b hb
      rw [e] at this
      by_cases q2 : b = a
      · rw [if_pos q2] at this; rw [q1, ← q2]; exact this
      · rw [if_neg q2, if_pos rfl] at this; rw [q1]; exact this
    · by_cases q2 : i = b
      · have := k a ha
        rw [e, if_pos rfl] at this; rw [q2]; exact this
      · have := k i hi
        rw [e, if_neg q1, if_neg q2] at this; exact this
/-- rows below row r are told anew: less some times row r -/
def CQ (p : Int) (r R : Nat) (f0 f1 : Nat → Int) : Prop := (∀ i, i < 6 → (i ≤ r ∨ R ≤ i) → ∀ j, j < 6 → MM f1 i j = MM f0 i j) ∧ ∀ i, r < i → i < R → ∃ t : Int, ∀ j, j < 6 → p ∣ MM f1 i j - (MM f0 i j - t * MM f0 r j)
theorem KE.cq {p : Int} {R C r : Nat} {A : Nat → Nat → Int} {f f1 : Nat → Int} (h : KE p R C A f) (hR : R ≤ 6) (hC : C ≤ 6) (hr : r < R) (q : CQ p r R f f1) : KE p R C A f1 := fun x => by
  rw [h x]
  have same : ∀ i, i < R → i ≤ r → sI C (fun j => MM f1 i j * x j) = sI C (fun j => MM f i j * x j) := fun i hi hr' => sI_congr fun j hj => by rw [q.1 i (by omega) (Or.inl hr') j (by omega)]
  have other : ∀ i, r < i → i < R → ∃ t : Int, p ∣ sI C (fun j => MM f1 i j * x j) - (sI C (fun j => MM f i j * x j) - t * sI C (fun j => MM f r j * x j)) := by
    intro i h1 h2
    obtain ⟨t, ht⟩ := q.2 i h1 h2
    refine ⟨t, ?_⟩
    rw [← sI_mul, ← sI_sub, ← sI_sub]
    refine pd_sum fun j hj => ?_
    have := pd_mull (x j) (ht j (by omega))
    rw [show MM f1 i j * x j - (MM f i j * x j - t * (MM f r j * x j)) = (MM f1 i j - (MM f i j - t * MM f r j)) * x j by grind]
    exact this
  constructor
  · intro k i hi
    rcases Nat.lt_or_ge r i with q1 | q1
    · obtain ⟨t, ht⟩ := other i q1 hi
      exact (dv_cong ht).mpr (Int.dvd_sub (k i hi) (pd_mulr _ (k r hr)))
    · rw [same i hi q1]; exact k i hi
  · intro k i hi
    have kr : p ∣ sI C (fun j => MM f r j * x j) := by rw [← same r hr (Nat.le_refl r)]; exact k r hr
    rcases Nat.lt_or_ge r i with q1 | q1
    · obtain ⟨t, ht⟩ := other i q1 hi
      have := (dv_cong ht).mp (k i hi)
      have := Int.dvd_add this (pd_mulr t kr)
      rwa [show sI C (fun j => MM f i j * x j) - t * sI C (fun j => MM f r j * x j) + t * sI C (fun j => MM f r j * x j) = sI C (fun j => MM f i j * x j) by omega] at this
    · rw [← same i hi q1]; exact k i hi
/-- steps: the pivots' columns are the set c, all below column j -/
def EC (f : Nat → Int) (p : Int) (R j c : Nat) : Prop := c < 2 ^ j ∧ pc6 c ≤ R ∧ (∀ i, i < pc6 c → ¬ p ∣ MM f i (nt c i) ∧ ∀ i', i < i' → i' < R → p ∣ MM f i' (nt c i)) ∧ ∀ i, pc6 c ≤ i → i < R → ∀ j', j' < j → p ∣ MM f i j'
theorem top0 : ∀ c : Fin 64, ∀ m : Fin 6, c.val < 2 ^ m.val → pc6 (c.val + 2 ^ m.val) = pc6 c.val + 1 ∧ nt (c.val + 2 ^ m.val) (pc6 c.val) = m.val ∧ c.val + 2 ^ m.val < 2 ^ (m.val + 1) ∧ ∀ t : Fin 6, t.val < pc6 c.val → nt (c.val + 2 ^ m.val) t.val = nt c.val t.val := by decide +kernel
theorem EC.init (f : Nat → Int) (p : Int) (R : Nat) : EC f p R 0 0 := ⟨by decide, Nat.zero_le _, fun i hi => absurd hi (Nat.not_lt_zero _), fun i _ _ j hj => absurd hj (Nat.not_lt_zero _)⟩
theorem EC.skip {f : Nat → Int} {p : Int} {R j c : Nat} (h : EC f p R j c) (hz : ∀ i, pc6 c ≤ i → i < R → MM f i j = 0) : EC f p R (j + 1) c := by
  obtain ⟨h1, h2, h3, h4⟩ := h
  refine ⟨by rw [Nat.pow_succ]; omega, h2, h3, fun i i1 i2 j' hj => ?_⟩
  rcases (show j' < j ∨ j' = j by omega) with q | q
  · exact h4 i i1 i2 j' q
  · rw [q, hz i i1 i2]; exact Int.dvd_zero p
theorem EC.step {f f1 : Nat → Int} {p : Int} {R j c q : Nat} (h : EC f p R j c) (hR : R ≤ 6) (hj : j < 6) (hq : pc6 c ≤ q) (hq2 : q < R) (hv : ¬ p ∣ MM f q j) (C : CQ p (pc6 c) R (swf q (pc6 c) 6 f) f1) (hz : ∀ i, pc6 c < i → i < R → p ∣ MM f1 i j) : EC f1 p R (j + 1) (c + 2 ^ j) := by
  obtain ⟨h1, h2, h3, h4⟩ := h
  have b := b_shl (j := j) (by omega)
  have c64 : c < 64 := by omega
  have p6 := pc6_r c64
  obtain ⟨t1, t2, t3, t4⟩ := top0 ⟨c, c64⟩ ⟨j, hj⟩ h1
  have t1 : pc6 (c + 2 ^ j) = pc6 c + 1 := t1
  have t2 : nt (c + 2 ^ j) (pc6 c) = j := t2
  have t4 : ∀ t, t < pc6 c → nt (c + 2 ^ j) t = nt c t := fun t ht => t4 ⟨t, by omega⟩ ht
  have n6 : ∀ i, i < pc6 c → nt c i < j := fun i hi => nt_C (by omega) h1 hi
  have swr : ∀ i b, b < 6 → MM (swf q (pc6 c) 6 f) i b = (if i = q then MM f (pc6 c) b else if i = pc6 c then MM f q b else MM f i b) := fun i b hb => MM_sw f hb
  have row : ∀ i b, pc6 c ≤ i → i < R → b < j → p ∣ MM (swf q (pc6 c) 6 f) i b := by
    intro i b h1 h2 hb
    rw [swr i b (by omega)]
    split
    · exact h4 _ (Nat.le_refl _) (by omega) b hb
    · split
      · exact h4 _ hq hq2 b hb
      · exact h4 _ h1 h2 b hb
  have old : ∀ i b, i ≤ pc6 c → b < 6 → MM f1 i b = MM (swf q (pc6 c) 6 f) i b := fun i b h1 hb => C.1 i (by omega) (Or.inl h1) b hb
  have dn : ∀ i b, pc6 c < i → i < R → b < 6 → p ∣ MM (swf q (pc6 c) 6 f) i b → p ∣ MM (swf q (pc6 c) 6 f) (pc6 c) b → p ∣ MM f1 i b := by
    intro i b h1 h2 hb d1 d2
    obtain ⟨t, ht⟩ := C.2 i h1 h2
    exact (dv_cong (ht b hb)).mpr (Int.dvd_sub d1 (pd_mulr _ d2))
  refine ⟨t3, by omega, fun i hi => ?_, fun i i1 i2 j' hj' => ?_⟩
  · rw [t1] at hi
    rcases (show i < pc6 c ∨ i = pc6 c by omega) with e | e
    · rw [t4 i e]
      have n1 := n6 i e
      refine ⟨?_, fun i' a1 a2 => ?_⟩
      · rw [old i _ (by omega) (by omega), swr i _ (by omega), if_neg (by omega), if_neg (by omega)]; exact (h3 i e).1
      · have all : ∀ k, i < k → k < R → p ∣ MM (swf q (pc6 c) 6 f) k (nt c i) := by
          intro k k1 k2
          rw [swr k _ (by omega)]
          split
          · exact (h3 i e).2 _ e (by omega)
          · split
            · exact (h3 i e).2 _ (by omega) hq2
            · exact (h3 i e).2 _ k1 k2
        rcases Nat.lt_or_ge (pc6 c) i' with q1 | q1
        · exact dn i' _ q1 a2 (by omega) (all i' a1 a2) (all (pc6 c) e (by omega))
        · rw [old i' _ q1 (by omega)]; exact all i' a1 a2
    · subst e
      rw [t2]
      refine ⟨?_, fun i' a1 a2 => hz i' a1 a2⟩
      rw [old _ _ (Nat.le_refl _) hj, swr _ _ hj]
      split
      · rename_i e; rw [e]; exact hv
      · rw [if_pos rfl]; exact hv
  · rw [t1] at i1
    rcases (show j' < j ∨ j' = j by omega) with e | e
    · exact dn i j' (by omega) i2 (by omega) (row i j' (by omega) i2 e) (row (pc6 c) j' (Nat.le_refl _) (by omega) e)
    · rw [e]; exact hz i (by omega) i2
/-- the rank that steps tell -/
theorem rk_ec {f : Nat → Int} {p : Int} {R C c : Nat} {A : Nat → Nat → Int} (hp : PR p) (hR : R ≤ 6) (hC : C ≤ 6) (K : KE p R C A f) (h : EC f p R C c) : Rk A R (2 ^ C - 1) p (pc6 c) := by
  obtain ⟨h1, h2, h3, h4⟩ := h
  have b := b_shl hC
  have b' := b_pos C
  -- a vector at the columns of a set
  have lift : ∀ (c : Nat), c < 2 ^ C → ∀ (x : Nat → Int) (B : Nat → Nat → Int) (i : Nat), sI C (fun j => B i j * (if mbit c j then x (pc6 (c % 2 ^ j)) else 0)) = sI (pc6 c) (fun t => B i (nt c t) * x t) := by
    intro c hc x B i
    rw [show sI C (fun j => B i j * (if mbit c j then x (pc6 (c % 2 ^ j)) else 0)) = sI C (fun j => if mbit c j then (fun j => B i j * x (pc6 (c % 2 ^ j))) j else 0) from sI_congr fun j _ => by
      by_cases q : mbit c j
      · rw [if_pos q, if_pos q]
      · rw [if_neg q, if_neg q, Int.mul_zero]]
    rw [sum_bitsC hC hc]
    exact sI_congr fun t ht => by rw [(nt_1 (c := c) (by omega) ht).2.2.1]
  have ker : ∀ (c : Nat), c < 2 ^ C → ∀ x : Nat → Int, (∀ i, i < R → p ∣ sI (pc6 c) (fun t => A i (nt c t) * x t)) ↔ ∀ i, i < R → p ∣ sI (pc6 c) (fun t => MM f i (nt c t) * x t) := by
    intro c hc x
    have := K (fun j => if mbit c j then x (pc6 (c % 2 ^ j)) else 0)
    constructor
    · intro k i hi
      rw [← lift c hc x (MM f) i]
      exact this.mp (fun i hi => by rw [lift c hc x A i]; exact k i hi) i hi
    · intro k i hi
      rw [← lift c hc x A i]
      exact this.mpr (fun i hi => by rw [lift c hc x (MM f) i]; exact k i hi) i hi
  refine rk_of hp hR (by omega) ⟨c, (sub_mask hC).mp h1, rfl, fun x hx => ?_⟩ (fun c' hc' hlt hi => ?_)
  · have hm := (ker c h1 x).mp hx
    have down : ∀ d i, i < pc6 c → pc6 c ≤ i + d → p ∣ x i := by
      intro d
      induction d with
      | zero => intro i a1 a2; omega
      | succ d ih =>
        intro i a1 a2
        rcases Nat.lt_or_ge i (pc6 c - d - 1) with q | q
        · omega
        · have s := hm i (by omega)
          -- all but place i are divisible
          have s2 : p ∣ sI (pc6 c) (fun t => MM f i (nt c t) * x t) - MM f i (nt c i) * x i := by
            have e := sI_delta a1 (fun t => MM f i (nt c t) * x t)
            rw [← e]
            refine sI_dcong fun t ht => ?_
            by_cases q1 : i = t
            · rw [if_pos q1, Int.mul_one, Int.sub_self]; exact Int.dvd_zero p
            · rw [if_neg q1, Int.mul_zero, Int.sub_zero]
              rcases Nat.lt_or_ge t i with q2 | q2
              · exact pd_mull _ ((h3 t ht).2 i q2 (by omega))
              · exact pd_mulr _ (ih t ht (by omega))
          have s3 := (dv_cong s2).mp s
          rcases hp.1 _ _ s3 with q3 | q3
          · exact absurd q3 (h3 i a1).1
          · exact q3
    exact fun t ht => down (pc6 c) t ht (by omega)
  · have c1 := (sub_mask hC).mpr hc'
    have r6 : pc6 c ≤ 6 := by omega
    obtain ⟨x, ⟨t, t1, t2⟩, hx⟩ := kr2 hp r6 (fun i t => MM f i (nt c' t)) (pc6 c') (fun r r1 r2 => by have := pcR r6 r1; omega)
    refine t2 (hi x ((ker c' c1 x).mpr fun i hi => ?_) t t1)
    rcases Nat.lt_or_ge i (pc6 c) with q | q
    · exact hx i q
    · exact pd_sum fun t ht => pd_mull _ (h4 i q hi _ (nt_C hC c1 ht))
/-- the numbers of clears -/
def clv (p by' : Int) (r j : Nat) (f : Nat → Int) (a b : Nat) : Int := pn p (MM f a b - (MM f a j * by').tmod p * MM f r b)
def CD (p by' : Int) (r j i k : Nat) (f0 f1 : Nat → Int) : Prop := ∀ a b, a < 6 → b < 6 → MM f1 a b = if r < a ∧ (a < i ∨ (a = i ∧ b < k)) then clv p by' r j f0 a b else MM f0 a b
theorem CD.zero {p by' : Int} {r j : Nat} {f : Nat → Int} : CD p by' r j (r + 1) 0 f f := fun a b _ _ => by rw [if_neg (by omega)]
theorem CD.put {p by' : Int} {r j i k : Nat} {f0 f1 : Nat → Int} (D : CD p by' r j i k f0 f1) (hi : r < i) (hk : k < 6) {v : Int} (hv : v = clv p by' r j f0 i k) : CD p by' r j i (k + 1) f0 (upn f1 (6 * i + k) v) := fun a b h1 h2 => by
  unfold MM
  by_cases q : 6 * a + b = 6 * i + k
  · rw [upn_eq q, hv, if_pos (by omega), show a = i by omega, show b = k by omega]
  · rw [upn_ne q]
    show MM f1 a b = _
    rw [D a b h1 h2]
    by_cases q2 : r < a ∧ (a < i ∨ (a = i ∧ b < k))
    · rw [if_pos q2, if_pos (by omega)]
    · rw [if_neg q2, if_neg (by omega)]; rfl
theorem CD.next {p by' : Int} {r j i : Nat} {f0 f1 : Nat → Int} (D : CD p by' r j i 6 f0 f1) : CD p by' r j (i + 1) 0 f0 f1 := fun a b h1 h2 => by
  rw [D a b h1 h2]
  by_cases q2 : r < a ∧ (a < i ∨ (a = i ∧ b < 6))
  · rw [if_pos q2, if_pos (by omega)]
  · rw [if_neg q2, if_neg (by omega)]
theorem CD.old {p by' : Int} {r j i k : Nat} {f0 f1 : Nat → Int} (D : CD p by' r j i k f0 f1) {a b : Nat} (h1 : a < 6) (h2 : b < 6) (h3 : a ≤ r ∨ i < a ∨ (a = i ∧ k ≤ b)) : MM f1 a b = MM f0 a b := by rw [D a b h1 h2, if_neg (by omega)]
theorem CD.end {p by' : Int} {r j i R : Nat} {f0 f1 : Nat → Int} (D : CD p by' r j i 0 f0 f1) (hp : 0 < p) (hi : i = R) (hR : R ≤ 6) (hr : r < R) (hj : j < 6) (B : PB p f0) (hb : p ∣ MM f0 r j * by' - 1) : CQ p r R f0 f1 ∧ PB p f1 ∧ ∀ a, r < a → a < R → p ∣ MM f1 a j := by
  subst hi
  have val : ∀ a, r < a → a < i → ∀ b, b < 6 → MM f1 a b = clv p by' r j f0 a b := fun a h1 h2 b hb => by rw [D a b (by omega) hb, if_pos (by omega)]
  refine ⟨⟨fun a h1 h2 b hb => by rw [D a b h1 hb, if_neg (by omega)], fun a h1 h2 => ⟨(MM f0 a j * by').tmod p, fun b hb => by rw [val a h1 h2 b hb]; exact pn_d _ _⟩⟩, fun a b h1 h2 => ?_, fun a h1 h2 => ?_⟩
  · rw [D a b h1 h2]
    split
    · exact pn_r hp
    · exact B a b h1 h2
  · rw [val a h1 h2 j hj]
    refine (dv_cong (pn_d _ _)).mpr ?_
    obtain ⟨u, hu⟩ := tmod_dv (MM f0 a j * by') p
    obtain ⟨w, hw⟩ := hb
    refine ⟨u * MM f0 r j - w * MM f0 a j, ?_⟩
    have e1 : (MM f0 a j * by').tmod p = MM f0 a j * by' - p * u := by omega
    rw [e1]
    have e2 : MM f0 r j * by' = 1 + p * w := by omega
    grind
/-- the first k numbers are told by p -/
def PK (p : Int) (k : Nat) (f0 f1 : Nat → Int) : Prop := ∀ t, f1 t = if t < k then pn p (f0 t) else f0 t
theorem PK.put {p : Int} {k : Nat} {f0 f1 : Nat → Int} (h : PK p k f0 f1) {v : Int} (hv : v = pn p (f0 k)) : PK p (k + 1) f0 (upn f1 k v) := fun t => by
  by_cases q : t = k
  · rw [upn_eq q, hv, if_pos (by omega), q]
  · rw [upn_ne q, h t]
    by_cases q2 : t < k
    · rw [if_pos q2, if_pos (by omega)]
    · rw [if_neg q2, if_neg (by omega)]
theorem PK.pb {p : Int} {f0 f1 : Nat → Int} (hp : 0 < p) (h : PK p 36 f0 f1) : PB p f1 := fun i j hi hj => by
  unfold MM
  rw [h, if_pos (by omega)]
  exact pn_r hp
theorem PK.ke {p : Int} {f0 f1 : Nat → Int} {R C : Nat} {A : Nat → Nat → Int} (h : PK p 36 f0 f1) (hR : R ≤ 6) (hC : C ≤ 6) (hA : ∀ i j, i < R → j < C → MM f0 i j = A i j) : KE p R C A f1 :=
  KE.init fun i j hi hj => by
    rw [← hA i j hi hj]
    unfold MM
    rw [h, if_pos (by omega)]
    exact pn_d _ _
theorem pnz {p : Int} {f : Nat → Int} (B : PB p f) {i j : Nat} (hi : i < 6) (hj : j < 6) (h : MM f i j ≠ 0) : ¬ p ∣ MM f i j := fun q => by
  obtain ⟨b1, b2⟩ := B i j hi hj
  have := Int.le_of_dvd (by omega) q
  omega
theorem rd5 {f : Nat → Int} {i j : Nat} {z : Int} (hz : z = 6 * (i : Int) + (j : Int)) : f z.toNat = MM f i j := by
  rw [hz]
  unfold MM
  congr 1
theorem inv_of {p a y : Nat} (h : y * a % p = 1) : (p : Int) ∣ (a : Int) * (y : Int) - 1 := by
  refine ⟨((y * a / p : Nat) : Int), ?_⟩
  have := Nat.div_add_mod (y * a) p
  rw [h] at this
  have e : ((y * a : Nat) : Int) = ((p * (y * a / p) + 1 : Nat) : Int) := by rw [this]
  rw [Int.natCast_mul, Int.natCast_add, Int.natCast_mul] at e
  rw [Int.mul_comm (a : Int)]
  omega
/-- what lays leaves -/
def LZ (A : Nat → Nat → Int) (R C k : Nat) (f : Nat → Int) : Prop := ∀ t, t < k → f t = if t / 6 < R ∧ t % 6 < C then A (t / 6) (t % 6) else 0
theorem LZ.put {A : Nat → Nat → Int} {R C k : Nat} {f : Nat → Int} (h : LZ A R C k f) {v : Int} (hv : v = if k / 6 < R ∧ k % 6 < C then A (k / 6) (k % 6) else 0) : LZ A R C (k + 1) (upn f k v) := fun t ht => by
  by_cases q : t = k
  · rw [upn_eq q, hv, q]
  · rw [upn_ne q]; exact h t (by omega)
theorem LZ.all {A : Nat → Nat → Int} {R C : Nat} {f : Nat → Int} (h : LZ A R C 36 f) (hR : R ≤ 6) (hC : C ≤ 6) : ∀ i j, i < R → j < C → MM f i j = A i j := fun i j hi hj => by
  unfold MM
  rw [h _ (by omega), show (6 * i + j) / 6 = i by omega, show (6 * i + j) % 6 = j by omega, if_pos ⟨hi, hj⟩]

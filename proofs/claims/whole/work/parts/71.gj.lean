/-! ELIMINATION in whole numbers: Gauss and Jordan's step, Bareiss's steps, bounds. -/
theorem aj_uc (n k : Nat) (v : Nat → Int) (K : Nat → Nat → Int) (a : Nat) : aj n (uc k v K) k a = aj n K k a := by
  unfold aj
  congr 1
  funext i j
  unfold uc
  by_cases q : j = k
  · rw [if_pos q, if_pos q]
  · rw [if_neg q, if_neg q, if_neg q]
theorem gj_step {n k r : Nat} (hk : k < n) (hr : r < n) (hrk : r ≠ k) (K : Nat → Nat → Int) (v : Nat → Int) (hD : dT n (uc k v K) ≠ 0) {a : Nat} (ha : a < n) :
    dT n K * aj n (uc k v K) r a = dT n (uc k v K) * aj n K r a - sI n (fun b => v b * aj n K r b) * aj n K k a := by
  obtain ⟨X, hX⟩ : ∃ X, X = sI n (fun b => v b * aj n K r b) := ⟨_, rfl⟩
  obtain ⟨D, hDD⟩ : ∃ D, D = dT n (uc k v K) := ⟨_, rfl⟩
  obtain ⟨d, hd⟩ : ∃ d, d = dT n K := ⟨_, rfl⟩
  rw [← hX, ← hDD, ← hd]
  have key := lcancel (n := n) (K := uc k v K) (y := fun a => d * aj n (uc k v K) r a - (D * aj n K r a - X * aj n K k a)) (fun j hj => ?_) ha
  · have : d * aj n (uc k v K) r a - (D * aj n K r a - X * aj n K k a) = 0 := by
      rcases Int.mul_eq_zero.mp key with q | q
      · exact absurd q hD
      · exact q
    omega
  · have e0 : sI n (fun a => (d * aj n (uc k v K) r a - (D * aj n K r a - X * aj n K k a)) * uc k v K a j) = d * sI n (fun a => uc k v K a j * aj n (uc k v K) r a) - (D * sI n (fun a => uc k v K a j * aj n K r a) - X * sI n (fun a => uc k v K a j * aj n K k a)) := by
      rw [← sI_mul, ← sI_mul, ← sI_mul, ← sI_sub, ← sI_sub]
      exact sI_congr fun a _ => by grind
    rw [e0, aj_mul hr hj]
    by_cases q : j = k
    · subst q
      rw [if_neg (Ne.symm hrk)]
      have e1 : sI n (fun a => uc j v K a j * aj n K r a) = X := by rw [hX]; exact sI_congr fun a _ => by rw [uc_at]
      have e2 : sI n (fun a => uc j v K a j * aj n K j a) = D := by rw [hDD, cramer hk]; exact sI_congr fun a _ => by rw [uc_at]
      rw [e1, e2]; grind
    · have e1 : sI n (fun a => uc k v K a j * aj n K r a) = if j = r then d else 0 := by rw [hd, ← aj_mul hr hj]; exact sI_congr fun a _ => by rw [uc_ne _ _ _ q]
      have e2 : sI n (fun a => uc k v K a j * aj n K k a) = 0 := by rw [show (0 : Int) = if j = k then dT n K else 0 from (if_neg q).symm, ← aj_mul hk hj]; exact sI_congr fun a _ => by rw [uc_ne _ _ _ q]
      rw [e1, e2, ← hDD]
      by_cases q2 : j = r
      · rw [if_pos q2, if_pos q2]; grind
      · rw [if_neg q2, if_neg q2]; grind
/-- a row told anew by itself and other rows -/
theorem dT_addrow {n i m : Nat} (hi : i < n) (hm : m ≤ i) (x : Int) (c : Nat → Int) (A : Nat → Nat → Int) : dT n (ur i (fun b => x * A i b - sI m (fun a => c a * A a b)) A) = x * dT n A := by
  have e : (fun b => x * A i b - sI m (fun a => c a * A a b)) = (fun b => x * A i b + (-1) * sI m (fun a => c a * A a b)) := by funext b; omega
  rw [e, dT_lin n i x (-1) (A i) (fun b => sI m (fun a => c a * A a b)) A hi, ur_id, dT_rsum n i m c A A hi, sI_zero m (fun a ha => by
    rw [dT_eq hi (show a < n by omega) (by omega) (fun k => by rw [ur_at, ur_ne _ _ (by omega)]), Int.mul_zero])]
  omega
/-- what stands in the table when k columns are worked -/
def BI (n k : Nat) (B m : Nat → Nat → Int) (d : Int) : Prop := d = dT k B ∧ d ≠ 0 ∧ ∀ i, k ≤ i → i < n → ∃ c : Nat → Int, ∀ j, j < n → (if j < k then 0 else m i j) = d * B i j - sI k (fun a => c a * B a j)
theorem bi0 {n : Nat} {A m : Nat → Nat → Int} (h : ∀ i j, i < n → j < n → m i j = A i j) : BI n 0 A m 1 :=
  ⟨rfl, by decide, fun i _ hi => ⟨fun _ => 0, fun j hj => by rw [if_neg (by omega), h i j hi hj, sI_0]; omega⟩⟩
theorem bi_sw {n k p q : Nat} {B m : Nat → Nat → Int} {d : Int} (h : BI n k B m d) (hp : k ≤ p) (hp' : p < n) (hq : k ≤ q) (hq' : q < n) (hpq : p ≠ q) : BI n k (sw p q B) (sw p q m) d := by
  obtain ⟨h1, h2, h3⟩ := h
  have low : ∀ a, a < k → sw p q B a = B a := fun a ha => sw_o (by omega) (by omega) B
  refine ⟨?_, h2, fun i hi hi' => ?_⟩
  · rw [h1]
    exact dT_congr k fun i j hi _ => by rw [low i hi]
  · have key : ∀ i', k ≤ i' → i' < n → (sw p q B i = B i' ∧ sw p q m i = m i') → ∃ c : Nat → Int, ∀ j, j < n → (if j < k then 0 else sw p q m i j) = d * sw p q B i j - sI k (fun a => c a * sw p q B a j) := by
      rintro i' a1 a2 ⟨a3, a4⟩
      obtain ⟨c, hc⟩ := h3 i' a1 a2
      refine ⟨c, fun j hj => ?_⟩
      rw [a3, a4, hc j hj]
      congr 1
      exact sI_congr fun a ha => by rw [low a ha]
    by_cases e1 : i = p
    · subst e1; exact key q hq hq' ⟨sw_i _ _ _, sw_i _ _ _⟩
    · by_cases e2 : i = q
      · subst e2; exact key p hp hp' ⟨sw_j e1 _, sw_j e1 _⟩
      · exact key i hi hi' ⟨sw_o e1 e2 _, sw_o e1 e2 _⟩
/-- no pivot: the determinant is 0 -/
theorem bi_none {n k : Nat} {B m : Nat → Nat → Int} {d : Int} (h : BI n k B m d) (hk : k < n) (hz : ∀ i, k ≤ i → i < n → m i k = 0) : dT n B = 0 := by
  obtain ⟨h1, h2, h3⟩ := h
  obtain ⟨x, hx⟩ : ∃ x : Nat → Int, x = fun j => if j < k then sI k (fun b => aj k (fun i j => B j i) b j * B b k) else if j = k then -d else 0 := ⟨_, rfl⟩
  have xs : ∀ f : Nat → Int, sI n (fun j => f j * x j) = sI k (fun j => f j * x j) + f k * x k := by
    intro f
    have e := sI_z (f := fun j => f j * x j) (a := k + 1) (n - (k + 1)) (fun j j1 j2 => by rw [hx]; simp only; rw [if_neg (by omega), if_neg (by omega), Int.mul_zero])
    rw [show k + 1 + (n - (k + 1)) = n by omega] at e
    rw [e, sI_s]
  have xk : x k = -d := by rw [hx]; simp
  have low : ∀ a, a < k → sI n (fun j => B a j * x j) = 0 := by
    intro a ha
    rw [xs, xk]
    have e1 : sI k (fun j => B a j * x j) = sI k (fun j => sI k (fun b => (B a j * aj k (fun i j => B j i) b j) * B b k)) := by
      refine sI_congr fun j hj => ?_
      rw [hx]; simp only; rw [if_pos hj, ← sI_mul]
      exact sI_congr fun b _ => by grind
    have e2 : sI k (fun b => sI k (fun j => (B a j * aj k (fun i j => B j i) b j) * B b k)) = sI k (fun b => B b k * (if a = b then 1 else 0) * d) := by
      refine sI_congr fun b hb => ?_
      rw [sI_mulr, aq_mul ha hb B, ← h1]
      split <;> grind
    rw [e1, sI_comm, e2, sI_mulr, sI_delta ha]
    grind
  have all : ∀ i, i < n → sI n (fun j => B i j * x j) = 0 := by
    intro i hi
    rcases Nat.lt_or_ge i k with q | q
    · exact low i q
    · obtain ⟨c, hc⟩ := h3 i q hi
      have e1 : sI n (fun j => (if j < k then 0 else m i j) * x j) = d * sI n (fun j => B i j * x j) - sI k (fun a => c a * sI n (fun j => B a j * x j)) := by
        have e2 : sI k (fun a => c a * sI n (fun j => B a j * x j)) = sI n (fun j => sI k (fun a => c a * B a j) * x j) := by
          rw [show sI n (fun j => sI k (fun a => c a * B a j) * x j) = sI n (fun j => sI k (fun a => c a * (B a j * x j))) from sI_congr fun j _ => by
            rw [← sI_mulr]; exact sI_congr fun a _ => by grind]
          rw [sI_comm]
          exact sI_congr fun a _ => (sI_mul _ _ _).symm
        rw [e2, ← sI_mul, ← sI_sub]
        exact sI_congr fun j hj => by rw [hc j hj]; grind
      rw [sI_zero k (fun a ha => by rw [low a ha, Int.mul_zero]), xs, sI_zero k (fun j hj => by rw [if_pos hj, Int.zero_mul]), if_neg (by omega), hz i q hi] at e1
      have : d * sI n (fun j => B i j * x j) = 0 := by omega
      rcases Int.mul_eq_zero.mp this with q | q
      · exact absurd q h2
      · exact q
  have := rcancel all hk
  rw [xk] at this
  rcases Int.mul_eq_zero.mp this with q | q
  · exact q
  · omega
/-- the next corner is the pivot -/
theorem bi_piv {n k : Nat} {B m : Nat → Nat → Int} {d : Int} (h : BI n k B m d) (hk : k < n) : dT (k + 1) B = m k k := by
  obtain ⟨h1, h2, h3⟩ := h
  obtain ⟨c, hc⟩ := h3 k (Nat.le_refl k) hk
  have e1 := dT_addrow (n := k + 1) (i := k) (m := k) (by omega) (Nat.le_refl k) d c B
  have e2 := dT_last k (ur k (fun b => d * B k b - sI k (fun a => c a * B a b)) B) (fun j hj => by
    rw [ur_at]; have := hc j (by omega); rw [if_pos hj] at this; exact this.symm)
  rw [e1, ur_at] at e2
  have e3 := hc k hk
  rw [if_neg (by omega)] at e3
  rw [← e3] at e2
  have e4 : dT k (ur k (fun b => d * B k b - sI k (fun a => c a * B a b)) B) = d := by
    rw [h1]; exact dT_congr k fun i j hi _ => by rw [ur_ne _ _ (by omega)]
  rw [e4, Int.mul_comm (m k k) d] at e2
  exact Int.eq_of_mul_eq_mul_left h2 e2
/-- the next table -/
def bnx (k : Nat) (B : Nat → Nat → Int) (i j : Nat) : Int := dT (k + 2) (fun a b => B (if a = k + 1 then i else a) (if b = k + 1 then j else b))
theorem bi_next {n k : Nat} {B m : Nat → Nat → Int} {d : Int} (h : BI n k B m d) (hk : k < n) (hp : m k k ≠ 0) :
    (∀ i j, k < i → i < n → k < j → j < n → d * bnx k B i j = m i j * m k k - m i k * m k j) ∧ ∀ m' : Nat → Nat → Int, (∀ i j, k < i → i < n → k < j → j < n → m' i j = bnx k B i j) → BI n (k + 1) B m' (m k k) := by
  have hp1 := bi_piv h hk
  obtain ⟨h1, h2, h3⟩ := h
  obtain ⟨p, hpp⟩ : ∃ p, p = m k k := ⟨_, rfl⟩
  rw [← hpp] at hp hp1 ⊢
  -- the coefficients
  have coef : ∀ i, ∃ c : Nat → Int, ∀ j, j < k + 1 → p * B i j - sI (k + 1) (fun a => c a * B a j) = 0 := by
    intro i
    refine ⟨fun a => sI (k + 1) (fun b => B i b * aj (k + 1) B b a), fun j hj => ?_⟩
    have e1 : sI (k + 1) (fun a => sI (k + 1) (fun b => B i b * aj (k + 1) B b a) * B a j) = sI (k + 1) (fun b => B i b * (if j = b then 1 else 0) * p) := by
      rw [show sI (k + 1) (fun a => sI (k + 1) (fun b => B i b * aj (k + 1) B b a) * B a j) = sI (k + 1) (fun a => sI (k + 1) (fun b => B i b * (B a j * aj (k + 1) B b a))) from sI_congr fun a _ => by
        rw [← sI_mulr]; exact sI_congr fun b _ => by grind]
      rw [sI_comm]
      refine sI_congr fun b hb => ?_
      rw [sI_mul, aj_mul hb hj, hp1]
      split <;> grind
    rw [e1, sI_mulr, sI_delta hj]; grind
  -- the bordered minor
  have bord : ∀ i j, k < i → i < n → k < j → j < n → ∀ c : Nat → Int, (∀ j, j < k + 1 → p * B i j - sI (k + 1) (fun a => c a * B a j) = 0) → p * B i j - sI (k + 1) (fun a => c a * B a j) = bnx k B i j := by
    intro i j i1 i2 j1 j2 c hc
    obtain ⟨C, hC⟩ : ∃ C : Nat → Nat → Int, C = fun a b => B (if a = k + 1 then i else a) (if b = k + 1 then j else b) := ⟨_, rfl⟩
    have hb : bnx k B i j = dT (k + 2) C := by rw [hC]; rfl
    have e1 := dT_addrow (n := k + 2) (i := k + 1) (m := k + 1) (by omega) (Nat.le_refl _) p c C
    have row : ∀ b, p * C (k + 1) b - sI (k + 1) (fun a => c a * C a b) = p * B i (if b = k + 1 then j else b) - sI (k + 1) (fun a => c a * B a (if b = k + 1 then j else b)) := by
      intro b
      rw [hC]; simp only [if_pos]
      congr 1
      exact sI_congr fun a ha => by rw [if_neg (by omega)]
    have e2 := dT_last (k + 1) (ur (k + 1) (fun b => p * C (k + 1) b - sI (k + 1) (fun a => c a * C a b)) C) (fun b hb => by
      rw [ur_at, row, if_neg (by omega)]; exact hc b hb)
    rw [e1, ur_at, row, if_pos rfl] at e2
    have e3 : dT (k + 1) (ur (k + 1) (fun b => p * C (k + 1) b - sI (k + 1) (fun a => c a * C a b)) C) = p := by
      rw [← hp1]
      exact dT_congr (k + 1) fun a b ha hb' => by rw [ur_ne _ _ (by omega), hC]; simp only; rw [if_neg (by omega), if_neg (by omega)]
    rw [e3, Int.mul_comm _ p] at e2
    rw [hb]
    exact (Int.eq_of_mul_eq_mul_left hp e2).symm
  refine ⟨fun i j i1 i2 j1 j2 => ?_, fun m' hm => ⟨hp1.symm, hp, fun i i1 i2 => ?_⟩⟩
  · obtain ⟨c, hc⟩ := coef i
    obtain ⟨ci, hci⟩ := h3 i (by omega) i2
    obtain ⟨ck, hck⟩ := h3 k (Nat.le_refl k) hk
    rw [← bord i j i1 i2 j1 j2 c hc]
    -- e : what is left of rows below k + 1
    obtain ⟨e, he⟩ : ∃ e : Nat → Int, e = fun a => -(d * c a) + (if a < k then p * ci a - m i k * ck a else m i k * d) := ⟨_, rfl⟩
    have sm : ∀ t, t < n → sI (k + 1) (fun a => e a * B a t) = -(d * sI (k + 1) (fun a => c a * B a t)) + (p * sI k (fun a => ci a * B a t) - m i k * sI k (fun a => ck a * B a t) + m i k * d * B k t) := by
      intro t ht
      rw [sI_s, sI_s]
      have : sI k (fun a => e a * B a t) = -(d * sI k (fun a => c a * B a t)) + (p * sI k (fun a => ci a * B a t) - m i k * sI k (fun a => ck a * B a t)) := by
        have e5 : -(d * sI k (fun a => c a * B a t)) = (-d) * sI k (fun a => c a * B a t) := by grind
        rw [e5, ← sI_mul, ← sI_mul, ← sI_mul, ← sI_sub, ← sI_add]
        exact sI_congr fun a ha => by rw [he]; simp only; rw [if_pos ha]; grind
      rw [this, he]; simp only; rw [if_neg (by omega)]; grind
    have full : ∀ t, t < n → d * (p * B i t - sI (k + 1) (fun a => c a * B a t)) - ((if t < k then 0 else m i t) * p - m i k * (if t < k then 0 else m k t)) = sI (k + 1) (fun a => e a * B a t) := by
      intro t ht
      rw [hci t ht, hck t ht, sm t ht]; grind
    have ez : ∀ a, a < k + 1 → e a = 0 := by
      intro a ha
      have := lcancel (n := k + 1) (K := B) (y := e) (fun t ht => by
        rw [← full t (by omega), hc t ht]
        by_cases q : t < k
        · rw [if_pos q, if_pos q]; grind
        · rw [show t = k by omega, if_neg (by omega), if_neg (by omega), ← hpp]; grind) ha
      rw [hp1] at this
      rcases Int.mul_eq_zero.mp this with q | q
      · exact absurd q hp
      · exact q
    have := full j j2
    have z0 : sI (k + 1) (fun a => e a * B a j) = 0 := sI_zero (k + 1) (fun a ha => by rw [ez a ha, Int.zero_mul])
    rw [z0, if_neg (by omega), if_neg (by omega)] at this
    omega
  · obtain ⟨c, hc⟩ := coef i
    refine ⟨c, fun j hj => ?_⟩
    by_cases q : j < k + 1
    · rw [if_pos q]; exact (hc j q).symm
    · rw [if_neg q, hm i j i1 i2 (by omega) hj]; exact (bord i j i1 i2 (by omega) hj c hc).symm
/-- a bound -/
def fcb : Nat → Nat → Nat
  | 0, _ => 1
  | n + 1, b => (n + 1) * (b * fcb n b)
theorem dT_b : ∀ (n b : Nat) (A : Nat → Nat → Int), (∀ i j, i < n → j < n → (A i j).natAbs ≤ b) → (dT n A).natAbs ≤ fcb n b
  | 0, _, _, _ => Nat.le_refl _
  | n + 1, b, A, h => by
    have h1 := sI_b (f := fun j => sgn j * A 0 j * dT n (fun i k => A (i + 1) (skp j k))) (B := ((b * fcb n b : Nat) : Int)) (n + 1) (fun j hj => by
      refine abs_b ?_
      rw [Int.natAbs_mul, Int.natAbs_mul]
      refine Nat.mul_le_mul ?_ (dT_b n b _ (fun i k hi hk => h _ _ (by omega) (skp_lt hk)))
      have s1 : (sgn j).natAbs = 1 := by unfold sgn; split <;> rfl
      rw [s1, Nat.one_mul]
      exact h 0 j (by omega) hj)
    rw [dT_s]
    have h2 : fcb (n + 1) b = (n + 1) * (b * fcb n b) := rfl
    rw [h2]
    have h3 : (((n + 1) * (b * fcb n b) : Nat) : Int) = ((n + 1 : Nat) : Int) * ((b * fcb n b : Nat) : Int) := Int.natCast_mul _ _
    omega

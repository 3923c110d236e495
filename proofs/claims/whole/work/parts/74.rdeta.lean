/-! THE REFERENCE'S DETERMINANT. -/
theorem rd54 {h : HH} {f : Nat → Int} {i j : Nat} {z : Int} (hz : z = 6 * (i : Int) + (j : Int)) : setc h 54 f 54 z.toNat = MM f i j := by
  rw [setc_at, hz]
  unfold MM
  congr 1
/-- rows up to i, columns up to t are told anew -/
def DI (n k i t : Nat) (B : Nat → Nat → Int) (f0 f1 : Nat → Int) : Prop := ∀ a b, a < n → b < n → MM f1 a b = if k < a ∧ k < b ∧ (a < i ∨ (a = i ∧ b < t)) then bnx k B a b else MM f0 a b
theorem DI.zero {n k : Nat} {B : Nat → Nat → Int} {f : Nat → Int} : DI n k (k + 1) 0 B f f := fun a b _ _ => by rw [if_neg (by omega)]
theorem DI.start {n k i : Nat} {B : Nat → Nat → Int} {f0 f1 : Nat → Int} (D : DI n k i 0 B f0 f1) : DI n k i (k + 1) B f0 f1 := fun a b h1 h2 => by
  rw [D a b h1 h2]
  by_cases q : k < a ∧ k < b ∧ (a < i ∨ (a = i ∧ b < 0))
  · rw [if_pos q, if_pos (by omega)]
  · rw [if_neg q, if_neg (by omega)]
theorem DI.put {n k i t : Nat} {B : Nat → Nat → Int} {f0 f1 : Nat → Int} (D : DI n k i t B f0 f1) (hn : n ≤ 6) (hi : k < i) (ht : k < t) (ht2 : t < n) {v : Int} (hv : v = bnx k B i t) : DI n k i (t + 1) B f0 (upn f1 (6 * i + t) v) := fun a b h1 h2 => by
  unfold MM
  by_cases q : 6 * a + b = 6 * i + t
  · rw [upn_eq q, hv, if_pos (by omega)]
    rw [show a = i by omega, show b = t by omega]
  · rw [upn_ne q]
    show MM f1 a b = _
    rw [D a b h1 h2]
    by_cases q2 : k < a ∧ k < b ∧ (a < i ∨ (a = i ∧ b < t))
    · rw [if_pos q2, if_pos (by omega)]
    · rw [if_neg q2, if_neg (by omega)]; rfl
theorem DI.next {n k i t : Nat} {B : Nat → Nat → Int} {f0 f1 : Nat → Int} (D : DI n k i t B f0 f1) (ht : n ≤ t) : DI n k (i + 1) 0 B f0 f1 := fun a b h1 h2 => by
  rw [D a b h1 h2]
  by_cases q : k < a ∧ k < b ∧ (a < i ∨ (a = i ∧ b < t))
  · rw [if_pos q, if_pos (by omega)]
  · rw [if_neg q, if_neg (by omega)]
theorem DI.old {n k i t : Nat} {B : Nat → Nat → Int} {f0 f1 : Nat → Int} (D : DI n k i t B f0 f1) {a b : Nat} (h1 : a < n) (h2 : b < n) (h3 : a ≤ k ∨ b ≤ k ∨ i < a ∨ (a = i ∧ t ≤ b)) : MM f1 a b = MM f0 a b := by rw [D a b h1 h2, if_neg (by omega)]
theorem DI.bi {n k i t : Nat} {B : Nat → Nat → Int} {f0 f1 : Nat → Int} {d : Int} (D : DI n k i t B f0 f1) (hi : n ≤ i) (hk : k < n) (I : BI n k B (MM f0) d) (hp : MM f0 k k ≠ 0) : BI n (k + 1) B (MM f1) (MM f0 k k) :=
  (bi_next I hk hp).2 (MM f1) fun a b h1 h2 h3 h4 => by rw [D a b h2 h4, if_pos (by omega)]
theorem det_q {n k b i j : Nat} {B m : Nat → Nat → Int} {d : Int} (I : BI n k B m d) (hb : ∀ i j, i < n → j < n → (B i j).natAbs ≤ b) (hB : ∀ k, k + 2 ≤ n → fcb k b * fcb (k + 2) b < 2 ^ 63) (hk : k < n) (hp : m k k ≠ 0) (h1 : k < i) (h2 : i < n) (h3 : k < j) (h4 : j < n) :
    R64 (m i j * m k k - m i k * m k j) ∧ (m i j * m k k - m i k * m k j).tdiv d = bnx k B i j ∧ R64 (bnx k B i j) := by
  have e := (bi_next I hk hp).1 i j h1 h2 h3 h4
  have b1 : d.natAbs ≤ fcb k b := by rw [I.1]; exact dT_b k b B (fun i j hi hj => hb i j (by omega) (by omega))
  have b2 : (bnx k B i j).natAbs ≤ fcb (k + 2) b := dT_b (k + 2) b _ (fun x y hx hy => hb _ _ (by split <;> omega) (by split <;> omega))
  have b3 : (d * bnx k B i j).natAbs < 2 ^ 63 := by
    rw [Int.natAbs_mul]
    exact Nat.lt_of_le_of_lt (Nat.mul_le_mul b1 b2) (hB k (by omega))
  have b4 : (bnx k B i j).natAbs ≤ (d * bnx k B i j).natAbs := by
    rw [Int.natAbs_mul]
    exact Nat.le_mul_of_pos_left _ (by have := I.2.1; omega)
  rw [← e]
  refine ⟨by omega, Int.mul_tdiv_cancel_left _ I.2.1, by omega⟩
theorem sw_MM {p q : Nat} (f : Nat → Int) {n k : Nat} {B : Nat → Nat → Int} {d : Int} (hn : n ≤ 6) (I : BI n k B (sw p q (MM f)) d) : BI n k B (MM (swf p q 6 f)) d := by
  obtain ⟨h1, h2, h3⟩ := I
  refine ⟨h1, h2, fun i hi hi' => ?_⟩
  obtain ⟨c, hc⟩ := h3 i hi hi'
  refine ⟨c, fun j hj => ?_⟩
  rw [← hc j hj, MM_sw f (by omega)]
  by_cases e1 : i = p
  · subst e1; rw [sw_i, if_pos rfl]
  · by_cases e2 : i = q
    · subst e2; rw [sw_j e1, if_neg e1, if_pos rfl]
    · rw [sw_o e1 e2, if_neg e1, if_neg e2]

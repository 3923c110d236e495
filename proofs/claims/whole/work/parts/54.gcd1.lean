theorem gcd_step {x y k : Nat} (h : y < x) (hy : 0 < y) (hk : 1 ≤ k) (hp : x * y * 2 ^ (k - 1) ≤ 2 ^ 126) : y * (x % y) * 2 ^ (k + 1 - 1) ≤ 2 ^ 126 := by
  have h1 := Nat.mod_add_div x y
  have h2 : y * 1 ≤ y * (x / y) := Nat.mul_le_mul_left _ (Nat.div_pos (Nat.le_of_lt h) hy)
  have h3 := Nat.mod_lt x hy
  have h4 : 2 * (x % y) ≤ x := by omega
  have h5 : (2 * (x % y)) * y * 2 ^ (k - 1) ≤ x * y * 2 ^ (k - 1) := Nat.mul_le_mul_right _ (Nat.mul_le_mul_right _ h4)
  have h6 : y * (x % y) * 2 ^ (k + 1 - 1) = (2 * (x % y)) * y * 2 ^ (k - 1) := by
    rw [show k + 1 - 1 = (k - 1) + 1 by omega, Nat.pow_succ]
    rw [Nat.mul_comm y (x % y), Nat.mul_comm (2 ^ (k - 1)) 2, ← Nat.mul_assoc, Nat.mul_comm (x % y * y) 2, ← Nat.mul_assoc 2]
  omega
theorem gcd_first {x y : Nat} (hx : x < 2 ^ 63) (hy : y < 2 ^ 63) (h0 : 0 < y) : y * (x % y) * 2 ^ (0 + 1 - 1) ≤ 2 ^ 126 := by
  have h3 := Nat.mod_lt x h0
  have h4 : y * (x % y) ≤ 2 ^ 63 * 2 ^ 63 := Nat.mul_le_mul (by omega) (by omega)
  rw [show 2 ^ (0 + 1 - 1) = 1 from rfl]
  omega
theorem gcd_end {x y : Nat} (h : y < x) (hp : x * y * 2 ^ (200 - 1) ≤ 2 ^ 126) : y = 0 := by
  rcases Nat.eq_zero_or_pos y with q | q
  · exact q
  · have h1 : 1 * 1 ≤ x * y := Nat.mul_le_mul (by omega) q
    have h2 : 1 * 1 * 2 ^ (200 - 1) ≤ x * y * 2 ^ (200 - 1) := Nat.mul_le_mul_right _ h1
    omega

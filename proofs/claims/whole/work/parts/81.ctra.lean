theorem gcd_b {a b : Int} (h : b ≠ 0) : 0 < Int.gcd a b ∧ Int.gcd a b ≤ b.natAbs := by
  refine ⟨?_, Nat.le_of_dvd (by omega) (Nat.gcd_dvd_right a.natAbs b.natAbs)⟩
  exact Nat.gcd_pos_of_pos_right _ (by omega)
def twp (A : Nat → Nat → Int) (R s y : Nat) (t : Int) : Prop := (pc6 s = y ∧ ∃ d : Nat, t = d ∧ Dv A R s y d) ∨ (pc6 s ≠ y ∧ t = 0)

/-- d is the greatest divisor of the minors of size k, their columns among a -/
def Dv (A : Nat → Nat → Int) (R a k d : Nat) : Prop := (∀ r c, r < 2 ^ R → c &&& a = c → pc6 r = k → pc6 c = k → (d : Int) ∣ mnr A k r c) ∧ ∀ x : Nat, (∀ r c, r < 2 ^ R → c &&& a = c → pc6 r = k → pc6 c = k → (x : Int) ∣ mnr A k r c) → x ∣ d
theorem igcd_lt {d : Nat} {m : Int} {B : Nat} (hd : d < B) (hm : m.natAbs < B) : Int.gcd (d : Int) m < B := by
  show Nat.gcd (d : Int).natAbs m.natAbs < B
  rw [Int.natAbs_natCast]
  rcases Nat.eq_zero_or_pos d with q | q
  · subst q; rw [Nat.gcd_zero_left]; exact hm
  · exact Nat.lt_of_le_of_lt (Nat.gcd_le_left _ q) hd

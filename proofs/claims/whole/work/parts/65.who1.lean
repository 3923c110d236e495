/-- o is the order of the chain c: what orderOf answers -/
def OrdP (σ : SG) (c : Nat) (o : Int) : Prop := ∃ k l : Nat, Rk (entc σ c) (sE σ) (2 ^ sF σ - 1) 0 k ∧ Rk (entc σ c) (sE σ) (2 ^ (sF σ + 1) - 1) 0 l ∧ (l ≠ k → o = 0) ∧ (l = k → ∃ d : Nat, Dv (entc σ c) (sE σ) (2 ^ (sF σ + 1) - 1) k d ∧ (d = 0 → o = 0) ∧ (d ≠ 0 → ∃ e : Nat, Dv (entc σ c) (sE σ) (2 ^ sF σ - 1) k e ∧ o = (e : Int).tdiv d))

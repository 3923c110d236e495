/-- v times the weights of the columns c below i -/
def wpP (w : Nat → Nat) (c : Nat) (v : Int) : Nat → Int
  | 0 => v
  | i + 1 => if mbit c i then wpP w c v i * (w i : Int) else wpP w c v i
theorem b_tst0 : ∀ c : Fin 64, ∀ j : Fin 6, iand (ishr (c.val : Int) (j.val : Int)) 1 = (if mbit c.val j.val then 1 else 0) := by decide +kernel
theorem b_tst {c j : Nat} (h : c < 64) (hj : j < 6) : iand (ishr (c : Int) (j : Int)) 1 = (if mbit c j then 1 else 0) ∧ True := ⟨b_tst0 ⟨c, h⟩ ⟨j, hj⟩, trivial⟩

theorem pr4 {p : Nat} (hp : p = 2 ∨ p = 3 ∨ p = 5 ∨ p = 7) : PR (p : Int) := pr_small (by omega)
theorem setc_F {h h' : HH} {f g : Nat → Int} (e : h' = setc (setc h 54 f) 54 g) : F54 h h' := ⟨g, by rw [e, setc_setc]⟩
theorem rm54 {h : HH} {σ : SG} (R : RM (h 48) σ) (f : Nat → Int) : RM (setc h 54 f 48) σ := by rw [setc_ne _ _ (by decide)]; exact R

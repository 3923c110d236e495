/-- column F of the grid's first i rows is v, the rest as it was -/
def AC (h h1 : HH) (F i : Nat) (v : Nat → Int) : Prop := (∀ k, k ≠ 9 → k < 11 ∨ 17 ≤ k → h1 k = h k) ∧ h1 9 2 = h 9 2 ∧ h1 9 3 = h 9 3 ∧ (∀ i', i' < i → h1 (11 + i') F = v i') ∧ ∀ i' j', j' ≠ F → h1 (11 + i') j' = h (11 + i') j'
theorem AC.put {h h1 : HH} {F i : Nat} {v : Nat → Int} (L : AC h h1 F i v) (hi : i < 6) {z : Int} (hz : z = (F : Int)) : AC h (up h1 (11 + i) z.toNat (v i)) F (i + 1) v := by
  obtain ⟨l1, l2, l3, l4, l5⟩ := L
  rw [up_n hz]
  refine ⟨fun k k1 k2 => ?_, ?_, ?_, fun i' h1 => ?_, fun i' j' h1 => ?_⟩
  · rw [setc_ne _ _ (by omega)]; exact l1 k k1 k2
  · rw [setc_ne _ _ (by omega)]; exact l2
  · rw [setc_ne _ _ (by omega)]; exact l3
  · by_cases q : i' = i
    · subst q; rw [setc_at, upn_eq rfl]
    · rw [setc_ne _ _ (by omega)]; exact l4 i' (by omega)
  · by_cases q : i' = i
    · subst q; rw [setc_at, upn_ne h1]; exact l5 i' j' h1
    · rw [setc_ne _ _ (by omega)]; exact l5 i' j' h1

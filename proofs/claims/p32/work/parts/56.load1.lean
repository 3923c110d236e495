/-- the grid's rows up to i hold e -/
def LG (h h1 : HH) (R C i j : Nat) (e : Nat → Nat → Int) : Prop := (∀ k, k ≠ 9 → k < 11 ∨ 17 ≤ k → h1 k = h k) ∧ h1 9 2 = R ∧ h1 9 3 = C ∧ (∀ i' j', i' < i → j' < C → h1 (11 + i') j' = e i' j') ∧ ∀ j', j' < j → h1 (11 + i) j' = e i j'
theorem LG.next {h h1 : HH} {R C i j : Nat} {e : Nat → Nat → Int} (L : LG h h1 R C i j e) (hj : C ≤ j) : LG h h1 R C (i + 1) 0 e := by
  obtain ⟨l1, l2, l3, l4, l5⟩ := L
  refine ⟨l1, l2, l3, fun i' j' h1 h2 => ?_, fun j' h1 => absurd h1 (Nat.not_lt_zero _)⟩
  rcases (show i' < i ∨ i' = i by omega) with q | q
  · exact l4 i' j' q h2
  · subst q; exact l5 j' (by omega)
theorem LG.put {h h1 : HH} {R C i j : Nat} {e : Nat → Nat → Int} (L : LG h h1 R C i j e) (hi : i < 6) {z : Int} (hz : z = (j : Int)) {v : Int} (hv : v = e i j) : LG h (up h1 (11 + i) z.toNat v) R C i (j + 1) e := by
  obtain ⟨l1, l2, l3, l4, l5⟩ := L
  rw [up_n hz]
  refine ⟨fun k k1 k2 => ?_, ?_, ?_, fun i' j' h1 h2 => ?_, fun j' h1 => ?_⟩
  · rw [setc_ne _ _ (by omega)]; exact l1 k k1 k2
  · rw [setc_ne _ _ (by omega)]; exact l2
  · rw [setc_ne _ _ (by omega)]; exact l3
  · rw [setc_ne _ _ (by omega)]; exact l4 i' j' h1 h2
  · rw [setc_at]
    by_cases q : j' = j
    · subst q; rw [upn_eq rfl, hv]
    · rw [upn_ne q]; exact l5 j' (by omega)

theorem pcR0 : ∀ R : Fin 7, ∀ r : Fin 64, r.val < 2 ^ R.val → pc6 r.val ≤ R.val := by decide +kernel
theorem pcR {R r : Nat} (hR : R ≤ 6) (hr : r < 2 ^ R) : pc6 r ≤ R := by
  have b := b_shl hR
  exact pcR0 ⟨R, by omega⟩ ⟨r, by omega⟩ hr
theorem sub_mask {C c : Nat} (hC : C ≤ 6) : c < 2 ^ C ↔ c &&& (2 ^ C - 1) = c := by
  rw [Nat.and_two_pow_sub_one_eq_mod]
  constructor
  · intro h; exact Nat.mod_eq_of_lt h
  · intro h; rw [← h]; exact Nat.mod_lt _ (b_pos C)

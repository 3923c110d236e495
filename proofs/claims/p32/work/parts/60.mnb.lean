theorem lb_R0 : ∀ R : Fin 7, ∀ r : Fin 64, r.val < 2 ^ R.val → r.val ≠ 0 → lb r.val < R.val := by decide +kernel
theorem lb_R {R r : Nat} (hR : R ≤ 6) (hr : r < 2 ^ R) (h0 : 0 < r) : lb r < R := by
  have b := b_shl hR
  exact lb_R0 ⟨R, by omega⟩ ⟨r, by omega⟩ hr (by show r ≠ 0; omega)
theorem bit_C {C c j : Nat} (hC : C ≤ 6) (hc : c < 2 ^ C) (hj : j < 6) (hb : mbit c j) : j < C := by
  have b := b_shl hC
  rcases Nat.lt_or_ge j C with q | q
  · exact q
  · exact absurd hb (nb_big0 ⟨C, by omega⟩ ⟨c, by omega⟩ ⟨j, hj⟩ hc q)
/-- minors of two matrices that agree where the grid is -/
theorem mnr_grid {A B : Nat → Nat → Int} {R C : Nat} (hR : R ≤ 6) (hC : C ≤ 6) (h : ∀ i j, i < R → j < C → A i j = B i j) : ∀ (k r c : Nat), r < 2 ^ R → c < 2 ^ C → pc6 r = k → mnr A k r c = mnr B k r c
  | 0, _, _, _, _, _ => rfl
  | k + 1, r, c, hr, hc, hp => by
    have b := b_shl hR
    have b' := b_shl hC
    have r0 : 0 < r := by
      rcases Nat.eq_zero_or_pos r with q | q
      · subst q; have e0 : pc6 0 = 0 := rfl; omega
      · exact q
    obtain ⟨l1, l2, l3, l4, l5⟩ := b_low (r := r) (by omega) r0
    have l6 := b_pos (lb r)
    rw [mn_s, mn_s]
    refine sI_congr fun j hj => ?_
    unfold mnT
    by_cases q : mbit c j
    · rw [if_pos q, if_pos q, h _ _ (lb_R hR hr r0) (bit_C hC hc hj q), mnr_grid hR hC h k _ _ (by omega) (Nat.lt_of_le_of_lt (Nat.sub_le _ _) hc) (by omega)]
    · rw [if_neg q, if_neg q]
theorem mnr_b {A : Nat → Nat → Int} {R C B : Nat} (hR : R ≤ 6) (hC : C ≤ 6) (h : ∀ i j, i < R → j < C → (A i j).natAbs ≤ B) : ∀ (k r c : Nat), r < 2 ^ R → c < 2 ^ C → pc6 r = k → (mnr A k r c).natAbs ≤ (6 * B) ^ k
  | 0, _, _, _, _, _ => Nat.le_refl _
  | k + 1, r, c, hr, hc, hp => by
    have b := b_shl hR
    have b' := b_shl hC
    have r0 : 0 < r := by
      rcases Nat.eq_zero_or_pos r with q | q
      · subst q; have e0 : pc6 0 = 0 := rfl; omega
      · exact q
    obtain ⟨l1, l2, l3, l4, l5⟩ := b_low (r := r) (by omega) r0
    have l6 := b_pos (lb r)
    have h1 := sI_b (f := mnT A k r c) (B := ((B * (6 * B) ^ k : Nat) : Int)) 6 (fun j hj => by
      refine abs_b ?_
      unfold mnT
      by_cases q : mbit c j
      · rw [if_pos q, Int.natAbs_mul, Int.natAbs_mul]
        refine Nat.mul_le_mul ?_ (mnr_b hR hC h k _ _ (by omega) (Nat.lt_of_le_of_lt (Nat.sub_le _ _) hc) (by omega))
        have := h _ _ (lb_R hR hr r0) (bit_C hC hc hj q)
        have s1 : (sg6 c j).natAbs = 1 := by rcases sg6_r c j with e | e <;> rw [e] <;> rfl
        rw [s1, Nat.one_mul]; exact this
      · rw [if_neg q]; exact Nat.zero_le _)
    rw [mn_s]
    have h2 : (6 * B) ^ (k + 1) = 6 * (B * (6 * B) ^ k) := by rw [Nat.pow_succ, Nat.mul_comm, Nat.mul_assoc]
    rw [h2]
    omega
theorem mnr_64 {A : Nat → Nat → Int} {R C : Nat} (hR : R ≤ 6) (hC : C ≤ 6) (h : ∀ i j, i < R → j < C → (A i j).natAbs ≤ 192) (r c : Nat) (hr : r < 2 ^ R) (hc : c < 2 ^ C) : -9223372036854775808 < mnr A (pc6 r) r c ∧ mnr A (pc6 r) r c < 9223372036854775808 := by
  have b := b_shl hR
  have h1 := mnr_b hR hC h (pc6 r) r c hr hc rfl
  have h2 := (pc6_r (c := r) (by omega)).1
  have h3 : (6 * 192) ^ pc6 r ≤ (6 * 192) ^ 6 := Nat.pow_le_pow_right (by decide) h2
  have h4 : (6 * 192) ^ 6 < 9223372036854775808 := by decide
  omega
/-- what the grid's work leaves as it was -/
def GF (h h' : HH) : Prop := ∀ k, k ≠ 9 → k < 11 ∨ 18 ≤ k → h' k = h k

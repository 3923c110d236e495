theorem sI_b {f : Nat → Int} {B : Int} : ∀ n, (∀ k, k < n → -B ≤ f k ∧ f k ≤ B) → -((n : Int) * B) ≤ sI n f ∧ sI n f ≤ (n : Int) * B
  | 0, _ => by rw [show ((0 : Nat) : Int) * B = 0 from Int.zero_mul B]; exact ⟨Int.le_refl _, Int.le_refl _⟩
  | n + 1, h => by
    have h1 := sI_b n (fun k hk => h k (by omega))
    have h2 := h n (by omega)
    have h3 : ((n + 1 : Nat) : Int) * B = (n : Int) * B + B := by rw [show ((n + 1 : Nat) : Int) = (n : Int) + 1 from rfl, Int.add_mul, Int.one_mul]
    rw [sI_s, h3]; omega
theorem abs_b {a : Int} {B : Nat} (h : a.natAbs ≤ B) : -(B : Int) ≤ a ∧ a ≤ B := by omega
theorem near0_r {σ : SG} (W : WF σ) (i j : Nat) : -18 ≤ near0 σ i j ∧ near0 σ i j ≤ 18 := by
  have w2 := W.2.1
  have h := sI_b (f := nr0 σ i j) (B := 3) (sE σ) (fun k hk => by
    have w4 := W.2.2.2.1 k hk
    have e1 := ent1_r σ i k
    have e2 := ent1_r σ j k
    refine abs_b (B := 3) ?_
    unfold nr0
    rw [Int.natAbs_mul, Int.natAbs_mul]
    exact Nat.mul_le_mul (Nat.mul_le_mul (show _ ≤ 1 by omega) (show _ ≤ 3 by omega)) (show _ ≤ 1 by omega))
  unfold near0; omega
theorem near1_r {σ : SG} (W : WF σ) (i j : Nat) : -5 ≤ near1 σ i j ∧ near1 σ i j ≤ 5 := by
  have w1 := W.1
  have h := sI_b (f := nr1 σ i j) (B := 1) (sP σ) (fun k hk => by
    have e1 := ent1_r σ k i
    have e2 := ent1_r σ k j
    refine abs_b (B := 1) ?_
    unfold nr1
    rw [Int.natAbs_mul]
    exact Nat.mul_le_mul (show _ ≤ 1 by omega) (show _ ≤ 1 by omega))
  unfold near1; omega
theorem near2_r {σ : SG} (W : WF σ) (i j : Nat) : -192 ≤ near2 σ i j ∧ near2 σ i j ≤ 192 := by
  have w3 := W.2.2.1
  have h := sI_b (f := nr2 σ i j) (B := 48) (sF σ) (fun k hk => by
    have w4 := W.2.2.2.2.1 k hk
    have w5 := w4.1
    have w6 := w4.2.1
    have e1 := ent2_r W hk (i := i)
    have e2 := ent2_r W hk (i := j)
    refine abs_b (B := 48) ?_
    unfold nr2
    rw [Int.natAbs_mul, Int.natAbs_mul]
    exact Nat.mul_le_mul (Nat.mul_le_mul (show _ ≤ 4 by omega) (show _ ≤ 3 by omega)) (show _ ≤ 4 by omega))
  unfold near2; omega

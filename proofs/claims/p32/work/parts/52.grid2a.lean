theorem lb_lt (m : Nat) : lb m < 6 := by unfold lb; (repeat' split) <;> omega
theorem mnr_congr {A B : Nat → Nat → Int} (h : ∀ i j, i < 6 → j < 6 → A i j = B i j) : ∀ (k r c : Nat), mnr A k r c = mnr B k r c
  | 0, _, _ => rfl
  | k + 1, r, c => by
    rw [mn_s, mn_s]
    refine sI_congr fun j hj => ?_
    unfold mnT
    rw [h _ _ (lb_lt r) hj, mnr_congr h k]
theorem mnr_set (h : HH) (f : Nat → Int) (k r c : Nat) : mnr (GA (setc h 17 f)) k r c = mnr (GA h) k r c :=
  mnr_congr (fun i j hi _ => by unfold GA; rw [setc_ne _ _ (by omega)]) k r c
/-- the table of minors holds them -/
def MT (f : Nat → Int) (A : Nat → Nat → Int) (R C : Nat) : Prop := ∀ r c, r < 2 ^ R → c < 2 ^ C → pc6 r = pc6 c → f (r * 64 + c) = mnr A (pc6 r) r c
def nzp (p v : Int) : Prop := ¬ (if p = 0 then v = 0 else v.tmod p = 0)
/-- z is the size of the largest minor that is not zero (by p), its columns among a -/
def Rk (A : Nat → Nat → Int) (R a : Nat) (p : Int) (z : Nat) : Prop := (∀ r c, r < 2 ^ R → c &&& a = c → pc6 r = pc6 c → nzp p (mnr A (pc6 r) r c) → pc6 r ≤ z) ∧ (z = 0 ∨ ∃ r c, r < 2 ^ R ∧ c &&& a = c ∧ pc6 r = pc6 c ∧ pc6 r = z ∧ nzp p (mnr A (pc6 r) r c))
theorem and_le {c a : Nat} (h : c &&& a = c) : c ≤ a := by have := Nat.and_le_right (n := c) (m := a); omega
theorem mt_step {f : Nat → Int} {A : Nat → Nat → Int} {R C r c : Nat} (hR : R ≤ 6) (hC : C ≤ 6) (hr0 : 0 < r) (hr : r < 2 ^ R) (hc : c < 2 ^ C) (hp : pc6 r = pc6 c) (hF : ∀ r' c, r' < r → c < 2 ^ C → pc6 r' = pc6 c → f (r' * 64 + c) = mnr A (pc6 r') r' c) : ∀ j, j < 6 → mbit c j → f ((r - 2 ^ lb r) * 64 + (c - 2 ^ j)) = mnr A (pc6 r - 1) (r - 2 ^ lb r) (c - 2 ^ j) := by
  intro j hj hb
  have b1 := b_shl hR
  have b2 := b_shl hC
  obtain ⟨l1, l2, l3, l4, l5⟩ := b_low (r := r) (by omega) hr0
  have l6 := b_pos (lb r)
  have l7 := b_pos j
  obtain ⟨m1, m2⟩ := (b_and (c := c) (j := j) (by omega) hj).2 hb
  rw [hF (r - 2 ^ lb r) (c - 2 ^ j) (by omega) (by omega) (by omega), show pc6 (r - 2 ^ lb r) = pc6 r - 1 by omega]

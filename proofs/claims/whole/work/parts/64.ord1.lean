/-- the second table with a chain as one more column -/
def entc (σ : SG) (c : Nat) : Nat → Nat → Int := fun i j => if j = sF σ then sch σ c i else ent2 σ i j
theorem entc_64 {σ : SG} (W : WF σ) {c : Nat} (hc : c < 3) (i j : Nat) (hi : i < sE σ) (hj : j < sF σ + 1) : (entc σ c i j).natAbs ≤ 192 := by
  unfold entc; split
  · have := W.2.2.2.2.2 c i hc hi; omega
  · have := ent2_r W (f := j) (i := i) (by omega); omega
theorem ac_ga {h h9 h1 : HH} {σ : SG} {c : Nat} {v : Int} (L : LG h h9 (sE σ) (sF σ) (sE σ) 0 (ent2 σ)) (Ac : AC h9 h1 (sF σ) (sE σ) (sch σ c)) : ∀ i j, i < sE σ → j < sF σ + 1 → GA (up h1 9 3 v) i j = entc σ c i j := fun i j hi hj => by
  unfold GA entc
  rw [up_ne _ _ _ (by omega)]
  split
  · rename_i q; subst q; exact Ac.2.2.2.1 i hi
  · rename_i q; rw [Ac.2.2.2.2 i j q]; exact L.2.2.2.1 i j hi (by omega)
theorem ga_64 {h1 : HH} {R C : Nat} {e : Nat → Nat → Int} (hR : R ≤ 6) (hC : C ≤ 6) (hg : ∀ i j, i < R → j < C → GA h1 i j = e i j) (he : ∀ i j, i < R → j < C → (e i j).natAbs ≤ 192) : ∀ r c, r < 2 ^ R → c < 2 ^ C → pc6 r = pc6 c → -9223372036854775808 < mnr (GA h1) (pc6 r) r c ∧ mnr (GA h1) (pc6 r) r c < 9223372036854775808 := fun r c hr hc _ => mnr_64 hR hC (fun i j hi hj => by rw [hg i j hi hj]; exact he i j hi hj) r c hr hc
theorem tdiv_r {e : Nat} (he : e < 2 ^ 63) (d : Nat) : R64 ((e : Int).tdiv d) := by
  have h1 : (e : Int).tdiv d = ((e / d : Nat) : Int) := rfl
  have h2 := Nat.div_le_self e d
  rw [h1]
  obtain ⟨q, hq⟩ : ∃ q, q = e / d := ⟨_, rfl⟩
  rw [← hq] at h2 ⊢
  constructor <;> omega

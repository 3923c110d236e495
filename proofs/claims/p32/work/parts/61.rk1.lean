theorem rk_grid {A B : Nat → Nat → Int} {R C : Nat} (hR : R ≤ 6) (hC : C ≤ 6) (h : ∀ i j, i < R → j < C → A i j = B i j) {a : Nat} (ha : a < 2 ^ C) {p : Int} {z : Nat} (K : Rk A R a p z) : Rk B R a p z := by
  have e : ∀ r c, r < 2 ^ R → c &&& a = c → mnr A (pc6 r) r c = mnr B (pc6 r) r c := fun r c h1 h2 => mnr_grid hR hC h _ r c h1 (Nat.lt_of_le_of_lt (and_le h2) ha) rfl
  obtain ⟨k1, k2⟩ := K
  refine ⟨fun r c h1 h2 h3 h4 => k1 r c h1 h2 h3 (by rw [e r c h1 h2]; exact h4), ?_⟩
  rcases k2 with q | ⟨r, c, h1, h2, h3, h4, h5⟩
  · exact Or.inl q
  · exact Or.inr ⟨r, c, h1, h2, h3, h4, by rw [← e r c h1 h2]; exact h5⟩
theorem dv_grid {A B : Nat → Nat → Int} {R C : Nat} (hR : R ≤ 6) (hC : C ≤ 6) (h : ∀ i j, i < R → j < C → A i j = B i j) {a : Nat} (ha : a < 2 ^ C) {k d : Nat} (K : Dv A R a k d) : Dv B R a k d := by
  have e : ∀ r c, r < 2 ^ R → c &&& a = c → pc6 r = k → mnr A k r c = mnr B k r c := fun r c h1 h2 h3 => mnr_grid hR hC h _ r c h1 (Nat.lt_of_le_of_lt (and_le h2) ha) h3
  obtain ⟨k1, k2⟩ := K
  exact ⟨fun r c h1 h2 h3 h4 => by rw [← e r c h1 h2 h3]; exact k1 r c h1 h2 h3 h4, fun x hx => k2 x (fun r c h1 h2 h3 h4 => by rw [e r c h1 h2 h3]; exact hx r c h1 h2 h3 h4)⟩
theorem lg_ga {h h1 : HH} {R C : Nat} {e : Nat → Nat → Int} (L : LG h h1 R C R 0 e) : ∀ i j, i < R → j < C → GA h1 i j = e i j := fun i j hi hj => L.2.2.2.1 i j hi hj
theorem lg_gf {h h1 : HH} {R C i j : Nat} {e : Nat → Nat → Int} (L : LG h h1 R C i j e) (f : Nat → Int) : GF h (setc h1 17 f) := fun k k1 k2 => by rw [setc_ne _ _ (by omega)]; exact L.1 k k1 (by omega)
theorem lg_64 {h h1 : HH} {R C : Nat} {e : Nat → Nat → Int} (L : LG h h1 R C R 0 e) (hR : R ≤ 6) (hC : C ≤ 6) (he : ∀ i j, i < R → j < C → (e i j).natAbs ≤ 192) : ∀ r c, r < 2 ^ R → c < 2 ^ C → pc6 r = pc6 c → -9223372036854775808 < mnr (GA h1) (pc6 r) r c ∧ mnr (GA h1) (pc6 r) r c < 9223372036854775808 := fun r c hr hc _ => mnr_64 hR hC (fun i j hi hj => by rw [lg_ga L i j hi hj]; exact he i j hi hj) r c hr hc
theorem GF.rc {h h' : HH} (F : GF h h') {σ : SG} (C : RC (h 2) σ) : RC (h' 2) σ := by rw [F 2 (by decide) (Or.inl (by decide))]; exact C
theorem GF.tr {a b c : HH} (h1 : GF a b) (h2 : GF b c) : GF a c := fun k k1 k2 => (h2 k k1 k2).trans (h1 k k1 k2)
theorem ent1_64 {σ : SG} (W : WF σ) (i j : Nat) (_ : i < sP σ) (_ : j < sE σ) : (ent1 σ i j).natAbs ≤ 192 := by have := ent1_r σ i j; omega
theorem ent2_64 {σ : SG} (W : WF σ) (i j : Nat) (_ : i < sE σ) (hj : j < sF σ) : (ent2 σ i j).natAbs ≤ 192 := by have := ent2_r W hj (i := i); omega

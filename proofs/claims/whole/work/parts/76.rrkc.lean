theorem ent1_9 (σ : SG) (i j : Nat) : (ent1 σ i j).natAbs ≤ 9 := by have := ent1_r σ i j; omega
theorem ent2_9 {σ : SG} (W : WF σ) {i j : Nat} (hj : j < sF σ) : (ent2 σ i j).natAbs ≤ 9 := by have := ent2_r W hj (i := i); omega
theorem wd2_9 {σ : SG} (W : WF σ) {c i j : Nat} (hc : c < 3) (hi : i < sE σ) (hj : j < sF σ ∨ j = 4) : (wd2 σ c i j).natAbs ≤ 9 := by
  unfold wd2; split
  · have := W.2.2.2.2.2 c i hc hi; omega
  · exact ent2_9 W (by omega)
theorem wd_1 {g : GG} {h : HH} {σ : SG} (W : WF σ) (R : RM (h 48) σ) {ch : Int} (hc : R32 ch) {a : Nat} (ha : a < 2 ^ sE σ) : WD g h 1 ch (sP σ) a (ent1 σ) := by
  have w1 := W.1
  have w2 := W.2.1
  have b := b_shl (j := sE σ) (by omega)
  refine ⟨fun f => c_X6_rows1 (by rw [setc_ne _ _ (by decide)]; exact R), fun f i j hi hj hb => ⟨c_X6_wide1 W (by rw [setc_ne _ _ (by decide)]; exact R) (by omega) (bit_C (by omega) ha hj hb) hc, ent1_9 σ i j⟩⟩
theorem wd_2 {g : GG} {h : HH} {σ : SG} (W : WF σ) (R : RM (h 48) σ) {c : Nat} (hc : c < 3) {a : Nat} (ha : okc σ a) : WD g h 2 (c : Int) (sE σ) a (wd2 σ c) := by
  have w2 := W.2.1
  exact ⟨fun f => c_X6_rows2 (by rw [setc_ne _ _ (by decide)]; exact R), fun f i j hi hj hb => ⟨c_X6_wide2 W (by rw [setc_ne _ _ (by decide)]; exact R) hc hi (ha.2 j hj hb), wd2_9 W hc hi (ha.2 j hj hb)⟩⟩
theorem okc_f {σ : SG} (W : WF σ) {a : Nat} (ha : a < 2 ^ sF σ) : okc σ a := by
  have w3 := W.2.2.1
  have b := b_shl (j := sF σ) (by omega)
  exact ⟨by omega, fun j hj hb => Or.inl (bit_C (by omega) ha hj hb)⟩
theorem okc_w {σ : SG} (W : WF σ) : okc σ (2 ^ sF σ - 1 ||| 16) := by
  have w3 := W.2.2.1
  refine ⟨(fmb0 ⟨sF σ, by omega⟩ ⟨0, by decide⟩).2.2.2, fun j hj hb => (fmb0 ⟨sF σ, by omega⟩ ⟨j, hj⟩).2.1.mp hb⟩
/-- columns of faces alone: the chain does not come in -/
theorem wd2_e {σ : SG} {c i j : Nat} (W : WF σ) (hj : j < sF σ) : wd2 σ c i j = ent2 σ i j := by
  have w3 := W.2.2.1
  unfold wd2; rw [if_neg (by omega)]
theorem mask1 {C : Nat} (hC : C ≤ 6) : 2 ^ C - 1 < 2 ^ C ∧ 2 ^ C - 1 < 64 := by
  have b := b_shl hC
  have := b_pos C
  omega
/-- ranks and divisors of tables that agree at the set's columns -/
theorem mnr_cols {A B : Nat → Nat → Int} {R a : Nat} (hR : R ≤ 6) (ha : a < 64) (h : ∀ i j, i < R → j < 6 → mbit a j → A i j = B i j) {k r c : Nat} (hr : r < 2 ^ R) (hc : c &&& a = c) (h1 : pc6 r = k) (h2 : pc6 c = k) : mnr A k r c = mnr B k r c := by
  have b := b_shl hR
  obtain ⟨c1, c2, c3⟩ := and_bit ha hc
  rw [mnr_dT A k r c (by omega) c1 h1 h2, mnr_dT B k r c (by omega) c1 h1 h2]
  refine dT_congr k fun i j hi hj => ?_
  have n1 := nt_1 c1 (t := j) (by omega)
  exact h _ _ (nt_C hR hr (by omega)) n1.1 (c3 _ n1.1 n1.2.1)
theorem rk_cols {A B : Nat → Nat → Int} {R a : Nat} (hR : R ≤ 6) (ha : a < 64) (h : ∀ i j, i < R → j < 6 → mbit a j → A i j = B i j) {p : Int} {z : Nat} (K : Rk A R a p z) : Rk B R a p z := by
  refine ⟨fun r c h1 h2 h3 h4 => K.1 r c h1 h2 h3 (by rw [mnr_cols hR ha h h1 h2 rfl h3.symm]; exact h4), ?_⟩
  rcases K.2 with q | ⟨r, c, h1, h2, h3, h4, h5⟩
  · exact Or.inl q
  · exact Or.inr ⟨r, c, h1, h2, h3, h4, by rw [← mnr_cols hR ha h h1 h2 rfl h3.symm]; exact h5⟩
theorem dv_cols {A B : Nat → Nat → Int} {R a : Nat} (hR : R ≤ 6) (ha : a < 64) (h : ∀ i j, i < R → j < 6 → mbit a j → A i j = B i j) {k d : Nat} (K : Dv A R a k d) : Dv B R a k d := by
  refine ⟨fun r c h1 h2 h3 h4 => by rw [← mnr_cols hR ha h h1 h2 h3 h4]; exact K.1 r c h1 h2 h3 h4, fun x hx => K.2 x (fun r c h1 h2 h3 h4 => by rw [mnr_cols hR ha h h1 h2 h3 h4]; exact hx r c h1 h2 h3 h4)⟩
theorem wd2_bit {σ : SG} (W : WF σ) {a c : Nat} (ha : a < 2 ^ sF σ) : ∀ i j, i < sE σ → j < 6 → mbit a j → wd2 σ c i j = ent2 σ i j := fun i j _ hj hb => wd2_e W (bit_C (by have := W.2.2.1; omega) ha hj hb)

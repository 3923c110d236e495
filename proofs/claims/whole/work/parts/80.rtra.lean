/-! THE REFERENCE'S TREES AND MINORS. -/
theorem wpP_v (w : Nat → Nat) (c : Nat) (v : Int) : ∀ n, wpP w c v n = v * wpP w c 1 n
  | 0 => (Int.mul_one v).symm
  | n + 1 => by
    unfold wpP
    rw [wpP_v w c v n]
    split
    · rw [Int.mul_assoc]
    · rfl
theorem ct_end (x e : Int) : x * e * e = e * e * x := by grind
/-- some minor of size k, its columns among a, is not 0 -/
def nzs (A : Nat → Nat → Int) (R a k : Nat) : Prop := ∃ r c, r < 2 ^ R ∧ c &&& a = c ∧ pc6 r = k ∧ pc6 c = k ∧ mnr A k r c ≠ 0
theorem nzs_dv {A : Nat → Nat → Int} {R a k d : Nat} (D : Dv A R a k d) : nzs A R a k ↔ d ≠ 0 := by
  constructor
  · rintro ⟨r, c, h1, h2, h3, h4, h5⟩ q
    subst q
    exact h5 (dv_zero.mp D r c h1 h2 h3 h4)
  · intro q
    refine Classical.byContradiction fun hn => q ?_
    exact dv_uniq D (dv_zero.mpr fun r c h1 h2 h3 h4 => Classical.byContradiction fun h5 => hn ⟨r, c, h1, h2, h3, h4, h5⟩)
theorem nzs_rk {A : Nat → Nat → Int} {R a y z : Nat} (ha : a < 64) (hp : pc6 a = y) (K : Rk A R a 0 z) : nzs A R a y ↔ z = y := by
  constructor
  · rintro ⟨r, c, h1, h2, h3, h4, h5⟩
    have k1 := K.1 r c h1 h2 (by omega) ((nzp0 _).mpr (by rw [h3]; exact h5))
    have k2 : z ≤ y := by
      rcases K.2 with q | ⟨r', c', a1, a2, a3, a4, a5⟩
      · omega
      · have := (and_bit ha a2).2.1; omega
    omega
  · intro q
    subst q
    rcases K.2 with q | ⟨r', c', a1, a2, a3, a4, a5⟩
    · rw [q]; exact ⟨0, 0, b_pos R, by simp, rfl, rfl, fun q => absurd (show (1 : Int) = 0 from q) (by decide)⟩
    · exact ⟨r', c', a1, a2, a4, by omega, by rw [← a4]; exact (nzp0 _).mp a5⟩
/-- the divisor of minors of size k -/
noncomputable def gdv (A : Nat → Nat → Int) (R a k : Nat) : Nat := @dite _ (∃ d, Dv A R a k d) (Classical.propDecidable _) (fun h => Classical.choose h) (fun _ => 0)
theorem gdv_e {A : Nat → Nat → Int} {R a k d : Nat} (D : Dv A R a k d) : gdv A R a k = d := by
  have h : ∃ d, Dv A R a k d := ⟨d, D⟩
  unfold gdv
  rw [dif_pos h]
  exact dv_uniq (Classical.choose_spec h) D
/-- what a tree tells -/
noncomputable def trT (A : Nat → Nat → Int) (R y : Nat) (v : Nat → Int) (s : Nat) : Int := @ite Int (pc6 s = y ∧ nzs A R s y) (Classical.propDecidable _) (v s) 0
theorem trT_y {A : Nat → Nat → Int} {R y : Nat} {v : Nat → Int} {s : Nat} (h : pc6 s = y ∧ nzs A R s y) : trT A R y v s = v s := by unfold trT; rw [if_pos h]
theorem trT_n {A : Nat → Nat → Int} {R y : Nat} {v : Nat → Int} {s : Nat} (h : ¬ (pc6 s = y ∧ nzs A R s y)) : trT A R y v s = 0 := by unfold trT; rw [if_neg h]
def tv0 (_ : Nat) : Int := 1
def tv1 (σ : SG) (s : Nat) : Int := wpP (sew σ) s 1 (sE σ)
noncomputable def tv2 (σ : SG) (s : Nat) : Int := wpP (sfw σ) s ((gdv (ent2 σ) (sE σ) s (pc6 s) : Int) * (gdv (ent2 σ) (sE σ) s (pc6 s) : Int)) (sF σ)
theorem nzs_cols {A B : Nat → Nat → Int} {R a : Nat} (hR : R ≤ 6) (ha : a < 64) (h : ∀ i j, i < R → j < 6 → mbit a j → A i j = B i j) {k : Nat} : nzs A R a k → nzs B R a k := by
  rintro ⟨r, c, h1, h2, h3, h4, h5⟩
  exact ⟨r, c, h1, h2, h3, h4, by rw [← mnr_cols hR ha h h1 h2 h3 h4]; exact h5⟩
theorem fcb_w : ∀ n k : Nat, n ≤ 5 → k + 2 ≤ n → fcb k 18 * fcb (k + 2) 18 < 2 ^ 63 := fun n k h1 h2 => (by decide +kernel : ∀ k : Fin 4, fcb k.val 18 * fcb (k.val + 2) 18 < 2 ^ 63) ⟨k, by omega⟩
theorem fcb_192 : ∀ n k : Nat, n ≤ 4 → k + 2 ≤ n → fcb k 192 * fcb (k + 2) 192 < 2 ^ 63 := fun n k h1 h2 => (by decide +kernel : ∀ k : Fin 3, fcb k.val 192 * fcb (k.val + 2) 192 < 2 ^ 63) ⟨k, by omega⟩
theorem rk_le {A : Nat → Nat → Int} {R a z : Nat} {p : Int} (ha : a < 64) (K : Rk A R a p z) : z ≤ pc6 a := by
  rcases K.2 with q | ⟨r', c', a1, a2, a3, a4, a5⟩
  · omega
  · have := (and_bit ha a2).2.1; omega
theorem rk_leR {A : Nat → Nat → Int} {R a z : Nat} {p : Int} (hR : R ≤ 6) (K : Rk A R a p z) : z ≤ R := by
  rcases K.2 with q | ⟨r', c', a1, a2, a3, a4, a5⟩
  · omega
  · have := pcR hR a1; omega

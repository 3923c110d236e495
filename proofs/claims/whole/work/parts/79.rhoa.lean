/-! THE REFERENCE'S RANK, HOLES, TWIST, ORDER. -/
theorem c_X6_rankFor1 {g : GG} {h : HH} {σ : SG} (W : WF σ) (R : RM (h 48) σ) {p : Int} (hp : p = 0 ∨ p = 2 ∨ p = 3 ∨ p = 5 ∨ p = 7) : CnI mX6_rankFor g [vr 47, vi 1, vi p] h (fun z h' => (∃ y : Nat, z = y ∧ y ≤ 6 ∧ Rk (ent1 σ) (sP σ) (2 ^ sE σ - 1) p y) ∧ F54 h h') := by
  rcases hp with rfl | rfl | rfl | rfl | rfl
  · exact c_X6_rankFor10 W R
  · exact c_X6_rankFor1p W R (p := 2) (by decide)
  · exact c_X6_rankFor1p W R (p := 3) (by decide)
  · exact c_X6_rankFor1p W R (p := 5) (by decide)
  · exact c_X6_rankFor1p W R (p := 7) (by decide)
theorem c_X6_rankFor2 {g : GG} {h : HH} {σ : SG} (W : WF σ) (R : RM (h 48) σ) {p : Int} (hp : p = 0 ∨ p = 2 ∨ p = 3 ∨ p = 5 ∨ p = 7) : CnI mX6_rankFor g [vr 47, vi 2, vi p] h (fun z h' => (∃ y : Nat, z = y ∧ y ≤ 6 ∧ Rk (ent2 σ) (sE σ) (2 ^ sF σ - 1) p y) ∧ F54 h h') := by
  rcases hp with rfl | rfl | rfl | rfl | rfl
  · exact c_X6_rankFor20 W R
  · exact c_X6_rankFor2p W R (p := 2) (by decide)
  · exact c_X6_rankFor2p W R (p := 3) (by decide)
  · exact c_X6_rankFor2p W R (p := 5) (by decide)
  · exact c_X6_rankFor2p W R (p := 7) (by decide)
/-- a minor that is not 0, of every size up to the rank -/
theorem rk_nz {A : Nat → Nat → Int} {R a z : Nat} (hR : R ≤ 6) (ha : a < 64) (K : Rk A R a 0 z) {k d : Nat} (hk : k ≤ z) (D : Dv A R a k d) : d ≠ 0 := by
  intro q
  subst q
  have h0 := dv_zero.mp D
  have up := mnr_upn (p := 0) hR ha (fun r c h1 h2 h3 h4 => by rw [h0 r c h1 h2 h3 h4]; exact Int.dvd_zero 0) (z - k)
  rw [show k + (z - k) = z by omega] at up
  rcases K.2 with q | ⟨r, c, h1, h2, h3, h4, h5⟩
  · subst q
    have := up 0 0 (b_pos R) (by simp) rfl rfl
    exact absurd (show (1 : Int) = 0 from Int.zero_dvd.mp this) (by decide)
  · have := up r c h1 h2 h4 (by omega)
    rw [h4] at h5
    exact (nzp0 _).mp h5 (Int.zero_dvd.mp this)
theorem wide_or0 : ∀ F : Fin 5, ior ((2 ^ F.val - 1 : Nat) : Int) 16 = ((2 ^ F.val - 1 ||| 16 : Nat) : Int) := by decide +kernel
theorem pcF0 : ∀ F : Fin 5, pc6 (2 ^ F.val - 1) ≤ 4 := by decide +kernel
theorem dv_r32 {A : Nat → Nat → Int} {R a k e z : Nat} (hR : R ≤ 6) (ha : a < 64) (hb : ∀ i j, i < R → j < 6 → mbit a j → (A i j).natAbs ≤ 9) (K : Rk A R a 0 z) (hk : k ≤ z) (h4 : pc6 a ≤ 4) (D : Dv A R a k e) : e < 2000000 := by
  have nz := rk_nz hR ha K hk D
  have : ∃ r c, r < 2 ^ R ∧ c &&& a = c ∧ pc6 r = k ∧ pc6 c = k ∧ mnr A k r c ≠ 0 := by
    refine Classical.byContradiction fun hn => nz ?_
    exact dv_uniq D (dv_zero.mpr fun r c h1 h2 h3 h4 => Classical.byContradiction fun h5 => hn ⟨r, c, h1, h2, h3, h4, h5⟩)
  obtain ⟨r, c, h1, h2, h3, h5, h6⟩ := this
  have b := b_shl hR
  obtain ⟨c1, c2, c3⟩ := and_bit ha h2
  have d1 := D.1 r c h1 h2 h3 h5
  have d2 := dT_b k 9 (fun i j => A (nt r i) (nt c j)) (fun i j hi hj => by
    have n1 := nt_1 c1 (t := j) (by omega)
    exact hb (nt r i) (nt c j) (nt_C hR h1 (by omega)) n1.1 (c3 _ n1.1 n1.2.1))
  rw [← mnr_dT A k r c (by omega) c1 h3 h5] at d2
  have d3 : fcb k 9 < 2000000 := (by decide +kernel : ∀ k : Fin 5, fcb k.val 9 < 2000000) ⟨k, by omega⟩
  have d4 := Nat.le_of_dvd (by omega) (Int.ofNat_dvd_left.mp d1)
  omega
theorem ord_nz {A B : Nat → Nat → Int} {R a w y d : Nat} (hR : R ≤ 6) (ha : a < 64) (hw : w < 64) (hs : ∀ c, c &&& a = c → c &&& w = c) (he : ∀ i j, i < R → j < 6 → mbit a j → A i j = B i j) (K : Rk B R a 0 y) (D : Dv A R w y d) : d ≠ 0 := by
  intro q
  subst q
  have h0 := dv_zero.mp D
  rcases K.2 with q | ⟨r, c, h1, h2, h3, h4, h5⟩
  · subst q
    exact absurd (show (1 : Int) = 0 from h0 0 0 (b_pos R) (by simp) rfl rfl) (by decide)
  · rw [h4] at h5
    refine (nzp0 _).mp h5 ?_
    rw [← mnr_cols hR ha he h1 h2 h4 (by omega)]
    exact h0 r c h1 (hs c h2) h4 (by omega)
theorem ord_sub0 : ∀ F : Fin 5, ∀ c : Fin 64, c.val &&& (2 ^ F.val - 1) = c.val → c.val &&& (2 ^ F.val - 1 ||| 16) = c.val := by decide +kernel
theorem ord_sub (F : Nat) (hF : F ≤ 4) (c : Nat) (h : c &&& (2 ^ F - 1) = c) : c &&& (2 ^ F - 1 ||| 16) = c := by
  have m := mask1 (C := F) (by omega)
  exact ord_sub0 ⟨F, by omega⟩ ⟨c, Nat.lt_of_le_of_lt (and_le h) m.2⟩ h
theorem tdiv_32 {e : Nat} (he : e < 2000000) {d : Nat} : R32 ((e : Int).tdiv d) := by
  have h1 : (e : Int).tdiv d = ((e / d : Nat) : Int) := rfl
  have h2 := Nat.div_le_self e d
  rw [h1]
  obtain ⟨q, hq⟩ : ∃ q, q = e / d := ⟨_, rfl⟩
  rw [← hq] at h2 ⊢
  constructor <;> omega

/-! THE REFERENCE'S TABLES AND RANKS. -/
/-- table 2 with a chain as column 4 -/
def wd2 (σ : SG) (c : Nat) (i j : Nat) : Int := if j = 4 then sch σ c i else ent2 σ i j
/-- all faces, the chain's column too -/
def fmask (σ : SG) (w : Bool) : Nat := if w then 2 ^ sF σ - 1 ||| 16 else 2 ^ sF σ - 1
theorem fmb0 : ∀ F : Fin 5, ∀ j : Fin 6, (mbit (2 ^ F.val - 1) j.val ↔ j.val < F.val) ∧ (mbit (2 ^ F.val - 1 ||| 16) j.val ↔ (j.val < F.val ∨ j.val = 4)) ∧ 2 ^ F.val - 1 < 64 ∧ (2 ^ F.val - 1 ||| 16) < 64 := by decide +kernel
theorem em0 : ∀ E : Fin 7, ∀ j : Fin 6, (mbit (2 ^ E.val - 1) j.val ↔ j.val < E.val) ∧ 2 ^ E.val - 1 < 64 := by decide +kernel
theorem sub_mask {C c : Nat} (hC : C ≤ 6) : c < 2 ^ C ↔ c &&& (2 ^ C - 1) = c := by
  rw [Nat.and_two_pow_sub_one_eq_mod]
  constructor
  · intro h; exact Nat.mod_eq_of_lt h
  · intro h; rw [← h]; exact Nat.mod_lt _ (b_pos C)
/-- columns of the set a are of table 2, or the chain -/
def okc (σ : SG) (a : Nat) : Prop := a < 64 ∧ ∀ j, j < 6 → mbit a j → j < sF σ ∨ j = 4
theorem F54k {h : HH} (f : Nat → Int) {k : Nat} (hk : k ≠ 54) : setc h 54 f k = h k := setc_ne _ _ hk
/-- the frame of the reference's mathematics -/
def F54 (h h' : HH) : Prop := ∃ f, h' = setc h 54 f
theorem F54.rm {h h' : HH} (F : F54 h h') {σ : SG} (R : RM (h 48) σ) : RM (h' 48) σ := by
  obtain ⟨f, e⟩ := F
  rw [e, setc_ne _ _ (by decide)]
  exact R
theorem F54.tr {a b c : HH} (F : F54 a b) (G : F54 b c) : F54 a c := by
  obtain ⟨f, e⟩ := F
  obtain ⟨f', e'⟩ := G
  exact ⟨f', by rw [e', e, setc_setc]⟩
theorem F54.rfl (h : HH) : F54 h h := ⟨h 54, (setc_self h 54).symm⟩

/-! MASKS of six bits, and minors by them. -/
theorem ix {f : Nat → Int} {z : Int} {i : Nat} (h : z = (i : Int)) : f z.toNat = f i := by subst h; rfl
def pc6 (m : Nat) : Nat := m % 2 + m / 2 % 2 + m / 4 % 2 + m / 8 % 2 + m / 16 % 2 + m / 32 % 2
def bcE (z : Int) : Int :=
  iand ((iand ((iand (z - iand (iushr z 1) 1431655765) 858993459 + iand (iushr (z - iand (iushr z 1) 1431655765) 2) 858993459) + iushr (iand (z - iand (iushr z 1) 1431655765) 858993459 + iand (iushr (z - iand (iushr z 1) 1431655765) 2) 858993459) 4) 252645135 + iushr (iand ((iand (z - iand (iushr z 1) 1431655765) 858993459 + iand (iushr (z - iand (iushr z 1) 1431655765) 2) 858993459) + iushr (iand (z - iand (iushr z 1) 1431655765) 858993459 + iand (iushr (z - iand (iushr z 1) 1431655765) 2) 858993459) 4) 252645135) 8) + iushr (iand ((iand (z - iand (iushr z 1) 1431655765) 858993459 + iand (iushr (z - iand (iushr z 1) 1431655765) 2) 858993459) + iushr (iand (z - iand (iushr z 1) 1431655765) 858993459 + iand (iushr (z - iand (iushr z 1) 1431655765) 2) 858993459) 4) 252645135 + iushr (iand ((iand (z - iand (iushr z 1) 1431655765) 858993459 + iand (iushr (z - iand (iushr z 1) 1431655765) 2) 858993459) + iushr (iand (z - iand (iushr z 1) 1431655765) 858993459 + iand (iushr (z - iand (iushr z 1) 1431655765) 2) 858993459) 4) 252645135) 8) 16) 63
set_option maxRecDepth 100000 in
theorem bcE_pc : ∀ z : Fin 64, bcE ((z.val : Nat) : Int) = pc6 z.val := by decide +kernel
abbrev mbit (m j : Nat) : Prop := m / 2 ^ j % 2 = 1
def lb (m : Nat) : Nat := if m % 2 = 1 then 0 else if m / 2 % 2 = 1 then 1 else if m / 4 % 2 = 1 then 2 else if m / 8 % 2 = 1 then 3 else if m / 16 % 2 = 1 then 4 else 5
theorem b_low0 : ∀ r : Fin 64, r.val ≠ 0 → iand (r.val : Int) (-(r.val : Int)) = ((2 ^ lb r.val : Nat) : Int) ∧ pc6 (2 ^ lb r.val - 1) = lb r.val ∧ 2 ^ lb r.val ≤ r.val ∧ lb r.val < 6 ∧ pc6 (r.val - 2 ^ lb r.val) + 1 = pc6 r.val := by decide +kernel
theorem b_low {r : Nat} (h : r < 64) (h0 : 0 < r) : iand (r : Int) (-(r : Int)) = ((2 ^ lb r : Nat) : Int) ∧ pc6 (2 ^ lb r - 1) = lb r ∧ 2 ^ lb r ≤ r ∧ lb r < 6 ∧ pc6 (r - 2 ^ lb r) + 1 = pc6 r := b_low0 ⟨r, h⟩ (by show r ≠ 0; omega)
theorem b_shl0 : ∀ j : Fin 7, ishl 1 (j.val : Int) = ((2 ^ j.val : Nat) : Int) ∧ 2 ^ j.val ≤ 64 := by decide +kernel
theorem b_shl {j : Nat} (h : j ≤ 6) : ishl 1 (j : Int) = ((2 ^ j : Nat) : Int) ∧ 2 ^ j ≤ 64 := b_shl0 ⟨j, by omega⟩
theorem b_and0 : ∀ c : Fin 64, ∀ j : Fin 6, iand (c.val : Int) ((2 ^ j.val : Nat) : Int) = (if mbit c.val j.val then ((2 ^ j.val : Nat) : Int) else 0) ∧ (mbit c.val j.val → 2 ^ j.val ≤ c.val ∧ pc6 (c.val - 2 ^ j.val) + 1 = pc6 c.val) := by decide +kernel
theorem b_and {c j : Nat} (h : c < 64) (hj : j < 6) : iand (c : Int) ((2 ^ j : Nat) : Int) = (if mbit c j then ((2 ^ j : Nat) : Int) else 0) ∧ (mbit c j → 2 ^ j ≤ c ∧ pc6 (c - 2 ^ j) + 1 = pc6 c) := b_and0 ⟨c, h⟩ ⟨j, hj⟩
theorem b_pos (j : Nat) : 1 ≤ 2 ^ j := Nat.one_le_two_pow
theorem b_sub0 : ∀ c : Fin 64, ∀ a : Fin 64, iand (c.val : Int) (ixor (a.val : Int) (-1)) = 0 ↔ c.val &&& a.val = c.val := by decide +kernel
theorem b_sub {c a : Nat} (h : c < 64) (ha : a < 64) : iand (c : Int) (ixor (a : Int) (-1)) = 0 ↔ c &&& a = c := b_sub0 ⟨c, h⟩ ⟨a, ha⟩
theorem b_subr0 : ∀ c : Fin 64, ∀ a : Fin 64, 0 ≤ iand (c.val : Int) (ixor (a.val : Int) (-1)) ∧ iand (c.val : Int) (ixor (a.val : Int) (-1)) < 64 := by decide +kernel
theorem b_subr {c a : Nat} (h : c < 64) (ha : a < 64) : 0 ≤ iand (c : Int) (ixor (a : Int) (-1)) ∧ iand (c : Int) (ixor (a : Int) (-1)) < 64 := b_subr0 ⟨c, h⟩ ⟨a, ha⟩
theorem pc6_0 : ∀ c : Fin 64, pc6 c.val ≤ 6 ∧ (pc6 c.val = 0 ↔ c.val = 0) := by decide +kernel
theorem pc6_r {c : Nat} (h : c < 64) : pc6 c ≤ 6 ∧ (pc6 c = 0 ↔ c = 0) := pc6_0 ⟨c, h⟩
/-- the sign of column j in the columns c -/
def sg6 (c : Nat) : Nat → Int
  | 0 => 1
  | j + 1 => if mbit c j then -(sg6 c j) else sg6 c j
theorem sg6_r (c : Nat) : ∀ j, sg6 c j = 1 ∨ sg6 c j = -1
  | 0 => Or.inl rfl
  | j + 1 => by
    unfold sg6; have := sg6_r c j
    split <;> omega
/-- the minor of rows r, columns c (k of each), along its first row -/
def mnr (A : Nat → Nat → Int) : Nat → Nat → Nat → Int
  | 0, _, _ => 1
  | k + 1, r, c => sI 6 (fun j => if mbit c j then sg6 c j * A (lb r) j * mnr A k (r - 2 ^ lb r) (c - 2 ^ j) else 0)
def mnT (A : Nat → Nat → Int) (k r c j : Nat) : Int := if mbit c j then sg6 c j * A (lb r) j * mnr A k (r - 2 ^ lb r) (c - 2 ^ j) else 0
theorem mn_s (A : Nat → Nat → Int) (k r c : Nat) : mnr A (k + 1) r c = sI 6 (mnT A k r c) := rfl
theorem sI_z {f : Nat → Int} {a : Nat} : ∀ b, (∀ j, a ≤ j → j < a + b → f j = 0) → sI (a + b) f = sI a f
  | 0, _ => rfl
  | b + 1, h => by
    rw [show a + (b + 1) = (a + b) + 1 from rfl, sI_s, h (a + b) (by omega) (by omega), sI_z b (fun j h1 h2 => h j h1 (by omega))]; omega
theorem nb_big0 : ∀ C : Fin 7, ∀ c : Fin 64, ∀ j : Fin 6, c.val < 2 ^ C.val → C.val ≤ j.val → ¬ mbit c.val j.val := by decide +kernel
theorem mn_C (A : Nat → Nat → Int) (k r : Nat) {c C : Nat} (hC : C ≤ 6) (hc : c < 2 ^ C) : mnr A (k + 1) r c = sI C (mnT A k r c) := by
  have h64 : c < 64 := by have := (b_shl hC).2; omega
  have := sI_z (f := mnT A k r c) (a := C) (6 - C) (fun j h1 h2 => if_neg (nb_big0 ⟨C, by omega⟩ ⟨c, h64⟩ ⟨j, by omega⟩ hc h1))
  rw [show C + (6 - C) = 6 by omega] at this
  rw [mn_s, this]
/-- the matrix that stands in the grid's rows -/
def GA (h : HH) : Nat → Nat → Int := fun i j => h (11 + i) j
theorem shpG {i : Nat} (hi : i < 6) : shp (11 + i) = (2, 6, []) := by
  rcases (show i = 0 ∨ i = 1 ∨ i = 2 ∨ i = 3 ∨ i = 4 ∨ i = 5 by omega) with rfl | rfl | rfl | rfl | rfl | rfl <;> rfl
theorem tmod_r {v : Int} (hv : R64 v) (p : Int) : R64 (v.tmod p) := by
  have h1 := Int.natAbs_tmod v p
  have h2 := Nat.mod_le v.natAbs p.natAbs
  obtain ⟨a, b⟩ := hv
  rcases Int.le_total 0 v with q | q
  · have := Int.tmod_nonneg p q
    constructor <;> omega
  · have := Int.tmod_nonneg p (show 0 ≤ -v by omega)
    rw [Int.neg_tmod] at this
    constructor <;> omega
theorem z_alen2 {M : MD} {g : GG} {pc : Nat} {lv st : List AV} {h : HH} {Q : Option AV → HH → Prop} {k n : Nat} {fl : List (Nat × Nat)} (d : decode (mb M) pc = .ok (.arraylength, 1)) (hk : k < 50) (hs : shp k = (2, n, fl)) (kk : Z M g (pc + 1) lv (vi (n : Int) :: st) h Q) : Z M g pc lv (vr k :: st) h Q := by
  intro p l e s m args below meth c F H locs ls X L
  have he := wl_get (g := g) (h := h) hk
  unfold ct cof at he
  rw [hs] at he
  have hv : Int32.ofNat n = iI (n : Int) := Int32.ofInt_eq_ofNat.symm
  refine va_alen F.1 F.2.1 F.2.2.2.2.2.2.2.1 X.1 k 1 he rfl hv d ?_
  exact kk p l e s m args below meth c F H locs ls X L

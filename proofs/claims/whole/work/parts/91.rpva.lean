/-! THE REFERENCE: solving, telling, spanning. -/
theorem pow_mono2 {a b : Nat} (h : a ≤ b) : 2 ^ a ≤ 2 ^ b := Nat.pow_le_pow_right (by decide) h
theorem fcb_216 : ∀ n k : Nat, n ≤ 4 → k + 2 ≤ n → fcb k 216 * fcb (k + 2) 216 < 2 ^ 63 := fun n k h1 h2 => (by decide +kernel : ∀ k : Fin 3, fcb k.val 216 * fcb (k.val + 2) 216 < 2 ^ 63) ⟨k, by omega⟩
theorem fcb_54 : ∀ n k : Nat, n ≤ 5 → k + 2 ≤ n → fcb k 54 * fcb (k + 2) 54 < 2 ^ 63 := fun n k h1 h2 => (by decide +kernel : ∀ k : Fin 4, fcb k.val 54 * fcb (k.val + 2) 54 < 2 ^ 63) ⟨k, by omega⟩
theorem fcb_216n : ∀ n : Nat, n ≤ 4 → fcb n 216 < 2 ^ 50 := fun n h => (by decide +kernel : ∀ k : Fin 5, fcb k.val 216 < 2 ^ 50) ⟨n, by omega⟩
theorem fcb_54n : ∀ n : Nat, n ≤ 5 → fcb n 54 < 2 ^ 50 := fun n h => (by decide +kernel : ∀ k : Fin 6, fcb k.val 54 < 2 ^ 50) ⟨n, by omega⟩
theorem LW.ofn {a b : Int} (hb : b < 0) : LW a b (a.tdiv (-(Int.gcd a b : Int))) (b.tdiv (-(Int.gcd a b : Int))) := by
  have h := LW.of (a := -a) (b := -b) (by omega)
  rw [Int.gcd_neg, Int.neg_gcd, Int.neg_tdiv, Int.neg_tdiv, ← Int.tdiv_neg, ← Int.tdiv_neg] at h
  exact h.eq (by omega) (by grind)
theorem tdiv_b {a g : Int} (h : a.natAbs < 2 ^ 63) : R64 (a.tdiv g) := by
  have h1 : (a.tdiv g).natAbs ≤ a.natAbs := by
    rw [Int.natAbs_tdiv]
    exact Nat.div_le_self _ _
  omega
/-- what solves leaves -/
def SVh (h h1 : HH) (N : Nat) (B : Nat → Nat → Int) (b : Nat → Int) (j : Nat) : Prop := (∀ k, k ≠ 54 → k ≠ 55 → k ≠ 47 → h1 k = h k) ∧ (∀ q, q ≠ 17 → h1 47 q = h 47 q) ∧ h1 47 17 = dT N B ∧ ∀ j', j' < j → h1 55 j' = dT N (uc j' b B)
theorem SVh.rm {h h1 : HH} {N : Nat} {B : Nat → Nat → Int} {b : Nat → Int} {j : Nat} (L : SVh h h1 N B b j) {σ : SG} (R : RM (h 48) σ) : RM (h1 48) σ := by rw [L.1 48 (by decide) (by decide) (by decide)]; exact R
theorem SVh.put {h h1 : HH} {N : Nat} {B : Nat → Nat → Int} {b : Nat → Int} {j : Nat} (L : SVh h h1 N B b j) {f : Nat → Int} {z : Int} (hz : z = (j : Int)) {a : Int} (ha : a = dT N (uc j b B)) : SVh h (up (setc h1 54 f) 55 z.toNat a) N B b (j + 1) := by
  obtain ⟨l1, l2, l3, l4⟩ := L
  subst hz
  rw [show ((j : Nat) : Int).toNat = j from rfl]
  refine ⟨fun k k1 k2 k3 => ?_, fun q hq => ?_, ?_, fun j' hj => ?_⟩
  · rw [up_ne _ _ _ k2, setc_ne _ _ k1]; exact l1 k k1 k2 k3
  · rw [up_ne _ _ _ (by decide), setc_ne _ _ (by decide)]; exact l2 q hq
  · rw [up_ne _ _ _ (by decide), setc_ne _ _ (by decide)]; exact l3
  · by_cases q : j' = j
    · subst q; rw [up_same, ha]
    · rw [up_o _ _ q, setc_ne _ _ (by decide)]; exact l4 j' (by omega)
/-- column j is told anew up to row i -/
def UC (N j i : Nat) (B : Nat → Nat → Int) (b : Nat → Int) (f : Nat → Int) : Prop := ∀ i' j', i' < N → j' < N → MM f i' j' = if j' = j ∧ i' < i then b i' else B i' j'
theorem UC.put {N j i : Nat} {B : Nat → Nat → Int} {b : Nat → Int} {f : Nat → Int} (L : UC N j i B b f) (hN : N ≤ 6) (hj : j < N) {v : Int} (hv : v = b i) : UC N j (i + 1) B b (upn f (6 * i + j) v) := fun i' j' h1 h2 => by
  unfold MM
  by_cases q : 6 * i' + j' = 6 * i + j
  · rw [upn_eq q, hv, if_pos (by omega), show i' = i by omega]
  · rw [upn_ne q]
    show MM f i' j' = _
    rw [L i' j' h1 h2]
    by_cases q2 : j' = j ∧ i' < i
    · rw [if_pos q2, if_pos (by omega)]
    · rw [if_neg q2, if_neg (by omega)]
theorem UC.end {N j i : Nat} {B : Nat → Nat → Int} {b : Nat → Int} {f : Nat → Int} (L : UC N j i B b f) (hi : N ≤ i) : ∀ i' j', i' < N → j' < N → MM f i' j' = uc j b B i' j' := fun i' j' h1 h2 => by
  rw [L i' j' h1 h2]
  unfold uc
  by_cases q : j' = j
  · rw [if_pos ⟨q, by omega⟩, if_pos q]
  · rw [if_neg (fun e => q e.1), if_neg q]
/-- what spans leaves: of each edge a fraction -/
def SPh (h h1 : HH) (y : Nat → Int) (D : Int) (i : Nat) : Prop := (∀ k, k < 54 ∨ 58 ≤ k → k ≠ 47 → h1 k = h k) ∧ (∀ q, q ≠ 17 → h1 47 q = h 47 q) ∧ ∀ e, e < i → LW (y e) D (h1 56 e) (h1 57 e)
theorem SPh.put {h h1 : HH} {y : Nat → Int} {D : Int} {i : Nat} (L : SPh h h1 y D i) {p q : Int} (hw : LW (y i) D p q) : SPh h (up (up h1 56 i p) 57 i q) y D (i + 1) := by
  obtain ⟨l1, l2, l3⟩ := L
  refine ⟨fun k k1 k2 => ?_, fun q hq => ?_, fun e he => ?_⟩
  · rw [up_ne _ _ _ (by omega), up_ne _ _ _ (by omega)]; exact l1 k k1 k2
  · rw [up_ne _ _ _ (by decide), up_ne _ _ _ (by decide)]; exact l2 q hq
  · by_cases z : e = i
    · subst z
      rw [up_ne _ _ _ (show (56 : Nat) ≠ 57 by decide), up_same, up_same]
      exact hw
    · rw [up_ne _ _ _ (show (56 : Nat) ≠ 57 by decide), up_o _ _ z, up_o _ _ z, up_ne _ _ _ (show (57 : Nat) ≠ 56 by decide)]
      exact l3 e (by omega)
theorem SPh.rm {h h1 : HH} {y : Nat → Int} {D : Int} {i : Nat} (L : SPh h h1 y D i) {σ : SG} (R : RM (h 48) σ) : RM (h1 48) σ := by rw [L.1 48 (by decide) (by decide)]; exact R
/-- faces or points, as many as independent -/
theorem ind_F4 {σ : SG} (W : WF σ) {I : Nat} (h : I < 2 ^ sF σ) : pc6 I ≤ 4 := by have := pcR (R := sF σ) (by have := W.2.2.1; omega) h; have := W.2.2.1; omega
theorem ind_P5 {σ : SG} (W : WF σ) {I : Nat} (h : I < 2 ^ sP σ) : pc6 I ≤ 5 := by have := pcR (R := sP σ) (by have := W.1; omega) h; have := W.1; omega
theorem sum_y {N : Nat} {x v : Nat → Int} (hx : ∀ r, r < N → (x r).natAbs ≤ 2 ^ 50) (hv : ∀ r, r < N → (v r).natAbs ≤ 4) (hN : N ≤ 5) : (sI N (fun r => v r * x r)).natAbs < 2 ^ 63 := by
  have := sum_52 hx hv hN N (Nat.le_refl N)
  rw [sI_congr (g := fun r => x r * v r) (fun r _ => Int.mul_comm _ _)]
  omega
theorem y_comm (N : Nat) (x v : Nat → Int) : sI N (fun r => v r * x r) = sI N (fun r => x r * v r) := sI_congr fun r _ => Int.mul_comm _ _

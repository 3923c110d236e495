/-! THE REFERENCE'S MINORS, over any table that it lays. -/
def WD (g : GG) (h : HH) (d ch : Int) (R a : Nat) (A : Nat → Nat → Int) : Prop := (∀ f, CeI mX6_rows g [vr 47, vi d] (setc h 54 f) R) ∧ ∀ f i j, i < R → j < 6 → mbit a j → CeI mX6_wide g [vr 47, vi d, vi (i : Int), vi (j : Int), vi ch] (setc h 54 f) (A i j) ∧ (A i j).natAbs ≤ 9
theorem and_bit0 : ∀ c : Fin 64, ∀ a : Fin 64, c.val &&& a.val = c.val → pc6 c.val ≤ pc6 a.val ∧ ∀ j : Fin 6, mbit c.val j.val → mbit a.val j.val := by decide +kernel
theorem and_bit {c a : Nat} (ha : a < 64) (h : c &&& a = c) : c < 64 ∧ pc6 c ≤ pc6 a ∧ ∀ j, j < 6 → mbit c j → mbit a j := by
  have hc : c < 64 := Nat.lt_of_le_of_lt (and_le h) ha
  obtain ⟨q1, q2⟩ := and_bit0 ⟨c, hc⟩ ⟨a, ha⟩ h
  exact ⟨hc, q1, fun j hj => q2 ⟨j, hj⟩⟩
theorem pcR0 : ∀ R : Fin 7, ∀ r : Fin 64, r.val < 2 ^ R.val → pc6 r.val ≤ R.val := by decide +kernel
theorem pcR {R r : Nat} (hR : R ≤ 6) (hr : r < 2 ^ R) : pc6 r ≤ R := by
  have b := b_shl hR
  exact pcR0 ⟨R, by omega⟩ ⟨r, by omega⟩ hr
theorem adr_inj {n t k : Nat} (hn : n ≤ 6) (h0 : 0 < n) (h : 6 * (t / n) + t % n = 6 * (k / n) + k % n) : t = k := by
  have m1 := Nat.mod_lt t h0
  have m2 := Nat.mod_lt k h0
  have e1 : t / n = k / n := by omega
  have e2 : t % n = k % n := by omega
  rw [← Nat.div_add_mod t n, ← Nat.div_add_mod k n, e1, e2]
theorem dm_n {n i j : Nat} (hj : j < n) : (n * i + j) / n = i ∧ (n * i + j) % n = j := by
  refine ⟨?_, ?_⟩
  · rw [Nat.mul_add_div (by omega), Nat.div_eq_of_lt hj, Nat.add_zero]
  · rw [Nat.mul_add_mod, Nat.mod_eq_of_lt hj]
theorem nn_lt {n i j : Nat} (hi : i < n) (hj : j < n) : n * i + j < n * n := by
  have h1 : n * i + n ≤ n * n := by
    have := Nat.mul_le_mul_left n (show i + 1 ≤ n from hi)
    rw [Nat.mul_add, Nat.mul_one] at this
    exact this
  omega
theorem nn_dm {n k : Nat} (h : k < n * n) : 0 < n ∧ k / n < n ∧ k % n < n := by
  have h0 : 0 < n := by
    rcases Nat.eq_zero_or_pos n with q | q
    · subst q; omega
    · exact q
  exact ⟨h0, Nat.div_lt_of_lt_mul h, Nat.mod_lt _ h0⟩
theorem nn_36 {n : Nat} (hn : n ≤ 6) : n * n ≤ 36 := Nat.mul_le_mul hn hn
/-- the first k of n times n are laid -/
def LY (n k : Nat) (B : Nat → Nat → Int) (f : Nat → Int) : Prop := ∀ t, t < k → f (6 * (t / n) + t % n) = B (t / n) (t % n)
theorem LY.put {n k : Nat} {B : Nat → Nat → Int} {f : Nat → Int} (L : LY n k B f) (hn : n ≤ 6) (h0 : 0 < n) {v : Int} (hv : v = B (k / n) (k % n)) : LY n (k + 1) B (upn f (6 * (k / n) + k % n) v) := fun t ht => by
  by_cases q : t = k
  · subst q; rw [upn_eq rfl, hv]
  · rw [upn_ne (fun e => q (adr_inj hn h0 e))]; exact L t (by omega)
theorem LY.all {n : Nat} {B : Nat → Nat → Int} {f : Nat → Int} (L : LY n (n * n) B f) : ∀ i j, i < n → j < n → MM f i j = B i j := fun i j hi hj => by
  have := L (n * i + j) (nn_lt hi hj)
  rw [(dm_n hj).1, (dm_n hj).2] at this
  exact this
theorem fcb9 : ∀ n k : Nat, n ≤ 6 → k + 2 ≤ n → fcb k 9 * fcb (k + 2) 9 < 2 ^ 63 := fun n k h1 h2 => (by decide +kernel : ∀ k : Fin 5, fcb k.val 9 * fcb (k.val + 2) 9 < 2 ^ 63) ⟨k, by omega⟩
theorem fcb9n : ∀ n : Nat, n ≤ 6 → fcb n 9 < 2 ^ 63 := fun n h => (by decide +kernel : ∀ k : Fin 7, fcb k.val 9 < 2 ^ 63) ⟨n, by omega⟩
theorem wd_64 {g : GG} {h : HH} {d ch : Int} {R a : Nat} {A : Nat → Nat → Int} (w : WD g h d ch R a A) (hR : R ≤ 6) (ha : a < 64) {r c : Nat} (hr : r < 2 ^ R) (hc : c &&& a = c) (hp : pc6 r = pc6 c) : -9223372036854775808 < mnr A (pc6 r) r c ∧ mnr A (pc6 r) r c < 9223372036854775808 := by
  have b := b_shl hR
  obtain ⟨c1, c2, c3⟩ := and_bit ha hc
  have p6 := (pc6_r c1).1
  have h1 := dT_b (pc6 r) 9 (fun i j => A (nt r i) (nt c j)) (fun i j hi hj => by
    have n1 := nt_1 c1 (t := j) (by omega)
    exact (w.2 (h 54) (nt r i) (nt c j) (nt_C hR hr hi) n1.1 (c3 _ n1.1 n1.2.1)).2)
  rw [← mnr_dT A (pc6 r) r c (by omega) c1 rfl hp.symm] at h1
  have h2 := fcb9n (pc6 r) (by omega)
  omega
theorem WD.set {g : GG} {h : HH} {d ch : Int} {R a : Nat} {A : Nat → Nat → Int} (w : WD g h d ch R a A) (f : Nat → Int) : WD g (setc h 54 f) d ch R a A :=
  ⟨fun f' => by rw [setc_setc]; exact w.1 f', fun f' => by rw [setc_setc]; exact w.2 f'⟩
theorem dv_zero {A : Nat → Nat → Int} {R a k : Nat} : Dv A R a k 0 ↔ ∀ r c, r < 2 ^ R → c &&& a = c → pc6 r = k → pc6 c = k → mnr A k r c = 0 := by
  constructor
  · intro h r c h1 h2 h3 h4
    have := h.1 r c h1 h2 h3 h4
    exact Int.zero_dvd.mp this
  · intro h
    exact ⟨fun r c h1 h2 h3 h4 => by rw [h r c h1 h2 h3 h4]; exact Int.dvd_zero _, fun x _ => Nat.dvd_zero x⟩
/-- ranks that minors up to size k told -/
def RO (A : Nat → Nat → Int) (R a k z : Nat) : Prop := z < k ∧ (z = 0 ∨ ∃ r c, r < 2 ^ R ∧ c &&& a = c ∧ pc6 r = pc6 c ∧ pc6 r = z ∧ nzp 0 (mnr A (pc6 r) r c)) ∧ ∀ s, z < s → s < k → Dv A R a s 0
theorem nzp0 (v : Int) : nzp 0 v ↔ v ≠ 0 := by unfold nzp; rw [if_pos rfl]
theorem RO.no {A : Nat → Nat → Int} {R a k z d : Nat} (h : RO A R a k z) (hd : Dv A R a k d) (h0 : d = 0) : RO A R a (k + 1) z := by
  subst h0
  refine ⟨by have := h.1; omega, h.2.1, fun s h1 h2 => ?_⟩
  rcases (show s < k ∨ s = k by omega) with q | q
  · exact h.2.2 s h1 q
  · subst q; exact hd
theorem RO.yes {A : Nat → Nat → Int} {R a k z d : Nat} (h : RO A R a k z) (hd : Dv A R a k d) (h0 : d ≠ 0) : RO A R a (k + 1) k := by
  refine ⟨by omega, Or.inr ?_, fun s h1 h2 => by omega⟩
  refine Classical.byContradiction fun hn => h0 ?_
  have : Dv A R a k 0 := dv_zero.mpr fun r c h1 h2 h3 h4 => Classical.byContradiction fun h5 => hn ⟨r, c, h1, h2, by omega, h3, (nzp0 _).mpr (by rw [h3]; exact h5)⟩
  exact dv_uniq hd this
theorem RO.end {A : Nat → Nat → Int} {R a k z : Nat} (h : RO A R a k z) (hR : R ≤ 6) (ha : a < 64) (hk : pc6 a < k ∨ R < k) : Rk A R a 0 z := by
  refine ⟨fun r c h1 h2 h3 h4 => ?_, h.2.1⟩
  have a1 := (and_bit ha h2).2.1
  have a2 := pcR hR h1
  refine Classical.byContradiction fun q => (nzp0 _).mp h4 ?_
  exact dv_zero.mp (h.2.2 (pc6 r) (by omega) (by omega)) r c h1 h2 rfl h3.symm

/-! THE REFERENCE'S SETS: bits told, the k-th of a set. -/
theorem p6_s0 : ∀ c : Fin 64, ∀ m : Fin 6, pc6 (c.val % 2 ^ (m.val + 1)) = pc6 (c.val % 2 ^ m.val) + (if mbit c.val m.val then 1 else 0) := by decide +kernel
theorem p6_s {c m : Nat} (hc : c < 64) (hm : m < 6) : pc6 (c % 2 ^ (m + 1)) = pc6 (c % 2 ^ m) + (if mbit c m then 1 else 0) := p6_s0 ⟨c, hc⟩ ⟨m, hm⟩
def nt (c t : Nat) : Nat := ((List.range 6).filter (fun j => c / 2 ^ j % 2 == 1)).getD t 6
theorem nt_00 : ∀ c : Fin 64, ∀ m : Fin 6, mbit c.val m.val → nt c.val (pc6 (c.val % 2 ^ m.val)) = m.val ∧ pc6 (c.val % 2 ^ m.val) < pc6 c.val := by decide +kernel
theorem nt_0 {c m : Nat} (hc : c < 64) (hm : m < 6) (hb : mbit c m) : nt c (pc6 (c % 2 ^ m)) = m ∧ pc6 (c % 2 ^ m) < pc6 c := nt_00 ⟨c, hc⟩ ⟨m, hm⟩ hb
theorem nt_10 : ∀ c : Fin 64, ∀ t : Fin 6, t.val < pc6 c.val → nt c.val t.val < 6 ∧ mbit c.val (nt c.val t.val) ∧ pc6 (c.val % 2 ^ nt c.val t.val) = t.val ∧ 2 ^ nt c.val t.val ≤ c.val := by decide +kernel
theorem nt_1 {c t : Nat} (hc : c < 64) (ht : t < pc6 c) : nt c t < 6 ∧ mbit c (nt c t) ∧ pc6 (c % 2 ^ nt c t) = t ∧ 2 ^ nt c t ≤ c := nt_10 ⟨c, hc⟩ ⟨t, by have := (pc6_r hc).1; show t < 6; omega⟩ ht
theorem nt_C0 : ∀ C : Fin 7, ∀ c : Fin 64, ∀ t : Fin 6, c.val < 2 ^ C.val → t.val < pc6 c.val → nt c.val t.val < C.val := by decide +kernel
theorem nt_C {C c t : Nat} (hC : C ≤ 6) (hc : c < 2 ^ C) (ht : t < pc6 c) : nt c t < C := by
  have b := b_shl hC
  exact nt_C0 ⟨C, by omega⟩ ⟨c, by omega⟩ ⟨t, by have := (pc6_r (c := c) (by omega)).1; show t < 6; omega⟩ hc ht
/-- the reference's six by six -/
def MM (f : Nat → Int) : Nat → Nat → Int := fun i j => f (6 * i + j)
/-- rows a and b changed, columns below k -/
def swf (a b k : Nat) (f : Nat → Int) : Nat → Int := fun x => if x / 6 = a ∧ x % 6 < k then f (6 * b + x % 6) else if x / 6 = b ∧ x % 6 < k then f (6 * a + x % 6) else f x
theorem swf_0 (a b : Nat) (f : Nat → Int) : swf a b 0 f = f := by
  funext x; unfold swf; rw [if_neg (by omega), if_neg (by omega)]
theorem swf_s {a b k : Nat} (hk : k < 6) (f : Nat → Int) : upn (upn (swf a b k f) (6 * a + k) (swf a b k f (6 * b + k))) (6 * b + k) (swf a b k f (6 * a + k)) = swf a b (k + 1) f := by
  have e1 : swf a b k f (6 * b + k) = f (6 * b + k) := by unfold swf; rw [if_neg (by omega), if_neg (by omega)]
  have e2 : swf a b k f (6 * a + k) = f (6 * a + k) := by unfold swf; rw [if_neg (by omega), if_neg (by omega)]
  rw [e1, e2]
  funext x
  by_cases q1 : x = 6 * b + k
  · rw [upn_eq q1]
    subst q1
    unfold swf
    by_cases q2 : a = b
    · subst q2; rw [if_pos (by omega)]; congr 1; omega
    · rw [if_neg (by omega), if_pos (by omega)]; congr 1; omega
  · rw [upn_ne q1]
    by_cases q2 : x = 6 * a + k
    · rw [upn_eq q2]; subst q2; unfold swf; rw [if_pos (by omega)]; congr 1; omega
    · rw [upn_ne q2]
      unfold swf
      by_cases q3 : x / 6 = a ∧ x % 6 < k
      · rw [if_pos q3, if_pos (by omega)]
      · rw [if_neg q3]
        by_cases q4 : x / 6 = b ∧ x % 6 < k
        · rw [if_pos q4, if_neg (by omega), if_pos (by omega)]
        · rw [if_neg q4, if_neg (by omega), if_neg (by omega)]
theorem MM_sw {a b : Nat} (f : Nat → Int) {i j : Nat} (hj : j < 6) : MM (swf a b 6 f) i j = (if i = a then MM f b j else if i = b then MM f a j else MM f i j) := by
  unfold MM swf
  by_cases q1 : i = a
  · rw [if_pos (by omega), if_pos q1]; congr 1; omega
  · rw [if_neg (by omega), if_neg q1]
    by_cases q2 : i = b
    · rw [if_pos (by omega), if_pos q2]; congr 1; omega
    · rw [if_neg (by omega), if_neg q2]

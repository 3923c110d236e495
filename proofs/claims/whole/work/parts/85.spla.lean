/-! SPLIT: what its rows hold. -/
theorem shpR {r : Nat} (h : r < 5) : shp (23 + r) = (2, 6, []) := by
  rcases (show r = 0 ∨ r = 1 ∨ r = 2 ∨ r = 3 ∨ r = 4 by omega) with rfl | rfl | rfl | rfl | rfl <;> rfl
theorem shpY {r : Nat} (h : r < 5) : shp (29 + r) = (2, 6, []) := by
  rcases (show r = 0 ∨ r = 1 ∨ r = 2 ∨ r = 3 ∨ r = 4 by omega) with rfl | rfl | rfl | rfl | rfl <;> rfl
def LCh (h h1 : HH) (σ : SG) (c i : Nat) : Prop := (∀ k, k ≠ 18 → k < 19 ∨ 21 < k → h1 k = h k) ∧ h1 18 2 = sE σ ∧ h1 18 1 = 1 ∧ ∀ e, e < i → h1 19 e = sch σ c e ∧ h1 20 e = sch σ c e ∧ h1 21 e = msr σ e
theorem LCh.put {h h1 : HH} {σ : SG} {c i : Nat} (L : LCh h h1 σ c i) {z : Int} (hz : z = (i : Int)) : LCh h (up (up (up h1 20 z.toNat (sch σ c i)) 21 z.toNat (msr σ i)) 19 z.toNat (sch σ c i)) σ c (i + 1) := by
  obtain ⟨l1, l2, l3, l4⟩ := L
  subst hz
  rw [show ((i : Nat) : Int).toNat = i from rfl]
  refine ⟨fun k k1 k2 => ?_, ?_, ?_, fun e he => ?_⟩
  · rw [up_ne _ _ _ (by omega), up_ne _ _ _ (by omega), up_ne _ _ _ (by omega)]; exact l1 k k1 k2
  · rw [up_ne _ _ _ (by decide), up_ne _ _ _ (by decide), up_ne _ _ _ (by decide)]; exact l2
  · rw [up_ne _ _ _ (by decide), up_ne _ _ _ (by decide), up_ne _ _ _ (by decide)]; exact l3
  · by_cases q : e = i
    · subst q
      refine ⟨by rw [up_same], ?_, ?_⟩
      · rw [up_ne _ _ _ (by decide), up_ne _ _ _ (by decide), up_same]
      · rw [up_ne _ _ _ (by decide), up_same]
    · have := l4 e (by omega)
      refine ⟨?_, ?_, ?_⟩
      · rw [up_o _ _ q, up_ne _ _ _ (by decide), up_ne _ _ _ (by decide)]; exact this.1
      · rw [up_ne _ _ _ (by decide), up_ne _ _ _ (by decide), up_o _ _ q]; exact this.2.1
      · rw [up_ne _ _ _ (by decide), up_o _ _ q, up_ne _ _ _ (by decide)]; exact this.2.2
def LRy (h h1 : HH) (n E i j : Nat) (v : Nat → Nat → Int) : Prop := (∀ k, k ≠ 18 → k < 23 ∨ 28 ≤ k → h1 k = h k) ∧ (∀ q, q ≠ 6 → h1 18 q = h 18 q) ∧ h1 18 6 = n ∧ (∀ i' j', i' < i → j' < E → h1 (23 + i') j' = v i' j') ∧ ∀ j', j' < j → h1 (23 + i) j' = v i j'
theorem LRy.next {h h1 : HH} {n E i j : Nat} {v : Nat → Nat → Int} (L : LRy h h1 n E i j v) (hj : E ≤ j) : LRy h h1 n E (i + 1) 0 v := by
  obtain ⟨l1, l2, l3, l4, l5⟩ := L
  refine ⟨l1, l2, l3, fun i' j' h1 h2 => ?_, fun j' h1 => absurd h1 (Nat.not_lt_zero _)⟩
  rcases (show i' < i ∨ i' = i by omega) with q | q
  · exact l4 i' j' q h2
  · subst q; exact l5 j' (by omega)
theorem LRy.put {h h1 : HH} {n E i j : Nat} {v : Nat → Nat → Int} (L : LRy h h1 n E i j v) (hi : i < 5) {z : Int} (hz : z = (j : Int)) {a : Int} (ha : a = v i j) : LRy h (up h1 (23 + i) z.toNat a) n E i (j + 1) v := by
  obtain ⟨l1, l2, l3, l4, l5⟩ := L
  rw [up_n hz]
  refine ⟨fun k k1 k2 => ?_, fun q hq => ?_, ?_, fun i' j' h1 h2 => ?_, fun j' h1 => ?_⟩
  · rw [setc_ne _ _ (by omega)]; exact l1 k k1 k2
  · rw [setc_ne _ _ (by omega)]; exact l2 q hq
  · rw [setc_ne _ _ (by omega)]; exact l3
  · rw [setc_ne _ _ (by omega)]; exact l4 i' j' h1 h2
  · rw [setc_at]
    by_cases q : j' = j
    · subst q; rw [upn_eq rfl, ha]
    · rw [upn_ne q]; exact l5 j' (by omega)
/-- what is loaded -/
def LD (h : HH) (n E : Nat) (m : Nat → Int) (v : Nat → Nat → Int) (c : Nat → Int) : Prop := h 18 2 = E ∧ h 18 6 = n ∧ (∀ e, e < E → h 21 e = m e ∧ h 20 e = c e) ∧ ∀ r e, r < n → e < E → h (23 + r) e = v r e
def LSy (h h1 : HH) (n i s : Nat) (G : Nat → Nat → Int) : Prop := (∀ k, k < 29 ∨ 34 ≤ k → h1 k = h k) ∧ (∀ i' j', i' < i → j' ≤ n → h1 (29 + i') j' = G i' j') ∧ ∀ j', j' < s → h1 (29 + i) j' = G i j'
theorem LSy.put {h h1 : HH} {n i s : Nat} {G : Nat → Nat → Int} (L : LSy h h1 n i s G) (hi : i < 5) {z : Int} (hz : z = (s : Int)) {a : Int} (ha : a = G i s) : LSy h (up h1 (29 + i) z.toNat a) n i (s + 1) G := by
  obtain ⟨l1, l4, l5⟩ := L
  rw [up_n hz]
  refine ⟨fun k k1 => ?_, fun i' j' h1 h2 => ?_, fun j' h1 => ?_⟩
  · rw [setc_ne _ _ (by omega)]; exact l1 k k1
  · rw [setc_ne _ _ (by omega)]; exact l4 i' j' h1 h2
  · rw [setc_at]
    by_cases q : j' = s
    · subst q; rw [upn_eq rfl, ha]
    · rw [upn_ne q]; exact l5 j' (by omega)
theorem LSy.next {h h1 : HH} {n i s : Nat} {G : Nat → Nat → Int} (L : LSy h h1 n i s G) (hs : n < s) : LSy h h1 n (i + 1) 0 G := by
  obtain ⟨l1, l4, l5⟩ := L
  refine ⟨l1, fun i' j' h1 h2 => ?_, fun j' h1 => absurd h1 (Nat.not_lt_zero _)⟩
  rcases (show i' < i ∨ i' = i by omega) with q | q
  · exact l4 i' j' q h2
  · subst q; exact l5 j' (by omega)
theorem LD.same {h h1 : HH} {n E : Nat} {m : Nat → Int} {v : Nat → Nat → Int} {c : Nat → Int} (L : LD h n E m v c) (hn : n ≤ 5) (h0 : ∀ k, k < 29 → h1 k = h k) : LD h1 n E m v c := by
  obtain ⟨l1, l2, l3, l4⟩ := L
  exact ⟨by rw [h0 18 (by decide)]; exact l1, by rw [h0 18 (by decide)]; exact l2, fun e he => by rw [h0 21 (by decide), h0 20 (by decide)]; exact l3 e he, fun r e hr he => by rw [h0 (23 + r) (by omega)]; exact l4 r e hr he⟩
/-- row r told anew by row k -/
def elf (h : HH) (n r k : Nat) (d : Int) (s : Nat) : Nat → Int := fun j => if j < s then (h (29 + k) k * h (29 + r) j - h (29 + r) k * h (29 + k) j).tdiv d else h (29 + r) j
theorem elf_0 (h : HH) (n r k : Nat) (d : Int) : elf h n r k d 0 = h (29 + r) := by
  funext j; unfold elf; rw [if_neg (Nat.not_lt_zero j)]
theorem elf_s (h : HH) (n r k : Nat) (d : Int) (s : Nat) : upn (elf h n r k d s) s ((h (29 + k) k * h (29 + r) s - h (29 + r) k * h (29 + k) s).tdiv d) = elf h n r k d (s + 1) := by
  funext j
  by_cases q : j = s
  · rw [upn_eq q]; unfold elf; rw [if_pos (by omega), q]
  · rw [upn_ne q]; unfold elf
    by_cases q2 : j < s
    · rw [if_pos q2, if_pos (by omega)]
    · rw [if_neg q2, if_neg (by omega)]
theorem elf_g (h : HH) (n r k : Nat) (d : Int) {s j : Nat} (hj : s ≤ j) : elf h n r k d s j = h (29 + r) j := by unfold elf; rw [if_neg (by omega)]

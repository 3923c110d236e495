/-! SPLIT: the elimination, and the shadow. -/
def SY (h h1 : HH) (n : Nat) (G : Nat → Nat → Int) (S : Nat → Bool) : Prop := (∀ k, k < 29 ∨ 34 ≤ k → h1 k = h k) ∧ ∀ r s, r < n → s ≤ n → h1 (29 + r) s = XS n S G r s
def SYp (h h1 : HH) (n : Nat) (G : Nat → Nat → Int) (S : Nat → Bool) (k j : Nat) : Prop := (∀ k, k < 29 ∨ 34 ≤ k → h1 k = h k) ∧ ∀ r s, r < n → s ≤ n → h1 (29 + r) s = if r < j ∧ r ≠ k then XS n (addS S k) G r s else XS n S G r s
theorem SY.start {h h1 : HH} {n : Nat} {G : Nat → Nat → Int} {S : Nat → Bool} (L : SY h h1 n G S) (k : Nat) : SYp h h1 n G S k 0 := ⟨L.1, fun r s hr hs => by rw [if_neg (by omega)]; exact L.2 r s hr hs⟩
theorem SYp.skip {h h1 : HH} {n k : Nat} {G : Nat → Nat → Int} {S : Nat → Bool} (L : SYp h h1 n G S k k) : SYp h h1 n G S k (k + 1) := ⟨L.1, fun r s hr hs => by
  rw [L.2 r s hr hs]
  by_cases q : r < k ∧ r ≠ k
  · rw [if_pos q, if_pos (by omega)]
  · rw [if_neg q, if_neg (by omega)]⟩
theorem SYp.end {h h1 : HH} {n k j : Nat} {G : Nat → Nat → Int} {S : Nat → Bool} (L : SYp h h1 n G S k j) (hj : n ≤ j) : SY h h1 n G (addS S k) := ⟨L.1, fun r s hr hs => by
  rw [L.2 r s hr hs]
  by_cases q : r = k
  · rw [if_neg (by omega), q, xs_k]
  · rw [if_pos ⟨by omega, q⟩]⟩
theorem sol_q {n k j s : Nat} {G : Nat → Nat → Int} {S : Nat → Bool} {h h1 : HH} (L : SYp h h1 n G S k j) (H : HN n G) (I : GI n G S k) (hk : k < n) (hj : j < n) (hjk : j ≠ k) (hp : XS n S G k k ≠ 0) (hs : s ≤ n) :
    R64 (h1 (29 + k) k * h1 (29 + j) s - h1 (29 + j) k * h1 (29 + k) s) ∧ (h1 (29 + k) k * h1 (29 + j) s - h1 (29 + j) k * h1 (29 + k) s).tdiv (dT n (KS S G)) = XS n (addS S k) G j s ∧ R64 ((h1 (29 + k) k * h1 (29 + j) s - h1 (29 + j) k * h1 (29 + k) s).tdiv (dT n (KS S G))) := by
  have e1 : h1 (29 + k) k * h1 (29 + j) s - h1 (29 + j) k * h1 (29 + k) s = dT n (KS S G) * XS n (addS S k) G j s := by
    rw [xs_r hk hj hjk S G hp s, L.2 k k hk (by omega), L.2 j s hj hs, L.2 j k hj (by omega), L.2 k s hk hs, if_neg (by omega), if_neg (by omega), if_neg (by omega), if_neg (by omega)]
  have b := H S k j s I hk hj hjk hs hp
  have d0 := I.2.1
  have e2 : (dT n (KS S G) * XS n (addS S k) G j s).tdiv (dT n (KS S G)) = XS n (addS S k) G j s := Int.mul_tdiv_cancel_left _ (by omega)
  have b4 : (XS n (addS S k) G j s).natAbs ≤ (dT n (KS S G) * XS n (addS S k) G j s).natAbs := by
    rw [Int.natAbs_mul]
    exact Nat.le_mul_of_pos_left _ (by omega)
  rw [e1, e2]
  exact ⟨by omega, rfl, by omega⟩
theorem SYp.put {n k j : Nat} {G : Nat → Nat → Int} {S : Nat → Bool} {h h1 : HH} (L : SYp h h1 n G S k j) (hn : n ≤ 5) (H : HN n G) (I : GI n G S k) (hk : k < n) (hj : j < n) (hjk : j ≠ k) (hp : XS n S G k k ≠ 0) : SYp h (setc h1 (29 + j) (elf h1 n j k (dT n (KS S G)) (n + 1))) n G S k (j + 1) := by
  refine ⟨fun q hq => by rw [setc_ne _ _ (by omega)]; exact L.1 q hq, fun r s hr hs => ?_⟩
  by_cases q : r = j
  · subst q
    rw [setc_at, if_pos (by omega)]
    unfold elf
    rw [if_pos (by omega)]
    exact (sol_q L H I hk hj hjk hp hs).2.1
  · rw [setc_ne _ _ (by omega), L.2 r s hr hs]
    by_cases q2 : r < j ∧ r ≠ k
    · rw [if_pos q2, if_pos (by omega)]
    · rw [if_neg q2, if_neg (by omega)]
/-- what solve leaves -/
def SLV (h h' : HH) (n : Nat) (G : Nat → Nat → Int) (S : Nat → Bool) : Prop := GI n G S n ∧ h' 18 9 = dT n (KS S G) ∧ (∀ r s, r < n → s ≤ n → h' (29 + r) s = XS n S G r s) ∧ (∀ k, k ≠ 18 → k < 29 ∨ 34 ≤ k → h' k = h k) ∧ ∀ q, q ≠ 9 → h' 18 q = h 18 q
/-- the frame of casting a shadow -/
def FSh (h h' : HH) : Prop := (∀ k, k ≠ 18 → k < 29 ∨ 35 ≤ k → h' k = h k) ∧ ∀ q, q ≠ 9 → h' 18 q = h 18 q
theorem LD.frame {h h1 : HH} {n E : Nat} {m : Nat → Int} {v : Nat → Nat → Int} {c : Nat → Int} (L : LD h n E m v c) (hn : n ≤ 5) (F : FSh h h1) : LD h1 n E m v c := by
  obtain ⟨l1, l2, l3, l4⟩ := L
  exact ⟨by rw [F.2 2 (by decide)]; exact l1, by rw [F.2 6 (by decide)]; exact l2, fun e he => by rw [F.1 21 (by decide) (by decide), F.1 20 (by decide) (by decide)]; exact l3 e he, fun r e hr he => by rw [F.1 (23 + r) (by omega) (by omega)]; exact l4 r e hr he⟩
theorem sum_52 {n : Nat} {x v : Nat → Int} (hx : ∀ r, r < n → (x r).natAbs ≤ 2 ^ 50) (hv : ∀ r, r < n → (v r).natAbs ≤ 4) (hn : n ≤ 5) : ∀ k, k ≤ n → (sI k (fun r => x r * v r)).natAbs ≤ k * 2 ^ 52
  | 0, _ => Nat.zero_le _
  | k + 1, h => by
    have ih := sum_52 hx hv hn k (by omega)
    have h1 : (x k * v k).natAbs ≤ 2 ^ 52 := by
      rw [Int.natAbs_mul]
      exact Nat.le_trans (Nat.mul_le_mul (hx k (by omega)) (hv k (by omega))) (by decide)
    rw [sI_s]
    omega
/-- the shadow, told up to edge i -/
theorem dvg {a d : Nat} {y : Int} (h1 : (Int.gcd (d : Int) y : Nat) = a) : (a : Int) ∣ (d : Int) ∧ (a : Int) ∣ y := by
  subst h1
  exact ⟨Int.gcd_dvd_left .., Int.gcd_dvd_right ..⟩
theorem prj_low {E n : Nat} {m c y y' : Nat → Int} {v : Nat → Nat → Int} {d d' g : Int} (h : Prj E m n v c d y) (hg : g ≠ 0) (hd : d = g * d') (hy : ∀ e, e < E → y e = g * y' e) : Prj E m n v c d' y' := by
  obtain ⟨h1, ⟨t, z, t0, hz⟩, h2⟩ := h
  refine ⟨fun q => h1 (by rw [hd, q, Int.mul_zero]), ⟨t * g, z, Int.mul_ne_zero t0 hg, fun e he => by rw [← hz e he, hy e he]; grind⟩, fun s hs => ?_⟩
  have := h2 s hs
  have e1 : ipw E m y (v s) = g * ipw E m y' (v s) := by
    unfold ipw
    rw [← sI_mul]
    exact sI_congr fun e he => by rw [hy e he]; grind
  rw [e1, hd, Int.mul_assoc] at this
  exact Int.eq_of_mul_eq_mul_left hg this
theorem tdv {a g : Int} (hg : g ≠ 0) (h : g ∣ a) : a = g * a.tdiv g := by
  obtain ⟨k, hk⟩ := h
  rw [hk, Int.mul_tdiv_cancel_left _ hg]
theorem tdiv_64 {a : Int} {g : Nat} (h : a.natAbs < 2 ^ 63) : (a.tdiv g).natAbs < 2 ^ 63 := by
  rw [Int.natAbs_tdiv]
  exact Nat.lt_of_le_of_lt (Nat.div_le_self _ _) h

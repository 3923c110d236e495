/-! THE LAW'S MINORS: by all ways to choose. -/
def fct : Nat → Nat
  | 0 => 1
  | n + 1 => (n + 1) * fct n
theorem fct_s (n : Nat) : fct (n + 1) = (n + 1) * fct n := rfl
/-- the product of a way w, n rows from row i on, columns l -/
def wP (B : Nat → Nat → Int) : Nat → Nat → Nat → Nat → Int
  | 0, _, _, _ => 1
  | n + 1, i, l, w => sgn (w % (n + 1)) * B i (nt l (w % (n + 1))) * wP B n (i + 1) (l - 2 ^ nt l (w % (n + 1))) (w / (n + 1))
theorem wP_s (B : Nat → Nat → Int) (n i l w : Nat) : wP B (n + 1) i l w = sgn (w % (n + 1)) * B i (nt l (w % (n + 1))) * wP B n (i + 1) (l - 2 ^ nt l (w % (n + 1))) (w / (n + 1)) := rfl
theorem sI_app (m : Nat) (f : Nat → Int) : ∀ n, sI (m + n) f = sI m f + sI n (fun k => f (m + k))
  | 0 => by rw [sI_0]; simp
  | n + 1 => by
    rw [show m + (n + 1) = (m + n) + 1 from rfl, sI_s, sI_app m f n, sI_s]; omega
theorem sI_prod (m : Nat) (f : Nat → Int) : ∀ q, sI (m * q) f = sI q (fun y => sI m (fun x => f (x + m * y)))
  | 0 => by rw [Nat.mul_zero, sI_0, sI_0]
  | q + 1 => by
    rw [Nat.mul_succ, sI_app, sI_prod m f q, sI_s]
    congr 1
    exact sI_congr fun k _ => by rw [Nat.add_comm]
theorem nt_skp {l x b : Nat} (hl : l < 64) (hx : x < pc6 l) (hb : b + 1 < pc6 l) : nt (l - 2 ^ nt l x) b = nt l (skp x b) := by
  have p := (pc6_r hl).1
  have := (skp_nt0 ⟨l, hl⟩ ⟨x, by omega⟩ hx).2 ⟨b, by omega⟩ hb
  exact this
theorem nt_drop {l x : Nat} (hl : l < 64) (hx : x < pc6 l) : pc6 (l - 2 ^ nt l x) + 1 = pc6 l ∧ nt l x < 6 ∧ mbit l (nt l x) ∧ 2 ^ nt l x ≤ l := by
  obtain ⟨n1, n2, n3, n4⟩ := nt_1 hl hx
  exact ⟨((b_and hl n1).2 n2).2, n1, n2, n4⟩
theorem wP_sum (B : Nat → Nat → Int) : ∀ (n i l : Nat), l < 64 → pc6 l = n → sI (fct n) (wP B n i l) = dT n (fun a b => B (i + a) (nt l b))
  | 0, i, l, _, _ => rfl
  | n + 1, i, l, hl, hp => by
    rw [fct_s, sI_prod, sI_comm, dT_s]
    refine sI_congr fun x hx => ?_
    obtain ⟨d1, d2, d3, d4⟩ := nt_drop hl (x := x) (by omega)
    have d5 := b_pos (nt l x)
    have ih := wP_sum B n (i + 1) (l - 2 ^ nt l x) (by omega) (by omega)
    rw [show (fun y => wP B (n + 1) i l (x + (n + 1) * y)) = fun y => sgn x * B i (nt l x) * wP B n (i + 1) (l - 2 ^ nt l x) y from funext fun y => by
      rw [wP_s, Nat.add_mul_mod_self_left, Nat.mod_eq_of_lt hx, Nat.add_mul_div_left _ _ (Nat.succ_pos n), Nat.div_eq_of_lt hx, Nat.zero_add], sI_mul, ih]
    congr 1
    refine dT_congr n fun a b ha hb => ?_
    rw [nt_skp hl (by omega) (by omega), show i + 1 + a = i + (a + 1) by omega]
theorem wP_mnr (A : Nat → Nat → Int) {n r c : Nat} (hr : r < 64) (hc : c < 64) (hpr : pc6 r = n) (hpc : pc6 c = n) : sI (fct n) (wP (fun i j => A (nt r i) j) n 0 c) = mnr A n r c := by
  rw [wP_sum _ n 0 c hc hpc, mnr_dT A n r c hr hc hpr hpc]
  refine dT_congr n fun a b _ _ => ?_
  rw [Nat.zero_add]
theorem b_xor0 : ∀ l : Fin 64, ∀ j : Fin 6, mbit l.val j.val → ixor (l.val : Int) ((2 ^ j.val : Nat) : Int) = ((l.val - 2 ^ j.val : Nat) : Int) := by decide +kernel
theorem b_xor {l j : Nat} (hl : l < 64) (hj : j < 6) (h : mbit l j) : ixor (l : Int) ((2 ^ j : Nat) : Int) = ((l - 2 ^ j : Nat) : Int) := b_xor0 ⟨l, hl⟩ ⟨j, hj⟩ h
theorem b_odd0 : ∀ k : Fin 8, iand (k.val : Int) 1 = ((k.val % 2 : Nat) : Int) := by decide +kernel
theorem b_odd {k : Nat} (h : k < 8) : iand (k : Int) 1 = ((k % 2 : Nat) : Int) := b_odd0 ⟨k, h⟩
theorem b_dn0 : ∀ F : Fin 5, ∀ c : Fin 16, c.val ≠ 0 → c.val < 2 ^ F.val → iand ((c.val : Int) - 1) ((2 ^ F.val - 1 : Nat) : Int) = (c.val : Int) - 1 := by decide +kernel
theorem b_dn {F c : Nat} (hF : F ≤ 4) (h0 : 0 < c) (hc : c < 2 ^ F) : iand ((c : Int) - 1) ((2 ^ F - 1 : Nat) : Int) = (c : Int) - 1 := by
  have : 2 ^ F ≤ 2 ^ 4 := Nat.pow_le_pow_right (by decide) hF
  exact b_dn0 ⟨F, by omega⟩ ⟨c, by omega⟩ (by show c ≠ 0; omega) hc
theorem sgn_t {k : Nat} (h : k % 2 = 0) : sgn k = 1 := if_pos h
theorem sgn_f {k : Nat} (h : ¬ k % 2 = 0) : sgn k = -1 := if_neg h
theorem nt_all0 : ∀ C : Fin 7, ∀ t : Fin 6, t.val < C.val → nt (2 ^ C.val - 1) t.val = t.val ∧ pc6 (2 ^ C.val - 1) = C.val := by decide +kernel
theorem pc_all0 : ∀ C : Fin 7, pc6 (2 ^ C.val - 1) = C.val ∧ 2 ^ C.val - 1 < 64 := by decide +kernel
theorem nt_all {C t : Nat} (hC : C ≤ 6) (ht : t < C) : nt (2 ^ C - 1) t = t := (nt_all0 ⟨C, by omega⟩ ⟨t, by omega⟩ ht).1
theorem pc_all {C : Nat} (hC : C ≤ 6) : pc6 (2 ^ C - 1) = C ∧ 2 ^ C - 1 < 64 := pc_all0 ⟨C, by omega⟩
/-- table 1 is of the kind that the law's rank wants -/
theorem ent1_uj {σ : SG} (W : WF σ) {f : Nat → Int} {k : Nat} (hk : k < sE σ) (hf : ∀ i, i < sP σ → f (7 * i + k) = ent1 σ i k) : UJ f 0 (sP σ) k := by
  have w := W.2.2.2.1 k hk
  by_cases e : sto σ k = sfr σ k
  · refine Or.inl fun i _ hi => ?_
    rw [hf i hi]; unfold ent1; rw [e]; omega
  · refine Or.inr ⟨sto σ k, sfr σ k, Nat.zero_le _, w.2.1, Nat.zero_le _, w.1, e, ?_, ?_, fun i _ hi n1 n2 => ?_⟩
    · rw [hf _ w.2.1]; unfold ent1; rw [if_pos rfl, if_neg (Ne.symm e)]; rfl
    · rw [hf _ w.1]; unfold ent1; rw [if_neg e, if_pos rfl]; rfl
    · rw [hf i hi]; unfold ent1; rw [if_neg (Ne.symm n1), if_neg (Ne.symm n2)]; rfl
/-- a divisor of the minors of size k read so far: of rows r' below r, or of row r and columns from d on -/
def DGd (A : Nat → Nat → Int) (E F k r d : Nat) (g : Int) : Prop := 0 ≤ g ∧ g ≤ 4611686018427387904 ∧ ∀ p : Int, p ∣ g ↔ ∀ r' c', r' < 2 ^ E → c' < 2 ^ F → pc6 r' = k → pc6 c' = k → (r' < r ∨ (r' = r ∧ d ≤ c')) → p ∣ mnr A k r' c'
theorem DGd.zero (A : Nat → Nat → Int) (E F k : Nat) : DGd A E F k 0 (2 ^ F) 0 := ⟨Int.le_refl 0, by decide, fun p => ⟨fun _ r' c' _ hc _ _ h => by omega, fun _ => Int.dvd_zero p⟩⟩
theorem DGd.next {A : Nat → Nat → Int} {E F k r : Nat} {g : Int} (D : DGd A E F k r 0 g) : DGd A E F k (r + 1) (2 ^ F) g := ⟨D.1, D.2.1, fun p => by
  rw [D.2.2 p]
  exact ⟨fun h r' c' h1 h2 h3 h4 h5 => h r' c' h1 h2 h3 h4 (by omega), fun h r' c' h1 h2 h3 h4 h5 => h r' c' h1 h2 h3 h4 (by omega)⟩⟩
theorem DGd.skip {A : Nat → Nat → Int} {E F k r c : Nat} {g : Int} (D : DGd A E F k r (c + 1) g) (h : ¬ (pc6 r = k ∧ pc6 c = k)) : DGd A E F k r c g := ⟨D.1, D.2.1, fun p => by
  rw [D.2.2 p]
  refine ⟨fun hh r' c' h1 h2 h3 h4 h5 => hh r' c' h1 h2 h3 h4 ?_, fun hh r' c' h1 h2 h3 h4 h5 => hh r' c' h1 h2 h3 h4 (by omega)⟩
  rcases h5 with h5 | ⟨h5, h6⟩
  · exact Or.inl h5
  · refine Or.inr ⟨h5, ?_⟩
    by_cases e : c' = c
    · subst e; subst h5; exact absurd ⟨h3, h4⟩ h
    · omega⟩
theorem gcd_bd {a b n : Int} (ha : 0 ≤ a ∧ a ≤ n) (hb : -n ≤ b ∧ b ≤ n) : (Int.gcd a b : Int) ≤ n := by
  by_cases q : a = 0
  · subst q; rw [Int.gcd_zero_left]; omega
  · have := Nat.le_of_dvd (show 0 < a.natAbs by omega) (Nat.gcd_dvd_left a.natAbs b.natAbs)
    show ((Nat.gcd a.natAbs b.natAbs : Nat) : Int) ≤ n
    omega
theorem DGd.take {A : Nat → Nat → Int} {E F k r c : Nat} {g v : Int} (D : DGd A E F k r (c + 1) g) (hr : r < 2 ^ E) (hc : c < 2 ^ F) (h1 : pc6 r = k) (h2 : pc6 c = k) (hv : v = mnr A k r c) (hb : -4611686018427387904 ≤ v ∧ v ≤ 4611686018427387904) : DGd A E F k r c (Int.gcd g v) := ⟨by omega, gcd_bd ⟨D.1, D.2.1⟩ hb, fun p => by
  rw [Int.dvd_coe_gcd_iff, D.2.2 p]
  constructor
  · rintro ⟨x1, x2⟩ r' c' h3 h4 h5 h6 h7
    by_cases e : r' = r ∧ c' = c
    · rw [e.1, e.2, ← hv]; exact x2
    · exact x1 r' c' h3 h4 h5 h6 (by omega)
  · intro x
    exact ⟨fun r' c' h3 h4 h5 h6 h7 => x r' c' h3 h4 h5 h6 (by omega), by rw [hv]; exact x r c hr hc h1 h2 (Or.inr ⟨rfl, Nat.le_refl c⟩)⟩⟩
/-- the divisor of all minors of size k -/
def DGk (A : Nat → Nat → Int) (E F k : Nat) (g : Int) : Prop := 0 ≤ g ∧ g ≤ 4611686018427387904 ∧ ∀ p : Int, p ∣ g ↔ ∀ r' c', r' < 2 ^ E → c' < 2 ^ F → pc6 r' = k → pc6 c' = k → p ∣ mnr A k r' c'
theorem DGd.all {A : Nat → Nat → Int} {E F k : Nat} {g : Int} (D : DGd A E F k (2 ^ E) (2 ^ F) g) : DGk A E F k g := ⟨D.1, D.2.1, fun p => by
  rw [D.2.2 p]
  exact ⟨fun h r' c' h1 h2 h3 h4 => h r' c' h1 h2 h3 h4 (Or.inl h1), fun h r' c' h1 h2 h3 h4 _ => h r' c' h1 h2 h3 h4⟩⟩
theorem ent2_mb {σ : SG} (W : WF σ) {r c : Nat} (hr : r < 2 ^ sE σ) (hc : c < 2 ^ sF σ) (h4 : pc6 r ≤ 4) : -400000 ≤ mnr (ent2 σ) (pc6 r) r c ∧ mnr (ent2 σ) (pc6 r) r c ≤ 400000 := by
  have w2 := W.2.1
  have w3 := W.2.2.1
  have h := mnr_b (A := ent2 σ) (R := sE σ) (C := sF σ) (B := 4) w2 (by omega) (fun i j hi hj => by have := ent2_r W hj (i := i); omega) (pc6 r) r c hr hc rfl
  have : (6 * 4) ^ pc6 r ≤ (6 * 4) ^ 4 := Nat.pow_le_pow_right (by decide) h4
  omega

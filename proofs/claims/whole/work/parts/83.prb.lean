/-! BOUNDS by columns; faces and driven rays: their products, bounds, that they are perpendicular. -/
def pdN : Nat → (Nat → Nat) → Nat
  | 0, _ => 1
  | n + 1, L => L 0 * pdN n (fun j => L (j + 1))
theorem sI_mono {n : Nat} {f g : Nat → Int} (h : ∀ k, k < n → f k ≤ g k) : sI n f ≤ sI n g := by
  induction n with
  | zero => exact Int.le_refl 0
  | succ n ih => rw [sI_s, sI_s]; have := ih fun k hk => h k (by omega); have := h n (by omega); omega
theorem sI_abs (n : Nat) (f : Nat → Int) : ((sI n f).natAbs : Int) ≤ sI n (fun k => ((f k).natAbs : Int)) := by
  induction n with
  | zero => exact Int.le_refl 0
  | succ n ih => rw [sI_s, sI_s]; omega
theorem sI_skp : ∀ (n j : Nat) (f : Nat → Int), j ≤ n → sI (n + 1) f = sI n (fun k => f (skp j k)) + f j
  | 0, j, f, h => by rw [show j = 0 by omega]; rfl
  | n + 1, j, f, h => by
    rw [sI_s (n + 1) f]
    rcases (show j = n + 1 ∨ j ≤ n by omega) with q | q
    · subst q
      congr 1
      exact sI_congr fun k hk => by unfold skp; rw [if_pos hk]
    · rw [sI_skp n j f q, sI_s n (fun k => f (skp j k))]
      have : skp j n = n + 1 := by unfold skp; rw [if_neg (by omega)]
      rw [this]; omega
theorem dT_br : ∀ (n : Nat) (L : Nat → Nat) (A : Nat → Nat → Int), (∀ i, i < n → sI n (fun j => ((A i j).natAbs : Int)) ≤ L i) → (dT n A).natAbs ≤ pdN n L
  | 0, _, _, _ => Nat.le_refl _
  | n + 1, L, A, h => by
    have m : ∀ j, j < n + 1 → (dT n (fun i k => A (i + 1) (skp j k))).natAbs ≤ pdN n (fun j => L (j + 1)) := by
      intro j hj
      refine dT_br n (fun j => L (j + 1)) _ fun i hi => ?_
      have h1 := h (i + 1) (by omega)
      have h2 := sI_skp n j (fun k => ((A (i + 1) k).natAbs : Int)) (by omega)
      omega
    have h0 := h 0 (by omega)
    have e1 := sI_abs (n + 1) (fun j => sgn j * A 0 j * dT n (fun i k => A (i + 1) (skp j k)))
    have e2 : sI (n + 1) (fun j => ((sgn j * A 0 j * dT n (fun i k => A (i + 1) (skp j k))).natAbs : Int)) ≤ sI (n + 1) (fun j => ((A 0 j).natAbs : Int) * (pdN n (fun j => L (j + 1)) : Int)) := by
      refine sI_mono fun j hj => ?_
      have s1 : (sgn j).natAbs = 1 := by unfold sgn; split <;> rfl
      rw [Int.natAbs_mul, Int.natAbs_mul, s1, Nat.one_mul]
      have := Nat.mul_le_mul_left (A 0 j).natAbs (m j hj)
      have e3 : (((A 0 j).natAbs * pdN n (fun j => L (j + 1)) : Nat) : Int) = ((A 0 j).natAbs : Int) * (pdN n (fun j => L (j + 1)) : Int) := Int.natCast_mul _ _
      omega
    rw [sI_mulr] at e2
    have e4 : sI (n + 1) (fun j => ((A 0 j).natAbs : Int)) * (pdN n (fun j => L (j + 1)) : Int) ≤ (L 0 : Int) * (pdN n (fun j => L (j + 1)) : Int) := Int.mul_le_mul_of_nonneg_right h0 (Int.natCast_nonneg _)
    have e5 : ((L 0 * pdN n (fun j => L (j + 1)) : Nat) : Int) = (L 0 : Int) * (pdN n (fun j => L (j + 1)) : Int) := Int.natCast_mul _ _
    rw [dT_s]
    show _ ≤ L 0 * pdN n (fun j => L (j + 1))
    omega
theorem dT_bc (n : Nat) (L : Nat → Nat) (A : Nat → Nat → Int) (h : ∀ j, j < n → sI n (fun i => ((A i j).natAbs : Int)) ≤ L j) : (dT n A).natAbs ≤ pdN n L := by
  rw [← dT_tr]
  exact dT_br n L _ h
theorem pdN_all : ∀ (n a : Nat) (L : Nat → Nat), (∀ j, j < n → L j ≤ a) → pdN n L ≤ a ^ n
  | 0, _, _, _ => Nat.le_refl _
  | n + 1, a, L, h => by
    rw [Nat.pow_succ, Nat.mul_comm]
    exact Nat.mul_le_mul (h 0 (by omega)) (pdN_all n a _ fun j hj => h (j + 1) (by omega))
theorem pdN_one : ∀ (n r a : Nat) (L : Nat → Nat), r < n → (∀ j, j < n → j ≠ r → L j ≤ a) → pdN n L ≤ a ^ (n - 1) * L r
  | 0, _, _, _, h, _ => absurd h (Nat.not_lt_zero _)
  | n + 1, 0, a, L, _, h => by
    rw [Nat.mul_comm]
    exact Nat.mul_le_mul_left _ (pdN_all n a _ fun j hj => h (j + 1) (by omega) (by omega))
  | n + 1, r + 1, a, L, hr, h => by
    have ih := pdN_one n r a (fun j => L (j + 1)) (by omega) (fun j hj hne => h (j + 1) (by omega) (by omega))
    have e : a ^ (n + 1 - 1) * L (r + 1) = a * (a ^ (n - 1) * L (r + 1)) := by
      rw [show n + 1 - 1 = (n - 1) + 1 by omega, Nat.pow_succ, Nat.mul_comm (a ^ (n - 1)) a, Nat.mul_assoc]
    rw [e]
    exact Nat.mul_le_mul (h 0 (by omega) (by omega)) ih
theorem pdN_two : ∀ (n q r a : Nat) (L : Nat → Nat), q < n → r < n → q ≠ r → (∀ j, j < n → j ≠ q → j ≠ r → L j ≤ a) → pdN n L ≤ a ^ (n - 2) * (L q * L r)
  | 0, _, _, _, _, h, _, _, _ => absurd h (Nat.not_lt_zero _)
  | n + 1, 0, 0, _, _, _, _, h, _ => absurd rfl h
  | n + 1, 0, r + 1, a, L, _, hr, _, h => by
    have ih := pdN_one n r a (fun j => L (j + 1)) (by omega) (fun j hj hne => h (j + 1) (by omega) (by omega) (by omega))
    have e : a ^ (n + 1 - 2) * (L 0 * L (r + 1)) = L 0 * (a ^ (n - 1) * L (r + 1)) := by
      rw [show n + 1 - 2 = n - 1 by omega, Nat.mul_left_comm]
    rw [e]
    exact Nat.mul_le_mul_left _ ih
  | n + 1, q + 1, 0, a, L, hq, _, _, h => by
    have ih := pdN_one n q a (fun j => L (j + 1)) (by omega) (fun j hj hne => h (j + 1) (by omega) (by omega) (by omega))
    have e : a ^ (n + 1 - 2) * (L (q + 1) * L 0) = L 0 * (a ^ (n - 1) * L (q + 1)) := by
      rw [show n + 1 - 2 = n - 1 by omega, Nat.mul_comm (L (q + 1)), Nat.mul_left_comm]
    rw [e]
    exact Nat.mul_le_mul_left _ ih
  | n + 1, q + 1, r + 1, a, L, hq, hr, hne, h => by
    have ih := pdN_two n q r a (fun j => L (j + 1)) (by omega) (by omega) (by omega) (fun j hj h1 h2 => h (j + 1) (by omega) (by omega) (by omega))
    have e : a ^ (n + 1 - 2) * (L (q + 1) * L (r + 1)) = a * (a ^ (n - 2) * (L (q + 1) * L (r + 1))) := by
      rw [show n + 1 - 2 = (n - 2) + 1 by omega, Nat.pow_succ, Nat.mul_comm (a ^ (n - 2)) a, Nat.mul_assoc]
    rw [e]
    exact Nat.mul_le_mul (h 0 (by omega) (by omega) (by omega)) ih
/-- how many of S -/
def cnS : Nat → (Nat → Bool) → Nat
  | 0, _ => 0
  | n + 1, S => (if S 0 = true then 1 else 0) + cnS n (fun j => S (j + 1))
theorem pdN_cn : ∀ (n a : Nat) (S : Nat → Bool), pdN n (fun j => if S j = true then a else 1) = a ^ cnS n S
  | 0, _, _ => rfl
  | n + 1, a, S => by
    unfold pdN cnS
    rw [pdN_cn n a (fun j => S (j + 1))]
    show (if S 0 = true then a else 1) * a ^ cnS n (fun j => S (j + 1)) = _
    by_cases q : S 0 = true
    · rw [if_pos q, if_pos q, Nat.pow_add, Nat.pow_one]
    · rw [if_neg q, if_neg q, Nat.one_mul, Nat.zero_add]
/-- columns of KS -/
theorem ks_col {n : Nat} {S : Nat → Bool} {G : Nat → Nat → Int} {a : Nat} (h : ∀ j, j < n → sI n (fun i => ((G i j).natAbs : Int)) ≤ a) (j : Nat) (hj : j < n) : sI n (fun i => ((KS S G i j).natAbs : Int)) ≤ ((if S j = true then a else 1 : Nat) : Int) := by
  by_cases q : S j = true
  · rw [if_pos q, sI_congr (g := fun i => ((G i j).natAbs : Int)) (fun i _ => by unfold KS; rw [if_pos q])]
    exact h j hj
  · rw [if_neg q, sI_dl hj _ (fun i _ hne => by unfold KS; rw [if_neg q, if_neg hne]; rfl)]
    unfold KS
    rw [if_neg q, if_pos rfl]
    decide
theorem ds_b {n : Nat} {S : Nat → Bool} {G : Nat → Nat → Int} {a : Nat} (h : ∀ j, j < n → sI n (fun i => ((G i j).natAbs : Int)) ≤ a) : (dT n (KS S G)).natAbs ≤ a ^ cnS n S := by
  rw [← pdN_cn]
  exact dT_bc n _ _ (ks_col h)
/-- the columns' bounds, that of place r being b -/
def LB (a b : Nat) (S : Nat → Bool) (r j : Nat) : Nat := if j = r then b else if S j = true then a else 1
theorem xs_b {n : Nat} {S : Nat → Bool} {G : Nat → Nat → Int} {a b r s : Nat} (h : ∀ j, j < n → sI n (fun i => ((G i j).natAbs : Int)) ≤ a) (hr : r < n) (hb : sI n (fun i => ((G i s).natAbs : Int)) ≤ b) : (XS n S G r s).natAbs ≤ pdN n (LB a b S r) := by
  rw [xs_cr hr]
  refine dT_bc n _ _ fun j hj => ?_
  unfold LB
  by_cases q : j = r
  · rw [if_pos q, sI_congr (g := fun i => ((G i s).natAbs : Int)) (fun i _ => by unfold uc; rw [if_pos q])]
    exact hb
  · rw [if_neg q, sI_congr (g := fun i => ((KS S G i j).natAbs : Int)) (fun i _ => by unfold uc; rw [if_neg q])]
    exact ks_col h j hj
theorem LB_o {a b r j : Nat} {S : Nat → Bool} (ha : 1 ≤ a) (h : j ≠ r) : LB a b S r j ≤ a := by
  unfold LB; rw [if_neg h]; split <;> omega
theorem LB_r (a b r : Nat) (S : Nat → Bool) : LB a b S r r = b := if_pos rfl
theorem LB_1 {a b r j : Nat} {S : Nat → Bool} (h : j ≠ r) (hS : S j = false) : LB a b S r j = 1 := by unfold LB; rw [if_neg h, hS]; rfl
/-- the rays -/
def ryF (σ : SG) (f e : Nat) : Int := ent2 σ e f
def ryD (σ : SG) (p e : Nat) : Int := ent1 σ p e * (sew σ e : Int)
def msr (σ : SG) (e : Nat) : Int := ((6 / sew σ e : Nat) : Int)
theorem msr_f {w : Nat} (h1 : 1 ≤ w) (h2 : w ≤ 3) : w * (6 / w) = 6 ∧ 2 ≤ 6 / w ∧ 6 / w ≤ 6 := by
  rcases (show w = 1 ∨ w = 2 ∨ w = 3 by omega) with rfl | rfl | rfl <;> decide
theorem msr_r {σ : SG} (W : WF σ) {e : Nat} (he : e < sE σ) : 2 ≤ msr σ e ∧ msr σ e ≤ 6 ∧ (sew σ e : Int) * msr σ e = 6 := by
  have w := W.2.2.2.1 e he
  have m := msr_f w.2.2.1 w.2.2.2
  unfold msr
  refine ⟨by omega, by omega, ?_⟩
  have : ((sew σ e * (6 / sew σ e) : Nat) : Int) = 6 := by rw [m.1]; rfl
  rw [Int.natCast_mul] at this
  exact this
theorem msr_p {σ : SG} (W : WF σ) : ∀ e, e < sE σ → 0 < msr σ e := fun e he => by have := msr_r W he; omega
theorem lsg_e {σ : SG} (E j k : Nat) : sI E (fun e => ((lsg σ e j k).natAbs : Int)) ≤ 1 := by
  by_cases q : sle σ j k < E
  · rw [sI_dl q _ (fun e _ hne => by unfold lsg; rw [if_neg (Ne.symm hne)]; rfl)]
    have := lsg_r σ (sle σ j k) j k
    omega
  · rw [sI_zero E (fun e he => by unfold lsg; rw [if_neg (by omega)]; rfl)]; decide
theorem ent2_L1 {σ : SG} (W : WF σ) {f : Nat} (hf : f < sF σ) (E : Nat) : sI E (fun e => ((ent2 σ e f).natAbs : Int)) ≤ 4 := by
  have h1 : sI E (fun e => ((ent2 σ e f).natAbs : Int)) ≤ sI E (fun e => sI (swl σ f) (fun k => ((lsg σ e f k).natAbs : Int))) := sI_mono fun e _ => sI_abs _ _
  rw [sI_comm] at h1
  have h2 := sI_mono (n := swl σ f) (f := fun k => sI E (fun e => ((lsg σ e f k).natAbs : Int))) (g := fun _ => 1) (fun k _ => lsg_e E f k)
  have h3 : ∀ n : Nat, sI n (fun _ => (1 : Int)) = n := by
    intro n
    induction n with
    | zero => rfl
    | succ n ih => rw [sI_s, ih]; omega
  rw [h3] at h2
  have := (W.2.2.2.2.1 f hf).2.2.2.1
  omega
theorem ent1_L1 {σ : SG} (P e : Nat) : sI P (fun p => ((ent1 σ p e).natAbs : Int)) ≤ 2 := by
  have one : ∀ x : Nat, sI P (fun p => if x = p then (1 : Int) else 0) ≤ 1 := by
    intro x
    by_cases q : x < P
    · rw [sI_dl q _ (fun a _ hne => if_neg (Ne.symm hne)), if_pos rfl]; decide
    · rw [sI_zero P (fun k hk => if_neg (by omega))]; decide
  have h1 := one (sto σ e)
  have h2 := one (sfr σ e)
  have h3 : sI P (fun p => ((ent1 σ p e).natAbs : Int)) ≤ sI P (fun p => (if sto σ e = p then (1 : Int) else 0) + (if sfr σ e = p then 1 else 0)) := sI_mono fun p _ => by unfold ent1; split <;> split <;> decide
  rw [sI_add] at h3
  omega
theorem ent1_sum {σ : SG} (W : WF σ) {e : Nat} (he : e < sE σ) : sI (sP σ) (fun p => ent1 σ p e) = 0 := by
  have w := W.2.2.2.1 e he
  have e1 : sI (sP σ) (fun p => ent1 σ p e) = sI (sP σ) (fun p => if sto σ e = p then (1 : Int) else 0) - sI (sP σ) (fun p => if sfr σ e = p then 1 else 0) := by rw [← sI_sub]; rfl
  rw [e1, sI_dl w.2.1 _ (fun a _ hne => if_neg (Ne.symm hne)), sI_dl w.1 _ (fun a _ hne => if_neg (Ne.symm hne)), if_pos rfl, if_pos rfl]
  rfl
/-- the boundary of a face has no boundary -/
theorem tele (b e : Nat → Nat) (p : Nat) : ∀ n, (∀ k, k + 1 < n + 1 → b (k + 1) = e k) → sI (n + 1) (fun k => (if e k = p then (1 : Int) else 0) - (if b k = p then 1 else 0)) = (if e n = p then 1 else 0) - (if b 0 = p then 1 else 0)
  | 0, _ => by rw [sI_s, sI_0]; omega
  | n + 1, h => by
    rw [sI_s, tele b e p n (fun k hk => h k (by omega)), h n (by omega)]; omega
theorem bdbd {σ : SG} (W : WF σ) {f p : Nat} (hf : f < sF σ) : sI (sE σ) (fun e => ent1 σ p e * ent2 σ e f) = 0 := by
  obtain ⟨w1, w2, w3, w4, w5, w6, w7⟩ := W.2.2.2.2.1 f hf
  have e1 : sI (sE σ) (fun e => ent1 σ p e * ent2 σ e f) = sI (swl σ f) (fun k => sI (sE σ) (fun e => ent1 σ p e * lsg σ e f k)) := by
    rw [sI_comm]
    exact sI_congr fun e _ => by unfold ent2; rw [sI_mul]
  have e2 : ∀ k, k < swl σ f → sI (sE σ) (fun e => ent1 σ p e * lsg σ e f k) = (if edn σ f k = p then (1 : Int) else 0) - (if bgn σ f k = p then 1 else 0) := by
    intro k hk
    rw [sI_dl (w5 k hk) _ (fun e _ hne => by unfold lsg; rw [if_neg (Ne.symm hne), Int.mul_zero])]
    unfold lsg ent1 edn bgn
    rw [if_pos rfl]
    cases ssg σ f k
    · simp
    · simp; omega
  rw [e1, sI_congr e2]
  have e3 := tele (bgn σ f) (edn σ f) p (swl σ f - 1) (fun k hk => w6 k (by omega))
  rw [show swl σ f - 1 + 1 = swl σ f by omega] at e3
  rw [e3, w7]; omega
theorem perp {σ : SG} (W : WF σ) {f p : Nat} (hf : f < sF σ) : ipw (sE σ) (msr σ) (ryF σ f) (ryD σ p) = 0 := by
  have e1 : ipw (sE σ) (msr σ) (ryF σ f) (ryD σ p) = sI (sE σ) (fun e => 6 * (ent1 σ p e * ent2 σ e f)) := by
    refine sI_congr fun e he => ?_
    have m := (msr_r W he).2.2
    unfold ryF ryD
    rw [show ent2 σ e f * (ent1 σ p e * (sew σ e : Int)) * msr σ e = ((sew σ e : Int) * msr σ e) * (ent1 σ p e * ent2 σ e f) by grind, m]
  rw [e1, sI_mul, bdbd W hf]; rfl

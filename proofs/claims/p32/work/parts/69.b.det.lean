/-! DETERMINANTS of any size, along the first row: by the first column, turned, linear and alternating in rows and columns, adjugates, Cramer. -/
def skp (p k : Nat) : Nat := if k < p then k else k + 1
def sgn (j : Nat) : Int := if j % 2 = 0 then 1 else -1
theorem sgn_s (j : Nat) : sgn (j + 1) = -sgn j := by unfold sgn; split <;> split <;> omega
theorem sgn_2 (j : Nat) : sgn j * sgn j = 1 := by unfold sgn; split <;> rfl
theorem skp_lt {p k n : Nat} (h : k < n) : skp p k < n + 1 := by unfold skp; split <;> omega
theorem skp_0 (k : Nat) : skp 0 k = k + 1 := by simp [skp]
theorem skp_z (p : Nat) : skp (p + 1) 0 = 0 := by simp [skp]
theorem skp_ss (p k : Nat) : skp (p + 1) (k + 1) = skp p k + 1 := by unfold skp; split <;> split <;> omega
theorem sI_hd (n : Nat) (f : Nat → Int) : sI (n + 1) f = f 0 + sI n (fun k => f (k + 1)) := by
  induction n with
  | zero => simp [sI]
  | succ n ih => rw [sI_s, ih, sI_s]; omega
theorem sI_lin (n : Nat) (x y : Int) (f g : Nat → Int) : sI n (fun k => x * f k + y * g k) = x * sI n f + y * sI n g := by rw [sI_add, sI_mul, sI_mul]
theorem sI_mulr (n : Nat) (c : Int) (f : Nat → Int) : sI n (fun k => f k * c) = sI n f * c := by
  rw [Int.mul_comm, ← sI_mul]; exact sI_congr fun k _ => Int.mul_comm _ _
theorem sI_sub (n : Nat) (f g : Nat → Int) : sI n (fun k => f k - g k) = sI n f - sI n g := by
  induction n with
  | zero => rfl
  | succ n ih => rw [sI_s, sI_s, sI_s, ih]; omega
theorem sI_comm (n m : Nat) (f : Nat → Nat → Int) : sI n (fun i => sI m (fun j => f i j)) = sI m (fun j => sI n (fun i => f i j)) := by
  induction n with
  | zero => exact (sI_zero m (fun k _ => rfl)).symm
  | succ n ih => rw [sI_s, ih, ← sI_add]; rfl
theorem sI_delta {n i : Nat} (h : i < n) (v : Nat → Int) : sI n (fun a => v a * (if i = a then 1 else 0)) = v i := by
  induction n with
  | zero => omega
  | succ n ih =>
    rw [sI_s]
    by_cases q : i = n
    · subst q
      rw [sI_zero i (fun k hk => by rw [if_neg (by omega), Int.mul_zero]), if_pos rfl]; omega
    · rw [ih (by omega), if_neg q]; omega
theorem sI_two {n i j : Nat} (hij : i < j) (hj : j < n) (f : Nat → Int) (h : ∀ r, r < n → r ≠ i → r ≠ j → f r = 0) : sI n f = f i + f j := by
  induction n with
  | zero => omega
  | succ n ih =>
    rw [sI_s]
    by_cases q : j = n
    · subst q
      have : sI j f = f i := by
        have e := sI_delta hij f
        rw [← e]
        refine sI_congr fun k hk => ?_
        by_cases q2 : i = k
        · rw [if_pos q2]; omega
        · rw [if_neg q2, h k (by omega) (by omega) (by omega)]; rfl
      omega
    · rw [ih (by omega) (fun r h1 h2 h3 => h r (by omega) h2 h3), h n (by omega) (by omega) (by omega)]; omega
def dT : Nat → (Nat → Nat → Int) → Int
  | 0, _ => 1
  | n + 1, A => sI (n + 1) (fun j => sgn j * A 0 j * dT n (fun i k => A (i + 1) (skp j k)))
def dC : Nat → (Nat → Nat → Int) → Int
  | 0, _ => 1
  | n + 1, A => sI (n + 1) (fun i => sgn i * A i 0 * dC n (fun a b => A (skp i a) (b + 1)))
theorem dT_s (n : Nat) (A : Nat → Nat → Int) : dT (n + 1) A = sI (n + 1) (fun j => sgn j * A 0 j * dT n (fun i k => A (i + 1) (skp j k))) := rfl
theorem dC_s (n : Nat) (A : Nat → Nat → Int) : dC (n + 1) A = sI (n + 1) (fun i => sgn i * A i 0 * dC n (fun a b => A (skp i a) (b + 1))) := rfl
theorem dT_congr : ∀ (n : Nat) {A B : Nat → Nat → Int}, (∀ i j, i < n → j < n → A i j = B i j) → dT n A = dT n B
  | 0, _, _, _ => rfl
  | n + 1, A, B, h => by
    rw [dT_s, dT_s]
    refine sI_congr fun j hj => ?_
    rw [h 0 j (by omega) hj, dT_congr n (A := fun i k => A (i + 1) (skp j k)) (B := fun i k => B (i + 1) (skp j k)) (fun i k hi hk => h _ _ (by omega) (skp_lt hk))]
theorem rg1 (a b x y D : Int) : -a * x * (b * y * D) = -b * y * (a * x * D) := by grind
theorem dT_dC : ∀ (n : Nat) (A : Nat → Nat → Int), dT n A = dC n A
  | 0, _ => rfl
  | 1, _ => rfl
  | n + 2, A => by
    have h0 : dT (n + 1) (fun i k => A (i + 1) (skp 0 k)) = dC (n + 1) (fun a b => A (skp 0 a) (b + 1)) := by
      simp only [skp_0]
      exact dT_dC (n + 1) _
    have h1 : ∀ k, dT (n + 1) (fun i c => A (i + 1) (skp (k + 1) c)) = sI (n + 1) (fun i => sgn i * A (i + 1) 0 * dT n (fun a b => A (skp i a + 1) (skp k b + 1))) := by
      intro k
      rw [dT_dC (n + 1), dC_s]
      refine sI_congr fun i _ => ?_
      simp only [skp_z, skp_ss]
      rw [dT_dC n]
    have h2 : ∀ i, dC (n + 1) (fun a b => A (skp (i + 1) a) (b + 1)) = sI (n + 1) (fun k => sgn k * A 0 (k + 1) * dT n (fun a b => A (skp i a + 1) (skp k b + 1))) := by
      intro i
      rw [← dT_dC (n + 1), dT_s]
      refine sI_congr fun k _ => ?_
      simp only [skp_z, skp_ss]
    rw [dT_s, dC_s, sI_hd (n + 1) (fun j => sgn j * A 0 j * dT (n + 1) (fun i k => A (i + 1) (skp j k))), sI_hd (n + 1) (fun i => sgn i * A i 0 * dC (n + 1) (fun a b => A (skp i a) (b + 1))), h0]
    congr 1
    have e1 : sI (n + 1) (fun k => sgn (k + 1) * A 0 (k + 1) * dT (n + 1) (fun i c => A (i + 1) (skp (k + 1) c))) = sI (n + 1) (fun k => sI (n + 1) (fun i => sgn (k + 1) * A 0 (k + 1) * (sgn i * A (i + 1) 0 * dT n (fun a b => A (skp i a + 1) (skp k b + 1))))) :=
      sI_congr fun k _ => by rw [h1, sI_mul]
    have e2 : sI (n + 1) (fun i => sgn (i + 1) * A (i + 1) 0 * dC (n + 1) (fun a b => A (skp (i + 1) a) (b + 1))) = sI (n + 1) (fun i => sI (n + 1) (fun k => sgn (i + 1) * A (i + 1) 0 * (sgn k * A 0 (k + 1) * dT n (fun a b => A (skp i a + 1) (skp k b + 1))))) :=
      sI_congr fun i _ => by rw [h2, sI_mul]
    rw [e1, e2, sI_comm]
    refine sI_congr fun i _ => sI_congr fun k _ => ?_
    rw [sgn_s, sgn_s]
    exact rg1 _ _ _ _ _
theorem dC_tr : ∀ (n : Nat) (A : Nat → Nat → Int), dC n A = dT n (fun i j => A j i)
  | 0, _ => rfl
  | n + 1, A => by
    rw [dC_s, dT_s]
    refine sI_congr fun i _ => ?_
    rw [dC_tr n]
theorem dT_tr (n : Nat) (A : Nat → Nat → Int) : dT n (fun i j => A j i) = dT n A := by rw [← dC_tr, ← dT_dC]
def ur (i : Nat) (r : Nat → Int) (A : Nat → Nat → Int) : Nat → Nat → Int := fun a => if a = i then r else A a
theorem ur_at (i : Nat) (r : Nat → Int) (A : Nat → Nat → Int) : ur i r A i = r := if_pos rfl
theorem ur_ne {i a : Nat} (r : Nat → Int) (A : Nat → Nat → Int) (h : a ≠ i) : ur i r A a = A a := if_neg h
theorem dT_ur0 (n : Nat) (r : Nat → Int) (A : Nat → Nat → Int) : dT (n + 1) (ur 0 r A) = sI (n + 1) (fun j => sgn j * r j * dT n (fun i k => A (i + 1) (skp j k))) := by
  rw [dT_s]
  refine sI_congr fun j _ => ?_
  simp [ur]
theorem dT_urs (n i : Nat) (r : Nat → Int) (A : Nat → Nat → Int) : dT (n + 1) (ur (i + 1) r A) = sI (n + 1) (fun j => sgn j * A 0 j * dT n (ur i (fun k => r (skp j k)) (fun a k => A (a + 1) (skp j k)))) := by
  rw [dT_s]
  refine sI_congr fun j _ => ?_
  have e : (fun a k => ur (i + 1) r A (a + 1) (skp j k)) = ur i (fun k => r (skp j k)) (fun a k => A (a + 1) (skp j k)) := by
    funext a k
    unfold ur
    by_cases q : a = i
    · rw [if_pos q, if_pos (by omega)]
    · rw [if_neg q, if_neg (by omega)]
  rw [e, ur_ne r A (by omega)]
theorem rg2 (s x y a b D : Int) : s * (x * a + y * b) * D = x * (s * a * D) + y * (s * b * D) := by grind
theorem rg3 (s x y a b : Int) : s * (x * a + y * b) = x * (s * a) + y * (s * b) := by grind
theorem dT_lin : ∀ (n i : Nat) (x y : Int) (r s : Nat → Int) (A : Nat → Nat → Int), i < n → dT n (ur i (fun k => x * r k + y * s k) A) = x * dT n (ur i r A) + y * dT n (ur i s A)
  | 0, _, _, _, _, _, _, h => absurd h (Nat.not_lt_zero _)
  | n + 1, 0, x, y, r, s, A, _ => by
    rw [dT_ur0, dT_ur0, dT_ur0, ← sI_lin]
    exact sI_congr fun j _ => rg2 _ _ _ _ _ _
  | n + 1, i + 1, x, y, r, s, A, h => by
    rw [dT_urs, dT_urs, dT_urs, ← sI_lin]
    refine sI_congr fun j _ => ?_
    rw [dT_lin n i x y (fun k => r (skp j k)) (fun k => s (skp j k)) _ (by omega)]
    exact rg3 _ _ _ _ _
theorem dT_0row {n i : Nat} (A : Nat → Nat → Int) (h : i < n) : dT n (ur i (fun _ => 0) A) = 0 := by
  have := dT_lin n i 0 0 (fun _ => 0) (fun _ => 0) A h
  simpa using this
theorem dT_rsum (n i m : Nat) (c : Nat → Int) (ρ : Nat → Nat → Int) (A : Nat → Nat → Int) (h : i < n) : dT n (ur i (fun k => sI m (fun b => c b * ρ b k)) A) = sI m (fun b => c b * dT n (ur i (ρ b) A)) := by
  induction m with
  | zero => exact dT_0row A h
  | succ m ih =>
    have e : (fun k => sI (m + 1) (fun b => c b * ρ b k)) = (fun k => 1 * sI m (fun b => c b * ρ b k) + c m * ρ m k) := by funext k; rw [sI_s]; omega
    rw [e, dT_lin n i 1 (c m) (fun k => sI m (fun b => c b * ρ b k)) (ρ m) A h, ih, sI_s]; omega
theorem dC_adj : ∀ (n i : Nat) (A : Nat → Nat → Int), i + 1 < n → (∀ k, A i k = A (i + 1) k) → dC n A = 0
  | 0, _, _, h, _ => absurd h (Nat.not_lt_zero _)
  | n + 1, i, A, h, he => by
    rw [dC_s, sI_two (i := i) (j := i + 1) (by omega) h]
    · have e : (fun a b => A (skp i a) (b + 1)) = (fun a b => A (skp (i + 1) a) (b + 1)) := by
        funext a b
        unfold skp
        by_cases q1 : a < i
        · rw [if_pos q1, if_pos (by omega)]
        · by_cases q2 : a = i
          · subst q2; rw [if_neg q1, if_pos (by omega)]; exact (he _).symm
          · rw [if_neg q1, if_neg (by omega)]
      rw [e, ← he 0, sgn_s]
      grind
    · intro r h1 h2 h3
      have : dC n (fun a b => A (skp r a) (b + 1)) = 0 := by
        rcases Nat.lt_or_ge r i with q | q
        · refine dC_adj n (i - 1) _ (by omega) (fun k => ?_)
          unfold skp
          rw [if_neg (by omega), if_neg (by omega), show i - 1 + 1 = i by omega]
          exact he _
        · refine dC_adj n i _ (by omega) (fun k => ?_)
          unfold skp
          rw [if_pos (by omega), if_pos (by omega)]
          exact he _
      rw [this, Int.mul_zero]
theorem ur_cm {i j : Nat} (h : i ≠ j) (r s : Nat → Int) (A : Nat → Nat → Int) : ur i r (ur j s A) = ur j s (ur i r A) := by
  funext a
  unfold ur
  by_cases q1 : a = i
  · by_cases q2 : a = j
    · omega
    · rw [if_pos q1, if_neg q2, if_pos q1]
  · by_cases q2 : a = j
    · rw [if_neg q1, if_pos q2, if_pos q2]
    · rw [if_neg q1, if_neg q2, if_neg q2, if_neg q1]
theorem ur_id (i : Nat) (A : Nat → Nat → Int) : ur i (A i) A = A := by
  funext a
  unfold ur
  by_cases q : a = i
  · rw [if_pos q, q]
  · rw [if_neg q]
/-- rows i and j changed -/
def sw (i j : Nat) (A : Nat → Nat → Int) : Nat → Nat → Int := ur i (A j) (ur j (A i) A)
theorem sw_i (i j : Nat) (A : Nat → Nat → Int) : sw i j A i = A j := ur_at _ _ _
theorem sw_j {i j : Nat} (h : j ≠ i) (A : Nat → Nat → Int) : sw i j A j = A i := by unfold sw; rw [ur_ne _ _ h, ur_at]
theorem sw_o {i j a : Nat} (h1 : a ≠ i) (h2 : a ≠ j) (A : Nat → Nat → Int) : sw i j A a = A a := by unfold sw; rw [ur_ne _ _ h1, ur_ne _ _ h2]
theorem sw_of {n i j : Nat} (hi : i < n) (hj : j < n) (hij : i ≠ j) {A : Nat → Nat → Int} (h : ∀ x, dT n (ur i x (ur j x A)) = 0) : dT n (sw i j A) = -dT n A := by
  have e0 := h (fun k => 1 * A i k + 1 * A j k)
  rw [dT_lin n i 1 1 (A i) (A j) _ hi, ur_cm hij (A i), ur_cm hij (A j), dT_lin n j 1 1 (A i) (A j) _ hj, dT_lin n j 1 1 (A i) (A j) _ hj, ← ur_cm hij, ← ur_cm hij, ← ur_cm hij, ← ur_cm hij, h (A i), h (A j), ur_cm hij (A i) (A j), ur_id i, ur_id j] at e0
  unfold sw
  omega
theorem dT_eqr (n : Nat) : ∀ (d i : Nat) (A : Nat → Nat → Int), i + 1 + d < n → (∀ k, A i k = A (i + 1 + d) k) → dT n A = 0
  | 0, i, A, h, he => by rw [dT_dC]; exact dC_adj n i A h he
  | d + 1, i, A, h, he => by
    have e1 : dT n (sw (i + 1 + d) (i + 1 + d + 1) A) = -dT n A := by
      refine sw_of (by omega) h (by omega) (fun x => ?_)
      rw [dT_dC]
      refine dC_adj n (i + 1 + d) _ h (fun k => ?_)
      rw [ur_at, ur_ne _ _ (by omega)]
      exact (congrFun (ur_at (i + 1 + d + 1) x A) k).symm
    have e2 : dT n (sw (i + 1 + d) (i + 1 + d + 1) A) = 0 := by
      refine dT_eqr n d i _ (by omega) (fun k => ?_)
      rw [sw_o (by omega) (by omega), sw_i]
      exact he k
    omega
theorem dT_eq {n i j : Nat} (hi : i < n) (hj : j < n) (hij : i ≠ j) {A : Nat → Nat → Int} (h : ∀ k, A i k = A j k) : dT n A = 0 := by
  rcases Nat.lt_or_ge i j with q | q
  · exact dT_eqr n (j - i - 1) i A (by omega) (fun k => by rw [h k, show i + 1 + (j - i - 1) = j by omega])
  · exact dT_eqr n (i - j - 1) j A (by omega) (fun k => by rw [← h k, show j + 1 + (i - j - 1) = i by omega])
theorem dT_sw {n i j : Nat} (hi : i < n) (hj : j < n) (hij : i ≠ j) (A : Nat → Nat → Int) : dT n (sw i j A) = -dT n A :=
  sw_of hi hj hij (fun x => dT_eq hi hj hij (fun k => by rw [ur_at, ur_ne _ _ (Ne.symm hij), ur_at]))
/-- column k told anew -/
def uc (k : Nat) (v : Nat → Int) (A : Nat → Nat → Int) : Nat → Nat → Int := fun i j => if j = k then v i else A i j
theorem uc_at (k : Nat) (v : Nat → Int) (A : Nat → Nat → Int) (i : Nat) : uc k v A i k = v i := if_pos rfl
theorem uc_ne {k j : Nat} (v : Nat → Int) (A : Nat → Nat → Int) (i : Nat) (h : j ≠ k) : uc k v A i j = A i j := if_neg h
theorem dT_uc (n k : Nat) (v : Nat → Int) (A : Nat → Nat → Int) : dT n (uc k v A) = dT n (ur k v (fun i j => A j i)) := by
  rw [← dT_tr]
  congr 1
  funext a b
  unfold uc ur
  by_cases q : a = k
  · rw [if_pos q, if_pos q]
  · rw [if_neg q, if_neg q]
/-- the adjugate -/
def aj (n : Nat) (A : Nat → Nat → Int) (k a : Nat) : Int := dT n (uc k (fun i => if i = a then 1 else 0) A)
theorem cramer {n k : Nat} (hk : k < n) (v : Nat → Int) (A : Nat → Nat → Int) : dT n (uc k v A) = sI n (fun a => v a * aj n A k a) := by
  have e : dT n (uc k v A) = dT n (uc k (fun i => sI n (fun a => v a * (if i = a then 1 else 0))) A) := by
    refine dT_congr n fun i j hi _ => ?_
    unfold uc
    split
    · exact (sI_delta hi v).symm
    · rfl
  rw [e, dT_uc, dT_rsum n k n v (fun b k => if k = b then 1 else 0) _ hk]
  refine sI_congr fun a _ => ?_
  unfold aj
  rw [dT_uc]
theorem dT_eqc {n i j : Nat} (hi : i < n) (hj : j < n) (hij : i ≠ j) {A : Nat → Nat → Int} (h : ∀ k, A k i = A k j) : dT n A = 0 := by
  rw [← dT_tr]
  exact dT_eq hi hj hij h
theorem aj_mul {n k j : Nat} (hk : k < n) (hj : j < n) (A : Nat → Nat → Int) : sI n (fun a => A a j * aj n A k a) = if j = k then dT n A else 0 := by
  rw [← cramer hk (fun a => A a j) A]
  by_cases q : j = k
  · subst q
    rw [if_pos rfl]
    refine dT_congr n fun a b _ _ => ?_
    unfold uc
    split
    · rename_i e; rw [e]
    · rfl
  · rw [if_neg q]
    exact dT_eqc hk hj (Ne.symm q) (fun a => by rw [uc_at, uc_ne _ _ _ q])
/-- the adjugate from the right -/
theorem aq_mul {n i b : Nat} (hi : i < n) (hb : b < n) (A : Nat → Nat → Int) : sI n (fun j => A i j * aj n (fun i j => A j i) b j) = if i = b then dT n A else 0 := by
  have := aj_mul hb hi (fun i j => A j i)
  rw [dT_tr] at this
  exact this
theorem rid {n k : Nat} (hk : k < n) (K : Nat → Nat → Int) (x : Nat → Int) : dT n K * x k = sI n (fun a => aj n K k a * sI n (fun j => K a j * x j)) := by
  have e1 : sI n (fun j => x j * (if k = j then 1 else 0) * dT n K) = x k * dT n K := by rw [sI_mulr, sI_delta hk]
  rw [Int.mul_comm, ← e1]
  have e2 : sI n (fun j => x j * (if k = j then 1 else 0) * dT n K) = sI n (fun j => sI n (fun a => aj n K k a * (K a j * x j))) := by
    refine sI_congr fun j hj => ?_
    have e3 := aj_mul hk hj K
    have e4 : sI n (fun a => aj n K k a * (K a j * x j)) = sI n (fun a => K a j * aj n K k a) * x j := by
      rw [← sI_mulr]; exact sI_congr fun a _ => by grind
    rw [e4, e3]
    by_cases q : k = j
    · rw [if_pos q, if_pos q.symm]; grind
    · rw [if_neg q, if_neg (Ne.symm q)]; grind
  rw [e2, sI_comm]
  exact sI_congr fun a ha => sI_mul _ _ _
theorem rcancel {n : Nat} {K : Nat → Nat → Int} {x : Nat → Int} (h : ∀ i, i < n → sI n (fun j => K i j * x j) = 0) {k : Nat} (hk : k < n) : dT n K * x k = 0 := by
  rw [rid hk]
  exact sI_zero n fun a ha => by rw [h a ha, Int.mul_zero]
theorem lcancel {n : Nat} {K : Nat → Nat → Int} {y : Nat → Int} (h : ∀ j, j < n → sI n (fun a => y a * K a j) = 0) {k : Nat} (hk : k < n) : dT n K * y k = 0 := by
  rw [← dT_tr]
  refine rcancel (K := fun i j => K j i) (x := y) (fun i hi => ?_) hk
  rw [← h i hi]
  exact sI_congr fun j _ => Int.mul_comm _ _
/-- the unit -/
theorem dT_one : ∀ n, dT n (fun i j => if i = j then 1 else 0) = 1
  | 0 => rfl
  | n + 1 => by
    rw [dT_s, sI_hd, sI_zero n (fun k _ => by simp)]
    have : (fun i k => if i + 1 = skp 0 k then (1 : Int) else 0) = (fun i j => if i = j then 1 else 0) := by
      funext i k; rw [skp_0]; simp
    simp only [this, dT_one n]
    simp [sgn]
/-- the last row is 0 but for its last number -/
theorem dT_last : ∀ (k : Nat) (A : Nat → Nat → Int), (∀ j, j < k → A k j = 0) → dT (k + 1) A = A k k * dT k A
  | 0, A, _ => by rw [dT_s, sI_s]; simp [sI_0, dT, sgn]
  | k + 1, A, h => by
    rw [dT_s, sI_s]
    have e0 : dT (k + 1) (fun i c => A (i + 1) (skp (k + 1) c)) = 0 := by
      rw [dT_last k _ (fun j hj => by simp only [skp]; rw [if_pos (by omega)]; exact h j (by omega))]
      simp only [skp]
      rw [if_pos (by omega), h k (by omega), Int.zero_mul]
    rw [e0, Int.mul_zero, Int.add_zero, dT_s, ← sI_mul]
    refine sI_congr fun j hj => ?_
    rw [dT_last k _ (fun c hc => by
      simp only [skp]
      split
      · exact h c (by omega)
      · exact h (c + 1) (by omega))]
    have e1 : skp j k = k + 1 := by unfold skp; rw [if_neg (by omega)]
    rw [e1]
    grind

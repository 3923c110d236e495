/-! RANK by minors and by kernels, by a prime (0: over fractions). -/
def PR (p : Int) : Prop := (∀ a b : Int, p ∣ a * b → p ∣ a ∨ p ∣ b) ∧ ¬ p ∣ 1
theorem pr0 : PR 0 := ⟨fun a b h => by
  rw [Int.zero_dvd] at h
  rcases Int.mul_eq_zero.mp h with q | q
  · left; rw [q]; exact Int.dvd_refl 0
  · right; rw [q]; exact Int.dvd_refl 0, by decide⟩
theorem pr_of {p : Nat} (h1 : 2 ≤ p) (h : ∀ d, d ∣ p → d = 1 ∨ d = p) : PR (p : Int) := by
  refine ⟨fun a b hab => ?_, fun q => ?_⟩
  · rw [Int.ofNat_dvd_left] at hab ⊢
    rw [Int.ofNat_dvd_left]
    rw [Int.natAbs_mul] at hab
    rcases h _ (Nat.gcd_dvd_left p a.natAbs) with q | q
    · right
      exact Nat.Coprime.dvd_of_dvd_mul_left q hab
    · left
      have := Nat.gcd_dvd_right p a.natAbs
      rw [q] at this
      exact this
  · rw [Int.ofNat_dvd_left] at q
    have := Nat.le_of_dvd (by decide) q
    have e : (1 : Int).natAbs = 1 := rfl
    omega
theorem pr_small {p : Int} (hp : p = 0 ∨ p = 2 ∨ p = 3 ∨ p = 5 ∨ p = 7) : PR p := by
  rcases hp with rfl | rfl | rfl | rfl | rfl
  · exact pr0
  · exact pr_of (p := 2) (by decide) (fun d hd => (by decide : ∀ d : Fin 3, d.val ∣ 2 → d.val = 1 ∨ d.val = 2) ⟨d, by have := Nat.le_of_dvd (by decide) hd; omega⟩ hd)
  · exact pr_of (p := 3) (by decide) (fun d hd => (by decide : ∀ d : Fin 4, d.val ∣ 3 → d.val = 1 ∨ d.val = 3) ⟨d, by have := Nat.le_of_dvd (by decide) hd; omega⟩ hd)
  · exact pr_of (p := 5) (by decide) (fun d hd => (by decide : ∀ d : Fin 6, d.val ∣ 5 → d.val = 1 ∨ d.val = 5) ⟨d, by have := Nat.le_of_dvd (by decide) hd; omega⟩ hd)
  · exact pr_of (p := 7) (by decide) (fun d hd => (by decide : ∀ d : Fin 8, d.val ∣ 7 → d.val = 1 ∨ d.val = 7) ⟨d, by have := Nat.le_of_dvd (by decide) hd; omega⟩ hd)
theorem pd_sum {p : Int} {n : Nat} {f : Nat → Int} (h : ∀ k, k < n → p ∣ f k) : p ∣ sI n f := by
  induction n with
  | zero => exact Int.dvd_zero p
  | succ n ih => rw [sI_s]; exact Int.dvd_add (ih fun k hk => h k (by omega)) (h n (by omega))
theorem pd_mulr {p a : Int} (b : Int) (h : p ∣ a) : p ∣ b * a := Int.dvd_mul_of_dvd_right h
theorem pd_mull {p a : Int} (b : Int) (h : p ∣ a) : p ∣ a * b := Int.dvd_mul_of_dvd_left h
theorem nzp_dvd {p v : Int} : nzp p v ↔ ¬ p ∣ v := by
  unfold nzp
  refine not_congr ?_
  by_cases q : p = 0
  · subst q; rw [if_pos rfl, Int.zero_dvd]
  · rw [if_neg q, Int.dvd_iff_tmod_eq_zero]
theorem pd_rid {p : Int} {n : Nat} {K : Nat → Nat → Int} {x : Nat → Int} (h : ∀ i, i < n → p ∣ sI n (fun j => K i j * x j)) {k : Nat} (hk : k < n) : p ∣ dT n K * x k := by
  rw [rid hk]
  exact pd_sum fun a ha => pd_mulr _ (h a ha)
theorem dT_rot (n : Nat) (A : Nat → Nat → Int) : ∀ t, t < n → dT n (fun a => A (if a < t then a + 1 else if a = t then 0 else a)) = sgn t * dT n A
  | 0, _ => by
    rw [show sgn 0 = 1 from rfl, Int.one_mul]
    congr 1
    funext a
    rw [if_neg (by omega)]
    by_cases q : a = 0
    · rw [if_pos q, q]
    · rw [if_neg q]
  | t + 1, h => by
    have e : (fun a => A (if a < t + 1 then a + 1 else if a = t + 1 then 0 else a)) = sw t (t + 1) (fun a => A (if a < t then a + 1 else if a = t then 0 else a)) := by
      funext a
      by_cases q1 : a = t
      · subst q1; rw [sw_i, if_pos (by omega), if_neg (by omega), if_neg (by omega)]
      · by_cases q2 : a = t + 1
        · subst q2; rw [sw_j (by omega), if_neg (by omega), if_pos rfl, if_neg (by omega), if_pos rfl]
        · rw [sw_o q1 q2]
          by_cases q3 : a < t
          · rw [if_pos q3, if_pos (by omega)]
          · rw [if_neg q3, if_neg (by omega), if_neg q1, if_neg q2]
    rw [e, dT_sw (by omega) h (by omega), dT_rot n A t (by omega), sgn_s]
    grind
theorem ins_0 : ∀ r : Fin 64, ∀ i : Fin 6, ¬ mbit r.val i.val → r.val + 2 ^ i.val < 64 ∧ pc6 (r.val + 2 ^ i.val) = pc6 r.val + 1 ∧ pc6 (r.val % 2 ^ i.val) ≤ pc6 r.val := by decide +kernel
theorem ins_1 : ∀ r : Fin 64, ∀ i : Fin 6, ¬ mbit r.val i.val → ∀ a : Fin 6, a.val < pc6 r.val + 1 → nt (r.val + 2 ^ i.val) a.val = if a.val < pc6 (r.val % 2 ^ i.val) then nt r.val a.val else if a.val = pc6 (r.val % 2 ^ i.val) then i.val else nt r.val (a.val - 1) := by decide +kernel
theorem ins_2 : ∀ R : Fin 7, ∀ r : Fin 64, ∀ i : Fin 6, r.val < 2 ^ R.val → i.val < R.val → ¬ mbit r.val i.val → r.val + 2 ^ i.val < 2 ^ R.val := by decide +kernel
theorem sg_nd {p : Int} {t : Nat} {v : Int} (h : p ∣ sgn t * v) : p ∣ v := by
  have e : v = sgn t * (sgn t * v) := by rw [← Int.mul_assoc, sgn_2, Int.one_mul]
  rw [e]; exact pd_mulr _ h
/-- where all minors of so many rows are 0, the columns are dependent -/
theorem kr2 {p : Int} (hp : PR p) {R : Nat} (hR : R ≤ 6) (A : Nat → Nat → Int) : ∀ n : Nat, (∀ r, r < 2 ^ R → pc6 r = n → p ∣ dT n (fun i j => A (nt r i) j)) → ∃ x : Nat → Int, (∃ t, t < n ∧ ¬ p ∣ x t) ∧ ∀ i, i < R → p ∣ sI n (fun t => A i t * x t)
  | 0, h => absurd (h 0 (b_pos R) rfl) hp.2
  | n + 1, h => by
    by_cases h' : ∀ r, r < 2 ^ R → pc6 r = n → p ∣ dT n (fun i j => A (nt r i) j)
    · obtain ⟨x, ⟨t, t1, t2⟩, hx⟩ := kr2 hp hR A n h'
      refine ⟨fun k => if k < n then x k else 0, ⟨t, by omega, by simp only; rw [if_pos t1]; exact t2⟩, fun i hi => ?_⟩
      have e0 : sI (n + 1) (fun t => A i t * (if t < n then x t else 0)) = sI n (fun t => A i t * x t) := by
        rw [sI_s, if_neg (by omega), Int.mul_zero, Int.add_zero]
        exact sI_congr fun k hk => by rw [if_pos hk]
      show p ∣ sI (n + 1) (fun t => A i t * (if t < n then x t else 0))
      rw [e0]
      exact hx i hi
    · obtain ⟨r, hr⟩ := Classical.not_forall.mp h'
      have r1 : r < 2 ^ R := Classical.byContradiction fun q => hr fun a => absurd a q
      have r2 : pc6 r = n := Classical.byContradiction fun q => hr fun _ b => absurd b q
      have r3 : ¬ p ∣ dT n (fun i j => A (nt r i) j) := fun q => hr fun _ _ => q
      have b := b_shl hR
      refine ⟨fun t => sgn t * dT n (fun i k => A (nt r i) (skp t k)), ⟨n, by omega, fun q => r3 ?_⟩, fun i hi => ?_⟩
      · have := sg_nd q
        rw [dT_congr n (B := fun i j => A (nt r i) j) (fun i j _ hj => by rw [show skp n j = j from if_pos hj])] at this
        exact this
      · obtain ⟨B, hB⟩ : ∃ B : Nat → Nat → Int, B = fun a k => A (if a = 0 then i else nt r (a - 1)) k := ⟨_, rfl⟩
        have e1 : sI (n + 1) (fun t => A i t * (sgn t * dT n (fun i k => A (nt r i) (skp t k)))) = dT (n + 1) B := by
          rw [dT_s, hB]
          refine sI_congr fun t _ => ?_
          simp only [Nat.add_sub_cancel, if_pos, Nat.succ_ne_zero, if_false]
          grind
        rw [e1]
        by_cases q : mbit r i
        · obtain ⟨m1, m2⟩ := nt_0 (c := r) (m := i) (by omega) (by omega) q
          rw [dT_eq (n := n + 1) (i := 0) (j := pc6 (r % 2 ^ i) + 1) (by omega) (by omega) (by omega) (fun k => by rw [hB]; simp [m1])]
          exact Int.dvd_zero p
        · obtain ⟨i1, i2, i3⟩ := ins_0 ⟨r, by omega⟩ ⟨i, by omega⟩ q
          have e2 := dT_rot (n + 1) B (pc6 (r % 2 ^ i)) (by have : pc6 (r % 2 ^ i) ≤ pc6 r := i3; omega)
          have e3 : dT (n + 1) (fun a => B (if a < pc6 (r % 2 ^ i) then a + 1 else if a = pc6 (r % 2 ^ i) then 0 else a)) = dT (n + 1) (fun a j => A (nt (r + 2 ^ i) a) j) := by
            refine dT_congr (n + 1) fun a j ha _ => ?_
            have i4 : nt (r + 2 ^ i) a = if a < pc6 (r % 2 ^ i) then nt r a else if a = pc6 (r % 2 ^ i) then i else nt r (a - 1) := ins_1 ⟨r, by omega⟩ ⟨i, by omega⟩ q ⟨a, by have := (pc6_r (c := r + 2 ^ i) i1).1; have i2 : pc6 (r + 2 ^ i) = pc6 r + 1 := i2; show a < 6; omega⟩ (by show a < pc6 r + 1; omega)
            rw [i4, hB]
            simp only
            by_cases q1 : a < pc6 (r % 2 ^ i)
            · rw [if_pos q1, if_pos q1, if_neg (by omega), Nat.add_sub_cancel]
            · rw [if_neg q1, if_neg q1]
              by_cases q2 : a = pc6 (r % 2 ^ i)
              · rw [if_pos q2, if_pos q2, if_pos rfl]
              · rw [if_neg q2, if_neg q2, if_neg (by omega)]
          rw [e3] at e2
          have e4 := h (r + 2 ^ i) (ins_2 ⟨R, by omega⟩ ⟨r, by omega⟩ ⟨i, by omega⟩ r1 hi q) (by have i2 : pc6 (r + 2 ^ i) = pc6 r + 1 := i2; omega)
          rw [e2] at e4
          exact sg_nd e4
/-- sums over the bits of a mask -/
theorem sum_bits {c : Nat} (hc : c < 64) (f : Nat → Int) : ∀ m, m ≤ 6 → sI m (fun j => if mbit c j then f j else 0) = sI (pc6 (c % 2 ^ m)) (fun t => f (nt c t))
  | 0, _ => by rw [show pc6 (c % 2 ^ 0) = 0 from by rw [show c % 2 ^ 0 = 0 from Nat.mod_one c]; rfl]; rfl
  | m + 1, h => by
    rw [sI_s, sum_bits hc f m (by omega), p6_s hc (by omega)]
    by_cases q : mbit c m
    · rw [if_pos q, if_pos q, sI_s, (nt_0 hc (by omega) q).1]
    · rw [if_neg q, if_neg q]; rw [Nat.add_zero]; omega
theorem sum_bitsC {C c : Nat} (hC : C ≤ 6) (hc : c < 2 ^ C) (f : Nat → Int) : sI C (fun j => if mbit c j then f j else 0) = sI (pc6 c) (fun t => f (nt c t)) := by
  have b := b_shl hC
  rw [sum_bits (by omega) f C hC, Nat.mod_eq_of_lt hc]
theorem low_nt0 : ∀ r : Fin 64, ∀ i : Fin 6, i.val + 1 < pc6 r.val + 1 → 0 < pc6 r.val → nt r.val 0 = lb r.val ∧ (i.val + 1 < pc6 r.val → nt (r.val - 2 ^ lb r.val) i.val = nt r.val (i.val + 1)) := by decide +kernel
theorem skp_nt0 : ∀ c : Fin 64, ∀ t : Fin 6, t.val < pc6 c.val → sg6 c.val (nt c.val t.val) = (if t.val % 2 = 0 then 1 else -1) ∧ ∀ k : Fin 6, k.val + 1 < pc6 c.val → nt (c.val - 2 ^ nt c.val t.val) k.val = nt c.val (if k.val < t.val then k.val else k.val + 1) := by decide +kernel
/-- minors by masks are determinants -/
theorem mnr_dT (A : Nat → Nat → Int) : ∀ (k r c : Nat), r < 64 → c < 64 → pc6 r = k → pc6 c = k → mnr A k r c = dT k (fun i j => A (nt r i) (nt c j))
  | 0, _, _, _, _, _, _ => rfl
  | k + 1, r, c, hr, hc, hpr, hpc => by
    have r0 : 0 < r := by
      rcases Nat.eq_zero_or_pos r with q | q
      · subst q; have e0 : pc6 0 = 0 := rfl; omega
      · exact q
    obtain ⟨l1, l2, l3, l4, l5⟩ := b_low hr r0
    have p6 := (pc6_r hc).1
    have l0 : nt r 0 = lb r := (low_nt0 ⟨r, hr⟩ ⟨0, by decide⟩ (by show 0 + 1 < pc6 r + 1; omega) (by show 0 < pc6 r; omega)).1
    rw [mn_s]
    have e1 : sI 6 (mnT A k r c) = sI 6 (fun j => if mbit c j then (fun j => sg6 c j * A (lb r) j * mnr A k (r - 2 ^ lb r) (c - 2 ^ j)) j else 0) := rfl
    rw [e1, sum_bits hc _ 6 (by decide), show c % 2 ^ 6 = c from Nat.mod_eq_of_lt hc, hpc, dT_s]
    refine sI_congr fun t ht => ?_
    obtain ⟨n1, n2, n3, n4⟩ := nt_1 hc (t := t) (by omega)
    obtain ⟨s1, s2⟩ := skp_nt0 ⟨c, hc⟩ ⟨t, by omega⟩ (by show t < pc6 c; omega)
    have s1 : sg6 c (nt c t) = sgn t := s1
    have b2 := (b_and hc n1).2 n2
    have b3 := b_pos (lb r)
    have b4 := b_pos (nt c t)
    rw [s1, l0, mnr_dT A k (r - 2 ^ lb r) (c - 2 ^ nt c t) (by omega) (by omega) (by omega) (by omega)]
    congr 1
    refine dT_congr k fun i j hi hj => ?_
    have e2 : nt (r - 2 ^ lb r) i = nt r (i + 1) := (low_nt0 ⟨r, hr⟩ ⟨i, by omega⟩ (by show i + 1 < pc6 r + 1; omega) (by show 0 < pc6 r; omega)).2 (by show i + 1 < pc6 r; omega)
    have e3 : nt (c - 2 ^ nt c t) j = nt c (skp t j) := s2 ⟨j, by omega⟩ (by show j + 1 < pc6 c; omega)
    rw [e2, e3]
theorem mnr_tr (A : Nat → Nat → Int) {k r c : Nat} (hr : r < 64) (hc : c < 64) (hpr : pc6 r = k) (hpc : pc6 c = k) : mnr (fun i j => A j i) k c r = mnr A k r c := by
  rw [mnr_dT _ k c r hc hr hpc hpr, mnr_dT A k r c hr hc hpr hpc, ← dT_tr]
theorem and_sub0 : ∀ c : Fin 64, ∀ a : Fin 64, ∀ j : Fin 6, c.val &&& a.val = c.val → mbit c.val j.val → (c.val - 2 ^ j.val) &&& a.val = c.val - 2 ^ j.val := by decide +kernel
/-- greater minors are sums of lesser ones -/
theorem mnr_up {p : Int} {A : Nat → Nat → Int} {R a k : Nat} (hR : R ≤ 6) (ha : a < 64) (h : ∀ r c, r < 2 ^ R → c &&& a = c → pc6 r = k → pc6 c = k → p ∣ mnr A k r c) : ∀ r c, r < 2 ^ R → c &&& a = c → pc6 r = k + 1 → pc6 c = k + 1 → p ∣ mnr A (k + 1) r c := by
  intro r c hr hc hpr hpc
  have b := b_shl hR
  have c64 : c < 64 := Nat.lt_of_le_of_lt (and_le hc) ha
  have r0 : 0 < r := by
    rcases Nat.eq_zero_or_pos r with q | q
    · subst q; have e0 : pc6 0 = 0 := rfl; omega
    · exact q
  obtain ⟨l1, l2, l3, l4, l5⟩ := b_low (r := r) (by omega) r0
  rw [mn_s]
  refine pd_sum fun j hj => ?_
  unfold mnT
  split
  · rename_i q
    have b2 := (b_and c64 hj).2 q
    have b3 := b_pos (lb r)
    have b4 := b_pos j
    exact pd_mulr _ (h _ _ (by omega) (and_sub0 ⟨c, c64⟩ ⟨a, ha⟩ ⟨j, hj⟩ hc q) (by omega) (by omega))
  · exact Int.dvd_zero p
theorem mnr_upn {p : Int} {A : Nat → Nat → Int} {R a k : Nat} (hR : R ≤ 6) (ha : a < 64) (h : ∀ r c, r < 2 ^ R → c &&& a = c → pc6 r = k → pc6 c = k → p ∣ mnr A k r c) : ∀ d r c, r < 2 ^ R → c &&& a = c → pc6 r = k + d → pc6 c = k + d → p ∣ mnr A (k + d) r c
  | 0 => h
  | d + 1 => mnr_up hR ha (mnr_upn hR ha h d)
theorem rk_uniq {A : Nat → Nat → Int} {R a : Nat} {p : Int} {y z : Nat} (h1 : Rk A R a p y) (h2 : Rk A R a p z) : y = z := by
  have le : ∀ {y z : Nat}, Rk A R a p y → Rk A R a p z → y ≤ z := by
    intro y z k1 k2
    rcases k1.2 with q | ⟨r, c, a1, a2, a3, a4, a5⟩
    · omega
    · have := k2.1 r c a1 a2 a3 a5; omega
  exact Nat.le_antisymm (le h1 h2) (le h2 h1)
theorem dv_uniq {A : Nat → Nat → Int} {R a k d e : Nat} (h1 : Dv A R a k d) (h2 : Dv A R a k e) : d = e :=
  Nat.dvd_antisymm (h2.2 d h1.1) (h1.2 e h2.1)
/-- no columns but 0 together give 0 -/
def indc (p : Int) (A : Nat → Nat → Int) (R n : Nat) (q : Nat → Nat) : Prop := ∀ x : Nat → Int, (∀ i, i < R → p ∣ sI n (fun t => A i (q t) * x t)) → ∀ t, t < n → p ∣ x t
theorem kr1 {p : Int} (hp : PR p) {A : Nat → Nat → Int} {R r c k : Nat} (hR : R ≤ 6) (hr : r < 2 ^ R) (hc : c < 64) (hpr : pc6 r = k) (hpc : pc6 c = k) (h : ¬ p ∣ mnr A k r c) : indc p A R k (nt c) := by
  intro x hx t ht
  have b := b_shl hR
  rw [mnr_dT A k r c (by omega) hc hpr hpc] at h
  have := pd_rid (p := p) (n := k) (K := fun i j => A (nt r i) (nt c j)) (x := x) (fun i hi => hx (nt r i) (nt_C hR hr (by omega))) ht
  rcases hp.1 _ _ this with q | q
  · exact absurd q h
  · exact q
theorem kr2i {p : Int} (hp : PR p) {A : Nat → Nat → Int} {R n : Nat} (hR : R ≤ 6) {q : Nat → Nat} (h : indc p A R n q) : ∃ r, r < 2 ^ R ∧ pc6 r = n ∧ ¬ p ∣ dT n (fun i j => A (nt r i) (q j)) := by
  refine Classical.byContradiction fun hn => ?_
  obtain ⟨x, ⟨t, t1, t2⟩, hx⟩ := kr2 hp hR (fun i j => A i (q j)) n (fun r h1 h2 => Classical.byContradiction fun h3 => hn ⟨r, h1, h2, h3⟩)
  exact t2 (h x hx t t1)
theorem kr2m {p : Int} (hp : PR p) {A : Nat → Nat → Int} {R c : Nat} (hR : R ≤ 6) (hc : c < 64) (h : indc p A R (pc6 c) (nt c)) : ∃ r, r < 2 ^ R ∧ pc6 r = pc6 c ∧ ¬ p ∣ mnr A (pc6 c) r c := by
  obtain ⟨r, h1, h2, h3⟩ := kr2i hp hR h
  have b := b_shl hR
  exact ⟨r, h1, h2, by rw [mnr_dT A _ r c (by omega) hc h2 rfl]; exact h3⟩
theorem rk_of {p : Int} (hp : PR p) {A : Nat → Nat → Int} {R a z : Nat} (hR : R ≤ 6) (ha : a < 64) (h1 : ∃ c, c &&& a = c ∧ pc6 c = z ∧ indc p A R z (nt c)) (h2 : ∀ c, c &&& a = c → z < pc6 c → ¬ indc p A R (pc6 c) (nt c)) : Rk A R a p z := by
  have b := b_shl hR
  refine ⟨fun r c r1 c1 e h => ?_, Or.inr ?_⟩
  · have c64 : c < 64 := Nat.lt_of_le_of_lt (and_le c1) ha
    refine Classical.byContradiction fun q => h2 c c1 (by omega) ?_
    rw [← e]
    exact kr1 hp hR r1 c64 rfl e.symm (nzp_dvd.mp h)
  · obtain ⟨c, c1, c2, c3⟩ := h1
    have c64 : c < 64 := Nat.lt_of_le_of_lt (and_le c1) ha
    rw [← c2] at c3
    obtain ⟨r, r1, r2, r3⟩ := kr2m hp hR c64 c3
    exact ⟨r, c, r1, c1, r2, by omega, by rw [r2]; exact nzp_dvd.mpr r3⟩

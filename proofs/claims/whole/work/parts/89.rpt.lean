/-! THE REFERENCE'S PARTS: products, independent rays. -/
/-- the rays' products as the reference lays them -/
def prd (σ : SG) (d a b : Nat) : Int := if d = 1 then near0 σ a b else ipw (sE σ) (msr σ) (ryF σ a) (ryF σ b)
def agn (σ : SG) (d c a : Nat) : Int := if d = 1 then ends σ c a else ipw (sE σ) (msr σ) (ryF σ a) (sch σ c)
def ryX (σ : SG) (d r e : Nat) : Int := if d = 1 then ryD σ r e else ryF σ r e
def nX (σ : SG) (d : Nat) : Nat := if d = 1 then sP σ else sF σ
def kap (d : Nat) : Int := if d = 1 then 6 else 1
theorem kap_0 (d : Nat) : kap d ≠ 0 := by unfold kap; split <;> decide
theorem prd_k {σ : SG} (W : WF σ) (d a b : Nat) : kap d * prd σ d a b = ipw (sE σ) (msr σ) (ryX σ d a) (ryX σ d b) := by
  by_cases q : d = 1
  · rw [show kap d = 6 from if_pos q, show prd σ d a b = near0 σ a b from if_pos q, show ryX σ d a = ryD σ a from funext fun e => if_pos q, show ryX σ d b = ryD σ b from funext fun e => if_pos q]
    unfold near0 ipw
    rw [← sI_mul]
    refine sI_congr fun e he => ?_
    have m := (msr_r W he).2.2
    unfold nr0 ryD
    rw [show ent1 σ a e * (sew σ e : Int) * (ent1 σ b e * (sew σ e : Int)) * msr σ e = ((sew σ e : Int) * msr σ e) * (ent1 σ a e * (sew σ e : Int) * ent1 σ b e) by grind, m]
  · rw [show kap d = 1 from if_neg q, show prd σ d a b = ipw (sE σ) (msr σ) (ryF σ a) (ryF σ b) from if_neg q, show ryX σ d a = ryF σ a from funext fun e => if_neg q, show ryX σ d b = ryF σ b from funext fun e => if_neg q, Int.one_mul]
theorem agn_k {σ : SG} (W : WF σ) (d c a : Nat) : kap d * agn σ d c a = ipw (sE σ) (msr σ) (ryX σ d a) (sch σ c) := by
  by_cases q : d = 1
  · rw [show kap d = 6 from if_pos q, show agn σ d c a = ends σ c a from if_pos q, show ryX σ d a = ryD σ a from funext fun e => if_pos q]
    unfold ends ipw
    rw [← sI_mul]
    refine sI_congr fun e he => ?_
    have m := (msr_r W he).2.2
    unfold bd ryD
    rw [show ent1 σ a e * (sew σ e : Int) * sch σ c e * msr σ e = ((sew σ e : Int) * msr σ e) * (sch σ c e * ent1 σ a e) by grind, m]
  · rw [show kap d = 1 from if_neg q, show agn σ d c a = ipw (sE σ) (msr σ) (ryF σ a) (sch σ c) from if_neg q, show ryX σ d a = ryF σ a from funext fun e => if_neg q, Int.one_mul]
/-- rays of the set I are independent, the others depend on them -/
def IND (E n : Nat) (v : Nat → Nat → Int) (k I : Nat) : Prop := I < 2 ^ k ∧ indc 0 (fun e j => v j e) E (pc6 I) (nt I) ∧ ∀ s, s < k → ¬ mbit I s → ∃ (a : Int) (z : Nat → Int), a ≠ 0 ∧ (∀ j, j < n → ¬ mbit I j → z j = 0) ∧ ∀ e, e < E → a * v s e = sI n (fun j => z j * v j e)
theorem mb_mod0 : ∀ c : Fin 64, ∀ k : Fin 6, c.val < 2 ^ k.val → ¬ mbit c.val k.val ∧ mbit (c.val + 2 ^ k.val) k.val ∧ ∀ j : Fin 6, (mbit (c.val + 2 ^ k.val) j.val ↔ mbit c.val j.val ∨ j.val = k.val) := by decide +kernel
/-- a vector at the places of a set, as one at all places -/
theorem lift_c {C c : Nat} (hC : C ≤ 6) (hc : c < 2 ^ C) (x : Nat → Int) (f : Nat → Int) : sI C (fun j => (if mbit c j then x (pc6 (c % 2 ^ j)) else 0) * f j) = sI (pc6 c) (fun t => x t * f (nt c t)) := by
  have b := b_shl hC
  rw [show sI C (fun j => (if mbit c j then x (pc6 (c % 2 ^ j)) else 0) * f j) = sI C (fun j => if mbit c j then (fun j => x (pc6 (c % 2 ^ j)) * f j) j else 0) from sI_congr fun j _ => by
    by_cases q : mbit c j
    · rw [if_pos q, if_pos q]
    · rw [if_neg q, if_neg q, Int.zero_mul]]
  rw [sum_bitsC hC hc]
  exact sI_congr fun t ht => by rw [(nt_1 (c := c) (by omega) ht).2.2.1]
theorem IND.zero (E n : Nat) (v : Nat → Nat → Int) : IND E n v 0 0 := ⟨by decide, fun x _ t ht => absurd ht (Nat.not_lt_zero _), fun s hs => absurd hs (Nat.not_lt_zero _)⟩
theorem IND.yes {E n k I : Nat} {v : Nat → Nat → Int} (hk : k < 6) (h : IND E n v k I) (hi : indc 0 (fun e j => v j e) E (pc6 (I + 2 ^ k)) (nt (I + 2 ^ k))) : IND E n v (k + 1) (I + 2 ^ k) := by
  obtain ⟨h1, h2, h3⟩ := h
  have b := b_shl (j := k) (by omega)
  obtain ⟨m1, m2, m3⟩ := mb_mod0 ⟨I, by omega⟩ ⟨k, hk⟩ h1
  refine ⟨by rw [Nat.pow_succ]; omega, hi, fun s hs hb => ?_⟩
  have sk : s ≠ k := fun q => hb (by rw [q]; exact m2)
  have sI' : ¬ mbit I s := fun q => hb ((m3 ⟨s, by omega⟩).mpr (Or.inl q))
  obtain ⟨a, z, a0, hz, he⟩ := h3 s (by omega) sI'
  refine ⟨a, z, a0, fun j hj hb' => ?_, he⟩
  by_cases j6 : j < 6
  · exact hz j hj fun q => hb' ((m3 ⟨j, j6⟩).mpr (Or.inl q))
  · refine hz j hj fun q => ?_
    have : I / 2 ^ j = 0 := Nat.div_eq_of_lt (Nat.lt_of_lt_of_le h1 (Nat.pow_le_pow_right (by decide) (by omega)))
    unfold mbit at q; omega
theorem IND.no {E n k I : Nat} {v : Nat → Nat → Int} (hE : E ≤ 6) (hk : k < 6) (hkn : k < n) (hn : n ≤ 6) (h : IND E n v k I) (hi : ¬ nzs (fun e j => v j e) E (I + 2 ^ k) (pc6 (I + 2 ^ k))) : IND E n v (k + 1) I := by
  obtain ⟨h1, h2, h3⟩ := h
  have b := b_shl (j := k) (by omega)
  have I64 : I < 64 := by omega
  obtain ⟨m1, m2, m3⟩ := mb_mod0 ⟨I, I64⟩ ⟨k, hk⟩ h1
  obtain ⟨t1, t2, t3, t4⟩ := top0 ⟨I, I64⟩ ⟨k, hk⟩ h1
  have t1 : pc6 (I + 2 ^ k) = pc6 I + 1 := t1
  have t2 : nt (I + 2 ^ k) (pc6 I) = k := t2
  have p6 := pc6_r I64
  have t4 : ∀ t, t < pc6 I → nt (I + 2 ^ k) t = nt I t := fun t ht => t4 ⟨t, by omega⟩ ht
  refine ⟨by rw [Nat.pow_succ]; omega, h2, fun s hs hb => ?_⟩
  rcases (show s < k ∨ s = k by omega) with q | q
  · exact h3 s q hb
  · subst q
    -- all minors with these columns are 0: they depend
    obtain ⟨x, ⟨t, ht1, ht2⟩, hx⟩ := kr2 pr0 hE (fun e j => v (nt (I + 2 ^ s) j) e) (pc6 I + 1) (fun r r1 r2 => by
      refine Classical.byContradiction fun hz => hi ?_
      have b' := b_shl hE
      have c64 : I + 2 ^ s < 64 := by
        have := b_shl (j := s + 1) (by omega)
        have t3 : I + 2 ^ s < 2 ^ (s + 1) := t3
        omega
      refine ⟨r, I + 2 ^ s, r1, by simp, by omega, rfl, fun q => hz ?_⟩
      rw [mnr_dT _ _ r (I + 2 ^ s) (by omega) c64 (by omega) rfl, t1] at q
      rw [q]; exact Int.dvd_refl 0)
    have hx' : ∀ e, e < E → sI (pc6 I) (fun t => v (nt I t) e * x t) + v s e * x (pc6 I) = 0 := by
      intro e he
      have := Int.zero_dvd.mp (hx e he)
      rw [sI_s, t2, sI_congr (g := fun t => v (nt I t) e * x t) (fun t ht => by rw [t4 t ht])] at this
      exact this
    have a0 : x (pc6 I) ≠ 0 := by
      intro q
      rcases (show t < pc6 I ∨ t = pc6 I by omega) with e | e
      · refine ht2 (h2 x (fun e he => ?_) t e)
        have := hx' e he
        rw [q, Int.mul_zero] at this
        rw [show sI (pc6 I) (fun t => v (nt I t) e * x t) = 0 by omega]
        exact Int.dvd_refl 0
      · exact ht2 (by rw [e, q]; exact Int.dvd_refl 0)
    refine ⟨x (pc6 I), fun j => if mbit I j then -x (pc6 (I % 2 ^ j)) else 0, a0, fun j _ hb' => if_neg hb', fun e he => ?_⟩
    have I2 : I < 2 ^ n := Nat.lt_of_lt_of_le h1 (Nat.pow_le_pow_right (by decide) (by omega))
    rw [lift_c hn I2 (fun t => -x t) (fun j => v j e)]
    have := hx' e he
    have e2 : sI (pc6 I) (fun t => -x t * v (nt I t) e) = (-1) * sI (pc6 I) (fun t => v (nt I t) e * x t) := by rw [← sI_mul]; exact sI_congr fun t _ => by grind
    rw [e2, Int.mul_comm]; omega
/-- Cramer's rule over independent rays tells the shadow -/
theorem cr_prj {E n I : Nat} {m c : Nat → Int} {v : Nat → Nat → Int} {κ : Int} {B : Nat → Nat → Int} {b : Nat → Int} (hm : ∀ e, e < E → 0 < m e) (hn : n ≤ 6) (h : IND E n v n I) (hκ : κ ≠ 0) (hB : ∀ i j, κ * B i j = ipw E m (v (nt I i)) (v (nt I j))) (hb : ∀ i, κ * b i = ipw E m (v (nt I i)) c) :
    Prj E m n v c (dT (pc6 I) B) (fun e => sI (pc6 I) (fun j => dT (pc6 I) (uc j b B) * v (nt I j) e)) := by
  obtain ⟨h1, h2, h3⟩ := h
  have bb := b_shl hn
  have I64 : I < 64 := by omega
  obtain ⟨N, hN⟩ : ∃ N, N = pc6 I := ⟨_, rfl⟩
  rw [← hN] at h2 ⊢
  have N6 : N ≤ 6 := by rw [hN]; exact (pc6_r I64).1
  have nI : ∀ t, t < N → nt I t < n := fun t ht => nt_C hn h1 (by omega)
  -- the determinant is not 0
  have d0 : dT N B ≠ 0 := by
    have ind : indc 0 B N N (fun t => t) := by
      intro x hx t ht
      have hx0 : ∀ i, i < N → sI N (fun t => B i t * x t) = 0 := fun i hi => Int.zero_dvd.mp (hx i hi)
      obtain ⟨w, hw⟩ : ∃ w : Nat → Int, w = fun e => sI N (fun t => x t * v (nt I t) e) := ⟨_, rfl⟩
      have w1 : ∀ i, i < N → ipw E m w (v (nt I i)) = 0 := by
        intro i hi
        rw [hw, ip_suml E N m x (v (nt I i)) (fun t => v (nt I t))]
        have : sI N (fun r => x r * ipw E m (v (nt I r)) (v (nt I i))) = κ * sI N (fun t => B i t * x t) := by
          rw [← sI_mul]
          exact sI_congr fun t _ => by rw [ip_comm, ← hB i t]; grind
        rw [this, hx0 i hi, Int.mul_zero]
      have w2 : ipw E m w w = 0 := by
        have := ip_suml E N m x w (fun t => v (nt I t))
        rw [show (fun e => sI N (fun r => x r * v (nt I r) e)) = w from hw.symm] at this
        rw [this]
        exact sI_zero N fun t ht => by rw [ip_comm, w1 t ht, Int.mul_zero]
      have w3 := ip_pos hm w2
      refine h2 x (fun e he => ?_) t ht
      have := w3 e he
      rw [hw] at this
      simp only at this
      rw [show sI N (fun t => v (nt I t) e * x t) = 0 by rw [← this]; exact sI_congr fun t _ => Int.mul_comm _ _]
      exact Int.dvd_refl 0
    obtain ⟨r, r1, r2, r3⟩ := kr2i pr0 N6 ind
    -- the only set of N rows is all
    intro q
    refine r3 ?_
    have full : ∀ N : Fin 7, ∀ r : Fin 64, r.val < 2 ^ N.val → pc6 r.val = N.val → ∀ i : Fin 6, i.val < N.val → nt r.val i.val = i.val := by decide +kernel
    have b2 := b_shl N6
    rw [dT_congr N (B := B) (fun i j hi _ => by rw [full ⟨N, by omega⟩ ⟨r, by omega⟩ r1 r2 ⟨i, by omega⟩ hi]), q]
    exact Int.dvd_refl 0
  obtain ⟨x, hx⟩ : ∃ x : Nat → Int, x = fun j => dT N (uc j b B) := ⟨_, rfl⟩
  have xv : ∀ j, j < N → x j = sI N (fun a => b a * aj N B j a) := fun j hj => by rw [hx]; exact cramer hj b B
  rw [show (fun e => sI N (fun j => dT N (uc j b B) * v (nt I j) e)) = fun e => sI N (fun j => x j * v (nt I j) e) by rw [hx]]
  have inI : ∀ i, i < N → ipw E m (fun e => sI N (fun j => x j * v (nt I j) e)) (v (nt I i)) = dT N B * ipw E m c (v (nt I i)) := by
    intro i hi
    rw [ip_suml E N m x (v (nt I i)) (fun t => v (nt I t))]
    have e1 : sI N (fun r => x r * ipw E m (v (nt I r)) (v (nt I i))) = κ * sI N (fun r => B i r * x r) := by
      rw [← sI_mul]
      exact sI_congr fun t _ => by rw [ip_comm, ← hB i t]; grind
    have e2 : sI N (fun r => B i r * x r) = sI N (fun a => b a * (if i = a then 1 else 0) * dT N B) := by
      rw [show sI N (fun r => B i r * x r) = sI N (fun r => sI N (fun a => b a * (B i r * aj N B r a))) from sI_congr fun r hr => by
        rw [xv r hr, ← sI_mul]; exact sI_congr fun a _ => by grind]
      rw [sI_comm]
      refine sI_congr fun a ha => ?_
      rw [sI_mul, aj_r d0 hi ha]
      by_cases q : i = a
      · rw [if_pos q, if_pos q]; grind
      · rw [if_neg q, if_neg q]; grind
    rw [e1, e2, sI_mulr, sI_delta hi, ip_comm E m c, ← hb i]; grind
  have Ilt : ∀ s, s < n → mbit I s → ∃ t, t < N ∧ nt I t = s := fun s hs hb => by
    have := nt_0 I64 (show s < 6 by omega) hb
    exact ⟨pc6 (I % 2 ^ s), by omega, this.1⟩
  refine ⟨d0, ⟨1, fun j => if mbit I j then x (pc6 (I % 2 ^ j)) else 0, by decide, fun e _ => ?_⟩, fun s hs => ?_⟩
  · rw [Int.one_mul, lift_c hn h1 x (fun j => v j e), hN]
  · by_cases q : mbit I s
    · obtain ⟨t, t1, t2⟩ := Ilt s hs q
      rw [← t2]; exact inI t t1
    · obtain ⟨a, z, a0, hz, he⟩ := h3 s hs q
      obtain ⟨y, hy⟩ : ∃ y : Nat → Int, y = fun e => sI N (fun j => x j * v (nt I j) e) := ⟨_, rfl⟩
      rw [← hy] at inI ⊢
      have e1 : ∀ w : Nat → Int, a * ipw E m w (v s) = sI n (fun j => z j * ipw E m w (v j)) := by
        intro w
        have e2 : a * ipw E m w (v s) = ipw E m (fun e => a * v s e) w := by
          unfold ipw
          rw [← sI_mul]
          exact sI_congr fun e _ => by grind
        rw [e2, ip_congr he (fun _ _ => rfl), ip_suml]
        exact sI_congr fun j _ => by rw [ip_comm]
      have e3 : a * ipw E m y (v s) = a * (dT N B * ipw E m c (v s)) := by
        rw [e1 y, show a * (dT N B * ipw E m c (v s)) = dT N B * (a * ipw E m c (v s)) by grind, e1 c, ← sI_mul]
        refine sI_congr fun j hj => ?_
        by_cases q2 : mbit I j
        · obtain ⟨t, t1, t2⟩ := Ilt j hj q2
          rw [← t2, inI t t1]; grind
        · rw [hz j hj q2]; grind
      exact Int.eq_of_mul_eq_mul_left a0 e3

/-! PARTS: what each is, that it is one alone, how long it is. -/
def PartV (σ : SG) (c part : Nat) (d : Int) (y : Nat → Int) : Prop :=
  if part = 0 then Prj (sE σ) (msr σ) (sF σ) (ryF σ) (sch σ c) d y
  else if part = 1 then Prj (sE σ) (msr σ) (sP σ) (ryD σ) (sch σ c) d y
  else if part = 2 then ∃ (d0 : Int) (y0 : Nat → Int) (d1 : Int) (y1 : Nat → Int), Prj (sE σ) (msr σ) (sF σ) (ryF σ) (sch σ c) d0 y0 ∧ Prj (sE σ) (msr σ) (sP σ) (ryD σ) (sch σ c) d1 y1 ∧ d = d0 * d1 ∧ ∀ e, e < sE σ → y e = (sch σ c e * d0 - y0 e) * d1 - y1 e * d0
  else d = 1 ∧ ∀ e, e < sE σ → y e = sch σ c e
theorem pv0 {σ : SG} {c : Nat} {d : Int} {y : Nat → Int} : PartV σ c 0 d y ↔ Prj (sE σ) (msr σ) (sF σ) (ryF σ) (sch σ c) d y := Iff.rfl
theorem pv1 {σ : SG} {c : Nat} {d : Int} {y : Nat → Int} : PartV σ c 1 d y ↔ Prj (sE σ) (msr σ) (sP σ) (ryD σ) (sch σ c) d y := Iff.rfl
theorem pv2 {σ : SG} {c : Nat} {d : Int} {y : Nat → Int} : PartV σ c 2 d y ↔ ∃ (d0 : Int) (y0 : Nat → Int) (d1 : Int) (y1 : Nat → Int), Prj (sE σ) (msr σ) (sF σ) (ryF σ) (sch σ c) d0 y0 ∧ Prj (sE σ) (msr σ) (sP σ) (ryD σ) (sch σ c) d1 y1 ∧ d = d0 * d1 ∧ ∀ e, e < sE σ → y e = (sch σ c e * d0 - y0 e) * d1 - y1 e * d0 := Iff.rfl
theorem pv3 {σ : SG} {c : Nat} {d : Int} {y : Nat → Int} : PartV σ c 3 d y ↔ d = 1 ∧ ∀ e, e < sE σ → y e = sch σ c e := Iff.rfl
theorem pv_cases {σ : SG} {c part : Nat} {d : Int} {y : Nat → Int} (hp : part ≤ 3) (h : PartV σ c part d y) : (part = 0 ∧ PartV σ c 0 d y) ∨ (part = 1 ∧ PartV σ c 1 d y) ∨ (part = 2 ∧ PartV σ c 2 d y) ∨ (part = 3 ∧ PartV σ c 3 d y) := by
  rcases (show part = 0 ∨ part = 1 ∨ part = 2 ∨ part = 3 by omega) with rfl | rfl | rfl | rfl
  · exact Or.inl ⟨rfl, h⟩
  · exact Or.inr (Or.inl ⟨rfl, h⟩)
  · exact Or.inr (Or.inr (Or.inl ⟨rfl, h⟩))
  · exact Or.inr (Or.inr (Or.inr ⟨rfl, h⟩))
theorem har_u (c d0 d1 e0 e1 a0 a1 b0 b1 : Int) (h0 : e0 * a0 = d0 * b0) (h1 : e1 * a1 = d1 * b1) : e0 * e1 * ((c * d0 - a0) * d1 - a1 * d0) = d0 * d1 * ((c * e0 - b0) * e1 - b1 * e0) := by
  have x0 : e0 * e1 * ((c * d0 - a0) * d1 - a1 * d0) = c * d0 * d1 * e0 * e1 - (e0 * a0) * e1 * d1 - (e1 * a1) * e0 * d0 := by grind
  rw [x0, h0, h1]; grind
theorem pv_uniq {σ : SG} (W : WF σ) {c part : Nat} (hp : part ≤ 3) {d d' : Int} {y y' : Nat → Int} (h : PartV σ c part d y) (h' : PartV σ c part d' y') : ∀ e, e < sE σ → d' * y e = d * y' e := by
  rcases pv_cases hp h with ⟨rfl, h⟩ | ⟨rfl, h⟩ | ⟨rfl, h⟩ | ⟨rfl, h⟩
  · exact prj_uniq (msr_p W) h h'
  · exact prj_uniq (msr_p W) h h'
  · obtain ⟨d0, y0, d1, y1, p0, p1, hd, hy⟩ := pv2.mp h
    obtain ⟨e0, z0, e1, z1, q0, q1, hd', hy'⟩ := pv2.mp h'
    intro e he
    rw [hd, hd', hy e he, hy' e he]
    exact har_u _ _ _ _ _ _ _ _ _ (prj_uniq (msr_p W) p0 q0 e he) (prj_uniq (msr_p W) p1 q1 e he)
  · obtain ⟨hd, hy⟩ := pv3.mp h
    obtain ⟨hd', hy'⟩ := pv3.mp h'
    intro e he
    rw [hd, hd', hy e he, hy' e he]
theorem prj_sq {E n : Nat} {m c y : Nat → Int} {v : Nat → Nat → Int} {d : Int} (h : Prj E m n v c d y) : ipw E m y y = d * ipw E m y c := by
  obtain ⟨h1, ⟨t, z, t0, hz⟩, h2⟩ := h
  have e1 : ∀ w : Nat → Int, t * ipw E m y w = sI n (fun r => z r * ipw E m (v r) w) := by
    intro w
    rw [← ip_suml, ← ip_congr hz (fun _ _ => rfl)]
    unfold ipw
    rw [← sI_mul]
    exact sI_congr fun e _ => by grind
  have e2 : t * ipw E m y y = t * (d * ipw E m y c) := by
    rw [e1 y, show t * (d * ipw E m y c) = d * (t * ipw E m y c) by grind, e1 c, ← sI_mul]
    exact sI_congr fun r hr => by rw [ip_comm E m (v r) y, h2 r hr, ip_comm E m c]; grind
  exact Int.eq_of_mul_eq_mul_left t0 e2
theorem prj_o {E n n' : Nat} {m c c' y y' : Nat → Int} {v v' : Nat → Nat → Int} {d d' : Int} (h : Prj E m n v c d y) (h' : Prj E m n' v' c' d' y') (ho : ∀ r s, r < n → s < n' → ipw E m (v r) (v' s) = 0) : ipw E m y y' = 0 := by
  obtain ⟨h1, ⟨t, z, t0, hz⟩, h2⟩ := h
  obtain ⟨h1', ⟨t', z', t0', hz'⟩, h2'⟩ := h'
  have sc : ∀ (t : Int) (y w : Nat → Int), t * ipw E m y w = ipw E m (fun e => t * y e) w := by
    intro t y w
    unfold ipw
    rw [← sI_mul]
    exact sI_congr fun e _ => by grind
  have e1 : t * ipw E m y y' = 0 := by
    rw [sc, ip_congr hz (fun _ _ => rfl), ip_suml]
    refine sI_zero n fun r hr => ?_
    have : t' * ipw E m (v r) y' = 0 := by
      rw [ip_comm, sc, ip_congr hz' (fun _ _ => rfl), ip_suml]
      exact sI_zero n' fun s hs => by rw [ip_comm, ho r s hr hs, Int.mul_zero]
    rcases Int.mul_eq_zero.mp this with q | q
    · exact absurd q t0'
    · rw [q, Int.mul_zero]
  rcases Int.mul_eq_zero.mp e1 with q | q
  · exact absurd q t0
  · exact q
theorem ip_lin2 (E : Nat) (m x y w : Nat → Int) (a b : Int) : ipw E m w (fun e => a * x e + b * y e) = a * ipw E m w x + b * ipw E m w y := by
  rw [ip_comm, ip_lin, ip_comm E m x, ip_comm E m y]
/-- its square is d times its product with the chain -/
theorem pv_sq {σ : SG} (W : WF σ) {c part : Nat} (hp : part ≤ 3) {d : Int} {y : Nat → Int} (h : PartV σ c part d y) : ipw (sE σ) (msr σ) y y = d * ipw (sE σ) (msr σ) y (sch σ c) := by
  rcases pv_cases hp h with ⟨rfl, h⟩ | ⟨rfl, h⟩ | ⟨rfl, h⟩ | ⟨rfl, h⟩
  · exact prj_sq h
  · exact prj_sq h
  · obtain ⟨d0, y0, d1, y1, p0, p1, hd, hy⟩ := pv2.mp h
    have s0 := prj_sq p0
    have s1 := prj_sq p1
    have o := prj_o p0 p1 (fun r s hr hs => perp W hr)
    have hy2 : ∀ e, e < sE σ → y e = d * sch σ c e + (-1) * (d1 * y0 e + d0 * y1 e) := fun e he => by rw [hy e he, hd]; grind
    rw [ip_congr hy2 hy2, ip_congr hy2 (fun _ _ => rfl)]
    simp only [ip_lin, ip_lin2]
    rw [ip_comm _ _ y1 y0, o, s0, s1, ip_comm _ _ (sch σ c) y0, ip_comm _ _ (sch σ c) y1, hd]
    grind
  · obtain ⟨hd, hy⟩ := pv3.mp h
    rw [ip_congr hy hy, ip_congr hy (fun _ _ => rfl), hd, Int.one_mul]
theorem cc_r {σ : SG} (W : WF σ) {c : Nat} (hc : c < 3) : 0 ≤ ipw (sE σ) (msr σ) (sch σ c) (sch σ c) ∧ ipw (sE σ) (msr σ) (sch σ c) (sch σ c) ≤ 2916 := by
  refine ⟨ip_nn (msr_p W), ?_⟩
  have w2 := W.2.1
  have := sI_mono (n := sE σ) (f := fun e => sch σ c e * sch σ c e * msr σ e) (g := fun _ => 486) (fun e he => by
    have a := W.2.2.2.2.2 c e hc he
    have m := msr_r W he
    have h1 : (sch σ c e * sch σ c e * msr σ e).natAbs ≤ 9 * 9 * 6 := by
      rw [Int.natAbs_mul, Int.natAbs_mul]
      exact Nat.mul_le_mul (Nat.mul_le_mul (by omega) (by omega)) (by omega)
    omega)
  rw [sI_const] at this
  unfold ipw
  omega
theorem pv_d {σ : SG} {c part : Nat} (hp : part ≤ 3) {d : Int} {y : Nat → Int} (h : PartV σ c part d y) : d ≠ 0 := by
  rcases pv_cases hp h with ⟨rfl, h⟩ | ⟨rfl, h⟩ | ⟨rfl, h⟩ | ⟨rfl, h⟩
  · exact h.1
  · exact h.1
  · obtain ⟨d0, y0, d1, y1, p0, p1, hd, hy⟩ := pv2.mp h
    rw [hd]; exact Int.mul_ne_zero p0.1 p1.1
  · rw [(pv3.mp h).1]; decide
theorem natAbs_sq {a b : Int} (h : a * a ≤ b * b) : a.natAbs ≤ b.natAbs := by
  have e1 : ∀ x : Int, x * x = ((x.natAbs * x.natAbs : Nat) : Int) := fun x => (Int.natAbs_mul_self).symm
  rw [e1 a, e1 b] at h
  exact Nat.mul_self_le_mul_self_iff.mp (by omega)
/-- bounds of a part -/
theorem pv_b {σ : SG} (W : WF σ) {c part : Nat} (hc : c < 3) (hp : part ≤ 3) {d : Int} {y : Nat → Int} (h : PartV σ c part d y) : (ipw (sE σ) (msr σ) y (sch σ c)).natAbs ≤ 2916 * d.natAbs ∧ (0 < d → 0 ≤ ipw (sE σ) (msr σ) y (sch σ c)) ∧ ∀ e, e < sE σ → (y e).natAbs ≤ 39 * d.natAbs := by
  have sq := pv_sq W hp h
  have d0 := pv_d hp h
  have cc := cc_r W hc
  obtain ⟨T, hT⟩ : ∃ T, T = ipw (sE σ) (msr σ) y (sch σ c) := ⟨_, rfl⟩
  obtain ⟨C, hC⟩ : ∃ C, C = ipw (sE σ) (msr σ) (sch σ c) (sch σ c) := ⟨_, rfl⟩
  rw [← hT] at sq ⊢
  rw [← hC] at cc
  have nn := ip_nn (E := sE σ) (m := msr σ) (x := y) (msr_p W)
  have rest := ip_nn (E := sE σ) (m := msr σ) (x := fun e => d * sch σ c e + (-1) * y e) (msr_p W)
  rw [ip_lin, ip_lin2, ip_lin2, ip_comm _ _ (sch σ c) y, ← hT, ← hC, sq] at rest
  rw [sq] at nn
  -- d T ≤ d d C
  have up : d * T ≤ d * (d * C) := by
    have : d * (d * C + -1 * T) + -1 * (d * T + -1 * (d * T)) = d * (d * C) - d * T := by grind
    omega
  have up2 : d * (d * C) ≤ 2916 * (d * d) := by
    have h1 : (d * d) * C ≤ (d * d) * 2916 := Int.mul_le_mul_of_nonneg_left cc.2 (sq_nn d)
    have h2 : d * (d * C) = (d * d) * C := by grind
    have h3 : 2916 * (d * d) = (d * d) * 2916 := by grind
    omega
  have absT : (d * T).natAbs ≤ 2916 * (d.natAbs * d.natAbs) := by
    have e1 : d * d = ((d.natAbs * d.natAbs : Nat) : Int) := (Int.natAbs_mul_self).symm
    rw [e1] at up2
    omega
  refine ⟨?_, fun hd => ?_, fun e he => ?_⟩
  · rw [Int.natAbs_mul] at absT
    have : d.natAbs * T.natAbs ≤ d.natAbs * (2916 * d.natAbs) := by
      rw [Nat.mul_left_comm]; exact absT
    exact Nat.le_of_mul_le_mul_left this (by omega)
  · rcases Int.lt_or_le T 0 with q | q
    · have := Int.mul_neg_of_pos_of_neg hd q; omega
    · exact q
  · have m := msr_r W he
    -- one square is no more than all
    have one : y e * y e * msr σ e ≤ ipw (sE σ) (msr σ) y y := by
      unfold ipw
      rw [← sI_delta he (fun e => y e * y e * msr σ e)]
      refine sI_mono fun k hk => ?_
      have nk := Int.mul_nonneg (sq_nn (y k)) (Int.le_of_lt (msr_p W k hk))
      split <;> omega
    have two : y e * y e * 2 ≤ y e * y e * msr σ e := Int.mul_le_mul_of_nonneg_left (by omega) (sq_nn (y e))
    have key : y e * y e ≤ (39 * d) * (39 * d) := by
      have h1 : (39 * d) * (39 * d) = 1521 * (d * d) := by grind
      have h2 := sq_nn d
      rw [h1, sq] at *
      omega
    have := natAbs_sq key
    rw [Int.natAbs_mul] at this
    exact this
theorem dvd_cop {q p x : Int} (h : q ∣ p * x) (g : Int.gcd q p = 1) : q ∣ x := by
  rw [← Int.natAbs_dvd_natAbs] at h ⊢
  rw [Int.natAbs_mul] at h
  exact Nat.Coprime.dvd_of_dvd_mul_left g h
/-- p by q is a by b, in lowest terms -/
def LW (a b p q : Int) : Prop := 0 < q ∧ Int.gcd p q = 1 ∧ p * b = a * q
theorem LW.uniq {a b p q p' q' : Int} (hb : b ≠ 0) (h : LW a b p q) (h' : LW a b p' q') : p = p' ∧ q = q' := by
  obtain ⟨h1, h2, h3⟩ := h
  obtain ⟨k1, k2, k3⟩ := h'
  have e : p * q' = p' * q := by
    have : b * (p * q') = b * (p' * q) := by
      rw [show b * (p * q') = p * b * q' by grind, show b * (p' * q) = p' * b * q by grind, h3, k3]; grind
    exact Int.eq_of_mul_eq_mul_left hb this
  have d1 : q ∣ q' := by
    have : q ∣ p * q' := ⟨p', by rw [e]; exact Int.mul_comm _ _⟩
    have g : Int.gcd q p = 1 := by rw [Int.gcd_comm]; exact h2
    exact dvd_cop this g
  have d2 : q' ∣ q := by
    have : q' ∣ p' * q := ⟨p, by rw [← e]; exact Int.mul_comm _ _⟩
    have g : Int.gcd q' p' = 1 := by rw [Int.gcd_comm]; exact k2
    exact dvd_cop this g
  have eq : q = q' := Int.dvd_antisymm (by omega) (by omega) d1 d2
  refine ⟨?_, eq⟩
  rw [← eq] at e
  exact Int.eq_of_mul_eq_mul_right (by omega) e
theorem LW.eq {a b a' b' p q : Int} (hb : b ≠ 0) (h : LW a b p q) (he : a * b' = a' * b) : LW a' b' p q := by
  obtain ⟨h1, h2, h3⟩ := h
  refine ⟨h1, h2, ?_⟩
  have : b * (p * b') = b * (a' * q) := by
    rw [show b * (p * b') = p * b * b' by grind, h3, show a * q * b' = a * b' * q by grind, he]; grind
  exact Int.eq_of_mul_eq_mul_left hb this
theorem LW.of {a b : Int} (hb : 0 < b) : LW a b (a.tdiv (Int.gcd a b)) (b.tdiv (Int.gcd a b)) := by
  have g0 : 0 < Int.gcd a b := (gcd_b (a := a) (show b ≠ 0 by omega)).1
  have ga : ((Int.gcd a b : Nat) : Int) ∣ a := Int.gcd_dvd_left ..
  have gb : ((Int.gcd a b : Nat) : Int) ∣ b := Int.gcd_dvd_right ..
  have e1 := tdv (show ((Int.gcd a b : Nat) : Int) ≠ 0 by omega) ga
  have e2 := tdv (show ((Int.gcd a b : Nat) : Int) ≠ 0 by omega) gb
  obtain ⟨p, hp⟩ : ∃ p, p = a.tdiv (Int.gcd a b) := ⟨_, rfl⟩
  obtain ⟨q, hq⟩ : ∃ q, q = b.tdiv (Int.gcd a b) := ⟨_, rfl⟩
  obtain ⟨G, hG⟩ : ∃ G : Nat, G = Int.gcd a b := ⟨_, rfl⟩
  rw [← hp, ← hG] at e1
  rw [← hq, ← hG] at e2
  rw [← hp, ← hq]
  rw [← hG] at g0
  refine ⟨?_, ?_, ?_⟩
  · rcases Int.lt_or_le 0 q with z | z
    · exact z
    · have := Int.mul_le_mul_of_nonneg_left z (show (0 : Int) ≤ (G : Int) by omega)
      rw [Int.mul_zero] at this; omega
  · have : Int.gcd ((G : Int) * p) ((G : Int) * q) = G * Int.gcd p q := by rw [Int.gcd_mul_left]; rfl
    rw [← e1, ← e2, ← hG] at this
    have h2 : G * 1 = G * Int.gcd p q := by rw [Nat.mul_one]; exact this
    exact (Nat.eq_of_mul_eq_mul_left g0 h2).symm
  · rw [e1, e2]; grind
theorem LW.bd {a b p q : Int} (hb : b ≠ 0) (h : LW a b p q) : q.natAbs ≤ b.natAbs ∧ p.natAbs ≤ a.natAbs ∧ q ∣ b := by
  obtain ⟨h1, h2, h3⟩ := h
  have d1 : q ∣ b := by
    have : q ∣ p * b := ⟨a, by rw [h3]; exact Int.mul_comm _ _⟩
    exact dvd_cop this (by rw [Int.gcd_comm]; exact h2)
  obtain ⟨k, hk⟩ := d1
  have k0 : k ≠ 0 := fun q => hb (by rw [hk, q, Int.mul_zero])
  have pa : a = p * k := by
    have : q * a = q * (p * k) := by rw [Int.mul_comm, ← h3, hk]; grind
    exact Int.eq_of_mul_eq_mul_left (by omega) this
  refine ⟨?_, ?_, ⟨k, hk⟩⟩
  · rw [hk, Int.natAbs_mul]; exact Nat.le_mul_of_pos_right _ (by omega)
  · rw [pa, Int.natAbs_mul]; exact Nat.le_mul_of_pos_right _ (by omega)

/-! THE REFERENCE: parts told, measured, shared. -/
/-- what part answers -/
def PVz (σ : SG) (c p e w : Nat) (z : Int) : Prop := ∃ (D : Int) (y : Nat → Int) (P Q : Int), PartV σ c p D y ∧ LW (y e) D P Q ∧ z = if w = 0 then P else Q
/-- what length answers -/
def LNz (σ : SG) (c p w : Nat) (z : Int) : Prop := ∃ (D : Int) (y : Nat → Int) (P Q : Int), PartV σ c p D y ∧ LW (ipw (sE σ) (msr σ) y (sch σ c)) (6 * D) P Q ∧ z = if w = 0 then P else Q
/-- what share answers -/
def SHz (σ : SG) (c p : Nat) (z : Int) : Prop := ∃ (D : Int) (y : Nat → Int) (P Q : Int), PartV σ c p D y ∧ LW (ipw (sE σ) (msr σ) y (sch σ c)) (D * ipw (sE σ) (msr σ) (sch σ c) (sch σ c)) P Q ∧ z = shv P Q
theorem ip_scale {E : Nat} {m y y' c : Nat → Int} {d d' : Int} (h : ∀ e, e < E → d' * y e = d * y' e) : d' * ipw E m y c = d * ipw E m y' c := by
  unfold ipw
  rw [← sI_mul, ← sI_mul]
  refine sI_congr fun e he => ?_
  have := h e he
  rw [show d' * (y e * c e * m e) = (d' * y e) * (c e * m e) by grind, this]; grind
theorem PVz.uniq {σ : SG} (W : WF σ) {c p e w : Nat} (hp : p ≤ 3) (he : e < sE σ) {z z' : Int} (h : PVz σ c p e w z) (h' : PVz σ c p e w z') : z = z' := by
  obtain ⟨D, y, P, Q, h1, h2, h3⟩ := h
  obtain ⟨D', y', P', Q', k1, k2, k3⟩ := h'
  have u := pv_uniq W hp h1 k1 e he
  have e1 := h2.eq (pv_d hp h1) (b' := D') (a' := y' e) (by rw [Int.mul_comm, u]; exact Int.mul_comm _ _)
  obtain ⟨a, b⟩ := LW.uniq (pv_d hp k1) e1 k2
  rw [h3, k3, a, b]
theorem LNz.uniq {σ : SG} (W : WF σ) {c p w : Nat} (hp : p ≤ 3) {z z' : Int} (h : LNz σ c p w z) (h' : LNz σ c p w z') : z = z' := by
  obtain ⟨D, y, P, Q, h1, h2, h3⟩ := h
  obtain ⟨D', y', P', Q', k1, k2, k3⟩ := h'
  have u := ip_scale (m := msr σ) (c := sch σ c) (pv_uniq W hp h1 k1)
  have d0 := pv_d hp h1
  have d0' := pv_d hp k1
  have e1 := h2.eq (by omega) (b' := 6 * D') (a' := ipw (sE σ) (msr σ) y' (sch σ c)) (by
    rw [show ipw (sE σ) (msr σ) y (sch σ c) * (6 * D') = 6 * (D' * ipw (sE σ) (msr σ) y (sch σ c)) by grind, u]; grind)
  obtain ⟨a, b⟩ := LW.uniq (by omega) e1 k2
  rw [h3, k3, a, b]
theorem SHz.uniq {σ : SG} (W : WF σ) {c p : Nat} (hp : p ≤ 3) (hc0 : ipw (sE σ) (msr σ) (sch σ c) (sch σ c) ≠ 0) {z z' : Int} (h : SHz σ c p z) (h' : SHz σ c p z') : z = z' := by
  obtain ⟨D, y, P, Q, h1, h2, h3⟩ := h
  obtain ⟨D', y', P', Q', k1, k2, k3⟩ := h'
  have u := ip_scale (m := msr σ) (c := sch σ c) (pv_uniq W hp h1 k1)
  have d0 := pv_d hp h1
  have d0' := pv_d hp k1
  have e1 := h2.eq (Int.mul_ne_zero d0 hc0) (b' := D' * ipw (sE σ) (msr σ) (sch σ c) (sch σ c)) (a' := ipw (sE σ) (msr σ) y' (sch σ c)) (by
    rw [show ipw (sE σ) (msr σ) y (sch σ c) * (D' * ipw (sE σ) (msr σ) (sch σ c) (sch σ c)) = ipw (sE σ) (msr σ) (sch σ c) (sch σ c) * (D' * ipw (sE σ) (msr σ) y (sch σ c)) by grind, u]; grind)
  obtain ⟨a, b⟩ := LW.uniq (Int.mul_ne_zero d0' hc0) e1 k2
  rw [h3, k3, a, b]
/-- measured up to edge e -/
def MSp (σ : SG) (c : Nat) (D : Int) (y : Nat → Int) (h h1 : HH) (e : Nat) : Prop := (∀ k, k ≠ 47 → h1 k = h k) ∧ (∀ q, q ≠ 22 → q ≠ 23 → h1 47 q = h 47 q) ∧ LW (ipw e (msr σ) y (sch σ c)) (6 * D) (h1 47 22) (h1 47 23)
theorem lcm_dv {a b N : Int} {g : Nat} (ha : 0 < a) (hb : 0 < b) (hg : g = Int.gcd a b) (h1 : a ∣ N) (h2 : b ∣ N) : (a.tdiv g) * b ∣ N := by
  obtain ⟨x, rfl⟩ : ∃ x : Nat, a = x := ⟨a.toNat, by omega⟩
  obtain ⟨y, rfl⟩ : ∃ y : Nat, b = y := ⟨b.toNat, by omega⟩
  have e1 : ((x : Int).tdiv (g : Int)) * (y : Int) = ((Nat.lcm x y : Nat) : Int) := by
    have e2 : (x : Int).tdiv (g : Int) = ((x / g : Nat) : Int) := rfl
    have hg : g = Nat.gcd x y := hg
    rw [e2, ← Int.natCast_mul]
    congr 1
    unfold Nat.lcm
    rw [hg, Nat.mul_comm, ← Nat.mul_div_assoc _ (Nat.gcd_dvd_left x y), Nat.mul_comm]
  rw [e1, Int.ofNat_dvd_left]
  exact Nat.lcm_dvd (Int.ofNat_dvd_left.mp h1) (Int.ofNat_dvd_left.mp h2)
/-- the step of measuring: fractions added -/
theorem ms_add {T y D lA lB P Q x w m : Int} {g : Nat} (h : LW T (6 * D) lA lB) (k : LW y D P Q) (hwm : w * m = 6) (hw : 0 < w) (hg : g = Int.gcd lB (Q * w)) :
    (lA * (Q * w).tdiv g + x * P * lB.tdiv g) * (6 * D) = (T + x * y * m) * (lB.tdiv g * (Q * w)) ∧ 0 < lB.tdiv g * (Q * w) := by
  have hQ := k.1
  have hB := h.1
  have hQw : 0 < Q * w := Int.mul_pos hQ hw
  have g0 : 0 < g := by rw [hg]; exact (gcd_b (a := lB) (show Q * w ≠ 0 by omega)).1
  have d1 : (g : Int) ∣ lB := by rw [hg]; exact Int.gcd_dvd_left ..
  have d2 : (g : Int) ∣ Q * w := by rw [hg]; exact Int.gcd_dvd_right ..
  have e1 := tdv (show (g : Int) ≠ 0 by omega) d1
  have e2 := tdv (show (g : Int) ≠ 0 by omega) d2
  obtain ⟨u, hu⟩ : ∃ u, u = lB.tdiv g := ⟨_, rfl⟩
  obtain ⟨v, hv⟩ : ∃ v, v = (Q * w).tdiv g := ⟨_, rfl⟩
  rw [← hu] at e1 ⊢
  rw [← hv] at e2 ⊢
  have h3 := h.2.2
  have k3 := k.2.2
  have u0 : 0 < u := by
    rcases Int.lt_or_le 0 u with z | z
    · exact z
    · have := Int.mul_le_mul_of_nonneg_left z (show (0 : Int) ≤ (g : Int) by omega)
      rw [Int.mul_zero] at this; omega
  refine ⟨?_, Int.mul_pos u0 hQw⟩
  have key : (g : Int) * ((lA * v + x * P * u) * (6 * D)) = (g : Int) * ((T + x * y * m) * (u * (Q * w))) := by
    have a1 : (g : Int) * ((lA * v + x * P * u) * (6 * D)) = (lA * (6 * D)) * ((g : Int) * v) + x * (P * D) * 6 * ((g : Int) * u) := by grind
    have a2 : (g : Int) * ((T + x * y * m) * (u * (Q * w))) = ((g : Int) * u) * (T + x * y * m) * (Q * w) := by grind
    rw [a1, a2, ← e1, ← e2, h3, k3, ← hwm]; grind
  exact Int.eq_of_mul_eq_mul_left (show (g : Int) ≠ 0 by omega) key
theorem ms_b {T D lA lB : Int} (h : lA * (6 * D) = T * lB) (hD : D ≠ 0) (hd : lB ∣ 6 * D) (h0 : 0 < lB) : lA.natAbs ≤ T.natAbs ∧ lB.natAbs ≤ 6 * D.natAbs := by
  obtain ⟨k, hk⟩ := hd
  have k0 : k ≠ 0 := fun q => by rw [q, Int.mul_zero] at hk; omega
  have e : T = lA * k := by
    have : lB * T = lB * (lA * k) := by rw [Int.mul_comm, ← h, hk]; grind
    exact Int.eq_of_mul_eq_mul_left (by omega) this
  refine ⟨?_, ?_⟩
  · rw [e, Int.natAbs_mul]; exact Nat.le_mul_of_pos_right _ (by omega)
  · have e2 : (6 * D).natAbs = 6 * D.natAbs := by rw [Int.natAbs_mul]; rfl
    rw [← e2, hk, Int.natAbs_mul]; exact Nat.le_mul_of_pos_right _ (by omega)
/-- partial sums are small -/
theorem ms_T {σ : SG} (W : WF σ) {c e : Nat} (hc : c < 3) (he : e ≤ sE σ) {D : Int} {y : Nat → Int} (hD : D.natAbs ≤ 2 ^ 41) (hy : ∀ e, e < sE σ → (y e).natAbs ≤ 39 * D.natAbs) : (ipw e (msr σ) y (sch σ c)).natAbs < 2 ^ 62 := by
  have w2 := W.2.1
  have h := sI_b (f := fun e => y e * sch σ c e * msr σ e) (B := ((39 * 2 ^ 41 * 9 * 6 : Nat) : Int)) e (fun k hk => by
    refine abs_b ?_
    have m := msr_r W (e := k) (by omega)
    have s := W.2.2.2.2.2 c k hc (by omega)
    have y9 := hy k (by omega)
    rw [Int.natAbs_mul, Int.natAbs_mul]
    exact Nat.mul_le_mul (Nat.mul_le_mul (by omega) (by omega)) (by omega))
  unfold ipw
  have e6 : (e : Int) * ((39 * 2 ^ 41 * 9 * 6 : Nat) : Int) ≤ 6 * ((39 * 2 ^ 41 * 9 * 6 : Nat) : Int) := Int.mul_le_mul_of_nonneg_right (by omega) (by omega)
  omega
theorem lw_div {T N a b : Int} (hN : N ≠ 0) (hb : 0 < b) (h : a * N = T * b) : LW T N (a.tdiv (Int.gcd a b)) (b.tdiv (Int.gcd a b)) := by
  exact (LW.of (a := a) (b := b) hb).eq (by omega) (by rw [h])
theorem MSp.put {σ : SG} {c e : Nat} {D : Int} {y : Nat → Int} {h h1 : HH} (L : MSp σ c D y h h1 e) {A B P Q : Int} (hw : LW (ipw (e + 1) (msr σ) y (sch σ c)) (6 * D) P Q) : MSp σ c D y h (up (up (up (up h1 47 22 A) 47 23 B) 47 22 P) 47 23 Q) (e + 1) := by
  obtain ⟨l1, l2, l3⟩ := L
  refine ⟨fun k hk => by rw [up_ne _ _ _ hk, up_ne _ _ _ hk, up_ne _ _ _ hk, up_ne _ _ _ hk]; exact l1 k hk, fun q q1 q2 => by rw [up_o _ _ q2, up_o _ _ q1, up_o _ _ q2, up_o _ _ q1]; exact l2 q q1 q2, ?_⟩
  rw [up_same, up_o _ _ (show (22 : Nat) ≠ 23 by decide), up_same]
  exact hw
theorem MSp.rm {σ σ' : SG} {c e : Nat} {D : Int} {y : Nat → Int} {h h1 : HH} (L : MSp σ c D y h h1 e) (R : RM (h 48) σ') : RM (h1 48) σ' := by rw [L.1 48 (by decide)]; exact R
theorem MSp.init {σ : SG} {c : Nat} {D : Int} {y : Nat → Int} (h : HH) : MSp σ c D y h (up (up h 47 22 0) 47 23 1) 0 :=
  ⟨fun k hk => by rw [up_ne _ _ _ hk, up_ne _ _ _ hk], fun q q1 q2 => by rw [up_o _ _ q2, up_o _ _ q1], by
    rw [up_same, up_o _ _ (show (22 : Nat) ≠ 23 by decide), up_same]
    exact ⟨by decide, by decide, by rw [Int.zero_mul]; rfl⟩⟩
/-- all that a step of measuring wants -/
theorem ms_all {σ : SG} (W : WF σ) {c e : Nat} (hc : c < 3) (he : e < sE σ) {D : Int} {y : Nat → Int} (d0 : D ≠ 0) (hD : D.natAbs ≤ 2 ^ 41) (hy : ∀ e, e < sE σ → (y e).natAbs ≤ 39 * D.natAbs) {lA lB P Q : Int} (h : LW (ipw e (msr σ) y (sch σ c)) (6 * D) lA lB) (k : LW (y e) D P Q) :
    (0 < lB ∧ lB.natAbs ≤ 6 * 2 ^ 41) ∧ (0 < Q * (sew σ e : Int) ∧ (Q * (sew σ e : Int)).natAbs ≤ 3 * 2 ^ 41) ∧ 0 < Int.gcd lB (Q * (sew σ e : Int)) ∧ Int.gcd lB (Q * (sew σ e : Int)) ≤ 3 * 2 ^ 41 ∧
    ∀ A B : Int, A = lA * (Q * (sew σ e : Int)).tdiv (Int.gcd lB (Q * (sew σ e : Int))) + sch σ c e * P * lB.tdiv (Int.gcd lB (Q * (sew σ e : Int))) → B = lB.tdiv (Int.gcd lB (Q * (sew σ e : Int))) * (Q * (sew σ e : Int)) → A.natAbs < 2 ^ 62 ∧ (0 < B ∧ B.natAbs ≤ 6 * 2 ^ 41) ∧ LW (ipw (e + 1) (msr σ) y (sch σ c)) (6 * D) (A.tdiv (Int.gcd A B)) (B.tdiv (Int.gcd A B)) := by
  have w4 := W.2.2.2.1 e he
  have m9 := msr_r W he
  have bk := k.bd d0
  have bh := h.bd (show 6 * D ≠ 0 by omega)
  have wp : (0 : Int) < (sew σ e : Int) := by omega
  have qw := Int.mul_pos k.1 wp
  have e6 : (6 * D).natAbs = 6 * D.natAbs := by rw [Int.natAbs_mul]; rfl
  have qb : (Q * (sew σ e : Int)).natAbs ≤ 3 * 2 ^ 41 := by
    rw [Int.natAbs_mul]
    have h1 : Q.natAbs ≤ 2 ^ 41 := by omega
    have h2 : ((sew σ e : Nat) : Int).natAbs ≤ 3 := by omega
    have := Nat.mul_le_mul h1 h2
    omega
  have gb := gcd_b (a := lB) (b := Q * (sew σ e : Int)) (by omega)
  have l0 := h.1
  refine ⟨⟨l0, by omega⟩, ⟨qw, qb⟩, gb.1, by omega, fun A B hA hB => ?_⟩
  have ad := ms_add (x := sch σ c e) h k m9.2.2 wp rfl
  rw [← hA, ← hB] at ad
  have T1 : ipw (e + 1) (msr σ) y (sch σ c) = ipw e (msr σ) y (sch σ c) + sch σ c e * y e * msr σ e := by rw [ipw_s, Int.mul_comm (y e)]
  rw [← T1] at ad
  have dv : B ∣ 6 * D := by
    rw [hB]
    refine lcm_dv l0 qw rfl bh.2.2 ?_
    obtain ⟨a, ha⟩ := bk.2.2
    exact ⟨a * msr σ e, by rw [ha, ← m9.2.2]; grind⟩
  have bb := ms_b ad.1 d0 dv ad.2
  have tb := ms_T W hc (show e + 1 ≤ sE σ by omega) hD hy
  exact ⟨by omega, ⟨ad.2, by omega⟩, lw_div (by omega) ad.2 ad.1⟩
/-- a measured part -/
def MSh (σ : SG) (c p : Nat) (h h' : HH) : Prop := RFm h h' ∧ ∃ (D : Int) (y : Nat → Int), PartV σ c p D y ∧ D.natAbs ≤ 2 ^ 41 ∧ LW (ipw (sE σ) (msr σ) y (sch σ c)) (6 * D) (h' 47 22) (h' 47 23)
theorem MSp.rf {σ : SG} {c e : Nat} {D : Int} {y : Nat → Int} {h h1 : HH} (L : MSp σ c D y h h1 e) : RFm h h1 := ⟨fun k k1 k2 => L.1 k k2, fun q q1 q2 q3 => L.2.1 q q2 q3⟩
theorem RFm.rfl (h : HH) : RFm h h := ⟨fun _ _ _ => Eq.refl _, fun _ _ _ _ => Eq.refl _⟩

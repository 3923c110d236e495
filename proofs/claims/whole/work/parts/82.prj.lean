/-! PARTS of a chain: inner products, Gauss and Jordan's states over rays, what they fix. -/
def ipw (E : Nat) (m x y : Nat → Int) : Int := sI E (fun e => x e * y e * m e)
theorem ip_comm (E : Nat) (m x y : Nat → Int) : ipw E m x y = ipw E m y x := sI_congr fun e _ => by grind
theorem ip_suml (E n : Nat) (m z y : Nat → Int) (v : Nat → Nat → Int) : ipw E m (fun e => sI n (fun r => z r * v r e)) y = sI n (fun r => z r * ipw E m (v r) y) := by
  have e1 : ipw E m (fun e => sI n (fun r => z r * v r e)) y = sI E (fun e => sI n (fun r => z r * (v r e * y e * m e))) := by
    refine sI_congr fun e _ => ?_
    rw [← sI_mulr, ← sI_mulr]
    exact sI_congr fun r _ => by grind
  rw [e1, sI_comm]
  exact sI_congr fun r _ => sI_mul _ _ _
theorem ip_lin (E : Nat) (m x y w : Nat → Int) (a b : Int) : ipw E m (fun e => a * x e + b * y e) w = a * ipw E m x w + b * ipw E m y w := by
  unfold ipw
  rw [← sI_lin]
  exact sI_congr fun e _ => by grind
theorem ip_congr {E : Nat} {m x x' y y' : Nat → Int} (h1 : ∀ e, e < E → x e = x' e) (h2 : ∀ e, e < E → y e = y' e) : ipw E m x y = ipw E m x' y' := sI_congr fun e he => by rw [h1 e he, h2 e he]
theorem ip_0 {E : Nat} {m x y : Nat → Int} (h : ∀ e, e < E → x e = 0) : ipw E m x y = 0 := sI_zero E fun e he => by rw [h e he, Int.zero_mul, Int.zero_mul]
theorem sq_nn (x : Int) : 0 ≤ x * x := by
  rcases Int.le_total 0 x with h | h
  · exact Int.mul_nonneg h h
  · exact Int.mul_nonneg_of_nonpos_of_nonpos h h
theorem ip_nn {E : Nat} {m x : Nat → Int} (hm : ∀ e, e < E → 0 < m e) : 0 ≤ ipw E m x x := by
  unfold ipw
  induction E with
  | zero => exact Int.le_refl 0
  | succ E ih =>
    rw [sI_s]
    have h1 := ih (fun e he => hm e (by omega))
    have h2 := Int.mul_nonneg (sq_nn (x E)) (Int.le_of_lt (hm E (by omega)))
    omega
theorem ip_pos {E : Nat} {m x : Nat → Int} (hm : ∀ e, e < E → 0 < m e) (h : ipw E m x x = 0) : ∀ e, e < E → x e = 0 := by
  unfold ipw at h
  induction E with
  | zero => intro e he; omega
  | succ E ih =>
    rw [sI_s] at h
    have h1 := ip_nn (E := E) (m := m) (x := x) (fun e he => hm e (by omega))
    unfold ipw at h1
    have h2 := Int.mul_nonneg (sq_nn (x E)) (Int.le_of_lt (hm E (by omega)))
    intro e he
    rcases (show e < E ∨ e = E by omega) with q | q
    · exact ih (fun e he => hm e (by omega)) (by omega) e q
    · subst q
      have h3 : x e * x e * m e = 0 := by omega
      have h4 := hm e (by omega)
      rcases Int.mul_eq_zero.mp h3 with q | q
      · rcases Int.mul_eq_zero.mp q with q | q <;> exact q
      · omega
/-- products of rays, and behind them of each ray and the chain -/
def GM (E : Nat) (m : Nat → Int) (n : Nat) (v : Nat → Nat → Int) (c : Nat → Int) (a s : Nat) : Int := ipw E m (v a) (if s < n then v s else c)
/-- the columns of S, and of the unit else -/
def KS (S : Nat → Bool) (G : Nat → Nat → Int) (i j : Nat) : Int := if S j = true then G i j else if i = j then 1 else 0
def XS (n : Nat) (S : Nat → Bool) (G : Nat → Nat → Int) (r s : Nat) : Int := sI n (fun a => G a s * aj n (KS S G) r a)
def addS (S : Nat → Bool) (k : Nat) (j : Nat) : Bool := if j = k then true else S j
theorem sI_dl {n i : Nat} (h : i < n) (f : Nat → Int) (hf : ∀ a, a < n → a ≠ i → f a = 0) : sI n f = f i := by
  rw [← sI_delta h f]
  refine sI_congr fun a ha => ?_
  by_cases q : i = a
  · rw [if_pos q, Int.mul_one]
  · rw [if_neg q, Int.mul_zero]; exact hf a ha (Ne.symm q)
theorem aj_off {n r a : Nat} {S : Nat → Bool} {G : Nat → Nat → Int} (hr : r < n) (ha : a < n) (hS : S a = false) : aj n (KS S G) r a = if a = r then dT n (KS S G) else 0 := by
  rw [← aj_mul hr ha (KS S G), sI_dl ha (fun b => KS S G b a * aj n (KS S G) r b) (fun b _ hb => by
    unfold KS; rw [if_neg (by rw [hS]; decide), if_neg hb, Int.zero_mul])]
  unfold KS
  rw [if_neg (by rw [hS]; decide), if_pos rfl, Int.one_mul]
theorem xs_S {n r s : Nat} {S : Nat → Bool} {G : Nat → Nat → Int} (hr : r < n) (hs : s < n) (hS : S s = true) : XS n S G r s = if s = r then dT n (KS S G) else 0 := by
  rw [← aj_mul hr hs (KS S G)]
  exact sI_congr fun a _ => by
    show G a s * _ = KS S G a s * _
    rw [show KS S G a s = G a s from if_pos hS]
theorem ks_add (S : Nat → Bool) (k : Nat) (G : Nat → Nat → Int) : KS (addS S k) G = uc k (fun i => G i k) (KS S G) := by
  funext i j
  unfold KS addS uc
  by_cases q : j = k
  · subst q; rw [if_pos rfl, if_pos rfl, if_pos rfl]
  · rw [if_neg q, if_neg q]
theorem ds_add {n k : Nat} (hk : k < n) (S : Nat → Bool) (G : Nat → Nat → Int) : dT n (KS (addS S k) G) = XS n S G k k := by
  rw [ks_add, cramer hk]
  rfl
theorem xs_cr {n r : Nat} (hr : r < n) (S : Nat → Bool) (G : Nat → Nat → Int) (s : Nat) : XS n S G r s = dT n (uc r (fun i => G i s) (KS S G)) := by
  rw [cramer hr]
  rfl
theorem xs_k (n k : Nat) (S : Nat → Bool) (G : Nat → Nat → Int) (s : Nat) : XS n (addS S k) G k s = XS n S G k s := by
  unfold XS
  rw [ks_add]
  exact sI_congr fun a _ => by rw [aj_uc]
theorem xs_r {n k r : Nat} (hk : k < n) (hr : r < n) (hrk : r ≠ k) (S : Nat → Bool) (G : Nat → Nat → Int) (hD : XS n S G k k ≠ 0) (s : Nat) :
    dT n (KS S G) * XS n (addS S k) G r s = XS n S G k k * XS n S G r s - XS n S G r k * XS n S G k s := by
  have hd := ds_add hk S G
  have key : ∀ a, a < n → dT n (KS S G) * aj n (KS (addS S k) G) r a = XS n S G k k * aj n (KS S G) r a - XS n S G r k * aj n (KS S G) k a := by
    intro a ha
    have := gj_step hk hr hrk (KS S G) (fun i => G i k) (by rw [← ks_add, hd]; exact hD) ha
    rw [← ks_add, hd] at this
    exact this
  have e1 : dT n (KS S G) * XS n (addS S k) G r s = sI n (fun a => G a s * (XS n S G k k * aj n (KS S G) r a - XS n S G r k * aj n (KS S G) k a)) := by
    unfold XS
    rw [← sI_mul]
    refine sI_congr fun a ha => ?_
    have := key a ha
    unfold XS at this
    rw [← this]; grind
  rw [e1]
  have e2 : XS n S G k k * XS n S G r s = sI n (fun a => XS n S G k k * (G a s * aj n (KS S G) r a)) := (sI_mul _ _ _).symm
  have e3 : XS n S G r k * XS n S G k s = sI n (fun a => XS n S G r k * (G a s * aj n (KS S G) k a)) := (sI_mul _ _ _).symm
  rw [e2, e3, ← sI_sub]
  exact sI_congr fun a _ => by grind
/-- what is left of ray r -/
def vS (n : Nat) (S : Nat → Bool) (G v : Nat → Nat → Int) (r e : Nat) : Int := sI n (fun a => aj n (KS S G) r a * v a e)
theorem vS_ip {E n r s : Nat} {m c : Nat → Int} {v : Nat → Nat → Int} {S : Nat → Bool} : ipw E m (vS n S (GM E m n v c) v r) (if s < n then v s else c) = XS n S (GM E m n v c) r s := by
  unfold vS
  rw [ip_suml]
  exact sI_congr fun a _ => Int.mul_comm _ _
theorem vS_sq {E n r : Nat} {m c : Nat → Int} {v : Nat → Nat → Int} {S : Nat → Bool} (hr : r < n) (hS : S r = false) : ipw E m (vS n S (GM E m n v c) v r) (vS n S (GM E m n v c) v r) = dT n (KS S (GM E m n v c)) * XS n S (GM E m n v c) r r := by
  have e1 : ipw E m (vS n S (GM E m n v c) v r) (vS n S (GM E m n v c) v r) = sI n (fun a => aj n (KS S (GM E m n v c)) r a * XS n S (GM E m n v c) r a) := by
    have := ip_suml E n m (fun a => aj n (KS S (GM E m n v c)) r a) (vS n S (GM E m n v c) v r) v
    refine this.trans (sI_congr fun a ha => ?_)
    rw [ip_comm, ← vS_ip (E := E) (m := m) (c := c) (s := a), if_pos ha]
  rw [e1, sI_dl hr _ (fun a ha hne => ?_), aj_off hr hr hS, if_pos rfl]
  by_cases q : S a = true
  · rw [xs_S hr ha q, if_neg hne, Int.mul_zero]
  · rw [aj_off hr ha (by simpa using q), if_neg hne, Int.zero_mul]
/-- a state of the elimination -/
def GI (n : Nat) (G : Nat → Nat → Int) (S : Nat → Bool) (k : Nat) : Prop := (∀ j, k ≤ j → S j = false) ∧ 0 < dT n (KS S G) ∧ ∀ r, r < k → S r = false → ∀ s, s ≤ n → XS n S G r s = 0
def noS (_ : Nat) : Bool := false
theorem ks_no (G : Nat → Nat → Int) : KS noS G = fun i j => if i = j then 1 else 0 := by
  funext i j
  unfold KS noS
  rw [if_neg (by decide)]
theorem gi_0 (n : Nat) (G : Nat → Nat → Int) : GI n G noS 0 ∧ dT n (KS noS G) = 1 ∧ ∀ r s, r < n → XS n noS G r s = G r s := by
  have h1 : dT n (KS noS G) = 1 := by rw [ks_no]; exact dT_one n
  refine ⟨⟨fun _ _ => rfl, by omega, fun r hr => absurd hr (Nat.not_lt_zero _)⟩, h1, fun r s hr => ?_⟩
  unfold XS
  rw [sI_dl hr _ (fun a ha hne => by rw [aj_off hr ha rfl, if_neg hne, Int.mul_zero]), aj_off hr hr rfl, if_pos rfl, h1, Int.mul_one]
theorem gi_z {E n k : Nat} {m c : Nat → Int} {v : Nat → Nat → Int} {S : Nat → Bool} (hm : ∀ e, e < E → 0 < m e) (hk : k < n) (hS : S k = false) (hd : 0 < dT n (KS S (GM E m n v c))) : 0 ≤ XS n S (GM E m n v c) k k ∧ (XS n S (GM E m n v c) k k = 0 → (∀ e, e < E → vS n S (GM E m n v c) v k e = 0) ∧ ∀ s, XS n S (GM E m n v c) k s = 0) := by
  have h1 := vS_sq (E := E) (m := m) (c := c) (v := v) hk hS
  have h2 := ip_nn (E := E) (m := m) (x := vS n S (GM E m n v c) v k) hm
  rw [h1] at h2
  refine ⟨?_, fun h0 => ?_⟩
  · rcases Int.lt_or_le (XS n S (GM E m n v c) k k) 0 with q | q
    · have := Int.mul_neg_of_pos_of_neg hd q; omega
    · exact q
  · rw [h0, Int.mul_zero] at h1
    have z := ip_pos hm h1
    exact ⟨z, fun s => by rw [← vS_ip]; exact ip_0 z⟩
theorem gi_skip {E n k : Nat} {m c : Nat → Int} {v : Nat → Nat → Int} {S : Nat → Bool} (hm : ∀ e, e < E → 0 < m e) (hk : k < n) (I : GI n (GM E m n v c) S k) (h0 : XS n S (GM E m n v c) k k = 0) : GI n (GM E m n v c) S (k + 1) := by
  obtain ⟨i1, i2, i3⟩ := I
  refine ⟨fun j hj => i1 j (by omega), i2, fun r hr hS s hs => ?_⟩
  rcases (show r < k ∨ r = k by omega) with q | q
  · exact i3 r q hS s hs
  · subst q; exact ((gi_z hm hk (i1 r (Nat.le_refl r)) i2).2 h0).2 s
theorem gi_step {E n k : Nat} {m c : Nat → Int} {v : Nat → Nat → Int} {S : Nat → Bool} (hm : ∀ e, e < E → 0 < m e) (hk : k < n) (I : GI n (GM E m n v c) S k) (h0 : XS n S (GM E m n v c) k k ≠ 0) : GI n (GM E m n v c) (addS S k) (k + 1) := by
  obtain ⟨i1, i2, i3⟩ := I
  have z := gi_z hm hk (i1 k (Nat.le_refl k)) i2
  refine ⟨fun j hj => ?_, by rw [ds_add hk]; omega, fun r hr hS s hs => ?_⟩
  · unfold addS; rw [if_neg (by omega)]; exact i1 j (by omega)
  · unfold addS at hS
    by_cases q : r = k
    · rw [if_pos q] at hS; cases hS
    · rw [if_neg q] at hS
      have e := xs_r hk (show r < n by omega) q S (GM E m n v c) h0 s
      rw [i3 r (by omega) hS s hs, i3 r (by omega) hS k (by omega), Int.mul_zero, Int.zero_mul] at e
      rcases Int.mul_eq_zero.mp e with q2 | q2
      · omega
      · exact q2
/-- y by d is the shadow of c on the span of the rays -/
def Prj (E : Nat) (m : Nat → Int) (n : Nat) (v : Nat → Nat → Int) (c : Nat → Int) (d : Int) (y : Nat → Int) : Prop := d ≠ 0 ∧ (∃ (t : Int) (z : Nat → Int), t ≠ 0 ∧ ∀ e, e < E → t * y e = sI n (fun r => z r * v r e)) ∧ ∀ s, s < n → ipw E m y (v s) = d * ipw E m c (v s)
theorem prj_uniq {E n : Nat} {m c y y' : Nat → Int} {v : Nat → Nat → Int} {d d' : Int} (hm : ∀ e, e < E → 0 < m e) (h : Prj E m n v c d y) (h' : Prj E m n v c d' y') : ∀ e, e < E → d' * y e = d * y' e := by
  obtain ⟨h1, ⟨t, z, t0, hz⟩, h2⟩ := h
  obtain ⟨h1', ⟨t', z', t0', hz'⟩, h2'⟩ := h'
  obtain ⟨w, hw⟩ : ∃ w : Nat → Int, w = fun e => d' * y e + (-d) * y' e := ⟨_, rfl⟩
  have o : ∀ s, s < n → ipw E m w (v s) = 0 := by
    intro s hs
    rw [hw, ip_lin, h2 s hs, h2' s hs]; grind
  have sp : ∀ e, e < E → t * t' * w e = sI n (fun r => (t' * d' * z r - t * d * z' r) * v r e) := by
    intro e he
    have e1 : sI n (fun r => (t' * d' * z r - t * d * z' r) * v r e) = t' * d' * sI n (fun r => z r * v r e) - t * d * sI n (fun r => z' r * v r e) := by
      rw [← sI_mul, ← sI_mul, ← sI_sub]
      exact sI_congr fun r _ => by grind
    rw [e1, ← hz e he, ← hz' e he, hw]; grind
  have q : ipw E m w w * (t * t') = 0 := by
    have e2 : ipw E m w w * (t * t') = ipw E m (fun e => t * t' * w e) w := by
      unfold ipw
      rw [← sI_mulr]
      exact sI_congr fun e _ => by grind
    rw [e2, ip_congr sp (fun e _ => rfl), ip_suml]
    exact sI_zero n fun r hr => by rw [ip_comm, o r hr, Int.mul_zero]
  rcases Int.mul_eq_zero.mp q with q | q
  · intro e he
    have := ip_pos hm q e he
    rw [hw] at this
    simp only at this
    grind
  · rcases Int.mul_eq_zero.mp q with q | q
    · exact absurd q t0
    · exact absurd q t0'
/-- both adjugates are one -/
theorem aj_two {n : Nat} {K : Nat → Nat → Int} (hd : dT n K ≠ 0) {r b : Nat} (hr : r < n) (hb : b < n) : aj n (fun i j => K j i) b r = aj n K r b := by
  have e1 : sI n (fun s => sI n (fun j => aj n K r s * (K s j * aj n (fun i j => K j i) b j))) = dT n K * aj n K r b := by
    rw [show sI n (fun s => sI n (fun j => aj n K r s * (K s j * aj n (fun i j => K j i) b j))) = sI n (fun s => aj n K r s * (if b = s then 1 else 0) * dT n K) from sI_congr fun s hs => by
      rw [sI_mul, aq_mul hs hb K]
      by_cases q : b = s
      · rw [if_pos q, if_pos q.symm]; grind
      · rw [if_neg q, if_neg (Ne.symm q)]; grind]
    rw [sI_mulr, sI_delta hb, Int.mul_comm]
  have e2 : sI n (fun s => sI n (fun j => aj n K r s * (K s j * aj n (fun i j => K j i) b j))) = dT n K * aj n (fun i j => K j i) b r := by
    rw [sI_comm, show sI n (fun j => sI n (fun s => aj n K r s * (K s j * aj n (fun i j => K j i) b j))) = sI n (fun j => aj n (fun i j => K j i) b j * (if r = j then 1 else 0) * dT n K) from sI_congr fun j hj => by
      rw [show sI n (fun s => aj n K r s * (K s j * aj n (fun i j => K j i) b j)) = sI n (fun s => K s j * aj n K r s) * aj n (fun i j => K j i) b j from by
        rw [← sI_mulr]; exact sI_congr fun s _ => by grind]
      rw [aj_mul hr hj]
      by_cases q : j = r
      · rw [if_pos q, if_pos q.symm]; grind
      · rw [if_neg q, if_neg (Ne.symm q)]; grind]
    rw [sI_mulr, sI_delta hr, Int.mul_comm]
  rw [e1] at e2
  exact (Int.eq_of_mul_eq_mul_left hd e2).symm
theorem aj_r {n : Nat} {K : Nat → Nat → Int} (hd : dT n K ≠ 0) {i b : Nat} (hi : i < n) (hb : b < n) : sI n (fun j => K i j * aj n K j b) = if i = b then dT n K else 0 := by
  rw [← aq_mul hi hb K]
  exact sI_congr fun j hj => by rw [aj_two hd hj hb]
/-- the end of the elimination tells the shadow -/
theorem gi_prj {E n : Nat} {m c : Nat → Int} {v : Nat → Nat → Int} {S : Nat → Bool} (hm : ∀ e, e < E → 0 < m e) (I : GI n (GM E m n v c) S n) : Prj E m n v c (dT n (KS S (GM E m n v c))) (fun e => sI n (fun r => XS n S (GM E m n v c) r n * v r e)) := by
  obtain ⟨i1, i2, i3⟩ := I
  obtain ⟨d, hd⟩ : ∃ d, d = dT n (KS S (GM E m n v c)) := ⟨_, rfl⟩
  rw [← hd] at i2 ⊢
  obtain ⟨z, hz⟩ : ∃ z : Nat → Int, z = fun r => XS n S (GM E m n v c) r n := ⟨_, rfl⟩
  have hz0 : ∀ r, r < n → S r = false → z r = 0 := fun r hr hS => by rw [hz]; exact i3 r hr hS n (Nat.le_refl n)
  rw [show (fun e => sI n (fun r => XS n S (GM E m n v c) r n * v r e)) = fun e => sI n (fun r => z r * v r e) by rw [hz]]
  have hG : ∀ a s, s < n → GM E m n v c a s = ipw E m (v a) (v s) := fun a s hs => by unfold GM; rw [if_pos hs]
  have hGn : ∀ a, GM E m n v c a n = ipw E m (v a) c := fun a => by unfold GM; rw [if_neg (Nat.lt_irrefl n)]
  have inS : ∀ s, s < n → S s = true → ipw E m (fun e => sI n (fun r => z r * v r e)) (v s) = d * ipw E m c (v s) := by
    intro s hs hS
    rw [ip_suml]
    have e1 : sI n (fun r => z r * ipw E m (v r) (v s)) = sI n (fun r => KS S (GM E m n v c) s r * z r) := by
      refine sI_congr fun r hr => ?_
      by_cases q : S r = true
      · rw [show KS S (GM E m n v c) s r = GM E m n v c s r from if_pos q, hG s r hr, ip_comm E m (v s)]; grind
      · rw [hz0 r hr (by simpa using q), Int.zero_mul, Int.mul_zero]
    rw [e1]
    have e2 : sI n (fun r => KS S (GM E m n v c) s r * z r) = sI n (fun a => sI n (fun r => KS S (GM E m n v c) s r * aj n (KS S (GM E m n v c)) r a) * GM E m n v c a n) := by
      rw [show sI n (fun a => sI n (fun r => KS S (GM E m n v c) s r * aj n (KS S (GM E m n v c)) r a) * GM E m n v c a n) = sI n (fun a => sI n (fun r => KS S (GM E m n v c) s r * (GM E m n v c a n * aj n (KS S (GM E m n v c)) r a))) from sI_congr fun a _ => by
        rw [← sI_mulr]; exact sI_congr fun r _ => by grind]
      rw [sI_comm]
      exact sI_congr fun r _ => by rw [sI_mul, hz]; rfl
    rw [e2, sI_dl hs _ (fun a ha hne => by rw [aj_r (by omega) hs ha, if_neg (Ne.symm hne), Int.zero_mul]), aj_r (by omega) hs hs, if_pos rfl, ← hd, hGn, ip_comm]
  refine ⟨by omega, ⟨1, z, by decide, fun e _ => Int.one_mul _⟩, fun s hs => ?_⟩
  by_cases q : S s = true
  · exact inS s hs q
  · have qS : S s = false := by simpa using q
    have x0 := i3 s hs qS s (by omega)
    have v0 := ((gi_z hm hs qS (by rw [← hd]; exact i2)).2 x0).1
    obtain ⟨y, hy⟩ : ∃ y : Nat → Int, y = fun e => sI n (fun r => z r * v r e) := ⟨_, rfl⟩
    rw [← hy] at inS ⊢
    -- u a = <y, v a> - d <c, v a>
    have e1 : sI n (fun a => aj n (KS S (GM E m n v c)) s a * (ipw E m (v a) y - d * ipw E m (v a) c)) = 0 := by
      have e2 := ip_suml E n m (fun a => aj n (KS S (GM E m n v c)) s a) y v
      have e3 := ip_suml E n m (fun a => aj n (KS S (GM E m n v c)) s a) c v
      have z1 : ipw E m (fun e => sI n (fun r => aj n (KS S (GM E m n v c)) s r * v r e)) y = 0 := ip_0 v0
      have z2 : ipw E m (fun e => sI n (fun r => aj n (KS S (GM E m n v c)) s r * v r e)) c = 0 := ip_0 v0
      rw [z1] at e2
      rw [z2] at e3
      have e4 : sI n (fun a => aj n (KS S (GM E m n v c)) s a * (ipw E m (v a) y - d * ipw E m (v a) c)) = sI n (fun a => aj n (KS S (GM E m n v c)) s a * ipw E m (v a) y) - d * sI n (fun a => aj n (KS S (GM E m n v c)) s a * ipw E m (v a) c) := by
        rw [← sI_mul, ← sI_sub]
        exact sI_congr fun a _ => by grind
      rw [e4, ← e2, ← e3]; grind
    rw [sI_dl hs _ (fun a ha hne => by
      by_cases q2 : S a = true
      · have := inS a ha q2
        rw [ip_comm E m y, ip_comm E m c] at this
        rw [this]; grind
      · rw [aj_off hs ha (by simpa using q2), if_neg hne, Int.zero_mul]), aj_off hs hs qS, if_pos rfl, ← hd] at e1
    rcases Int.mul_eq_zero.mp e1 with q2 | q2
    · omega
    · rw [ip_comm E m y, ip_comm E m c]; omega

/-! BRIDGES: what both sides answer is the same number -/
theorem dv_gt {A : Nat → Nat → Int} {R a y k d : Nat} (K : Rk A R a 0 y) (h : y < k) (D : Dv A R a k d) : d = 0 := by
  refine dv_uniq D (dv_zero.mpr fun r c h1 h2 h3 h4 => Classical.byContradiction fun q => ?_)
  have := K.1 r c h1 h2 (by omega) (by rw [h3]; exact (nzp0 _).mpr q)
  omega
/-- twist -/
theorem br_tw {A : Nat → Nat → Int} {R a k : Nat} {z w : Int} (h1 : ∃ d e : Nat, z = (if d = 0 ∨ e = 0 then kNONE else (d : Int).tdiv e) ∧ Dv A R a k d ∧ Dv A R a (k - 1) e) (h2 : ∃ y : Nat, Rk A R a 0 y ∧ (y < k → w = kNONE) ∧ (k ≤ y → ∃ d e : Nat, d ≠ 0 ∧ e ≠ 0 ∧ Dv A R a k d ∧ Dv A R a (k - 1) e ∧ w = (d : Int).tdiv e)) : z = w := by
  obtain ⟨d, e, rfl, D, E⟩ := h1
  obtain ⟨y, K, a1, a2⟩ := h2
  by_cases q : y < k
  · rw [a1 q, if_pos (Or.inl (dv_gt K q D))]
  · obtain ⟨d', e', n1, n2, D', E', rfl⟩ := a2 (by omega)
    have := dv_uniq D D'
    have := dv_uniq E E'
    subst d' e'
    rw [if_neg (fun h => h.elim n1 n2)]
/-- masks, moved: minors stay -/
def MV (A B : Nat → Nat → Int) (R a b : Nat) (φ : Nat → Nat) : Prop := (∀ c, c &&& a = c → φ c &&& b = φ c ∧ pc6 (φ c) = pc6 c ∧ ∀ r, r < 2 ^ R → pc6 r = pc6 c → mnr A (pc6 c) r c = mnr B (pc6 c) r (φ c)) ∧ ∀ c', c' &&& b = c' → ∃ c, c &&& a = c ∧ φ c = c'
theorem MV.rk {A B : Nat → Nat → Int} {R a b : Nat} {φ : Nat → Nat} (M : MV A B R a b φ) {p : Int} {y : Nat} (K : Rk A R a p y) : Rk B R b p y := by
  refine ⟨fun r c' h1 h2 h3 h4 => ?_, ?_⟩
  · obtain ⟨c, c1, rfl⟩ := M.2 c' h2
    obtain ⟨m1, m2, m3⟩ := M.1 c c1
    refine K.1 r c h1 c1 (by omega) ?_
    rw [h3, m2] at h4 ⊢
    rw [m3 r h1 (by omega)]; exact h4
  · rcases K.2 with q | ⟨r, c, h1, h2, h3, h4, h5⟩
    · exact Or.inl q
    · obtain ⟨m1, m2, m3⟩ := M.1 c h2
      refine Or.inr ⟨r, φ c, h1, m1, by omega, h4, ?_⟩
      rw [h3] at h5 ⊢
      rw [← m3 r h1 h3]; exact h5
theorem MV.dv {A B : Nat → Nat → Int} {R a b : Nat} {φ : Nat → Nat} (M : MV A B R a b φ) {k d : Nat} (D : Dv A R a k d) : Dv B R b k d := by
  refine ⟨fun r c' h1 h2 h3 h4 => ?_, fun x hx => D.2 x fun r c h1 h2 h3 h4 => ?_⟩
  · obtain ⟨c, c1, rfl⟩ := M.2 c' h2
    obtain ⟨m1, m2, m3⟩ := M.1 c c1
    have h4' : pc6 c = k := by omega
    have := m3 r h1 (by omega)
    rw [h4'] at this
    rw [← this]
    exact D.1 r c h1 c1 h3 h4'
  · obtain ⟨m1, m2, m3⟩ := M.1 c h2
    have := m3 r h1 (by omega)
    rw [h4] at this
    rw [this]
    exact hx r (φ c) h1 m1 h3 (by omega)
def phi (F c : Nat) : Nat := if c < 2 ^ F then c else c - 2 ^ F + 16
theorem phi_0 : ∀ F : Fin 5, ∀ c : Fin 64, c.val &&& (2 ^ (F.val + 1) - 1) = c.val → phi F.val c.val &&& (2 ^ F.val - 1 ||| 16) = phi F.val c.val ∧ pc6 (phi F.val c.val) = pc6 c.val ∧ phi F.val c.val < 64 ∧ ∀ t : Fin 6, t.val < pc6 c.val → nt c.val t.val < F.val + 1 ∧ nt (phi F.val c.val) t.val = if nt c.val t.val = F.val then 4 else nt c.val t.val := by decide +kernel
theorem phi_1 : ∀ F : Fin 5, ∀ c : Fin 64, c.val &&& (2 ^ F.val - 1 ||| 16) = c.val → ∃ d : Fin 64, d.val &&& (2 ^ (F.val + 1) - 1) = d.val ∧ phi F.val d.val = c.val := by decide +kernel
theorem phi_a : ∀ F : Fin 5, 2 ^ (F.val + 1) - 1 < 64 ∧ (2 ^ F.val - 1 ||| 16) < 64 ∧ 2 ^ F.val - 1 < 64 := by decide +kernel
theorem mv_c {σ : SG} (W : WF σ) (c : Nat) : MV (entc σ c) (wd2 σ c) (sE σ) (2 ^ (sF σ + 1) - 1) (2 ^ sF σ - 1 ||| 16) (phi (sF σ)) := by
  have hF : sF σ < 5 := by have := W.2.2.1; omega
  have hE : sE σ ≤ 6 := W.2.1
  have b := b_shl hE
  obtain ⟨a1, a2, a3⟩ := phi_a ⟨sF σ, hF⟩
  simp only at a1 a2 a3
  refine ⟨fun m hm => ?_, fun m hm => ?_⟩
  · have m64 : m < 64 := Nat.lt_of_le_of_lt (and_le hm) a1
    obtain ⟨p1, p2, p3, p4⟩ := phi_0 ⟨sF σ, hF⟩ ⟨m, m64⟩ hm
    simp only at p1 p2 p3 p4
    refine ⟨p1, p2, fun r hr hpr => ?_⟩
    rw [mnr_dT _ _ r m (by omega) m64 hpr rfl, mnr_dT _ _ r _ (by omega) p3 hpr p2]
    refine dT_congr _ fun i j hi hj => ?_
    have hp := (pc6_r m64).1
    obtain ⟨t1, t2⟩ := p4 ⟨j, by omega⟩ hj
    simp only at t1 t2
    unfold entc wd2
    rw [t2]
    by_cases q : nt m j = sF σ
    · rw [if_pos q, if_pos q, if_pos rfl]
    · rw [if_neg q, if_neg q, if_neg (by omega)]
  · have m64 : m < 64 := Nat.lt_of_le_of_lt (and_le hm) a2
    obtain ⟨d, d1, d2⟩ := phi_1 ⟨sF σ, hF⟩ ⟨m, m64⟩ hm
    exact ⟨d.val, d1, d2⟩
theorem mv_e {σ : SG} (W : WF σ) (c : Nat) : MV (entc σ c) (ent2 σ) (sE σ) (2 ^ sF σ - 1) (2 ^ sF σ - 1) id := by
  have hF : sF σ < 5 := by have := W.2.2.1; omega
  have hE : sE σ ≤ 6 := W.2.1
  have b := b_shl hE
  obtain ⟨a1, a2, a3⟩ := phi_a ⟨sF σ, hF⟩
  simp only at a1 a2 a3
  refine ⟨fun m hm => ⟨hm, rfl, fun r hr hpr => ?_⟩, fun m hm => ⟨m, hm, rfl⟩⟩
  have m64 : m < 64 := Nat.lt_of_le_of_lt (and_le hm) a3
  have mC : m < 2 ^ sF σ := (sub_mask (C := sF σ) (by omega)).mpr hm
  show mnr (entc σ c) _ r m = mnr (ent2 σ) _ r m
  rw [mnr_dT _ _ r m (by omega) m64 hpr rfl, mnr_dT _ _ r m (by omega) m64 hpr rfl]
  refine dT_congr _ fun i j hi hj => ?_
  have := nt_C (C := sF σ) (by omega) mC hj
  unfold entc
  rw [if_neg (by omega)]
theorem sub_up : ∀ F : Fin 5, ∀ c : Fin 64, c.val &&& (2 ^ F.val - 1) = c.val → c.val &&& (2 ^ (F.val + 1) - 1) = c.val := by decide +kernel
theorem rk_mono {A : Nat → Nat → Int} {R a b : Nat} {p : Int} {y z : Nat} (h : ∀ c, c &&& a = c → c &&& b = c) (K : Rk A R a p y) (L : Rk A R b p z) : y ≤ z := by
  rcases K.2 with q | ⟨r, c, h1, h2, h3, h4, h5⟩
  · omega
  · have := L.1 r c h1 (h c h2) h3 h5; omega
/-- the reference's order -/
def OrdR (σ : SG) (c : Nat) (z : Int) : Prop := ∃ y l : Nat, Rk (ent2 σ) (sE σ) (2 ^ sF σ - 1) 0 y ∧ Rk (wd2 σ c) (sE σ) (2 ^ sF σ - 1 ||| 16) 0 l ∧ (y < l → z = kNONE) ∧ (l ≤ y → ∃ d e : Nat, d ≠ 0 ∧ Dv (wd2 σ c) (sE σ) (2 ^ sF σ - 1 ||| 16) y d ∧ Dv (ent2 σ) (sE σ) (2 ^ sF σ - 1) y e ∧ z = (e : Int).tdiv d)
theorem br_ord {σ : SG} (W : WF σ) {c : Nat} {o z : Int} (h1 : OrdP σ c o) (h2 : OrdR σ c z) : z = if o = 0 then kNONE else o := by
  obtain ⟨k, l, K, L, a1, a2⟩ := h1
  obtain ⟨y, m, Y, M, b1, b2⟩ := h2
  have hF : sF σ < 5 := by have := W.2.2.1; omega
  have hE : sE σ ≤ 6 := W.2.1
  obtain ⟨x1, x2, x3⟩ := phi_a ⟨sF σ, hF⟩
  simp only at x1 x2 x3
  have hs : ∀ c, c &&& (2 ^ sF σ - 1) = c → c &&& (2 ^ (sF σ + 1) - 1) = c := fun m hm => sub_up ⟨sF σ, hF⟩ ⟨m, Nat.lt_of_le_of_lt (and_le hm) x3⟩ hm
  have e1 : y = k := rk_uniq Y ((mv_e W c).rk K)
  have e2 : m = l := rk_uniq M ((mv_c W c).rk L)
  have le := rk_mono hs K L
  subst y m
  by_cases q : l = k
  · subst q
    obtain ⟨d, e, n1, D, E, rfl⟩ := b2 (Nat.le_refl _)
    obtain ⟨d', D', c1, c2⟩ := a2 rfl
    have : d' = d := dv_uniq ((mv_c W c).dv D') D
    subst d'
    obtain ⟨e', E', rfl⟩ := c2 n1
    have : e' = e := dv_uniq ((mv_e W c).dv E') E
    subst e'
    have en : e ≠ 0 := rk_nz hE x3 Y (Nat.le_refl _) E
    have hd : d ∣ e := E'.2 d fun r m' h1 h2 h3 h4 => D'.1 r m' h1 (hs m' h2) h3 h4
    obtain ⟨t, rfl⟩ := hd
    have dn : (d : Int) ≠ 0 := fun q => n1 (Int.ofNat_eq_zero.mp q)
    rw [if_neg]
    intro q
    rw [Int.natCast_mul, Int.mul_tdiv_cancel_left _ dn] at q
    have : t = 0 := Int.ofNat_eq_zero.mp q
    subst t
    exact en rfl
  · rw [a1 q, if_pos rfl]
    exact b1 (by omega)
theorem br_wh1 {σ : SG} (W : WF σ) {c : Nat} {z w : Int} (h1 : ∃ o : Int, OrdP σ c o ∧ z = bi (o = 1)) (h2 : ∃ o : Int, OrdR σ c o ∧ w = bi (o = 1)) : z = w := by
  obtain ⟨o, O, rfl⟩ := h1
  obtain ⟨p, P, rfl⟩ := h2
  have e := br_ord W O P
  by_cases q : o = 0
  · rw [if_pos q] at e
    subst q e
    rw [show bi ((0 : Int) = 1) = 0 from if_neg (by decide), show bi (kNONE = 1) = 0 from if_neg (by decide)]
  · rw [if_neg q] at e
    rw [e]
theorem br_wh2 {σ : SG} (W : WF σ) {c : Nat} {z w : Int} (h1 : ∃ o : Int, OrdP σ c o ∧ z = if o = 0 then kNONE else o) (h2 : OrdR σ c w) : z = w := by
  obtain ⟨o, O, rfl⟩ := h1
  rw [br_ord W O h2]
/-- rank, by rows for columns -/
theorem rk_tr {A : Nat → Nat → Int} {R C : Nat} (hR : R ≤ 6) (hC : C ≤ 6) {p : Int} {y : Nat} (K : Rk A R (2 ^ C - 1) p y) : Rk (fun i j => A j i) C (2 ^ R - 1) p y := by
  have b1 := b_shl hR
  have b2 := b_shl hC
  refine ⟨fun r c h1 h2 h3 h4 => ?_, ?_⟩
  · have h2' := (sub_mask hR).mpr h2
    rw [h3]
    refine K.1 c r h2' ((sub_mask hC).mp h1) h3.symm ?_
    rw [mnr_tr A (r := c) (c := r) (by omega) (by omega) h3.symm rfl] at h4
    rw [← h3]; exact h4
  · rcases K.2 with q | ⟨r, c, h1, h2, h3, h4, h5⟩
    · exact Or.inl q
    · have h2' := (sub_mask hC).mpr h2
      refine Or.inr ⟨c, r, h2', (sub_mask hR).mp h1, h3.symm, by omega, ?_⟩
      rw [mnr_tr A (r := r) (c := c) (by omega) (by omega) h3 rfl]
      rw [← h3]; exact h5
/-- the same kernels, the same rank -/
theorem rk_ker {A B : Nat → Nat → Int} {R S a : Nat} (hR : R ≤ 6) (hS : S ≤ 6) (ha : a < 64) {p : Int} (hp : PR p) (h : ∀ c, c &&& a = c → (indc p A R (pc6 c) (nt c) ↔ indc p B S (pc6 c) (nt c))) {y : Nat} (K : Rk A R a p y) : Rk B S a p y := by
  refine rk_of hp hS ha ?_ fun c h1 h2 h3 => ?_
  · rcases K.2 with q | ⟨r, c, h1, h2, h3, h4, h5⟩
    · exact ⟨0, by simp, by rw [q]; rfl, fun x _ t ht => by omega⟩
    · have c64 : c < 64 := Nat.lt_of_le_of_lt (and_le h2) ha
      refine ⟨c, h2, by omega, ?_⟩
      rw [show y = pc6 c by omega]
      refine (h c h2).mp ?_
      rw [h3] at h5
      exact kr1 hp hR h1 c64 h3 rfl (nzp_dvd.mp h5)
  · have c64 : c < 64 := Nat.lt_of_le_of_lt (and_le h1) ha
    obtain ⟨r, r1, r2, r3⟩ := kr2m hp hR c64 ((h c h1).mpr h3)
    have := K.1 r c r1 h1 r2 (nzp_dvd.mpr (by rw [r2]; exact r3))
    omega
/-- a square sum that is 0 -/
theorem sq_zero {M : Nat} {w v : Nat → Int} (hw : ∀ e, e < M → 0 < w e) (h : sI M (fun e => w e * (v e * v e)) = 0) : ∀ e, e < M → v e = 0 := by
  induction M with
  | zero => intro e he; omega
  | succ M ih =>
    rw [sI_s] at h
    have p1 : 0 ≤ sI M (fun e => w e * (v e * v e)) := by
      have := sI_mono (n := M) (f := fun _ => 0) (g := fun e => w e * (v e * v e)) (fun k hk => Int.mul_nonneg (by have := hw k (by omega); omega) (sq_nn _))
      rw [sI_zero M (fun k _ => rfl)] at this
      exact this
    have p2 : 0 ≤ w M * (v M * v M) := Int.mul_nonneg (by have := hw M (by omega); omega) (sq_nn _)
    have q1 : sI M (fun e => w e * (v e * v e)) = 0 := by omega
    have q2 : w M * (v M * v M) = 0 := by omega
    have i1 := ih (fun e he => hw e (by omega)) q1
    intro e he
    by_cases q : e = M
    · subst q
      rcases Int.mul_eq_zero.mp q2 with r | r
      · have := hw e (by omega); omega
      · rcases Int.mul_eq_zero.mp r with r | r <;> exact r
    · exact i1 e (by omega)
theorem sI_one {n t : Nat} (ht : t < n) (f : Nat → Int) (h : ∀ k, k < n → k ≠ t → f k = 0) : sI n f = f t := sI_dl ht f h
/-- a matrix of products by weights has its factor's kernel -/
theorem gram_ind {N A : Nat → Nat → Int} {C M : Nat} {w : Nat → Int} (hw : ∀ e, e < M → 0 < w e) (hN : ∀ i j, i < C → j < C → N i j = sI M (fun e => w e * (A e i * A e j))) {n : Nat} {q : Nat → Nat} (hq : ∀ t, t < n → q t < C) : indc 0 A M n q ↔ indc 0 N C n q := by
  have key : ∀ x : Nat → Int, (∀ e, e < M → (0 : Int) ∣ sI n (fun t => A e (q t) * x t)) ↔ (∀ i, i < C → (0 : Int) ∣ sI n (fun t => N i (q t) * x t)) := by
    intro x
    have ex : ∀ i, i < C → sI n (fun t => N i (q t) * x t) = sI M (fun e => w e * A e i * sI n (fun t => A e (q t) * x t)) := by
      intro i hi
      rw [sI_congr (g := fun t => sI M (fun e => w e * A e i * (A e (q t) * x t))) (fun t ht => by
        rw [hN i (q t) hi (hq t ht), ← sI_mulr]
        exact sI_congr fun e _ => by ac_rfl)]
      rw [sI_comm]
      exact sI_congr fun e _ => by rw [sI_mul]
    constructor
    · intro h i hi
      rw [ex i hi, sI_zero M (fun e he => by rw [Int.zero_dvd.mp (h e he), Int.mul_zero])]
      exact Int.dvd_refl 0
    · intro h e he
      rw [Int.zero_dvd]
      refine sq_zero (v := fun e => sI n (fun t => A e (q t) * x t)) hw ?_ e he
      have e1 : sI n (fun s => x s * sI n (fun t => N (q s) (q t) * x t)) = 0 := sI_zero n fun s hs => by rw [Int.zero_dvd.mp (h (q s) (hq s hs)), Int.mul_zero]
      rw [← e1, sI_congr (f := fun s => x s * sI n (fun t => N (q s) (q t) * x t)) (g := fun s => sI M (fun e => w e * sI n (fun t => A e (q t) * x t) * (A e (q s) * x s))) (fun s hs => by
        rw [ex (q s) (hq s hs), ← sI_mul]
        exact sI_congr fun e _ => by ac_rfl)]
      rw [sI_comm]
      exact sI_congr fun e _ => by rw [sI_mul, Int.mul_assoc]
  exact ⟨fun h x hx => h x ((key x).mpr hx), fun h x hx => h x ((key x).mp hx)⟩
theorem rk_gram {N A : Nat → Nat → Int} {C M : Nat} {w : Nat → Int} (hC : C ≤ 6) (hM : M ≤ 6) (hw : ∀ e, e < M → 0 < w e) (hN : ∀ i j, i < C → j < C → N i j = sI M (fun e => w e * (A e i * A e j))) {y : Nat} (K : Rk A M (2 ^ C - 1) 0 y) : Rk N C (2 ^ C - 1) 0 y := by
  have b := b_shl hC
  refine rk_ker hM hC (by omega) pr0 (fun c hc => gram_ind hw hN fun t ht => ?_) K
  exact nt_C hC ((sub_mask hC).mpr hc) ht
theorem br_n0 {σ : SG} (W : WF σ) {y : Nat} (K : Rk (ent1 σ) (sP σ) (2 ^ sE σ - 1) 0 y) : Rk (near0 σ) (sP σ) (2 ^ sP σ - 1) 0 y := by
  have hP : sP σ ≤ 6 := by have := W.1; omega
  refine rk_gram (A := fun i j => ent1 σ j i) (w := fun e => (sew σ e : Int)) hP W.2.1 (fun e he => by have := W.2.2.2.1 e he; omega) (fun i j _ _ => ?_) (rk_tr hP W.2.1 K)
  unfold near0
  exact sI_congr fun e _ => by unfold nr0; ac_rfl
theorem br_n1 {σ : SG} (W : WF σ) {y : Nat} (K : Rk (ent1 σ) (sP σ) (2 ^ sE σ - 1) 0 y) : Rk (near1 σ) (sE σ) (2 ^ sE σ - 1) 0 y := by
  have hP : sP σ ≤ 6 := by have := W.1; omega
  refine rk_gram (A := ent1 σ) (w := fun _ => 1) W.2.1 hP (fun e he => by decide) (fun i j _ _ => ?_) K
  unfold near1
  exact sI_congr fun e _ => by unfold nr1; rw [Int.one_mul]
theorem br_n2 {σ : SG} (W : WF σ) {y : Nat} (K : Rk (ent2 σ) (sE σ) (2 ^ sF σ - 1) 0 y) : Rk (near2 σ) (sE σ) (2 ^ sE σ - 1) 0 y := by
  have hF : sF σ ≤ 6 := by have := W.2.2.1; omega
  refine rk_gram (A := fun i j => ent2 σ j i) (w := fun f => (sfw σ f : Int)) W.2.1 hF (fun f hf => by have := (W.2.2.2.2.1 f hf).1; omega) (fun i j _ _ => ?_) (rk_tr W.2.1 hF K)
  unfold near2
  exact sI_congr fun e _ => by unfold nr2; ac_rfl

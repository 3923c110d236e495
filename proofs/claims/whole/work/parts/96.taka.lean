/-! SHARE's fraction; TAKE's bounds. -/
theorem cop_of {a b x y : Int} (h : Int.gcd a b = 1) (hx : x ∣ a) (hy : y ∣ b) : Nat.Coprime x.natAbs y.natAbs := by
  have h1 : Nat.gcd x.natAbs y.natAbs ∣ Nat.gcd a.natAbs b.natAbs := Nat.dvd_gcd (Nat.dvd_trans (Nat.gcd_dvd_left _ _) (Int.natAbs_dvd_natAbs.mpr hx)) (Nat.dvd_trans (Nat.gcd_dvd_right _ _) (Int.natAbs_dvd_natAbs.mpr hy))
  have h2 : Nat.gcd a.natAbs b.natAbs = 1 := h
  rw [h2] at h1
  exact Nat.dvd_one.mp h1
theorem cop_mul {a b c : Nat} (h1 : Nat.gcd a b = 1) (h2 : Nat.gcd a c = 1) : Nat.gcd a (b * c) = 1 := by
  have hd : Nat.gcd a (b * c) ∣ a := Nat.gcd_dvd_left _ _
  have hb : Nat.Coprime (Nat.gcd a (b * c)) b := by
    have : Nat.gcd (Nat.gcd a (b * c)) b ∣ Nat.gcd a b := Nat.dvd_gcd (Nat.dvd_trans (Nat.gcd_dvd_left _ _) hd) (Nat.gcd_dvd_right _ _)
    rw [h1] at this
    exact Nat.dvd_one.mp this
  have hc : Nat.gcd a (b * c) ∣ c := Nat.Coprime.dvd_of_dvd_mul_left hb (Nat.gcd_dvd_right _ _)
  have : Nat.gcd a (b * c) ∣ Nat.gcd a c := Nat.dvd_gcd hd hc
  rw [h2] at this
  exact Nat.dvd_one.mp this
theorem gq {a b : Int} (hb : b ≠ 0) : Int.gcd (a.tdiv (Int.gcd a b)) (b.tdiv (Int.gcd a b)) = 1 ∧ a = (Int.gcd a b : Int) * a.tdiv (Int.gcd a b) ∧ b = (Int.gcd a b : Int) * b.tdiv (Int.gcd a b) ∧ 0 < Int.gcd a b := by
  have g0 := (gcd_b (a := a) hb).1
  have e1 := tdv (a := a) (g := (Int.gcd a b : Int)) (by omega) (Int.gcd_dvd_left ..)
  have e2 := tdv (a := b) (g := (Int.gcd a b : Int)) (by omega) (Int.gcd_dvd_right ..)
  refine ⟨?_, e1, e2, g0⟩
  have : Int.gcd ((Int.gcd a b : Int) * a.tdiv (Int.gcd a b)) ((Int.gcd a b : Int) * b.tdiv (Int.gcd a b)) = (Int.gcd a b) * Int.gcd (a.tdiv (Int.gcd a b)) (b.tdiv (Int.gcd a b)) := by rw [Int.gcd_mul_left]; rfl
  rw [← e1, ← e2] at this
  have h2 : Int.gcd a b * 1 = Int.gcd a b * Int.gcd (a.tdiv (Int.gcd a b)) (b.tdiv (Int.gcd a b)) := by rw [Nat.mul_one]; exact this
  exact (Nat.eq_of_mul_eq_mul_left g0 h2).symm
/-- one fraction by another -/
theorem sh_lw {T D C lA lB a b : Int} (h : LW T (6 * D) lA lB) (k : LW C 6 b a) (hC : 0 < C) :
    LW T (D * C) (lA.tdiv (Int.gcd lA b) * a.tdiv (Int.gcd a lB)) (b.tdiv (Int.gcd lA b) * lB.tdiv (Int.gcd a lB)) ∧ 0 < b ∧ 0 < Int.gcd lA b ∧ 0 < Int.gcd a lB := by
  have a0 := k.1
  have lB0 := h.1
  have k3 := k.2.2
  have h3 := h.2.2
  have b0 : 0 < b := by
    rcases Int.lt_or_le 0 b with z | z
    · exact z
    · have := Int.mul_pos hC a0; omega
  obtain ⟨g1, e1, e2, p1⟩ := gq (a := lA) (b := b) (by omega)
  obtain ⟨g2, e3, e4, p2⟩ := gq (a := a) (b := lB) (by omega)
  obtain ⟨G, hG⟩ : ∃ G : Nat, G = Int.gcd lA b := ⟨_, rfl⟩
  obtain ⟨H, hH⟩ : ∃ H : Nat, H = Int.gcd a lB := ⟨_, rfl⟩
  rw [← hG] at g1 e1 e2 p1 ⊢
  rw [← hH] at g2 e3 e4 p2 ⊢
  obtain ⟨u, hu⟩ : ∃ u, u = lA.tdiv G := ⟨_, rfl⟩
  obtain ⟨v, hv⟩ : ∃ v, v = b.tdiv G := ⟨_, rfl⟩
  obtain ⟨s, hs⟩ : ∃ s, s = a.tdiv H := ⟨_, rfl⟩
  obtain ⟨t, ht⟩ : ∃ t, t = lB.tdiv H := ⟨_, rfl⟩
  rw [← hu] at g1 e1 ⊢
  rw [← hv] at g1 e2 ⊢
  rw [← hs] at g2 e3 ⊢
  rw [← ht] at g2 e4 ⊢
  have pos : ∀ {g : Nat} {x y : Int}, 0 < g → 0 < x → x = (g : Int) * y → 0 < y := by
    intro g x y hg hx e
    rcases Int.lt_or_le 0 y with z | z
    · exact z
    · have := Int.mul_le_mul_of_nonneg_left z (show (0 : Int) ≤ (g : Int) by omega)
      rw [Int.mul_zero] at this; omega
  have v0 := pos p1 b0 e2
  have t0 := pos p2 lB0 e4
  refine ⟨⟨Int.mul_pos v0 t0, ?_, ?_⟩, b0, p1, p2⟩
  · show Nat.gcd (u * s).natAbs (v * t).natAbs = 1
    rw [Int.natAbs_mul, Int.natAbs_mul]
    have c1 : Nat.gcd u.natAbs v.natAbs = 1 := g1
    have c2 : Nat.gcd u.natAbs t.natAbs = 1 := cop_of h.2.1 ⟨G, by rw [Int.mul_comm]; exact e1⟩ ⟨H, by rw [Int.mul_comm]; exact e4⟩
    have c3 : Nat.gcd v.natAbs s.natAbs = 1 := cop_of k.2.1 ⟨G, by rw [Int.mul_comm]; exact e2⟩ ⟨H, by rw [Int.mul_comm]; exact e3⟩
    have c4 : Nat.gcd s.natAbs t.natAbs = 1 := g2
    have d1 : Nat.gcd u.natAbs (v.natAbs * t.natAbs) = 1 := cop_mul c1 c2
    have d2 : Nat.gcd s.natAbs (v.natAbs * t.natAbs) = 1 := cop_mul (by rw [Nat.gcd_comm]; exact c3) c4
    rw [Nat.gcd_comm]
    exact cop_mul (by rw [Nat.gcd_comm]; exact d1) (by rw [Nat.gcd_comm]; exact d2)
  · have gh : (G : Int) * (H : Int) ≠ 0 := Int.mul_ne_zero (by omega) (by omega)
    have key : (G : Int) * (H : Int) * (u * s * (D * C)) = (G : Int) * (H : Int) * (T * (v * t)) := by
      have x1 : (G : Int) * (H : Int) * (u * s * (D * C)) = ((G : Int) * u) * ((H : Int) * s) * (D * C) := by grind
      have x2 : (G : Int) * (H : Int) * (T * (v * t)) = T * ((G : Int) * v) * ((H : Int) * t) := by grind
      rw [x1, x2, ← e1, ← e2, ← e3, ← e4]
      have x3 : lA * a * (D * C) = lA * D * (C * a) := by grind
      rw [x3, ← k3, show lA * D * (b * 6) = lA * (6 * D) * b by grind, h3]; grind
    exact Int.eq_of_mul_eq_mul_left gh key
theorem cc_nz {σ : SG} (W : WF σ) {c : Nat} (h : nnz σ c ≠ 0) : 0 < ipw (sE σ) (msr σ) (sch σ c) (sch σ c) := by
  have nn := ip_nn (E := sE σ) (m := msr σ) (x := sch σ c) (msr_p W)
  refine Classical.byContradiction fun q => h ?_
  have z := ip_pos (msr_p W) (show ipw (sE σ) (msr σ) (sch σ c) (sch σ c) = 0 by omega)
  unfold nnz
  exact sI_zero (sE σ) fun e he => by unfold nz; rw [if_pos (z e he)]
theorem ms3_lw {σ : SG} {c : Nat} {D : Int} {y : Nat → Int} {P Q : Int} (hV : PartV σ c 3 D y) (hL : LW (ipw (sE σ) (msr σ) y (sch σ c)) (6 * D) P Q) : LW (ipw (sE σ) (msr σ) (sch σ c) (sch σ c)) 6 P Q := by
  obtain ⟨hd, hy⟩ := pv3.mp hV
  rw [hd, ip_congr hy (fun _ _ => rfl)] at hL
  exact hL
/-- the class's comparison of a positive number's float with 0 -/
theorem fcmp_pos {y : Int} (hy : R64 y) (h0 : 0 < y) : FP.fcmp (FP.l2f (lI y)) FP.fconst0 = some .gt := by
  obtain ⟨c, q, h1, h2⟩ := l2f_fin hy
  have c0 := h2 (by omega)
  rw [show decide (y < 0) = false by simp; omega] at h1
  show Jvm.FP.Core.order (Jvm.FP.Core.val32 (FP.l2f (lI y))) (Jvm.FP.Core.val32 FP.fconst0) = some .gt
  rw [h1, show Jvm.FP.Core.val32 FP.fconst0 = .fin false 0 Jvm.FP.Core.b32.qmin from Jvm.FP.Core.val32_fconst0]
  unfold Jvm.FP.Core.order
  simp only [Jvm.FP.Core.signed, Jvm.FP.Core.inUnits, Nat.zero_mul]
  have p : 0 < c * 2 ^ (q - min q Jvm.FP.Core.b32.qmin).toNat := Nat.mul_pos (by omega) (Nat.two_pow_pos _)
  congr 1
  simp only [Bool.false_eq_true, if_false]
  have : (0 : Int) < ((c * 2 ^ (q - min q Jvm.FP.Core.b32.qmin).toNat : Nat) : Int) := by omega
  exact Int.compare_eq_gt.mpr this
/-- TAKE -/
theorem cnS_le : ∀ (n : Nat) (S : Nat → Bool), cnS n S ≤ n
  | 0, _ => Nat.le_refl _
  | n + 1, S => by
    have := cnS_le n (fun j => S (j + 1))
    show (if S 0 = true then 1 else 0) + cnS n (fun j => S (j + 1)) ≤ n + 1
    split <;> omega
theorem one_le {n a : Nat} (ha : a < n) {f : Nat → Int} {B : Int} (h : sI n (fun i => ((f i).natAbs : Int)) ≤ B) : ((f a).natAbs : Int) ≤ B := by
  refine Int.le_trans ?_ h
  rw [← sI_delta ha (fun i => ((f i).natAbs : Int))]
  exact sI_mono fun k _ => by split <;> omega
theorem hg_F {σ : SG} (W : WF σ) {c : Nat} (hc : c < 3) : ∀ a s, a < sF σ → s ≤ sF σ → R64 (GMF σ c a s) := fun a s ha hs => by
  have := one_le (f := fun i => GMF σ c i s) ha (colF3 W hc hs)
  omega
theorem hg_D {σ : SG} (W : WF σ) {c : Nat} (hc : c < 3) : ∀ a s, a < sP σ → s ≤ sP σ → R64 (GMD σ c a s) := fun a s ha hs => by
  have := one_le (f := fun i => GMD σ c i s) ha (colD3 W hc hs)
  omega
theorem hd_F {σ : SG} (W : WF σ) (c : Nat) : ∀ S, (dT (sF σ) (KS S (GMF σ c))).natAbs ≤ 384 ^ cnS (sF σ) S := fun S => ds_b fun j hj => colF1 W c hj
theorem hd_D {σ : SG} (W : WF σ) (c : Nat) : ∀ S, (dT (sP σ) (KS S (GMD σ c))).natAbs ≤ 216 ^ cnS (sP σ) S := fun S => ds_b fun j hj => colD1 W c hj
theorem pw_pr0 : ∀ a : Fin 5, ∀ b : Fin 6, a.val + b.val ≤ 6 → 384 ^ a.val * 216 ^ b.val ≤ 2 ^ 50 := by decide +kernel
theorem pw_pr {a b : Nat} (ha : a ≤ 4) (hb : b ≤ 5) (h : a + b ≤ 6) : 384 ^ a * 216 ^ b ≤ 2 ^ 50 := pw_pr0 ⟨a, by omega⟩ ⟨b, by omega⟩ h
theorem hd_F63 {σ : SG} (W : WF σ) (c : Nat) : ∀ S, (dT (sF σ) (KS S (GMF σ c))).natAbs < 2 ^ 63 := fun S => by
  have h1 := hd_F W c S
  have h2 := cnS_le (sF σ) S
  have w3 := W.2.2.1
  have h3 := pw_pr (a := cnS (sF σ) S) (b := 0) (by omega) (by decide) (by omega)
  rw [Nat.pow_zero, Nat.mul_one] at h3
  omega
theorem hd_D63 {σ : SG} (W : WF σ) (c : Nat) : ∀ S, (dT (sP σ) (KS S (GMD σ c))).natAbs < 2 ^ 63 := fun S => by
  have h1 := hd_D W c S
  have h2 := cnS_le (sP σ) S
  have w1 := W.1
  have h3 := pw_pr (a := 0) (b := cnS (sP σ) S) (by decide) (by omega) (by omega)
  rw [Nat.pow_zero, Nat.one_mul] at h3
  omega
/-- a part taken -/
def TKh (σ : SG) (c p : Nat) (h h' : HH) : Prop := (∀ k, k < 18 ∨ 35 ≤ k → h' k = h k) ∧ h' 18 2 = sE σ ∧ (∀ e, e < sE σ → h' 20 e = sch σ c e ∧ h' 21 e = msr σ e) ∧ ∃ (D : Int) (y : Nat → Int), PartV σ c p D y ∧ 0 < D ∧ D.natAbs ≤ 2 ^ 50 ∧ h' 18 1 = D ∧ ∀ e, e < sE σ → h' 19 e = y e
/-- the chain and the measure stand -/
def MC (h : HH) (σ : SG) (c : Nat) : Prop := h 18 2 = sE σ ∧ ∀ e, e < sE σ → h 20 e = sch σ c e ∧ h 21 e = msr σ e
theorem MC.ld {h h1 : HH} {σ : SG} {c n : Nat} {v : Nat → Nat → Int} (M : MC h σ c) (L : LRy h h1 n (sE σ) n 0 v) : LD h1 n (sE σ) (msr σ) v (sch σ c) :=
  ⟨by rw [L.2.1 2 (by decide)]; exact M.1, L.2.2.1, fun e he => by rw [L.1 21 (by decide) (by decide), L.1 20 (by decide) (by decide)]; exact ⟨(M.2 e he).2, (M.2 e he).1⟩, fun r e hr he => L.2.2.2.1 r e hr he⟩
theorem MC.fr {h h1 : HH} {σ : SG} {c : Nat} (M : MC h σ c) (h0 : h1 18 2 = h 18 2) (h2 : h1 20 = h 20) (h3 : h1 21 = h 21) : MC h1 σ c :=
  ⟨by rw [h0]; exact M.1, fun e he => by rw [h2, h3]; exact M.2 e he⟩
theorem MC.ry {h h1 : HH} {σ : SG} {c n : Nat} {v : Nat → Nat → Int} (M : MC h σ c) (L : LRy h h1 n (sE σ) n 0 v) : MC h1 σ c := M.fr (L.2.1 2 (by decide)) (L.1 20 (by decide) (by decide)) (L.1 21 (by decide) (by decide))
theorem MC.cs {h h1 : HH} {σ : SG} {c n E : Nat} {m c' : Nat → Int} {v : Nat → Nat → Int} (M : MC h σ c) (L : CST h h1 E n m v c') : MC h1 σ c := M.fr (L.1.2 2 (by decide)) (L.1.1 20 (by decide) (by decide)) (L.1.1 21 (by decide) (by decide))
/-- the frame of Split's work -/
def GS (h h' : HH) : Prop := ∀ k, k < 18 ∨ 35 ≤ k → h' k = h k
theorem GS.tr {a b c : HH} (h1 : GS a b) (h2 : GS b c) : GS a c := fun k hk => (h2 k hk).trans (h1 k hk)
theorem LCh.gs {h h1 : HH} {σ : SG} {c i : Nat} (L : LCh h h1 σ c i) : GS h h1 := fun k hk => L.1 k (by omega) (by omega)
theorem LRy.gs {h h1 : HH} {n E i j : Nat} {v : Nat → Nat → Int} (L : LRy h h1 n E i j v) : GS h h1 := fun k hk => L.1 k (by omega) (by omega)
theorem CST.gs {h h1 : HH} {n E : Nat} {m c : Nat → Int} {v : Nat → Nat → Int} (L : CST h h1 E n m v c) : GS h h1 := fun k hk => L.1.1 k (by omega) (by omega)
theorem GS.rc {h h' : HH} (F : GS h h') {σ : SG} (C : RC (h 2) σ) : RC (h' 2) σ := by rw [F 2 (Or.inl (by decide))]; exact C
/-- the first i of the part are the shadow -/
theorem cpf (h : HH) (i : Nat) (hi : i < 6) : up (setc h 19 (shf (h 19) (h 34) i)) 19 (i : Int).toNat (h 34 i) = setc h 19 (shf (h 19) (h 34) (i + 1)) := by
  rw [up_s (i := i) rfl, shf_s _ _ _ rfl]
/-- a shadow as a part -/
theorem cst_0 {σ : SG} (W : WF σ) {c : Nat} {h h1 : HH} (L : CST h h1 (sE σ) (sF σ) (msr σ) (ryF σ) (sch σ c)) : ∃ (S : Nat → Bool) (d : Int) (y : Nat → Int), 0 < d ∧ dT (sF σ) (KS S (GMF σ c)) ≠ 0 ∧ d.natAbs ≤ 384 ^ cnS (sF σ) S ∧ PartV σ c 0 d y ∧ h1 18 9 = d ∧ ∀ e, e < sE σ → h1 34 e = y e := by
  obtain ⟨-, S, d, y, a1, a2, a3, a4, a5, a6⟩ := L
  exact ⟨S, d, y, a1, a2, Nat.le_trans a3 (hd_F W c S), a4, a5, a6⟩
theorem cst_1 {σ : SG} (W : WF σ) {c : Nat} {h h1 : HH} (L : CST h h1 (sE σ) (sP σ) (msr σ) (ryD σ) (sch σ c)) : ∃ (S : Nat → Bool) (d : Int) (y : Nat → Int), 0 < d ∧ dT (sP σ) (KS S (GMD σ c)) ≠ 0 ∧ d.natAbs ≤ 216 ^ cnS (sP σ) S ∧ PartV σ c 1 d y ∧ h1 18 9 = d ∧ ∀ e, e < sE σ → h1 34 e = y e := by
  obtain ⟨-, S, d, y, a1, a2, a3, a4, a5, a6⟩ := L
  exact ⟨S, d, y, a1, a2, Nat.le_trans a3 (hd_D W c S), a4, a5, a6⟩
theorem pw_F {σ : SG} (W : WF σ) (S : Nat → Bool) : 384 ^ cnS (sF σ) S ≤ 2 ^ 50 := by
  have h2 := cnS_le (sF σ) S
  have w3 := W.2.2.1
  have h3 := pw_pr (a := cnS (sF σ) S) (b := 0) (by omega) (by decide) (by omega)
  rw [Nat.pow_zero, Nat.mul_one] at h3
  exact h3
theorem pw_D {σ : SG} (W : WF σ) (S : Nat → Bool) : 216 ^ cnS (sP σ) S ≤ 2 ^ 50 := by
  have h2 := cnS_le (sP σ) S
  have w1 := W.1
  have h3 := pw_pr (a := 0) (b := cnS (sP σ) S) (by decide) (by omega) (by omega)
  rw [Nat.pow_zero, Nat.one_mul] at h3
  exact h3
theorem pw_F40 {σ : SG} (W : WF σ) (S : Nat → Bool) : 384 ^ cnS (sF σ) S ≤ 2 ^ 40 := by
  have h2 := cnS_le (sF σ) S
  have w3 := W.2.2.1
  exact Nat.le_trans (Nat.pow_le_pow_right (by decide) (show cnS (sF σ) S ≤ 4 by omega)) (by decide)
theorem nnz_r (σ : SG) (c : Nat) (w2 : sE σ ≤ 6) : 0 ≤ nnz σ c ∧ nnz σ c ≤ 6 := by
  have h := sI_b (f := nz σ c) (B := 1) (sE σ) (fun k _ => by unfold nz; split <;> omega)
  have h2 := sI_mono (n := sE σ) (f := fun _ => 0) (g := nz σ c) (fun k _ => by unfold nz; split <;> omega)
  rw [sI_const] at h2
  unfold nnz
  omega

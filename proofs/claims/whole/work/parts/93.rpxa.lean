/-! THE REFERENCE: a part laid, a part measured. -/
theorem rank_sum0 {σ : SG} (W : WF σ) {I J : Nat} (hI : IND (sE σ) (sF σ) (ryF σ) (sF σ) I) (hJ : IND (sE σ) (sP σ) (ryD σ) (sP σ) J) : pc6 I + pc6 J ≤ sE σ := by
  have w1 := W.1
  have w2 := W.2.1
  have w3 := W.2.2.1
  refine Classical.byContradiction fun hn => ?_
  obtain ⟨x, ⟨t0, t1, t2⟩, hx⟩ := kr2 pr0 w2 (fun e t => if t < pc6 I then ryF σ (nt I t) e else ryD σ (nt J (t - pc6 I)) e) (pc6 I + pc6 J) (fun r r1 r2 => by have := pcR w2 r1; omega)
  obtain ⟨uF, hF⟩ : ∃ u : Nat → Int, u = fun e => sI (pc6 I) (fun t => x t * ryF σ (nt I t) e) := ⟨_, rfl⟩
  obtain ⟨uD, hD⟩ : ∃ u : Nat → Int, u = fun e => sI (pc6 J) (fun t => x (pc6 I + t) * ryD σ (nt J t) e) := ⟨_, rfl⟩
  have tot : ∀ e, e < sE σ → uF e + uD e = 0 := by
    intro e he
    have := Int.zero_dvd.mp (hx e he)
    rw [sI_split] at this
    rw [hF, hD, ← this]
    congr 1
    · exact sI_congr fun t ht => by rw [if_pos ht]; exact Int.mul_comm _ _
    · exact sI_congr fun t ht => by rw [if_neg (by omega), Nat.add_sub_cancel_left]; exact Int.mul_comm _ _
  have o : ipw (sE σ) (msr σ) uF uD = 0 := by
    rw [hF, ip_suml (sE σ) (pc6 I) (msr σ) x uD (fun t => ryF σ (nt I t))]
    refine sI_zero _ fun t ht => ?_
    rw [ip_comm, hD, ip_suml (sE σ) (pc6 J) (msr σ) (fun t => x (pc6 I + t)) (ryF σ (nt I t)) (fun t => ryD σ (nt J t)), sI_zero _ (fun s hs => by rw [ip_comm, perp W (nt_C (by omega) hI.1 ht), Int.mul_zero]), Int.mul_zero]
  have sq : ipw (sE σ) (msr σ) uF uF = 0 := by
    have e1 : ipw (sE σ) (msr σ) uF uF = ipw (sE σ) (msr σ) uF (fun e => (-1) * uD e + 0 * uD e) := ip_congr (fun _ _ => rfl) (fun e he => by have := tot e he; omega)
    rw [e1, ip_lin2, o]; rfl
  have z1 := ip_pos (msr_p W) sq
  have xF : ∀ t, t < pc6 I → x t = 0 := fun t ht => Int.zero_dvd.mp (hI.2.1 x (fun e he => by
    have := z1 e he
    rw [hF] at this
    simp only at this
    rw [show sI (pc6 I) (fun t => (fun e j => ryF σ j e) e (nt I t) * x t) = 0 by rw [← this]; exact sI_congr fun t _ => Int.mul_comm _ _]
    exact Int.dvd_refl 0) t ht)
  have xD : ∀ t, t < pc6 J → x (pc6 I + t) = 0 := fun t ht => Int.zero_dvd.mp (hJ.2.1 (fun t => x (pc6 I + t)) (fun e he => by
    have h1 := tot e he
    rw [z1 e he, hD] at h1
    simp only at h1
    rw [show sI (pc6 J) (fun t => (fun e j => ryD σ j e) e (nt J t) * x (pc6 I + t)) = 0 by rw [sI_congr (g := fun t => x (pc6 I + t) * ryD σ (nt J t) e) (fun t _ => Int.mul_comm _ _)]; omega]
    exact Int.dvd_refl 0) t ht)
  rcases (show t0 < pc6 I ∨ pc6 I ≤ t0 by omega) with e | e
  · exact t2 (by rw [xF t0 e]; exact Int.dvd_refl 0)
  · have := xD (t0 - pc6 I) (by omega)
    rw [show pc6 I + (t0 - pc6 I) = t0 by omega] at this
    exact t2 (by rw [this]; exact Int.dvd_refl 0)
theorem fcb_pr0 : ∀ a : Fin 5, ∀ b : Fin 6, a.val + b.val ≤ 6 → fcb a.val 96 * fcb b.val 18 ≤ 2 ^ 41 := by decide +kernel
theorem fcb_pr {a b : Nat} (ha : a ≤ 4) (hb : b ≤ 5) (h : a + b ≤ 6) : fcb a 96 * fcb b 18 ≤ 2 ^ 41 := fcb_pr0 ⟨a, by omega⟩ ⟨b, by omega⟩ h
/-- the frame of the reference's parts -/
def RFm (h h' : HH) : Prop := (∀ k, k < 54 → k ≠ 47 → h' k = h k) ∧ ∀ q, q ≠ 17 → q ≠ 22 → q ≠ 23 → h' 47 q = h 47 q
theorem RFm.tr {a b c : HH} (F : RFm a b) (G : RFm b c) : RFm a c := ⟨fun k k1 k2 => by rw [G.1 k k1 k2, F.1 k k1 k2], fun q q1 q2 q3 => by rw [G.2 q q1 q2 q3, F.2 q q1 q2 q3]⟩
theorem RFm.rm {h h' : HH} (F : RFm h h') {σ : SG} (R : RM (h 48) σ) : RM (h' 48) σ := by rw [F.1 48 (by decide) (by decide)]; exact R
theorem F54.rf {h h' : HH} (F : F54 h h') : RFm h h' := ⟨fun k k1 _ => F.k (by omega), fun q _ _ _ => by rw [F.k (by decide)]⟩
/-- a part as the reference lays it -/
def PRh (σ : SG) (c part : Nat) (h h' : HH) : Prop := ∃ (D : Int) (y : Nat → Int), PartV σ c part D y ∧ D.natAbs ≤ 2 ^ 41 ∧ RFm h h' ∧ ∀ e, e < sE σ → LW (y e) D (h' 56 e) (h' 57 e)
theorem SPN.pr0 {σ : SG} (W : WF σ) {c : Nat} {h h' : HH} (S : SPN σ 2 c h h') : PRh σ c 0 h h' := by
  obtain ⟨I, D, y, i, p, b, s⟩ := S
  have w3 := W.2.2.1
  refine ⟨D, y, p, ?_, ⟨fun k k1 k2 => s.1 k (Or.inl k1) k2, fun q q1 _ _ => s.2.1 q q1⟩, s.2.2⟩
  have h4 := ind_F4 W i.1
  have := fcb_pr h4 (show 0 ≤ 5 by decide) (by omega)
  have b : D.natAbs ≤ fcb (pc6 I) 96 := b
  have e0 : fcb 0 18 = 1 := rfl
  rw [e0, Nat.mul_one] at this
  omega
theorem SPN.pr1 {σ : SG} (W : WF σ) {c : Nat} {h h' : HH} (S : SPN σ 1 c h h') : PRh σ c 1 h h' := by
  obtain ⟨I, D, y, i, p, b, s⟩ := S
  refine ⟨D, y, p, ?_, ⟨fun k k1 k2 => s.1 k (Or.inl k1) k2, fun q q1 _ _ => s.2.1 q q1⟩, s.2.2⟩
  have h4 := ind_P5 W i.1
  have := fcb_pr (show 0 ≤ 4 by decide) h4 (by omega)
  have b : D.natAbs ≤ fcb (pc6 I) 18 := b
  have e0 : fcb 0 96 = 1 := rfl
  rw [e0, Nat.one_mul] at this
  omega
/-- copies of above and below, up to e -/
def CPh (h h1 : HH) (e : Nat) : Prop := (∀ k, k ≠ 58 → k ≠ 59 → h1 k = h k) ∧ ∀ i, i < e → h1 58 i = h 56 i ∧ h1 59 i = h 57 i
theorem CPh.put {h h1 : HH} {e : Nat} (L : CPh h h1 e) {z : Int} (hz : z = (e : Int)) : CPh h (up (up h1 58 z.toNat (h1 56 z.toNat)) 59 z.toNat (h1 57 z.toNat)) (e + 1) := by
  obtain ⟨l1, l2⟩ := L
  subst hz
  rw [show ((e : Nat) : Int).toNat = e from rfl]
  refine ⟨fun k k1 k2 => by rw [up_ne _ _ _ k2, up_ne _ _ _ k1]; exact l1 k k1 k2, fun i hi => ?_⟩
  by_cases q : i = e
  · subst q
    rw [up_same, up_ne _ _ _ (show (58 : Nat) ≠ 59 by decide), up_same, l1 56 (by decide) (by decide), l1 57 (by decide) (by decide)]
    exact ⟨rfl, rfl⟩
  · rw [up_o _ _ q, up_ne _ _ _ (show (58 : Nat) ≠ 59 by decide), up_o _ _ q, up_ne _ _ _ (show (59 : Nat) ≠ 58 by decide)]
    exact l2 i (by omega)
/-- the harmonic part, told up to e -/
def HPh (h h1 : HH) (Y : Nat → Int) (D : Int) (e : Nat) : Prop := (∀ k, k ≠ 56 → k ≠ 57 → h1 k = h k) ∧ (∀ i, i < e → LW (Y i) D (h1 56 i) (h1 57 i)) ∧ ∀ i, e ≤ i → h1 56 i = h 56 i ∧ h1 57 i = h 57 i
theorem HPh.put {h h1 : HH} {Y : Nat → Int} {D : Int} {e : Nat} (L : HPh h h1 Y D e) {p q : Int} (hw : LW (Y e) D p q) : HPh h (up (up h1 56 e p) 57 e q) Y D (e + 1) := by
  obtain ⟨l1, l2, l3⟩ := L
  refine ⟨fun k k1 k2 => by rw [up_ne _ _ _ k2, up_ne _ _ _ k1]; exact l1 k k1 k2, fun i hi => ?_, fun i hi => ?_⟩
  · by_cases z : i = e
    · subst z
      rw [up_ne _ _ _ (show (56 : Nat) ≠ 57 by decide), up_same, up_same]
      exact hw
    · rw [up_ne _ _ _ (show (56 : Nat) ≠ 57 by decide), up_o _ _ z, up_o _ _ z, up_ne _ _ _ (show (57 : Nat) ≠ 56 by decide)]
      exact l2 i (by omega)
  · have z : i ≠ e := by omega
    rw [up_ne _ _ _ (show (56 : Nat) ≠ 57 by decide), up_o _ _ z, up_o _ _ z, up_ne _ _ _ (show (57 : Nat) ≠ 56 by decide)]
    exact l3 i (by omega)
theorem har_lw {c d0 d1 y0 y1 p0 q0 p1 q1 : Int} (h0 : LW y0 d0 p0 q0) (h1 : LW y1 d1 p1 q1) : (c * (q0 * q1) - p0 * q1 - p1 * q0) * (d0 * d1) = ((c * d0 - y0) * d1 - y1 * d0) * (q0 * q1) := by
  have e0 := h0.2.2
  have e1 := h1.2.2
  have x0 : (c * (q0 * q1) - p0 * q1 - p1 * q0) * (d0 * d1) = c * q0 * q1 * d0 * d1 - (p0 * d0) * (q1 * d1) - (p1 * d1) * (q0 * d0) := by grind
  rw [x0, e0, e1]; grind
theorem har_b {a Y D b : Int} (h : a * D = Y * b) (hD : D ≠ 0) (hY : Y.natAbs ≤ 39 * D.natAbs) : a.natAbs ≤ 39 * b.natAbs := by
  have e : a.natAbs * D.natAbs = Y.natAbs * b.natAbs := by rw [← Int.natAbs_mul, ← Int.natAbs_mul, h]
  have h1 : Y.natAbs * b.natAbs ≤ 39 * D.natAbs * b.natAbs := Nat.mul_le_mul_right _ hY
  have h2 : a.natAbs * D.natAbs ≤ (39 * b.natAbs) * D.natAbs := by
    rw [e, Nat.mul_assoc, Nat.mul_comm b.natAbs, ← Nat.mul_assoc]; exact h1
  exact Nat.le_of_mul_le_mul_right h2 (by omega)
/-- the two spans together -/
theorem har_of {σ : SG} (W : WF σ) {c : Nat} {h h1 h2 h3 : HH} (S0 : SPN σ 2 c h h1) (S1 : SPN σ 1 c h2 h3) : ∃ (d0 : Int) (y0 : Nat → Int) (d1 : Int) (y1 : Nat → Int), PartV σ c 2 (d0 * d1) (fun e => (sch σ c e * d0 - y0 e) * d1 - y1 e * d0) ∧ (d0 * d1).natAbs ≤ 2 ^ 41 ∧ d0 ≠ 0 ∧ d1 ≠ 0 ∧ SPh h h1 y0 d0 (sE σ) ∧ SPh h2 h3 y1 d1 (sE σ) := by
  obtain ⟨I, d0, y0, i0, p0, b0, s0⟩ := S0
  obtain ⟨J, d1, y1, i1, p1, b1, s1⟩ := S1
  refine ⟨d0, y0, d1, y1, pv2.mpr ⟨d0, y0, d1, y1, p0, p1, rfl, fun _ _ => rfl⟩, ?_, p0.1, p1.1, s0, s1⟩
  have w2 := W.2.1
  have rs := rank_sum0 W i0 i1
  have b0 : d0.natAbs ≤ fcb (pc6 I) 96 := b0
  have b1 : d1.natAbs ≤ fcb (pc6 J) 18 := b1
  rw [Int.natAbs_mul]
  exact Nat.le_trans (Nat.mul_le_mul b0 b1) (fcb_pr (ind_F4 W i0.1) (ind_P5 W i1.1) (by omega))

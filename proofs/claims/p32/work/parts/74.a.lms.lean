/-! THE LAW'S MEASURES. -/
def nW (σ : SG) (w : Nat) : Nat := if w = 0 then sP σ else sE σ
def nearW (σ : SG) (w i j : Nat) : Int := if w = 0 then near0 σ i j else if w = 1 then near1 σ i j else near2 σ i j
theorem c_X5_nearW {g : GG} {h : HH} {σ : SG} (W : WF σ) (C : RC (h 2) σ) {w i j : Nat} (hw : w < 3) (hi : i < nW σ w) (hj : j < nW σ w) : CeI mX5_near g [vr 0, vi (w : Int), vi (i : Int), vi (j : Int)] h (nearW σ w i j) := by
  rcases (show w = 0 ∨ w = 1 ∨ w = 2 by omega) with rfl | rfl | rfl
  · exact c_X5_near0 W C hi hj
  · exact c_X5_near1 W C hi hj
  · exact c_X5_near2 W C hi hj
theorem c_X5_nearWO {g : GG} {h : HH} {σ : SG} (W : WF σ) (C : RC (h 2) σ) {w : Nat} {i j : Int} (hw : w < 3) (hi : R32 i) (hj : R32 j) (ho : ¬ (0 ≤ i ∧ i < nW σ w ∧ 0 ≤ j ∧ j < nW σ w)) : CeI mX5_near g [vr 0, vi (w : Int), vi i, vi j] h kBAD := by
  rcases (show w = 0 ∨ w = 1 ∨ w = 2 by omega) with rfl | rfl | rfl
  · exact c_X5_nearO0 W C hi hj ho
  · exact c_X5_nearO1 W C hi hj ho
  · exact c_X5_nearO2 W C hi hj ho
theorem c_L_nearW {g : GG} {h : HH} {σ : SG} (W : WF σ) (Zc : ZC (h 47) σ) {w i j : Nat} (hw : w < 3) (hi : i < nW σ w) (hj : j < nW σ w) : CeI mL_near g [vr 47, vi (w : Int), vi (i : Int), vi (j : Int)] h (nearW σ w i j) := by
  rcases (show w = 0 ∨ w = 1 ∨ w = 2 by omega) with rfl | rfl | rfl
  · exact c_L_near0 W Zc hi hj
  · exact c_L_near1 W Zc hi hj
  · exact c_L_near2 W Zc hi hj
/-- the boundary of a boundary -/
theorem lsg_d (σ : SG) (p f k : Nat) (hk : sle σ f k < sE σ) : sI (sE σ) (fun e => ent1 σ p e * lsg σ e f k) = (if edn σ f k = p then 1 else 0) - (if bgn σ f k = p then 1 else 0) := by
  have e1 : (fun e => ent1 σ p e * lsg σ e f k) = fun e => (if ssg σ f k then -ent1 σ p e else ent1 σ p e) * (if sle σ f k = e then 1 else 0) := funext fun e => by
    unfold lsg
    split <;> split <;> simp
  rw [e1, sI_delta hk (fun e => if ssg σ f k then -ent1 σ p e else ent1 σ p e)]
  unfold edn bgn ent1
  cases ssg σ f k
  · simp
  · simp; omega
theorem tel (σ : SG) {f p : Nat} : ∀ m, (∀ k, k < m → bgn σ f (k + 1) = edn σ f k) → sI (m + 1) (fun k => (if edn σ f k = p then (1 : Int) else 0) - (if bgn σ f k = p then 1 else 0)) = (if edn σ f m = p then 1 else 0) - (if bgn σ f 0 = p then 1 else 0)
  | 0, _ => by rw [sI_s, sI_0]; omega
  | m + 1, h => by
    rw [sI_s, tel σ m (fun k hk => h k (by omega)), h m (by omega)]; omega
theorem dd0 {σ : SG} (W : WF σ) {p f : Nat} (hf : f < sF σ) : sI (sE σ) (fun e => ent1 σ p e * ent2 σ e f) = 0 := by
  obtain ⟨x1, x2, x3, x4, x5, x6, x7⟩ := W.2.2.2.2.1 f hf
  have e1 : (fun e => ent1 σ p e * ent2 σ e f) = fun e => sI (swl σ f) (fun k => ent1 σ p e * lsg σ e f k) := funext fun e => by
    rw [sI_mul]; rfl
  rw [e1, sI_comm, sI_congr (g := fun k => (if edn σ f k = p then (1 : Int) else 0) - (if bgn σ f k = p then 1 else 0)) fun k hk => lsg_d σ p f k (x5 k hk)]
  obtain ⟨m, hm⟩ : ∃ m, swl σ f = m + 1 := ⟨swl σ f - 1, by omega⟩
  rw [hm] at x6 x7 ⊢
  rw [tel σ m (fun k hk => x6 k (by omega)), x7, show m + 1 - 1 = m by omega]
  omega
def dds (σ : SG) (p f e : Nat) : Int := ent1 σ p e * ent2 σ e f
theorem dds_0 {σ : SG} (W : WF σ) {p f : Nat} (hf : f < sF σ) : sI (sE σ) (dds σ p f) = 0 := dd0 W hf
theorem dds_r {σ : SG} (W : WF σ) {p f : Nat} (hf : f < sF σ) {n : Nat} (hn : n ≤ 6) : -24 ≤ sI n (dds σ p f) ∧ sI n (dds σ p f) ≤ 24 := by
  have := sI_bound (n := n) (f := dds σ p f) (c := 4) (fun e _ => by
    have h1 := ent1_r σ p e
    have h2 := ent2_r W hf (i := e)
    unfold dds
    rcases (show ent1 σ p e = -1 ∨ ent1 σ p e = 0 ∨ ent1 σ p e = 1 by omega) with q | q | q <;> rw [q] <;> omega)
  omega
theorem nearW_r {σ : SG} (W : WF σ) (w i j : Nat) : R32 (nearW σ w i j) := by
  unfold nearW
  split
  · have := near0_r W i j; omega
  · split
    · have := near1_r W i j; omega
    · have := near2_r W i j; omega
/-- what a measuring changes -/
def MF (h h' : HH) : Prop := ∀ k, k ≠ 9 → (k < 11 ∨ 18 ≤ k) → k ≠ 49 → h' k = h k
theorem MF.refl {h : HH} : MF h h := fun _ _ _ _ => rfl
theorem MF.gf {h h1 h2 : HH} (a : MF h h1) (b : GF h1 h2) : MF h h2 := fun k k9 kk k49 => (b k k9 kk).trans (a k k9 kk k49)
theorem MF.m {h h1 h2 : HH} (a : MF h h1) (b : ∀ k, k ≠ 49 → h2 k = h1 k) : MF h h2 := fun k k9 kk k49 => (b k k49).trans (a k k9 kk k49)
theorem MF.rc {h h1 : HH} {σ : SG} (a : MF h h1) (C : RC (h 2) σ) : RC (h1 2) σ := by rw [a 2 (by decide) (by decide) (by decide)]; exact C
theorem MF.zc {h h1 : HH} {σ : SG} (a : MF h h1) (C : ZC (h 47) σ) : ZC (h1 47) σ := by rw [a 47 (by decide) (by decide) (by decide)]; exact C
/-- the greatest size below j of a minor that p doesn't divide -/
def SE2 (σ : SG) (p : Int) (j s : Nat) : Prop := (s = 0 ∨ ∃ r c, r < 2 ^ sE σ ∧ c < 2 ^ sF σ ∧ pc6 r = s ∧ pc6 c = s ∧ ¬ p ∣ mnr (ent2 σ) s r c) ∧ s < j ∧ ∀ t, s < t → t < j → ∀ r c, r < 2 ^ sE σ → c < 2 ^ sF σ → pc6 r = t → pc6 c = t → p ∣ mnr (ent2 σ) t r c
theorem SE2.init (σ : SG) (p : Int) : SE2 σ p 1 0 := ⟨Or.inl rfl, by decide, fun t h1 h2 => by omega⟩
theorem SE2.no {σ : SG} {p g : Int} {j s : Nat} (S : SE2 σ p j s) (D : DGk (ent2 σ) (sE σ) (sF σ) j g) (h : p ∣ g) : SE2 σ p (j + 1) s := by
  refine ⟨S.1, by have := S.2.1; omega, fun t h1 h2 r c h3 h4 h5 h6 => ?_⟩
  by_cases e : t = j
  · subst e; exact (D.2.2 p).mp h r c h3 h4 h5 h6
  · exact S.2.2 t h1 (by omega) r c h3 h4 h5 h6
theorem SE2.yes {σ : SG} {p g : Int} {j s : Nat} (S : SE2 σ p j s) (D : DGk (ent2 σ) (sE σ) (sF σ) j g) (h : ¬ p ∣ g) : SE2 σ p (j + 1) j := by
  refine ⟨Or.inr (Classical.byContradiction fun q => h ((D.2.2 p).mpr fun r c h3 h4 h5 h6 => Classical.byContradiction fun z => q ⟨r, c, h3, h4, h5, h6, z⟩)), by omega, fun t h1 h2 => by omega⟩
theorem SE2.rk {σ : SG} (W : WF σ) {p : Int} {j s : Nat} (S : SE2 σ p j s) (hj : sF σ < j ∨ sE σ < j) : Rk (ent2 σ) (sE σ) (2 ^ sF σ - 1) p s := by
  have w2 := W.2.1
  have w3 := W.2.2.1
  refine ⟨fun r c h1 h2 h3 h4 => ?_, ?_⟩
  · have hc : c < 2 ^ sF σ := (sub_mask (show sF σ ≤ 6 by omega)).mpr h2
    have p1 := pcR w2 h1
    have p2 := pcR (show sF σ ≤ 6 by omega) hc
    refine Classical.byContradiction fun q => ?_
    exact nzp_dvd.mp h4 (S.2.2 (pc6 r) (by omega) (by omega) r c h1 hc rfl h3.symm)
  · rcases S.1 with q | ⟨r, c, h1, h2, h3, h4, h5⟩
    · exact Or.inl q
    · exact Or.inr ⟨r, c, h1, (sub_mask (show sF σ ≤ 6 by omega)).mp h2, by rw [h3, h4], h3, nzp_dvd.mpr (by rw [h3]; exact h5)⟩
theorem pr5_p {k : Nat} (hk : k < 5) : pr5 k = 0 ∨ pr5 k = 2 ∨ pr5 k = 3 ∨ pr5 k = 5 ∨ pr5 k = 7 := by
  rcases (show k = 0 ∨ k = 1 ∨ k = 2 ∨ k = 3 ∨ k = 4 by omega) with rfl | rfl | rfl | rfl | rfl <;> decide
theorem dv_tm {p g : Int} (hp : p ≠ 0) : g.tmod p = 0 ↔ p ∣ g := by
  have := nzp_dvd (p := p) (v := g)
  unfold nzp at this
  rw [if_neg hp] at this
  constructor
  · intro h; exact Classical.byContradiction fun q => this.mpr q h
  · intro h; exact Classical.byContradiction fun q => this.mp q h
theorem dv_0 {g : Int} : g = 0 ↔ (0 : Int) ∣ g := Int.zero_dvd.symm

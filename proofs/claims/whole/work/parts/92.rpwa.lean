/-! THE REFERENCE: solves, spans. -/
def SPN (σ : SG) (d c : Nat) (h h' : HH) : Prop := ∃ (I : Nat) (D : Int) (y : Nat → Int), IND (sE σ) (nX σ d) (ryX σ d) (nX σ d) I ∧ Prj (sE σ) (msr σ) (nX σ d) (ryX σ d) (sch σ c) D y ∧ D.natAbs ≤ fcb (pc6 I) (if d = 1 then 18 else 96) ∧ SPh h h' y D (sE σ)
theorem F54.k {h h' : HH} (F : F54 h h') {k : Nat} (hk : k ≠ 54) : h' k = h k := by
  obtain ⟨f, e⟩ := F
  rw [e, setc_ne _ _ hk]
theorem SPh.init {h h0 h1 : HH} {N : Nat} {B : Nat → Nat → Int} {b y : Nat → Int} {j : Nat} {D : Int} (F : F54 h h0) (L : SVh h0 h1 N B b j) : SPh h h1 y D 0 :=
  ⟨fun k k1 k2 => by rw [L.1 k (by omega) (by omega) k2]; exact F.k (by omega), fun q hq => by rw [L.2.1 q hq, F.k (by decide)], fun e he => absurd he (Nat.not_lt_zero _)⟩
theorem ryX_r {σ : SG} (W : WF σ) {d r e : Nat} (hr : r < nX σ d) (he : e < sE σ) : (ryX σ d r e).natAbs ≤ 4 := by
  unfold ryX
  by_cases q : d = 1
  · rw [if_pos q]; have := ryD_r W he r; omega
  · rw [if_neg q]
    unfold nX at hr
    rw [if_neg q] at hr
    have := ent2_r W hr (i := e)
    unfold ryF; omega
theorem prd1_r {σ : SG} (W : WF σ) (a b : Nat) : (prd σ 1 a b).natAbs ≤ 18 := by
  have := near0_r W a b
  show (near0 σ a b).natAbs ≤ 18
  omega
theorem agn1_r {σ : SG} (W : WF σ) {a c : Nat} (hc : c < 3) : (agn σ 1 c a).natAbs ≤ 54 := by
  have := ends_r W hc (p := a)
  show (ends σ c a).natAbs ≤ 54
  omega
theorem prd2_96 {σ : SG} (W : WF σ) {a b : Nat} (ha : a < sF σ) (hb : b < sF σ) : (prd σ 2 a b).natAbs ≤ 96 := prd2_r W ha hb
theorem agn2_216 {σ : SG} (W : WF σ) {a c : Nat} (ha : a < sF σ) (hc : c < 3) : (agn σ 2 c a).natAbs ≤ 216 := agn2_r W ha hc
theorem uc_b {N j b : Nat} {v : Nat → Int} {B : Nat → Nat → Int} (hB : ∀ i k, i < N → k < N → (B i k).natAbs ≤ b) (hv : ∀ i, i < N → (v i).natAbs ≤ b) : ∀ i k, i < N → k < N → (uc j v B i k).natAbs ≤ b := fun i k hi hk => by
  unfold uc; split
  · exact hv i hi
  · exact hB i k hi hk

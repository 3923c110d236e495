/-! SPLIT: casting the shadow, taking it away. -/
/-- what casting leaves -/
def CST (h h' : HH) (E n : Nat) (m : Nat → Int) (v : Nat → Nat → Int) (c : Nat → Int) : Prop := FSh h h' ∧ ∃ (S : Nat → Bool) (d : Int) (y : Nat → Int), 0 < d ∧ dT n (KS S (GM E m n v c)) ≠ 0 ∧ d.natAbs ≤ (dT n (KS S (GM E m n v c))).natAbs ∧ Prj E m n v c d y ∧ h' 18 9 = d ∧ ∀ e, e < E → h' 34 e = y e
/-- the first i of cell k are divided by g -/
def dvf (f : Nat → Int) (g : Nat) (i : Nat) : Nat → Int := fun j => if j < i then (f j).tdiv g else f j
theorem dvf_0 (f : Nat → Int) (g : Nat) : dvf f g 0 = f := by funext j; unfold dvf; rw [if_neg (Nat.not_lt_zero j)]
theorem dvf_s (f : Nat → Int) (g i : Nat) : upn (dvf f g i) i ((f i).tdiv g) = dvf f g (i + 1) := by
  funext j
  by_cases q : j = i
  · rw [upn_eq q]; unfold dvf; rw [if_pos (by omega), q]
  · rw [upn_ne q]; unfold dvf
    by_cases q2 : j < i
    · rw [if_pos q2, if_pos (by omega)]
    · rw [if_neg q2, if_neg (by omega)]
theorem dvf_g (f : Nat → Int) (g : Nat) {i j : Nat} (h : i ≤ j) : dvf f g i j = f j := by unfold dvf; rw [if_neg (by omega)]
/-- the first i of the part, less the shadow -/
def tkf (a y : Nat → Int) (d b : Int) (i : Nat) : Nat → Int := fun j => if j < i then a j * d - y j * b else a j
theorem tkf_0 (a y : Nat → Int) (d b : Int) : tkf a y d b 0 = a := by funext j; unfold tkf; rw [if_neg (Nat.not_lt_zero j)]
theorem tkf_s (a y : Nat → Int) (d b : Int) (i : Nat) : upn (tkf a y d b i) i (a i * d - y i * b) = tkf a y d b (i + 1) := by
  funext j
  by_cases q : j = i
  · rw [upn_eq q]; unfold tkf; rw [if_pos (by omega), q]
  · rw [upn_ne q]; unfold tkf
    by_cases q2 : j < i
    · rw [if_pos q2, if_pos (by omega)]
    · rw [if_neg q2, if_neg (by omega)]
theorem tkf_g (a y : Nat → Int) (d b : Int) {i j : Nat} (h : i ≤ j) : tkf a y d b i j = a j := by unfold tkf; rw [if_neg (by omega)]
/-- the first i of the shadow are told -/
def shf (f Y : Nat → Int) (i : Nat) : Nat → Int := fun j => if j < i then Y j else f j
theorem shf_0 (f Y : Nat → Int) : shf f Y 0 = f := by funext j; unfold shf; rw [if_neg (Nat.not_lt_zero j)]
theorem shf_s (f Y : Nat → Int) (i : Nat) {v : Int} (hv : v = Y i) : upn (shf f Y i) i v = shf f Y (i + 1) := by
  funext j
  by_cases q : j = i
  · rw [upn_eq q]; unfold shf; rw [if_pos (by omega), q, hv]
  · rw [upn_ne q]; unfold shf
    by_cases q2 : j < i
    · rw [if_pos q2, if_pos (by omega)]
    · rw [if_neg q2, if_neg (by omega)]
theorem upn_upn (f : Nat → Int) (i : Nat) (a b : Int) : upn (upn f i a) i b = upn f i b := by
  funext j
  by_cases q : j = i
  · rw [upn_eq q, upn_eq q]
  · rw [upn_ne q, upn_ne q, upn_ne q]
/-- what lowering leaves -/
theorem low_cst {h h0 h2 h' : HH} {E n : Nat} {m c : Nat → Int} {v : Nat → Nat → Int} {S : Nat → Bool} {g : Nat} {Y : Nat → Int} (hm : ∀ e, e < E → 0 < m e) (L : SLV h0 h2 n (GM E m n v c) S) (hY : ∀ e, e < E → Y e = sI n (fun r => XS n S (GM E m n v c) r n * v r e)) (g0 : 0 < g) (gd : (g : Int) ∣ dT n (KS S (GM E m n v c))) (gy : ∀ e, e < E → (g : Int) ∣ Y e)
    (h9 : h' 18 9 = (dT n (KS S (GM E m n v c))).tdiv g) (h34 : ∀ e, e < E → h' 34 e = (Y e).tdiv g) (F : FSh h h') : CST h h' E n m v c := by
  have P := gi_prj hm L.1
  have d0 := L.1.2.1
  have gn : (g : Int) ≠ 0 := by omega
  have e1 := tdv gn gd
  have P2 : Prj E m n v c ((dT n (KS S (GM E m n v c))).tdiv g) (fun e => (Y e).tdiv g) := prj_low P gn e1 (fun e he => by rw [← hY e he]; exact tdv gn (gy e he))
  have q0 : 0 < (dT n (KS S (GM E m n v c))).tdiv g := by
    have h1 := Int.tdiv_nonneg (a := dT n (KS S (GM E m n v c))) (b := (g : Int)) (by omega) (by omega)
    have h2 := P2.1
    omega
  refine ⟨F, S, _, _, q0, by omega, ?_, P2, h9, h34⟩
  rw [Int.natAbs_tdiv]
  exact Nat.div_le_self _ _

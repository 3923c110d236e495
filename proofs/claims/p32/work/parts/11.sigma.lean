/-! THE COMPLEX ITSELF: points, edges, faces; of each edge from, to, weight; of each face weight, how many letters, each letter's edge and whether it goes backward; the numbers of the three chains. -/
abbrev SG : Type := (Nat × Nat × Nat) × (Nat → Nat) × (Nat → Nat) × (Nat → Nat) × (Nat → Nat) × (Nat → Nat) × (Nat → Nat → Nat) × (Nat → Nat → Bool) × (Nat → Nat → Int)
def sP (σ : SG) : Nat := σ.1.1
def sE (σ : SG) : Nat := σ.1.2.1
def sF (σ : SG) : Nat := σ.1.2.2
def sfr (σ : SG) : Nat → Nat := σ.2.1
def sto (σ : SG) : Nat → Nat := σ.2.2.1
def sew (σ : SG) : Nat → Nat := σ.2.2.2.1
def sfw (σ : SG) : Nat → Nat := σ.2.2.2.2.1
def swl (σ : SG) : Nat → Nat := σ.2.2.2.2.2.1
def sle (σ : SG) : Nat → Nat → Nat := σ.2.2.2.2.2.2.1
def ssg (σ : SG) : Nat → Nat → Bool := σ.2.2.2.2.2.2.2.1
def sch (σ : SG) : Nat → Nat → Int := σ.2.2.2.2.2.2.2.2
/-- the code of a letter -/
def cod (e : Nat) (b : Bool) : Int := if b then 65 + (e : Int) else 97 + (e : Int)
/-- the point at which letter k of word f begins, ends -/
def bgn (σ : SG) (f k : Nat) : Nat := if ssg σ f k then sto σ (sle σ f k) else sfr σ (sle σ f k)
def edn (σ : SG) (f k : Nat) : Nat := if ssg σ f k then sfr σ (sle σ f k) else sto σ (sle σ f k)
/-- a word is as told: letters of edges, each begins where the one ahead ends, closed -/
def WFw (σ : SG) (f : Nat) : Prop := 1 ≤ sfw σ f ∧ sfw σ f ≤ 3 ∧ 1 ≤ swl σ f ∧ swl σ f ≤ 4 ∧ (∀ k, k < swl σ f → sle σ f k < sE σ) ∧ (∀ k, k + 1 < swl σ f → bgn σ f (k + 1) = edn σ f k) ∧ bgn σ f 0 = edn σ f (swl σ f - 1)
def WF (σ : SG) : Prop := sP σ ≤ 5 ∧ sE σ ≤ 6 ∧ sF σ ≤ 4 ∧ (∀ e, e < sE σ → sfr σ e < sP σ ∧ sto σ e < sP σ ∧ 1 ≤ sew σ e ∧ sew σ e ≤ 3) ∧ (∀ f, f < sF σ → WFw σ f) ∧ (∀ c e, c < 3 → e < sE σ → -9 ≤ sch σ c e ∧ sch σ c e ≤ 9)
/-- the class's row of a complex -/
def RC (f : Nat → Int) (σ : SG) : Prop := f 0 = sP σ ∧ f 1 = sE σ ∧ f 2 = sF σ ∧ (∀ e, e < sE σ → f (3 + e) = sfr σ e ∧ f (9 + e) = sto σ e ∧ f (15 + e) = sew σ e) ∧ (∀ k, k < sF σ → f (21 + k) = sfw σ k ∧ f (25 + k) = swl σ k ∧ ∀ j, j < swl σ k → f (29 + k * 4 + j) = cod (sle σ k j) (ssg σ k j)) ∧ (∀ c e, c < 3 → e < sE σ → f (45 + c * 6 + e) = sch σ c e)
/-- the reference's row of it -/
def RM (f : Nat → Int) (σ : SG) : Prop := f 0 = sP σ ∧ f 1 = sE σ ∧ f 2 = sF σ ∧ (∀ e, e < sE σ → f (3 + 3 * e) = sfr σ e ∧ f (3 + 3 * e + 1) = sto σ e ∧ f (3 + 3 * e + 2) = sew σ e) ∧ (∀ k, k < sF σ → f (21 + 6 * k) = sfw σ k ∧ f (21 + 6 * k + 1) = swl σ k ∧ ∀ j, j < swl σ k → f (21 + 6 * k + 2 + j) = (if ssg σ k j then -(sle σ k j : Int) - 1 else (sle σ k j : Int) + 1)) ∧ (∀ c e, c < 3 → e < sE σ → f (45 + 6 * c + e) = sch σ c e)
/-- a sum -/
def sI : Nat → (Nat → Int) → Int
  | 0, _ => 0
  | n + 1, f => sI n f + f n
theorem sI_s (n : Nat) (f : Nat → Int) : sI (n + 1) f = sI n f + f n := rfl
theorem sI_0 (f : Nat → Int) : sI 0 f = 0 := rfl
theorem sI_congr {n : Nat} {f g : Nat → Int} (h : ∀ k, k < n → f k = g k) : sI n f = sI n g := by
  induction n with
  | zero => rfl
  | succ n ih => rw [sI_s, sI_s, ih (fun k hk => h k (by omega)), h n (by omega)]
theorem sI_add (n : Nat) (f g : Nat → Int) : sI n (fun k => f k + g k) = sI n f + sI n g := by
  induction n with
  | zero => rfl
  | succ n ih => rw [sI_s, sI_s, sI_s, ih]; omega
theorem sI_mul (n : Nat) (c : Int) (f : Nat → Int) : sI n (fun k => c * f k) = c * sI n f := by
  induction n with
  | zero => simp [sI_0]
  | succ n ih => rw [sI_s, sI_s, ih, Int.mul_add]
theorem sI_zero (n : Nat) {f : Nat → Int} (h : ∀ k, k < n → f k = 0) : sI n f = 0 := by
  induction n with
  | zero => rfl
  | succ n ih => rw [sI_s, ih (fun k hk => h k (by omega)), h n (by omega)]; rfl
theorem sI_bound {n : Nat} {f : Nat → Int} {c : Int} (h : ∀ k, k < n → -c ≤ f k ∧ f k ≤ c) : -(n * c) ≤ sI n f ∧ sI n f ≤ n * c := by
  induction n with
  | zero => simp [sI_0]
  | succ n ih =>
    have h1 := ih (fun k hk => h k (by omega))
    have h2 := h n (by omega)
    rw [sI_s]
    have e : ((n + 1 : Nat) : Int) * c = n * c + c := by
      rw [Int.natCast_add, Int.add_mul]; simp
    rw [e]
    omega
/-- tables 1 and 2 -/
def ent1 (σ : SG) (i j : Nat) : Int := (if sto σ j = i then 1 else 0) - (if sfr σ j = i then 1 else 0)
def lsg (σ : SG) (i j k : Nat) : Int := if sle σ j k = i then (if ssg σ j k then -1 else 1) else 0
def ent2 (σ : SG) (i j : Nat) : Int := sI (swl σ j) (lsg σ i j)
/-- the bounds alone -/
def WB (σ : SG) : Prop := sP σ ≤ 5 ∧ sE σ ≤ 6 ∧ sF σ ≤ 4 ∧ ∀ f, f < sF σ → swl σ f ≤ 4
theorem WF.wb {σ : SG} (W : WF σ) : WB σ := ⟨W.1, W.2.1, W.2.2.1, fun f hf => (W.2.2.2.2.1 f hf).2.2.2.1⟩
/-- what the slots of the class's row say -/
theorem sl_n {h : HH} {o : Nat} {i : Nat} (hi : i < 63) {z : Int} (hz : z = (i : Int)) : sl h o z = h (o + 1) i := by
  subst hz
  unfold sl
  rw [if_pos (by omega)]
  rfl
theorem rc_P {h : HH} {o : Nat} {σ : SG} (C : RC (h (o + 1)) σ) : sl h o 0 = sP σ := (sl_n (i := 0) (by decide) rfl).trans C.1
theorem rc_E {h : HH} {o : Nat} {σ : SG} (C : RC (h (o + 1)) σ) : sl h o 1 = sE σ := (sl_n (i := 1) (by decide) rfl).trans C.2.1
theorem rc_F {h : HH} {o : Nat} {σ : SG} (C : RC (h (o + 1)) σ) : sl h o 2 = sF σ := (sl_n (i := 2) (by decide) rfl).trans C.2.2.1
theorem rc_fr {h : HH} {o : Nat} {σ : SG} (W : WB σ) (C : RC (h (o + 1)) σ) {e : Nat} (he : e < sE σ) : sl h o (3 + (e : Int)) = sfr σ e := (sl_n (i := 3 + e) (by have := W.2.1; omega) (by omega)).trans (C.2.2.2.1 e he).1
theorem rc_to {h : HH} {o : Nat} {σ : SG} (W : WB σ) (C : RC (h (o + 1)) σ) {e : Nat} (he : e < sE σ) : sl h o (9 + (e : Int)) = sto σ e := (sl_n (i := 9 + e) (by have := W.2.1; omega) (by omega)).trans (C.2.2.2.1 e he).2.1
theorem rc_ew {h : HH} {o : Nat} {σ : SG} (W : WB σ) (C : RC (h (o + 1)) σ) {e : Nat} (he : e < sE σ) : sl h o (15 + (e : Int)) = sew σ e := (sl_n (i := 15 + e) (by have := W.2.1; omega) (by omega)).trans (C.2.2.2.1 e he).2.2
theorem rc_fw {h : HH} {o : Nat} {σ : SG} (W : WB σ) (C : RC (h (o + 1)) σ) {f : Nat} (hf : f < sF σ) : sl h o (21 + (f : Int)) = sfw σ f := (sl_n (i := 21 + f) (by have := W.2.2.1; omega) (by omega)).trans (C.2.2.2.2.1 f hf).1
theorem rc_wl {h : HH} {o : Nat} {σ : SG} (W : WB σ) (C : RC (h (o + 1)) σ) {f : Nat} (hf : f < sF σ) : sl h o (25 + (f : Int)) = swl σ f := (sl_n (i := 25 + f) (by have := W.2.2.1; omega) (by omega)).trans (C.2.2.2.2.1 f hf).2.1
theorem rc_lt {h : HH} {o : Nat} {σ : SG} (W : WB σ) (C : RC (h (o + 1)) σ) {f k : Nat} (hf : f < sF σ) (hk : k < swl σ f) : sl h o (29 + (f : Int) * 4 + (k : Int)) = cod (sle σ f k) (ssg σ f k) := (sl_n (i := 29 + f * 4 + k) (by have := W.2.2.1; have := W.2.2.2 f hf; omega) (by omega)).trans ((C.2.2.2.2.1 f hf).2.2 k hk)
theorem rc_ch {h : HH} {o : Nat} {σ : SG} (W : WB σ) (C : RC (h (o + 1)) σ) {c e : Nat} (hc : c < 3) (he : e < sE σ) : sl h o (45 + (c : Int) * 6 + (e : Int)) = sch σ c e := (sl_n (i := 45 + c * 6 + e) (by have := W.2.1; omega) (by omega)).trans (C.2.2.2.2.2 c e hc he)
theorem cod_edg {e : Nat} (b : Bool) (he : e < 26) : edg (cod e b) = (e : Int) := by
  unfold edg cod
  cases b
  · rw [if_neg (by simp; omega), if_pos (by simp; omega)]; simp; omega
  · rw [if_pos (by simp; omega)]; simp; omega
theorem cod_r {e : Nat} (b : Bool) (he : e < 26) : 65 ≤ cod e b ∧ cod e b ≤ 122 := by
  unfold cod; cases b <;> simp <;> omega
theorem cod_bk {e : Nat} (b : Bool) (he : e < 26) : bi (65 ≤ cod e b ∧ cod e b ≤ 90) = bi (b = true) := by
  refine bi_c ?_
  unfold cod; cases b <;> simp <;> omega
/-- the readers of Cells, of a complex -/
theorem s_X0_sizeP {g : GG} {h : HH} {o : Nat} {σ : SG} (ho : isC o) (C : RC (h (o + 1)) σ) : CeI mX0_sizeOf g [vr o, vi 0] h (sP σ) := by
  have := c_X0_sizeOf (g := g) (h := h) ho (d := 0) (by decide)
  rw [if_pos (by decide), rc_P C] at this
  exact this
theorem s_X0_sizeE {g : GG} {h : HH} {o : Nat} {σ : SG} (ho : isC o) (C : RC (h (o + 1)) σ) : CeI mX0_sizeOf g [vr o, vi 1] h (sE σ) := by
  have := c_X0_sizeOf (g := g) (h := h) ho (d := 1) (by decide)
  rw [if_pos (by decide), rc_E C] at this
  exact this
theorem s_X0_sizeF {g : GG} {h : HH} {o : Nat} {σ : SG} (ho : isC o) (C : RC (h (o + 1)) σ) : CeI mX0_sizeOf g [vr o, vi 2] h (sF σ) := by
  have := c_X0_sizeOf (g := g) (h := h) ho (d := 2) (by decide)
  rw [if_pos (by decide), rc_F C] at this
  exact this
theorem s_X0_fromOf {g : GG} {h : HH} {o : Nat} {σ : SG} (ho : isC o) (W : WB σ) (C : RC (h (o + 1)) σ) {e : Nat} (he : e < sE σ) : CeI mX0_fromOf g [vr o, vi (e : Int)] h (sfr σ e) := by
  rw [← rc_fr W C he]; exact c_X0_fromOf ho (by have := W.2.1; omega)
theorem s_X0_toOf {g : GG} {h : HH} {o : Nat} {σ : SG} (ho : isC o) (W : WB σ) (C : RC (h (o + 1)) σ) {e : Nat} (he : e < sE σ) : CeI mX0_toOf g [vr o, vi (e : Int)] h (sto σ e) := by
  rw [← rc_to W C he]; exact c_X0_toOf ho (by have := W.2.1; omega)
theorem s_X0_weightE {g : GG} {h : HH} {o : Nat} {σ : SG} (ho : isC o) (W : WB σ) (C : RC (h (o + 1)) σ) {e : Nat} (he : e < sE σ) : CeI mX0_weightOf g [vr o, vi 1, vi (e : Int)] h (sew σ e) := by
  rw [← rc_ew W C he]; exact c_X0_weightOf ho (d := 1) (by decide) (by have := W.2.1; omega)
theorem s_X0_weightF {g : GG} {h : HH} {o : Nat} {σ : SG} (ho : isC o) (W : WB σ) (C : RC (h (o + 1)) σ) {f : Nat} (hf : f < sF σ) : CeI mX0_weightOf g [vr o, vi 2, vi (f : Int)] h (sfw σ f) := by
  rw [← rc_fw W C hf]; exact c_X0_weightOf ho (d := 2) (by decide) (by have := W.2.2.1; omega)
theorem s_X0_wordSize {g : GG} {h : HH} {o : Nat} {σ : SG} (ho : isC o) (W : WB σ) (C : RC (h (o + 1)) σ) {f : Nat} (hf : f < sF σ) : CeI mX0_wordSize g [vr o, vi (f : Int)] h (swl σ f) := by
  rw [← rc_wl W C hf]; exact c_X0_wordSize ho (by have := W.2.2.1; omega)
theorem s_X0_letterAt {g : GG} {h : HH} {o : Nat} {σ : SG} (ho : isC o) (W : WB σ) (C : RC (h (o + 1)) σ) {f k : Nat} (hf : f < sF σ) (hk : k < swl σ f) : CeI mX0_letterAt g [vr o, vi (f : Int), vi (k : Int)] h (cod (sle σ f k) (ssg σ f k)) := by
  rw [← rc_lt W C hf hk]; exact c_X0_letterAt ho (by have := W.2.2.1; omega) (by have := W.2.2.2 f hf; omega)
theorem s_X0_numberAt {g : GG} {h : HH} {o : Nat} {σ : SG} (ho : isC o) (W : WB σ) (C : RC (h (o + 1)) σ) {c e : Nat} (hc : c < 3) (he : e < sE σ) : CeI mX0_numberAt g [vr o, vi (c : Int), vi (e : Int)] h (sch σ c e) := by
  rw [← rc_ch W C hc he]; exact c_X0_numberAt ho (by omega) (by have := W.2.1; omega)
theorem s_X4_edgeOf {g : GG} {h : HH} {e : Nat} (b : Bool) (he : e < 26) : CeI mX4_edgeOf g [vi (cod e b)] h (e : Int) := by
  rw [← cod_edg b he]; exact c_X4_edgeOf (by have := cod_r b he; omega)
theorem s_X4_isBackward {g : GG} {h : HH} {e : Nat} (b : Bool) (he : e < 26) : CeI mX4_isBackward g [vi (cod e b)] h (bi (b = true)) := by
  rw [← cod_bk b he]; exact c_X4_isBackward (by have := cod_r b he; omega)

/-! A TEXT TOLD AND READ. -/
theorem tl_app (l r : List Int) (i : Nat) : tl (l ++ r) (l.length + i) = tl r i := by
  unfold tl
  rw [List.getD_eq_getElem?_getD, List.getD_eq_getElem?_getD, List.getElem?_append_right (by omega), show l.length + i - l.length = i by omega]
theorem tl_0 (x : Int) (r : List Int) : tl (x :: r) 0 = x := rfl
theorem tl_s (x : Int) (r : List Int) (i : Nat) : tl (x :: r) (i + 1) = tl r i := rfl
theorem tl_len (l : List Int) : tl l l.length = -1 := by
  unfold tl
  rw [List.getD_eq_getElem?_getD, List.getElem?_eq_none (Nat.le_refl _)]
  rfl
theorem tkS_y {tk : Nat → Int} {c : Int} {p : Nat} (h : tk p = c) : tkS tk c (p, 0) = (p + 1, 0) := by
  unfold tkS
  rw [if_neg (by show ¬ (0 : Nat) ≠ 0; omega), if_pos h]
theorem tkD_y {tk : Nat → Int} {lo hi : Int} {p d : Nat} (h : tk p = 48 + (d : Int)) (hd : d < 10) (h1 : lo ≤ d) (h2 : (d : Int) ≤ hi) : tkD tk lo hi (p, 0) = (d, (p + 1, 0)) := by
  unfold tkD
  rw [if_neg (by show ¬ (0 : Nat) ≠ 0; omega), if_neg (by show ¬ ¬ (0 ≤ tk p - 48 ∧ tk p - 48 < 10); omega), if_neg (by show ¬ (tk p - 48 < lo ∨ hi < tk p - 48); omega)]
  show ((tk p - 48).toNat, (p + 1, 0)) = (d, (p + 1, 0))
  rw [show (tk p - 48).toNat = d by omega]
theorem pEdge_y {tk : Nat → Int} {σ : SG} {p a b w : Nat} (hE : sE σ < 6) (hP : sP σ ≤ 5) (ha : a < sP σ) (hb : b < sP σ) (hw : 1 ≤ w ∧ w ≤ 3) (t0 : tk p = 101) (t1 : tk (p + 1) = 48 + (a : Int)) (t2 : tk (p + 2) = 48 + (b : Int)) (t3 : tk (p + 3) = 48 + (w : Int)) (t4 : tk (p + 4) = 59) : pEdge tk ((p, 0), σ) = ((p + 5, 0), addE σ a b w) := by
  unfold pEdge
  rw [if_neg (by show ¬ 6 ≤ sE σ; omega)]
  simp only
  rw [tkS_y t0, tkD_y (lo := 0) (hi := (sP σ : Int) - 1) t1 (by omega) (by omega) (by omega), tkD_y (lo := 0) (hi := (sP σ : Int) - 1) t2 (by omega) (by omega) (by omega), tkD_y (lo := 1) (hi := 3) t3 (by omega) (by omega) (by omega), tkS_y t4, if_pos rfl]
theorem pEdges_y {tk : Nat → Int} {n p : Nat} {σ : SG} (t0 : tk p = 101) : pEdges tk (n + 1) ((p, 0), σ) = pEdges tk n (pEdge tk ((p, 0), σ)) := if_pos ⟨rfl, t0⟩
theorem pEdges_n {tk : Nat → Int} : ∀ {n p : Nat} {σ : SG}, tk p ≠ 101 → pEdges tk n ((p, 0), σ) = ((p, 0), σ)
  | 0, _, _, _ => rfl
  | _ + 1, _, _, h => if_neg (fun q => h q.2)
theorem pFaces_y {tk : Nat → Int} {n p : Nat} {σ : SG} (t0 : tk p = 102) : pFaces tk (n + 1) ((p, 0), σ) = pFaces tk n (pFace tk ((p, 0), σ)) := if_pos ⟨rfl, t0⟩
theorem pFaces_n {tk : Nat → Int} : ∀ {n p : Nat} {σ : SG}, tk p ≠ 102 → pFaces tk n ((p, 0), σ) = ((p, 0), σ)
  | 0, _, _, _ => rfl
  | _ + 1, _, _, h => if_neg (fun q => h q.2)
/-- a word's letters below n, nothing behind -/
def cl (le : Nat → Nat) (n : Nat) : Nat → Nat := fun k => if k < n then le k else 0
def cs (sg : Nat → Bool) (n : Nat) : Nat → Bool := fun k => if k < n then sg k else false
theorem cl_0 (le : Nat → Nat) : cl le 0 = fun _ => 0 := funext fun k => if_neg (Nat.not_lt_zero k)
theorem cs_0 (sg : Nat → Bool) : cs sg 0 = fun _ => false := funext fun k => if_neg (Nat.not_lt_zero k)
theorem cl_at {le : Nat → Nat} {n k : Nat} (h : k < n) : cl le n k = le k := if_pos h
theorem cs_at {sg : Nat → Bool} {n k : Nat} (h : k < n) : cs sg n k = sg k := if_pos h
theorem cl_s (le : Nat → Nat) (i : Nat) : (fun k => if k = i then le i else cl le i k) = cl le (i + 1) := funext fun k => by
  show (if k = i then le i else if k < i then le k else 0) = if k < i + 1 then le k else 0
  by_cases q : k = i
  · rw [if_pos q, if_pos (by omega), q]
  · rw [if_neg q]
    by_cases r : k < i
    · rw [if_pos r, if_pos (by omega)]
    · rw [if_neg r, if_neg (by omega)]
theorem cs_s (sg : Nat → Bool) (i : Nat) : (fun k => if k = i then sg i else cs sg i k) = cs sg (i + 1) := funext fun k => by
  show (if k = i then sg i else if k < i then sg k else false) = if k < i + 1 then sg k else false
  by_cases q : k = i
  · rw [if_pos q, if_pos (by omega), q]
  · rw [if_neg q]
    by_cases r : k < i
    · rw [if_pos r, if_pos (by omega)]
    · rw [if_neg r, if_neg (by omega)]
theorem wv_cut {σ : SG} {n : Nat} {le : Nat → Nat} {sg : Nat → Bool} (V : WV σ n le sg) : WV σ n (cl le n) (cs sg n) := by
  obtain ⟨v1, v2, v3⟩ := V
  refine ⟨v1, fun k hk => by rw [cl_at hk]; exact v2 k hk, fun k hk => ?_⟩
  rw [cl_at hk, cs_at hk, cl_at (show k < n by omega), cs_at (show k < n by omega)]
  exact v3 k hk
theorem wcl_cut {σ : SG} {n : Nat} {le : Nat → Nat} {sg : Nat → Bool} (hc : wcl σ n le sg) : wcl σ n (cl le n) (cs sg n) := wcl_eq (fun k hk => ⟨cl_at hk, cs_at hk⟩) hc
theorem pLets_y {σ : SG} (hE : sE σ ≤ 6) {tk : Nat → Int} {n : Nat} {le : Nat → Nat} {sg : Nat → Bool} (V : WV σ n le sg) : ∀ (m i p r : Nat), i + m = n → (∀ j, j < m → tk (p + j) = cod (le (i + j)) (sg (i + j))) → pLets σ tk (m + r) ((p, 0), i, cl le i, cs sg i) = pLets σ tk r ((p + m, 0), n, cl le n, cs sg n)
  | 0, i, p, r, hm, _ => by
    have hm : i = n := hm
    subst hm
    rw [Nat.zero_add]
    rfl
  | m + 1, i, p, r, hm, ht => by
    have v1 := V.1
    have t0 := ht 0 (by omega)
    rw [Nat.add_zero, Nat.add_zero] at t0
    have hle := V.2.1 i (by omega)
    obtain ⟨d1, d2⟩ := edg_cod (e := le i) (b := sg i) (by omega)
    have hg := cod_edg (e := le i) (sg i) (by omega)
    have ok : apOK σ i (cl le i) (cs sg i) (tk p) := ⟨by omega, le i, sg i, t0, hle, fun h0 => by
      rw [cl_at (show i - 1 < i by omega), cs_at (show i - 1 < i by omega)]
      have := V.2.2 (i - 1) (by omega)
      rw [show i - 1 + 1 = i by omega] at this
      exact this⟩
    have ih := pLets_y (tk := tk) hE V m (i + 1) (p + 1) r (by omega) (fun j hj => by
      have := ht (j + 1) (by omega)
      rw [show p + 1 + j = p + (j + 1) by omega, this, show i + 1 + j = i + (j + 1) by omega])
    rw [show m + 1 + r = (m + r) + 1 by omega, pLets_go ⟨rfl, by show 0 ≤ edg (tk p); rw [t0, hg]; omega⟩]
    have ep : pLet σ tk ((p, 0), i, cl le i, cs sg i) = ((p + 1, 0), i + 1, cl le (i + 1), cs sg (i + 1)) := by
      rw [pLet_t (s := ((p, 0), i, cl le i, cs sg i)) ok]
      show ((p + 1, 0), i + 1, (fun k => if k = i then (edg (tk p)).toNat else cl le i k), fun k => if k = i then decide (tk p ≤ 90) else cs sg i k) = _
      rw [t0, d1, d2, cl_s, cs_s]
    rw [ep, ih, show p + 1 + m = p + (m + 1) by omega]
theorem pFace_y {tk : Nat → Int} {σ : SG} {p w n : Nat} {le : Nat → Nat} {sg : Nat → Bool} (hE : sE σ ≤ 6) (hF : sF σ < 4) (hw : 1 ≤ w ∧ w ≤ 3) (V : WV σ n le sg) (hc : wcl σ n le sg) (t0 : tk p = 102) (t1 : tk (p + 1) = 48 + (w : Int)) (t2 : ∀ j, j < n → tk (p + 2 + j) = cod (le j) (sg j)) (t3 : tk (p + 2 + n) = 59) : pFace tk ((p, 0), σ) = ((p + 3 + n, 0), addF σ w n (cl le n) (cs sg n)) := by
  have v1 := V.1
  have e1 := pLets_y (tk := tk) hE V n 0 (p + 2) (90 - n) (by omega) (fun j hj => by rw [t2 j hj, Nat.zero_add])
  rw [show n + (90 - n) = 90 by omega, cl_0, cs_0, pLets_stop (L := ((p + 2 + n, 0), n, cl le n, cs sg n)) (by
    rintro ⟨-, q⟩
    have q : 0 ≤ edg (tk (p + 2 + n)) := q
    rw [t3] at q
    exact absurd q (by decide))] at e1
  have hc' := wcl_cut hc
  have h0 := hc.1
  have ea : pA σ tk ((p + 2 + n, 0), n, cl le n, cs sg n) = (p + 2 + n, 0) := pA_f (fun q => q.2.2.2 hc')
  have ew : pEndW σ tk ((p + 2 + n, 0), n, cl le n, cs sg n) = (p + 2 + n, 0) := by
    rw [pEndW_f (fun q => by have : n = 0 := q.2; omega), ea]
  unfold pFace
  rw [if_neg (by show ¬ 4 ≤ sF σ; omega)]
  simp only
  rw [tkS_y t0, tkD_y (lo := 1) (hi := 3) t1 (by omega) (by omega) (by omega)]
  simp only
  rw [show p + 1 + 1 = p + 2 from rfl, e1, ew, tkS_y t3, if_pos rfl, show p + 2 + n + 1 = p + 3 + n by omega]
/-- what is read of the beginning -/
def S1 (tk : Nat → Int) : PF × SG := (tkS tk 59 (tkD tk 1 5 (tkS tk 99 (0, 0))).2, sg0 (tkD tk 1 5 (tkS tk 99 (0, 0))).1)
theorem S1_y {tk : Nat → Int} {P : Nat} (hP : 1 ≤ P ∧ P ≤ 5) (t0 : tk 0 = 99) (t1 : tk 1 = 48 + (P : Int)) (t2 : tk 2 = 59) : S1 tk = ((3, 0), sg0 P) := by
  unfold S1
  rw [tkS_y t0, tkD_y (lo := 1) (hi := 5) t1 (by omega) (by omega) (by omega)]
  simp only
  rw [tkS_y t2]
/-- the text l, edges so far, tells σ -/
def PE (l : List Int) (σ : SG) : Prop := ∀ ext : List Int, pEdges (tl (l ++ ext)) 90 (S1 (tl (l ++ ext))) = pEdges (tl (l ++ ext)) (90 - sE σ) ((l.length, 0), σ)
theorem PE.init {P : Nat} (hP : 1 ≤ P ∧ P ≤ 5) : PE ((([] ++ [99]) ++ [48 + (P : Int)]) ++ [59]) (sg0 P) := fun ext => by
  rw [S1_y hP rfl rfl rfl]
  rfl
theorem PE.edge {l : List Int} {σ : SG} (E : PE l σ) (hP : sP σ ≤ 5) (hE : sE σ < 6) {a b w : Nat} (ha : a < sP σ) (hb : b < sP σ) (hw : 1 ≤ w ∧ w ≤ 3) : PE (((((l ++ [101]) ++ [48 + (a : Int)]) ++ [48 + (b : Int)]) ++ [48 + (w : Int)]) ++ [59]) (addE σ a b w) := fun ext => by
  have e1 : ((((l ++ [101]) ++ [48 + (a : Int)]) ++ [48 + (b : Int)]) ++ [48 + (w : Int)]) ++ [59] ++ ext = l ++ (101 :: (48 + (a : Int)) :: (48 + (b : Int)) :: (48 + (w : Int)) :: 59 :: ext) := by simp
  have e2 : (((((l ++ [101]) ++ [48 + (a : Int)]) ++ [48 + (b : Int)]) ++ [48 + (w : Int)]) ++ [59]).length = l.length + 5 := by simp
  have hs : sE (addE σ a b w) = sE σ + 1 := rfl
  rw [e1, e2, E, hs, show 90 - sE σ = (90 - (sE σ + 1)) + 1 by omega]
  have t := tl_app l (101 :: (48 + (a : Int)) :: (48 + (b : Int)) :: (48 + (w : Int)) :: 59 :: ext)
  rw [pEdges_y (p := l.length) ((t 0).trans rfl), pEdge_y (p := l.length) hE hP ha hb hw ((t 0).trans rfl) ((t 1).trans rfl) ((t 2).trans rfl) ((t 3).trans rfl) ((t 4).trans rfl)]
/-- the text l, faces among it, tells σ -/
def PC (l : List Int) (σ : SG) : Prop := ∀ ext : List Int, tl ext 0 ≠ 101 → pFaces (tl (l ++ ext)) 90 (pEdges (tl (l ++ ext)) 90 (S1 (tl (l ++ ext)))) = pFaces (tl (l ++ ext)) (90 - sF σ) ((l.length, 0), σ)
theorem PE.pc {l : List Int} {σ : SG} (E : PE l σ) (hF : sF σ = 0) : PC l σ := fun ext h => by
  rw [E, pEdges_n (by have := tl_app l ext 0; rw [Nat.add_zero] at this; rw [this]; exact h), hF]
theorem PC.face {l : List Int} {σ : SG} (C : PC l σ) (hE : sE σ ≤ 6) (hF : sF σ < 4) {w n : Nat} (hw : 1 ≤ w ∧ w ≤ 3) {le : Nat → Nat} {sg : Nat → Bool} (V : WV σ n le sg) (hc : wcl σ n le sg) : PC ((((l ++ [102]) ++ [48 + (w : Int)]) ++ wls n le sg) ++ [59]) (addF σ w n (cl le n) (cs sg n)) := fun ext _ => by
  have e1 : (((l ++ [102]) ++ [48 + (w : Int)]) ++ wls n le sg) ++ [59] ++ ext = l ++ (102 :: (48 + (w : Int)) :: (wls n le sg ++ (59 :: ext))) := by simp
  have e2 : ((((l ++ [102]) ++ [48 + (w : Int)]) ++ wls n le sg) ++ [59]).length = l.length + 3 + n := by simp [wls_len]; omega
  have hs : sF (addF σ w n (cl le n) (cs sg n)) = sF σ + 1 := rfl
  rw [e1, e2, C _ (by show (102 : Int) ≠ 101; decide), hs, show 90 - sF σ = (90 - (sF σ + 1)) + 1 by omega]
  have t := tl_app l (102 :: (48 + (w : Int)) :: (wls n le sg ++ (59 :: ext)))
  have t2 : ∀ j, tl (l ++ (102 :: (48 + (w : Int)) :: (wls n le sg ++ (59 :: ext)))) (l.length + 2 + j) = tl (wls n le sg ++ (59 :: ext)) j := fun j => by
    rw [show l.length + 2 + j = l.length + (j + 2) by omega, t]; rfl
  rw [pFaces_y (p := l.length) ((t 0).trans rfl), pFace_y (p := l.length) hE hF hw V hc ((t 0).trans rfl) ((t 1).trans rfl) (fun j hj => by
    rw [t2 j]
    unfold tl wls
    rw [List.getD_eq_getElem?_getD, List.getElem?_append_left (by simp; exact hj), List.getElem?_map, List.getElem?_range hj]
    rfl) (by
    rw [t2 n]
    have := tl_app (wls n le sg) (59 :: ext) 0
    rw [wls_len, Nat.add_zero] at this
    rw [this]; rfl)]
theorem PC.end {l : List Int} {σ : SG} (C : PC l σ) : pAll (tl l) l.length = ((l.length, 0), σ) := by
  have e := C [] (by show (-1 : Int) ≠ 101; decide)
  rw [List.append_nil, pFaces_n (n := 90 - sF σ) (p := l.length) (by rw [tl_len]; decide)] at e
  show (if (pFaces (tl l) 90 (pEdges (tl l) 90 (S1 (tl l)))).1.2 = 0 ∧ (pFaces (tl l) 90 (pEdges (tl l) 90 (S1 (tl l)))).1.1 < l.length then ((pFaces (tl l) 90 (pEdges (tl l) 90 (S1 (tl l)))).1.1, 1) else (pFaces (tl l) 90 (pEdges (tl l) 90 (S1 (tl l)))).1, (pFaces (tl l) 90 (pEdges (tl l) 90 (S1 (tl l)))).2) = _
  rw [e, if_neg (by rintro ⟨-, q⟩; exact absurd q (Nat.lt_irrefl _))]

/-! THE REFERENCE'S READING OF THE TAPE: one token ahead. -/
theorem up_o (h : HH) {k i j : Nat} (v : Int) (n : i ≠ j) : up h k j v k i = h k i := by simp [up, n]
def mtk (h : HH) (i : Nat) : Int := if (i : Int) < h 47 7 then h 53 i else -1
def kd (z : Int) : Int := if z < 0 then 0 else if (97 ≤ z ∧ z ≤ 122) ∨ (65 ≤ z ∧ z ≤ 90) then 1 else if 48 ≤ z ∧ z ≤ 57 then 2 else if z = 44 ∨ z = 59 then 3 else 4
/-- the tape: its tokens and its length -/
def TP (h : HH) (tk : Nat → Int) (n : Nat) : Prop := mtk h = tk ∧ h 47 7 = n ∧ n ≤ 90 ∧ (∀ i, -1 ≤ tk i ∧ tk i ≤ 255) ∧ ∀ i, i < n → 0 ≤ tk i
def FRf (f f' : Nat → Int) : Prop := ∀ j, j < 8 ∨ 14 ≤ j → f' j = f j
def RD (tk : Nat → Int) (f : Nat → Int) (i : Nat) : Prop := f 9 = i ∧ f 11 = tk i ∧ f 10 = kd (tk i) ∧ f 8 = (i : Int) + (if tk i < 0 then 0 else 1)
/-- place and fault; where there is none yet, the token at the place is read -/
def LAf (tk : Nat → Int) (f : Nat → Int) (s : PF) : Prop := f 12 = s.2 ∧ (s.2 ≠ 0 → f 13 = s.1) ∧ (s.2 = 0 → RD tk f s.1) ∧ -1 ≤ f 11 ∧ f 11 ≤ 255
def Pt (h : HH) (tk : Nat → Int) (s : PF) (h' : HH) : Prop := ∃ f', h' = setc h 47 f' ∧ FRf (h 47) f' ∧ LAf tk f' s
theorem Pt.la {h : HH} {tk : Nat → Int} {s : PF} {h' : HH} (P : Pt h tk s h') : LAf tk (h' 47) s := by
  obtain ⟨f, rfl, -, L⟩ := P; rw [setc_at]; exact L
theorem Pt.ne {h : HH} {tk : Nat → Int} {s : PF} {h' : HH} (P : Pt h tk s h') {k : Nat} (hk : k ≠ 47) : h' k = h k := by
  obtain ⟨f, rfl, -, L⟩ := P; exact setc_ne _ _ hk
theorem Pt.fr {h : HH} {tk : Nat → Int} {s : PF} {h' : HH} (P : Pt h tk s h') : FRf (h 47) (h' 47) := by
  obtain ⟨f, rfl, F, L⟩ := P; rw [setc_at]; exact F
theorem TP_of {h h' : HH} {tk : Nat → Int} {n : Nat} (T : TP h tk n) (h7 : h' 47 7 = h 47 7) (h53 : h' 53 = h 53) : TP h' tk n := by
  obtain ⟨t1, t2, t3, t4⟩ := T
  refine ⟨?_, by rw [h7]; exact t2, t3, t4⟩
  rw [← t1]; funext i; unfold mtk; rw [h7, h53]
theorem Pt.tp {h : HH} {tk : Nat → Int} {s : PF} {h' : HH} (P : Pt h tk s h') {n : Nat} (T : TP h tk n) : TP h' tk n := TP_of T (P.fr 7 (Or.inl (by decide))) (P.ne (by decide))
theorem Pt.refl {h : HH} {tk : Nat → Int} {s : PF} (L : LAf tk (h 47) s) : Pt h tk s h := ⟨h 47, (setc_self h 47).symm, fun _ _ => rfl, L⟩
theorem Pt.tr {h h1 h2 : HH} {tk : Nat → Int} {s t : PF} (P : Pt h tk s h1) (P2 : Pt h1 tk t h2) : Pt h tk t h2 := by
  obtain ⟨f, rfl, F, -⟩ := P
  obtain ⟨f2, rfl, F2, L2⟩ := P2
  refine ⟨f2, setc_setc _ _ _ _, fun j hj => ?_, L2⟩
  rw [F2 j hj, setc_at]; exact F j hj
theorem tp_lt {h : HH} {tk : Nat → Int} {n : Nat} (T : TP h tk n) {i : Nat} (hi : 0 ≤ tk i) : i < n := by
  obtain ⟨rfl, t2, -, -, -⟩ := T
  unfold mtk at hi
  split at hi
  · omega
  · omega
theorem rd_of {h : HH} {tk : Nat → Int} {i : Nat} {z w q : Int} (hz : z = tk i) (hw : w = (i : Int) + (if tk i < 0 then 0 else 1)) (hq : q = kd (tk i)) : ∃ f', up (up (up (up h 47 9 (i : Int)) 47 11 z) 47 8 w) 47 10 q = setc h 47 f' ∧ FRf (h 47) f' ∧ f' 12 = h 47 12 ∧ f' 13 = h 47 13 ∧ RD tk f' i := by
  rw [up_eq h, up_setc, up_setc, up_setc]
  refine ⟨_, rfl, fun j hj => ?_, rfl, rfl, rfl, hz, hq, hw⟩
  have n1 : j ≠ 9 := by omega
  have n2 : j ≠ 11 := by omega
  have n3 : j ≠ 8 := by omega
  have n4 : j ≠ 10 := by omega
  simp only [if_neg n1, if_neg n2, if_neg n3, if_neg n4]
def bdS (s : PF) (c : Nat) : PF := if s.2 ≠ 0 then s else (s.1, c)
theorem bad_of {h : HH} {tk : Nat → Int} {s : PF} (L : LAf tk (h 47) s) (h0 : s.2 = 0) {c : Nat} (hc : c ≠ 0) {z : Int} (hz : z = s.1) : Pt h tk (bdS s c) (up (up h 47 12 (c : Int)) 47 13 z) := by
  rw [up_eq h, up_setc]
  have e : bdS s c = (s.1, c) := if_neg (fun q => q h0)
  rw [e]
  refine ⟨_, rfl, fun j hj => ?_, ?_⟩
  · have n1 : j ≠ 12 := by omega
    have n2 : j ≠ 13 := by omega
    simp only [if_neg n1, if_neg n2]
  · exact ⟨rfl, fun _ => hz, fun q => absurd q hc, L.2.2.2⟩
def goS (s : PF) : PF := if s.2 ≠ 0 then s else (s.1 + 1, 0)
theorem kd_1 {z : Int} : kd z = 1 ↔ 0 ≤ edg z := by
  unfold kd edg
  split
  · rw [if_neg (by omega), if_neg (by omega)]; omega
  · split
    · rename_i q; rcases q with q | q
      · rw [if_neg (by omega), if_pos q]; omega
      · rw [if_pos q]; omega
    · rename_i q; rw [if_neg (fun x => q (Or.inr x)), if_neg (fun x => q (Or.inl x))]
      split
      · omega
      · split <;> omega
theorem kd_2 {z : Int} : kd z = 2 ↔ 48 ≤ z ∧ z ≤ 57 := by
  unfold kd
  split
  · omega
  · split
    · omega
    · split
      · omega
      · split <;> omega
theorem kd_59 {z : Int} (hz : z = 59) : kd z = 3 := by subst hz; decide
def tld (σ : SG) (z : Int) : Int := if 0 ≤ edg z ∧ edg z < sE σ then lcd (edg z).toNat (decide (z ≤ 90)) else 0
theorem tld_any {σ : SG} {z v : Int} (h : (97 ≤ z ∧ z ≤ 122 ∧ z - 97 < sE σ ∧ v = z - 97 + 1) ∨ (65 ≤ z ∧ z ≤ 90 ∧ z - 65 < sE σ ∧ v = -(z - 65) - 1) ∨ (v = 0 ∧ ¬ (97 ≤ z ∧ z ≤ 122 ∧ z - 97 < sE σ) ∧ ¬ (65 ≤ z ∧ z ≤ 90 ∧ z - 65 < sE σ))) : v = tld σ z := by
  rcases h with ⟨h1, h2, h3, rfl⟩ | ⟨h1, h2, h3, rfl⟩ | ⟨rfl, h2, h3⟩
  · have e : edg z = z - 97 := by unfold edg; rw [if_neg (by omega), if_pos (by omega)]
    unfold tld; rw [e, if_pos (by omega), decide_eq_false (by omega)]
    unfold lcd; simp; omega
  · have e : edg z = z - 65 := by unfold edg; rw [if_pos (by omega)]
    unfold tld; rw [e, if_pos (by omega), decide_eq_true (by omega)]
    unfold lcd; simp; omega
  · unfold tld
    rw [if_neg]
    intro q
    unfold edg at q
    split at q
    · omega
    · split at q <;> omega
theorem tld_ne {σ : SG} {z : Int} (h : tld σ z ≠ 0) : ∃ e y, e < sE σ ∧ tld σ z = lcd e y ∧ z = cod e y := by
  unfold tld at h ⊢
  split at h
  · rename_i q
    rw [if_pos q]
    refine ⟨_, _, by omega, rfl, ?_⟩
    have q1 := q.1
    revert q1
    unfold edg cod
    split
    · intro _; rw [decide_eq_true (by omega)]; simp; omega
    · split
      · intro _; rw [decide_eq_false (by omega)]; simp; omega
      · intro q1; omega
  · exact absurd rfl h
theorem tld_0 {σ : SG} (hE : sE σ ≤ 6) {z : Int} (h : tld σ z = 0) {e : Nat} {y : Bool} (he : e < sE σ) (hz : z = cod e y) : False := by
  subst hz
  unfold tld at h
  rw [cod_edg y (by omega), if_pos (by omega)] at h
  have := lcd_neg e (decide (cod e y ≤ 90))
  revert h; unfold lcd; split <;> simp <;> omega
theorem ap_iff {σ : SG} (hE : sE σ ≤ 6) {n : Nat} {le : Nat → Nat} {sg : Nat → Bool} {z : Int} {e : Nat} {y : Bool} (he : e < sE σ) (hz : z = cod e y) : apOK σ n le sg z ↔ n < 4 ∧ (0 < n → bgE σ e y = enE σ (le (n - 1)) (sg (n - 1))) := by
  constructor
  · rintro ⟨h1, e', y', h2, h3, h4⟩
    obtain ⟨rfl, rfl⟩ := cod_inj (by omega) (by omega) (hz.symm.trans h2)
    exact ⟨h1, h4⟩
  · rintro ⟨h1, h2⟩; exact ⟨h1, e, y, hz, he, h2⟩
/-- the word that is being read, its letters told by le and sg -/
def WL (f : Nat → Int) (σ : SG) (F n : Nat) (le : Nat → Nat) (sg : Nat → Bool) : Prop := F < 4 ∧ n ≤ 4 ∧ f (21 + 6 * F + 1) = n ∧ ∀ k, k < n → f (21 + 6 * F + 2 + k) = lcd (le k) (sg k) ∧ le k < sE σ
theorem mbE_r {h : HH} (hR : RR h) {b : Nat} (hb : isB b) {σ : SG} (W : WB σ) (R : RM (h b) σ) {e : Nat} (he : e < sE σ) (y : Bool) : bgE σ e y < 2147483648 := by
  have r : ∀ i, R32 (h b i) := fun i => by have := hR.2.1 b (by rcases hb with rfl | rfl <;> exact Or.inl rfl) i; exact this
  have h1 := r (3 + 3 * e)
  have h2 := r (3 + 3 * e + 1)
  rw [(R.2.2.2.1 e he).1] at h1
  rw [(R.2.2.2.1 e he).2.1] at h2
  unfold bgE; split <;> omega
theorem meE_r {h : HH} (hR : RR h) {b : Nat} (hb : isB b) {σ : SG} (W : WB σ) (R : RM (h b) σ) {e : Nat} (he : e < sE σ) (y : Bool) : enE σ e y < 2147483648 := by
  have := mbE_r hR hb W R he (!y)
  unfold bgE at this; unfold enE; cases y <;> simp at * <;> omega
theorem bdS_0 {s : PF} {c : Nat} (hc : c ≠ 0) (q : (bdS s c).2 = 0) : False := by
  unfold bdS at q; split at q
  · omega
  · exact hc q
theorem tkD_b1 {tk : Nat → Int} {lo hi : Int} {s : PF} (h : s.2 = 0 → ¬ (48 ≤ tk s.1 ∧ tk s.1 ≤ 57)) : tkD tk lo hi s = (0, bdS s 1) := by
  unfold tkD bdS
  by_cases q : s.2 ≠ 0
  · rw [if_pos q, if_pos q]
  · have := h (by omega)
    rw [if_neg q, if_neg q, if_pos (by omega)]
theorem tkD_b2 {tk : Nat → Int} {lo hi : Int} {s : PF} (h : s.2 = 0 → (48 ≤ tk s.1 ∧ tk s.1 ≤ 57) ∧ ¬ (lo ≤ tk s.1 - 48 ∧ tk s.1 - 48 ≤ hi)) : tkD tk lo hi s = (0, bdS s 2) := by
  unfold tkD bdS
  by_cases q : s.2 ≠ 0
  · rw [if_pos q, if_pos q]
  · have := h (by omega)
    rw [if_neg q, if_neg q, if_neg (by omega), if_pos (by omega)]

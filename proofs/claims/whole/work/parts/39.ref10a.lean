/-- the tape is empty then, the draft's row is another; the rest stays -/
def TClrM (h h' : HH) : Prop := h' 47 7 = 0 ∧ (∀ k, k ≠ 47 → k ≠ 49 → h' k = h k) ∧ ∀ j, j ≠ 7 → h' 47 j = h 47 j
theorem RPast_keep {h h' : HH} {as : List SG} (P : RPast h as) (h3 : h' 47 3 = h 47 3) (h50 : h' 50 = h 50) : RPast h' as := by
  obtain ⟨p1, p2, p3⟩ := P
  exact ⟨p1, by rw [h3]; exact p2, fun k σ' e => by rw [h50]; exact p3 k σ' e⟩
/-- what the draft's row is when a word was read into it -/
def DR (h h5 : HH) (F : Nat) : Prop := (∀ k, k ≠ 49 → h5 k = h k) ∧ ∀ j, j < 63 → j ≤ 21 + 6 * F ∨ 21 + 6 * F + 5 < j → h5 49 j = h 48 j
theorem cpB_g (h : HH) (x y : Nat) : ∃ g, cpB h x 0 y 0 63 = setc h y g ∧ (∀ j, j < 63 → g j = h x j) ∧ ∀ j, 63 ≤ j → g j = h y j := by
  refine ⟨_, rfl, fun j hj => ?_, fun j hj => ?_⟩
  · show (if 0 ≤ j ∧ j < 0 + 63 then h x (0 + (j - 0)) else h y j) = h x j
    rw [if_pos (by omega), show 0 + (j - 0) = j by omega]
  · show (if 0 ≤ j ∧ j < 0 + 63 then h x (0 + (j - 0)) else h y j) = h y j
    rw [if_neg (by omega)]
theorem tclr_up {h h5 : HH} (hk : ∀ k, k ≠ 49 → h5 k = h k) : TClrM h (up h5 47 7 0) :=
  ⟨up_same _ _ _ _, fun k k1 k2 => by rw [up_ne _ _ _ k1]; exact hk k k2, fun j hj => by rw [up_o _ _ hj, hk 47 (by decide)]⟩
theorem kd_0 {z : Int} : kd z = 0 ↔ z < 0 := by
  unfold kd; split
  · omega
  · split
    · omega
    · split
      · omega
      · split <;> omega
theorem tkS_pr {tk : Nat → Int} {c : Int} {s : PF} : s.1 ≤ (tkS tk c s).1 := by
  unfold tkS; split
  · exact Nat.le_refl _
  · split
    · exact Nat.le_succ _
    · exact Nat.le_refl _
theorem pLets_pr {σ : SG} {tk : Nat → Int} : ∀ (m : Nat) (L : PW), L.1.1 ≤ (pLets σ tk m L).1.1
  | 0, _ => Nat.le_refl _
  | m + 1, L => by
    by_cases q : L.1.2 = 0 ∧ 0 ≤ edg (tk L.1.1)
    · rw [pLets_go q]
      refine Nat.le_trans ?_ (pLets_pr m _)
      by_cases q2 : apOK σ L.2.1 L.2.2.1 L.2.2.2 (tk L.1.1)
      · rw [pLet_t q2]; exact Nat.le_succ _
      · rw [pLet_f q2]; exact Nat.le_refl _
    · rw [pLets_stop q]; exact Nat.le_refl _
theorem pFace_pr {tk : Nat → Int} {s : PF × SG} (h0 : s.1.2 = 0) (h102 : tk s.1.1 = 102) (h : (pFace tk s).1.2 = 0) : s.1.1 < (pFace tk s).1.1 := by
  unfold pFace at h ⊢
  by_cases q : 4 ≤ sF s.2
  · rw [if_pos q] at h; exact absurd h (show ¬ (3 : Nat) = 0 by decide)
  · rw [if_neg q] at h ⊢
    dsimp only at h ⊢
    refine Nat.lt_of_lt_of_le ?_ tkS_pr
    rw [pEndW_1]
    refine Nat.lt_of_lt_of_le ?_ (pLets_pr 90 _)
    have e : tkS tk 102 s.1 = (s.1.1 + 1, 0) := by unfold tkS; rw [if_neg (by omega), if_pos h102]
    show s.1.1 < (tkD tk 1 3 (tkS tk 102 s.1)).2.1
    rw [e]
    unfold tkD
    split
    · exact Nat.lt_succ_self _
    · split
      · exact Nat.lt_succ_self _
      · split
        · exact Nat.lt_succ_self _
        · exact Nat.lt_succ_of_lt (Nat.lt_succ_self _)
theorem rm_sg0 {f : Nat → Int} {P : Nat} {z : Int} (hz : z = P) (hf : ∀ j, j < 63 → f j = 0) : RM (upn f 0 z) (sg0 P) := by
  subst hz
  refine ⟨upn_eq rfl, ?_, ?_, fun e he => absurd he (Nat.not_lt_zero _), fun k hk => absurd hk (Nat.not_lt_zero _), fun c e _ he => absurd he (Nat.not_lt_zero _)⟩
  · rw [upn_ne (by decide), hf 1 (by decide)]; rfl
  · rw [upn_ne (by decide), hf 2 (by decide)]; rfl
def zr (f : Nat → Int) (k : Nat) : Nat → Int := fun j => if j < k then 0 else f j
theorem zr_s (f : Nat → Int) (k : Nat) : upn (zr f k) k 0 = zr f (k + 1) := by
  funext j
  by_cases q : j = k
  · subst q; rw [upn_eq rfl]; unfold zr; rw [if_pos (by omega)]
  · rw [upn_ne q]; unfold zr
    by_cases q2 : j < k
    · rw [if_pos q2, if_pos (by omega)]
    · rw [if_neg q2, if_neg (by omega)]
theorem pAll_1 {tk : Nat → Int} {n : Nat} {S : PF × SG} (hS : pFaces tk 90 (pEdges tk 90 (tkS tk 59 (tkD tk 1 5 (tkS tk 99 (0, 0))).2, sg0 (tkD tk 1 5 (tkS tk 99 (0, 0))).1)) = S) : (pAll tk n).1 = (if S.1.2 = 0 ∧ S.1.1 < n then (S.1.1, 1) else S.1) ∧ (pAll tk n).2 = S.2 := by
  subst hS; exact ⟨rfl, rfl⟩
theorem dec_ok {s t : PF} {N : Nat} (h : t.2 = 0 → s.1 < t.1) (h0 : s.1 ≤ 90) (hn : 91 - s.1 < N + 1) : (if t.2 = 0 then 91 - t.1 else 0) < N := by
  split
  · rename_i q; have := h q; omega
  · omega

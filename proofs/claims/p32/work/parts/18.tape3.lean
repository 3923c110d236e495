/-- the word that the tape is (all of it), and whether it is one -/
noncomputable def pWord (σ : SG) (tk : Nat → Int) : Nat → Nat → (Nat → Nat) → (Nat → Bool) → Nat → Option (Nat × (Nat → Nat) × (Nat → Bool))
  | 0, n, le, sg, _ => @ite _ (wcl σ n le sg) (Classical.propDecidable _) (some (n, le, sg)) none
  | m + 1, n, le, sg, i => @ite _ (apOK σ n le sg (tk i)) (Classical.propDecidable _) (pWord σ tk m (n + 1) (fun k => if k = n then (edg (tk i)).toNat else le k) (fun k => if k = n then decide (tk i ≤ 90) else sg k) (i + 1)) none
theorem pWord_t {σ : SG} {tk : Nat → Int} {m n : Nat} {le : Nat → Nat} {sg : Nat → Bool} {i : Nat} (h : apOK σ n le sg (tk i)) : pWord σ tk (m + 1) n le sg i = pWord σ tk m (n + 1) (fun k => if k = n then (edg (tk i)).toNat else le k) (fun k => if k = n then decide (tk i ≤ 90) else sg k) (i + 1) := if_pos h
theorem pWord_f {σ : SG} {tk : Nat → Int} {m n : Nat} {le : Nat → Nat} {sg : Nat → Bool} {i : Nat} (h : ¬ apOK σ n le sg (tk i)) : pWord σ tk (m + 1) n le sg i = none := if_neg h
/-- what came of a word's reading -/
def RWo (h : HH) (σ : SG) (w : Option (Nat × (Nat → Nat) × (Nat → Bool))) : Prop := match w with
  | none => True
  | some (n, le, sg) => RW h n le sg ∧ ∀ k, k < n → le k < sE σ
theorem pEdges_stop {tk : Nat → Int} {s : PF × SG} (h : ¬ (s.1.2 = 0 ∧ tk s.1.1 = 101)) (n : Nat) : pEdges tk n s = s := by
  cases n with
  | zero => rfl
  | succ n => unfold pEdges; rw [if_neg h]
theorem pEdges_go {tk : Nat → Int} {s : PF × SG} (h : s.1.2 = 0 ∧ tk s.1.1 = 101) (n : Nat) : pEdges tk (n + 1) s = pEdges tk n (pEdge tk s) := by
  show (if _ then _ else _) = _
  rw [if_pos h]
theorem pFaces_stop {tk : Nat → Int} {s : PF × SG} (h : ¬ (s.1.2 = 0 ∧ tk s.1.1 = 102)) (n : Nat) : pFaces tk n s = s := by
  cases n with
  | zero => rfl
  | succ n => unfold pFaces; rw [if_neg h]
theorem pFaces_go {tk : Nat → Int} {s : PF × SG} (h : s.1.2 = 0 ∧ tk s.1.1 = 102) (n : Nat) : pFaces tk (n + 1) s = pFaces tk n (pFace tk s) := by
  show (if _ then _ else _) = _
  rw [if_pos h]
/-- reading goes on by one place at least, unless it faults; never past the end -/
theorem tkS_ok {tk : Nat → Int} {c : Int} {s : PF} (h : (tkS tk c s).2 = 0) : s.2 = 0 ∧ tk s.1 = c ∧ tkS tk c s = (s.1 + 1, 0) := by
  unfold tkS at h ⊢
  split at h
  · exact absurd h (by assumption)
  · rename_i e
    split at h
    · rename_i e2
      have e1 : s.2 = 0 := by omega
      refine ⟨e1, e2, ?_⟩
      rw [if_neg e, if_pos e2]
    · exact absurd h (show ¬ (1 : Nat) = 0 by decide)
theorem tkD_ok {tk : Nat → Int} {lo hi : Int} {s : PF} (h : (tkD tk lo hi s).2.2 = 0) : s.2 = 0 ∧ (tkD tk lo hi s).2.1 = s.1 + 1 ∧ lo ≤ (tkD tk lo hi s).1 ∧ ((tkD tk lo hi s).1 : Int) ≤ hi := by
  unfold tkD at h ⊢
  split at h
  · exact absurd h (by assumption)
  · rename_i e
    split at h
    · exact absurd h (show ¬ (1 : Nat) = 0 by decide)
    · rename_i e2
      split at h
      · exact absurd h (show ¬ (2 : Nat) = 0 by decide)
      · rename_i e3
        rw [if_neg e, if_neg e2, if_neg e3]
        refine ⟨by omega, rfl, ?_, ?_⟩ <;> simp <;> omega
theorem pEdge_ok {tk : Nat → Int} {s : PF × SG} (h : (pEdge tk s).1.2 = 0) : s.1.1 < (pEdge tk s).1.1 ∧ sE s.2 < 6 ∧ ∃ a b w, a < sP s.2 ∧ b < sP s.2 ∧ 1 ≤ w ∧ w ≤ 3 ∧ (pEdge tk s).2 = addE s.2 a b w := by
  unfold pEdge at h ⊢
  by_cases q : 6 ≤ sE s.2
  · rw [if_pos q] at h; exact absurd h (show ¬ (3 : Nat) = 0 by decide)
  · rw [if_neg q] at h ⊢
    dsimp only at h ⊢
    obtain ⟨t1, t2, t3⟩ := tkS_ok h
    obtain ⟨w1, w2, w3, w4⟩ := tkD_ok t1
    obtain ⟨b1, b2, b3, b4⟩ := tkD_ok w1
    obtain ⟨a1, a2, a3, a4⟩ := tkD_ok b1
    obtain ⟨s1, s2, s3⟩ := tkS_ok a1
    refine ⟨?_, by omega, _, _, _, ?_, ?_, ?_, ?_, if_pos h⟩
    · rw [t3]; show s.1.1 < _ + 1; rw [w2, b2, a2, s3]; show s.1.1 < s.1.1 + 1 + 1 + 1 + 1 + 1; omega
    · omega
    · omega
    · omega
    · omega
theorem pEdge_sg {tk : Nat → Int} (s : PF × SG) : (pEdge tk s).2 = s.2 ∨ (pEdge tk s).1.2 = 0 := by
  unfold pEdge
  by_cases q : 6 ≤ sE s.2
  · rw [if_pos q]; exact Or.inl rfl
  · rw [if_neg q]
    dsimp only
    split
    · right; assumption
    · exact Or.inl rfl
set_option maxRecDepth 100000 in
set_option maxHeartbeats 4000000 in
theorem c_X3_readWord {g : GG} {h : HH} {n : Nat} (hn : h 5 1 = n) (hn9 : n ≤ 90) (hB : TB h) {σ : SG} (W : WB σ) (C : RC (h 2) σ) : CnI mX3_readWord g [vr 5, vr 1, vr 7] h (fun z h' => (∀ k, k ≠ 7 → k ≠ 8 → h' k = h k) ∧ RWo h' σ (pWord σ (tkT h) n 0 (fun _ => 0) (fun _ => false) 0) ∧ z = bi (pWord σ (tkT h) n 0 (fun _ => 0) (fun _ => false) 0 ≠ none)) := by
  refine cn_q (lv := [vr 5, vr 1, vr 7, vx]) tX3_readWord.1 rfl rfl (fun hR Q hQ => ?_)
  have w1 := W.1
  have w2 := W.2.1
  have w3 := W.2.2.1
  refine z_aload_n dX3_readWord_0 rfl ?_
  refine z_callV_V (M := mX3_readWord) [] tX4_clear kX3_29 dX3_readWord_1 ⟨by decide, rfl, _, _, rfl⟩ ⟨by decide, by decide⟩ rfl (Nat.le_of_ble_eq_true rfl) rfl c_X4_clear (fun h1 q1 => ?_)
  subst q1
  refine z_iconst dX3_readWord_4 ?_
  refine z_istore_n dX3_readWord_5 (by decide) rfl ?_
  have loop6 : ∀ (nw : Nat) (i : Nat) (h1 : HH) (m : Nat) (le : Nat → Nat) (sg : Nat → Bool), (i ≤ n) → (∀ k, k ≠ 7 → k ≠ 8 → h1 k = h k) → (RW h1 m le sg) → (∀ k, k < m → le k < sE σ) → (pWord σ (tkT h) n 0 (fun _ => 0) (fun _ => false) 0 = pWord σ (tkT h) (n - i) m le sg i) → n - i < nw → Z mX3_readWord g 6 [vr 5, vr 1, vr 7, vi (i : Int)] [] h1 Q := by
    intro nw
    induction nw with
    | zero => intro i h1 m le sg hi F qw wl hL hnw; exact absurd hnw (Nat.not_lt_zero _)
    | succ nw ih6 =>
      intro i h1 m le sg hi F qw wl hL hnw
      refine z_iload_n dX3_readWord_6 rfl ?_
      refine z_aload_n dX3_readWord_7 rfl ?_
      refine z_getI fX3_15 dX3_readWord_8 (by decide) rfl rfl (fun r8 => ?_)
      refine z_icmp_ge 35 dX3_readWord_11 (by decide) (by omega) (by omega) (fun c11 => ?_) (fun c11 => ?_)
      · refine z_aload_n dX3_readWord_35 rfl ?_
        refine z_aload_n dX3_readWord_36 rfl ?_
        refine z_callV_eI (M := mX3_readWord) [_] tX4_isClosed kX3_42 dX3_readWord_37 ⟨by decide, rfl, _, _, rfl⟩ ⟨by decide, by decide⟩ rfl (Nat.le_of_ble_eq_true rfl) rfl (c_X4_isClosed isC1 W (by rw [show 1 + 1 = 2 from rfl, F 2 (by decide) (by decide)]; exact C) qw wl) ?_
        have hm0 : n - i = 0 := by rw [F 5 (by decide) (by decide)] at c11; omega
        exact z_zreturn dX3_readWord_40 rfl (by first | exact Or.inl rfl | exact Or.inr rfl | exact bi_01 _ | omega) (hQ _ _ ⟨_, rfl, (by
  rw [hm0] at hL
  rw [hL]
  refine ⟨F, ?_, ?_⟩
  · unfold pWord; split
    · exact ⟨qw, wl⟩
    · exact trivial
  · refine bi_c ?_
    unfold pWord; split
    · simp_all
    · simp_all)⟩)
      · rw [F 5 (by decide) (by decide)] at c11
        refine z_aload_n dX3_readWord_14 rfl ?_
        refine z_aload_n dX3_readWord_15 rfl ?_
        refine z_aload_n dX3_readWord_16 rfl ?_
        refine z_iload_n dX3_readWord_17 rfl ?_
        refine z_callV_eI (M := mX3_readWord) [_] tX3_token kX3_34 dX3_readWord_18 ⟨by decide, rfl, _, _, rfl⟩ ⟨by decide, by decide⟩ rfl (Nat.le_of_ble_eq_true rfl) rfl (c_X3_token (by omega)) ?_
        have t1 : tkI h1 (i : Int) = tkT h i := by unfold tkT tkI; rw [F 5 (by decide) (by decide), F 6 (by decide) (by decide)]
        rw [t1]
        have tb := tk_b hB i
        refine z_callV_I (M := mX3_readWord) [_, _] tX4_append kX3_38 dX3_readWord_21 ⟨by decide, rfl, _, _, rfl⟩ ⟨by decide, by decide⟩ rfl (Nat.le_of_ble_eq_true rfl) rfl (c_X4_append isC1 W (by rw [show 1 + 1 = 2 from rfl, F 2 (by decide) (by decide)]; exact C) qw wl (by omega)) (fun z21 h21 q21 => ?_)
        have b21 : R32 z21 := by rcases q21 with ⟨-, rfl, -⟩ | ⟨-, rfl, -⟩ <;> decide
        refine z_if_ne 29 dX3_readWord_24 (by decide) (by omega) (fun c24 => ?_) (fun c24 => ?_)
        · obtain ⟨k1, k2, k3⟩ : apOK σ m le sg (tkT h i) ∧ z21 = 1 ∧ h21 = up (up h1 8 m (tkT h i)) 7 1 ((m : Int) + 1) := by
            rcases q21 with r | ⟨-, r, -⟩
            · exact r
            · omega
          rw [k3]
          have k4 := k1.1
          obtain ⟨x, y, x1, x2, x3⟩ := k1.2
          refine z_iinc dX3_readWord_29 rfl (by decide) rfl ?_
          refine z_goto 6 dX3_readWord_32 (by decide) ?_
          have hc := pWord_t (m := n - (i + 1)) k1
          rw [show n - (i + 1) + 1 = n - i by omega] at hc
          have qp := RW_push qw k4 (e := x) (b := y) (by omega)
          rw [← x1] at qp
          have e9 : (edg (tkT h i)).toNat = x := by rw [x1, cod_edg y (by omega)]; omega
          exact ih6 (i + 1) _ _ _ _ (by omega) (fun k k7 k8 => by rw [up_ne _ _ _ k7, up_ne _ _ _ k8]; exact F k k7 k8) qp (fun k hk => by
            show (if k = m then (edg (tkT h i)).toNat else le k) < sE σ
            split
            · omega
            · exact wl k (by omega)) (hL.trans hc) (by omega)
        · obtain ⟨k1, k2, k3⟩ : ¬ apOK σ m le sg (tkT h i) ∧ z21 = 0 ∧ h21 = h1 := by
            rcases q21 with ⟨-, r, -⟩ | r
            · omega
            · exact r
          rw [k3]
          refine z_iconst dX3_readWord_27 ?_
          exact z_zreturn dX3_readWord_28 rfl (by first | exact Or.inl rfl | exact Or.inr rfl | exact bi_01 _ | omega) (hQ _ _ ⟨_, rfl, (by
  have hc : pWord σ (tkT h) (n - i) m le sg i = none := by rw [show n - i = (n - (i + 1)) + 1 by omega]; exact pWord_f k1
  rw [hL, hc]
  exact ⟨F, trivial, bi_f (fun q => q rfl)⟩)⟩)
  exact loop6 _ 0 (up h 7 1 0) 0 (fun _ => 0) (fun _ => false) (by omega) (fun k k7 _ => up_ne _ _ _ k7) ⟨up_same _ _ _ _, by decide, fun k hk => absurd hk (Nat.not_lt_zero _)⟩ (fun k hk => absurd hk (Nat.not_lt_zero _)) rfl (Nat.lt_succ_self _)

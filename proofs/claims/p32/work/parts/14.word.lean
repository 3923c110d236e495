/-- letter k of the word that is being sewn, 0 where there is none -/
def wlt (h : HH) (k : Int) : Int := if k < h 7 1 ∧ 0 ≤ k ∧ k < 4 then h 8 k.toNat else 0
theorem wlt_r {h : HH} (hR : RR h) (k : Int) : R32 (wlt h k) := by
  unfold wlt; split
  · exact hR.2.1 8 (Or.inl rfl) _
  · decide
theorem wlt_setc {h : HH} {o : Nat} (ho : isC o) (f : Nat → Int) (k : Int) : wlt (setc h (o + 1) f) k = wlt h k := by
  unfold wlt
  rcases ho with rfl | rfl <;> rw [setc_ne _ _ (by decide), setc_ne _ _ (by decide)]
theorem wlt_n {h : HH} {n : Nat} {le : Nat → Nat} {sg : Nat → Bool} (w : RW h n le sg) {k : Nat} (hk : k < n) {z : Int} (hz : z = (k : Int)) : wlt h z = cod (le k) (sg k) := by
  obtain ⟨w1, w2, w3⟩ := w
  subst hz
  unfold wlt
  rw [if_pos (by rw [w1]; omega)]
  exact w3 k hk
def apOK (σ : SG) (n : Nat) (le : Nat → Nat) (sg : Nat → Bool) (c : Int) : Prop := n < 4 ∧ ∃ (e : Nat) (b : Bool), c = cod e b ∧ e < sE σ ∧ (0 < n → bgE σ e b = enE σ (le (n - 1)) (sg (n - 1)))
def wcl (σ : SG) (n : Nat) (le : Nat → Nat) (sg : Nat → Bool) : Prop := 0 < n ∧ bgE σ (le 0) (sg 0) = enE σ (le (n - 1)) (sg (n - 1))
theorem cod_inj {e e' : Nat} {b b' : Bool} (he : e < 26) (he' : e' < 26) (h : cod e b = cod e' b') : e = e' ∧ b = b' := by
  unfold cod at h
  cases b <;> cases b' <;> simp at h ⊢ <;> omega
theorem rc_addF {f : Nat → Int} {σ : SG} (W : WB σ) (C : RC f σ) (hF : sF σ < 4) (w n : Nat) (le : Nat → Nat) (sg : Nat → Bool) (hn : n ≤ 4) {v0 v1 v2 v3 : Int} (hv : ∀ k, k < n → (if k = 0 then v0 else if k = 1 then v1 else if k = 2 then v2 else v3) = cod (le k) (sg k)) : RC (upn (upn (upn (upn (upn (upn (upn f (21 + sF σ) w) (25 + sF σ) n) (29 + sF σ * 4 + 0) v0) (29 + sF σ * 4 + 1) v1) (29 + sF σ * 4 + 2) v2) (29 + sF σ * 4 + 3) v3) 2 (sF σ + 1)) (addF σ w n le sg) := by
  obtain ⟨c1, c2, c3, c4, c5, c6⟩ := C
  have w2 := W.2.1
  refine ⟨?_, ?_, ?_, fun e he => ?_, fun k hk => ?_, fun c e hc he => ?_⟩
  · simp (disch := omega) only [upn_ne, upn_eq]; exact c1
  · simp (disch := omega) only [upn_ne, upn_eq]; exact c2
  · simp (disch := omega) only [upn_ne, upn_eq]; rfl
  · have he : e < sE σ := he
    obtain ⟨d1, d2, d3⟩ := c4 e he
    refine ⟨?_, ?_, ?_⟩ <;> simp (disch := omega) only [upn_ne, upn_eq]
    · exact d1
    · exact d2
    · exact d3
  · have hk : k < sF σ + 1 := hk
    by_cases q : k = sF σ
    · subst q
      refine ⟨?_, ?_, fun j hj => ?_⟩
      · simp (disch := omega) only [upn_ne, upn_eq]; simp [addF, sfw]
      · simp (disch := omega) only [upn_ne, upn_eq]; simp [addF, swl]
      · have hj : j < n := by simpa [addF, swl] using hj
        have e1 := hv j hj
        have e2 : cod (sle (addF σ w n le sg) (sF σ) j) (ssg (addF σ w n le sg) (sF σ) j) = cod (le j) (sg j) := by simp [addF, sle, ssg]
        rw [e2, ← e1]
        have : j = 0 ∨ j = 1 ∨ j = 2 ∨ j = 3 := by omega
        rcases this with rfl | rfl | rfl | rfl <;> simp (disch := omega) only [upn_ne, upn_eq] <;> rfl
    · obtain ⟨d1, d2, d3⟩ := c5 k (by omega)
      have w4 := W.2.2.2 k (by omega)
      refine ⟨?_, ?_, fun j hj => ?_⟩
      · simp (disch := omega) only [upn_ne, upn_eq]; rw [d1]; simp [addF, sfw, q]
      · simp (disch := omega) only [upn_ne, upn_eq]; rw [d2]; simp [addF, swl, q]
      · have hj : j < swl σ k := by simpa [addF, swl, q] using hj
        simp (disch := omega) only [upn_ne, upn_eq]; rw [d3 j hj]; simp [addF, sle, ssg, q]
  · have he : e < sE σ := he
    simp (disch := omega) only [upn_ne, upn_eq]; exact c6 c e hc he
theorem bgE_r {h : HH} {o : Nat} {σ : SG} (ho : isC o) (W : WB σ) (C : RC (h (o + 1)) σ) (hR : RR h) {e : Nat} (b : Bool) (he : e < sE σ) : R32 (bgE σ e b) := by
  have r1 := sl_r hR ho (9 + (e : Int))
  have r2 := sl_r hR ho (3 + (e : Int))
  rw [rc_to W C he] at r1
  rw [rc_fr W C he] at r2
  unfold bgE
  cases b
  · exact r2
  · exact r1
theorem enE_r {h : HH} {o : Nat} {σ : SG} (ho : isC o) (W : WB σ) (C : RC (h (o + 1)) σ) (hR : RR h) {e : Nat} (b : Bool) (he : e < sE σ) : R32 (enE σ e b) := by
  have r1 := sl_r hR ho (9 + (e : Int))
  have r2 := sl_r hR ho (3 + (e : Int))
  rw [rc_to W C he] at r1
  rw [rc_fr W C he] at r2
  unfold enE
  cases b
  · exact r1
  · exact r2
set_option maxRecDepth 100000 in
set_option maxHeartbeats 4000000 in
theorem c_X4_clear {g : GG} {h : HH}  : CnV mX4_clear g [vr 7] h (fun h' => h' = up h 7 1 0) := by
  refine cn_q (lv := [vr 7]) tX4_clear.1 rfl rfl (fun hR Q hQ => ?_)
  refine z_aload_n dX4_clear_0 rfl ?_
  refine z_iconst dX4_clear_1 ?_
  refine z_putI pX4_15 dX4_clear_2 (by decide) rfl rfl (by omega) ?_
  exact z_return dX4_clear_5 rfl (hQ _ _ ⟨rfl, rfl⟩)
set_option maxRecDepth 100000 in
set_option maxHeartbeats 4000000 in
theorem c_X4_size {g : GG} {h : HH}  : CeI mX4_size g [vr 7] h (h 7 1) := by
  refine cn_q (lv := [vr 7]) tX4_size.1 rfl rfl (fun hR Q hQ => ?_)
  refine z_aload_n dX4_size_0 rfl ?_
  refine z_getI fX4_15 dX4_size_1 (by decide) rfl rfl (fun r1 => ?_)
  exact z_ireturn dX4_size_4 rfl (hQ _ _ ⟨_, rfl, rfl, rfl⟩)
set_option maxRecDepth 100000 in
set_option maxHeartbeats 4000000 in
theorem c_X4_letterAt {g : GG} {h : HH} {k : Int} (hk : R32 k) : CeI mX4_letterAt g [vr 7, vi k] h (wlt h k) := by
  refine cn_q (lv := [vr 7, vi k]) tX4_letterAt.1 rfl rfl (fun hR Q hQ => ?_)
  refine z_iload_n dX4_letterAt_0 rfl ?_
  refine z_aload_n dX4_letterAt_1 rfl ?_
  refine z_getI fX4_15 dX4_letterAt_2 (by decide) rfl rfl (fun r2 => ?_)
  refine z_icmp_ge 29 dX4_letterAt_5 (by decide) (by omega) (by omega) (fun c5 => ?_) (fun c5 => ?_)
  · refine z_iconst dX4_letterAt_29 ?_
    exact z_ireturn dX4_letterAt_30 rfl (hQ _ _ ⟨_, rfl, (by unfold wlt; first | rw [if_pos (by omega)] | rw [if_neg (by omega)]), rfl⟩)
  · refine z_iload_n dX4_letterAt_8 rfl ?_
    refine z_aload_n dX4_letterAt_9 rfl ?_
    refine z_getR fX4_9 dX4_letterAt_10 (by decide) rfl rfl ?_
    refine z_alen dX4_letterAt_13 (by decide) rfl (by decide) ?_
    refine z_callN_eI (M := mX4_letterAt) [_, _] tX5_isWithin (by decide) dX4_letterAt_14 ⟨by decide, by decide⟩ rfl (Nat.le_of_ble_eq_true rfl) rfl (c_X5_isWithin (by omega) (by omega)) ?_
    refine z_if_eq 29 dX4_letterAt_17 (by decide) (bi_r _) (fun c17 => ?_) (fun c17 => ?_)
    · have c17 := bi_eq.mp c17
      refine z_iconst dX4_letterAt_29 ?_
      exact z_ireturn dX4_letterAt_30 rfl (hQ _ _ ⟨_, rfl, (by unfold wlt; first | rw [if_pos (by omega)] | rw [if_neg (by omega)]), rfl⟩)
    · have c17 := bi_ne.mp c17
      refine z_aload_n dX4_letterAt_20 rfl ?_
      refine z_getR fX4_9 dX4_letterAt_21 (by decide) rfl rfl ?_
      refine z_iload_n dX4_letterAt_24 rfl ?_
      refine z_iaload dX4_letterAt_25 (by decide) rfl (by omega) (by omega) (by decide) (fun r25 => ?_)
      refine z_goto 30 dX4_letterAt_26 (by decide) ?_
      exact z_ireturn dX4_letterAt_30 rfl (hQ _ _ ⟨_, rfl, (by unfold wlt; first | rw [if_pos (by omega)] | rw [if_neg (by omega)]), rfl⟩)
set_option maxRecDepth 100000 in
set_option maxHeartbeats 4000000 in
theorem c_X4_append {g : GG} {h : HH} {o : Nat} {σ : SG} (ho : isC o) (W : WB σ) (C : RC (h (o + 1)) σ) {n : Nat} {le : Nat → Nat} {sg : Nat → Bool} (w : RW h n le sg) (wl : ∀ k, k < n → le k < sE σ) {c : Int} (hc : R32 c) : CnI mX4_append g [vr 7, vr o, vi c] h (fun z h' => (apOK σ n le sg c ∧ z = 1 ∧ h' = up (up h 8 n c) 7 1 ((n : Int) + 1)) ∨ (¬ apOK σ n le sg c ∧ z = 0 ∧ h' = h)) := by
  refine cn_q (lv := [vr 7, vr o, vi c]) tX4_append.1 rfl rfl (fun hR Q hQ => ?_)
  have w1 := W.1
  have w2 := W.2.1
  have w3 := W.2.2.1
  obtain ⟨u1, u2, u3⟩ := id w
  have e1 := rc_E C
  refine z_aload_n dX4_append_0 rfl ?_
  refine z_getI fX4_15 dX4_append_1 (by decide) rfl rfl (fun r1 => ?_)
  refine z_aload_n dX4_append_4 rfl ?_
  refine z_getR fX4_9 dX4_append_5 (by decide) rfl rfl ?_
  refine z_alen dX4_append_8 (by decide) rfl (by decide) ?_
  refine z_callN_eI (M := mX4_append) [_, _] tX5_isWithin (by decide) dX4_append_9 ⟨by decide, by decide⟩ rfl (Nat.le_of_ble_eq_true rfl) rfl (c_X5_isWithin (by omega) (by omega)) ?_
  refine z_if_eq 27 dX4_append_12 (by decide) (bi_r _) (fun c12 => ?_) (fun c12 => ?_)
  · have c12 := bi_eq.mp c12
    refine z_iconst dX4_append_27 ?_
    exact z_zreturn dX4_append_28 rfl (by first | exact Or.inl rfl | exact Or.inr rfl | exact bi_01 _ | omega) (hQ _ _ ⟨_, rfl, (Or.inr ⟨fun q => c12 (by have := q.1; omega), rfl, rfl⟩)⟩)
  · have c12 := bi_ne.mp c12
    refine z_aload_n dX4_append_15 rfl ?_
    refine z_iconst dX4_append_16 ?_
    refine z_iload_n dX4_append_17 rfl ?_
    refine z_callS_eI (M := mX4_append) [_] tX4_edgeOf kX4_23 dX4_append_18 ⟨by decide, by decide⟩ rfl (Nat.le_of_ble_eq_true rfl) rfl (c_X4_edgeOf (by omega)) ?_
    refine z_callV_eI (M := mX4_append) [_, _] tX0_hasCell kX4_27 dX4_append_21 (rcvC ho) ⟨by decide, by decide⟩ rfl (Nat.le_of_ble_eq_true rfl) rfl (c_X0_hasCell ho (by omega) (by unfold edg; split <;> (try split) <;> omega)) ?_
    refine z_if_ne 29 dX4_append_24 (by decide) (bi_r _) (fun c24 => ?_) (fun c24 => ?_)
    · have c24 := bi_ne.mp c24
      rw [if_pos (by decide), e1] at c24
      obtain ⟨e, b, e2, e3, e4⟩ := cod_of c24.1
      rw [e4] at c24
      subst e3
      have w4 := wl (n - 1)
      have w5 : bgE σ e b ≤ 5 ∨ True := Or.inr trivial
      refine z_aload_n dX4_append_29 rfl ?_
      refine z_getI fX4_15 dX4_append_30 (by decide) rfl rfl (fun r30 => ?_)
      refine z_if_le 60 dX4_append_33 (by decide) (by omega) (fun c33 => ?_) (fun c33 => ?_)
      · refine z_aload_n dX4_append_60 rfl ?_
        refine z_getR fX4_9 dX4_append_61 (by decide) rfl rfl ?_
        refine z_aload_n dX4_append_64 rfl ?_
        refine z_getI fX4_15 dX4_append_65 (by decide) rfl rfl (fun r65 => ?_)
        refine z_iload_n dX4_append_68 rfl ?_
        refine z_iastore dX4_append_69 (by decide) rfl (by omega) (by omega) (by decide) (by omega) ?_
        refine z_aload_n dX4_append_70 rfl ?_
        refine z_dup dX4_append_71 rfl ?_
        refine z_getI fX4_15 dX4_append_72 (by decide) rfl rfl (fun r72 => ?_)
        refine z_iconst dX4_append_75 ?_
        refine z_iadd dX4_append_76 ?_
        rw [up_ne h _ _ (show (7 : Nat) ≠ 8 by decide)]
        refine z_putI pX4_15 dX4_append_77 (by decide) rfl rfl (by omega) ?_
        refine z_iconst dX4_append_80 ?_
        exact z_zreturn dX4_append_81 rfl (by first | exact Or.inl rfl | exact Or.inr rfl | exact bi_01 _ | omega) (hQ _ _ ⟨_, rfl, (Or.inl ⟨⟨by omega, e, b, rfl, by omega, fun q => by omega⟩, rfl, by rw [u1]; rfl⟩)⟩)
      · have b1 := bgE_r ho W C hR (e := e) b (by omega)
        have b2 := enE_r ho W C hR (e := le (n - 1)) (sg (n - 1)) (by omega)
        refine z_aload_n dX4_append_36 rfl ?_
        refine z_iload_n dX4_append_37 rfl ?_
        refine z_callV_eI (M := mX4_append) [_] tX0_beginOf kX4_32 dX4_append_38 (rcvC ho) ⟨by decide, by decide⟩ rfl (Nat.le_of_ble_eq_true rfl) rfl (c_X0_beginOf ho W C b (by omega)) ?_
        refine z_aload_n dX4_append_41 rfl ?_
        refine z_aload_n dX4_append_42 rfl ?_
        refine z_aload_n dX4_append_43 rfl ?_
        refine z_getI fX4_15 dX4_append_44 (by decide) rfl rfl (fun r44 => ?_)
        refine z_iconst dX4_append_47 ?_
        refine z_isub dX4_append_48 ?_
        refine z_callV_eI (M := mX4_append) [_] tX4_letterAt kX4_35 dX4_append_49 ⟨by decide, rfl, _, _, rfl⟩ ⟨by decide, by decide⟩ rfl (Nat.le_of_ble_eq_true rfl) rfl (c_X4_letterAt (by omega)) ?_
        rw [wlt_n w (k := n - 1) (by omega) (by omega)]
        refine z_callV_eI (M := mX4_append) [_] tX0_endOf kX4_38 dX4_append_52 (rcvC ho) ⟨by decide, by decide⟩ rfl (Nat.le_of_ble_eq_true rfl) rfl (c_X0_endOf ho W C (sg (n - 1)) (wl (n - 1) (by omega))) ?_
        refine z_icmp_eq 60 dX4_append_55 (by decide) (by omega) (by omega) (fun c55 => ?_) (fun c55 => ?_)
        · refine z_aload_n dX4_append_60 rfl ?_
          refine z_getR fX4_9 dX4_append_61 (by decide) rfl rfl ?_
          refine z_aload_n dX4_append_64 rfl ?_
          refine z_getI fX4_15 dX4_append_65 (by decide) rfl rfl (fun r65 => ?_)
          refine z_iload_n dX4_append_68 rfl ?_
          refine z_iastore dX4_append_69 (by decide) rfl (by omega) (by omega) (by decide) (by omega) ?_
          refine z_aload_n dX4_append_70 rfl ?_
          refine z_dup dX4_append_71 rfl ?_
          refine z_getI fX4_15 dX4_append_72 (by decide) rfl rfl (fun r72 => ?_)
          refine z_iconst dX4_append_75 ?_
          refine z_iadd dX4_append_76 ?_
          rw [up_ne h _ _ (show (7 : Nat) ≠ 8 by decide)]
          refine z_putI pX4_15 dX4_append_77 (by decide) rfl rfl (by omega) ?_
          refine z_iconst dX4_append_80 ?_
          exact z_zreturn dX4_append_81 rfl (by first | exact Or.inl rfl | exact Or.inr rfl | exact bi_01 _ | omega) (hQ _ _ ⟨_, rfl, (Or.inl ⟨⟨by omega, e, b, rfl, by omega, fun q => by omega⟩, rfl, by rw [u1]; rfl⟩)⟩)
        · refine z_iconst dX4_append_58 ?_
          exact z_zreturn dX4_append_59 rfl (by first | exact Or.inl rfl | exact Or.inr rfl | exact bi_01 _ | omega) (hQ _ _ ⟨_, rfl, (Or.inr ⟨fun q => c55 (by obtain ⟨-, e5, b5, q1, q2, q3⟩ := q; obtain ⟨rfl, rfl⟩ := cod_inj (by omega) (by omega) q1; have := q3 (by omega); omega), rfl, rfl⟩)⟩)
    · have c24 := bi_eq.mp c24
      rw [if_pos (by decide), e1] at c24
      refine z_iconst dX4_append_27 ?_
      exact z_zreturn dX4_append_28 rfl (by first | exact Or.inl rfl | exact Or.inr rfl | exact bi_01 _ | omega) (hQ _ _ ⟨_, rfl, (Or.inr ⟨fun q => c24 (by obtain ⟨-, e, b, q1, q2, -⟩ := q; rw [q1, cod_edg b (by omega)]; omega), rfl, rfl⟩)⟩)
set_option maxRecDepth 100000 in
set_option maxHeartbeats 4000000 in
theorem c_X4_isClosed {g : GG} {h : HH} {o : Nat} {σ : SG} (ho : isC o) (W : WB σ) (C : RC (h (o + 1)) σ) {n : Nat} {le : Nat → Nat} {sg : Nat → Bool} (w : RW h n le sg) (wl : ∀ k, k < n → le k < sE σ) : CeI mX4_isClosed g [vr 7, vr o] h (bi (wcl σ n le sg)) := by
  refine cn_q (lv := [vr 7, vr o]) tX4_isClosed.1 rfl rfl (fun hR Q hQ => ?_)
  have w1 := W.1
  have w2 := W.2.1
  have w3 := W.2.2.1
  obtain ⟨u1, u2, u3⟩ := id w
  refine z_aload_n dX4_isClosed_0 rfl ?_
  refine z_getI fX4_15 dX4_isClosed_1 (by decide) rfl rfl (fun r1 => ?_)
  refine z_if_le 37 dX4_isClosed_4 (by decide) (by omega) (fun c4 => ?_) (fun c4 => ?_)
  · refine z_iconst dX4_isClosed_37 ?_
    exact z_zreturn dX4_isClosed_38 rfl (by first | exact Or.inl rfl | exact Or.inr rfl | exact bi_01 _ | omega) (hQ _ _ ⟨_, rfl, (bi_f (fun q => by have := q.1; omega)), rfl⟩)
  · refine z_aload_n dX4_isClosed_7 rfl ?_
    refine z_aload_n dX4_isClosed_8 rfl ?_
    refine z_iconst dX4_isClosed_9 ?_
    refine z_callV_eI (M := mX4_isClosed) [_] tX4_letterAt kX4_35 dX4_isClosed_10 ⟨by decide, rfl, _, _, rfl⟩ ⟨by decide, by decide⟩ rfl (Nat.le_of_ble_eq_true rfl) rfl (c_X4_letterAt (by omega)) ?_
    rw [wlt_n w (k := 0) (z := 0) (by omega) rfl]
    refine z_callV_eI (M := mX4_isClosed) [_] tX0_beginOf kX4_32 dX4_isClosed_13 (rcvC ho) ⟨by decide, by decide⟩ rfl (Nat.le_of_ble_eq_true rfl) rfl (c_X0_beginOf ho W C (sg 0) (wl 0 (by omega))) ?_
    have b1 := bgE_r ho W C hR (e := le 0) (sg 0) (wl 0 (by omega))
    refine z_aload_n dX4_isClosed_16 rfl ?_
    refine z_aload_n dX4_isClosed_17 rfl ?_
    refine z_aload_n dX4_isClosed_18 rfl ?_
    refine z_getI fX4_15 dX4_isClosed_19 (by decide) rfl rfl (fun r19 => ?_)
    refine z_iconst dX4_isClosed_22 ?_
    refine z_isub dX4_isClosed_23 ?_
    refine z_callV_eI (M := mX4_isClosed) [_] tX4_letterAt kX4_35 dX4_isClosed_24 ⟨by decide, rfl, _, _, rfl⟩ ⟨by decide, by decide⟩ rfl (Nat.le_of_ble_eq_true rfl) rfl (c_X4_letterAt (by omega)) ?_
    rw [wlt_n w (k := n - 1) (by omega) (by omega)]
    refine z_callV_eI (M := mX4_isClosed) [_] tX0_endOf kX4_38 dX4_isClosed_27 (rcvC ho) ⟨by decide, by decide⟩ rfl (Nat.le_of_ble_eq_true rfl) rfl (c_X0_endOf ho W C (sg (n - 1)) (wl (n - 1) (by omega))) ?_
    have b2 := enE_r ho W C hR (e := le (n - 1)) (sg (n - 1)) (wl (n - 1) (by omega))
    refine z_icmp_ne 37 dX4_isClosed_30 (by decide) (by omega) (by omega) (fun c30 => ?_) (fun c30 => ?_)
    · refine z_iconst dX4_isClosed_37 ?_
      exact z_zreturn dX4_isClosed_38 rfl (by first | exact Or.inl rfl | exact Or.inr rfl | exact bi_01 _ | omega) (hQ _ _ ⟨_, rfl, (bi_f (fun q => c30 (by have := q.2; omega))), rfl⟩)
    · refine z_iconst dX4_isClosed_33 ?_
      refine z_goto 38 dX4_isClosed_34 (by decide) ?_
      exact z_zreturn dX4_isClosed_38 rfl (by first | exact Or.inl rfl | exact Or.inr rfl | exact bi_01 _ | omega) (hQ _ _ ⟨_, rfl, (bi_t ⟨by omega, by omega⟩), rfl⟩)
set_option maxRecDepth 100000 in
set_option maxHeartbeats 4000000 in
theorem c_X0_addFace {g : GG} {h : HH} {o : Nat} {σ : SG} (ho : isC o) (W : WB σ) (C : RC (h (o + 1)) σ) {n : Nat} {le : Nat → Nat} {sg : Nat → Bool} (w : RW h n le sg) {v : Nat} (hv : v < 6) (hF : sF σ < 4) : CnV mX0_addFace g [vr o, vr 7, vi (v : Int)] h (fun h' => ∃ f', h' = setc h (o + 1) f' ∧ RC f' (addF σ v n le sg)) := by
  refine cn_q (lv := [vr o, vr 7, vi (v : Int), vx, vx]) tX0_addFace.1 rfl rfl (fun hR Q hQ => ?_)
  have w1 := W.1
  have w2 := W.2.1
  have w3 := W.2.2.1
  obtain ⟨u1, u2, u3⟩ := id w
  have r0 := wlt_r hR 0
  have r1 := wlt_r hR (0 + 1)
  have r2 := wlt_r hR (0 + 1 + 1)
  have r3 := wlt_r hR (0 + 1 + 1 + 1)
  refine z_aload_n dX0_addFace_0 rfl ?_
  refine z_iconst dX0_addFace_1 ?_
  refine z_callV_eI (M := mX0_addFace) [_] tX0_sizeOf kX0_21 dX0_addFace_2 (rcvC ho) ⟨by decide, by decide⟩ rfl (Nat.le_of_ble_eq_true rfl) rfl (s_X0_sizeF ho C) ?_
  refine z_istore_n dX0_addFace_5 (by decide) rfl ?_
  refine z_iload_n dX0_addFace_6 rfl ?_
  refine z_iconst dX0_addFace_7 ?_
  refine z_icmp_lt 12 dX0_addFace_8 (by decide) (by omega) (by omega) (fun c8 => ?_) (fun c8 => ?_)
  · refine z_aload_n dX0_addFace_12 rfl ?_
    refine z_iconst dX0_addFace_13 ?_
    refine z_iload_n dX0_addFace_14 rfl ?_
    refine z_iload_n dX0_addFace_15 rfl ?_
    refine z_callV_V (M := mX0_addFace) [_, _, _] tX0_setWeight kX0_51 dX0_addFace_16 (rcvC ho) ⟨by decide, by decide⟩ rfl (Nat.le_of_ble_eq_true rfl) rfl (c_X0_setWeight ho (by omega) (by omega) (by omega)) (fun h16 q16 => ?_)
    rw [if_neg (by decide)] at q16
    subst q16
    rw [ss_n (i := 21 + sF σ) (by omega) (by omega)]
    refine z_aload_n dX0_addFace_19 rfl ?_
    refine z_bipush dX0_addFace_20 (by decide) ?_
    refine z_iload_n dX0_addFace_22 rfl ?_
    refine z_iadd dX0_addFace_23 ?_
    refine z_aload_n dX0_addFace_24 rfl ?_
    refine z_callV_eI (M := mX0_addFace) [] tX4_size kX0_58 dX0_addFace_25 ⟨by decide, rfl, _, _, rfl⟩ ⟨by decide, by decide⟩ rfl (Nat.le_of_ble_eq_true rfl) rfl c_X4_size ?_
    rw [setc_ne _ _ (by rcases ho with rfl | rfl <;> decide), u1]
    refine z_callV_V (M := mX0_addFace) [_, _] tX0_setSlot kX0_32 dX0_addFace_28 (rcvC ho) ⟨by decide, by decide⟩ rfl (Nat.le_of_ble_eq_true rfl) rfl (c_X0_setSlot ho (by omega) (by omega)) (fun h28 q28 => ?_)
    subst q28
    rw [ss_s (i := 25 + sF σ) (by omega) (by omega)]
    refine z_iconst dX0_addFace_31 ?_
    refine z_istore dX0_addFace_32 (by decide) rfl ?_
    refine z_iload dX0_addFace_34 rfl ?_
    refine z_iconst dX0_addFace_36 ?_
    refine z_icmp_ge 65 dX0_addFace_37 (by decide) (by omega) (by omega) (fun c37 => ?_) (fun c37 => ?_)
    · omega
    · refine z_aload_n dX0_addFace_40 rfl ?_
      refine z_bipush dX0_addFace_41 (by decide) ?_
      refine z_iload_n dX0_addFace_43 rfl ?_
      refine z_iconst dX0_addFace_44 ?_
      refine z_imul dX0_addFace_45 ?_
      refine z_iadd dX0_addFace_46 ?_
      refine z_iload dX0_addFace_47 rfl ?_
      refine z_iadd dX0_addFace_49 ?_
      refine z_aload_n dX0_addFace_50 rfl ?_
      refine z_iload dX0_addFace_51 rfl ?_
      refine z_callV_eI (M := mX0_addFace) [_] tX4_letterAt kX0_62 dX0_addFace_53 ⟨by decide, rfl, _, _, rfl⟩ ⟨by decide, by decide⟩ rfl (Nat.le_of_ble_eq_true rfl) rfl (c_X4_letterAt (by omega)) ?_
      rw [wlt_setc ho]
      refine z_callV_V (M := mX0_addFace) [_, _] tX0_setSlot kX0_32 dX0_addFace_56 (rcvC ho) ⟨by decide, by decide⟩ rfl (Nat.le_of_ble_eq_true rfl) rfl (c_X0_setSlot ho (by omega) (by omega)) (fun h56 q56 => ?_)
      subst q56
      rw [ss_s (i := 29 + sF σ * 4 + 0) (by omega) (by omega)]
      refine z_iinc dX0_addFace_59 rfl (by decide) rfl ?_
      refine z_goto 34 dX0_addFace_62 (by decide) ?_
      refine z_iload dX0_addFace_34 rfl ?_
      refine z_iconst dX0_addFace_36 ?_
      refine z_icmp_ge 65 dX0_addFace_37 (by decide) (by omega) (by omega) (fun c37 => ?_) (fun c37 => ?_)
      · omega
      · refine z_aload_n dX0_addFace_40 rfl ?_
        refine z_bipush dX0_addFace_41 (by decide) ?_
        refine z_iload_n dX0_addFace_43 rfl ?_
        refine z_iconst dX0_addFace_44 ?_
        refine z_imul dX0_addFace_45 ?_
        refine z_iadd dX0_addFace_46 ?_
        refine z_iload dX0_addFace_47 rfl ?_
        refine z_iadd dX0_addFace_49 ?_
        refine z_aload_n dX0_addFace_50 rfl ?_
        refine z_iload dX0_addFace_51 rfl ?_
        refine z_callV_eI (M := mX0_addFace) [_] tX4_letterAt kX0_62 dX0_addFace_53 ⟨by decide, rfl, _, _, rfl⟩ ⟨by decide, by decide⟩ rfl (Nat.le_of_ble_eq_true rfl) rfl (c_X4_letterAt (by omega)) ?_
        rw [wlt_setc ho]
        refine z_callV_V (M := mX0_addFace) [_, _] tX0_setSlot kX0_32 dX0_addFace_56 (rcvC ho) ⟨by decide, by decide⟩ rfl (Nat.le_of_ble_eq_true rfl) rfl (c_X0_setSlot ho (by omega) (by omega)) (fun h56 q56 => ?_)
        subst q56
        rw [ss_s (i := 29 + sF σ * 4 + 1) (by omega) (by omega)]
        refine z_iinc dX0_addFace_59 rfl (by decide) rfl ?_
        refine z_goto 34 dX0_addFace_62 (by decide) ?_
        refine z_iload dX0_addFace_34 rfl ?_
        refine z_iconst dX0_addFace_36 ?_
        refine z_icmp_ge 65 dX0_addFace_37 (by decide) (by omega) (by omega) (fun c37 => ?_) (fun c37 => ?_)
        · omega
        · refine z_aload_n dX0_addFace_40 rfl ?_
          refine z_bipush dX0_addFace_41 (by decide) ?_
          refine z_iload_n dX0_addFace_43 rfl ?_
          refine z_iconst dX0_addFace_44 ?_
          refine z_imul dX0_addFace_45 ?_
          refine z_iadd dX0_addFace_46 ?_
          refine z_iload dX0_addFace_47 rfl ?_
          refine z_iadd dX0_addFace_49 ?_
          refine z_aload_n dX0_addFace_50 rfl ?_
          refine z_iload dX0_addFace_51 rfl ?_
          refine z_callV_eI (M := mX0_addFace) [_] tX4_letterAt kX0_62 dX0_addFace_53 ⟨by decide, rfl, _, _, rfl⟩ ⟨by decide, by decide⟩ rfl (Nat.le_of_ble_eq_true rfl) rfl (c_X4_letterAt (by omega)) ?_
          rw [wlt_setc ho]
          refine z_callV_V (M := mX0_addFace) [_, _] tX0_setSlot kX0_32 dX0_addFace_56 (rcvC ho) ⟨by decide, by decide⟩ rfl (Nat.le_of_ble_eq_true rfl) rfl (c_X0_setSlot ho (by omega) (by omega)) (fun h56 q56 => ?_)
          subst q56
          rw [ss_s (i := 29 + sF σ * 4 + 2) (by omega) (by omega)]
          refine z_iinc dX0_addFace_59 rfl (by decide) rfl ?_
          refine z_goto 34 dX0_addFace_62 (by decide) ?_
          refine z_iload dX0_addFace_34 rfl ?_
          refine z_iconst dX0_addFace_36 ?_
          refine z_icmp_ge 65 dX0_addFace_37 (by decide) (by omega) (by omega) (fun c37 => ?_) (fun c37 => ?_)
          · omega
          · refine z_aload_n dX0_addFace_40 rfl ?_
            refine z_bipush dX0_addFace_41 (by decide) ?_
            refine z_iload_n dX0_addFace_43 rfl ?_
            refine z_iconst dX0_addFace_44 ?_
            refine z_imul dX0_addFace_45 ?_
            refine z_iadd dX0_addFace_46 ?_
            refine z_iload dX0_addFace_47 rfl ?_
            refine z_iadd dX0_addFace_49 ?_
            refine z_aload_n dX0_addFace_50 rfl ?_
            refine z_iload dX0_addFace_51 rfl ?_
            refine z_callV_eI (M := mX0_addFace) [_] tX4_letterAt kX0_62 dX0_addFace_53 ⟨by decide, rfl, _, _, rfl⟩ ⟨by decide, by decide⟩ rfl (Nat.le_of_ble_eq_true rfl) rfl (c_X4_letterAt (by omega)) ?_
            rw [wlt_setc ho]
            refine z_callV_V (M := mX0_addFace) [_, _] tX0_setSlot kX0_32 dX0_addFace_56 (rcvC ho) ⟨by decide, by decide⟩ rfl (Nat.le_of_ble_eq_true rfl) rfl (c_X0_setSlot ho (by omega) (by omega)) (fun h56 q56 => ?_)
            subst q56
            rw [ss_s (i := 29 + sF σ * 4 + 3) (by omega) (by omega)]
            refine z_iinc dX0_addFace_59 rfl (by decide) rfl ?_
            refine z_goto 34 dX0_addFace_62 (by decide) ?_
            refine z_iload dX0_addFace_34 rfl ?_
            refine z_iconst dX0_addFace_36 ?_
            refine z_icmp_ge 65 dX0_addFace_37 (by decide) (by omega) (by omega) (fun c37 => ?_) (fun c37 => ?_)
            · refine z_aload_n dX0_addFace_65 rfl ?_
              refine z_iconst dX0_addFace_66 ?_
              refine z_iload_n dX0_addFace_67 rfl ?_
              refine z_iconst dX0_addFace_68 ?_
              refine z_iadd dX0_addFace_69 ?_
              refine z_callV_V (M := mX0_addFace) [_, _] tX0_setSlot kX0_32 dX0_addFace_70 (rcvC ho) ⟨by decide, by decide⟩ rfl (Nat.le_of_ble_eq_true rfl) rfl (c_X0_setSlot ho (by omega) (by omega)) (fun h70 q70 => ?_)
              subst q70
              rw [ss_s (i := 2) (by omega) (by omega)]
              exact z_return dX0_addFace_73 rfl (hQ _ _ ⟨rfl, ⟨_, rfl, rc_addF W C hF v n le sg u2 (fun k hk => by
  have : k = 0 ∨ k = 1 ∨ k = 2 ∨ k = 3 := by omega
  rcases this with rfl | rfl | rfl | rfl
  · exact wlt_n w hk rfl
  · exact wlt_n w hk rfl
  · exact wlt_n w hk rfl
  · exact wlt_n w hk rfl)⟩⟩)
            · omega
  · omega

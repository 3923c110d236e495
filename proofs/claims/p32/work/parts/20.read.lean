theorem s_X0_has0 {g : GG} {h : HH} {o : Nat} {σ : SG} (ho : isC o) (C : RC (h (o + 1)) σ) {c : Int} (hc : R32 c) : CeI mX0_hasCell g [vr o, vi 0, vi c] h (bi (0 ≤ c ∧ c < sP σ)) := by
  have := c_X0_hasCell (g := g) (h := h) ho (d := 0) (by decide) hc
  rw [if_pos (by decide), rc_P C] at this
  exact this
theorem s_X0_has1 {g : GG} {h : HH} {o : Nat} {σ : SG} (ho : isC o) (C : RC (h (o + 1)) σ) {c : Int} (hc : R32 c) : CeI mX0_hasCell g [vr o, vi 1, vi c] h (bi (0 ≤ c ∧ c < sE σ)) := by
  have := c_X0_hasCell (g := g) (h := h) ho (d := 1) (by decide) hc
  rw [if_pos (by decide), rc_E C] at this
  exact this
theorem s_X0_has2 {g : GG} {h : HH} {o : Nat} {σ : SG} (ho : isC o) (C : RC (h (o + 1)) σ) {c : Int} (hc : R32 c) : CeI mX0_hasCell g [vr o, vi 2, vi c] h (bi (0 ≤ c ∧ c < sF σ)) := by
  have := c_X0_hasCell (g := g) (h := h) ho (d := 2) (by decide) hc
  rw [if_pos (by decide), rc_F C] at this
  exact this
theorem s_X0_hasN {g : GG} {h : HH} {o : Nat} (ho : isC o) {d c : Int} (hd : R32 d) (hn : ¬ (0 ≤ d ∧ d ≤ 2)) (hc : R32 c) : CeI mX0_hasCell g [vr o, vi d, vi c] h (bi (0 ≤ c ∧ c < 0)) := by
  have := c_X0_hasCell (g := g) (h := h) ho hd hc
  rw [if_neg hn] at this
  exact this
theorem s_X0_isThere {g : GG} {h : HH} {o : Nat} {σ : SG} (ho : isC o) (C : RC (h (o + 1)) σ) : CeI mX0_isThere g [vr o] h (bi (0 < sP σ)) := by
  have := c_X0_isThere (g := g) (h := h) ho
  rw [rc_P C] at this
  rw [show (0 < sP σ) = ((0 : Int) < (sP σ : Int)) from by simp]
  exact this
def kBAD : Int := -1000001
def kSTATE : Int := -1000002
def kFULL : Int := -1000003
def kNONE : Int := -1000000
theorem rc_cnt {h : HH} {o : Nat} {σ : SG} (C : RC (h (o + 1)) σ) {w : Int} (hw : 0 ≤ w ∧ w ≤ 2) (a b c : Int) : (if 0 ≤ w ∧ w ≤ 2 then sl h o w else 0) = (if w = 0 then (sP σ : Int) else if w = 1 then (sE σ : Int) else if w = 2 then (sF σ : Int) else if w = 3 then a else if w = 4 then b else c) := by
  rw [if_pos hw]
  rcases (show w = 0 ∨ w = 1 ∨ w = 2 by omega) with e | e | e
  · subst e; exact rc_P C
  · subst e; exact rc_E C
  · subst e; exact rc_F C
set_option maxRecDepth 100000 in
set_option maxHeartbeats 4000000 in
theorem c_X5_isChain {g : GG} {h : HH} {z : Int} (hz : R32 z) : CeI mX5_isChain g [vi z] h (bi (0 ≤ z ∧ z < 3)) := by
  refine cn_q (lv := [vi z]) tX5_isChain.1 rfl rfl (fun hR Q hQ => ?_)
  refine z_iload_n dX5_isChain_0 rfl ?_
  refine z_iconst dX5_isChain_1 ?_
  refine z_callS_eI (M := mX5_isChain) [_, _] tX5_isWithin kX5_101 dX5_isChain_2 ⟨by decide, by decide⟩ rfl (Nat.le_of_ble_eq_true rfl) rfl (c_X5_isWithin (by omega) (by omega)) ?_
  exact z_zreturn dX5_isChain_5 rfl (by first | exact Or.inl rfl | exact Or.inr rfl | exact bi_01 _ | omega) (hQ _ _ ⟨_, rfl, rfl, rfl⟩)
set_option maxRecDepth 100000 in
set_option maxHeartbeats 4000000 in
theorem c_X5_isWeight {g : GG} {h : HH} {z : Int} (hz : R32 z) : CeI mX5_isWeight g [vi z] h (bi (1 ≤ z ∧ z ≤ 3)) := by
  refine cn_q (lv := [vi z]) tX5_isWeight.1 rfl rfl (fun hR Q hQ => ?_)
  refine z_iload_n dX5_isWeight_0 rfl ?_
  refine z_iconst dX5_isWeight_1 ?_
  refine z_icmp_lt 14 dX5_isWeight_2 (by decide) (by omega) (by omega) (fun c2 => ?_) (fun c2 => ?_)
  · refine z_iconst dX5_isWeight_14 ?_
    exact z_zreturn dX5_isWeight_15 rfl (by first | exact Or.inl rfl | exact Or.inr rfl | exact bi_01 _ | omega) (hQ _ _ ⟨_, rfl, (by first | (exfalso; omega) | exact bi_t (by omega) | exact bi_f (by omega)), rfl⟩)
  · refine z_iload_n dX5_isWeight_5 rfl ?_
    refine z_iconst dX5_isWeight_6 ?_
    refine z_icmp_gt 14 dX5_isWeight_7 (by decide) (by omega) (by omega) (fun c7 => ?_) (fun c7 => ?_)
    · refine z_iconst dX5_isWeight_14 ?_
      exact z_zreturn dX5_isWeight_15 rfl (by first | exact Or.inl rfl | exact Or.inr rfl | exact bi_01 _ | omega) (hQ _ _ ⟨_, rfl, (by first | (exfalso; omega) | exact bi_t (by omega) | exact bi_f (by omega)), rfl⟩)
    · refine z_iconst dX5_isWeight_10 ?_
      refine z_goto 15 dX5_isWeight_11 (by decide) ?_
      exact z_zreturn dX5_isWeight_15 rfl (by first | exact Or.inl rfl | exact Or.inr rfl | exact bi_01 _ | omega) (hQ _ _ ⟨_, rfl, (by first | (exfalso; omega) | exact bi_t (by omega) | exact bi_f (by omega)), rfl⟩)
set_option maxRecDepth 100000 in
set_option maxHeartbeats 4000000 in
theorem c_X5_isNumber {g : GG} {h : HH} {z : Int} (hz : R32 z) : CeI mX5_isNumber g [vi z] h (bi (-9 ≤ z ∧ z ≤ 9)) := by
  refine cn_q (lv := [vi z]) tX5_isNumber.1 rfl rfl (fun hR Q hQ => ?_)
  refine z_iload_n dX5_isNumber_0 rfl ?_
  refine z_bipush dX5_isNumber_1 (by decide) ?_
  refine z_icmp_lt 16 dX5_isNumber_3 (by decide) (by omega) (by omega) (fun c3 => ?_) (fun c3 => ?_)
  · refine z_iconst dX5_isNumber_16 ?_
    exact z_zreturn dX5_isNumber_17 rfl (by first | exact Or.inl rfl | exact Or.inr rfl | exact bi_01 _ | omega) (hQ _ _ ⟨_, rfl, (by first | (exfalso; omega) | exact bi_t (by omega) | exact bi_f (by omega)), rfl⟩)
  · refine z_iload_n dX5_isNumber_6 rfl ?_
    refine z_bipush dX5_isNumber_7 (by decide) ?_
    refine z_icmp_gt 16 dX5_isNumber_9 (by decide) (by omega) (by omega) (fun c9 => ?_) (fun c9 => ?_)
    · refine z_iconst dX5_isNumber_16 ?_
      exact z_zreturn dX5_isNumber_17 rfl (by first | exact Or.inl rfl | exact Or.inr rfl | exact bi_01 _ | omega) (hQ _ _ ⟨_, rfl, (by first | (exfalso; omega) | exact bi_t (by omega) | exact bi_f (by omega)), rfl⟩)
    · refine z_iconst dX5_isNumber_12 ?_
      refine z_goto 17 dX5_isNumber_13 (by decide) ?_
      exact z_zreturn dX5_isNumber_17 rfl (by first | exact Or.inl rfl | exact Or.inr rfl | exact bi_01 _ | omega) (hQ _ _ ⟨_, rfl, (by first | (exfalso; omega) | exact bi_t (by omega) | exact bi_f (by omega)), rfl⟩)
set_option maxRecDepth 100000 in
set_option maxHeartbeats 4000000 in
theorem c_X5_isField {g : GG} {h : HH} {z : Int} (hz : R32 z) : CeI mX5_isField g [vi z] h (bi (z = 0 ∨ z = 2 ∨ z = 3 ∨ z = 5 ∨ z = 7)) := by
  refine cn_q (lv := [vi z]) tX5_isField.1 rfl rfl (fun hR Q hQ => ?_)
  refine z_iload_n dX5_isField_0 rfl ?_
  refine z_if_eq 25 dX5_isField_1 (by decide) (by omega) (fun c1 => ?_) (fun c1 => ?_)
  · refine z_iconst dX5_isField_25 ?_
    refine z_goto 30 dX5_isField_26 (by decide) ?_
    exact z_zreturn dX5_isField_30 rfl (by first | exact Or.inl rfl | exact Or.inr rfl | exact bi_01 _ | omega) (hQ _ _ ⟨_, rfl, (by first | (exfalso; omega) | exact bi_t (by omega) | exact bi_f (by omega)), rfl⟩)
  · refine z_iload_n dX5_isField_4 rfl ?_
    refine z_iconst dX5_isField_5 ?_
    refine z_icmp_eq 25 dX5_isField_6 (by decide) (by omega) (by omega) (fun c6 => ?_) (fun c6 => ?_)
    · refine z_iconst dX5_isField_25 ?_
      refine z_goto 30 dX5_isField_26 (by decide) ?_
      exact z_zreturn dX5_isField_30 rfl (by first | exact Or.inl rfl | exact Or.inr rfl | exact bi_01 _ | omega) (hQ _ _ ⟨_, rfl, (by first | (exfalso; omega) | exact bi_t (by omega) | exact bi_f (by omega)), rfl⟩)
    · refine z_iload_n dX5_isField_9 rfl ?_
      refine z_iconst dX5_isField_10 ?_
      refine z_icmp_eq 25 dX5_isField_11 (by decide) (by omega) (by omega) (fun c11 => ?_) (fun c11 => ?_)
      · refine z_iconst dX5_isField_25 ?_
        refine z_goto 30 dX5_isField_26 (by decide) ?_
        exact z_zreturn dX5_isField_30 rfl (by first | exact Or.inl rfl | exact Or.inr rfl | exact bi_01 _ | omega) (hQ _ _ ⟨_, rfl, (by first | (exfalso; omega) | exact bi_t (by omega) | exact bi_f (by omega)), rfl⟩)
      · refine z_iload_n dX5_isField_14 rfl ?_
        refine z_iconst dX5_isField_15 ?_
        refine z_icmp_eq 25 dX5_isField_16 (by decide) (by omega) (by omega) (fun c16 => ?_) (fun c16 => ?_)
        · refine z_iconst dX5_isField_25 ?_
          refine z_goto 30 dX5_isField_26 (by decide) ?_
          exact z_zreturn dX5_isField_30 rfl (by first | exact Or.inl rfl | exact Or.inr rfl | exact bi_01 _ | omega) (hQ _ _ ⟨_, rfl, (by first | (exfalso; omega) | exact bi_t (by omega) | exact bi_f (by omega)), rfl⟩)
        · refine z_iload_n dX5_isField_19 rfl ?_
          refine z_bipush dX5_isField_20 (by decide) ?_
          refine z_icmp_ne 29 dX5_isField_22 (by decide) (by omega) (by omega) (fun c22 => ?_) (fun c22 => ?_)
          · refine z_iconst dX5_isField_29 ?_
            exact z_zreturn dX5_isField_30 rfl (by first | exact Or.inl rfl | exact Or.inr rfl | exact bi_01 _ | omega) (hQ _ _ ⟨_, rfl, (by first | (exfalso; omega) | exact bi_t (by omega) | exact bi_f (by omega)), rfl⟩)
          · refine z_iconst dX5_isField_25 ?_
            refine z_goto 30 dX5_isField_26 (by decide) ?_
            exact z_zreturn dX5_isField_30 rfl (by first | exact Or.inl rfl | exact Or.inr rfl | exact bi_01 _ | omega) (hQ _ _ ⟨_, rfl, (by first | (exfalso; omega) | exact bi_t (by omega) | exact bi_f (by omega)), rfl⟩)
set_option maxRecDepth 100000 in
set_option maxHeartbeats 4000000 in
theorem c_X5_upper1 {g : GG} {h : HH} {σ : SG} (W : WF σ) (C : RC (h 2) σ) {c : Int} (hc : R32 c) : CeI mX5_isUpperCell g [vr 0, vi 1, vi c] h (bi (0 ≤ c ∧ c < sE σ)) := by
  refine cn_q (lv := [vr 0, vi 1, vi c]) tX5_isUpperCell.1 rfl rfl (fun hR Q hQ => ?_)
  refine z_iload_n dX5_isUpperCell_0 rfl ?_
  refine z_if_eq 20 dX5_isUpperCell_1 (by decide) (by omega) (fun c1 => ?_) (fun c1 => ?_)
  · omega
  · refine z_aload_n dX5_isUpperCell_4 rfl ?_
    refine z_getR fX5_10 dX5_isUpperCell_5 (by decide) rfl rfl ?_
    refine z_iload_n dX5_isUpperCell_8 rfl ?_
    refine z_iload_n dX5_isUpperCell_9 rfl ?_
    refine z_callV_eI (M := mX5_isUpperCell) [_, _] tX0_hasCell kX5_127 dX5_isUpperCell_10 ⟨by decide, rfl, _, _, rfl⟩ ⟨by decide, by decide⟩ rfl (Nat.le_of_ble_eq_true rfl) rfl (s_X0_has1 isC1 C (by omega)) ?_
    refine z_if_eq 20 dX5_isUpperCell_13 (by decide) (bi_r _) (fun c13 => ?_) (fun c13 => ?_)
    · have c13 := bi_eq.mp c13
      refine z_iconst dX5_isUpperCell_20 ?_
      exact z_zreturn dX5_isUpperCell_21 rfl (by first | exact Or.inl rfl | exact Or.inr rfl | exact bi_01 _ | omega) (hQ _ _ ⟨_, rfl, (bi_f c13), rfl⟩)
    · have c13 := bi_ne.mp c13
      refine z_iconst dX5_isUpperCell_16 ?_
      refine z_goto 21 dX5_isUpperCell_17 (by decide) ?_
      exact z_zreturn dX5_isUpperCell_21 rfl (by first | exact Or.inl rfl | exact Or.inr rfl | exact bi_01 _ | omega) (hQ _ _ ⟨_, rfl, (bi_t c13), rfl⟩)
set_option maxRecDepth 100000 in
set_option maxHeartbeats 4000000 in
theorem c_X5_upper2 {g : GG} {h : HH} {σ : SG} (W : WF σ) (C : RC (h 2) σ) {c : Int} (hc : R32 c) : CeI mX5_isUpperCell g [vr 0, vi 2, vi c] h (bi (0 ≤ c ∧ c < sF σ)) := by
  refine cn_q (lv := [vr 0, vi 2, vi c]) tX5_isUpperCell.1 rfl rfl (fun hR Q hQ => ?_)
  refine z_iload_n dX5_isUpperCell_0 rfl ?_
  refine z_if_eq 20 dX5_isUpperCell_1 (by decide) (by omega) (fun c1 => ?_) (fun c1 => ?_)
  · omega
  · refine z_aload_n dX5_isUpperCell_4 rfl ?_
    refine z_getR fX5_10 dX5_isUpperCell_5 (by decide) rfl rfl ?_
    refine z_iload_n dX5_isUpperCell_8 rfl ?_
    refine z_iload_n dX5_isUpperCell_9 rfl ?_
    refine z_callV_eI (M := mX5_isUpperCell) [_, _] tX0_hasCell kX5_127 dX5_isUpperCell_10 ⟨by decide, rfl, _, _, rfl⟩ ⟨by decide, by decide⟩ rfl (Nat.le_of_ble_eq_true rfl) rfl (s_X0_has2 isC1 C (by omega)) ?_
    refine z_if_eq 20 dX5_isUpperCell_13 (by decide) (bi_r _) (fun c13 => ?_) (fun c13 => ?_)
    · have c13 := bi_eq.mp c13
      refine z_iconst dX5_isUpperCell_20 ?_
      exact z_zreturn dX5_isUpperCell_21 rfl (by first | exact Or.inl rfl | exact Or.inr rfl | exact bi_01 _ | omega) (hQ _ _ ⟨_, rfl, (bi_f c13), rfl⟩)
    · have c13 := bi_ne.mp c13
      refine z_iconst dX5_isUpperCell_16 ?_
      refine z_goto 21 dX5_isUpperCell_17 (by decide) ?_
      exact z_zreturn dX5_isUpperCell_21 rfl (by first | exact Or.inl rfl | exact Or.inr rfl | exact bi_01 _ | omega) (hQ _ _ ⟨_, rfl, (bi_t c13), rfl⟩)
set_option maxRecDepth 100000 in
set_option maxHeartbeats 4000000 in
theorem c_X5_upperN {g : GG} {h : HH} {σ : SG} (W : WF σ) (C : RC (h 2) σ) {d : Int} (hd : R32 d) (hn : d ≠ 1 ∧ d ≠ 2) {c : Int} (hc : R32 c) : CeI mX5_isUpperCell g [vr 0, vi d, vi c] h (bi False) := by
  refine cn_q (lv := [vr 0, vi d, vi c]) tX5_isUpperCell.1 rfl rfl (fun hR Q hQ => ?_)
  refine z_iload_n dX5_isUpperCell_0 rfl ?_
  refine z_if_eq 20 dX5_isUpperCell_1 (by decide) (by omega) (fun c1 => ?_) (fun c1 => ?_)
  · refine z_iconst dX5_isUpperCell_20 ?_
    exact z_zreturn dX5_isUpperCell_21 rfl (by first | exact Or.inl rfl | exact Or.inr rfl | exact bi_01 _ | omega) (hQ _ _ ⟨_, rfl, (bi_f (fun q => q)), rfl⟩)
  · refine z_aload_n dX5_isUpperCell_4 rfl ?_
    refine z_getR fX5_10 dX5_isUpperCell_5 (by decide) rfl rfl ?_
    refine z_iload_n dX5_isUpperCell_8 rfl ?_
    refine z_iload_n dX5_isUpperCell_9 rfl ?_
    refine z_callV_eI (M := mX5_isUpperCell) [_, _] tX0_hasCell kX5_127 dX5_isUpperCell_10 ⟨by decide, rfl, _, _, rfl⟩ ⟨by decide, by decide⟩ rfl (Nat.le_of_ble_eq_true rfl) rfl (s_X0_hasN isC1 (by omega) (by omega) (by omega)) ?_
    refine z_if_eq 20 dX5_isUpperCell_13 (by decide) (bi_r _) (fun c13 => ?_) (fun c13 => ?_)
    · have c13 := bi_eq.mp c13
      refine z_iconst dX5_isUpperCell_20 ?_
      exact z_zreturn dX5_isUpperCell_21 rfl (by first | exact Or.inl rfl | exact Or.inr rfl | exact bi_01 _ | omega) (hQ _ _ ⟨_, rfl, (bi_f (fun q => q)), rfl⟩)
    · have c13 := bi_ne.mp c13
      refine z_iconst dX5_isUpperCell_16 ?_
      refine z_goto 21 dX5_isUpperCell_17 (by decide) ?_
      exact z_zreturn dX5_isUpperCell_21 rfl (by first | exact Or.inl rfl | exact Or.inr rfl | exact bi_01 _ | omega) (hQ _ _ ⟨_, rfl, (by exfalso; omega), rfl⟩)
set_option maxRecDepth 100000 in
set_option maxHeartbeats 4000000 in
theorem c_X5_cellN {g : GG} {h : HH} {σ : SG} (W : WF σ) (C : RC (h 2) σ) {d : Int} (hd : R32 d) (hn : d ≠ 1 ∧ d ≠ 2) {c : Int} (hc : R32 c) {w : Int} (hw : R32 w) : CeI mX5_cell g [vr 0, vi d, vi c, vi w] h kBAD := by
  refine cn_q (lv := [vr 0, vi d, vi c, vi w, vx]) tX5_cell.1 rfl rfl (fun hR Q hQ => ?_)
  refine z_aload_n dX5_cell_0 rfl ?_
  refine z_iload_n dX5_cell_1 rfl ?_
  refine z_iload_n dX5_cell_2 rfl ?_
  refine z_callV_eI (M := mX5_cell) [_, _] tX5_isUpperCell kX5_106 dX5_cell_3 ⟨by decide, rfl, _, _, rfl⟩ ⟨by decide, by decide⟩ rfl (Nat.le_of_ble_eq_true rfl) rfl (c_X5_upperN W C (by omega) hn (by omega)) ?_
  refine z_if_ne 12 dX5_cell_6 (by decide) (bi_r _) (fun c6 => ?_) (fun c6 => ?_)
  · have c6 := bi_ne.mp c6
    exact c6.elim
  · have c6 := bi_eq.mp c6
    refine z_ldc (-1000001) dX5_cell_9 qX5_65 rfl ?_
    exact z_ireturn dX5_cell_11 rfl (hQ _ _ ⟨_, rfl, rfl, rfl⟩)
set_option maxRecDepth 100000 in
set_option maxHeartbeats 4000000 in
theorem c_X5_cellO1 {g : GG} {h : HH} {σ : SG} (W : WF σ) (C : RC (h 2) σ) {c : Int} (hc : R32 c) (ho : ¬ (0 ≤ c ∧ c < sE σ)) {w : Int} (hw : R32 w) : CeI mX5_cell g [vr 0, vi 1, vi c, vi w] h kBAD := by
  refine cn_q (lv := [vr 0, vi 1, vi c, vi w, vx]) tX5_cell.1 rfl rfl (fun hR Q hQ => ?_)
  refine z_aload_n dX5_cell_0 rfl ?_
  refine z_iload_n dX5_cell_1 rfl ?_
  refine z_iload_n dX5_cell_2 rfl ?_
  refine z_callV_eI (M := mX5_cell) [_, _] tX5_isUpperCell kX5_106 dX5_cell_3 ⟨by decide, rfl, _, _, rfl⟩ ⟨by decide, by decide⟩ rfl (Nat.le_of_ble_eq_true rfl) rfl (c_X5_upper1 W C (by omega)) ?_
  refine z_if_ne 12 dX5_cell_6 (by decide) (bi_r _) (fun c6 => ?_) (fun c6 => ?_)
  · have c6 := bi_ne.mp c6
    exact absurd c6 ho
  · have c6 := bi_eq.mp c6
    refine z_ldc (-1000001) dX5_cell_9 qX5_65 rfl ?_
    exact z_ireturn dX5_cell_11 rfl (hQ _ _ ⟨_, rfl, rfl, rfl⟩)
set_option maxRecDepth 100000 in
set_option maxHeartbeats 4000000 in
theorem c_X5_cellO2 {g : GG} {h : HH} {σ : SG} (W : WF σ) (C : RC (h 2) σ) {c : Int} (hc : R32 c) (ho : ¬ (0 ≤ c ∧ c < sF σ)) {w : Int} (hw : R32 w) : CeI mX5_cell g [vr 0, vi 2, vi c, vi w] h kBAD := by
  refine cn_q (lv := [vr 0, vi 2, vi c, vi w, vx]) tX5_cell.1 rfl rfl (fun hR Q hQ => ?_)
  refine z_aload_n dX5_cell_0 rfl ?_
  refine z_iload_n dX5_cell_1 rfl ?_
  refine z_iload_n dX5_cell_2 rfl ?_
  refine z_callV_eI (M := mX5_cell) [_, _] tX5_isUpperCell kX5_106 dX5_cell_3 ⟨by decide, rfl, _, _, rfl⟩ ⟨by decide, by decide⟩ rfl (Nat.le_of_ble_eq_true rfl) rfl (c_X5_upper2 W C (by omega)) ?_
  refine z_if_ne 12 dX5_cell_6 (by decide) (bi_r _) (fun c6 => ?_) (fun c6 => ?_)
  · have c6 := bi_ne.mp c6
    exact absurd c6 ho
  · have c6 := bi_eq.mp c6
    refine z_ldc (-1000001) dX5_cell_9 qX5_65 rfl ?_
    exact z_ireturn dX5_cell_11 rfl (hQ _ _ ⟨_, rfl, rfl, rfl⟩)
set_option maxRecDepth 100000 in
set_option maxHeartbeats 4000000 in
theorem c_X5_cell1 {g : GG} {h : HH} {σ : SG} (W : WF σ) (C : RC (h 2) σ) {c : Nat} (hc : c < sE σ) {w : Int} (hw : R32 w) : CeI mX5_cell g [vr 0, vi 1, vi (c : Int), vi w] h (if w = 0 then (sew σ c : Int) else if w = 1 then (sfr σ c : Int) else if w = 2 then (sto σ c : Int) else kBAD) := by
  refine cn_q (lv := [vr 0, vi 1, vi (c : Int), vi w, vx]) tX5_cell.1 rfl rfl (fun hR Q hQ => ?_)
  have w1 := W.1
  have w2 := W.2.1
  have w3 := W.2.2.1
  refine z_aload_n dX5_cell_0 rfl ?_
  refine z_iload_n dX5_cell_1 rfl ?_
  refine z_iload_n dX5_cell_2 rfl ?_
  refine z_callV_eI (M := mX5_cell) [_, _] tX5_isUpperCell kX5_106 dX5_cell_3 ⟨by decide, rfl, _, _, rfl⟩ ⟨by decide, by decide⟩ rfl (Nat.le_of_ble_eq_true rfl) rfl (c_X5_upper1 W C (by omega)) ?_
  refine z_if_ne 12 dX5_cell_6 (by decide) (bi_r _) (fun c6 => ?_) (fun c6 => ?_)
  · have c6 := bi_ne.mp c6
    refine z_iload_n dX5_cell_12 rfl ?_
    refine z_if_ne 26 dX5_cell_13 (by decide) (by omega) (fun c13 => ?_) (fun c13 => ?_)
    · refine z_iload_n dX5_cell_26 rfl ?_
      refine z_iconst dX5_cell_27 ?_
      refine z_icmp_ne 56 dX5_cell_28 (by decide) (by omega) (by omega) (fun c28 => ?_) (fun c28 => ?_)
      · refine z_iload_n dX5_cell_56 rfl ?_
        refine z_iconst dX5_cell_57 ?_
        refine z_icmp_ne 94 dX5_cell_58 (by decide) (by omega) (by omega) (fun c58 => ?_) (fun c58 => ?_)
        · refine z_iload_n dX5_cell_94 rfl ?_
          refine z_iconst dX5_cell_95 ?_
          refine z_icmp_eq 111 dX5_cell_96 (by decide) (by omega) (by omega) (fun c96 => ?_) (fun c96 => ?_)
          · refine z_ldc (-1000001) dX5_cell_111 qX5_65 rfl ?_
            exact z_ireturn dX5_cell_113 rfl (hQ _ _ ⟨_, rfl, (by first | rfl | (exfalso; omega) | ((repeat' split) <;> first | rfl | omega | (exfalso; omega))), rfl⟩)
          · omega
        · refine z_iload_n dX5_cell_61 rfl ?_
          refine z_iconst dX5_cell_62 ?_
          refine z_icmp_ne 77 dX5_cell_63 (by decide) (by omega) (by omega) (fun c63 => ?_) (fun c63 => ?_)
          · omega
          · refine z_aload_n dX5_cell_66 rfl ?_
            refine z_getR fX5_10 dX5_cell_67 (by decide) rfl rfl ?_
            refine z_iload_n dX5_cell_70 rfl ?_
            refine z_callV_eI (M := mX5_cell) [_] tX0_toOf kX5_182 dX5_cell_71 ⟨by decide, rfl, _, _, rfl⟩ ⟨by decide, by decide⟩ rfl (Nat.le_of_ble_eq_true rfl) rfl (s_X0_toOf isC1 W.wb C hc) ?_
            refine z_goto 93 dX5_cell_74 (by decide) ?_
            exact z_ireturn dX5_cell_93 rfl (hQ _ _ ⟨_, rfl, (by first | rfl | (exfalso; omega) | ((repeat' split) <;> first | rfl | omega | (exfalso; omega))), rfl⟩)
      · refine z_iload_n dX5_cell_31 rfl ?_
        refine z_iconst dX5_cell_32 ?_
        refine z_icmp_ne 47 dX5_cell_33 (by decide) (by omega) (by omega) (fun c33 => ?_) (fun c33 => ?_)
        · omega
        · refine z_aload_n dX5_cell_36 rfl ?_
          refine z_getR fX5_10 dX5_cell_37 (by decide) rfl rfl ?_
          refine z_iload_n dX5_cell_40 rfl ?_
          refine z_callV_eI (M := mX5_cell) [_] tX0_fromOf kX5_176 dX5_cell_41 ⟨by decide, rfl, _, _, rfl⟩ ⟨by decide, by decide⟩ rfl (Nat.le_of_ble_eq_true rfl) rfl (s_X0_fromOf isC1 W.wb C hc) ?_
          refine z_goto 55 dX5_cell_44 (by decide) ?_
          exact z_ireturn dX5_cell_55 rfl (hQ _ _ ⟨_, rfl, (by first | rfl | (exfalso; omega) | ((repeat' split) <;> first | rfl | omega | (exfalso; omega))), rfl⟩)
    · refine z_aload_n dX5_cell_16 rfl ?_
      refine z_getR fX5_10 dX5_cell_17 (by decide) rfl rfl ?_
      refine z_iload_n dX5_cell_20 rfl ?_
      refine z_iload_n dX5_cell_21 rfl ?_
      refine z_callV_eI (M := mX5_cell) [_, _] tX0_weightOf kX5_112 dX5_cell_22 ⟨by decide, rfl, _, _, rfl⟩ ⟨by decide, by decide⟩ rfl (Nat.le_of_ble_eq_true rfl) rfl (s_X0_weightE isC1 W.wb C hc) ?_
      exact z_ireturn dX5_cell_25 rfl (hQ _ _ ⟨_, rfl, (by first | rfl | (exfalso; omega) | ((repeat' split) <;> first | rfl | omega | (exfalso; omega))), rfl⟩)
  · have c6 := bi_eq.mp c6
    exact absurd ⟨by omega, by omega⟩ c6
set_option maxRecDepth 100000 in
set_option maxHeartbeats 4000000 in
theorem c_X5_cell2 {g : GG} {h : HH} {σ : SG} (W : WF σ) (C : RC (h 2) σ) {c : Nat} (hc : c < sF σ) {w : Int} (hw : R32 w) : CeI mX5_cell g [vr 0, vi 2, vi (c : Int), vi w] h (if w = 0 then (sfw σ c : Int) else if w = 1 then (swl σ c : Int) else if w = 2 then (bgn σ c 0 : Int) else if w < 10 ∨ 14 ≤ w then kBAD else if w - 10 < swl σ c then cod (sle σ c (w - 10).toNat) (ssg σ c (w - 10).toNat) else kNONE) := by
  refine cn_q (lv := [vr 0, vi 2, vi (c : Int), vi w, vx]) tX5_cell.1 rfl rfl (fun hR Q hQ => ?_)
  have w1 := W.1
  have w2 := W.2.1
  have w3 := W.2.2.1
  have w5 := (W.2.2.2.2.1 c hc).2.2.1
  have w6 := (W.2.2.2.2.1 c hc).2.2.2.1
  have w7 := (W.2.2.2.2.1 c hc).2.2.2.2.1
  refine z_aload_n dX5_cell_0 rfl ?_
  refine z_iload_n dX5_cell_1 rfl ?_
  refine z_iload_n dX5_cell_2 rfl ?_
  refine z_callV_eI (M := mX5_cell) [_, _] tX5_isUpperCell kX5_106 dX5_cell_3 ⟨by decide, rfl, _, _, rfl⟩ ⟨by decide, by decide⟩ rfl (Nat.le_of_ble_eq_true rfl) rfl (c_X5_upper2 W C (by omega)) ?_
  refine z_if_ne 12 dX5_cell_6 (by decide) (bi_r _) (fun c6 => ?_) (fun c6 => ?_)
  · have c6 := bi_ne.mp c6
    refine z_iload_n dX5_cell_12 rfl ?_
    refine z_if_ne 26 dX5_cell_13 (by decide) (by omega) (fun c13 => ?_) (fun c13 => ?_)
    · refine z_iload_n dX5_cell_26 rfl ?_
      refine z_iconst dX5_cell_27 ?_
      refine z_icmp_ne 56 dX5_cell_28 (by decide) (by omega) (by omega) (fun c28 => ?_) (fun c28 => ?_)
      · refine z_iload_n dX5_cell_56 rfl ?_
        refine z_iconst dX5_cell_57 ?_
        refine z_icmp_ne 94 dX5_cell_58 (by decide) (by omega) (by omega) (fun c58 => ?_) (fun c58 => ?_)
        · refine z_iload_n dX5_cell_94 rfl ?_
          refine z_iconst dX5_cell_95 ?_
          refine z_icmp_eq 111 dX5_cell_96 (by decide) (by omega) (by omega) (fun c96 => ?_) (fun c96 => ?_)
          · omega
          · refine z_iload_n dX5_cell_99 rfl ?_
            refine z_bipush dX5_cell_100 (by decide) ?_
            refine z_icmp_lt 111 dX5_cell_102 (by decide) (by omega) (by omega) (fun c102 => ?_) (fun c102 => ?_)
            · refine z_ldc (-1000001) dX5_cell_111 qX5_65 rfl ?_
              exact z_ireturn dX5_cell_113 rfl (hQ _ _ ⟨_, rfl, (by first | rfl | (exfalso; omega) | ((repeat' split) <;> first | rfl | omega | (exfalso; omega))), rfl⟩)
            · refine z_iload_n dX5_cell_105 rfl ?_
              refine z_bipush dX5_cell_106 (by decide) ?_
              refine z_icmp_lt 114 dX5_cell_108 (by decide) (by omega) (by omega) (fun c108 => ?_) (fun c108 => ?_)
              · refine z_iload_n dX5_cell_114 rfl ?_
                refine z_bipush dX5_cell_115 (by decide) ?_
                refine z_isub dX5_cell_117 ?_
                refine z_istore dX5_cell_118 (by decide) rfl ?_
                refine z_iload dX5_cell_120 rfl ?_
                refine z_aload_n dX5_cell_122 rfl ?_
                refine z_getR fX5_10 dX5_cell_123 (by decide) rfl rfl ?_
                refine z_iload_n dX5_cell_126 rfl ?_
                refine z_callV_eI (M := mX5_cell) [_] tX0_wordSize kX5_179 dX5_cell_127 ⟨by decide, rfl, _, _, rfl⟩ ⟨by decide, by decide⟩ rfl (Nat.le_of_ble_eq_true rfl) rfl (s_X0_wordSize isC1 W.wb C hc) ?_
                refine z_icmp_ge 146 dX5_cell_130 (by decide) (by omega) (by omega) (fun c130 => ?_) (fun c130 => ?_)
                · refine z_ldc (-1000000) dX5_cell_146 qX5_191 rfl ?_
                  exact z_ireturn dX5_cell_148 rfl (hQ _ _ ⟨_, rfl, (by first | rfl | (exfalso; omega) | ((repeat' split) <;> first | rfl | omega | (exfalso; omega))), rfl⟩)
                · refine z_aload_n dX5_cell_133 rfl ?_
                  refine z_getR fX5_10 dX5_cell_134 (by decide) rfl rfl ?_
                  refine z_iload_n dX5_cell_137 rfl ?_
                  refine z_iload dX5_cell_138 rfl ?_
                  refine z_callV_eI (M := mX5_cell) [_, _] tX0_letterAt kX5_185 dX5_cell_140 ⟨by decide, rfl, _, _, rfl⟩ ⟨by decide, by decide⟩ rfl (Nat.le_of_ble_eq_true rfl) rfl (by have := s_X0_letterAt (g := g) (h := h) isC1 W.wb C hc (k := (w - 10).toNat) (by omega); rw [show (((w - 10).toNat : Nat) : Int) = w - 10 by omega] at this; exact this) ?_
                  refine z_goto 148 dX5_cell_143 (by decide) ?_
                  exact z_ireturn dX5_cell_148 rfl (hQ _ _ ⟨_, rfl, (by first | rfl | (exfalso; omega) | ((repeat' split) <;> first | rfl | omega | (exfalso; omega))), rfl⟩)
              · refine z_ldc (-1000001) dX5_cell_111 qX5_65 rfl ?_
                exact z_ireturn dX5_cell_113 rfl (hQ _ _ ⟨_, rfl, (by first | rfl | (exfalso; omega) | ((repeat' split) <;> first | rfl | omega | (exfalso; omega))), rfl⟩)
        · refine z_iload_n dX5_cell_61 rfl ?_
          refine z_iconst dX5_cell_62 ?_
          refine z_icmp_ne 77 dX5_cell_63 (by decide) (by omega) (by omega) (fun c63 => ?_) (fun c63 => ?_)
          · refine z_aload_n dX5_cell_77 rfl ?_
            refine z_getR fX5_10 dX5_cell_78 (by decide) rfl rfl ?_
            refine z_aload_n dX5_cell_81 rfl ?_
            refine z_getR fX5_10 dX5_cell_82 (by decide) rfl rfl ?_
            refine z_iload_n dX5_cell_85 rfl ?_
            refine z_iconst dX5_cell_86 ?_
            refine z_callV_eI (M := mX5_cell) [_, _] tX0_letterAt kX5_185 dX5_cell_87 ⟨by decide, rfl, _, _, rfl⟩ ⟨by decide, by decide⟩ rfl (Nat.le_of_ble_eq_true rfl) rfl (s_X0_letterAt isC1 W.wb C hc (k := 0) (by omega)) ?_
            refine z_callV_eI (M := mX5_cell) [_] tX0_beginOf kX5_188 dX5_cell_90 ⟨by decide, rfl, _, _, rfl⟩ ⟨by decide, by decide⟩ rfl (Nat.le_of_ble_eq_true rfl) rfl (c_X0_beginOf isC1 W.wb C (ssg σ c 0) (w7 0 (by omega))) ?_
            exact z_ireturn dX5_cell_93 rfl (hQ _ _ ⟨_, rfl, (by first | rfl | (exfalso; omega) | ((repeat' split) <;> first | rfl | omega | (exfalso; omega))), rfl⟩)
          · omega
      · refine z_iload_n dX5_cell_31 rfl ?_
        refine z_iconst dX5_cell_32 ?_
        refine z_icmp_ne 47 dX5_cell_33 (by decide) (by omega) (by omega) (fun c33 => ?_) (fun c33 => ?_)
        · refine z_aload_n dX5_cell_47 rfl ?_
          refine z_getR fX5_10 dX5_cell_48 (by decide) rfl rfl ?_
          refine z_iload_n dX5_cell_51 rfl ?_
          refine z_callV_eI (M := mX5_cell) [_] tX0_wordSize kX5_179 dX5_cell_52 ⟨by decide, rfl, _, _, rfl⟩ ⟨by decide, by decide⟩ rfl (Nat.le_of_ble_eq_true rfl) rfl (s_X0_wordSize isC1 W.wb C hc) ?_
          exact z_ireturn dX5_cell_55 rfl (hQ _ _ ⟨_, rfl, (by first | rfl | (exfalso; omega) | ((repeat' split) <;> first | rfl | omega | (exfalso; omega))), rfl⟩)
        · omega
    · refine z_aload_n dX5_cell_16 rfl ?_
      refine z_getR fX5_10 dX5_cell_17 (by decide) rfl rfl ?_
      refine z_iload_n dX5_cell_20 rfl ?_
      refine z_iload_n dX5_cell_21 rfl ?_
      refine z_callV_eI (M := mX5_cell) [_, _] tX0_weightOf kX5_112 dX5_cell_22 ⟨by decide, rfl, _, _, rfl⟩ ⟨by decide, by decide⟩ rfl (Nat.le_of_ble_eq_true rfl) rfl (s_X0_weightF isC1 W.wb C hc) ?_
      exact z_ireturn dX5_cell_25 rfl (hQ _ _ ⟨_, rfl, (by first | rfl | (exfalso; omega) | ((repeat' split) <;> first | rfl | omega | (exfalso; omega))), rfl⟩)
  · have c6 := bi_eq.mp c6
    exact absurd ⟨by omega, by omega⟩ c6
set_option maxRecDepth 100000 in
set_option maxHeartbeats 4000000 in
theorem c_X5_tableN {g : GG} {h : HH} {σ : SG} (W : WF σ) (C : RC (h 2) σ) {d i j : Int} (hd : R32 d) (hn : d < 1 ∨ 2 < d) (hi : R32 i) (hj : R32 j) : CeI mX5_table g [vr 0, vi d, vi i, vi j] h kBAD := by
  refine cn_q (lv := [vr 0, vi d, vi i, vi j]) tX5_table.1 rfl rfl (fun hR Q hQ => ?_)
  refine z_iload_n dX5_table_0 rfl ?_
  refine z_iconst dX5_table_1 ?_
  refine z_icmp_lt 36 dX5_table_2 (by decide) (by omega) (by omega) (fun c2 => ?_) (fun c2 => ?_)
  · refine z_ldc (-1000001) dX5_table_36 qX5_65 rfl ?_
    exact z_ireturn dX5_table_38 rfl (hQ _ _ ⟨_, rfl, rfl, rfl⟩)
  · refine z_iload_n dX5_table_5 rfl ?_
    refine z_iconst dX5_table_6 ?_
    refine z_icmp_gt 36 dX5_table_7 (by decide) (by omega) (by omega) (fun c7 => ?_) (fun c7 => ?_)
    · refine z_ldc (-1000001) dX5_table_36 qX5_65 rfl ?_
      exact z_ireturn dX5_table_38 rfl (hQ _ _ ⟨_, rfl, rfl, rfl⟩)
    · omega
set_option maxRecDepth 100000 in
set_option maxHeartbeats 4000000 in
theorem c_X5_tableO1 {g : GG} {h : HH} {σ : SG} (W : WF σ) (C : RC (h 2) σ) {i j : Int} (hi : R32 i) (hj : R32 j) (ho : ¬ (0 ≤ i ∧ i < sP σ ∧ 0 ≤ j ∧ j < sE σ)) : CeI mX5_table g [vr 0, vi 1, vi i, vi j] h kBAD := by
  refine cn_q (lv := [vr 0, vi 1, vi i, vi j]) tX5_table.1 rfl rfl (fun hR Q hQ => ?_)
  refine z_iload_n dX5_table_0 rfl ?_
  refine z_iconst dX5_table_1 ?_
  refine z_icmp_lt 36 dX5_table_2 (by decide) (by omega) (by omega) (fun c2 => ?_) (fun c2 => ?_)
  · omega
  · refine z_iload_n dX5_table_5 rfl ?_
    refine z_iconst dX5_table_6 ?_
    refine z_icmp_gt 36 dX5_table_7 (by decide) (by omega) (by omega) (fun c7 => ?_) (fun c7 => ?_)
    · omega
    · refine z_aload_n dX5_table_10 rfl ?_
      refine z_getR fX5_10 dX5_table_11 (by decide) rfl rfl ?_
      refine z_iload_n dX5_table_14 rfl ?_
      refine z_iconst dX5_table_15 ?_
      refine z_isub dX5_table_16 ?_
      refine z_iload_n dX5_table_17 rfl ?_
      refine z_callV_eI (M := mX5_table) [_, _] tX0_hasCell kX5_127 dX5_table_18 ⟨by decide, rfl, _, _, rfl⟩ ⟨by decide, by decide⟩ rfl (Nat.le_of_ble_eq_true rfl) rfl (s_X0_has0 isC1 C (by omega)) ?_
      refine z_if_eq 36 dX5_table_21 (by decide) (bi_r _) (fun c21 => ?_) (fun c21 => ?_)
      · have c21 := bi_eq.mp c21
        refine z_ldc (-1000001) dX5_table_36 qX5_65 rfl ?_
        exact z_ireturn dX5_table_38 rfl (hQ _ _ ⟨_, rfl, rfl, rfl⟩)
      · have c21 := bi_ne.mp c21
        refine z_aload_n dX5_table_24 rfl ?_
        refine z_getR fX5_10 dX5_table_25 (by decide) rfl rfl ?_
        refine z_iload_n dX5_table_28 rfl ?_
        refine z_iload_n dX5_table_29 rfl ?_
        refine z_callV_eI (M := mX5_table) [_, _] tX0_hasCell kX5_127 dX5_table_30 ⟨by decide, rfl, _, _, rfl⟩ ⟨by decide, by decide⟩ rfl (Nat.le_of_ble_eq_true rfl) rfl (s_X0_has1 isC1 C (by omega)) ?_
        refine z_if_ne 39 dX5_table_33 (by decide) (bi_r _) (fun c33 => ?_) (fun c33 => ?_)
        · have c33 := bi_ne.mp c33
          omega
        · have c33 := bi_eq.mp c33
          refine z_ldc (-1000001) dX5_table_36 qX5_65 rfl ?_
          exact z_ireturn dX5_table_38 rfl (hQ _ _ ⟨_, rfl, rfl, rfl⟩)
set_option maxRecDepth 100000 in
set_option maxHeartbeats 4000000 in
theorem c_X5_table1 {g : GG} {h : HH} {σ : SG} (W : WF σ) (C : RC (h 2) σ) {i j : Nat} (hi : i < sP σ) (hj : j < sE σ) : CeI mX5_table g [vr 0, vi 1, vi (i : Int), vi (j : Int)] h (ent1 σ i j) := by
  refine cn_q (lv := [vr 0, vi 1, vi (i : Int), vi (j : Int)]) tX5_table.1 rfl rfl (fun hR Q hQ => ?_)
  have w1 := W.1
  have w2 := W.2.1
  have w3 := W.2.2.1
  refine z_iload_n dX5_table_0 rfl ?_
  refine z_iconst dX5_table_1 ?_
  refine z_icmp_lt 36 dX5_table_2 (by decide) (by omega) (by omega) (fun c2 => ?_) (fun c2 => ?_)
  · omega
  · refine z_iload_n dX5_table_5 rfl ?_
    refine z_iconst dX5_table_6 ?_
    refine z_icmp_gt 36 dX5_table_7 (by decide) (by omega) (by omega) (fun c7 => ?_) (fun c7 => ?_)
    · omega
    · refine z_aload_n dX5_table_10 rfl ?_
      refine z_getR fX5_10 dX5_table_11 (by decide) rfl rfl ?_
      refine z_iload_n dX5_table_14 rfl ?_
      refine z_iconst dX5_table_15 ?_
      refine z_isub dX5_table_16 ?_
      refine z_iload_n dX5_table_17 rfl ?_
      refine z_callV_eI (M := mX5_table) [_, _] tX0_hasCell kX5_127 dX5_table_18 ⟨by decide, rfl, _, _, rfl⟩ ⟨by decide, by decide⟩ rfl (Nat.le_of_ble_eq_true rfl) rfl (s_X0_has0 isC1 C (by omega)) ?_
      refine z_if_eq 36 dX5_table_21 (by decide) (bi_r _) (fun c21 => ?_) (fun c21 => ?_)
      · have c21 := bi_eq.mp c21
        omega
      · have c21 := bi_ne.mp c21
        refine z_aload_n dX5_table_24 rfl ?_
        refine z_getR fX5_10 dX5_table_25 (by decide) rfl rfl ?_
        refine z_iload_n dX5_table_28 rfl ?_
        refine z_iload_n dX5_table_29 rfl ?_
        refine z_callV_eI (M := mX5_table) [_, _] tX0_hasCell kX5_127 dX5_table_30 ⟨by decide, rfl, _, _, rfl⟩ ⟨by decide, by decide⟩ rfl (Nat.le_of_ble_eq_true rfl) rfl (s_X0_has1 isC1 C (by omega)) ?_
        refine z_if_ne 39 dX5_table_33 (by decide) (bi_r _) (fun c33 => ?_) (fun c33 => ?_)
        · have c33 := bi_ne.mp c33
          refine z_aload_n dX5_table_39 rfl ?_
          refine z_getR fX5_10 dX5_table_40 (by decide) rfl rfl ?_
          refine z_iload_n dX5_table_43 rfl ?_
          refine z_iload_n dX5_table_44 rfl ?_
          refine z_iload_n dX5_table_45 rfl ?_
          refine z_callV_eI (M := mX5_table) [_, _, _] tX0_entryOf kX5_162 dX5_table_46 ⟨by decide, rfl, _, _, rfl⟩ ⟨by decide, by decide⟩ rfl (Nat.le_of_ble_eq_true rfl) rfl (c_X0_entry1 isC1 W C (by omega) hj) ?_
          exact z_ireturn dX5_table_49 rfl (hQ _ _ ⟨_, rfl, rfl, rfl⟩)
        · have c33 := bi_eq.mp c33
          omega
set_option maxRecDepth 100000 in
set_option maxHeartbeats 4000000 in
theorem c_X5_tableO2 {g : GG} {h : HH} {σ : SG} (W : WF σ) (C : RC (h 2) σ) {i j : Int} (hi : R32 i) (hj : R32 j) (ho : ¬ (0 ≤ i ∧ i < sE σ ∧ 0 ≤ j ∧ j < sF σ)) : CeI mX5_table g [vr 0, vi 2, vi i, vi j] h kBAD := by
  refine cn_q (lv := [vr 0, vi 2, vi i, vi j]) tX5_table.1 rfl rfl (fun hR Q hQ => ?_)
  refine z_iload_n dX5_table_0 rfl ?_
  refine z_iconst dX5_table_1 ?_
  refine z_icmp_lt 36 dX5_table_2 (by decide) (by omega) (by omega) (fun c2 => ?_) (fun c2 => ?_)
  · omega
  · refine z_iload_n dX5_table_5 rfl ?_
    refine z_iconst dX5_table_6 ?_
    refine z_icmp_gt 36 dX5_table_7 (by decide) (by omega) (by omega) (fun c7 => ?_) (fun c7 => ?_)
    · omega
    · refine z_aload_n dX5_table_10 rfl ?_
      refine z_getR fX5_10 dX5_table_11 (by decide) rfl rfl ?_
      refine z_iload_n dX5_table_14 rfl ?_
      refine z_iconst dX5_table_15 ?_
      refine z_isub dX5_table_16 ?_
      refine z_iload_n dX5_table_17 rfl ?_
      refine z_callV_eI (M := mX5_table) [_, _] tX0_hasCell kX5_127 dX5_table_18 ⟨by decide, rfl, _, _, rfl⟩ ⟨by decide, by decide⟩ rfl (Nat.le_of_ble_eq_true rfl) rfl (s_X0_has1 isC1 C (by omega)) ?_
      refine z_if_eq 36 dX5_table_21 (by decide) (bi_r _) (fun c21 => ?_) (fun c21 => ?_)
      · have c21 := bi_eq.mp c21
        refine z_ldc (-1000001) dX5_table_36 qX5_65 rfl ?_
        exact z_ireturn dX5_table_38 rfl (hQ _ _ ⟨_, rfl, rfl, rfl⟩)
      · have c21 := bi_ne.mp c21
        refine z_aload_n dX5_table_24 rfl ?_
        refine z_getR fX5_10 dX5_table_25 (by decide) rfl rfl ?_
        refine z_iload_n dX5_table_28 rfl ?_
        refine z_iload_n dX5_table_29 rfl ?_
        refine z_callV_eI (M := mX5_table) [_, _] tX0_hasCell kX5_127 dX5_table_30 ⟨by decide, rfl, _, _, rfl⟩ ⟨by decide, by decide⟩ rfl (Nat.le_of_ble_eq_true rfl) rfl (s_X0_has2 isC1 C (by omega)) ?_
        refine z_if_ne 39 dX5_table_33 (by decide) (bi_r _) (fun c33 => ?_) (fun c33 => ?_)
        · have c33 := bi_ne.mp c33
          omega
        · have c33 := bi_eq.mp c33
          refine z_ldc (-1000001) dX5_table_36 qX5_65 rfl ?_
          exact z_ireturn dX5_table_38 rfl (hQ _ _ ⟨_, rfl, rfl, rfl⟩)
set_option maxRecDepth 100000 in
set_option maxHeartbeats 4000000 in
theorem c_X5_table2 {g : GG} {h : HH} {σ : SG} (W : WF σ) (C : RC (h 2) σ) {i j : Nat} (hi : i < sE σ) (hj : j < sF σ) : CeI mX5_table g [vr 0, vi 2, vi (i : Int), vi (j : Int)] h (ent2 σ i j) := by
  refine cn_q (lv := [vr 0, vi 2, vi (i : Int), vi (j : Int)]) tX5_table.1 rfl rfl (fun hR Q hQ => ?_)
  have w1 := W.1
  have w2 := W.2.1
  have w3 := W.2.2.1
  refine z_iload_n dX5_table_0 rfl ?_
  refine z_iconst dX5_table_1 ?_
  refine z_icmp_lt 36 dX5_table_2 (by decide) (by omega) (by omega) (fun c2 => ?_) (fun c2 => ?_)
  · omega
  · refine z_iload_n dX5_table_5 rfl ?_
    refine z_iconst dX5_table_6 ?_
    refine z_icmp_gt 36 dX5_table_7 (by decide) (by omega) (by omega) (fun c7 => ?_) (fun c7 => ?_)
    · omega
    · refine z_aload_n dX5_table_10 rfl ?_
      refine z_getR fX5_10 dX5_table_11 (by decide) rfl rfl ?_
      refine z_iload_n dX5_table_14 rfl ?_
      refine z_iconst dX5_table_15 ?_
      refine z_isub dX5_table_16 ?_
      refine z_iload_n dX5_table_17 rfl ?_
      refine z_callV_eI (M := mX5_table) [_, _] tX0_hasCell kX5_127 dX5_table_18 ⟨by decide, rfl, _, _, rfl⟩ ⟨by decide, by decide⟩ rfl (Nat.le_of_ble_eq_true rfl) rfl (s_X0_has1 isC1 C (by omega)) ?_
      refine z_if_eq 36 dX5_table_21 (by decide) (bi_r _) (fun c21 => ?_) (fun c21 => ?_)
      · have c21 := bi_eq.mp c21
        omega
      · have c21 := bi_ne.mp c21
        refine z_aload_n dX5_table_24 rfl ?_
        refine z_getR fX5_10 dX5_table_25 (by decide) rfl rfl ?_
        refine z_iload_n dX5_table_28 rfl ?_
        refine z_iload_n dX5_table_29 rfl ?_
        refine z_callV_eI (M := mX5_table) [_, _] tX0_hasCell kX5_127 dX5_table_30 ⟨by decide, rfl, _, _, rfl⟩ ⟨by decide, by decide⟩ rfl (Nat.le_of_ble_eq_true rfl) rfl (s_X0_has2 isC1 C (by omega)) ?_
        refine z_if_ne 39 dX5_table_33 (by decide) (bi_r _) (fun c33 => ?_) (fun c33 => ?_)
        · have c33 := bi_ne.mp c33
          refine z_aload_n dX5_table_39 rfl ?_
          refine z_getR fX5_10 dX5_table_40 (by decide) rfl rfl ?_
          refine z_iload_n dX5_table_43 rfl ?_
          refine z_iload_n dX5_table_44 rfl ?_
          refine z_iload_n dX5_table_45 rfl ?_
          refine z_callV_eI (M := mX5_table) [_, _, _] tX0_entryOf kX5_162 dX5_table_46 ⟨by decide, rfl, _, _, rfl⟩ ⟨by decide, by decide⟩ rfl (Nat.le_of_ble_eq_true rfl) rfl (c_X0_entry2 isC1 W C (by omega) hj) ?_
          exact z_ireturn dX5_table_49 rfl (hQ _ _ ⟨_, rfl, rfl, rfl⟩)
        · have c33 := bi_eq.mp c33
          omega
set_option maxRecDepth 100000 in
set_option maxHeartbeats 4000000 in
theorem c_X5_nearN {g : GG} {h : HH} {σ : SG} (W : WF σ) (C : RC (h 2) σ) {d i j : Int} (hd : R32 d) (hn : d < 0 ∨ 2 < d) (hi : R32 i) (hj : R32 j) : CeI mX5_near g [vr 0, vi d, vi i, vi j] h kBAD := by
  refine cn_q (lv := [vr 0, vi d, vi i, vi j, vx]) tX5_near.1 rfl rfl (fun hR Q hQ => ?_)
  refine z_iload_n dX5_near_0 rfl ?_
  refine z_if_lt 9 dX5_near_1 (by decide) (by omega) (fun c1 => ?_) (fun c1 => ?_)
  · refine z_ldc (-1000001) dX5_near_9 qX5_65 rfl ?_
    exact z_ireturn dX5_near_11 rfl (hQ _ _ ⟨_, rfl, rfl, rfl⟩)
  · refine z_iload_n dX5_near_4 rfl ?_
    refine z_iconst dX5_near_5 ?_
    refine z_icmp_le 12 dX5_near_6 (by decide) (by omega) (by omega) (fun c6 => ?_) (fun c6 => ?_)
    · omega
    · refine z_ldc (-1000001) dX5_near_9 qX5_65 rfl ?_
      exact z_ireturn dX5_near_11 rfl (hQ _ _ ⟨_, rfl, rfl, rfl⟩)
set_option maxRecDepth 100000 in
set_option maxHeartbeats 4000000 in
theorem c_X5_nearO0 {g : GG} {h : HH} {σ : SG} (W : WF σ) (C : RC (h 2) σ) {i j : Int} (hi : R32 i) (hj : R32 j) (ho : ¬ (0 ≤ i ∧ i < sP σ ∧ 0 ≤ j ∧ j < sP σ)) : CeI mX5_near g [vr 0, vi 0, vi i, vi j] h kBAD := by
  refine cn_q (lv := [vr 0, vi 0, vi i, vi j, vx]) tX5_near.1 rfl rfl (fun hR Q hQ => ?_)
  refine z_iload_n dX5_near_0 rfl ?_
  refine z_if_lt 9 dX5_near_1 (by decide) (by omega) (fun c1 => ?_) (fun c1 => ?_)
  · omega
  · refine z_iload_n dX5_near_4 rfl ?_
    refine z_iconst dX5_near_5 ?_
    refine z_icmp_le 12 dX5_near_6 (by decide) (by omega) (by omega) (fun c6 => ?_) (fun c6 => ?_)
    · refine z_iload_n dX5_near_12 rfl ?_
      refine z_if_ne 20 dX5_near_13 (by decide) (by omega) (fun c13 => ?_) (fun c13 => ?_)
      · omega
      · refine z_iconst dX5_near_16 ?_
        refine z_goto 21 dX5_near_17 (by decide) ?_
        refine z_istore dX5_near_21 (by decide) rfl ?_
        refine z_aload_n dX5_near_23 rfl ?_
        refine z_getR fX5_10 dX5_near_24 (by decide) rfl rfl ?_
        refine z_iload dX5_near_27 rfl ?_
        refine z_iload_n dX5_near_29 rfl ?_
        refine z_callV_eI (M := mX5_near) [_, _] tX0_hasCell kX5_127 dX5_near_30 ⟨by decide, rfl, _, _, rfl⟩ ⟨by decide, by decide⟩ rfl (Nat.le_of_ble_eq_true rfl) rfl (s_X0_has0 isC1 C (by omega)) ?_
        refine z_if_eq 49 dX5_near_33 (by decide) (bi_r _) (fun c33 => ?_) (fun c33 => ?_)
        · have c33 := bi_eq.mp c33
          refine z_ldc (-1000001) dX5_near_49 qX5_65 rfl ?_
          exact z_ireturn dX5_near_51 rfl (hQ _ _ ⟨_, rfl, rfl, rfl⟩)
        · have c33 := bi_ne.mp c33
          refine z_aload_n dX5_near_36 rfl ?_
          refine z_getR fX5_10 dX5_near_37 (by decide) rfl rfl ?_
          refine z_iload dX5_near_40 rfl ?_
          refine z_iload_n dX5_near_42 rfl ?_
          refine z_callV_eI (M := mX5_near) [_, _] tX0_hasCell kX5_127 dX5_near_43 ⟨by decide, rfl, _, _, rfl⟩ ⟨by decide, by decide⟩ rfl (Nat.le_of_ble_eq_true rfl) rfl (s_X0_has0 isC1 C (by omega)) ?_
          refine z_if_ne 52 dX5_near_46 (by decide) (bi_r _) (fun c46 => ?_) (fun c46 => ?_)
          · have c46 := bi_ne.mp c46
            omega
          · have c46 := bi_eq.mp c46
            refine z_ldc (-1000001) dX5_near_49 qX5_65 rfl ?_
            exact z_ireturn dX5_near_51 rfl (hQ _ _ ⟨_, rfl, rfl, rfl⟩)
    · omega
set_option maxRecDepth 100000 in
set_option maxHeartbeats 4000000 in
theorem c_X5_near0 {g : GG} {h : HH} {σ : SG} (W : WF σ) (C : RC (h 2) σ) {i j : Nat} (hi : i < sP σ) (hj : j < sP σ) : CeI mX5_near g [vr 0, vi 0, vi (i : Int), vi (j : Int)] h (near0 σ i j) := by
  refine cn_q (lv := [vr 0, vi 0, vi (i : Int), vi (j : Int), vx]) tX5_near.1 rfl rfl (fun hR Q hQ => ?_)
  have w1 := W.1
  have w2 := W.2.1
  have w3 := W.2.2.1
  refine z_iload_n dX5_near_0 rfl ?_
  refine z_if_lt 9 dX5_near_1 (by decide) (by omega) (fun c1 => ?_) (fun c1 => ?_)
  · omega
  · refine z_iload_n dX5_near_4 rfl ?_
    refine z_iconst dX5_near_5 ?_
    refine z_icmp_le 12 dX5_near_6 (by decide) (by omega) (by omega) (fun c6 => ?_) (fun c6 => ?_)
    · refine z_iload_n dX5_near_12 rfl ?_
      refine z_if_ne 20 dX5_near_13 (by decide) (by omega) (fun c13 => ?_) (fun c13 => ?_)
      · omega
      · refine z_iconst dX5_near_16 ?_
        refine z_goto 21 dX5_near_17 (by decide) ?_
        refine z_istore dX5_near_21 (by decide) rfl ?_
        refine z_aload_n dX5_near_23 rfl ?_
        refine z_getR fX5_10 dX5_near_24 (by decide) rfl rfl ?_
        refine z_iload dX5_near_27 rfl ?_
        refine z_iload_n dX5_near_29 rfl ?_
        refine z_callV_eI (M := mX5_near) [_, _] tX0_hasCell kX5_127 dX5_near_30 ⟨by decide, rfl, _, _, rfl⟩ ⟨by decide, by decide⟩ rfl (Nat.le_of_ble_eq_true rfl) rfl (s_X0_has0 isC1 C (by omega)) ?_
        refine z_if_eq 49 dX5_near_33 (by decide) (bi_r _) (fun c33 => ?_) (fun c33 => ?_)
        · have c33 := bi_eq.mp c33
          omega
        · have c33 := bi_ne.mp c33
          refine z_aload_n dX5_near_36 rfl ?_
          refine z_getR fX5_10 dX5_near_37 (by decide) rfl rfl ?_
          refine z_iload dX5_near_40 rfl ?_
          refine z_iload_n dX5_near_42 rfl ?_
          refine z_callV_eI (M := mX5_near) [_, _] tX0_hasCell kX5_127 dX5_near_43 ⟨by decide, rfl, _, _, rfl⟩ ⟨by decide, by decide⟩ rfl (Nat.le_of_ble_eq_true rfl) rfl (s_X0_has0 isC1 C (by omega)) ?_
          refine z_if_ne 52 dX5_near_46 (by decide) (bi_r _) (fun c46 => ?_) (fun c46 => ?_)
          · have c46 := bi_ne.mp c46
            refine z_aload_n dX5_near_52 rfl ?_
            refine z_getR fX5_10 dX5_near_53 (by decide) rfl rfl ?_
            refine z_iload_n dX5_near_56 rfl ?_
            refine z_iload_n dX5_near_57 rfl ?_
            refine z_iload_n dX5_near_58 rfl ?_
            refine z_callV_eI (M := mX5_near) [_, _, _] tX0_nearOf kX5_196 dX5_near_59 ⟨by decide, rfl, _, _, rfl⟩ ⟨by decide, by decide⟩ rfl (Nat.le_of_ble_eq_true rfl) rfl (c_X0_near0 isC1 W C hi hj) ?_
            exact z_ireturn dX5_near_62 rfl (hQ _ _ ⟨_, rfl, rfl, rfl⟩)
          · have c46 := bi_eq.mp c46
            omega
    · omega
set_option maxRecDepth 100000 in
set_option maxHeartbeats 4000000 in
theorem c_X5_nearO1 {g : GG} {h : HH} {σ : SG} (W : WF σ) (C : RC (h 2) σ) {i j : Int} (hi : R32 i) (hj : R32 j) (ho : ¬ (0 ≤ i ∧ i < sE σ ∧ 0 ≤ j ∧ j < sE σ)) : CeI mX5_near g [vr 0, vi 1, vi i, vi j] h kBAD := by
  refine cn_q (lv := [vr 0, vi 1, vi i, vi j, vx]) tX5_near.1 rfl rfl (fun hR Q hQ => ?_)
  refine z_iload_n dX5_near_0 rfl ?_
  refine z_if_lt 9 dX5_near_1 (by decide) (by omega) (fun c1 => ?_) (fun c1 => ?_)
  · omega
  · refine z_iload_n dX5_near_4 rfl ?_
    refine z_iconst dX5_near_5 ?_
    refine z_icmp_le 12 dX5_near_6 (by decide) (by omega) (by omega) (fun c6 => ?_) (fun c6 => ?_)
    · refine z_iload_n dX5_near_12 rfl ?_
      refine z_if_ne 20 dX5_near_13 (by decide) (by omega) (fun c13 => ?_) (fun c13 => ?_)
      · refine z_iconst dX5_near_20 ?_
        refine z_istore dX5_near_21 (by decide) rfl ?_
        refine z_aload_n dX5_near_23 rfl ?_
        refine z_getR fX5_10 dX5_near_24 (by decide) rfl rfl ?_
        refine z_iload dX5_near_27 rfl ?_
        refine z_iload_n dX5_near_29 rfl ?_
        refine z_callV_eI (M := mX5_near) [_, _] tX0_hasCell kX5_127 dX5_near_30 ⟨by decide, rfl, _, _, rfl⟩ ⟨by decide, by decide⟩ rfl (Nat.le_of_ble_eq_true rfl) rfl (s_X0_has1 isC1 C (by omega)) ?_
        refine z_if_eq 49 dX5_near_33 (by decide) (bi_r _) (fun c33 => ?_) (fun c33 => ?_)
        · have c33 := bi_eq.mp c33
          refine z_ldc (-1000001) dX5_near_49 qX5_65 rfl ?_
          exact z_ireturn dX5_near_51 rfl (hQ _ _ ⟨_, rfl, rfl, rfl⟩)
        · have c33 := bi_ne.mp c33
          refine z_aload_n dX5_near_36 rfl ?_
          refine z_getR fX5_10 dX5_near_37 (by decide) rfl rfl ?_
          refine z_iload dX5_near_40 rfl ?_
          refine z_iload_n dX5_near_42 rfl ?_
          refine z_callV_eI (M := mX5_near) [_, _] tX0_hasCell kX5_127 dX5_near_43 ⟨by decide, rfl, _, _, rfl⟩ ⟨by decide, by decide⟩ rfl (Nat.le_of_ble_eq_true rfl) rfl (s_X0_has1 isC1 C (by omega)) ?_
          refine z_if_ne 52 dX5_near_46 (by decide) (bi_r _) (fun c46 => ?_) (fun c46 => ?_)
          · have c46 := bi_ne.mp c46
            omega
          · have c46 := bi_eq.mp c46
            refine z_ldc (-1000001) dX5_near_49 qX5_65 rfl ?_
            exact z_ireturn dX5_near_51 rfl (hQ _ _ ⟨_, rfl, rfl, rfl⟩)
      · omega
    · omega
set_option maxRecDepth 100000 in
set_option maxHeartbeats 4000000 in
theorem c_X5_near1 {g : GG} {h : HH} {σ : SG} (W : WF σ) (C : RC (h 2) σ) {i j : Nat} (hi : i < sE σ) (hj : j < sE σ) : CeI mX5_near g [vr 0, vi 1, vi (i : Int), vi (j : Int)] h (near1 σ i j) := by
  refine cn_q (lv := [vr 0, vi 1, vi (i : Int), vi (j : Int), vx]) tX5_near.1 rfl rfl (fun hR Q hQ => ?_)
  have w1 := W.1
  have w2 := W.2.1
  have w3 := W.2.2.1
  refine z_iload_n dX5_near_0 rfl ?_
  refine z_if_lt 9 dX5_near_1 (by decide) (by omega) (fun c1 => ?_) (fun c1 => ?_)
  · omega
  · refine z_iload_n dX5_near_4 rfl ?_
    refine z_iconst dX5_near_5 ?_
    refine z_icmp_le 12 dX5_near_6 (by decide) (by omega) (by omega) (fun c6 => ?_) (fun c6 => ?_)
    · refine z_iload_n dX5_near_12 rfl ?_
      refine z_if_ne 20 dX5_near_13 (by decide) (by omega) (fun c13 => ?_) (fun c13 => ?_)
      · refine z_iconst dX5_near_20 ?_
        refine z_istore dX5_near_21 (by decide) rfl ?_
        refine z_aload_n dX5_near_23 rfl ?_
        refine z_getR fX5_10 dX5_near_24 (by decide) rfl rfl ?_
        refine z_iload dX5_near_27 rfl ?_
        refine z_iload_n dX5_near_29 rfl ?_
        refine z_callV_eI (M := mX5_near) [_, _] tX0_hasCell kX5_127 dX5_near_30 ⟨by decide, rfl, _, _, rfl⟩ ⟨by decide, by decide⟩ rfl (Nat.le_of_ble_eq_true rfl) rfl (s_X0_has1 isC1 C (by omega)) ?_
        refine z_if_eq 49 dX5_near_33 (by decide) (bi_r _) (fun c33 => ?_) (fun c33 => ?_)
        · have c33 := bi_eq.mp c33
          omega
        · have c33 := bi_ne.mp c33
          refine z_aload_n dX5_near_36 rfl ?_
          refine z_getR fX5_10 dX5_near_37 (by decide) rfl rfl ?_
          refine z_iload dX5_near_40 rfl ?_
          refine z_iload_n dX5_near_42 rfl ?_
          refine z_callV_eI (M := mX5_near) [_, _] tX0_hasCell kX5_127 dX5_near_43 ⟨by decide, rfl, _, _, rfl⟩ ⟨by decide, by decide⟩ rfl (Nat.le_of_ble_eq_true rfl) rfl (s_X0_has1 isC1 C (by omega)) ?_
          refine z_if_ne 52 dX5_near_46 (by decide) (bi_r _) (fun c46 => ?_) (fun c46 => ?_)
          · have c46 := bi_ne.mp c46
            refine z_aload_n dX5_near_52 rfl ?_
            refine z_getR fX5_10 dX5_near_53 (by decide) rfl rfl ?_
            refine z_iload_n dX5_near_56 rfl ?_
            refine z_iload_n dX5_near_57 rfl ?_
            refine z_iload_n dX5_near_58 rfl ?_
            refine z_callV_eI (M := mX5_near) [_, _, _] tX0_nearOf kX5_196 dX5_near_59 ⟨by decide, rfl, _, _, rfl⟩ ⟨by decide, by decide⟩ rfl (Nat.le_of_ble_eq_true rfl) rfl (c_X0_near1 isC1 W C hi hj) ?_
            exact z_ireturn dX5_near_62 rfl (hQ _ _ ⟨_, rfl, rfl, rfl⟩)
          · have c46 := bi_eq.mp c46
            omega
      · omega
    · omega
set_option maxRecDepth 100000 in
set_option maxHeartbeats 4000000 in
theorem c_X5_nearO2 {g : GG} {h : HH} {σ : SG} (W : WF σ) (C : RC (h 2) σ) {i j : Int} (hi : R32 i) (hj : R32 j) (ho : ¬ (0 ≤ i ∧ i < sE σ ∧ 0 ≤ j ∧ j < sE σ)) : CeI mX5_near g [vr 0, vi 2, vi i, vi j] h kBAD := by
  refine cn_q (lv := [vr 0, vi 2, vi i, vi j, vx]) tX5_near.1 rfl rfl (fun hR Q hQ => ?_)
  refine z_iload_n dX5_near_0 rfl ?_
  refine z_if_lt 9 dX5_near_1 (by decide) (by omega) (fun c1 => ?_) (fun c1 => ?_)
  · omega
  · refine z_iload_n dX5_near_4 rfl ?_
    refine z_iconst dX5_near_5 ?_
    refine z_icmp_le 12 dX5_near_6 (by decide) (by omega) (by omega) (fun c6 => ?_) (fun c6 => ?_)
    · refine z_iload_n dX5_near_12 rfl ?_
      refine z_if_ne 20 dX5_near_13 (by decide) (by omega) (fun c13 => ?_) (fun c13 => ?_)
      · refine z_iconst dX5_near_20 ?_
        refine z_istore dX5_near_21 (by decide) rfl ?_
        refine z_aload_n dX5_near_23 rfl ?_
        refine z_getR fX5_10 dX5_near_24 (by decide) rfl rfl ?_
        refine z_iload dX5_near_27 rfl ?_
        refine z_iload_n dX5_near_29 rfl ?_
        refine z_callV_eI (M := mX5_near) [_, _] tX0_hasCell kX5_127 dX5_near_30 ⟨by decide, rfl, _, _, rfl⟩ ⟨by decide, by decide⟩ rfl (Nat.le_of_ble_eq_true rfl) rfl (s_X0_has1 isC1 C (by omega)) ?_
        refine z_if_eq 49 dX5_near_33 (by decide) (bi_r _) (fun c33 => ?_) (fun c33 => ?_)
        · have c33 := bi_eq.mp c33
          refine z_ldc (-1000001) dX5_near_49 qX5_65 rfl ?_
          exact z_ireturn dX5_near_51 rfl (hQ _ _ ⟨_, rfl, rfl, rfl⟩)
        · have c33 := bi_ne.mp c33
          refine z_aload_n dX5_near_36 rfl ?_
          refine z_getR fX5_10 dX5_near_37 (by decide) rfl rfl ?_
          refine z_iload dX5_near_40 rfl ?_
          refine z_iload_n dX5_near_42 rfl ?_
          refine z_callV_eI (M := mX5_near) [_, _] tX0_hasCell kX5_127 dX5_near_43 ⟨by decide, rfl, _, _, rfl⟩ ⟨by decide, by decide⟩ rfl (Nat.le_of_ble_eq_true rfl) rfl (s_X0_has1 isC1 C (by omega)) ?_
          refine z_if_ne 52 dX5_near_46 (by decide) (bi_r _) (fun c46 => ?_) (fun c46 => ?_)
          · have c46 := bi_ne.mp c46
            omega
          · have c46 := bi_eq.mp c46
            refine z_ldc (-1000001) dX5_near_49 qX5_65 rfl ?_
            exact z_ireturn dX5_near_51 rfl (hQ _ _ ⟨_, rfl, rfl, rfl⟩)
      · omega
    · omega
set_option maxRecDepth 100000 in
set_option maxHeartbeats 4000000 in
theorem c_X5_near2 {g : GG} {h : HH} {σ : SG} (W : WF σ) (C : RC (h 2) σ) {i j : Nat} (hi : i < sE σ) (hj : j < sE σ) : CeI mX5_near g [vr 0, vi 2, vi (i : Int), vi (j : Int)] h (near2 σ i j) := by
  refine cn_q (lv := [vr 0, vi 2, vi (i : Int), vi (j : Int), vx]) tX5_near.1 rfl rfl (fun hR Q hQ => ?_)
  have w1 := W.1
  have w2 := W.2.1
  have w3 := W.2.2.1
  refine z_iload_n dX5_near_0 rfl ?_
  refine z_if_lt 9 dX5_near_1 (by decide) (by omega) (fun c1 => ?_) (fun c1 => ?_)
  · omega
  · refine z_iload_n dX5_near_4 rfl ?_
    refine z_iconst dX5_near_5 ?_
    refine z_icmp_le 12 dX5_near_6 (by decide) (by omega) (by omega) (fun c6 => ?_) (fun c6 => ?_)
    · refine z_iload_n dX5_near_12 rfl ?_
      refine z_if_ne 20 dX5_near_13 (by decide) (by omega) (fun c13 => ?_) (fun c13 => ?_)
      · refine z_iconst dX5_near_20 ?_
        refine z_istore dX5_near_21 (by decide) rfl ?_
        refine z_aload_n dX5_near_23 rfl ?_
        refine z_getR fX5_10 dX5_near_24 (by decide) rfl rfl ?_
        refine z_iload dX5_near_27 rfl ?_
        refine z_iload_n dX5_near_29 rfl ?_
        refine z_callV_eI (M := mX5_near) [_, _] tX0_hasCell kX5_127 dX5_near_30 ⟨by decide, rfl, _, _, rfl⟩ ⟨by decide, by decide⟩ rfl (Nat.le_of_ble_eq_true rfl) rfl (s_X0_has1 isC1 C (by omega)) ?_
        refine z_if_eq 49 dX5_near_33 (by decide) (bi_r _) (fun c33 => ?_) (fun c33 => ?_)
        · have c33 := bi_eq.mp c33
          omega
        · have c33 := bi_ne.mp c33
          refine z_aload_n dX5_near_36 rfl ?_
          refine z_getR fX5_10 dX5_near_37 (by decide) rfl rfl ?_
          refine z_iload dX5_near_40 rfl ?_
          refine z_iload_n dX5_near_42 rfl ?_
          refine z_callV_eI (M := mX5_near) [_, _] tX0_hasCell kX5_127 dX5_near_43 ⟨by decide, rfl, _, _, rfl⟩ ⟨by decide, by decide⟩ rfl (Nat.le_of_ble_eq_true rfl) rfl (s_X0_has1 isC1 C (by omega)) ?_
          refine z_if_ne 52 dX5_near_46 (by decide) (bi_r _) (fun c46 => ?_) (fun c46 => ?_)
          · have c46 := bi_ne.mp c46
            refine z_aload_n dX5_near_52 rfl ?_
            refine z_getR fX5_10 dX5_near_53 (by decide) rfl rfl ?_
            refine z_iload_n dX5_near_56 rfl ?_
            refine z_iload_n dX5_near_57 rfl ?_
            refine z_iload_n dX5_near_58 rfl ?_
            refine z_callV_eI (M := mX5_near) [_, _, _] tX0_nearOf kX5_196 dX5_near_59 ⟨by decide, rfl, _, _, rfl⟩ ⟨by decide, by decide⟩ rfl (Nat.le_of_ble_eq_true rfl) rfl (c_X0_near2 isC1 W C hi hj) ?_
            exact z_ireturn dX5_near_62 rfl (hQ _ _ ⟨_, rfl, rfl, rfl⟩)
          · have c46 := bi_eq.mp c46
            omega
      · omega
    · omega
set_option maxRecDepth 100000 in
set_option maxHeartbeats 4000000 in
theorem c_X5_chainO {g : GG} {h : HH} {σ : SG} (W : WF σ) (C : RC (h 2) σ) {c e : Int} (hc : R32 c) (he : R32 e) (ho : ¬ (0 ≤ c ∧ c < 3 ∧ 0 ≤ e ∧ e < sE σ)) : CeI mX5_chain g [vr 0, vi c, vi e] h kBAD := by
  refine cn_q (lv := [vr 0, vi c, vi e]) tX5_chain.1 rfl rfl (fun hR Q hQ => ?_)
  refine z_iload_n dX5_chain_0 rfl ?_
  refine z_callS_eI (M := mX5_chain) [_] tX5_isChain kX5_150 dX5_chain_1 ⟨by decide, by decide⟩ rfl (Nat.le_of_ble_eq_true rfl) rfl (c_X5_isChain (by omega)) ?_
  refine z_if_eq 19 dX5_chain_4 (by decide) (bi_r _) (fun c4 => ?_) (fun c4 => ?_)
  · have c4 := bi_eq.mp c4
    refine z_ldc (-1000001) dX5_chain_19 qX5_65 rfl ?_
    exact z_ireturn dX5_chain_21 rfl (hQ _ _ ⟨_, rfl, rfl, rfl⟩)
  · have c4 := bi_ne.mp c4
    refine z_aload_n dX5_chain_7 rfl ?_
    refine z_getR fX5_10 dX5_chain_8 (by decide) rfl rfl ?_
    refine z_iconst dX5_chain_11 ?_
    refine z_iload_n dX5_chain_12 rfl ?_
    refine z_callV_eI (M := mX5_chain) [_, _] tX0_hasCell kX5_127 dX5_chain_13 ⟨by decide, rfl, _, _, rfl⟩ ⟨by decide, by decide⟩ rfl (Nat.le_of_ble_eq_true rfl) rfl (s_X0_has1 isC1 C (by omega)) ?_
    refine z_if_ne 22 dX5_chain_16 (by decide) (bi_r _) (fun c16 => ?_) (fun c16 => ?_)
    · have c16 := bi_ne.mp c16
      omega
    · have c16 := bi_eq.mp c16
      refine z_ldc (-1000001) dX5_chain_19 qX5_65 rfl ?_
      exact z_ireturn dX5_chain_21 rfl (hQ _ _ ⟨_, rfl, rfl, rfl⟩)
set_option maxRecDepth 100000 in
set_option maxHeartbeats 4000000 in
theorem c_X5_chain1 {g : GG} {h : HH} {σ : SG} (W : WF σ) (C : RC (h 2) σ) {c e : Nat} (hc : c < 3) (he : e < sE σ) : CeI mX5_chain g [vr 0, vi (c : Int), vi (e : Int)] h (sch σ c e) := by
  refine cn_q (lv := [vr 0, vi (c : Int), vi (e : Int)]) tX5_chain.1 rfl rfl (fun hR Q hQ => ?_)
  have w1 := W.1
  have w2 := W.2.1
  have w3 := W.2.2.1
  refine z_iload_n dX5_chain_0 rfl ?_
  refine z_callS_eI (M := mX5_chain) [_] tX5_isChain kX5_150 dX5_chain_1 ⟨by decide, by decide⟩ rfl (Nat.le_of_ble_eq_true rfl) rfl (c_X5_isChain (by omega)) ?_
  refine z_if_eq 19 dX5_chain_4 (by decide) (bi_r _) (fun c4 => ?_) (fun c4 => ?_)
  · have c4 := bi_eq.mp c4
    omega
  · have c4 := bi_ne.mp c4
    refine z_aload_n dX5_chain_7 rfl ?_
    refine z_getR fX5_10 dX5_chain_8 (by decide) rfl rfl ?_
    refine z_iconst dX5_chain_11 ?_
    refine z_iload_n dX5_chain_12 rfl ?_
    refine z_callV_eI (M := mX5_chain) [_, _] tX0_hasCell kX5_127 dX5_chain_13 ⟨by decide, rfl, _, _, rfl⟩ ⟨by decide, by decide⟩ rfl (Nat.le_of_ble_eq_true rfl) rfl (s_X0_has1 isC1 C (by omega)) ?_
    refine z_if_ne 22 dX5_chain_16 (by decide) (bi_r _) (fun c16 => ?_) (fun c16 => ?_)
    · have c16 := bi_ne.mp c16
      refine z_aload_n dX5_chain_22 rfl ?_
      refine z_getR fX5_10 dX5_chain_23 (by decide) rfl rfl ?_
      refine z_iload_n dX5_chain_26 rfl ?_
      refine z_iload_n dX5_chain_27 rfl ?_
      refine z_callV_eI (M := mX5_chain) [_, _] tX0_numberAt kX5_156 dX5_chain_28 ⟨by decide, rfl, _, _, rfl⟩ ⟨by decide, by decide⟩ rfl (Nat.le_of_ble_eq_true rfl) rfl (s_X0_numberAt isC1 W.wb C hc he) ?_
      exact z_ireturn dX5_chain_31 rfl (hQ _ _ ⟨_, rfl, rfl, rfl⟩)
    · have c16 := bi_eq.mp c16
      omega
set_option maxRecDepth 100000 in
set_option maxHeartbeats 4000000 in
theorem c_X5_endsO {g : GG} {h : HH} {σ : SG} (W : WF σ) (C : RC (h 2) σ) {c e : Int} (hc : R32 c) (he : R32 e) (ho : ¬ (0 ≤ c ∧ c < 3 ∧ 0 ≤ e ∧ e < sP σ)) : CeI mX5_ends g [vr 0, vi c, vi e] h kBAD := by
  refine cn_q (lv := [vr 0, vi c, vi e]) tX5_ends.1 rfl rfl (fun hR Q hQ => ?_)
  refine z_iload_n dX5_ends_0 rfl ?_
  refine z_callS_eI (M := mX5_ends) [_] tX5_isChain kX5_150 dX5_ends_1 ⟨by decide, by decide⟩ rfl (Nat.le_of_ble_eq_true rfl) rfl (c_X5_isChain (by omega)) ?_
  refine z_if_eq 19 dX5_ends_4 (by decide) (bi_r _) (fun c4 => ?_) (fun c4 => ?_)
  · have c4 := bi_eq.mp c4
    refine z_ldc (-1000001) dX5_ends_19 qX5_65 rfl ?_
    exact z_ireturn dX5_ends_21 rfl (hQ _ _ ⟨_, rfl, rfl, rfl⟩)
  · have c4 := bi_ne.mp c4
    refine z_aload_n dX5_ends_7 rfl ?_
    refine z_getR fX5_10 dX5_ends_8 (by decide) rfl rfl ?_
    refine z_iconst dX5_ends_11 ?_
    refine z_iload_n dX5_ends_12 rfl ?_
    refine z_callV_eI (M := mX5_ends) [_, _] tX0_hasCell kX5_127 dX5_ends_13 ⟨by decide, rfl, _, _, rfl⟩ ⟨by decide, by decide⟩ rfl (Nat.le_of_ble_eq_true rfl) rfl (s_X0_has0 isC1 C (by omega)) ?_
    refine z_if_ne 22 dX5_ends_16 (by decide) (bi_r _) (fun c16 => ?_) (fun c16 => ?_)
    · have c16 := bi_ne.mp c16
      omega
    · have c16 := bi_eq.mp c16
      refine z_ldc (-1000001) dX5_ends_19 qX5_65 rfl ?_
      exact z_ireturn dX5_ends_21 rfl (hQ _ _ ⟨_, rfl, rfl, rfl⟩)
set_option maxRecDepth 100000 in
set_option maxHeartbeats 4000000 in
theorem c_X5_ends1 {g : GG} {h : HH} {σ : SG} (W : WF σ) (C : RC (h 2) σ) {c e : Nat} (hc : c < 3) (he : e < sP σ) : CeI mX5_ends g [vr 0, vi (c : Int), vi (e : Int)] h (ends σ c e) := by
  refine cn_q (lv := [vr 0, vi (c : Int), vi (e : Int)]) tX5_ends.1 rfl rfl (fun hR Q hQ => ?_)
  have w1 := W.1
  have w2 := W.2.1
  have w3 := W.2.2.1
  refine z_iload_n dX5_ends_0 rfl ?_
  refine z_callS_eI (M := mX5_ends) [_] tX5_isChain kX5_150 dX5_ends_1 ⟨by decide, by decide⟩ rfl (Nat.le_of_ble_eq_true rfl) rfl (c_X5_isChain (by omega)) ?_
  refine z_if_eq 19 dX5_ends_4 (by decide) (bi_r _) (fun c4 => ?_) (fun c4 => ?_)
  · have c4 := bi_eq.mp c4
    omega
  · have c4 := bi_ne.mp c4
    refine z_aload_n dX5_ends_7 rfl ?_
    refine z_getR fX5_10 dX5_ends_8 (by decide) rfl rfl ?_
    refine z_iconst dX5_ends_11 ?_
    refine z_iload_n dX5_ends_12 rfl ?_
    refine z_callV_eI (M := mX5_ends) [_, _] tX0_hasCell kX5_127 dX5_ends_13 ⟨by decide, rfl, _, _, rfl⟩ ⟨by decide, by decide⟩ rfl (Nat.le_of_ble_eq_true rfl) rfl (s_X0_has0 isC1 C (by omega)) ?_
    refine z_if_ne 22 dX5_ends_16 (by decide) (bi_r _) (fun c16 => ?_) (fun c16 => ?_)
    · have c16 := bi_ne.mp c16
      refine z_aload_n dX5_ends_22 rfl ?_
      refine z_getR fX5_10 dX5_ends_23 (by decide) rfl rfl ?_
      refine z_iload_n dX5_ends_26 rfl ?_
      refine z_iload_n dX5_ends_27 rfl ?_
      refine z_callV_eI (M := mX5_ends) [_, _] tX0_boundaryAt kX5_219 dX5_ends_28 ⟨by decide, rfl, _, _, rfl⟩ ⟨by decide, by decide⟩ rfl (Nat.le_of_ble_eq_true rfl) rfl (c_X0_boundaryAt isC1 W C hc he) ?_
      exact z_ireturn dX5_ends_31 rfl (hQ _ _ ⟨_, rfl, rfl, rfl⟩)
    · have c16 := bi_eq.mp c16
      omega
set_option maxRecDepth 100000 in
set_option maxHeartbeats 4000000 in
theorem c_X5_asK {g : GG} {h : HH} {σ : SG} (W : WF σ) (C : RC (h 2) σ) {d c k : Int} (hd : R32 d) (hc : R32 c) (hk : R32 k) (ho : k < 0 ∨ 5 < k) {p : Prop} (hp : CeI mX0_hasCell g [vr 1, vi d, vi c] h (bi p)) : CeI mX5_as g [vr 0, vi d, vi c, vi k] h kBAD := by
  refine cn_q (lv := [vr 0, vi d, vi c, vi k]) tX5_as.1 rfl rfl (fun hR Q hQ => ?_)
  refine z_aload_n dX5_as_0 rfl ?_
  refine z_getR fX5_10 dX5_as_1 (by decide) rfl rfl ?_
  refine z_iload_n dX5_as_4 rfl ?_
  refine z_iload_n dX5_as_5 rfl ?_
  refine z_callV_eI (M := mX5_as) [_, _] tX0_hasCell kX5_127 dX5_as_6 ⟨by decide, rfl, _, _, rfl⟩ ⟨by decide, by decide⟩ rfl (Nat.le_of_ble_eq_true rfl) rfl hp ?_
  refine z_if_eq 21 dX5_as_9 (by decide) (bi_r _) (fun c9 => ?_) (fun c9 => ?_)
  · have c9 := bi_eq.mp c9
    refine z_ldc (-1000001) dX5_as_21 qX5_65 rfl ?_
    exact z_ireturn dX5_as_23 rfl (hQ _ _ ⟨_, rfl, rfl, rfl⟩)
  · have c9 := bi_ne.mp c9
    refine z_iload_n dX5_as_12 rfl ?_
    refine z_if_lt 21 dX5_as_13 (by decide) (by omega) (fun c13 => ?_) (fun c13 => ?_)
    · refine z_ldc (-1000001) dX5_as_21 qX5_65 rfl ?_
      exact z_ireturn dX5_as_23 rfl (hQ _ _ ⟨_, rfl, rfl, rfl⟩)
    · refine z_iload_n dX5_as_16 rfl ?_
      refine z_iconst dX5_as_17 ?_
      refine z_icmp_le 24 dX5_as_18 (by decide) (by omega) (by omega) (fun c18 => ?_) (fun c18 => ?_)
      · omega
      · refine z_ldc (-1000001) dX5_as_21 qX5_65 rfl ?_
        exact z_ireturn dX5_as_23 rfl (hQ _ _ ⟨_, rfl, rfl, rfl⟩)
set_option maxRecDepth 100000 in
set_option maxHeartbeats 4000000 in
theorem c_X5_asO {g : GG} {h : HH} {σ : SG} (W : WF σ) (C : RC (h 2) σ) {d c k : Int} (hd : R32 d) (hc : R32 c) (hk : R32 k) {p : Prop} (hp : CeI mX0_hasCell g [vr 1, vi d, vi c] h (bi p)) (hq : ¬ p) : CeI mX5_as g [vr 0, vi d, vi c, vi k] h kBAD := by
  refine cn_q (lv := [vr 0, vi d, vi c, vi k]) tX5_as.1 rfl rfl (fun hR Q hQ => ?_)
  refine z_aload_n dX5_as_0 rfl ?_
  refine z_getR fX5_10 dX5_as_1 (by decide) rfl rfl ?_
  refine z_iload_n dX5_as_4 rfl ?_
  refine z_iload_n dX5_as_5 rfl ?_
  refine z_callV_eI (M := mX5_as) [_, _] tX0_hasCell kX5_127 dX5_as_6 ⟨by decide, rfl, _, _, rfl⟩ ⟨by decide, by decide⟩ rfl (Nat.le_of_ble_eq_true rfl) rfl hp ?_
  refine z_if_eq 21 dX5_as_9 (by decide) (bi_r _) (fun c9 => ?_) (fun c9 => ?_)
  · have c9 := bi_eq.mp c9
    refine z_ldc (-1000001) dX5_as_21 qX5_65 rfl ?_
    exact z_ireturn dX5_as_23 rfl (hQ _ _ ⟨_, rfl, rfl, rfl⟩)
  · have c9 := bi_ne.mp c9
    exact absurd c9 hq
set_option maxRecDepth 100000 in
set_option maxHeartbeats 4000000 in
theorem c_X5_as1 {g : GG} {h : HH} {σ : SG} (W : WF σ) (C : RC (h 2) σ) {d : Int} {c : Nat} {k : Int} (hd : R32 d) (hc : c < 6) (hk : 0 ≤ k ∧ k ≤ 5) {p : Prop} (hp : CeI mX0_hasCell g [vr 1, vi d, vi (c : Int)] h (bi p)) (hq : p) {r : Prop} (hr : CeI mX0_isOfKind g [vr 1, vi d, vi (c : Int), vi k] h (bi r)) : CpI mX5_as g [vr 0, vi d, vi (c : Int), vi k] h (fun z => (r ∧ z = c) ∨ (¬ r ∧ z = kNONE)) := by
  refine cn_q (lv := [vr 0, vi d, vi (c : Int), vi k]) tX5_as.1 rfl rfl (fun hR Q hQ => ?_)
  refine z_aload_n dX5_as_0 rfl ?_
  refine z_getR fX5_10 dX5_as_1 (by decide) rfl rfl ?_
  refine z_iload_n dX5_as_4 rfl ?_
  refine z_iload_n dX5_as_5 rfl ?_
  refine z_callV_eI (M := mX5_as) [_, _] tX0_hasCell kX5_127 dX5_as_6 ⟨by decide, rfl, _, _, rfl⟩ ⟨by decide, by decide⟩ rfl (Nat.le_of_ble_eq_true rfl) rfl hp ?_
  refine z_if_eq 21 dX5_as_9 (by decide) (bi_r _) (fun c9 => ?_) (fun c9 => ?_)
  · have c9 := bi_eq.mp c9
    exact absurd hq c9
  · have c9 := bi_ne.mp c9
    refine z_iload_n dX5_as_12 rfl ?_
    refine z_if_lt 21 dX5_as_13 (by decide) (by omega) (fun c13 => ?_) (fun c13 => ?_)
    · omega
    · refine z_iload_n dX5_as_16 rfl ?_
      refine z_iconst dX5_as_17 ?_
      refine z_icmp_le 24 dX5_as_18 (by decide) (by omega) (by omega) (fun c18 => ?_) (fun c18 => ?_)
      · refine z_aload_n dX5_as_24 rfl ?_
        refine z_getR fX5_10 dX5_as_25 (by decide) rfl rfl ?_
        refine z_iload_n dX5_as_28 rfl ?_
        refine z_iload_n dX5_as_29 rfl ?_
        refine z_iload_n dX5_as_30 rfl ?_
        refine z_callV_eI (M := mX5_as) [_, _, _] tX0_isOfKind kX5_192 dX5_as_31 ⟨by decide, rfl, _, _, rfl⟩ ⟨by decide, by decide⟩ rfl (Nat.le_of_ble_eq_true rfl) rfl hr ?_
        refine z_if_eq 41 dX5_as_34 (by decide) (bi_r _) (fun c34 => ?_) (fun c34 => ?_)
        · have c34 := bi_eq.mp c34
          refine z_ldc (-1000000) dX5_as_41 qX5_191 rfl ?_
          exact z_ireturn dX5_as_43 rfl (hQ _ _ ⟨_, rfl, (Or.inr ⟨c34, rfl⟩), rfl⟩)
        · have c34 := bi_ne.mp c34
          refine z_iload_n dX5_as_37 rfl ?_
          refine z_goto 43 dX5_as_38 (by decide) ?_
          exact z_ireturn dX5_as_43 rfl (hQ _ _ ⟨_, rfl, (Or.inl ⟨c34, rfl⟩), rfl⟩)
      · omega
set_option maxRecDepth 100000 in
set_option maxHeartbeats 4000000 in
theorem c_X5_count {g : GG} {h : HH} {σ : SG} (W : WF σ) (C : RC (h 2) σ) {n : Nat} (hn : h 5 1 = n) {a : Nat} (ha : h 0 9 = a) {w : Int} (hw : R32 w) : CeI mX5_count g [vr 0, vi w] h (if w = 0 then (sP σ : Int) else if w = 1 then (sE σ : Int) else if w = 2 then (sF σ : Int) else if w = 3 then (a : Int) else if w = 4 then (n : Int) else kBAD) := by
  refine cn_q (lv := [vr 0, vi w]) tX5_count.1 rfl rfl (fun hR Q hQ => ?_)
  refine z_iload_n dX5_count_0 rfl ?_
  refine z_if_lt 9 dX5_count_1 (by decide) (by omega) (fun c1 => ?_) (fun c1 => ?_)
  · refine z_ldc (-1000001) dX5_count_9 qX5_65 rfl ?_
    exact z_ireturn dX5_count_11 rfl (hQ _ _ ⟨_, rfl, (by first | rfl | (exfalso; omega) | ((repeat' split) <;> first | rfl | omega | (exfalso; omega))), rfl⟩)
  · refine z_iload_n dX5_count_4 rfl ?_
    refine z_iconst dX5_count_5 ?_
    refine z_icmp_le 12 dX5_count_6 (by decide) (by omega) (by omega) (fun c6 => ?_) (fun c6 => ?_)
    · refine z_iload_n dX5_count_12 rfl ?_
      refine z_iconst dX5_count_13 ?_
      refine z_icmp_ne 22 dX5_count_14 (by decide) (by omega) (by omega) (fun c14 => ?_) (fun c14 => ?_)
      · refine z_iload_n dX5_count_22 rfl ?_
        refine z_iconst dX5_count_23 ?_
        refine z_icmp_ne 37 dX5_count_24 (by decide) (by omega) (by omega) (fun c24 => ?_) (fun c24 => ?_)
        · refine z_aload_n dX5_count_37 rfl ?_
          refine z_getR fX5_10 dX5_count_38 (by decide) rfl rfl ?_
          refine z_iload_n dX5_count_41 rfl ?_
          refine z_callV_eI (M := mX5_count) [_] tX0_sizeOf kX5_97 dX5_count_42 ⟨by decide, rfl, _, _, rfl⟩ ⟨by decide, by decide⟩ rfl (Nat.le_of_ble_eq_true rfl) rfl (c_X0_sizeOf isC1 hw) ?_
          exact z_ireturn dX5_count_45 rfl (hQ _ _ ⟨_, rfl, (rc_cnt C (by omega) _ _ _), rfl⟩)
        · refine z_aload_n dX5_count_27 rfl ?_
          refine z_getR fX5_22 dX5_count_28 (by decide) rfl rfl ?_
          refine z_callV_eI (M := mX5_count) [] tX3_size kX5_70 dX5_count_31 ⟨by decide, rfl, _, _, rfl⟩ ⟨by decide, by decide⟩ rfl (Nat.le_of_ble_eq_true rfl) rfl c_X3_size ?_
          refine z_goto 45 dX5_count_34 (by decide) ?_
          exact z_ireturn dX5_count_45 rfl (hQ _ _ ⟨_, rfl, (by rw [hn]; first | rfl | (exfalso; omega) | ((repeat' split) <;> first | rfl | omega | (exfalso; omega))), rfl⟩)
      · refine z_aload_n dX5_count_17 rfl ?_
        refine z_getI fX5_59 dX5_count_18 (by decide) rfl rfl (fun r18 => ?_)
        exact z_ireturn dX5_count_21 rfl (hQ _ _ ⟨_, rfl, (by rw [ha]; first | rfl | (exfalso; omega) | ((repeat' split) <;> first | rfl | omega | (exfalso; omega))), rfl⟩)
    · refine z_ldc (-1000001) dX5_count_9 qX5_65 rfl ?_
      exact z_ireturn dX5_count_11 rfl (hQ _ _ ⟨_, rfl, (by first | rfl | (exfalso; omega) | ((repeat' split) <;> first | rfl | omega | (exfalso; omega))), rfl⟩)

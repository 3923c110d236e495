set_option maxRecDepth 100000 in
set_option maxHeartbeats 4000000 in
theorem c_X6_undoS {g : GG} {h : HH} (h3 : h 47 3 = 0) : CeI mX6_undo g [vr 47] h kSTATE := by
  refine cn_q (lv := [vr 47]) tX6_undo.1 rfl rfl (fun hR Q hQ => ?_)
  refine z_aload_n dX6_undo_0 rfl ?_
  refine z_getI fX6_238 dX6_undo_1 (by decide) rfl rfl (fun r1 => ?_)
  refine z_if_ne 10 dX6_undo_4 (by decide) (by omega) (fun c4 => ?_) (fun c4 => ?_)
  · omega
  · refine z_ldc (-1000002) dX6_undo_7 qX6_241 rfl ?_
    exact z_ireturn dX6_undo_9 rfl (hQ _ _ ⟨_, rfl, rfl, rfl⟩)
set_option maxRecDepth 100000 in
set_option maxHeartbeats 4000000 in
theorem c_X6_undo1 {g : GG} {h : HH} {σ' : SG} {as : List SG} (P : RPast h (σ' :: as)) : CnI mX6_undo g [vr 47] h (fun z h' => z = as.length ∧ UndoM h h' σ' as) := by
  refine cn_q (lv := [vr 47]) tX6_undo.1 rfl rfl (fun hR Q hQ => ?_)
  obtain ⟨p1, p2, p3⟩ := id P
  have p2 : h 47 3 = (as.length : Int) + 1 := p2
  have p1 : as.length + 1 ≤ 8 := p1
  refine z_aload_n dX6_undo_0 rfl ?_
  refine z_getI fX6_238 dX6_undo_1 (by decide) rfl rfl (fun r1 => ?_)
  refine z_if_ne 10 dX6_undo_4 (by decide) (by omega) (fun c4 => ?_) (fun c4 => ?_)
  · refine z_aload_n dX6_undo_10 rfl ?_
    refine z_dup dX6_undo_11 rfl ?_
    refine z_getI fX6_238 dX6_undo_12 (by decide) rfl rfl (fun r12 => ?_)
    refine z_iconst dX6_undo_15 ?_
    refine z_isub dX6_undo_16 ?_
    rw [p2, show (as.length : Int) + 1 - 1 = as.length by omega]
    refine z_putI pX6_238 dX6_undo_17 (by decide) rfl rfl (by omega) ?_
    refine z_aload_n dX6_undo_20 rfl ?_
    refine z_getR fX6_16 dX6_undo_21 (by decide) rfl rfl ?_
    refine z_bipush dX6_undo_24 (by decide) ?_
    refine z_aload_n dX6_undo_26 rfl ?_
    refine z_getI fX6_238 dX6_undo_27 (by decide) rfl rfl (fun r27 => ?_)
    rw [up_same]
    refine z_imul dX6_undo_30 ?_
    refine z_aload_n dX6_undo_31 rfl ?_
    refine z_getR fX6_7 dX6_undo_32 (by decide) rfl rfl ?_
    refine z_iconst dX6_undo_35 ?_
    rw [show (63 : Int) * (as.length : Int) = ((63 * as.length : Nat) : Int) from by omega]
    refine z_callS_V (M := mX6_undo) [_, _, _, _] tX6_copies kX6_234 dX6_undo_36 ⟨by decide, by decide⟩ rfl (Nat.le_of_ble_eq_true rfl) rfl (c_X6_copies (x := 50) (a := 63 * as.length) (y := 48) (b := 0) (by decide) (by decide) (by decide) rfl rfl (by omega) (by decide) (by decide) (by decide)) (fun h36 q36 => ?_)
    rw [q36]
    refine z_aload_n dX6_undo_39 rfl ?_
    refine z_getI fX6_238 dX6_undo_40 (by decide) rfl rfl (fun r40 => ?_)
    rw [show cpB (up h 47 3 as.length) 50 (63 * as.length) 48 0 63 47 3 = as.length from by unfold cpB; rw [setc_ne _ _ (by decide), up_same]]
    exact z_ireturn dX6_undo_43 rfl (hQ _ _ ⟨_, rfl, ⟨rfl, undoM_of P⟩⟩)
  · omega
set_option maxRecDepth 100000 in
set_option maxHeartbeats 4000000 in
theorem c_X6_weighN {g : GG} {h : HH} {σ : SG} (W : WF σ) (R : RM (h 48) σ) {d : Int} (hd : R32 d) (hn : d ≠ 1 ∧ d ≠ 2) {c : Int} (hc : R32 c) {w : Int} (hw : R32 w) : CeI mX6_weigh g [vr 47, vi d, vi c, vi w] h kBAD := by
  refine cn_q (lv := [vr 47, vi d, vi c, vi w, vx]) tX6_weigh.1 rfl rfl (fun hR Q hQ => ?_)
  refine z_iload_n dX6_weigh_0 rfl ?_
  refine z_if_eq 25 dX6_weigh_1 (by decide) (by omega) (fun c1 => ?_) (fun c1 => ?_)
  · refine z_ldc (-1000001) dX6_weigh_25 qX6_218 rfl ?_
    exact z_ireturn dX6_weigh_27 rfl (hQ _ _ ⟨_, rfl, rfl, rfl⟩)
  · refine z_aload_n dX6_weigh_4 rfl ?_
    refine z_iload_n dX6_weigh_5 rfl ?_
    refine z_iload_n dX6_weigh_6 rfl ?_
    refine z_callV_eI (M := mX6_weigh) [_, _] tX6_isCell kX6_247 dX6_weigh_7 ⟨by decide, rfl, _, _, rfl⟩ ⟨by decide, by decide⟩ rfl (Nat.le_of_ble_eq_true rfl) rfl (c_X6_isCellN W.wb R (by omega) (by omega) (by omega)) ?_
    refine z_if_eq 25 dX6_weigh_10 (by decide) (bi_r _) (fun c10 => ?_) (fun c10 => ?_)
    · have c10 := bi_eq.mp c10
      refine z_ldc (-1000001) dX6_weigh_25 qX6_218 rfl ?_
      exact z_ireturn dX6_weigh_27 rfl (hQ _ _ ⟨_, rfl, rfl, rfl⟩)
    · have c10 := bi_ne.mp c10
      exact c10.elim
set_option maxRecDepth 100000 in
set_option maxHeartbeats 4000000 in
theorem c_X6_weighO1 {g : GG} {h : HH} {σ : SG} (W : WF σ) (R : RM (h 48) σ) {c : Int} (hc : R32 c) {w : Int} (hw : R32 w) (ho : ¬ (0 ≤ c ∧ c < sE σ ∧ 1 ≤ w ∧ w ≤ 3)) : CeI mX6_weigh g [vr 47, vi 1, vi c, vi w] h kBAD := by
  refine cn_q (lv := [vr 47, vi 1, vi c, vi w, vx]) tX6_weigh.1 rfl rfl (fun hR Q hQ => ?_)
  refine z_iload_n dX6_weigh_0 rfl ?_
  refine z_if_eq 25 dX6_weigh_1 (by decide) (by omega) (fun c1 => ?_) (fun c1 => ?_)
  · omega
  · refine z_aload_n dX6_weigh_4 rfl ?_
    refine z_iload_n dX6_weigh_5 rfl ?_
    refine z_iload_n dX6_weigh_6 rfl ?_
    refine z_callV_eI (M := mX6_weigh) [_, _] tX6_isCell kX6_247 dX6_weigh_7 ⟨by decide, rfl, _, _, rfl⟩ ⟨by decide, by decide⟩ rfl (Nat.le_of_ble_eq_true rfl) rfl (c_X6_isCell1 W.wb R (by omega)) ?_
    refine z_if_eq 25 dX6_weigh_10 (by decide) (bi_r _) (fun c10 => ?_) (fun c10 => ?_)
    · have c10 := bi_eq.mp c10
      refine z_ldc (-1000001) dX6_weigh_25 qX6_218 rfl ?_
      exact z_ireturn dX6_weigh_27 rfl (hQ _ _ ⟨_, rfl, rfl, rfl⟩)
    · have c10 := bi_ne.mp c10
      refine z_iload_n dX6_weigh_13 rfl ?_
      refine z_i2l dX6_weigh_14 (by omega) ?_
      refine z_lconst (z := 1) dX6_weigh_15 rfl ?_
      refine z_ldc2 (3) dX6_weigh_16 qX6_250 rfl ?_
      refine z_callS_eI (M := mX6_weigh) [_, _, _] tX6_in kX6_150 dX6_weigh_19 ⟨by decide, by decide⟩ rfl (Nat.le_of_ble_eq_true rfl) rfl (c_X6_in (by omega) (by omega) (by omega)) ?_
      refine z_if_ne 28 dX6_weigh_22 (by decide) (bi_r _) (fun c22 => ?_) (fun c22 => ?_)
      · have c22 := bi_ne.mp c22
        omega
      · have c22 := bi_eq.mp c22
        refine z_ldc (-1000001) dX6_weigh_25 qX6_218 rfl ?_
        exact z_ireturn dX6_weigh_27 rfl (hQ _ _ ⟨_, rfl, rfl, rfl⟩)
set_option maxRecDepth 100000 in
set_option maxHeartbeats 4000000 in
theorem c_X6_weigh1 {g : GG} {h : HH} {σ : SG} (W : WF σ) (R : RM (h 48) σ) {as : List SG} (P : RPast h as) {c w : Nat} (hc : c < sE σ) (hw : 1 ≤ w ∧ w ≤ 3) : CnI mX6_weigh g [vr 47, vi 1, vi (c : Int), vi (w : Int)] h (fun z h' => z = sew σ c ∧ ActM h h' σ as (setWE σ c w)) := by
  refine cn_q (lv := [vr 47, vi 1, vi (c : Int), vi (w : Int), vx]) tX6_weigh.1 rfl rfl (fun hR Q hQ => ?_)
  have w1 := W.1
  have w2 := W.2.1
  have w3 := W.2.2.1
  refine z_iload_n dX6_weigh_0 rfl ?_
  refine z_if_eq 25 dX6_weigh_1 (by decide) (by omega) (fun c1 => ?_) (fun c1 => ?_)
  · omega
  · refine z_aload_n dX6_weigh_4 rfl ?_
    refine z_iload_n dX6_weigh_5 rfl ?_
    refine z_iload_n dX6_weigh_6 rfl ?_
    refine z_callV_eI (M := mX6_weigh) [_, _] tX6_isCell kX6_247 dX6_weigh_7 ⟨by decide, rfl, _, _, rfl⟩ ⟨by decide, by decide⟩ rfl (Nat.le_of_ble_eq_true rfl) rfl (c_X6_isCell1 W.wb R (by omega)) ?_
    refine z_if_eq 25 dX6_weigh_10 (by decide) (bi_r _) (fun c10 => ?_) (fun c10 => ?_)
    · have c10 := bi_eq.mp c10
      omega
    · have c10 := bi_ne.mp c10
      refine z_iload_n dX6_weigh_13 rfl ?_
      refine z_i2l dX6_weigh_14 (by omega) ?_
      refine z_lconst (z := 1) dX6_weigh_15 rfl ?_
      refine z_ldc2 (3) dX6_weigh_16 qX6_250 rfl ?_
      refine z_callS_eI (M := mX6_weigh) [_, _, _] tX6_in kX6_150 dX6_weigh_19 ⟨by decide, by decide⟩ rfl (Nat.le_of_ble_eq_true rfl) rfl (c_X6_in (by omega) (by omega) (by omega)) ?_
      refine z_if_ne 28 dX6_weigh_22 (by decide) (bi_r _) (fun c22 => ?_) (fun c22 => ?_)
      · have c22 := bi_ne.mp c22
        refine z_aload_n dX6_weigh_28 rfl ?_
        refine z_callV_V (M := mX6_weigh) [] tX6_notes kX6_252 dX6_weigh_29 ⟨by decide, rfl, _, _, rfl⟩ ⟨by decide, by decide⟩ rfl (Nat.le_of_ble_eq_true rfl) rfl (c_X6_notes W R P) (fun h29 q29 => ?_)
        have e48 : h29 48 = h 48 := q29.2.1 48 (by decide) (by decide)
        have R2 : RM (h29 48) σ := by rw [e48]; exact R
        refine z_aload_n dX6_weigh_32 rfl ?_
        refine z_getR fX6_7 dX6_weigh_33 (by decide) rfl rfl ?_
        refine z_iload_n dX6_weigh_36 rfl ?_
        refine z_iload_n dX6_weigh_37 rfl ?_
        refine z_callS_eI (M := mX6_weigh) [_, _, _] tX6_weight kX6_81 dX6_weigh_38 ⟨by decide, by decide⟩ rfl (Nat.le_of_ble_eq_true rfl) rfl (c_X6_weightE isB48 W.wb R2 hc) ?_
        refine z_istore dX6_weigh_41 (by decide) rfl ?_
        refine z_aload_n dX6_weigh_43 rfl ?_
        refine z_getR fX6_7 dX6_weigh_44 (by decide) rfl rfl ?_
        refine z_iload_n dX6_weigh_47 rfl ?_
        refine z_iconst dX6_weigh_48 ?_
        refine z_icmp_ne 62 dX6_weigh_49 (by decide) (by omega) (by omega) (fun c49 => ?_) (fun c49 => ?_)
        · omega
        · refine z_iconst dX6_weigh_52 ?_
          refine z_iconst dX6_weigh_53 ?_
          refine z_iload_n dX6_weigh_54 rfl ?_
          refine z_imul dX6_weigh_55 ?_
          refine z_iadd dX6_weigh_56 ?_
          refine z_iconst dX6_weigh_57 ?_
          refine z_iadd dX6_weigh_58 ?_
          refine z_goto 69 dX6_weigh_59 (by decide) ?_
          refine z_iload_n dX6_weigh_69 rfl ?_
          refine z_iastore dX6_weigh_70 (by decide) rfl (by omega) (by omega) (by first | decide | omega) (by omega) ?_
          refine z_iload dX6_weigh_71 rfl ?_
          exact z_ireturn dX6_weigh_73 rfl (hQ _ _ ⟨_, rfl, ⟨rfl, by rw [up_n (i := 3 + 3 * c + 2) (by omega)]; exact actM_of q29 (rm_setWE W.wb R2 hc)⟩⟩)
      · have c22 := bi_eq.mp c22
        omega
set_option maxRecDepth 100000 in
set_option maxHeartbeats 4000000 in
theorem c_X6_weighO2 {g : GG} {h : HH} {σ : SG} (W : WF σ) (R : RM (h 48) σ) {c : Int} (hc : R32 c) {w : Int} (hw : R32 w) (ho : ¬ (0 ≤ c ∧ c < sF σ ∧ 1 ≤ w ∧ w ≤ 3)) : CeI mX6_weigh g [vr 47, vi 2, vi c, vi w] h kBAD := by
  refine cn_q (lv := [vr 47, vi 2, vi c, vi w, vx]) tX6_weigh.1 rfl rfl (fun hR Q hQ => ?_)
  refine z_iload_n dX6_weigh_0 rfl ?_
  refine z_if_eq 25 dX6_weigh_1 (by decide) (by omega) (fun c1 => ?_) (fun c1 => ?_)
  · omega
  · refine z_aload_n dX6_weigh_4 rfl ?_
    refine z_iload_n dX6_weigh_5 rfl ?_
    refine z_iload_n dX6_weigh_6 rfl ?_
    refine z_callV_eI (M := mX6_weigh) [_, _] tX6_isCell kX6_247 dX6_weigh_7 ⟨by decide, rfl, _, _, rfl⟩ ⟨by decide, by decide⟩ rfl (Nat.le_of_ble_eq_true rfl) rfl (c_X6_isCell2 W.wb R (by omega)) ?_
    refine z_if_eq 25 dX6_weigh_10 (by decide) (bi_r _) (fun c10 => ?_) (fun c10 => ?_)
    · have c10 := bi_eq.mp c10
      refine z_ldc (-1000001) dX6_weigh_25 qX6_218 rfl ?_
      exact z_ireturn dX6_weigh_27 rfl (hQ _ _ ⟨_, rfl, rfl, rfl⟩)
    · have c10 := bi_ne.mp c10
      refine z_iload_n dX6_weigh_13 rfl ?_
      refine z_i2l dX6_weigh_14 (by omega) ?_
      refine z_lconst (z := 1) dX6_weigh_15 rfl ?_
      refine z_ldc2 (3) dX6_weigh_16 qX6_250 rfl ?_
      refine z_callS_eI (M := mX6_weigh) [_, _, _] tX6_in kX6_150 dX6_weigh_19 ⟨by decide, by decide⟩ rfl (Nat.le_of_ble_eq_true rfl) rfl (c_X6_in (by omega) (by omega) (by omega)) ?_
      refine z_if_ne 28 dX6_weigh_22 (by decide) (bi_r _) (fun c22 => ?_) (fun c22 => ?_)
      · have c22 := bi_ne.mp c22
        omega
      · have c22 := bi_eq.mp c22
        refine z_ldc (-1000001) dX6_weigh_25 qX6_218 rfl ?_
        exact z_ireturn dX6_weigh_27 rfl (hQ _ _ ⟨_, rfl, rfl, rfl⟩)
set_option maxRecDepth 100000 in
set_option maxHeartbeats 4000000 in
theorem c_X6_weigh2 {g : GG} {h : HH} {σ : SG} (W : WF σ) (R : RM (h 48) σ) {as : List SG} (P : RPast h as) {c w : Nat} (hc : c < sF σ) (hw : 1 ≤ w ∧ w ≤ 3) : CnI mX6_weigh g [vr 47, vi 2, vi (c : Int), vi (w : Int)] h (fun z h' => z = sfw σ c ∧ ActM h h' σ as (setWF σ c w)) := by
  refine cn_q (lv := [vr 47, vi 2, vi (c : Int), vi (w : Int), vx]) tX6_weigh.1 rfl rfl (fun hR Q hQ => ?_)
  have w1 := W.1
  have w2 := W.2.1
  have w3 := W.2.2.1
  refine z_iload_n dX6_weigh_0 rfl ?_
  refine z_if_eq 25 dX6_weigh_1 (by decide) (by omega) (fun c1 => ?_) (fun c1 => ?_)
  · omega
  · refine z_aload_n dX6_weigh_4 rfl ?_
    refine z_iload_n dX6_weigh_5 rfl ?_
    refine z_iload_n dX6_weigh_6 rfl ?_
    refine z_callV_eI (M := mX6_weigh) [_, _] tX6_isCell kX6_247 dX6_weigh_7 ⟨by decide, rfl, _, _, rfl⟩ ⟨by decide, by decide⟩ rfl (Nat.le_of_ble_eq_true rfl) rfl (c_X6_isCell2 W.wb R (by omega)) ?_
    refine z_if_eq 25 dX6_weigh_10 (by decide) (bi_r _) (fun c10 => ?_) (fun c10 => ?_)
    · have c10 := bi_eq.mp c10
      omega
    · have c10 := bi_ne.mp c10
      refine z_iload_n dX6_weigh_13 rfl ?_
      refine z_i2l dX6_weigh_14 (by omega) ?_
      refine z_lconst (z := 1) dX6_weigh_15 rfl ?_
      refine z_ldc2 (3) dX6_weigh_16 qX6_250 rfl ?_
      refine z_callS_eI (M := mX6_weigh) [_, _, _] tX6_in kX6_150 dX6_weigh_19 ⟨by decide, by decide⟩ rfl (Nat.le_of_ble_eq_true rfl) rfl (c_X6_in (by omega) (by omega) (by omega)) ?_
      refine z_if_ne 28 dX6_weigh_22 (by decide) (bi_r _) (fun c22 => ?_) (fun c22 => ?_)
      · have c22 := bi_ne.mp c22
        refine z_aload_n dX6_weigh_28 rfl ?_
        refine z_callV_V (M := mX6_weigh) [] tX6_notes kX6_252 dX6_weigh_29 ⟨by decide, rfl, _, _, rfl⟩ ⟨by decide, by decide⟩ rfl (Nat.le_of_ble_eq_true rfl) rfl (c_X6_notes W R P) (fun h29 q29 => ?_)
        have e48 : h29 48 = h 48 := q29.2.1 48 (by decide) (by decide)
        have R2 : RM (h29 48) σ := by rw [e48]; exact R
        refine z_aload_n dX6_weigh_32 rfl ?_
        refine z_getR fX6_7 dX6_weigh_33 (by decide) rfl rfl ?_
        refine z_iload_n dX6_weigh_36 rfl ?_
        refine z_iload_n dX6_weigh_37 rfl ?_
        refine z_callS_eI (M := mX6_weigh) [_, _, _] tX6_weight kX6_81 dX6_weigh_38 ⟨by decide, by decide⟩ rfl (Nat.le_of_ble_eq_true rfl) rfl (c_X6_weightF isB48 W.wb R2 hc) ?_
        refine z_istore dX6_weigh_41 (by decide) rfl ?_
        refine z_aload_n dX6_weigh_43 rfl ?_
        refine z_getR fX6_7 dX6_weigh_44 (by decide) rfl rfl ?_
        refine z_iload_n dX6_weigh_47 rfl ?_
        refine z_iconst dX6_weigh_48 ?_
        refine z_icmp_ne 62 dX6_weigh_49 (by decide) (by omega) (by omega) (fun c49 => ?_) (fun c49 => ?_)
        · refine z_bipush dX6_weigh_62 (by decide) ?_
          refine z_bipush dX6_weigh_64 (by decide) ?_
          refine z_iload_n dX6_weigh_66 rfl ?_
          refine z_imul dX6_weigh_67 ?_
          refine z_iadd dX6_weigh_68 ?_
          refine z_iload_n dX6_weigh_69 rfl ?_
          refine z_iastore dX6_weigh_70 (by decide) rfl (by omega) (by omega) (by first | decide | omega) (by omega) ?_
          refine z_iload dX6_weigh_71 rfl ?_
          exact z_ireturn dX6_weigh_73 rfl (hQ _ _ ⟨_, rfl, ⟨rfl, by rw [up_n (i := 21 + 6 * c) (by omega)]; exact actM_of q29 (rm_setWF W.wb R2 hc)⟩⟩)
        · omega
      · have c22 := bi_eq.mp c22
        omega
set_option maxRecDepth 100000 in
set_option maxHeartbeats 4000000 in
theorem c_X6_laysEdge {g : GG} {h : HH} {b : Nat} (hb : isB b) {σ : SG} (W : WB σ) (R : RM (h b) σ) {a c w : Nat} (ha : a < 6) (hc : c < 6) (hw : w ≤ 3) (hE : sE σ < 6) (hz : ∀ c, c < 3 → h b (45 + 6 * c + sE σ) = 0) : CnV mX6_laysEdge g [vr b, vi (a : Int), vi (c : Int), vi (w : Int)] h (fun h' => ∃ f', h' = setc h b f' ∧ RM f' (addE σ a c w) ∧ ∀ j, 45 ≤ j → f' j = h b j) := by
  refine cn_q (lv := [vr b, vi (a : Int), vi (c : Int), vi (w : Int), vx]) tX6_laysEdge.1 rfl rfl (fun hR Q hQ => ?_)
  have w1 := W.1
  have w2 := W.2.1
  have w3 := W.2.2.1
  refine z_iconst dX6_laysEdge_0 ?_
  refine z_iconst dX6_laysEdge_1 ?_
  refine z_aload_n dX6_laysEdge_2 rfl ?_
  refine z_iconst dX6_laysEdge_3 ?_
  refine z_iaload dX6_laysEdge_4 (ltB hb) (shpB hb) (by omega) (by omega) (by first | decide | omega) (fun r4 => ?_)
  rw [show h b (Int.toNat 1) = sE σ from rm_E R]
  refine z_imul dX6_laysEdge_5 ?_
  refine z_iadd dX6_laysEdge_6 ?_
  refine z_istore dX6_laysEdge_7 (by decide) rfl ?_
  refine z_aload_n dX6_laysEdge_9 rfl ?_
  refine z_iload dX6_laysEdge_10 rfl ?_
  refine z_iload_n dX6_laysEdge_12 rfl ?_
  refine z_iastore dX6_laysEdge_13 (ltB hb) (shpB hb) (by omega) (by omega) (by first | decide | omega) (by omega) ?_
  rw [up_n (i := 3 + 3 * sE σ) (by omega)]
  refine z_aload_n dX6_laysEdge_14 rfl ?_
  refine z_iload dX6_laysEdge_15 rfl ?_
  refine z_iconst dX6_laysEdge_17 ?_
  refine z_iadd dX6_laysEdge_18 ?_
  refine z_iload_n dX6_laysEdge_19 rfl ?_
  refine z_iastore dX6_laysEdge_20 (ltB hb) (shpB hb) (by omega) (by omega) (by first | decide | omega) (by omega) ?_
  rw [up_s (i := 3 + 3 * sE σ + 1) (by omega)]
  refine z_aload_n dX6_laysEdge_21 rfl ?_
  refine z_iload dX6_laysEdge_22 rfl ?_
  refine z_iconst dX6_laysEdge_24 ?_
  refine z_iadd dX6_laysEdge_25 ?_
  refine z_iload_n dX6_laysEdge_26 rfl ?_
  refine z_iastore dX6_laysEdge_27 (ltB hb) (shpB hb) (by omega) (by omega) (by first | decide | omega) (by omega) ?_
  rw [up_s (i := 3 + 3 * sE σ + 2) (by omega)]
  refine z_aload_n dX6_laysEdge_28 rfl ?_
  refine z_iconst dX6_laysEdge_29 ?_
  refine z_dup2 dX6_laysEdge_30 rfl rfl ?_
  refine z_iaload dX6_laysEdge_31 (ltB hb) (shpB hb) (by omega) (by omega) (by first | decide | omega) (fun r31 => ?_)
  rw [show setc h b (upn (upn (upn (h b) (3 + 3 * sE σ) a) (3 + 3 * sE σ + 1) c) (3 + 3 * sE σ + 2) w) b (Int.toNat 1) = sE σ from by rw [setc_at]; show upn (upn (upn (h b) (3 + 3 * sE σ) a) (3 + 3 * sE σ + 1) c) (3 + 3 * sE σ + 2) w 1 = _; simp (disch := omega) only [upn_ne]; exact rm_E R]
  refine z_iconst dX6_laysEdge_32 ?_
  refine z_iadd dX6_laysEdge_33 ?_
  refine z_iastore dX6_laysEdge_34 (ltB hb) (shpB hb) (by omega) (by omega) (by first | decide | omega) (by omega) ?_
  rw [up_s (z := 1) (i := 1) rfl]
  exact z_return dX6_laysEdge_35 rfl (hQ _ _ ⟨rfl, ⟨_, rfl, rm_addE W R hE a c w hz, fun j hj => by simp (disch := omega) only [upn_ne]⟩⟩)
set_option maxRecDepth 100000 in
set_option maxHeartbeats 4000000 in
theorem c_X6_edgeS {g : GG} {h : HH} {σ : SG} (W : WF σ) (R : RM (h 48) σ) {a b w : Int} (ha : R32 a) (hb : R32 b) (hw : R32 w) (h0 : sP σ = 0) : CeI mX6_edge g [vr 47, vi a, vi b, vi w] h kSTATE := by
  refine cn_q (lv := [vr 47, vi a, vi b, vi w, vx]) tX6_edge.1 rfl rfl (fun hR Q hQ => ?_)
  refine z_aload_n dX6_edge_0 rfl ?_
  refine z_callV_eI (M := mX6_edge) [] tX6_isComplex kX6_244 dX6_edge_1 ⟨by decide, rfl, _, _, rfl⟩ ⟨by decide, by decide⟩ rfl (Nat.le_of_ble_eq_true rfl) rfl (c_X6_isComplex W.wb R) ?_
  refine z_if_ne 10 dX6_edge_4 (by decide) (bi_r _) (fun c4 => ?_) (fun c4 => ?_)
  · have c4 := bi_ne.mp c4
    omega
  · have c4 := bi_eq.mp c4
    refine z_ldc (-1000002) dX6_edge_7 qX6_241 rfl ?_
    exact z_ireturn dX6_edge_9 rfl (hQ _ _ ⟨_, rfl, rfl, rfl⟩)
set_option maxRecDepth 100000 in
set_option maxHeartbeats 4000000 in
theorem c_X6_edgeO {g : GG} {h : HH} {σ : SG} (W : WF σ) (R : RM (h 48) σ) {a b w : Int} (ha : R32 a) (hb : R32 b) (hw : R32 w) (h0 : 0 < sP σ) (ho : ¬ (0 ≤ a ∧ a < sP σ ∧ 0 ≤ b ∧ b < sP σ ∧ 1 ≤ w ∧ w ≤ 3)) : CeI mX6_edge g [vr 47, vi a, vi b, vi w] h kBAD := by
  refine cn_q (lv := [vr 47, vi a, vi b, vi w, vx]) tX6_edge.1 rfl rfl (fun hR Q hQ => ?_)
  refine z_aload_n dX6_edge_0 rfl ?_
  refine z_callV_eI (M := mX6_edge) [] tX6_isComplex kX6_244 dX6_edge_1 ⟨by decide, rfl, _, _, rfl⟩ ⟨by decide, by decide⟩ rfl (Nat.le_of_ble_eq_true rfl) rfl (c_X6_isComplex W.wb R) ?_
  refine z_if_ne 10 dX6_edge_4 (by decide) (bi_r _) (fun c4 => ?_) (fun c4 => ?_)
  · have c4 := bi_ne.mp c4
    refine z_aload_n dX6_edge_10 rfl ?_
    refine z_iconst dX6_edge_11 ?_
    refine z_iload_n dX6_edge_12 rfl ?_
    refine z_callV_eI (M := mX6_edge) [_, _] tX6_isCell kX6_247 dX6_edge_13 ⟨by decide, rfl, _, _, rfl⟩ ⟨by decide, by decide⟩ rfl (Nat.le_of_ble_eq_true rfl) rfl (c_X6_isCell0 W.wb R (by omega)) ?_
    refine z_if_eq 40 dX6_edge_16 (by decide) (bi_r _) (fun c16 => ?_) (fun c16 => ?_)
    · have c16 := bi_eq.mp c16
      refine z_ldc (-1000001) dX6_edge_40 qX6_218 rfl ?_
      exact z_ireturn dX6_edge_42 rfl (hQ _ _ ⟨_, rfl, rfl, rfl⟩)
    · have c16 := bi_ne.mp c16
      refine z_aload_n dX6_edge_19 rfl ?_
      refine z_iconst dX6_edge_20 ?_
      refine z_iload_n dX6_edge_21 rfl ?_
      refine z_callV_eI (M := mX6_edge) [_, _] tX6_isCell kX6_247 dX6_edge_22 ⟨by decide, rfl, _, _, rfl⟩ ⟨by decide, by decide⟩ rfl (Nat.le_of_ble_eq_true rfl) rfl (c_X6_isCell0 W.wb R (by omega)) ?_
      refine z_if_eq 40 dX6_edge_25 (by decide) (bi_r _) (fun c25 => ?_) (fun c25 => ?_)
      · have c25 := bi_eq.mp c25
        refine z_ldc (-1000001) dX6_edge_40 qX6_218 rfl ?_
        exact z_ireturn dX6_edge_42 rfl (hQ _ _ ⟨_, rfl, rfl, rfl⟩)
      · have c25 := bi_ne.mp c25
        refine z_iload_n dX6_edge_28 rfl ?_
        refine z_i2l dX6_edge_29 (by omega) ?_
        refine z_lconst (z := 1) dX6_edge_30 rfl ?_
        refine z_ldc2 (3) dX6_edge_31 qX6_250 rfl ?_
        refine z_callS_eI (M := mX6_edge) [_, _, _] tX6_in kX6_150 dX6_edge_34 ⟨by decide, by decide⟩ rfl (Nat.le_of_ble_eq_true rfl) rfl (c_X6_in (by omega) (by omega) (by omega)) ?_
        refine z_if_ne 43 dX6_edge_37 (by decide) (bi_r _) (fun c37 => ?_) (fun c37 => ?_)
        · have c37 := bi_ne.mp c37
          omega
        · have c37 := bi_eq.mp c37
          refine z_ldc (-1000001) dX6_edge_40 qX6_218 rfl ?_
          exact z_ireturn dX6_edge_42 rfl (hQ _ _ ⟨_, rfl, rfl, rfl⟩)
  · have c4 := bi_eq.mp c4
    omega
set_option maxRecDepth 100000 in
set_option maxHeartbeats 4000000 in
theorem c_X6_edgeF {g : GG} {h : HH} {σ : SG} (W : WF σ) (R : RM (h 48) σ) {a b w : Nat} (ha : a < sP σ) (hb : b < sP σ) (hw : 1 ≤ w ∧ w ≤ 3) (hE : sE σ = 6) : CeI mX6_edge g [vr 47, vi (a : Int), vi (b : Int), vi (w : Int)] h kFULL := by
  refine cn_q (lv := [vr 47, vi (a : Int), vi (b : Int), vi (w : Int), vx]) tX6_edge.1 rfl rfl (fun hR Q hQ => ?_)
  have w1 := W.1
  have w2 := W.2.1
  have w3 := W.2.2.1
  refine z_aload_n dX6_edge_0 rfl ?_
  refine z_callV_eI (M := mX6_edge) [] tX6_isComplex kX6_244 dX6_edge_1 ⟨by decide, rfl, _, _, rfl⟩ ⟨by decide, by decide⟩ rfl (Nat.le_of_ble_eq_true rfl) rfl (c_X6_isComplex W.wb R) ?_
  refine z_if_ne 10 dX6_edge_4 (by decide) (bi_r _) (fun c4 => ?_) (fun c4 => ?_)
  · have c4 := bi_ne.mp c4
    refine z_aload_n dX6_edge_10 rfl ?_
    refine z_iconst dX6_edge_11 ?_
    refine z_iload_n dX6_edge_12 rfl ?_
    refine z_callV_eI (M := mX6_edge) [_, _] tX6_isCell kX6_247 dX6_edge_13 ⟨by decide, rfl, _, _, rfl⟩ ⟨by decide, by decide⟩ rfl (Nat.le_of_ble_eq_true rfl) rfl (c_X6_isCell0 W.wb R (by omega)) ?_
    refine z_if_eq 40 dX6_edge_16 (by decide) (bi_r _) (fun c16 => ?_) (fun c16 => ?_)
    · have c16 := bi_eq.mp c16
      omega
    · have c16 := bi_ne.mp c16
      refine z_aload_n dX6_edge_19 rfl ?_
      refine z_iconst dX6_edge_20 ?_
      refine z_iload_n dX6_edge_21 rfl ?_
      refine z_callV_eI (M := mX6_edge) [_, _] tX6_isCell kX6_247 dX6_edge_22 ⟨by decide, rfl, _, _, rfl⟩ ⟨by decide, by decide⟩ rfl (Nat.le_of_ble_eq_true rfl) rfl (c_X6_isCell0 W.wb R (by omega)) ?_
      refine z_if_eq 40 dX6_edge_25 (by decide) (bi_r _) (fun c25 => ?_) (fun c25 => ?_)
      · have c25 := bi_eq.mp c25
        omega
      · have c25 := bi_ne.mp c25
        refine z_iload_n dX6_edge_28 rfl ?_
        refine z_i2l dX6_edge_29 (by omega) ?_
        refine z_lconst (z := 1) dX6_edge_30 rfl ?_
        refine z_ldc2 (3) dX6_edge_31 qX6_250 rfl ?_
        refine z_callS_eI (M := mX6_edge) [_, _, _] tX6_in kX6_150 dX6_edge_34 ⟨by decide, by decide⟩ rfl (Nat.le_of_ble_eq_true rfl) rfl (c_X6_in (by omega) (by omega) (by omega)) ?_
        refine z_if_ne 43 dX6_edge_37 (by decide) (bi_r _) (fun c37 => ?_) (fun c37 => ?_)
        · have c37 := bi_ne.mp c37
          refine z_aload_n dX6_edge_43 rfl ?_
          refine z_getR fX6_7 dX6_edge_44 (by decide) rfl rfl ?_
          refine z_iconst dX6_edge_47 ?_
          refine z_iaload dX6_edge_48 (by decide) rfl (by omega) (by omega) (by first | decide | omega) (fun r48 => ?_)
          rw [show h 48 (Int.toNat 1) = sE σ from rm_E R]
          refine z_bipush dX6_edge_49 (by decide) ?_
          refine z_icmp_ne 57 dX6_edge_51 (by decide) (by omega) (by omega) (fun c51 => ?_) (fun c51 => ?_)
          · omega
          · refine z_ldc (-1000003) dX6_edge_54 qX6_219 rfl ?_
            exact z_ireturn dX6_edge_56 rfl (hQ _ _ ⟨_, rfl, rfl, rfl⟩)
        · have c37 := bi_eq.mp c37
          omega
  · have c4 := bi_eq.mp c4
    omega
set_option maxRecDepth 100000 in
set_option maxHeartbeats 4000000 in
theorem c_X6_edge1 {g : GG} {h : HH} {σ : SG} (W : WF σ) (R : RM (h 48) σ) {as : List SG} (P : RPast h as) {a b w : Nat} (ha : a < sP σ) (hb : b < sP σ) (hw : 1 ≤ w ∧ w ≤ 3) (hE : sE σ < 6) : CnI mX6_edge g [vr 47, vi (a : Int), vi (b : Int), vi (w : Int)] h (fun z h' => z = sE σ ∧ ActM h h' σ as (addE σ a b w)) := by
  refine cn_q (lv := [vr 47, vi (a : Int), vi (b : Int), vi (w : Int), vx]) tX6_edge.1 rfl rfl (fun hR Q hQ => ?_)
  have w1 := W.1
  have w2 := W.2.1
  have w3 := W.2.2.1
  refine z_aload_n dX6_edge_0 rfl ?_
  refine z_callV_eI (M := mX6_edge) [] tX6_isComplex kX6_244 dX6_edge_1 ⟨by decide, rfl, _, _, rfl⟩ ⟨by decide, by decide⟩ rfl (Nat.le_of_ble_eq_true rfl) rfl (c_X6_isComplex W.wb R) ?_
  refine z_if_ne 10 dX6_edge_4 (by decide) (bi_r _) (fun c4 => ?_) (fun c4 => ?_)
  · have c4 := bi_ne.mp c4
    refine z_aload_n dX6_edge_10 rfl ?_
    refine z_iconst dX6_edge_11 ?_
    refine z_iload_n dX6_edge_12 rfl ?_
    refine z_callV_eI (M := mX6_edge) [_, _] tX6_isCell kX6_247 dX6_edge_13 ⟨by decide, rfl, _, _, rfl⟩ ⟨by decide, by decide⟩ rfl (Nat.le_of_ble_eq_true rfl) rfl (c_X6_isCell0 W.wb R (by omega)) ?_
    refine z_if_eq 40 dX6_edge_16 (by decide) (bi_r _) (fun c16 => ?_) (fun c16 => ?_)
    · have c16 := bi_eq.mp c16
      omega
    · have c16 := bi_ne.mp c16
      refine z_aload_n dX6_edge_19 rfl ?_
      refine z_iconst dX6_edge_20 ?_
      refine z_iload_n dX6_edge_21 rfl ?_
      refine z_callV_eI (M := mX6_edge) [_, _] tX6_isCell kX6_247 dX6_edge_22 ⟨by decide, rfl, _, _, rfl⟩ ⟨by decide, by decide⟩ rfl (Nat.le_of_ble_eq_true rfl) rfl (c_X6_isCell0 W.wb R (by omega)) ?_
      refine z_if_eq 40 dX6_edge_25 (by decide) (bi_r _) (fun c25 => ?_) (fun c25 => ?_)
      · have c25 := bi_eq.mp c25
        omega
      · have c25 := bi_ne.mp c25
        refine z_iload_n dX6_edge_28 rfl ?_
        refine z_i2l dX6_edge_29 (by omega) ?_
        refine z_lconst (z := 1) dX6_edge_30 rfl ?_
        refine z_ldc2 (3) dX6_edge_31 qX6_250 rfl ?_
        refine z_callS_eI (M := mX6_edge) [_, _, _] tX6_in kX6_150 dX6_edge_34 ⟨by decide, by decide⟩ rfl (Nat.le_of_ble_eq_true rfl) rfl (c_X6_in (by omega) (by omega) (by omega)) ?_
        refine z_if_ne 43 dX6_edge_37 (by decide) (bi_r _) (fun c37 => ?_) (fun c37 => ?_)
        · have c37 := bi_ne.mp c37
          refine z_aload_n dX6_edge_43 rfl ?_
          refine z_getR fX6_7 dX6_edge_44 (by decide) rfl rfl ?_
          refine z_iconst dX6_edge_47 ?_
          refine z_iaload dX6_edge_48 (by decide) rfl (by omega) (by omega) (by first | decide | omega) (fun r48 => ?_)
          rw [show h 48 (Int.toNat 1) = sE σ from rm_E R]
          refine z_bipush dX6_edge_49 (by decide) ?_
          refine z_icmp_ne 57 dX6_edge_51 (by decide) (by omega) (by omega) (fun c51 => ?_) (fun c51 => ?_)
          · refine z_aload_n dX6_edge_57 rfl ?_
            refine z_callV_V (M := mX6_edge) [] tX6_notes kX6_252 dX6_edge_58 ⟨by decide, rfl, _, _, rfl⟩ ⟨by decide, by decide⟩ rfl (Nat.le_of_ble_eq_true rfl) rfl (c_X6_notes W R P) (fun h58 q58 => ?_)
            have e48 : h58 48 = h 48 := q58.2.1 48 (by decide) (by decide)
            have R2 : RM (h58 48) σ := by rw [e48]; exact R
            refine z_iconst dX6_edge_61 ?_
            refine z_istore dX6_edge_62 (by decide) rfl ?_
            have loop64 : ∀ (nL9 : Nat) (k : Nat) (f1 : Nat → Int), (k ≤ 3) → (RM f1 σ) → (∀ c, c < k → f1 (45 + 6 * c + sE σ) = 0) → 3 - k < nL9 → Z mX6_edge g 64 [vr 47, vi (a : Int), vi (b : Int), vi (w : Int), vi (k : Int)] [] (setc h58 48 f1) Q := by
              intro nL9
              induction nL9 with
              | zero => intro k f1 hk hD hz hnL9; exact absurd hnL9 (Nat.not_lt_zero _)
              | succ nL9 ih64 =>
                intro k f1 hk hD hz hnL9
                refine z_iload dX6_edge_64 rfl ?_
                refine z_iconst dX6_edge_66 ?_
                refine z_icmp_ge 97 dX6_edge_67 (by decide) (by omega) (by omega) (fun c67 => ?_) (fun c67 => ?_)
                · refine z_aload_n dX6_edge_97 rfl ?_
                  refine z_getR fX6_7 dX6_edge_98 (by decide) rfl rfl ?_
                  refine z_iload_n dX6_edge_101 rfl ?_
                  refine z_iload_n dX6_edge_102 rfl ?_
                  refine z_iload_n dX6_edge_103 rfl ?_
                  refine z_callS_V (M := mX6_edge) [_, _, _, _] tX6_laysEdge kX6_197 dX6_edge_104 ⟨by decide, by decide⟩ rfl (Nat.le_of_ble_eq_true rfl) rfl (c_X6_laysEdge isB48 (h := setc h58 48 f1) W.wb (by rw [setc_at]; exact hD) (by omega) (by omega) (by omega) hE (fun c hc => by rw [setc_at]; exact hz c (by omega))) (fun h104 q104 => ?_)
                  obtain ⟨f', g1, g2, g3⟩ := q104
                  rw [g1, setc_setc]
                  refine z_aload_n dX6_edge_107 rfl ?_
                  refine z_getR fX6_7 dX6_edge_108 (by decide) rfl rfl ?_
                  refine z_iconst dX6_edge_111 ?_
                  refine z_iaload dX6_edge_112 (by decide) rfl (by omega) (by omega) (by first | decide | omega) (fun r112 => ?_)
                  rw [show setc h58 48 f' 48 (Int.toNat 1) = ((sE σ + 1 : Nat) : Int) from by rw [setc_at]; exact rm_E g2]
                  refine z_iconst dX6_edge_113 ?_
                  refine z_isub dX6_edge_114 ?_
                  exact z_ireturn dX6_edge_115 rfl (hQ _ _ ⟨_, rfl, ⟨by omega, actM_of q58 g2⟩⟩)
                · refine z_aload_n dX6_edge_70 rfl ?_
                  refine z_getR fX6_7 dX6_edge_71 (by decide) rfl rfl ?_
                  refine z_bipush dX6_edge_74 (by decide) ?_
                  refine z_bipush dX6_edge_76 (by decide) ?_
                  refine z_iload dX6_edge_78 rfl ?_
                  refine z_imul dX6_edge_80 ?_
                  refine z_iadd dX6_edge_81 ?_
                  refine z_aload_n dX6_edge_82 rfl ?_
                  refine z_getR fX6_7 dX6_edge_83 (by decide) rfl rfl ?_
                  refine z_iconst dX6_edge_86 ?_
                  refine z_iaload dX6_edge_87 (by decide) rfl (by omega) (by omega) (by first | decide | omega) (fun r87 => ?_)
                  rw [show setc h58 48 f1 48 (Int.toNat 1) = sE σ from by rw [setc_at]; exact rm_E hD]
                  refine z_iadd dX6_edge_88 ?_
                  refine z_iconst dX6_edge_89 ?_
                  refine z_iastore dX6_edge_90 (by decide) rfl (by omega) (by omega) (by first | decide | omega) (by omega) ?_
                  rw [up_s (i := 45 + 6 * k + sE σ) (by omega)]
                  refine z_iinc dX6_edge_91 rfl (by decide) rfl ?_
                  refine z_goto 64 dX6_edge_94 (by decide) ?_
                  exact ih64 (k + 1) (upn f1 (45 + 6 * k + sE σ) 0) (by omega) (rm_zero W.wb hD hE (c := k) rfl) (upn_zs hz) (by omega)
            have x0 := loop64 _ 0 (h58 48) (by omega) R2 (fun c hc => absurd hc (Nat.not_lt_zero _)) (Nat.lt_succ_self _)
            rw [setc_self] at x0
            exact x0
          · omega
        · have c37 := bi_eq.mp c37
          omega
  · have c4 := bi_eq.mp c4
    omega
set_option maxRecDepth 100000 in
set_option maxHeartbeats 4000000 in
theorem c_X6_isSpelled {g : GG} {h : HH} {σ : SG} (W : WF σ) (R : RM (h 48) σ) {d : Nat} (hd : d < 6) : CeI mX6_isSpelled g [vr 47, vi (d : Int)] h (bi (sewn σ d)) := by
  refine cn_q (lv := [vr 47, vi (d : Int), vx, vx]) tX6_isSpelled.1 rfl rfl (fun hR Q hQ => ?_)
  have w1 := W.1
  have w2 := W.2.1
  have w3 := W.2.2.1
  have F2 : h 48 (Int.toNat 2) = sF σ := rm_F R
  refine z_iconst dX6_isSpelled_0 ?_
  refine z_istore_n dX6_isSpelled_1 (by decide) rfl ?_
  refine z_iconst dX6_isSpelled_2 ?_
  refine z_istore_n dX6_isSpelled_3 (by decide) rfl ?_
  have loop4 : ∀ (nL9 : Nat) (k : Nat), (k ≤ 4 * sF σ) → 4 * sF σ - k < nL9 → Z mX6_isSpelled g 4 [vr 47, vi (d : Int), vi (bi (spl σ d k)), vi (k : Int)] [] h Q := by
    intro nL9
    induction nL9 with
    | zero => intro k hk hnL9; exact absurd hnL9 (Nat.not_lt_zero _)
    | succ nL9 ih4 =>
      intro k hk hnL9
      refine z_iload_n dX6_isSpelled_4 rfl ?_
      refine z_iconst dX6_isSpelled_5 ?_
      refine z_aload_n dX6_isSpelled_6 rfl ?_
      refine z_getR fX6_7 dX6_isSpelled_7 (by decide) rfl rfl ?_
      refine z_iconst dX6_isSpelled_10 ?_
      refine z_iaload dX6_isSpelled_11 (by decide) rfl (by omega) (by omega) (by first | decide | omega) (fun r11 => ?_)
      rw [F2]
      refine z_imul dX6_isSpelled_12 ?_
      refine z_icmp_ge 68 dX6_isSpelled_13 (by decide) (by omega) (by omega) (fun c13 => ?_) (fun c13 => ?_)
      · refine z_iload_n dX6_isSpelled_68 rfl ?_
        exact z_zreturn dX6_isSpelled_69 rfl (bi_01 _) (hQ _ _ ⟨_, rfl, (bi_c (spl_end W.wb (by omega))), rfl⟩)
      · refine z_iload_n dX6_isSpelled_16 rfl ?_
        have c14 := bi_r (spl σ d k)
        refine z_if_ne 56 dX6_isSpelled_17 (by decide) (bi_r _) (fun c17 => ?_) (fun c17 => ?_)
        · have c17 := bi_ne.mp c17
          refine z_iconst dX6_isSpelled_56 ?_
          refine z_goto 61 dX6_isSpelled_57 (by decide) ?_
          refine z_istore_n dX6_isSpelled_61 (by decide) rfl ?_
          refine z_iinc dX6_isSpelled_62 rfl (by decide) rfl ?_
          refine z_goto 4 dX6_isSpelled_65 (by decide) ?_
          have x0 := ih4 (k + 1) (by omega) (by omega)
          rw [show bi (spl σ d (k + 1)) = 1 from (bi_t (spl_s c17)).symm] at x0
          exact x0
        · have c17 := bi_eq.mp c17
          refine z_iload_n dX6_isSpelled_20 rfl ?_
          refine z_iconst dX6_isSpelled_21 ?_
          refine z_irem dX6_isSpelled_22 (by omega) (by decide) (by decide) ?_
          refine z_aload_n dX6_isSpelled_23 rfl ?_
          refine z_getR fX6_7 dX6_isSpelled_24 (by decide) rfl rfl ?_
          refine z_iload_n dX6_isSpelled_27 rfl ?_
          refine z_iconst dX6_isSpelled_28 ?_
          refine z_idiv dX6_isSpelled_29 (by omega) (by decide) (by decide) ?_
          rw [show (k : Int).tdiv 4 = ((k / 4 : Nat) : Int) from rfl, show (k : Int).tmod 4 = ((k % 4 : Nat) : Int) from rfl]
          have k4 : k / 4 < sF σ := by omega
          have w4 := W.2.2.2.2.1 (k / 4) k4
          have w5 := w4.2.2.2.1
          have l9 := (R.2.2.2.2.1 (k / 4) k4).2.1
          refine z_callS_eI (M := mX6_isSpelled) [_, _] tX6_many kX6_60 dX6_isSpelled_30 ⟨by decide, by decide⟩ rfl (Nat.le_of_ble_eq_true rfl) rfl (c_X6_many isB48 (f := k / 4) (by omega)) ?_
          rw [l9]
          refine z_icmp_ge 60 dX6_isSpelled_33 (by decide) (by omega) (by omega) (fun c33 => ?_) (fun c33 => ?_)
          · refine z_iconst dX6_isSpelled_60 ?_
            refine z_istore_n dX6_isSpelled_61 (by decide) rfl ?_
            refine z_iinc dX6_isSpelled_62 rfl (by decide) rfl ?_
            refine z_goto 4 dX6_isSpelled_65 (by decide) ?_
            have x0 := ih4 (k + 1) (by omega) (by omega)
            rw [show bi (spl σ d (k + 1)) = 0 from (bi_f (spl_f W.wb c17 (Or.inl (by omega)))).symm] at x0
            exact x0
          · refine z_aload_n dX6_isSpelled_36 rfl ?_
            refine z_getR fX6_7 dX6_isSpelled_37 (by decide) rfl rfl ?_
            refine z_iload_n dX6_isSpelled_40 rfl ?_
            refine z_iconst dX6_isSpelled_41 ?_
            refine z_idiv dX6_isSpelled_42 (by omega) (by decide) (by decide) ?_
            refine z_iload_n dX6_isSpelled_43 rfl ?_
            refine z_iconst dX6_isSpelled_44 ?_
            refine z_irem dX6_isSpelled_45 (by omega) (by decide) (by decide) ?_
            rw [show (k : Int).tdiv 4 = ((k / 4 : Nat) : Int) from rfl, show (k : Int).tmod 4 = ((k % 4 : Nat) : Int) from rfl]
            have l8 := (R.2.2.2.2.1 (k / 4) k4).2.2 (k % 4) (by omega)
            have l7 : h 48 (21 + 6 * (k / 4) + 2 + k % 4) = lcd (sle σ (k / 4) (k % 4)) (ssg σ (k / 4) (k % 4)) := l8
            have l6 := w4.2.2.2.2.1 (k % 4) (by omega)
            have l5 := lcd_r (ssg σ (k / 4) (k % 4)) (show sle σ (k / 4) (k % 4) < 26 by omega)
            refine z_callS_eI (M := mX6_isSpelled) [_, _, _] tX6_letter kX6_64 dX6_isSpelled_46 ⟨by decide, by decide⟩ rfl (Nat.le_of_ble_eq_true rfl) rfl (c_X6_letter isB48 (f := k / 4) (k := k % 4) (by omega) (by omega)) ?_
            rw [l7]
            refine z_callS_eI (M := mX6_isSpelled) [_] tX6_edgeOf kX6_52 dX6_isSpelled_49 ⟨by decide, by decide⟩ rfl (Nat.le_of_ble_eq_true rfl) rfl (c_X6_edgeOf (by omega)) ?_
            rw [lcd_led]
            refine z_iload_n dX6_isSpelled_52 rfl ?_
            refine z_icmp_ne 60 dX6_isSpelled_53 (by decide) (by omega) (by omega) (fun c53 => ?_) (fun c53 => ?_)
            · refine z_iconst dX6_isSpelled_60 ?_
              refine z_istore_n dX6_isSpelled_61 (by decide) rfl ?_
              refine z_iinc dX6_isSpelled_62 rfl (by decide) rfl ?_
              refine z_goto 4 dX6_isSpelled_65 (by decide) ?_
              have x0 := ih4 (k + 1) (by omega) (by omega)
              rw [show bi (spl σ d (k + 1)) = 0 from (bi_f (spl_f W.wb c17 (Or.inr (by omega)))).symm] at x0
              exact x0
            · refine z_iconst dX6_isSpelled_56 ?_
              refine z_goto 61 dX6_isSpelled_57 (by decide) ?_
              refine z_istore_n dX6_isSpelled_61 (by decide) rfl ?_
              refine z_iinc dX6_isSpelled_62 rfl (by decide) rfl ?_
              refine z_goto 4 dX6_isSpelled_65 (by decide) ?_
              have x0 := ih4 (k + 1) (by omega) (by omega)
              rw [show bi (spl σ d (k + 1)) = 1 from (bi_t (spl_t (by omega) (by omega) (by omega))).symm] at x0
              exact x0
  have x0 := loop4 _ 0 (by omega) (Nat.lt_succ_self _)
  rw [show bi (spl σ d 0) = 0 from (bi_f (fun q => by obtain ⟨f, k, q1, _⟩ := q; omega)).symm] at x0
  exact x0

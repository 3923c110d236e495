set_option maxRecDepth 100000 in
set_option maxHeartbeats 4000000 in
theorem c_X6_partO {g : GG} {h : HH} {σ : SG} (W : WF σ) (R : RM (h 48) σ) {c p e w : Int} (hc : R32 c) (hp : R32 p) (he : R32 e) (hw : R32 w) (ho : ¬ (0 < sP σ ∧ 0 ≤ c ∧ c < 3 ∧ 0 ≤ p ∧ p ≤ 2 ∧ 0 ≤ e ∧ e < sE σ ∧ 0 ≤ w ∧ w ≤ 1)) : CeL mX6_part g [vr 47, vi c, vi p, vi e, vi w] h kBAD := by
  refine cn_q (lv := [vr 47, vi c, vi p, vi e, vi w]) tX6_part.1 rfl rfl (fun hR Q hQ => ?_)
  have w1 := W.1
  have w2 := W.2.1
  have w3 := W.2.2.1
  refine z_aload_n dX6_part_0 rfl ?_
  refine z_iload_n dX6_part_1 rfl ?_
  refine z_callV_eI (M := mX6_part) [_] tX6_isChain kX6_266 dX6_part_2 ⟨by decide, rfl, _, _, rfl⟩ ⟨by decide, by decide⟩ rfl (Nat.le_of_ble_eq_true rfl) rfl (c_X6_isChain W.wb R (by omega)) ?_
  refine z_if_eq 40 dX6_part_5 (by decide) (bi_r _) (fun c5 => ?_) (fun c5 => ?_)
  · have c5 := bi_eq.mp c5
    refine z_ldc2 (-1000001) dX6_part_40 qX6_358 rfl ?_
    exact z_lreturn dX6_part_43 rfl (hQ _ _ ⟨_, rfl, rfl, rfl⟩)
  · have c5 := bi_ne.mp c5
    refine z_iload_n dX6_part_8 rfl ?_
    refine z_i2l dX6_part_9 (by omega) ?_
    refine z_lconst (z := 0) dX6_part_10 rfl ?_
    refine z_ldc2 (2) dX6_part_11 qX6_242 rfl ?_
    refine z_callS_eI (M := mX6_part) [_, _, _] tX6_in kX6_150 dX6_part_14 ⟨by decide, by decide⟩ rfl (Nat.le_of_ble_eq_true rfl) rfl (c_X6_in (by omega) (by omega) (by omega)) ?_
    refine z_if_eq 40 dX6_part_17 (by decide) (bi_r _) (fun c17 => ?_) (fun c17 => ?_)
    · have c17 := bi_eq.mp c17
      refine z_ldc2 (-1000001) dX6_part_40 qX6_358 rfl ?_
      exact z_lreturn dX6_part_43 rfl (hQ _ _ ⟨_, rfl, rfl, rfl⟩)
    · have c17 := bi_ne.mp c17
      refine z_aload_n dX6_part_20 rfl ?_
      refine z_iconst dX6_part_21 ?_
      refine z_iload_n dX6_part_22 rfl ?_
      refine z_callV_eI (M := mX6_part) [_, _] tX6_isCell kX6_247 dX6_part_23 ⟨by decide, rfl, _, _, rfl⟩ ⟨by decide, by decide⟩ rfl (Nat.le_of_ble_eq_true rfl) rfl (c_X6_isCell1 W.wb R (by omega)) ?_
      refine z_if_eq 40 dX6_part_26 (by decide) (bi_r _) (fun c26 => ?_) (fun c26 => ?_)
      · have c26 := bi_eq.mp c26
        refine z_ldc2 (-1000001) dX6_part_40 qX6_358 rfl ?_
        exact z_lreturn dX6_part_43 rfl (hQ _ _ ⟨_, rfl, rfl, rfl⟩)
      · have c26 := bi_ne.mp c26
        refine z_iload dX6_part_29 rfl ?_
        refine z_i2l dX6_part_31 (by omega) ?_
        refine z_lconst (z := 0) dX6_part_32 rfl ?_
        refine z_lconst (z := 1) dX6_part_33 rfl ?_
        refine z_callS_eI (M := mX6_part) [_, _, _] tX6_in kX6_150 dX6_part_34 ⟨by decide, by decide⟩ rfl (Nat.le_of_ble_eq_true rfl) rfl (c_X6_in (by omega) (by omega) (by omega)) ?_
        refine z_if_ne 44 dX6_part_37 (by decide) (bi_r _) (fun c37 => ?_) (fun c37 => ?_)
        · have c37 := bi_ne.mp c37
          omega
        · have c37 := bi_eq.mp c37
          refine z_ldc2 (-1000001) dX6_part_40 qX6_358 rfl ?_
          exact z_lreturn dX6_part_43 rfl (hQ _ _ ⟨_, rfl, rfl, rfl⟩)
set_option maxRecDepth 100000 in
set_option maxHeartbeats 4000000 in
theorem c_X6_part00 {g : GG} {h : HH} {σ : SG} (W : WF σ) (R : RM (h 48) σ) {c : Nat} (hc : c < 3) (h0 : 0 < sP σ) {e : Nat} (he : e < sE σ) : CnL mX6_part g [vr 47, vi (c : Int), vi 0, vi (e : Int), vi 0] h (fun z h' => RFm h h' ∧ PVz σ c 0 e 0 z) := by
  refine cn_q (lv := [vr 47, vi (c : Int), vi 0, vi (e : Int), vi 0]) tX6_part.1 rfl rfl (fun hR Q hQ => ?_)
  have w1 := W.1
  have w2 := W.2.1
  have w3 := W.2.2.1
  refine z_aload_n dX6_part_0 rfl ?_
  refine z_iload_n dX6_part_1 rfl ?_
  refine z_callV_eI (M := mX6_part) [_] tX6_isChain kX6_266 dX6_part_2 ⟨by decide, rfl, _, _, rfl⟩ ⟨by decide, by decide⟩ rfl (Nat.le_of_ble_eq_true rfl) rfl (c_X6_isChain W.wb R (by omega)) ?_
  refine z_if_eq 40 dX6_part_5 (by decide) (bi_r _) (fun c5 => ?_) (fun c5 => ?_)
  · have c5 := bi_eq.mp c5
    omega
  · have c5 := bi_ne.mp c5
    refine z_iload_n dX6_part_8 rfl ?_
    refine z_i2l dX6_part_9 (by omega) ?_
    refine z_lconst (z := 0) dX6_part_10 rfl ?_
    refine z_ldc2 (2) dX6_part_11 qX6_242 rfl ?_
    refine z_callS_eI (M := mX6_part) [_, _, _] tX6_in kX6_150 dX6_part_14 ⟨by decide, by decide⟩ rfl (Nat.le_of_ble_eq_true rfl) rfl (c_X6_in (by omega) (by omega) (by omega)) ?_
    refine z_if_eq 40 dX6_part_17 (by decide) (bi_r _) (fun c17 => ?_) (fun c17 => ?_)
    · have c17 := bi_eq.mp c17
      omega
    · have c17 := bi_ne.mp c17
      refine z_aload_n dX6_part_20 rfl ?_
      refine z_iconst dX6_part_21 ?_
      refine z_iload_n dX6_part_22 rfl ?_
      refine z_callV_eI (M := mX6_part) [_, _] tX6_isCell kX6_247 dX6_part_23 ⟨by decide, rfl, _, _, rfl⟩ ⟨by decide, by decide⟩ rfl (Nat.le_of_ble_eq_true rfl) rfl (c_X6_isCell1 W.wb R (by omega)) ?_
      refine z_if_eq 40 dX6_part_26 (by decide) (bi_r _) (fun c26 => ?_) (fun c26 => ?_)
      · have c26 := bi_eq.mp c26
        omega
      · have c26 := bi_ne.mp c26
        refine z_iload dX6_part_29 rfl ?_
        refine z_i2l dX6_part_31 (by omega) ?_
        refine z_lconst (z := 0) dX6_part_32 rfl ?_
        refine z_lconst (z := 1) dX6_part_33 rfl ?_
        refine z_callS_eI (M := mX6_part) [_, _, _] tX6_in kX6_150 dX6_part_34 ⟨by decide, by decide⟩ rfl (Nat.le_of_ble_eq_true rfl) rfl (c_X6_in (by omega) (by omega) (by omega)) ?_
        refine z_if_ne 44 dX6_part_37 (by decide) (bi_r _) (fun c37 => ?_) (fun c37 => ?_)
        · have c37 := bi_ne.mp c37
          refine z_aload_n dX6_part_44 rfl ?_
          refine z_iload_n dX6_part_45 rfl ?_
          refine z_iload_n dX6_part_46 rfl ?_
          refine z_callV_V (M := mX6_part) [_, _] tX6_laysPart kX6_360 dX6_part_47 ⟨by decide, rfl, _, _, rfl⟩ ⟨by decide, by decide⟩ rfl (Nat.le_of_ble_eq_true rfl) rfl (c_X6_laysPart0 W R hc) (fun h47 q47 => ?_)
          obtain ⟨D, y, hV, hB, hF, hL⟩ := q47
          refine z_iload dX6_part_50 rfl ?_
          refine z_if_ne 64 dX6_part_52 (by decide) (by omega) (fun c52 => ?_) (fun c52 => ?_)
          · omega
          · refine z_aload_n dX6_part_55 rfl ?_
            refine z_getR fX6_36 dX6_part_56 (by decide) rfl rfl ?_
            refine z_iload_n dX6_part_59 rfl ?_
            refine z_laload dX6_part_60 (by decide) rfl (by omega) (by omega) (by first | decide | omega) (fun r60 => ?_)
            refine z_goto 70 dX6_part_61 (by decide) ?_
            exact z_lreturn dX6_part_70 rfl (hQ _ _ ⟨_, rfl, ⟨hF, D, y, _, _, hV, hL e he, rfl⟩⟩)
        · have c37 := bi_eq.mp c37
          omega
set_option maxRecDepth 100000 in
set_option maxHeartbeats 4000000 in
theorem c_X6_part01 {g : GG} {h : HH} {σ : SG} (W : WF σ) (R : RM (h 48) σ) {c : Nat} (hc : c < 3) (h0 : 0 < sP σ) {e : Nat} (he : e < sE σ) : CnL mX6_part g [vr 47, vi (c : Int), vi 0, vi (e : Int), vi 1] h (fun z h' => RFm h h' ∧ PVz σ c 0 e 1 z) := by
  refine cn_q (lv := [vr 47, vi (c : Int), vi 0, vi (e : Int), vi 1]) tX6_part.1 rfl rfl (fun hR Q hQ => ?_)
  have w1 := W.1
  have w2 := W.2.1
  have w3 := W.2.2.1
  refine z_aload_n dX6_part_0 rfl ?_
  refine z_iload_n dX6_part_1 rfl ?_
  refine z_callV_eI (M := mX6_part) [_] tX6_isChain kX6_266 dX6_part_2 ⟨by decide, rfl, _, _, rfl⟩ ⟨by decide, by decide⟩ rfl (Nat.le_of_ble_eq_true rfl) rfl (c_X6_isChain W.wb R (by omega)) ?_
  refine z_if_eq 40 dX6_part_5 (by decide) (bi_r _) (fun c5 => ?_) (fun c5 => ?_)
  · have c5 := bi_eq.mp c5
    omega
  · have c5 := bi_ne.mp c5
    refine z_iload_n dX6_part_8 rfl ?_
    refine z_i2l dX6_part_9 (by omega) ?_
    refine z_lconst (z := 0) dX6_part_10 rfl ?_
    refine z_ldc2 (2) dX6_part_11 qX6_242 rfl ?_
    refine z_callS_eI (M := mX6_part) [_, _, _] tX6_in kX6_150 dX6_part_14 ⟨by decide, by decide⟩ rfl (Nat.le_of_ble_eq_true rfl) rfl (c_X6_in (by omega) (by omega) (by omega)) ?_
    refine z_if_eq 40 dX6_part_17 (by decide) (bi_r _) (fun c17 => ?_) (fun c17 => ?_)
    · have c17 := bi_eq.mp c17
      omega
    · have c17 := bi_ne.mp c17
      refine z_aload_n dX6_part_20 rfl ?_
      refine z_iconst dX6_part_21 ?_
      refine z_iload_n dX6_part_22 rfl ?_
      refine z_callV_eI (M := mX6_part) [_, _] tX6_isCell kX6_247 dX6_part_23 ⟨by decide, rfl, _, _, rfl⟩ ⟨by decide, by decide⟩ rfl (Nat.le_of_ble_eq_true rfl) rfl (c_X6_isCell1 W.wb R (by omega)) ?_
      refine z_if_eq 40 dX6_part_26 (by decide) (bi_r _) (fun c26 => ?_) (fun c26 => ?_)
      · have c26 := bi_eq.mp c26
        omega
      · have c26 := bi_ne.mp c26
        refine z_iload dX6_part_29 rfl ?_
        refine z_i2l dX6_part_31 (by omega) ?_
        refine z_lconst (z := 0) dX6_part_32 rfl ?_
        refine z_lconst (z := 1) dX6_part_33 rfl ?_
        refine z_callS_eI (M := mX6_part) [_, _, _] tX6_in kX6_150 dX6_part_34 ⟨by decide, by decide⟩ rfl (Nat.le_of_ble_eq_true rfl) rfl (c_X6_in (by omega) (by omega) (by omega)) ?_
        refine z_if_ne 44 dX6_part_37 (by decide) (bi_r _) (fun c37 => ?_) (fun c37 => ?_)
        · have c37 := bi_ne.mp c37
          refine z_aload_n dX6_part_44 rfl ?_
          refine z_iload_n dX6_part_45 rfl ?_
          refine z_iload_n dX6_part_46 rfl ?_
          refine z_callV_V (M := mX6_part) [_, _] tX6_laysPart kX6_360 dX6_part_47 ⟨by decide, rfl, _, _, rfl⟩ ⟨by decide, by decide⟩ rfl (Nat.le_of_ble_eq_true rfl) rfl (c_X6_laysPart0 W R hc) (fun h47 q47 => ?_)
          obtain ⟨D, y, hV, hB, hF, hL⟩ := q47
          refine z_iload dX6_part_50 rfl ?_
          refine z_if_ne 64 dX6_part_52 (by decide) (by omega) (fun c52 => ?_) (fun c52 => ?_)
          · refine z_aload_n dX6_part_64 rfl ?_
            refine z_getR fX6_39 dX6_part_65 (by decide) rfl rfl ?_
            refine z_iload_n dX6_part_68 rfl ?_
            refine z_laload dX6_part_69 (by decide) rfl (by omega) (by omega) (by first | decide | omega) (fun r69 => ?_)
            exact z_lreturn dX6_part_70 rfl (hQ _ _ ⟨_, rfl, ⟨hF, D, y, _, _, hV, hL e he, rfl⟩⟩)
          · omega
        · have c37 := bi_eq.mp c37
          omega
set_option maxRecDepth 100000 in
set_option maxHeartbeats 4000000 in
theorem c_X6_part10 {g : GG} {h : HH} {σ : SG} (W : WF σ) (R : RM (h 48) σ) {c : Nat} (hc : c < 3) (h0 : 0 < sP σ) {e : Nat} (he : e < sE σ) : CnL mX6_part g [vr 47, vi (c : Int), vi 1, vi (e : Int), vi 0] h (fun z h' => RFm h h' ∧ PVz σ c 1 e 0 z) := by
  refine cn_q (lv := [vr 47, vi (c : Int), vi 1, vi (e : Int), vi 0]) tX6_part.1 rfl rfl (fun hR Q hQ => ?_)
  have w1 := W.1
  have w2 := W.2.1
  have w3 := W.2.2.1
  refine z_aload_n dX6_part_0 rfl ?_
  refine z_iload_n dX6_part_1 rfl ?_
  refine z_callV_eI (M := mX6_part) [_] tX6_isChain kX6_266 dX6_part_2 ⟨by decide, rfl, _, _, rfl⟩ ⟨by decide, by decide⟩ rfl (Nat.le_of_ble_eq_true rfl) rfl (c_X6_isChain W.wb R (by omega)) ?_
  refine z_if_eq 40 dX6_part_5 (by decide) (bi_r _) (fun c5 => ?_) (fun c5 => ?_)
  · have c5 := bi_eq.mp c5
    omega
  · have c5 := bi_ne.mp c5
    refine z_iload_n dX6_part_8 rfl ?_
    refine z_i2l dX6_part_9 (by omega) ?_
    refine z_lconst (z := 0) dX6_part_10 rfl ?_
    refine z_ldc2 (2) dX6_part_11 qX6_242 rfl ?_
    refine z_callS_eI (M := mX6_part) [_, _, _] tX6_in kX6_150 dX6_part_14 ⟨by decide, by decide⟩ rfl (Nat.le_of_ble_eq_true rfl) rfl (c_X6_in (by omega) (by omega) (by omega)) ?_
    refine z_if_eq 40 dX6_part_17 (by decide) (bi_r _) (fun c17 => ?_) (fun c17 => ?_)
    · have c17 := bi_eq.mp c17
      omega
    · have c17 := bi_ne.mp c17
      refine z_aload_n dX6_part_20 rfl ?_
      refine z_iconst dX6_part_21 ?_
      refine z_iload_n dX6_part_22 rfl ?_
      refine z_callV_eI (M := mX6_part) [_, _] tX6_isCell kX6_247 dX6_part_23 ⟨by decide, rfl, _, _, rfl⟩ ⟨by decide, by decide⟩ rfl (Nat.le_of_ble_eq_true rfl) rfl (c_X6_isCell1 W.wb R (by omega)) ?_
      refine z_if_eq 40 dX6_part_26 (by decide) (bi_r _) (fun c26 => ?_) (fun c26 => ?_)
      · have c26 := bi_eq.mp c26
        omega
      · have c26 := bi_ne.mp c26
        refine z_iload dX6_part_29 rfl ?_
        refine z_i2l dX6_part_31 (by omega) ?_
        refine z_lconst (z := 0) dX6_part_32 rfl ?_
        refine z_lconst (z := 1) dX6_part_33 rfl ?_
        refine z_callS_eI (M := mX6_part) [_, _, _] tX6_in kX6_150 dX6_part_34 ⟨by decide, by decide⟩ rfl (Nat.le_of_ble_eq_true rfl) rfl (c_X6_in (by omega) (by omega) (by omega)) ?_
        refine z_if_ne 44 dX6_part_37 (by decide) (bi_r _) (fun c37 => ?_) (fun c37 => ?_)
        · have c37 := bi_ne.mp c37
          refine z_aload_n dX6_part_44 rfl ?_
          refine z_iload_n dX6_part_45 rfl ?_
          refine z_iload_n dX6_part_46 rfl ?_
          refine z_callV_V (M := mX6_part) [_, _] tX6_laysPart kX6_360 dX6_part_47 ⟨by decide, rfl, _, _, rfl⟩ ⟨by decide, by decide⟩ rfl (Nat.le_of_ble_eq_true rfl) rfl (c_X6_laysPart1 W R hc) (fun h47 q47 => ?_)
          obtain ⟨D, y, hV, hB, hF, hL⟩ := q47
          refine z_iload dX6_part_50 rfl ?_
          refine z_if_ne 64 dX6_part_52 (by decide) (by omega) (fun c52 => ?_) (fun c52 => ?_)
          · omega
          · refine z_aload_n dX6_part_55 rfl ?_
            refine z_getR fX6_36 dX6_part_56 (by decide) rfl rfl ?_
            refine z_iload_n dX6_part_59 rfl ?_
            refine z_laload dX6_part_60 (by decide) rfl (by omega) (by omega) (by first | decide | omega) (fun r60 => ?_)
            refine z_goto 70 dX6_part_61 (by decide) ?_
            exact z_lreturn dX6_part_70 rfl (hQ _ _ ⟨_, rfl, ⟨hF, D, y, _, _, hV, hL e he, rfl⟩⟩)
        · have c37 := bi_eq.mp c37
          omega
set_option maxRecDepth 100000 in
set_option maxHeartbeats 4000000 in
theorem c_X6_part11 {g : GG} {h : HH} {σ : SG} (W : WF σ) (R : RM (h 48) σ) {c : Nat} (hc : c < 3) (h0 : 0 < sP σ) {e : Nat} (he : e < sE σ) : CnL mX6_part g [vr 47, vi (c : Int), vi 1, vi (e : Int), vi 1] h (fun z h' => RFm h h' ∧ PVz σ c 1 e 1 z) := by
  refine cn_q (lv := [vr 47, vi (c : Int), vi 1, vi (e : Int), vi 1]) tX6_part.1 rfl rfl (fun hR Q hQ => ?_)
  have w1 := W.1
  have w2 := W.2.1
  have w3 := W.2.2.1
  refine z_aload_n dX6_part_0 rfl ?_
  refine z_iload_n dX6_part_1 rfl ?_
  refine z_callV_eI (M := mX6_part) [_] tX6_isChain kX6_266 dX6_part_2 ⟨by decide, rfl, _, _, rfl⟩ ⟨by decide, by decide⟩ rfl (Nat.le_of_ble_eq_true rfl) rfl (c_X6_isChain W.wb R (by omega)) ?_
  refine z_if_eq 40 dX6_part_5 (by decide) (bi_r _) (fun c5 => ?_) (fun c5 => ?_)
  · have c5 := bi_eq.mp c5
    omega
  · have c5 := bi_ne.mp c5
    refine z_iload_n dX6_part_8 rfl ?_
    refine z_i2l dX6_part_9 (by omega) ?_
    refine z_lconst (z := 0) dX6_part_10 rfl ?_
    refine z_ldc2 (2) dX6_part_11 qX6_242 rfl ?_
    refine z_callS_eI (M := mX6_part) [_, _, _] tX6_in kX6_150 dX6_part_14 ⟨by decide, by decide⟩ rfl (Nat.le_of_ble_eq_true rfl) rfl (c_X6_in (by omega) (by omega) (by omega)) ?_
    refine z_if_eq 40 dX6_part_17 (by decide) (bi_r _) (fun c17 => ?_) (fun c17 => ?_)
    · have c17 := bi_eq.mp c17
      omega
    · have c17 := bi_ne.mp c17
      refine z_aload_n dX6_part_20 rfl ?_
      refine z_iconst dX6_part_21 ?_
      refine z_iload_n dX6_part_22 rfl ?_
      refine z_callV_eI (M := mX6_part) [_, _] tX6_isCell kX6_247 dX6_part_23 ⟨by decide, rfl, _, _, rfl⟩ ⟨by decide, by decide⟩ rfl (Nat.le_of_ble_eq_true rfl) rfl (c_X6_isCell1 W.wb R (by omega)) ?_
      refine z_if_eq 40 dX6_part_26 (by decide) (bi_r _) (fun c26 => ?_) (fun c26 => ?_)
      · have c26 := bi_eq.mp c26
        omega
      · have c26 := bi_ne.mp c26
        refine z_iload dX6_part_29 rfl ?_
        refine z_i2l dX6_part_31 (by omega) ?_
        refine z_lconst (z := 0) dX6_part_32 rfl ?_
        refine z_lconst (z := 1) dX6_part_33 rfl ?_
        refine z_callS_eI (M := mX6_part) [_, _, _] tX6_in kX6_150 dX6_part_34 ⟨by decide, by decide⟩ rfl (Nat.le_of_ble_eq_true rfl) rfl (c_X6_in (by omega) (by omega) (by omega)) ?_
        refine z_if_ne 44 dX6_part_37 (by decide) (bi_r _) (fun c37 => ?_) (fun c37 => ?_)
        · have c37 := bi_ne.mp c37
          refine z_aload_n dX6_part_44 rfl ?_
          refine z_iload_n dX6_part_45 rfl ?_
          refine z_iload_n dX6_part_46 rfl ?_
          refine z_callV_V (M := mX6_part) [_, _] tX6_laysPart kX6_360 dX6_part_47 ⟨by decide, rfl, _, _, rfl⟩ ⟨by decide, by decide⟩ rfl (Nat.le_of_ble_eq_true rfl) rfl (c_X6_laysPart1 W R hc) (fun h47 q47 => ?_)
          obtain ⟨D, y, hV, hB, hF, hL⟩ := q47
          refine z_iload dX6_part_50 rfl ?_
          refine z_if_ne 64 dX6_part_52 (by decide) (by omega) (fun c52 => ?_) (fun c52 => ?_)
          · refine z_aload_n dX6_part_64 rfl ?_
            refine z_getR fX6_39 dX6_part_65 (by decide) rfl rfl ?_
            refine z_iload_n dX6_part_68 rfl ?_
            refine z_laload dX6_part_69 (by decide) rfl (by omega) (by omega) (by first | decide | omega) (fun r69 => ?_)
            exact z_lreturn dX6_part_70 rfl (hQ _ _ ⟨_, rfl, ⟨hF, D, y, _, _, hV, hL e he, rfl⟩⟩)
          · omega
        · have c37 := bi_eq.mp c37
          omega
set_option maxRecDepth 100000 in
set_option maxHeartbeats 4000000 in
theorem c_X6_part20 {g : GG} {h : HH} {σ : SG} (W : WF σ) (R : RM (h 48) σ) {c : Nat} (hc : c < 3) (h0 : 0 < sP σ) {e : Nat} (he : e < sE σ) : CnL mX6_part g [vr 47, vi (c : Int), vi 2, vi (e : Int), vi 0] h (fun z h' => RFm h h' ∧ PVz σ c 2 e 0 z) := by
  refine cn_q (lv := [vr 47, vi (c : Int), vi 2, vi (e : Int), vi 0]) tX6_part.1 rfl rfl (fun hR Q hQ => ?_)
  have w1 := W.1
  have w2 := W.2.1
  have w3 := W.2.2.1
  refine z_aload_n dX6_part_0 rfl ?_
  refine z_iload_n dX6_part_1 rfl ?_
  refine z_callV_eI (M := mX6_part) [_] tX6_isChain kX6_266 dX6_part_2 ⟨by decide, rfl, _, _, rfl⟩ ⟨by decide, by decide⟩ rfl (Nat.le_of_ble_eq_true rfl) rfl (c_X6_isChain W.wb R (by omega)) ?_
  refine z_if_eq 40 dX6_part_5 (by decide) (bi_r _) (fun c5 => ?_) (fun c5 => ?_)
  · have c5 := bi_eq.mp c5
    omega
  · have c5 := bi_ne.mp c5
    refine z_iload_n dX6_part_8 rfl ?_
    refine z_i2l dX6_part_9 (by omega) ?_
    refine z_lconst (z := 0) dX6_part_10 rfl ?_
    refine z_ldc2 (2) dX6_part_11 qX6_242 rfl ?_
    refine z_callS_eI (M := mX6_part) [_, _, _] tX6_in kX6_150 dX6_part_14 ⟨by decide, by decide⟩ rfl (Nat.le_of_ble_eq_true rfl) rfl (c_X6_in (by omega) (by omega) (by omega)) ?_
    refine z_if_eq 40 dX6_part_17 (by decide) (bi_r _) (fun c17 => ?_) (fun c17 => ?_)
    · have c17 := bi_eq.mp c17
      omega
    · have c17 := bi_ne.mp c17
      refine z_aload_n dX6_part_20 rfl ?_
      refine z_iconst dX6_part_21 ?_
      refine z_iload_n dX6_part_22 rfl ?_
      refine z_callV_eI (M := mX6_part) [_, _] tX6_isCell kX6_247 dX6_part_23 ⟨by decide, rfl, _, _, rfl⟩ ⟨by decide, by decide⟩ rfl (Nat.le_of_ble_eq_true rfl) rfl (c_X6_isCell1 W.wb R (by omega)) ?_
      refine z_if_eq 40 dX6_part_26 (by decide) (bi_r _) (fun c26 => ?_) (fun c26 => ?_)
      · have c26 := bi_eq.mp c26
        omega
      · have c26 := bi_ne.mp c26
        refine z_iload dX6_part_29 rfl ?_
        refine z_i2l dX6_part_31 (by omega) ?_
        refine z_lconst (z := 0) dX6_part_32 rfl ?_
        refine z_lconst (z := 1) dX6_part_33 rfl ?_
        refine z_callS_eI (M := mX6_part) [_, _, _] tX6_in kX6_150 dX6_part_34 ⟨by decide, by decide⟩ rfl (Nat.le_of_ble_eq_true rfl) rfl (c_X6_in (by omega) (by omega) (by omega)) ?_
        refine z_if_ne 44 dX6_part_37 (by decide) (bi_r _) (fun c37 => ?_) (fun c37 => ?_)
        · have c37 := bi_ne.mp c37
          refine z_aload_n dX6_part_44 rfl ?_
          refine z_iload_n dX6_part_45 rfl ?_
          refine z_iload_n dX6_part_46 rfl ?_
          refine z_callV_V (M := mX6_part) [_, _] tX6_laysPart kX6_360 dX6_part_47 ⟨by decide, rfl, _, _, rfl⟩ ⟨by decide, by decide⟩ rfl (Nat.le_of_ble_eq_true rfl) rfl (c_X6_laysPart2 W R hc) (fun h47 q47 => ?_)
          obtain ⟨D, y, hV, hB, hF, hL⟩ := q47
          refine z_iload dX6_part_50 rfl ?_
          refine z_if_ne 64 dX6_part_52 (by decide) (by omega) (fun c52 => ?_) (fun c52 => ?_)
          · omega
          · refine z_aload_n dX6_part_55 rfl ?_
            refine z_getR fX6_36 dX6_part_56 (by decide) rfl rfl ?_
            refine z_iload_n dX6_part_59 rfl ?_
            refine z_laload dX6_part_60 (by decide) rfl (by omega) (by omega) (by first | decide | omega) (fun r60 => ?_)
            refine z_goto 70 dX6_part_61 (by decide) ?_
            exact z_lreturn dX6_part_70 rfl (hQ _ _ ⟨_, rfl, ⟨hF, D, y, _, _, hV, hL e he, rfl⟩⟩)
        · have c37 := bi_eq.mp c37
          omega
set_option maxRecDepth 100000 in
set_option maxHeartbeats 4000000 in
theorem c_X6_part21 {g : GG} {h : HH} {σ : SG} (W : WF σ) (R : RM (h 48) σ) {c : Nat} (hc : c < 3) (h0 : 0 < sP σ) {e : Nat} (he : e < sE σ) : CnL mX6_part g [vr 47, vi (c : Int), vi 2, vi (e : Int), vi 1] h (fun z h' => RFm h h' ∧ PVz σ c 2 e 1 z) := by
  refine cn_q (lv := [vr 47, vi (c : Int), vi 2, vi (e : Int), vi 1]) tX6_part.1 rfl rfl (fun hR Q hQ => ?_)
  have w1 := W.1
  have w2 := W.2.1
  have w3 := W.2.2.1
  refine z_aload_n dX6_part_0 rfl ?_
  refine z_iload_n dX6_part_1 rfl ?_
  refine z_callV_eI (M := mX6_part) [_] tX6_isChain kX6_266 dX6_part_2 ⟨by decide, rfl, _, _, rfl⟩ ⟨by decide, by decide⟩ rfl (Nat.le_of_ble_eq_true rfl) rfl (c_X6_isChain W.wb R (by omega)) ?_
  refine z_if_eq 40 dX6_part_5 (by decide) (bi_r _) (fun c5 => ?_) (fun c5 => ?_)
  · have c5 := bi_eq.mp c5
    omega
  · have c5 := bi_ne.mp c5
    refine z_iload_n dX6_part_8 rfl ?_
    refine z_i2l dX6_part_9 (by omega) ?_
    refine z_lconst (z := 0) dX6_part_10 rfl ?_
    refine z_ldc2 (2) dX6_part_11 qX6_242 rfl ?_
    refine z_callS_eI (M := mX6_part) [_, _, _] tX6_in kX6_150 dX6_part_14 ⟨by decide, by decide⟩ rfl (Nat.le_of_ble_eq_true rfl) rfl (c_X6_in (by omega) (by omega) (by omega)) ?_
    refine z_if_eq 40 dX6_part_17 (by decide) (bi_r _) (fun c17 => ?_) (fun c17 => ?_)
    · have c17 := bi_eq.mp c17
      omega
    · have c17 := bi_ne.mp c17
      refine z_aload_n dX6_part_20 rfl ?_
      refine z_iconst dX6_part_21 ?_
      refine z_iload_n dX6_part_22 rfl ?_
      refine z_callV_eI (M := mX6_part) [_, _] tX6_isCell kX6_247 dX6_part_23 ⟨by decide, rfl, _, _, rfl⟩ ⟨by decide, by decide⟩ rfl (Nat.le_of_ble_eq_true rfl) rfl (c_X6_isCell1 W.wb R (by omega)) ?_
      refine z_if_eq 40 dX6_part_26 (by decide) (bi_r _) (fun c26 => ?_) (fun c26 => ?_)
      · have c26 := bi_eq.mp c26
        omega
      · have c26 := bi_ne.mp c26
        refine z_iload dX6_part_29 rfl ?_
        refine z_i2l dX6_part_31 (by omega) ?_
        refine z_lconst (z := 0) dX6_part_32 rfl ?_
        refine z_lconst (z := 1) dX6_part_33 rfl ?_
        refine z_callS_eI (M := mX6_part) [_, _, _] tX6_in kX6_150 dX6_part_34 ⟨by decide, by decide⟩ rfl (Nat.le_of_ble_eq_true rfl) rfl (c_X6_in (by omega) (by omega) (by omega)) ?_
        refine z_if_ne 44 dX6_part_37 (by decide) (bi_r _) (fun c37 => ?_) (fun c37 => ?_)
        · have c37 := bi_ne.mp c37
          refine z_aload_n dX6_part_44 rfl ?_
          refine z_iload_n dX6_part_45 rfl ?_
          refine z_iload_n dX6_part_46 rfl ?_
          refine z_callV_V (M := mX6_part) [_, _] tX6_laysPart kX6_360 dX6_part_47 ⟨by decide, rfl, _, _, rfl⟩ ⟨by decide, by decide⟩ rfl (Nat.le_of_ble_eq_true rfl) rfl (c_X6_laysPart2 W R hc) (fun h47 q47 => ?_)
          obtain ⟨D, y, hV, hB, hF, hL⟩ := q47
          refine z_iload dX6_part_50 rfl ?_
          refine z_if_ne 64 dX6_part_52 (by decide) (by omega) (fun c52 => ?_) (fun c52 => ?_)
          · refine z_aload_n dX6_part_64 rfl ?_
            refine z_getR fX6_39 dX6_part_65 (by decide) rfl rfl ?_
            refine z_iload_n dX6_part_68 rfl ?_
            refine z_laload dX6_part_69 (by decide) rfl (by omega) (by omega) (by first | decide | omega) (fun r69 => ?_)
            exact z_lreturn dX6_part_70 rfl (hQ _ _ ⟨_, rfl, ⟨hF, D, y, _, _, hV, hL e he, rfl⟩⟩)
          · omega
        · have c37 := bi_eq.mp c37
          omega
set_option maxRecDepth 100000 in
set_option maxHeartbeats 4000000 in
theorem c_X6_measures0 {g : GG} {h : HH} {σ : SG} (W : WF σ) (R : RM (h 48) σ) {c : Nat} (hc : c < 3) : CnV mX6_measures g [vr 47, vi (c : Int), vi 0] h (fun h' => MSh σ c 0 h h') := by
  refine cn_q (lv := [vr 47, vi (c : Int), vi 0, vx, vx, vx, vx, vx, vx, vx, vx]) tX6_measures.1 rfl rfl (fun hR Q hQ => ?_)
  have w1 := W.1
  have w2 := W.2.1
  have w3 := W.2.2.1
  refine z_iload_n dX6_measures_0 rfl ?_
  refine z_iconst dX6_measures_1 ?_
  refine z_icmp_ge 11 dX6_measures_2 (by decide) (by omega) (by omega) (fun c2 => ?_) (fun c2 => ?_)
  · omega
  · refine z_aload_n dX6_measures_5 rfl ?_
    refine z_iload_n dX6_measures_6 rfl ?_
    refine z_iload_n dX6_measures_7 rfl ?_
    refine z_callV_V (M := mX6_measures) [_, _] tX6_laysPart kX6_360 dX6_measures_8 ⟨by decide, rfl, _, _, rfl⟩ ⟨by decide, by decide⟩ rfl (Nat.le_of_ble_eq_true rfl) rfl (c_X6_laysPart0 W R hc) (fun h8 q8 => ?_)
    obtain ⟨D, y, hV, hB, hF, hL⟩ := q8
    obtain ⟨h6, hh6⟩ : ∃ h6, h6 = h8 := ⟨_, rfl⟩
    rw [← hh6] at hF hL
    rw [← hh6]
    refine z_aload_n dX6_measures_11 rfl ?_
    refine z_lconst (z := 0) dX6_measures_12 rfl ?_
    refine z_putJ pX6_363 dX6_measures_13 (by decide) rfl rfl (by omega) ?_
    refine z_aload_n dX6_measures_16 rfl ?_
    refine z_lconst (z := 1) dX6_measures_17 rfl ?_
    refine z_putJ pX6_366 dX6_measures_18 (by decide) rfl rfl (by omega) ?_
    have Rh := hF.rm R
    have d0 := pv_d (by decide) hV
    have yb := (pv_b W hc (by decide) hV).2.2
    refine z_iconst dX6_measures_21 ?_
    refine z_istore_n dX6_measures_22 (by decide) rfl ?_
    have loop23 : ∀ (nL9 : Nat) (e : Nat) (h1 : HH), (e ≤ sE σ) → (MSp σ c D y h6 h1 e) → sE σ - e < nL9 → Z mX6_measures g 23 [vr 47, vi (c : Int), vi 0, vi (e : Int), vx, vx, vx, vx, vx, vx, vx] [] h1 Q := by
      intro nL9
      induction nL9 with
      | zero => intro e h1 he L hnL9; exact absurd hnL9 (Nat.not_lt_zero _)
      | succ nL9 ih23 =>
        intro e h1 he L hnL9
        refine z_iload_n dX6_measures_23 rfl ?_
        refine z_aload_n dX6_measures_24 rfl ?_
        refine z_getR fX6_7 dX6_measures_25 (by decide) rfl rfl ?_
        refine z_iconst dX6_measures_28 ?_
        refine z_iaload dX6_measures_29 (by decide) rfl (by omega) (by omega) (by first | decide | omega) (fun r29 => ?_)
        have R1 := L.rm Rh
        rw [show h1 48 (Int.toNat 1) = sE σ from rm_E R1]
        refine z_icmp_ge 195 dX6_measures_30 (by decide) (by omega) (by omega) (fun c30 => ?_) (fun c30 => ?_)
        · exact z_return dX6_measures_195 rfl (hQ _ _ ⟨rfl, ⟨hF.tr L.rf, D, y, hV, hB, by rw [show sE σ = e from by omega]; exact L.2.2⟩⟩)
        · refine z_aload_n dX6_measures_33 rfl ?_
          refine z_getR fX6_7 dX6_measures_34 (by decide) rfl rfl ?_
          refine z_bipush dX6_measures_37 (by decide) ?_
          refine z_bipush dX6_measures_39 (by decide) ?_
          refine z_iload_n dX6_measures_41 rfl ?_
          refine z_imul dX6_measures_42 ?_
          refine z_iadd dX6_measures_43 ?_
          refine z_iload_n dX6_measures_44 rfl ?_
          refine z_iadd dX6_measures_45 ?_
          refine z_iaload dX6_measures_46 (by decide) rfl (by omega) (by omega) (by first | decide | omega) (fun r46 => ?_)
          rw [rm_ch R1 hc (e := e) (by omega) (z := 45 + 6 * (c : Int) + (e : Int)) (by omega)]
          have c9 := W.2.2.2.2.2 c e hc (by omega)
          refine z_istore dX6_measures_47 (by decide) rfl ?_
          refine z_iload_n dX6_measures_49 rfl ?_
          refine z_iconst dX6_measures_50 ?_
          refine z_icmp_ne 64 dX6_measures_51 (by decide) (by omega) (by omega) (fun c51 => ?_) (fun c51 => ?_)
          · refine z_iload dX6_measures_64 rfl ?_
            refine z_i2l dX6_measures_66 (by omega) ?_
            refine z_aload_n dX6_measures_67 rfl ?_
            refine z_getR fX6_36 dX6_measures_68 (by decide) rfl rfl ?_
            refine z_iload_n dX6_measures_71 rfl ?_
            refine z_laload dX6_measures_72 (by decide) rfl (by omega) (by omega) (by first | decide | omega) (fun r72 => ?_)
            rw [show h1 56 (e : Int).toNat = h6 56 e from by rw [L.1 56 (by decide)]; rfl]
            refine z_lmul dX6_measures_73 ?_
            refine z_lstore dX6_measures_74 (by decide) rfl ?_
            refine z_iload_n dX6_measures_76 rfl ?_
            refine z_iconst dX6_measures_77 ?_
            refine z_icmp_ne 85 dX6_measures_78 (by decide) (by omega) (by omega) (fun c78 => ?_) (fun c78 => ?_)
            · refine z_aload_n dX6_measures_85 rfl ?_
              refine z_getR fX6_39 dX6_measures_86 (by decide) rfl rfl ?_
              refine z_iload_n dX6_measures_89 rfl ?_
              refine z_laload dX6_measures_90 (by decide) rfl (by omega) (by omega) (by first | decide | omega) (fun r90 => ?_)
              rw [show h1 57 (e : Int).toNat = h6 57 e from by rw [L.1 57 (by decide)]; rfl]
              refine z_aload_n dX6_measures_91 rfl ?_
              refine z_getR fX6_7 dX6_measures_92 (by decide) rfl rfl ?_
              refine z_iconst dX6_measures_95 ?_
              refine z_iload_n dX6_measures_96 rfl ?_
              refine z_callS_eI (M := mX6_measures) [_, _, _] tX6_weight kX6_81 dX6_measures_97 ⟨by decide, by decide⟩ rfl (Nat.le_of_ble_eq_true rfl) rfl (c_X6_weightE isB48 W.wb R1 (e := e) (by omega)) ?_
              have w9 := W.2.2.2.1 e (by omega)
              refine z_i2l dX6_measures_100 (by omega) ?_
              refine z_lmul dX6_measures_101 ?_
              refine z_lstore dX6_measures_102 (by decide) rfl ?_
              have lw : LW (y e) D (h6 56 e) (h6 57 e) := hL e (by omega)
              have al := ms_all W hc (show e < sE σ by omega) d0 hB yb L.2.2 lw
              obtain ⟨al1, al2, al3, al4, al5⟩ := al
              refine z_aload_n dX6_measures_104 rfl ?_
              refine z_getJ fX6_366 dX6_measures_105 (by decide) rfl rfl (fun r105 => ?_)
              refine z_lload dX6_measures_108 rfl ?_
              refine z_callS_eL (M := mX6_measures) [_, _] tX6_gcd kX6_117 dX6_measures_110 ⟨by decide, by decide⟩ rfl (Nat.le_of_ble_eq_true rfl) rfl (c_X6_gcd (by omega) (by omega)) ?_
              refine z_lstore dX6_measures_113 (by decide) rfl ?_
              refine z_aload_n dX6_measures_115 rfl ?_
              refine z_aload_n dX6_measures_116 rfl ?_
              refine z_getJ fX6_363 dX6_measures_117 (by decide) rfl rfl (fun r117 => ?_)
              refine z_lload dX6_measures_120 rfl ?_
              refine z_lload dX6_measures_122 rfl ?_
              refine z_ldiv dX6_measures_124 (by omega) (by omega) (by omega) ?_
              refine z_lmul dX6_measures_125 ?_
              refine z_lload dX6_measures_126 rfl ?_
              refine z_aload_n dX6_measures_128 rfl ?_
              refine z_getJ fX6_366 dX6_measures_129 (by decide) rfl rfl (fun r129 => ?_)
              refine z_lload dX6_measures_132 rfl ?_
              refine z_ldiv dX6_measures_134 (by omega) (by omega) (by omega) ?_
              refine z_lmul dX6_measures_135 ?_
              refine z_ladd dX6_measures_136 ?_
              obtain ⟨A', hA'⟩ : ∃ A', A' = h1 47 22 * (h6 57 e * (sew σ e : Int)).tdiv (Int.gcd (h1 47 23) (h6 57 e * (sew σ e : Int))) + sch σ c e * h6 56 e * (h1 47 23).tdiv (Int.gcd (h1 47 23) (h6 57 e * (sew σ e : Int))) := ⟨_, rfl⟩
              rw [← hA']
              obtain ⟨B', hB'⟩ : ∃ B', B' = (h1 47 23).tdiv (Int.gcd (h1 47 23) (h6 57 e * (sew σ e : Int))) * (h6 57 e * (sew σ e : Int)) := ⟨_, rfl⟩
              obtain ⟨a1, a2, a3⟩ := al5 A' B' hA' hB'
              refine z_putJ pX6_363 dX6_measures_137 (by decide) rfl rfl (by omega) ?_
              refine z_aload_n dX6_measures_140 rfl ?_
              refine z_aload_n dX6_measures_141 rfl ?_
              refine z_getJ fX6_366 dX6_measures_142 (by decide) rfl rfl (fun r142 => ?_)
              refine z_lload dX6_measures_145 rfl ?_
              rw [show (up h1 47 22 A') 47 23 = h1 47 23 from up_o _ _ (by decide)]
              refine z_ldiv dX6_measures_147 (by omega) (by omega) (by omega) ?_
              refine z_lload dX6_measures_148 rfl ?_
              refine z_lmul dX6_measures_150 ?_
              rw [← hB']
              refine z_putJ pX6_366 dX6_measures_151 (by decide) rfl rfl (by omega) ?_
              refine z_aload_n dX6_measures_154 rfl ?_
              refine z_getJ fX6_363 dX6_measures_155 (by decide) rfl rfl (fun r155 => ?_)
              refine z_aload_n dX6_measures_158 rfl ?_
              refine z_getJ fX6_366 dX6_measures_159 (by decide) rfl rfl (fun r159 => ?_)
              rw [show (up (up h1 47 22 A') 47 23 B') 47 22 = A' from by rw [up_o _ _ (by decide), up_same], show (up (up h1 47 22 A') 47 23 B') 47 23 = B' from up_same _ _ _ _]
              refine z_callS_eL (M := mX6_measures) [_, _] tX6_gcd kX6_117 dX6_measures_162 ⟨by decide, by decide⟩ rfl (Nat.le_of_ble_eq_true rfl) rfl (c_X6_gcd (by omega) (by omega)) ?_
              refine z_lstore dX6_measures_165 (by decide) rfl ?_
              refine z_aload_n dX6_measures_167 rfl ?_
              refine z_dup dX6_measures_168 rfl ?_
              refine z_getJ fX6_363 dX6_measures_169 (by decide) rfl rfl (fun r169 => ?_)
              refine z_lload dX6_measures_172 rfl ?_
              rw [show (up (up h1 47 22 A') 47 23 B') 47 22 = A' from by rw [up_o _ _ (by decide), up_same]]
              have g2 := gcd_b (a := A') (b := B') (by omega)
              refine z_ldiv dX6_measures_174 (by omega) (by omega) (by omega) ?_
              refine z_putJ pX6_363 dX6_measures_175 (by decide) rfl rfl (tdiv_b (by omega)) ?_
              refine z_aload_n dX6_measures_178 rfl ?_
              refine z_dup dX6_measures_179 rfl ?_
              refine z_getJ fX6_366 dX6_measures_180 (by decide) rfl rfl (fun r180 => ?_)
              rw [show (up (up (up h1 47 22 A') 47 23 B') 47 22 (A'.tdiv (Int.gcd A' B'))) 47 23 = B' from by rw [up_o _ _ (by decide), up_same]]
              refine z_lload dX6_measures_183 rfl ?_
              refine z_ldiv dX6_measures_185 (by omega) (by omega) (by omega) ?_
              refine z_putJ pX6_366 dX6_measures_186 (by decide) rfl rfl (tdiv_b (by omega)) ?_
              refine z_iinc dX6_measures_189 rfl (by decide) rfl ?_
              refine z_goto 23 dX6_measures_192 (by decide) ?_
              refine z_forget 4 ?_
              refine z_forget 5 ?_
              refine z_forget 7 ?_
              refine z_forget 9 ?_
              exact ih23 (e + 1) _ (by omega) (L.put a3) (by omega)
            · omega
          · omega
    exact loop23 _ 0 _ (by omega) (MSp.init h6) (Nat.lt_succ_self _)
set_option maxRecDepth 100000 in
set_option maxHeartbeats 4000000 in
theorem c_X6_measures1 {g : GG} {h : HH} {σ : SG} (W : WF σ) (R : RM (h 48) σ) {c : Nat} (hc : c < 3) : CnV mX6_measures g [vr 47, vi (c : Int), vi 1] h (fun h' => MSh σ c 1 h h') := by
  refine cn_q (lv := [vr 47, vi (c : Int), vi 1, vx, vx, vx, vx, vx, vx, vx, vx]) tX6_measures.1 rfl rfl (fun hR Q hQ => ?_)
  have w1 := W.1
  have w2 := W.2.1
  have w3 := W.2.2.1
  refine z_iload_n dX6_measures_0 rfl ?_
  refine z_iconst dX6_measures_1 ?_
  refine z_icmp_ge 11 dX6_measures_2 (by decide) (by omega) (by omega) (fun c2 => ?_) (fun c2 => ?_)
  · omega
  · refine z_aload_n dX6_measures_5 rfl ?_
    refine z_iload_n dX6_measures_6 rfl ?_
    refine z_iload_n dX6_measures_7 rfl ?_
    refine z_callV_V (M := mX6_measures) [_, _] tX6_laysPart kX6_360 dX6_measures_8 ⟨by decide, rfl, _, _, rfl⟩ ⟨by decide, by decide⟩ rfl (Nat.le_of_ble_eq_true rfl) rfl (c_X6_laysPart1 W R hc) (fun h8 q8 => ?_)
    obtain ⟨D, y, hV, hB, hF, hL⟩ := q8
    obtain ⟨h6, hh6⟩ : ∃ h6, h6 = h8 := ⟨_, rfl⟩
    rw [← hh6] at hF hL
    rw [← hh6]
    refine z_aload_n dX6_measures_11 rfl ?_
    refine z_lconst (z := 0) dX6_measures_12 rfl ?_
    refine z_putJ pX6_363 dX6_measures_13 (by decide) rfl rfl (by omega) ?_
    refine z_aload_n dX6_measures_16 rfl ?_
    refine z_lconst (z := 1) dX6_measures_17 rfl ?_
    refine z_putJ pX6_366 dX6_measures_18 (by decide) rfl rfl (by omega) ?_
    have Rh := hF.rm R
    have d0 := pv_d (by decide) hV
    have yb := (pv_b W hc (by decide) hV).2.2
    refine z_iconst dX6_measures_21 ?_
    refine z_istore_n dX6_measures_22 (by decide) rfl ?_
    have loop23 : ∀ (nL9 : Nat) (e : Nat) (h1 : HH), (e ≤ sE σ) → (MSp σ c D y h6 h1 e) → sE σ - e < nL9 → Z mX6_measures g 23 [vr 47, vi (c : Int), vi 1, vi (e : Int), vx, vx, vx, vx, vx, vx, vx] [] h1 Q := by
      intro nL9
      induction nL9 with
      | zero => intro e h1 he L hnL9; exact absurd hnL9 (Nat.not_lt_zero _)
      | succ nL9 ih23 =>
        intro e h1 he L hnL9
        refine z_iload_n dX6_measures_23 rfl ?_
        refine z_aload_n dX6_measures_24 rfl ?_
        refine z_getR fX6_7 dX6_measures_25 (by decide) rfl rfl ?_
        refine z_iconst dX6_measures_28 ?_
        refine z_iaload dX6_measures_29 (by decide) rfl (by omega) (by omega) (by first | decide | omega) (fun r29 => ?_)
        have R1 := L.rm Rh
        rw [show h1 48 (Int.toNat 1) = sE σ from rm_E R1]
        refine z_icmp_ge 195 dX6_measures_30 (by decide) (by omega) (by omega) (fun c30 => ?_) (fun c30 => ?_)
        · exact z_return dX6_measures_195 rfl (hQ _ _ ⟨rfl, ⟨hF.tr L.rf, D, y, hV, hB, by rw [show sE σ = e from by omega]; exact L.2.2⟩⟩)
        · refine z_aload_n dX6_measures_33 rfl ?_
          refine z_getR fX6_7 dX6_measures_34 (by decide) rfl rfl ?_
          refine z_bipush dX6_measures_37 (by decide) ?_
          refine z_bipush dX6_measures_39 (by decide) ?_
          refine z_iload_n dX6_measures_41 rfl ?_
          refine z_imul dX6_measures_42 ?_
          refine z_iadd dX6_measures_43 ?_
          refine z_iload_n dX6_measures_44 rfl ?_
          refine z_iadd dX6_measures_45 ?_
          refine z_iaload dX6_measures_46 (by decide) rfl (by omega) (by omega) (by first | decide | omega) (fun r46 => ?_)
          rw [rm_ch R1 hc (e := e) (by omega) (z := 45 + 6 * (c : Int) + (e : Int)) (by omega)]
          have c9 := W.2.2.2.2.2 c e hc (by omega)
          refine z_istore dX6_measures_47 (by decide) rfl ?_
          refine z_iload_n dX6_measures_49 rfl ?_
          refine z_iconst dX6_measures_50 ?_
          refine z_icmp_ne 64 dX6_measures_51 (by decide) (by omega) (by omega) (fun c51 => ?_) (fun c51 => ?_)
          · refine z_iload dX6_measures_64 rfl ?_
            refine z_i2l dX6_measures_66 (by omega) ?_
            refine z_aload_n dX6_measures_67 rfl ?_
            refine z_getR fX6_36 dX6_measures_68 (by decide) rfl rfl ?_
            refine z_iload_n dX6_measures_71 rfl ?_
            refine z_laload dX6_measures_72 (by decide) rfl (by omega) (by omega) (by first | decide | omega) (fun r72 => ?_)
            rw [show h1 56 (e : Int).toNat = h6 56 e from by rw [L.1 56 (by decide)]; rfl]
            refine z_lmul dX6_measures_73 ?_
            refine z_lstore dX6_measures_74 (by decide) rfl ?_
            refine z_iload_n dX6_measures_76 rfl ?_
            refine z_iconst dX6_measures_77 ?_
            refine z_icmp_ne 85 dX6_measures_78 (by decide) (by omega) (by omega) (fun c78 => ?_) (fun c78 => ?_)
            · refine z_aload_n dX6_measures_85 rfl ?_
              refine z_getR fX6_39 dX6_measures_86 (by decide) rfl rfl ?_
              refine z_iload_n dX6_measures_89 rfl ?_
              refine z_laload dX6_measures_90 (by decide) rfl (by omega) (by omega) (by first | decide | omega) (fun r90 => ?_)
              rw [show h1 57 (e : Int).toNat = h6 57 e from by rw [L.1 57 (by decide)]; rfl]
              refine z_aload_n dX6_measures_91 rfl ?_
              refine z_getR fX6_7 dX6_measures_92 (by decide) rfl rfl ?_
              refine z_iconst dX6_measures_95 ?_
              refine z_iload_n dX6_measures_96 rfl ?_
              refine z_callS_eI (M := mX6_measures) [_, _, _] tX6_weight kX6_81 dX6_measures_97 ⟨by decide, by decide⟩ rfl (Nat.le_of_ble_eq_true rfl) rfl (c_X6_weightE isB48 W.wb R1 (e := e) (by omega)) ?_
              have w9 := W.2.2.2.1 e (by omega)
              refine z_i2l dX6_measures_100 (by omega) ?_
              refine z_lmul dX6_measures_101 ?_
              refine z_lstore dX6_measures_102 (by decide) rfl ?_
              have lw : LW (y e) D (h6 56 e) (h6 57 e) := hL e (by omega)
              have al := ms_all W hc (show e < sE σ by omega) d0 hB yb L.2.2 lw
              obtain ⟨al1, al2, al3, al4, al5⟩ := al
              refine z_aload_n dX6_measures_104 rfl ?_
              refine z_getJ fX6_366 dX6_measures_105 (by decide) rfl rfl (fun r105 => ?_)
              refine z_lload dX6_measures_108 rfl ?_
              refine z_callS_eL (M := mX6_measures) [_, _] tX6_gcd kX6_117 dX6_measures_110 ⟨by decide, by decide⟩ rfl (Nat.le_of_ble_eq_true rfl) rfl (c_X6_gcd (by omega) (by omega)) ?_
              refine z_lstore dX6_measures_113 (by decide) rfl ?_
              refine z_aload_n dX6_measures_115 rfl ?_
              refine z_aload_n dX6_measures_116 rfl ?_
              refine z_getJ fX6_363 dX6_measures_117 (by decide) rfl rfl (fun r117 => ?_)
              refine z_lload dX6_measures_120 rfl ?_
              refine z_lload dX6_measures_122 rfl ?_
              refine z_ldiv dX6_measures_124 (by omega) (by omega) (by omega) ?_
              refine z_lmul dX6_measures_125 ?_
              refine z_lload dX6_measures_126 rfl ?_
              refine z_aload_n dX6_measures_128 rfl ?_
              refine z_getJ fX6_366 dX6_measures_129 (by decide) rfl rfl (fun r129 => ?_)
              refine z_lload dX6_measures_132 rfl ?_
              refine z_ldiv dX6_measures_134 (by omega) (by omega) (by omega) ?_
              refine z_lmul dX6_measures_135 ?_
              refine z_ladd dX6_measures_136 ?_
              obtain ⟨A', hA'⟩ : ∃ A', A' = h1 47 22 * (h6 57 e * (sew σ e : Int)).tdiv (Int.gcd (h1 47 23) (h6 57 e * (sew σ e : Int))) + sch σ c e * h6 56 e * (h1 47 23).tdiv (Int.gcd (h1 47 23) (h6 57 e * (sew σ e : Int))) := ⟨_, rfl⟩
              rw [← hA']
              obtain ⟨B', hB'⟩ : ∃ B', B' = (h1 47 23).tdiv (Int.gcd (h1 47 23) (h6 57 e * (sew σ e : Int))) * (h6 57 e * (sew σ e : Int)) := ⟨_, rfl⟩
              obtain ⟨a1, a2, a3⟩ := al5 A' B' hA' hB'
              refine z_putJ pX6_363 dX6_measures_137 (by decide) rfl rfl (by omega) ?_
              refine z_aload_n dX6_measures_140 rfl ?_
              refine z_aload_n dX6_measures_141 rfl ?_
              refine z_getJ fX6_366 dX6_measures_142 (by decide) rfl rfl (fun r142 => ?_)
              refine z_lload dX6_measures_145 rfl ?_
              rw [show (up h1 47 22 A') 47 23 = h1 47 23 from up_o _ _ (by decide)]
              refine z_ldiv dX6_measures_147 (by omega) (by omega) (by omega) ?_
              refine z_lload dX6_measures_148 rfl ?_
              refine z_lmul dX6_measures_150 ?_
              rw [← hB']
              refine z_putJ pX6_366 dX6_measures_151 (by decide) rfl rfl (by omega) ?_
              refine z_aload_n dX6_measures_154 rfl ?_
              refine z_getJ fX6_363 dX6_measures_155 (by decide) rfl rfl (fun r155 => ?_)
              refine z_aload_n dX6_measures_158 rfl ?_
              refine z_getJ fX6_366 dX6_measures_159 (by decide) rfl rfl (fun r159 => ?_)
              rw [show (up (up h1 47 22 A') 47 23 B') 47 22 = A' from by rw [up_o _ _ (by decide), up_same], show (up (up h1 47 22 A') 47 23 B') 47 23 = B' from up_same _ _ _ _]
              refine z_callS_eL (M := mX6_measures) [_, _] tX6_gcd kX6_117 dX6_measures_162 ⟨by decide, by decide⟩ rfl (Nat.le_of_ble_eq_true rfl) rfl (c_X6_gcd (by omega) (by omega)) ?_
              refine z_lstore dX6_measures_165 (by decide) rfl ?_
              refine z_aload_n dX6_measures_167 rfl ?_
              refine z_dup dX6_measures_168 rfl ?_
              refine z_getJ fX6_363 dX6_measures_169 (by decide) rfl rfl (fun r169 => ?_)
              refine z_lload dX6_measures_172 rfl ?_
              rw [show (up (up h1 47 22 A') 47 23 B') 47 22 = A' from by rw [up_o _ _ (by decide), up_same]]
              have g2 := gcd_b (a := A') (b := B') (by omega)
              refine z_ldiv dX6_measures_174 (by omega) (by omega) (by omega) ?_
              refine z_putJ pX6_363 dX6_measures_175 (by decide) rfl rfl (tdiv_b (by omega)) ?_
              refine z_aload_n dX6_measures_178 rfl ?_
              refine z_dup dX6_measures_179 rfl ?_
              refine z_getJ fX6_366 dX6_measures_180 (by decide) rfl rfl (fun r180 => ?_)
              rw [show (up (up (up h1 47 22 A') 47 23 B') 47 22 (A'.tdiv (Int.gcd A' B'))) 47 23 = B' from by rw [up_o _ _ (by decide), up_same]]
              refine z_lload dX6_measures_183 rfl ?_
              refine z_ldiv dX6_measures_185 (by omega) (by omega) (by omega) ?_
              refine z_putJ pX6_366 dX6_measures_186 (by decide) rfl rfl (tdiv_b (by omega)) ?_
              refine z_iinc dX6_measures_189 rfl (by decide) rfl ?_
              refine z_goto 23 dX6_measures_192 (by decide) ?_
              refine z_forget 4 ?_
              refine z_forget 5 ?_
              refine z_forget 7 ?_
              refine z_forget 9 ?_
              exact ih23 (e + 1) _ (by omega) (L.put a3) (by omega)
            · omega
          · omega
    exact loop23 _ 0 _ (by omega) (MSp.init h6) (Nat.lt_succ_self _)
set_option maxRecDepth 100000 in
set_option maxHeartbeats 4000000 in
theorem c_X6_measures2 {g : GG} {h : HH} {σ : SG} (W : WF σ) (R : RM (h 48) σ) {c : Nat} (hc : c < 3) : CnV mX6_measures g [vr 47, vi (c : Int), vi 2] h (fun h' => MSh σ c 2 h h') := by
  refine cn_q (lv := [vr 47, vi (c : Int), vi 2, vx, vx, vx, vx, vx, vx, vx, vx]) tX6_measures.1 rfl rfl (fun hR Q hQ => ?_)
  have w1 := W.1
  have w2 := W.2.1
  have w3 := W.2.2.1
  refine z_iload_n dX6_measures_0 rfl ?_
  refine z_iconst dX6_measures_1 ?_
  refine z_icmp_ge 11 dX6_measures_2 (by decide) (by omega) (by omega) (fun c2 => ?_) (fun c2 => ?_)
  · omega
  · refine z_aload_n dX6_measures_5 rfl ?_
    refine z_iload_n dX6_measures_6 rfl ?_
    refine z_iload_n dX6_measures_7 rfl ?_
    refine z_callV_V (M := mX6_measures) [_, _] tX6_laysPart kX6_360 dX6_measures_8 ⟨by decide, rfl, _, _, rfl⟩ ⟨by decide, by decide⟩ rfl (Nat.le_of_ble_eq_true rfl) rfl (c_X6_laysPart2 W R hc) (fun h8 q8 => ?_)
    obtain ⟨D, y, hV, hB, hF, hL⟩ := q8
    obtain ⟨h6, hh6⟩ : ∃ h6, h6 = h8 := ⟨_, rfl⟩
    rw [← hh6] at hF hL
    rw [← hh6]
    refine z_aload_n dX6_measures_11 rfl ?_
    refine z_lconst (z := 0) dX6_measures_12 rfl ?_
    refine z_putJ pX6_363 dX6_measures_13 (by decide) rfl rfl (by omega) ?_
    refine z_aload_n dX6_measures_16 rfl ?_
    refine z_lconst (z := 1) dX6_measures_17 rfl ?_
    refine z_putJ pX6_366 dX6_measures_18 (by decide) rfl rfl (by omega) ?_
    have Rh := hF.rm R
    have d0 := pv_d (by decide) hV
    have yb := (pv_b W hc (by decide) hV).2.2
    refine z_iconst dX6_measures_21 ?_
    refine z_istore_n dX6_measures_22 (by decide) rfl ?_
    have loop23 : ∀ (nL9 : Nat) (e : Nat) (h1 : HH), (e ≤ sE σ) → (MSp σ c D y h6 h1 e) → sE σ - e < nL9 → Z mX6_measures g 23 [vr 47, vi (c : Int), vi 2, vi (e : Int), vx, vx, vx, vx, vx, vx, vx] [] h1 Q := by
      intro nL9
      induction nL9 with
      | zero => intro e h1 he L hnL9; exact absurd hnL9 (Nat.not_lt_zero _)
      | succ nL9 ih23 =>
        intro e h1 he L hnL9
        refine z_iload_n dX6_measures_23 rfl ?_
        refine z_aload_n dX6_measures_24 rfl ?_
        refine z_getR fX6_7 dX6_measures_25 (by decide) rfl rfl ?_
        refine z_iconst dX6_measures_28 ?_
        refine z_iaload dX6_measures_29 (by decide) rfl (by omega) (by omega) (by first | decide | omega) (fun r29 => ?_)
        have R1 := L.rm Rh
        rw [show h1 48 (Int.toNat 1) = sE σ from rm_E R1]
        refine z_icmp_ge 195 dX6_measures_30 (by decide) (by omega) (by omega) (fun c30 => ?_) (fun c30 => ?_)
        · exact z_return dX6_measures_195 rfl (hQ _ _ ⟨rfl, ⟨hF.tr L.rf, D, y, hV, hB, by rw [show sE σ = e from by omega]; exact L.2.2⟩⟩)
        · refine z_aload_n dX6_measures_33 rfl ?_
          refine z_getR fX6_7 dX6_measures_34 (by decide) rfl rfl ?_
          refine z_bipush dX6_measures_37 (by decide) ?_
          refine z_bipush dX6_measures_39 (by decide) ?_
          refine z_iload_n dX6_measures_41 rfl ?_
          refine z_imul dX6_measures_42 ?_
          refine z_iadd dX6_measures_43 ?_
          refine z_iload_n dX6_measures_44 rfl ?_
          refine z_iadd dX6_measures_45 ?_
          refine z_iaload dX6_measures_46 (by decide) rfl (by omega) (by omega) (by first | decide | omega) (fun r46 => ?_)
          rw [rm_ch R1 hc (e := e) (by omega) (z := 45 + 6 * (c : Int) + (e : Int)) (by omega)]
          have c9 := W.2.2.2.2.2 c e hc (by omega)
          refine z_istore dX6_measures_47 (by decide) rfl ?_
          refine z_iload_n dX6_measures_49 rfl ?_
          refine z_iconst dX6_measures_50 ?_
          refine z_icmp_ne 64 dX6_measures_51 (by decide) (by omega) (by omega) (fun c51 => ?_) (fun c51 => ?_)
          · refine z_iload dX6_measures_64 rfl ?_
            refine z_i2l dX6_measures_66 (by omega) ?_
            refine z_aload_n dX6_measures_67 rfl ?_
            refine z_getR fX6_36 dX6_measures_68 (by decide) rfl rfl ?_
            refine z_iload_n dX6_measures_71 rfl ?_
            refine z_laload dX6_measures_72 (by decide) rfl (by omega) (by omega) (by first | decide | omega) (fun r72 => ?_)
            rw [show h1 56 (e : Int).toNat = h6 56 e from by rw [L.1 56 (by decide)]; rfl]
            refine z_lmul dX6_measures_73 ?_
            refine z_lstore dX6_measures_74 (by decide) rfl ?_
            refine z_iload_n dX6_measures_76 rfl ?_
            refine z_iconst dX6_measures_77 ?_
            refine z_icmp_ne 85 dX6_measures_78 (by decide) (by omega) (by omega) (fun c78 => ?_) (fun c78 => ?_)
            · refine z_aload_n dX6_measures_85 rfl ?_
              refine z_getR fX6_39 dX6_measures_86 (by decide) rfl rfl ?_
              refine z_iload_n dX6_measures_89 rfl ?_
              refine z_laload dX6_measures_90 (by decide) rfl (by omega) (by omega) (by first | decide | omega) (fun r90 => ?_)
              rw [show h1 57 (e : Int).toNat = h6 57 e from by rw [L.1 57 (by decide)]; rfl]
              refine z_aload_n dX6_measures_91 rfl ?_
              refine z_getR fX6_7 dX6_measures_92 (by decide) rfl rfl ?_
              refine z_iconst dX6_measures_95 ?_
              refine z_iload_n dX6_measures_96 rfl ?_
              refine z_callS_eI (M := mX6_measures) [_, _, _] tX6_weight kX6_81 dX6_measures_97 ⟨by decide, by decide⟩ rfl (Nat.le_of_ble_eq_true rfl) rfl (c_X6_weightE isB48 W.wb R1 (e := e) (by omega)) ?_
              have w9 := W.2.2.2.1 e (by omega)
              refine z_i2l dX6_measures_100 (by omega) ?_
              refine z_lmul dX6_measures_101 ?_
              refine z_lstore dX6_measures_102 (by decide) rfl ?_
              have lw : LW (y e) D (h6 56 e) (h6 57 e) := hL e (by omega)
              have al := ms_all W hc (show e < sE σ by omega) d0 hB yb L.2.2 lw
              obtain ⟨al1, al2, al3, al4, al5⟩ := al
              refine z_aload_n dX6_measures_104 rfl ?_
              refine z_getJ fX6_366 dX6_measures_105 (by decide) rfl rfl (fun r105 => ?_)
              refine z_lload dX6_measures_108 rfl ?_
              refine z_callS_eL (M := mX6_measures) [_, _] tX6_gcd kX6_117 dX6_measures_110 ⟨by decide, by decide⟩ rfl (Nat.le_of_ble_eq_true rfl) rfl (c_X6_gcd (by omega) (by omega)) ?_
              refine z_lstore dX6_measures_113 (by decide) rfl ?_
              refine z_aload_n dX6_measures_115 rfl ?_
              refine z_aload_n dX6_measures_116 rfl ?_
              refine z_getJ fX6_363 dX6_measures_117 (by decide) rfl rfl (fun r117 => ?_)
              refine z_lload dX6_measures_120 rfl ?_
              refine z_lload dX6_measures_122 rfl ?_
              refine z_ldiv dX6_measures_124 (by omega) (by omega) (by omega) ?_
              refine z_lmul dX6_measures_125 ?_
              refine z_lload dX6_measures_126 rfl ?_
              refine z_aload_n dX6_measures_128 rfl ?_
              refine z_getJ fX6_366 dX6_measures_129 (by decide) rfl rfl (fun r129 => ?_)
              refine z_lload dX6_measures_132 rfl ?_
              refine z_ldiv dX6_measures_134 (by omega) (by omega) (by omega) ?_
              refine z_lmul dX6_measures_135 ?_
              refine z_ladd dX6_measures_136 ?_
              obtain ⟨A', hA'⟩ : ∃ A', A' = h1 47 22 * (h6 57 e * (sew σ e : Int)).tdiv (Int.gcd (h1 47 23) (h6 57 e * (sew σ e : Int))) + sch σ c e * h6 56 e * (h1 47 23).tdiv (Int.gcd (h1 47 23) (h6 57 e * (sew σ e : Int))) := ⟨_, rfl⟩
              rw [← hA']
              obtain ⟨B', hB'⟩ : ∃ B', B' = (h1 47 23).tdiv (Int.gcd (h1 47 23) (h6 57 e * (sew σ e : Int))) * (h6 57 e * (sew σ e : Int)) := ⟨_, rfl⟩
              obtain ⟨a1, a2, a3⟩ := al5 A' B' hA' hB'
              refine z_putJ pX6_363 dX6_measures_137 (by decide) rfl rfl (by omega) ?_
              refine z_aload_n dX6_measures_140 rfl ?_
              refine z_aload_n dX6_measures_141 rfl ?_
              refine z_getJ fX6_366 dX6_measures_142 (by decide) rfl rfl (fun r142 => ?_)
              refine z_lload dX6_measures_145 rfl ?_
              rw [show (up h1 47 22 A') 47 23 = h1 47 23 from up_o _ _ (by decide)]
              refine z_ldiv dX6_measures_147 (by omega) (by omega) (by omega) ?_
              refine z_lload dX6_measures_148 rfl ?_
              refine z_lmul dX6_measures_150 ?_
              rw [← hB']
              refine z_putJ pX6_366 dX6_measures_151 (by decide) rfl rfl (by omega) ?_
              refine z_aload_n dX6_measures_154 rfl ?_
              refine z_getJ fX6_363 dX6_measures_155 (by decide) rfl rfl (fun r155 => ?_)
              refine z_aload_n dX6_measures_158 rfl ?_
              refine z_getJ fX6_366 dX6_measures_159 (by decide) rfl rfl (fun r159 => ?_)
              rw [show (up (up h1 47 22 A') 47 23 B') 47 22 = A' from by rw [up_o _ _ (by decide), up_same], show (up (up h1 47 22 A') 47 23 B') 47 23 = B' from up_same _ _ _ _]
              refine z_callS_eL (M := mX6_measures) [_, _] tX6_gcd kX6_117 dX6_measures_162 ⟨by decide, by decide⟩ rfl (Nat.le_of_ble_eq_true rfl) rfl (c_X6_gcd (by omega) (by omega)) ?_
              refine z_lstore dX6_measures_165 (by decide) rfl ?_
              refine z_aload_n dX6_measures_167 rfl ?_
              refine z_dup dX6_measures_168 rfl ?_
              refine z_getJ fX6_363 dX6_measures_169 (by decide) rfl rfl (fun r169 => ?_)
              refine z_lload dX6_measures_172 rfl ?_
              rw [show (up (up h1 47 22 A') 47 23 B') 47 22 = A' from by rw [up_o _ _ (by decide), up_same]]
              have g2 := gcd_b (a := A') (b := B') (by omega)
              refine z_ldiv dX6_measures_174 (by omega) (by omega) (by omega) ?_
              refine z_putJ pX6_363 dX6_measures_175 (by decide) rfl rfl (tdiv_b (by omega)) ?_
              refine z_aload_n dX6_measures_178 rfl ?_
              refine z_dup dX6_measures_179 rfl ?_
              refine z_getJ fX6_366 dX6_measures_180 (by decide) rfl rfl (fun r180 => ?_)
              rw [show (up (up (up h1 47 22 A') 47 23 B') 47 22 (A'.tdiv (Int.gcd A' B'))) 47 23 = B' from by rw [up_o _ _ (by decide), up_same]]
              refine z_lload dX6_measures_183 rfl ?_
              refine z_ldiv dX6_measures_185 (by omega) (by omega) (by omega) ?_
              refine z_putJ pX6_366 dX6_measures_186 (by decide) rfl rfl (tdiv_b (by omega)) ?_
              refine z_iinc dX6_measures_189 rfl (by decide) rfl ?_
              refine z_goto 23 dX6_measures_192 (by decide) ?_
              refine z_forget 4 ?_
              refine z_forget 5 ?_
              refine z_forget 7 ?_
              refine z_forget 9 ?_
              exact ih23 (e + 1) _ (by omega) (L.put a3) (by omega)
            · omega
          · omega
    exact loop23 _ 0 _ (by omega) (MSp.init h6) (Nat.lt_succ_self _)
set_option maxRecDepth 100000 in
set_option maxHeartbeats 4000000 in
theorem c_X6_measures3 {g : GG} {h : HH} {σ : SG} (W : WF σ) (R : RM (h 48) σ) {c : Nat} (hc : c < 3) : CnV mX6_measures g [vr 47, vi (c : Int), vi 3] h (fun h' => MSh σ c 3 h h') := by
  refine cn_q (lv := [vr 47, vi (c : Int), vi 3, vx, vx, vx, vx, vx, vx, vx, vx]) tX6_measures.1 rfl rfl (fun hR Q hQ => ?_)
  have w1 := W.1
  have w2 := W.2.1
  have w3 := W.2.2.1
  have hF := RFm.rfl h
  have hV : PartV σ c 3 1 (sch σ c) := pv3.mpr ⟨rfl, fun _ _ => rfl⟩
  have hB : (1 : Int).natAbs ≤ 2 ^ 41 := by decide
  refine z_iload_n dX6_measures_0 rfl ?_
  refine z_iconst dX6_measures_1 ?_
  refine z_icmp_ge 11 dX6_measures_2 (by decide) (by omega) (by omega) (fun c2 => ?_) (fun c2 => ?_)
  · refine z_aload_n dX6_measures_11 rfl ?_
    refine z_lconst (z := 0) dX6_measures_12 rfl ?_
    refine z_putJ pX6_363 dX6_measures_13 (by decide) rfl rfl (by omega) ?_
    refine z_aload_n dX6_measures_16 rfl ?_
    refine z_lconst (z := 1) dX6_measures_17 rfl ?_
    refine z_putJ pX6_366 dX6_measures_18 (by decide) rfl rfl (by omega) ?_
    have Rh := hF.rm R
    have d0 := pv_d (by decide) hV
    have yb := (pv_b W hc (by decide) hV).2.2
    refine z_iconst dX6_measures_21 ?_
    refine z_istore_n dX6_measures_22 (by decide) rfl ?_
    have loop23 : ∀ (nL9 : Nat) (e : Nat) (h1 : HH), (e ≤ sE σ) → (MSp σ c 1 (sch σ c) h h1 e) → sE σ - e < nL9 → Z mX6_measures g 23 [vr 47, vi (c : Int), vi 3, vi (e : Int), vx, vx, vx, vx, vx, vx, vx] [] h1 Q := by
      intro nL9
      induction nL9 with
      | zero => intro e h1 he L hnL9; exact absurd hnL9 (Nat.not_lt_zero _)
      | succ nL9 ih23 =>
        intro e h1 he L hnL9
        refine z_iload_n dX6_measures_23 rfl ?_
        refine z_aload_n dX6_measures_24 rfl ?_
        refine z_getR fX6_7 dX6_measures_25 (by decide) rfl rfl ?_
        refine z_iconst dX6_measures_28 ?_
        refine z_iaload dX6_measures_29 (by decide) rfl (by omega) (by omega) (by first | decide | omega) (fun r29 => ?_)
        have R1 := L.rm Rh
        rw [show h1 48 (Int.toNat 1) = sE σ from rm_E R1]
        refine z_icmp_ge 195 dX6_measures_30 (by decide) (by omega) (by omega) (fun c30 => ?_) (fun c30 => ?_)
        · exact z_return dX6_measures_195 rfl (hQ _ _ ⟨rfl, ⟨hF.tr L.rf, 1, (sch σ c), hV, hB, by rw [show sE σ = e from by omega]; exact L.2.2⟩⟩)
        · refine z_aload_n dX6_measures_33 rfl ?_
          refine z_getR fX6_7 dX6_measures_34 (by decide) rfl rfl ?_
          refine z_bipush dX6_measures_37 (by decide) ?_
          refine z_bipush dX6_measures_39 (by decide) ?_
          refine z_iload_n dX6_measures_41 rfl ?_
          refine z_imul dX6_measures_42 ?_
          refine z_iadd dX6_measures_43 ?_
          refine z_iload_n dX6_measures_44 rfl ?_
          refine z_iadd dX6_measures_45 ?_
          refine z_iaload dX6_measures_46 (by decide) rfl (by omega) (by omega) (by first | decide | omega) (fun r46 => ?_)
          rw [rm_ch R1 hc (e := e) (by omega) (z := 45 + 6 * (c : Int) + (e : Int)) (by omega)]
          have c9 := W.2.2.2.2.2 c e hc (by omega)
          refine z_istore dX6_measures_47 (by decide) rfl ?_
          refine z_iload_n dX6_measures_49 rfl ?_
          refine z_iconst dX6_measures_50 ?_
          refine z_icmp_ne 64 dX6_measures_51 (by decide) (by omega) (by omega) (fun c51 => ?_) (fun c51 => ?_)
          · omega
          · refine z_iload dX6_measures_54 rfl ?_
            refine z_i2l dX6_measures_56 (by omega) ?_
            refine z_iload dX6_measures_57 rfl ?_
            refine z_i2l dX6_measures_59 (by omega) ?_
            refine z_lmul dX6_measures_60 ?_
            refine z_goto 74 dX6_measures_61 (by decide) ?_
            refine z_lstore dX6_measures_74 (by decide) rfl ?_
            refine z_iload_n dX6_measures_76 rfl ?_
            refine z_iconst dX6_measures_77 ?_
            refine z_icmp_ne 85 dX6_measures_78 (by decide) (by omega) (by omega) (fun c78 => ?_) (fun c78 => ?_)
            · omega
            · refine z_lconst (z := 1) dX6_measures_81 rfl ?_
              refine z_goto 91 dX6_measures_82 (by decide) ?_
              refine z_aload_n dX6_measures_91 rfl ?_
              refine z_getR fX6_7 dX6_measures_92 (by decide) rfl rfl ?_
              refine z_iconst dX6_measures_95 ?_
              refine z_iload_n dX6_measures_96 rfl ?_
              refine z_callS_eI (M := mX6_measures) [_, _, _] tX6_weight kX6_81 dX6_measures_97 ⟨by decide, by decide⟩ rfl (Nat.le_of_ble_eq_true rfl) rfl (c_X6_weightE isB48 W.wb R1 (e := e) (by omega)) ?_
              have w9 := W.2.2.2.1 e (by omega)
              refine z_i2l dX6_measures_100 (by omega) ?_
              refine z_lmul dX6_measures_101 ?_
              refine z_lstore dX6_measures_102 (by decide) rfl ?_
              have lw : LW ((sch σ c) e) 1 (sch σ c e) 1 := ⟨by decide, by simp, rfl⟩
              have al := ms_all W hc (show e < sE σ by omega) d0 hB yb L.2.2 lw
              obtain ⟨al1, al2, al3, al4, al5⟩ := al
              refine z_aload_n dX6_measures_104 rfl ?_
              refine z_getJ fX6_366 dX6_measures_105 (by decide) rfl rfl (fun r105 => ?_)
              refine z_lload dX6_measures_108 rfl ?_
              refine z_callS_eL (M := mX6_measures) [_, _] tX6_gcd kX6_117 dX6_measures_110 ⟨by decide, by decide⟩ rfl (Nat.le_of_ble_eq_true rfl) rfl (c_X6_gcd (by omega) (by omega)) ?_
              refine z_lstore dX6_measures_113 (by decide) rfl ?_
              refine z_aload_n dX6_measures_115 rfl ?_
              refine z_aload_n dX6_measures_116 rfl ?_
              refine z_getJ fX6_363 dX6_measures_117 (by decide) rfl rfl (fun r117 => ?_)
              refine z_lload dX6_measures_120 rfl ?_
              refine z_lload dX6_measures_122 rfl ?_
              refine z_ldiv dX6_measures_124 (by omega) (by omega) (by omega) ?_
              refine z_lmul dX6_measures_125 ?_
              refine z_lload dX6_measures_126 rfl ?_
              refine z_aload_n dX6_measures_128 rfl ?_
              refine z_getJ fX6_366 dX6_measures_129 (by decide) rfl rfl (fun r129 => ?_)
              refine z_lload dX6_measures_132 rfl ?_
              refine z_ldiv dX6_measures_134 (by omega) (by omega) (by omega) ?_
              refine z_lmul dX6_measures_135 ?_
              refine z_ladd dX6_measures_136 ?_
              obtain ⟨A', hA'⟩ : ∃ A', A' = h1 47 22 * (1 * (sew σ e : Int)).tdiv (Int.gcd (h1 47 23) (1 * (sew σ e : Int))) + sch σ c e * sch σ c e * (h1 47 23).tdiv (Int.gcd (h1 47 23) (1 * (sew σ e : Int))) := ⟨_, rfl⟩
              rw [← hA']
              obtain ⟨B', hB'⟩ : ∃ B', B' = (h1 47 23).tdiv (Int.gcd (h1 47 23) (1 * (sew σ e : Int))) * (1 * (sew σ e : Int)) := ⟨_, rfl⟩
              obtain ⟨a1, a2, a3⟩ := al5 A' B' hA' hB'
              refine z_putJ pX6_363 dX6_measures_137 (by decide) rfl rfl (by omega) ?_
              refine z_aload_n dX6_measures_140 rfl ?_
              refine z_aload_n dX6_measures_141 rfl ?_
              refine z_getJ fX6_366 dX6_measures_142 (by decide) rfl rfl (fun r142 => ?_)
              refine z_lload dX6_measures_145 rfl ?_
              rw [show (up h1 47 22 A') 47 23 = h1 47 23 from up_o _ _ (by decide)]
              refine z_ldiv dX6_measures_147 (by omega) (by omega) (by omega) ?_
              refine z_lload dX6_measures_148 rfl ?_
              refine z_lmul dX6_measures_150 ?_
              rw [← hB']
              refine z_putJ pX6_366 dX6_measures_151 (by decide) rfl rfl (by omega) ?_
              refine z_aload_n dX6_measures_154 rfl ?_
              refine z_getJ fX6_363 dX6_measures_155 (by decide) rfl rfl (fun r155 => ?_)
              refine z_aload_n dX6_measures_158 rfl ?_
              refine z_getJ fX6_366 dX6_measures_159 (by decide) rfl rfl (fun r159 => ?_)
              rw [show (up (up h1 47 22 A') 47 23 B') 47 22 = A' from by rw [up_o _ _ (by decide), up_same], show (up (up h1 47 22 A') 47 23 B') 47 23 = B' from up_same _ _ _ _]
              refine z_callS_eL (M := mX6_measures) [_, _] tX6_gcd kX6_117 dX6_measures_162 ⟨by decide, by decide⟩ rfl (Nat.le_of_ble_eq_true rfl) rfl (c_X6_gcd (by omega) (by omega)) ?_
              refine z_lstore dX6_measures_165 (by decide) rfl ?_
              refine z_aload_n dX6_measures_167 rfl ?_
              refine z_dup dX6_measures_168 rfl ?_
              refine z_getJ fX6_363 dX6_measures_169 (by decide) rfl rfl (fun r169 => ?_)
              refine z_lload dX6_measures_172 rfl ?_
              rw [show (up (up h1 47 22 A') 47 23 B') 47 22 = A' from by rw [up_o _ _ (by decide), up_same]]
              have g2 := gcd_b (a := A') (b := B') (by omega)
              refine z_ldiv dX6_measures_174 (by omega) (by omega) (by omega) ?_
              refine z_putJ pX6_363 dX6_measures_175 (by decide) rfl rfl (tdiv_b (by omega)) ?_
              refine z_aload_n dX6_measures_178 rfl ?_
              refine z_dup dX6_measures_179 rfl ?_
              refine z_getJ fX6_366 dX6_measures_180 (by decide) rfl rfl (fun r180 => ?_)
              rw [show (up (up (up h1 47 22 A') 47 23 B') 47 22 (A'.tdiv (Int.gcd A' B'))) 47 23 = B' from by rw [up_o _ _ (by decide), up_same]]
              refine z_lload dX6_measures_183 rfl ?_
              refine z_ldiv dX6_measures_185 (by omega) (by omega) (by omega) ?_
              refine z_putJ pX6_366 dX6_measures_186 (by decide) rfl rfl (tdiv_b (by omega)) ?_
              refine z_iinc dX6_measures_189 rfl (by decide) rfl ?_
              refine z_goto 23 dX6_measures_192 (by decide) ?_
              refine z_forget 4 ?_
              refine z_forget 5 ?_
              refine z_forget 7 ?_
              refine z_forget 9 ?_
              exact ih23 (e + 1) _ (by omega) (L.put a3) (by omega)
    exact loop23 _ 0 _ (by omega) (MSp.init h) (Nat.lt_succ_self _)
  · omega
set_option maxRecDepth 100000 in
set_option maxHeartbeats 4000000 in
theorem c_X6_lengthS {g : GG} {h : HH} {σ : SG} (W : WF σ) (R : RM (h 48) σ) {c p w : Int} (hc : R32 c) (hp : R32 p) (hw : R32 w) (h0 : sP σ = 0) : CeL mX6_length g [vr 47, vi c, vi p, vi w] h kSTATE := by
  refine cn_q (lv := [vr 47, vi c, vi p, vi w]) tX6_length.1 rfl rfl (fun hR Q hQ => ?_)
  refine z_aload_n dX6_length_0 rfl ?_
  refine z_callV_eI (M := mX6_length) [] tX6_isComplex kX6_244 dX6_length_1 ⟨by decide, rfl, _, _, rfl⟩ ⟨by decide, by decide⟩ rfl (Nat.le_of_ble_eq_true rfl) rfl (c_X6_isComplex W.wb R) ?_
  refine z_if_ne 11 dX6_length_4 (by decide) (bi_r _) (fun c4 => ?_) (fun c4 => ?_)
  · have c4 := bi_ne.mp c4
    omega
  · have c4 := bi_eq.mp c4
    refine z_ldc2 (-1000002) dX6_length_7 qX6_369 rfl ?_
    exact z_lreturn dX6_length_10 rfl (hQ _ _ ⟨_, rfl, rfl, rfl⟩)
set_option maxRecDepth 100000 in
set_option maxHeartbeats 4000000 in
theorem c_X6_lengthO {g : GG} {h : HH} {σ : SG} (W : WF σ) (R : RM (h 48) σ) {c p w : Int} (hc : R32 c) (hp : R32 p) (hw : R32 w) (h0 : 0 < sP σ) (ho : ¬ (0 ≤ c ∧ c < 3 ∧ 0 ≤ p ∧ p ≤ 3 ∧ 0 ≤ w ∧ w ≤ 1)) : CeL mX6_length g [vr 47, vi c, vi p, vi w] h kBAD := by
  refine cn_q (lv := [vr 47, vi c, vi p, vi w]) tX6_length.1 rfl rfl (fun hR Q hQ => ?_)
  refine z_aload_n dX6_length_0 rfl ?_
  refine z_callV_eI (M := mX6_length) [] tX6_isComplex kX6_244 dX6_length_1 ⟨by decide, rfl, _, _, rfl⟩ ⟨by decide, by decide⟩ rfl (Nat.le_of_ble_eq_true rfl) rfl (c_X6_isComplex W.wb R) ?_
  refine z_if_ne 11 dX6_length_4 (by decide) (bi_r _) (fun c4 => ?_) (fun c4 => ?_)
  · have c4 := bi_ne.mp c4
    refine z_iload_n dX6_length_11 rfl ?_
    refine z_i2l dX6_length_12 (by omega) ?_
    refine z_lconst (z := 0) dX6_length_13 rfl ?_
    refine z_ldc2 (2) dX6_length_14 qX6_242 rfl ?_
    refine z_callS_eI (M := mX6_length) [_, _, _] tX6_in kX6_150 dX6_length_17 ⟨by decide, by decide⟩ rfl (Nat.le_of_ble_eq_true rfl) rfl (c_X6_in (by omega) (by omega) (by omega)) ?_
    refine z_if_eq 45 dX6_length_20 (by decide) (bi_r _) (fun c20 => ?_) (fun c20 => ?_)
    · have c20 := bi_eq.mp c20
      refine z_ldc2 (-1000001) dX6_length_45 qX6_358 rfl ?_
      exact z_lreturn dX6_length_48 rfl (hQ _ _ ⟨_, rfl, rfl, rfl⟩)
    · have c20 := bi_ne.mp c20
      refine z_iload_n dX6_length_23 rfl ?_
      refine z_i2l dX6_length_24 (by omega) ?_
      refine z_lconst (z := 0) dX6_length_25 rfl ?_
      refine z_ldc2 (3) dX6_length_26 qX6_250 rfl ?_
      refine z_callS_eI (M := mX6_length) [_, _, _] tX6_in kX6_150 dX6_length_29 ⟨by decide, by decide⟩ rfl (Nat.le_of_ble_eq_true rfl) rfl (c_X6_in (by omega) (by omega) (by omega)) ?_
      refine z_if_eq 45 dX6_length_32 (by decide) (bi_r _) (fun c32 => ?_) (fun c32 => ?_)
      · have c32 := bi_eq.mp c32
        refine z_ldc2 (-1000001) dX6_length_45 qX6_358 rfl ?_
        exact z_lreturn dX6_length_48 rfl (hQ _ _ ⟨_, rfl, rfl, rfl⟩)
      · have c32 := bi_ne.mp c32
        refine z_iload_n dX6_length_35 rfl ?_
        refine z_i2l dX6_length_36 (by omega) ?_
        refine z_lconst (z := 0) dX6_length_37 rfl ?_
        refine z_lconst (z := 1) dX6_length_38 rfl ?_
        refine z_callS_eI (M := mX6_length) [_, _, _] tX6_in kX6_150 dX6_length_39 ⟨by decide, by decide⟩ rfl (Nat.le_of_ble_eq_true rfl) rfl (c_X6_in (by omega) (by omega) (by omega)) ?_
        refine z_if_ne 49 dX6_length_42 (by decide) (bi_r _) (fun c42 => ?_) (fun c42 => ?_)
        · have c42 := bi_ne.mp c42
          omega
        · have c42 := bi_eq.mp c42
          refine z_ldc2 (-1000001) dX6_length_45 qX6_358 rfl ?_
          exact z_lreturn dX6_length_48 rfl (hQ _ _ ⟨_, rfl, rfl, rfl⟩)
  · have c4 := bi_eq.mp c4
    omega
set_option maxRecDepth 100000 in
set_option maxHeartbeats 4000000 in
theorem c_X6_length00 {g : GG} {h : HH} {σ : SG} (W : WF σ) (R : RM (h 48) σ) {c : Nat} (hc : c < 3) (h0 : 0 < sP σ) : CnL mX6_length g [vr 47, vi (c : Int), vi 0, vi 0] h (fun z h' => RFm h h' ∧ LNz σ c 0 0 z) := by
  refine cn_q (lv := [vr 47, vi (c : Int), vi 0, vi 0]) tX6_length.1 rfl rfl (fun hR Q hQ => ?_)
  have w1 := W.1
  have w2 := W.2.1
  have w3 := W.2.2.1
  refine z_aload_n dX6_length_0 rfl ?_
  refine z_callV_eI (M := mX6_length) [] tX6_isComplex kX6_244 dX6_length_1 ⟨by decide, rfl, _, _, rfl⟩ ⟨by decide, by decide⟩ rfl (Nat.le_of_ble_eq_true rfl) rfl (c_X6_isComplex W.wb R) ?_
  refine z_if_ne 11 dX6_length_4 (by decide) (bi_r _) (fun c4 => ?_) (fun c4 => ?_)
  · have c4 := bi_ne.mp c4
    refine z_iload_n dX6_length_11 rfl ?_
    refine z_i2l dX6_length_12 (by omega) ?_
    refine z_lconst (z := 0) dX6_length_13 rfl ?_
    refine z_ldc2 (2) dX6_length_14 qX6_242 rfl ?_
    refine z_callS_eI (M := mX6_length) [_, _, _] tX6_in kX6_150 dX6_length_17 ⟨by decide, by decide⟩ rfl (Nat.le_of_ble_eq_true rfl) rfl (c_X6_in (by omega) (by omega) (by omega)) ?_
    refine z_if_eq 45 dX6_length_20 (by decide) (bi_r _) (fun c20 => ?_) (fun c20 => ?_)
    · have c20 := bi_eq.mp c20
      omega
    · have c20 := bi_ne.mp c20
      refine z_iload_n dX6_length_23 rfl ?_
      refine z_i2l dX6_length_24 (by omega) ?_
      refine z_lconst (z := 0) dX6_length_25 rfl ?_
      refine z_ldc2 (3) dX6_length_26 qX6_250 rfl ?_
      refine z_callS_eI (M := mX6_length) [_, _, _] tX6_in kX6_150 dX6_length_29 ⟨by decide, by decide⟩ rfl (Nat.le_of_ble_eq_true rfl) rfl (c_X6_in (by omega) (by omega) (by omega)) ?_
      refine z_if_eq 45 dX6_length_32 (by decide) (bi_r _) (fun c32 => ?_) (fun c32 => ?_)
      · have c32 := bi_eq.mp c32
        omega
      · have c32 := bi_ne.mp c32
        refine z_iload_n dX6_length_35 rfl ?_
        refine z_i2l dX6_length_36 (by omega) ?_
        refine z_lconst (z := 0) dX6_length_37 rfl ?_
        refine z_lconst (z := 1) dX6_length_38 rfl ?_
        refine z_callS_eI (M := mX6_length) [_, _, _] tX6_in kX6_150 dX6_length_39 ⟨by decide, by decide⟩ rfl (Nat.le_of_ble_eq_true rfl) rfl (c_X6_in (by omega) (by omega) (by omega)) ?_
        refine z_if_ne 49 dX6_length_42 (by decide) (bi_r _) (fun c42 => ?_) (fun c42 => ?_)
        · have c42 := bi_ne.mp c42
          refine z_aload_n dX6_length_49 rfl ?_
          refine z_iload_n dX6_length_50 rfl ?_
          refine z_iload_n dX6_length_51 rfl ?_
          refine z_callV_V (M := mX6_length) [_, _] tX6_measures kX6_371 dX6_length_52 ⟨by decide, rfl, _, _, rfl⟩ ⟨by decide, by decide⟩ rfl (Nat.le_of_ble_eq_true rfl) rfl (c_X6_measures0 W R hc) (fun h52 q52 => ?_)
          obtain ⟨hF, D, y, hV, hB, hL⟩ := q52
          refine z_iload_n dX6_length_55 rfl ?_
          refine z_if_ne 66 dX6_length_56 (by decide) (by omega) (fun c56 => ?_) (fun c56 => ?_)
          · omega
          · refine z_aload_n dX6_length_59 rfl ?_
            refine z_getJ fX6_363 dX6_length_60 (by decide) rfl rfl (fun r60 => ?_)
            refine z_goto 70 dX6_length_63 (by decide) ?_
            exact z_lreturn dX6_length_70 rfl (hQ _ _ ⟨_, rfl, ⟨hF, D, y, _, _, hV, hL, rfl⟩⟩)
        · have c42 := bi_eq.mp c42
          omega
  · have c4 := bi_eq.mp c4
    omega
set_option maxRecDepth 100000 in
set_option maxHeartbeats 4000000 in
theorem c_X6_length01 {g : GG} {h : HH} {σ : SG} (W : WF σ) (R : RM (h 48) σ) {c : Nat} (hc : c < 3) (h0 : 0 < sP σ) : CnL mX6_length g [vr 47, vi (c : Int), vi 0, vi 1] h (fun z h' => RFm h h' ∧ LNz σ c 0 1 z) := by
  refine cn_q (lv := [vr 47, vi (c : Int), vi 0, vi 1]) tX6_length.1 rfl rfl (fun hR Q hQ => ?_)
  have w1 := W.1
  have w2 := W.2.1
  have w3 := W.2.2.1
  refine z_aload_n dX6_length_0 rfl ?_
  refine z_callV_eI (M := mX6_length) [] tX6_isComplex kX6_244 dX6_length_1 ⟨by decide, rfl, _, _, rfl⟩ ⟨by decide, by decide⟩ rfl (Nat.le_of_ble_eq_true rfl) rfl (c_X6_isComplex W.wb R) ?_
  refine z_if_ne 11 dX6_length_4 (by decide) (bi_r _) (fun c4 => ?_) (fun c4 => ?_)
  · have c4 := bi_ne.mp c4
    refine z_iload_n dX6_length_11 rfl ?_
    refine z_i2l dX6_length_12 (by omega) ?_
    refine z_lconst (z := 0) dX6_length_13 rfl ?_
    refine z_ldc2 (2) dX6_length_14 qX6_242 rfl ?_
    refine z_callS_eI (M := mX6_length) [_, _, _] tX6_in kX6_150 dX6_length_17 ⟨by decide, by decide⟩ rfl (Nat.le_of_ble_eq_true rfl) rfl (c_X6_in (by omega) (by omega) (by omega)) ?_
    refine z_if_eq 45 dX6_length_20 (by decide) (bi_r _) (fun c20 => ?_) (fun c20 => ?_)
    · have c20 := bi_eq.mp c20
      omega
    · have c20 := bi_ne.mp c20
      refine z_iload_n dX6_length_23 rfl ?_
      refine z_i2l dX6_length_24 (by omega) ?_
      refine z_lconst (z := 0) dX6_length_25 rfl ?_
      refine z_ldc2 (3) dX6_length_26 qX6_250 rfl ?_
      refine z_callS_eI (M := mX6_length) [_, _, _] tX6_in kX6_150 dX6_length_29 ⟨by decide, by decide⟩ rfl (Nat.le_of_ble_eq_true rfl) rfl (c_X6_in (by omega) (by omega) (by omega)) ?_
      refine z_if_eq 45 dX6_length_32 (by decide) (bi_r _) (fun c32 => ?_) (fun c32 => ?_)
      · have c32 := bi_eq.mp c32
        omega
      · have c32 := bi_ne.mp c32
        refine z_iload_n dX6_length_35 rfl ?_
        refine z_i2l dX6_length_36 (by omega) ?_
        refine z_lconst (z := 0) dX6_length_37 rfl ?_
        refine z_lconst (z := 1) dX6_length_38 rfl ?_
        refine z_callS_eI (M := mX6_length) [_, _, _] tX6_in kX6_150 dX6_length_39 ⟨by decide, by decide⟩ rfl (Nat.le_of_ble_eq_true rfl) rfl (c_X6_in (by omega) (by omega) (by omega)) ?_
        refine z_if_ne 49 dX6_length_42 (by decide) (bi_r _) (fun c42 => ?_) (fun c42 => ?_)
        · have c42 := bi_ne.mp c42
          refine z_aload_n dX6_length_49 rfl ?_
          refine z_iload_n dX6_length_50 rfl ?_
          refine z_iload_n dX6_length_51 rfl ?_
          refine z_callV_V (M := mX6_length) [_, _] tX6_measures kX6_371 dX6_length_52 ⟨by decide, rfl, _, _, rfl⟩ ⟨by decide, by decide⟩ rfl (Nat.le_of_ble_eq_true rfl) rfl (c_X6_measures0 W R hc) (fun h52 q52 => ?_)
          obtain ⟨hF, D, y, hV, hB, hL⟩ := q52
          refine z_iload_n dX6_length_55 rfl ?_
          refine z_if_ne 66 dX6_length_56 (by decide) (by omega) (fun c56 => ?_) (fun c56 => ?_)
          · refine z_aload_n dX6_length_66 rfl ?_
            refine z_getJ fX6_366 dX6_length_67 (by decide) rfl rfl (fun r67 => ?_)
            exact z_lreturn dX6_length_70 rfl (hQ _ _ ⟨_, rfl, ⟨hF, D, y, _, _, hV, hL, rfl⟩⟩)
          · omega
        · have c42 := bi_eq.mp c42
          omega
  · have c4 := bi_eq.mp c4
    omega
set_option maxRecDepth 100000 in
set_option maxHeartbeats 4000000 in
theorem c_X6_length10 {g : GG} {h : HH} {σ : SG} (W : WF σ) (R : RM (h 48) σ) {c : Nat} (hc : c < 3) (h0 : 0 < sP σ) : CnL mX6_length g [vr 47, vi (c : Int), vi 1, vi 0] h (fun z h' => RFm h h' ∧ LNz σ c 1 0 z) := by
  refine cn_q (lv := [vr 47, vi (c : Int), vi 1, vi 0]) tX6_length.1 rfl rfl (fun hR Q hQ => ?_)
  have w1 := W.1
  have w2 := W.2.1
  have w3 := W.2.2.1
  refine z_aload_n dX6_length_0 rfl ?_
  refine z_callV_eI (M := mX6_length) [] tX6_isComplex kX6_244 dX6_length_1 ⟨by decide, rfl, _, _, rfl⟩ ⟨by decide, by decide⟩ rfl (Nat.le_of_ble_eq_true rfl) rfl (c_X6_isComplex W.wb R) ?_
  refine z_if_ne 11 dX6_length_4 (by decide) (bi_r _) (fun c4 => ?_) (fun c4 => ?_)
  · have c4 := bi_ne.mp c4
    refine z_iload_n dX6_length_11 rfl ?_
    refine z_i2l dX6_length_12 (by omega) ?_
    refine z_lconst (z := 0) dX6_length_13 rfl ?_
    refine z_ldc2 (2) dX6_length_14 qX6_242 rfl ?_
    refine z_callS_eI (M := mX6_length) [_, _, _] tX6_in kX6_150 dX6_length_17 ⟨by decide, by decide⟩ rfl (Nat.le_of_ble_eq_true rfl) rfl (c_X6_in (by omega) (by omega) (by omega)) ?_
    refine z_if_eq 45 dX6_length_20 (by decide) (bi_r _) (fun c20 => ?_) (fun c20 => ?_)
    · have c20 := bi_eq.mp c20
      omega
    · have c20 := bi_ne.mp c20
      refine z_iload_n dX6_length_23 rfl ?_
      refine z_i2l dX6_length_24 (by omega) ?_
      refine z_lconst (z := 0) dX6_length_25 rfl ?_
      refine z_ldc2 (3) dX6_length_26 qX6_250 rfl ?_
      refine z_callS_eI (M := mX6_length) [_, _, _] tX6_in kX6_150 dX6_length_29 ⟨by decide, by decide⟩ rfl (Nat.le_of_ble_eq_true rfl) rfl (c_X6_in (by omega) (by omega) (by omega)) ?_
      refine z_if_eq 45 dX6_length_32 (by decide) (bi_r _) (fun c32 => ?_) (fun c32 => ?_)
      · have c32 := bi_eq.mp c32
        omega
      · have c32 := bi_ne.mp c32
        refine z_iload_n dX6_length_35 rfl ?_
        refine z_i2l dX6_length_36 (by omega) ?_
        refine z_lconst (z := 0) dX6_length_37 rfl ?_
        refine z_lconst (z := 1) dX6_length_38 rfl ?_
        refine z_callS_eI (M := mX6_length) [_, _, _] tX6_in kX6_150 dX6_length_39 ⟨by decide, by decide⟩ rfl (Nat.le_of_ble_eq_true rfl) rfl (c_X6_in (by omega) (by omega) (by omega)) ?_
        refine z_if_ne 49 dX6_length_42 (by decide) (bi_r _) (fun c42 => ?_) (fun c42 => ?_)
        · have c42 := bi_ne.mp c42
          refine z_aload_n dX6_length_49 rfl ?_
          refine z_iload_n dX6_length_50 rfl ?_
          refine z_iload_n dX6_length_51 rfl ?_
          refine z_callV_V (M := mX6_length) [_, _] tX6_measures kX6_371 dX6_length_52 ⟨by decide, rfl, _, _, rfl⟩ ⟨by decide, by decide⟩ rfl (Nat.le_of_ble_eq_true rfl) rfl (c_X6_measures1 W R hc) (fun h52 q52 => ?_)
          obtain ⟨hF, D, y, hV, hB, hL⟩ := q52
          refine z_iload_n dX6_length_55 rfl ?_
          refine z_if_ne 66 dX6_length_56 (by decide) (by omega) (fun c56 => ?_) (fun c56 => ?_)
          · omega
          · refine z_aload_n dX6_length_59 rfl ?_
            refine z_getJ fX6_363 dX6_length_60 (by decide) rfl rfl (fun r60 => ?_)
            refine z_goto 70 dX6_length_63 (by decide) ?_
            exact z_lreturn dX6_length_70 rfl (hQ _ _ ⟨_, rfl, ⟨hF, D, y, _, _, hV, hL, rfl⟩⟩)
        · have c42 := bi_eq.mp c42
          omega
  · have c4 := bi_eq.mp c4
    omega
set_option maxRecDepth 100000 in
set_option maxHeartbeats 4000000 in
theorem c_X6_length11 {g : GG} {h : HH} {σ : SG} (W : WF σ) (R : RM (h 48) σ) {c : Nat} (hc : c < 3) (h0 : 0 < sP σ) : CnL mX6_length g [vr 47, vi (c : Int), vi 1, vi 1] h (fun z h' => RFm h h' ∧ LNz σ c 1 1 z) := by
  refine cn_q (lv := [vr 47, vi (c : Int), vi 1, vi 1]) tX6_length.1 rfl rfl (fun hR Q hQ => ?_)
  have w1 := W.1
  have w2 := W.2.1
  have w3 := W.2.2.1
  refine z_aload_n dX6_length_0 rfl ?_
  refine z_callV_eI (M := mX6_length) [] tX6_isComplex kX6_244 dX6_length_1 ⟨by decide, rfl, _, _, rfl⟩ ⟨by decide, by decide⟩ rfl (Nat.le_of_ble_eq_true rfl) rfl (c_X6_isComplex W.wb R) ?_
  refine z_if_ne 11 dX6_length_4 (by decide) (bi_r _) (fun c4 => ?_) (fun c4 => ?_)
  · have c4 := bi_ne.mp c4
    refine z_iload_n dX6_length_11 rfl ?_
    refine z_i2l dX6_length_12 (by omega) ?_
    refine z_lconst (z := 0) dX6_length_13 rfl ?_
    refine z_ldc2 (2) dX6_length_14 qX6_242 rfl ?_
    refine z_callS_eI (M := mX6_length) [_, _, _] tX6_in kX6_150 dX6_length_17 ⟨by decide, by decide⟩ rfl (Nat.le_of_ble_eq_true rfl) rfl (c_X6_in (by omega) (by omega) (by omega)) ?_
    refine z_if_eq 45 dX6_length_20 (by decide) (bi_r _) (fun c20 => ?_) (fun c20 => ?_)
    · have c20 := bi_eq.mp c20
      omega
    · have c20 := bi_ne.mp c20
      refine z_iload_n dX6_length_23 rfl ?_
      refine z_i2l dX6_length_24 (by omega) ?_
      refine z_lconst (z := 0) dX6_length_25 rfl ?_
      refine z_ldc2 (3) dX6_length_26 qX6_250 rfl ?_
      refine z_callS_eI (M := mX6_length) [_, _, _] tX6_in kX6_150 dX6_length_29 ⟨by decide, by decide⟩ rfl (Nat.le_of_ble_eq_true rfl) rfl (c_X6_in (by omega) (by omega) (by omega)) ?_
      refine z_if_eq 45 dX6_length_32 (by decide) (bi_r _) (fun c32 => ?_) (fun c32 => ?_)
      · have c32 := bi_eq.mp c32
        omega
      · have c32 := bi_ne.mp c32
        refine z_iload_n dX6_length_35 rfl ?_
        refine z_i2l dX6_length_36 (by omega) ?_
        refine z_lconst (z := 0) dX6_length_37 rfl ?_
        refine z_lconst (z := 1) dX6_length_38 rfl ?_
        refine z_callS_eI (M := mX6_length) [_, _, _] tX6_in kX6_150 dX6_length_39 ⟨by decide, by decide⟩ rfl (Nat.le_of_ble_eq_true rfl) rfl (c_X6_in (by omega) (by omega) (by omega)) ?_
        refine z_if_ne 49 dX6_length_42 (by decide) (bi_r _) (fun c42 => ?_) (fun c42 => ?_)
        · have c42 := bi_ne.mp c42
          refine z_aload_n dX6_length_49 rfl ?_
          refine z_iload_n dX6_length_50 rfl ?_
          refine z_iload_n dX6_length_51 rfl ?_
          refine z_callV_V (M := mX6_length) [_, _] tX6_measures kX6_371 dX6_length_52 ⟨by decide, rfl, _, _, rfl⟩ ⟨by decide, by decide⟩ rfl (Nat.le_of_ble_eq_true rfl) rfl (c_X6_measures1 W R hc) (fun h52 q52 => ?_)
          obtain ⟨hF, D, y, hV, hB, hL⟩ := q52
          refine z_iload_n dX6_length_55 rfl ?_
          refine z_if_ne 66 dX6_length_56 (by decide) (by omega) (fun c56 => ?_) (fun c56 => ?_)
          · refine z_aload_n dX6_length_66 rfl ?_
            refine z_getJ fX6_366 dX6_length_67 (by decide) rfl rfl (fun r67 => ?_)
            exact z_lreturn dX6_length_70 rfl (hQ _ _ ⟨_, rfl, ⟨hF, D, y, _, _, hV, hL, rfl⟩⟩)
          · omega
        · have c42 := bi_eq.mp c42
          omega
  · have c4 := bi_eq.mp c4
    omega
set_option maxRecDepth 100000 in
set_option maxHeartbeats 4000000 in
theorem c_X6_length20 {g : GG} {h : HH} {σ : SG} (W : WF σ) (R : RM (h 48) σ) {c : Nat} (hc : c < 3) (h0 : 0 < sP σ) : CnL mX6_length g [vr 47, vi (c : Int), vi 2, vi 0] h (fun z h' => RFm h h' ∧ LNz σ c 2 0 z) := by
  refine cn_q (lv := [vr 47, vi (c : Int), vi 2, vi 0]) tX6_length.1 rfl rfl (fun hR Q hQ => ?_)
  have w1 := W.1
  have w2 := W.2.1
  have w3 := W.2.2.1
  refine z_aload_n dX6_length_0 rfl ?_
  refine z_callV_eI (M := mX6_length) [] tX6_isComplex kX6_244 dX6_length_1 ⟨by decide, rfl, _, _, rfl⟩ ⟨by decide, by decide⟩ rfl (Nat.le_of_ble_eq_true rfl) rfl (c_X6_isComplex W.wb R) ?_
  refine z_if_ne 11 dX6_length_4 (by decide) (bi_r _) (fun c4 => ?_) (fun c4 => ?_)
  · have c4 := bi_ne.mp c4
    refine z_iload_n dX6_length_11 rfl ?_
    refine z_i2l dX6_length_12 (by omega) ?_
    refine z_lconst (z := 0) dX6_length_13 rfl ?_
    refine z_ldc2 (2) dX6_length_14 qX6_242 rfl ?_
    refine z_callS_eI (M := mX6_length) [_, _, _] tX6_in kX6_150 dX6_length_17 ⟨by decide, by decide⟩ rfl (Nat.le_of_ble_eq_true rfl) rfl (c_X6_in (by omega) (by omega) (by omega)) ?_
    refine z_if_eq 45 dX6_length_20 (by decide) (bi_r _) (fun c20 => ?_) (fun c20 => ?_)
    · have c20 := bi_eq.mp c20
      omega
    · have c20 := bi_ne.mp c20
      refine z_iload_n dX6_length_23 rfl ?_
      refine z_i2l dX6_length_24 (by omega) ?_
      refine z_lconst (z := 0) dX6_length_25 rfl ?_
      refine z_ldc2 (3) dX6_length_26 qX6_250 rfl ?_
      refine z_callS_eI (M := mX6_length) [_, _, _] tX6_in kX6_150 dX6_length_29 ⟨by decide, by decide⟩ rfl (Nat.le_of_ble_eq_true rfl) rfl (c_X6_in (by omega) (by omega) (by omega)) ?_
      refine z_if_eq 45 dX6_length_32 (by decide) (bi_r _) (fun c32 => ?_) (fun c32 => ?_)
      · have c32 := bi_eq.mp c32
        omega
      · have c32 := bi_ne.mp c32
        refine z_iload_n dX6_length_35 rfl ?_
        refine z_i2l dX6_length_36 (by omega) ?_
        refine z_lconst (z := 0) dX6_length_37 rfl ?_
        refine z_lconst (z := 1) dX6_length_38 rfl ?_
        refine z_callS_eI (M := mX6_length) [_, _, _] tX6_in kX6_150 dX6_length_39 ⟨by decide, by decide⟩ rfl (Nat.le_of_ble_eq_true rfl) rfl (c_X6_in (by omega) (by omega) (by omega)) ?_
        refine z_if_ne 49 dX6_length_42 (by decide) (bi_r _) (fun c42 => ?_) (fun c42 => ?_)
        · have c42 := bi_ne.mp c42
          refine z_aload_n dX6_length_49 rfl ?_
          refine z_iload_n dX6_length_50 rfl ?_
          refine z_iload_n dX6_length_51 rfl ?_
          refine z_callV_V (M := mX6_length) [_, _] tX6_measures kX6_371 dX6_length_52 ⟨by decide, rfl, _, _, rfl⟩ ⟨by decide, by decide⟩ rfl (Nat.le_of_ble_eq_true rfl) rfl (c_X6_measures2 W R hc) (fun h52 q52 => ?_)
          obtain ⟨hF, D, y, hV, hB, hL⟩ := q52
          refine z_iload_n dX6_length_55 rfl ?_
          refine z_if_ne 66 dX6_length_56 (by decide) (by omega) (fun c56 => ?_) (fun c56 => ?_)
          · omega
          · refine z_aload_n dX6_length_59 rfl ?_
            refine z_getJ fX6_363 dX6_length_60 (by decide) rfl rfl (fun r60 => ?_)
            refine z_goto 70 dX6_length_63 (by decide) ?_
            exact z_lreturn dX6_length_70 rfl (hQ _ _ ⟨_, rfl, ⟨hF, D, y, _, _, hV, hL, rfl⟩⟩)
        · have c42 := bi_eq.mp c42
          omega
  · have c4 := bi_eq.mp c4
    omega
set_option maxRecDepth 100000 in
set_option maxHeartbeats 4000000 in
theorem c_X6_length21 {g : GG} {h : HH} {σ : SG} (W : WF σ) (R : RM (h 48) σ) {c : Nat} (hc : c < 3) (h0 : 0 < sP σ) : CnL mX6_length g [vr 47, vi (c : Int), vi 2, vi 1] h (fun z h' => RFm h h' ∧ LNz σ c 2 1 z) := by
  refine cn_q (lv := [vr 47, vi (c : Int), vi 2, vi 1]) tX6_length.1 rfl rfl (fun hR Q hQ => ?_)
  have w1 := W.1
  have w2 := W.2.1
  have w3 := W.2.2.1
  refine z_aload_n dX6_length_0 rfl ?_
  refine z_callV_eI (M := mX6_length) [] tX6_isComplex kX6_244 dX6_length_1 ⟨by decide, rfl, _, _, rfl⟩ ⟨by decide, by decide⟩ rfl (Nat.le_of_ble_eq_true rfl) rfl (c_X6_isComplex W.wb R) ?_
  refine z_if_ne 11 dX6_length_4 (by decide) (bi_r _) (fun c4 => ?_) (fun c4 => ?_)
  · have c4 := bi_ne.mp c4
    refine z_iload_n dX6_length_11 rfl ?_
    refine z_i2l dX6_length_12 (by omega) ?_
    refine z_lconst (z := 0) dX6_length_13 rfl ?_
    refine z_ldc2 (2) dX6_length_14 qX6_242 rfl ?_
    refine z_callS_eI (M := mX6_length) [_, _, _] tX6_in kX6_150 dX6_length_17 ⟨by decide, by decide⟩ rfl (Nat.le_of_ble_eq_true rfl) rfl (c_X6_in (by omega) (by omega) (by omega)) ?_
    refine z_if_eq 45 dX6_length_20 (by decide) (bi_r _) (fun c20 => ?_) (fun c20 => ?_)
    · have c20 := bi_eq.mp c20
      omega
    · have c20 := bi_ne.mp c20
      refine z_iload_n dX6_length_23 rfl ?_
      refine z_i2l dX6_length_24 (by omega) ?_
      refine z_lconst (z := 0) dX6_length_25 rfl ?_
      refine z_ldc2 (3) dX6_length_26 qX6_250 rfl ?_
      refine z_callS_eI (M := mX6_length) [_, _, _] tX6_in kX6_150 dX6_length_29 ⟨by decide, by decide⟩ rfl (Nat.le_of_ble_eq_true rfl) rfl (c_X6_in (by omega) (by omega) (by omega)) ?_
      refine z_if_eq 45 dX6_length_32 (by decide) (bi_r _) (fun c32 => ?_) (fun c32 => ?_)
      · have c32 := bi_eq.mp c32
        omega
      · have c32 := bi_ne.mp c32
        refine z_iload_n dX6_length_35 rfl ?_
        refine z_i2l dX6_length_36 (by omega) ?_
        refine z_lconst (z := 0) dX6_length_37 rfl ?_
        refine z_lconst (z := 1) dX6_length_38 rfl ?_
        refine z_callS_eI (M := mX6_length) [_, _, _] tX6_in kX6_150 dX6_length_39 ⟨by decide, by decide⟩ rfl (Nat.le_of_ble_eq_true rfl) rfl (c_X6_in (by omega) (by omega) (by omega)) ?_
        refine z_if_ne 49 dX6_length_42 (by decide) (bi_r _) (fun c42 => ?_) (fun c42 => ?_)
        · have c42 := bi_ne.mp c42
          refine z_aload_n dX6_length_49 rfl ?_
          refine z_iload_n dX6_length_50 rfl ?_
          refine z_iload_n dX6_length_51 rfl ?_
          refine z_callV_V (M := mX6_length) [_, _] tX6_measures kX6_371 dX6_length_52 ⟨by decide, rfl, _, _, rfl⟩ ⟨by decide, by decide⟩ rfl (Nat.le_of_ble_eq_true rfl) rfl (c_X6_measures2 W R hc) (fun h52 q52 => ?_)
          obtain ⟨hF, D, y, hV, hB, hL⟩ := q52
          refine z_iload_n dX6_length_55 rfl ?_
          refine z_if_ne 66 dX6_length_56 (by decide) (by omega) (fun c56 => ?_) (fun c56 => ?_)
          · refine z_aload_n dX6_length_66 rfl ?_
            refine z_getJ fX6_366 dX6_length_67 (by decide) rfl rfl (fun r67 => ?_)
            exact z_lreturn dX6_length_70 rfl (hQ _ _ ⟨_, rfl, ⟨hF, D, y, _, _, hV, hL, rfl⟩⟩)
          · omega
        · have c42 := bi_eq.mp c42
          omega
  · have c4 := bi_eq.mp c4
    omega
set_option maxRecDepth 100000 in
set_option maxHeartbeats 4000000 in
theorem c_X6_length30 {g : GG} {h : HH} {σ : SG} (W : WF σ) (R : RM (h 48) σ) {c : Nat} (hc : c < 3) (h0 : 0 < sP σ) : CnL mX6_length g [vr 47, vi (c : Int), vi 3, vi 0] h (fun z h' => RFm h h' ∧ LNz σ c 3 0 z) := by
  refine cn_q (lv := [vr 47, vi (c : Int), vi 3, vi 0]) tX6_length.1 rfl rfl (fun hR Q hQ => ?_)
  have w1 := W.1
  have w2 := W.2.1
  have w3 := W.2.2.1
  refine z_aload_n dX6_length_0 rfl ?_
  refine z_callV_eI (M := mX6_length) [] tX6_isComplex kX6_244 dX6_length_1 ⟨by decide, rfl, _, _, rfl⟩ ⟨by decide, by decide⟩ rfl (Nat.le_of_ble_eq_true rfl) rfl (c_X6_isComplex W.wb R) ?_
  refine z_if_ne 11 dX6_length_4 (by decide) (bi_r _) (fun c4 => ?_) (fun c4 => ?_)
  · have c4 := bi_ne.mp c4
    refine z_iload_n dX6_length_11 rfl ?_
    refine z_i2l dX6_length_12 (by omega) ?_
    refine z_lconst (z := 0) dX6_length_13 rfl ?_
    refine z_ldc2 (2) dX6_length_14 qX6_242 rfl ?_
    refine z_callS_eI (M := mX6_length) [_, _, _] tX6_in kX6_150 dX6_length_17 ⟨by decide, by decide⟩ rfl (Nat.le_of_ble_eq_true rfl) rfl (c_X6_in (by omega) (by omega) (by omega)) ?_
    refine z_if_eq 45 dX6_length_20 (by decide) (bi_r _) (fun c20 => ?_) (fun c20 => ?_)
    · have c20 := bi_eq.mp c20
      omega
    · have c20 := bi_ne.mp c20
      refine z_iload_n dX6_length_23 rfl ?_
      refine z_i2l dX6_length_24 (by omega) ?_
      refine z_lconst (z := 0) dX6_length_25 rfl ?_
      refine z_ldc2 (3) dX6_length_26 qX6_250 rfl ?_
      refine z_callS_eI (M := mX6_length) [_, _, _] tX6_in kX6_150 dX6_length_29 ⟨by decide, by decide⟩ rfl (Nat.le_of_ble_eq_true rfl) rfl (c_X6_in (by omega) (by omega) (by omega)) ?_
      refine z_if_eq 45 dX6_length_32 (by decide) (bi_r _) (fun c32 => ?_) (fun c32 => ?_)
      · have c32 := bi_eq.mp c32
        omega
      · have c32 := bi_ne.mp c32
        refine z_iload_n dX6_length_35 rfl ?_
        refine z_i2l dX6_length_36 (by omega) ?_
        refine z_lconst (z := 0) dX6_length_37 rfl ?_
        refine z_lconst (z := 1) dX6_length_38 rfl ?_
        refine z_callS_eI (M := mX6_length) [_, _, _] tX6_in kX6_150 dX6_length_39 ⟨by decide, by decide⟩ rfl (Nat.le_of_ble_eq_true rfl) rfl (c_X6_in (by omega) (by omega) (by omega)) ?_
        refine z_if_ne 49 dX6_length_42 (by decide) (bi_r _) (fun c42 => ?_) (fun c42 => ?_)
        · have c42 := bi_ne.mp c42
          refine z_aload_n dX6_length_49 rfl ?_
          refine z_iload_n dX6_length_50 rfl ?_
          refine z_iload_n dX6_length_51 rfl ?_
          refine z_callV_V (M := mX6_length) [_, _] tX6_measures kX6_371 dX6_length_52 ⟨by decide, rfl, _, _, rfl⟩ ⟨by decide, by decide⟩ rfl (Nat.le_of_ble_eq_true rfl) rfl (c_X6_measures3 W R hc) (fun h52 q52 => ?_)
          obtain ⟨hF, D, y, hV, hB, hL⟩ := q52
          refine z_iload_n dX6_length_55 rfl ?_
          refine z_if_ne 66 dX6_length_56 (by decide) (by omega) (fun c56 => ?_) (fun c56 => ?_)
          · omega
          · refine z_aload_n dX6_length_59 rfl ?_
            refine z_getJ fX6_363 dX6_length_60 (by decide) rfl rfl (fun r60 => ?_)
            refine z_goto 70 dX6_length_63 (by decide) ?_
            exact z_lreturn dX6_length_70 rfl (hQ _ _ ⟨_, rfl, ⟨hF, D, y, _, _, hV, hL, rfl⟩⟩)
        · have c42 := bi_eq.mp c42
          omega
  · have c4 := bi_eq.mp c4
    omega
set_option maxRecDepth 100000 in
set_option maxHeartbeats 4000000 in
theorem c_X6_length31 {g : GG} {h : HH} {σ : SG} (W : WF σ) (R : RM (h 48) σ) {c : Nat} (hc : c < 3) (h0 : 0 < sP σ) : CnL mX6_length g [vr 47, vi (c : Int), vi 3, vi 1] h (fun z h' => RFm h h' ∧ LNz σ c 3 1 z) := by
  refine cn_q (lv := [vr 47, vi (c : Int), vi 3, vi 1]) tX6_length.1 rfl rfl (fun hR Q hQ => ?_)
  have w1 := W.1
  have w2 := W.2.1
  have w3 := W.2.2.1
  refine z_aload_n dX6_length_0 rfl ?_
  refine z_callV_eI (M := mX6_length) [] tX6_isComplex kX6_244 dX6_length_1 ⟨by decide, rfl, _, _, rfl⟩ ⟨by decide, by decide⟩ rfl (Nat.le_of_ble_eq_true rfl) rfl (c_X6_isComplex W.wb R) ?_
  refine z_if_ne 11 dX6_length_4 (by decide) (bi_r _) (fun c4 => ?_) (fun c4 => ?_)
  · have c4 := bi_ne.mp c4
    refine z_iload_n dX6_length_11 rfl ?_
    refine z_i2l dX6_length_12 (by omega) ?_
    refine z_lconst (z := 0) dX6_length_13 rfl ?_
    refine z_ldc2 (2) dX6_length_14 qX6_242 rfl ?_
    refine z_callS_eI (M := mX6_length) [_, _, _] tX6_in kX6_150 dX6_length_17 ⟨by decide, by decide⟩ rfl (Nat.le_of_ble_eq_true rfl) rfl (c_X6_in (by omega) (by omega) (by omega)) ?_
    refine z_if_eq 45 dX6_length_20 (by decide) (bi_r _) (fun c20 => ?_) (fun c20 => ?_)
    · have c20 := bi_eq.mp c20
      omega
    · have c20 := bi_ne.mp c20
      refine z_iload_n dX6_length_23 rfl ?_
      refine z_i2l dX6_length_24 (by omega) ?_
      refine z_lconst (z := 0) dX6_length_25 rfl ?_
      refine z_ldc2 (3) dX6_length_26 qX6_250 rfl ?_
      refine z_callS_eI (M := mX6_length) [_, _, _] tX6_in kX6_150 dX6_length_29 ⟨by decide, by decide⟩ rfl (Nat.le_of_ble_eq_true rfl) rfl (c_X6_in (by omega) (by omega) (by omega)) ?_
      refine z_if_eq 45 dX6_length_32 (by decide) (bi_r _) (fun c32 => ?_) (fun c32 => ?_)
      · have c32 := bi_eq.mp c32
        omega
      · have c32 := bi_ne.mp c32
        refine z_iload_n dX6_length_35 rfl ?_
        refine z_i2l dX6_length_36 (by omega) ?_
        refine z_lconst (z := 0) dX6_length_37 rfl ?_
        refine z_lconst (z := 1) dX6_length_38 rfl ?_
        refine z_callS_eI (M := mX6_length) [_, _, _] tX6_in kX6_150 dX6_length_39 ⟨by decide, by decide⟩ rfl (Nat.le_of_ble_eq_true rfl) rfl (c_X6_in (by omega) (by omega) (by omega)) ?_
        refine z_if_ne 49 dX6_length_42 (by decide) (bi_r _) (fun c42 => ?_) (fun c42 => ?_)
        · have c42 := bi_ne.mp c42
          refine z_aload_n dX6_length_49 rfl ?_
          refine z_iload_n dX6_length_50 rfl ?_
          refine z_iload_n dX6_length_51 rfl ?_
          refine z_callV_V (M := mX6_length) [_, _] tX6_measures kX6_371 dX6_length_52 ⟨by decide, rfl, _, _, rfl⟩ ⟨by decide, by decide⟩ rfl (Nat.le_of_ble_eq_true rfl) rfl (c_X6_measures3 W R hc) (fun h52 q52 => ?_)
          obtain ⟨hF, D, y, hV, hB, hL⟩ := q52
          refine z_iload_n dX6_length_55 rfl ?_
          refine z_if_ne 66 dX6_length_56 (by decide) (by omega) (fun c56 => ?_) (fun c56 => ?_)
          · refine z_aload_n dX6_length_66 rfl ?_
            refine z_getJ fX6_366 dX6_length_67 (by decide) rfl rfl (fun r67 => ?_)
            exact z_lreturn dX6_length_70 rfl (hQ _ _ ⟨_, rfl, ⟨hF, D, y, _, _, hV, hL, rfl⟩⟩)
          · omega
        · have c42 := bi_eq.mp c42
          omega
  · have c4 := bi_eq.mp c4
    omega

set_option maxRecDepth 100000 in
set_option maxHeartbeats 4000000 in
theorem c_X5_partO {g : GG} {h : HH} {σ : SG} (W : WF σ) (C : RC (h 2) σ) {c p e w : Int} (hc : R32 c) (hp : R32 p) (he : R32 e) (hw : R32 w) (ho : ¬ (0 ≤ c ∧ c < 3 ∧ 0 ≤ p ∧ p ≤ 2 ∧ 0 ≤ e ∧ e < sE σ ∧ 0 ≤ w ∧ w ≤ 1)) : CeL mX5_part g [vr 0, vi c, vi p, vi e, vi w] h kBAD := by
  refine cn_q (lv := [vr 0, vi c, vi p, vi e, vi w]) tX5_part.1 rfl rfl (fun hR Q hQ => ?_)
  have w1 := W.1
  have w2 := W.2.1
  have w3 := W.2.2.1
  refine z_iload_n dX5_part_0 rfl ?_
  refine z_callS_eI (M := mX5_part) [_] tX5_isChain kX5_150 dX5_part_1 ⟨by decide, by decide⟩ rfl (Nat.le_of_ble_eq_true rfl) rfl (c_X5_isChain (by omega)) ?_
  refine z_if_eq 36 dX5_part_4 (by decide) (bi_r _) (fun c4 => ?_) (fun c4 => ?_)
  · have c4 := bi_eq.mp c4
    refine z_ldc2 (-1000001) dX5_part_36 qX5_232 rfl ?_
    exact z_lreturn dX5_part_39 rfl (hQ _ _ ⟨_, rfl, rfl, rfl⟩)
  · have c4 := bi_ne.mp c4
    refine z_iload_n dX5_part_7 rfl ?_
    refine z_if_lt 36 dX5_part_8 (by decide) (by omega) (fun c8 => ?_) (fun c8 => ?_)
    · refine z_ldc2 (-1000001) dX5_part_36 qX5_232 rfl ?_
      exact z_lreturn dX5_part_39 rfl (hQ _ _ ⟨_, rfl, rfl, rfl⟩)
    · refine z_iload_n dX5_part_11 rfl ?_
      refine z_iconst dX5_part_12 ?_
      refine z_icmp_gt 36 dX5_part_13 (by decide) (by omega) (by omega) (fun c13 => ?_) (fun c13 => ?_)
      · refine z_ldc2 (-1000001) dX5_part_36 qX5_232 rfl ?_
        exact z_lreturn dX5_part_39 rfl (hQ _ _ ⟨_, rfl, rfl, rfl⟩)
      · refine z_aload_n dX5_part_16 rfl ?_
        refine z_getR fX5_10 dX5_part_17 (by decide) rfl rfl ?_
        refine z_iconst dX5_part_20 ?_
        refine z_iload_n dX5_part_21 rfl ?_
        refine z_callV_eI (M := mX5_part) [_, _] tX0_hasCell kX5_127 dX5_part_22 ⟨by decide, rfl, _, _, rfl⟩ ⟨by decide, by decide⟩ rfl (Nat.le_of_ble_eq_true rfl) rfl (s_X0_has1 isC1 C (by omega)) ?_
        refine z_if_eq 36 dX5_part_25 (by decide) (bi_r _) (fun c25 => ?_) (fun c25 => ?_)
        · have c25 := bi_eq.mp c25
          refine z_ldc2 (-1000001) dX5_part_36 qX5_232 rfl ?_
          exact z_lreturn dX5_part_39 rfl (hQ _ _ ⟨_, rfl, rfl, rfl⟩)
        · have c25 := bi_ne.mp c25
          refine z_iload dX5_part_28 rfl ?_
          refine z_callS_eI (M := mX5_part) [_] tX5_isSide kX5_229 dX5_part_30 ⟨by decide, by decide⟩ rfl (Nat.le_of_ble_eq_true rfl) rfl (c_X5_isSide (by omega)) ?_
          refine z_if_ne 40 dX5_part_33 (by decide) (bi_r _) (fun c33 => ?_) (fun c33 => ?_)
          · have c33 := bi_ne.mp c33
            omega
          · have c33 := bi_eq.mp c33
            refine z_ldc2 (-1000001) dX5_part_36 qX5_232 rfl ?_
            exact z_lreturn dX5_part_39 rfl (hQ _ _ ⟨_, rfl, rfl, rfl⟩)
set_option maxRecDepth 100000 in
set_option maxHeartbeats 4000000 in
theorem c_X5_part00 {g : GG} {h : HH} {σ : SG} (W : WF σ) (C : RC (h 2) σ) {c e : Nat} (hc : c < 3) (he : e < sE σ) : CnL mX5_part g [vr 0, vi (c : Int), vi 0, vi (e : Int), vi 0] h (fun z h' => GS h h' ∧ PVz σ c 0 e 0 z) := by
  refine cn_q (lv := [vr 0, vi (c : Int), vi 0, vi (e : Int), vi 0]) tX5_part.1 rfl rfl (fun hR Q hQ => ?_)
  have w1 := W.1
  have w2 := W.2.1
  have w3 := W.2.2.1
  refine z_iload_n dX5_part_0 rfl ?_
  refine z_callS_eI (M := mX5_part) [_] tX5_isChain kX5_150 dX5_part_1 ⟨by decide, by decide⟩ rfl (Nat.le_of_ble_eq_true rfl) rfl (c_X5_isChain (by omega)) ?_
  refine z_if_eq 36 dX5_part_4 (by decide) (bi_r _) (fun c4 => ?_) (fun c4 => ?_)
  · have c4 := bi_eq.mp c4
    omega
  · have c4 := bi_ne.mp c4
    refine z_iload_n dX5_part_7 rfl ?_
    refine z_if_lt 36 dX5_part_8 (by decide) (by omega) (fun c8 => ?_) (fun c8 => ?_)
    · omega
    · refine z_iload_n dX5_part_11 rfl ?_
      refine z_iconst dX5_part_12 ?_
      refine z_icmp_gt 36 dX5_part_13 (by decide) (by omega) (by omega) (fun c13 => ?_) (fun c13 => ?_)
      · omega
      · refine z_aload_n dX5_part_16 rfl ?_
        refine z_getR fX5_10 dX5_part_17 (by decide) rfl rfl ?_
        refine z_iconst dX5_part_20 ?_
        refine z_iload_n dX5_part_21 rfl ?_
        refine z_callV_eI (M := mX5_part) [_, _] tX0_hasCell kX5_127 dX5_part_22 ⟨by decide, rfl, _, _, rfl⟩ ⟨by decide, by decide⟩ rfl (Nat.le_of_ble_eq_true rfl) rfl (s_X0_has1 isC1 C (by omega)) ?_
        refine z_if_eq 36 dX5_part_25 (by decide) (bi_r _) (fun c25 => ?_) (fun c25 => ?_)
        · have c25 := bi_eq.mp c25
          omega
        · have c25 := bi_ne.mp c25
          refine z_iload dX5_part_28 rfl ?_
          refine z_callS_eI (M := mX5_part) [_] tX5_isSide kX5_229 dX5_part_30 ⟨by decide, by decide⟩ rfl (Nat.le_of_ble_eq_true rfl) rfl (c_X5_isSide (by omega)) ?_
          refine z_if_ne 40 dX5_part_33 (by decide) (bi_r _) (fun c33 => ?_) (fun c33 => ?_)
          · have c33 := bi_ne.mp c33
            refine z_aload_n dX5_part_40 rfl ?_
            refine z_getR fX5_43 dX5_part_41 (by decide) rfl rfl ?_
            refine z_aload_n dX5_part_44 rfl ?_
            refine z_getR fX5_10 dX5_part_45 (by decide) rfl rfl ?_
            refine z_iload_n dX5_part_48 rfl ?_
            refine z_iload_n dX5_part_49 rfl ?_
            refine z_callV_V (M := mX5_part) [_, _, _] tX2_take kX5_234 dX5_part_50 ⟨by decide, rfl, _, _, rfl⟩ ⟨by decide, by decide⟩ rfl (Nat.le_of_ble_eq_true rfl) rfl (c_X2_take0 W C hc) (fun h50 q50 => ?_)
            obtain ⟨tG, tE, tM, D, y, hV, d0, dB, tD, tY⟩ := q50
            have pb := pv_b W hc (by decide) hV
            refine z_aload_n dX5_part_53 rfl ?_
            refine z_getR fX5_43 dX5_part_54 (by decide) rfl rfl ?_
            refine z_iload_n dX5_part_57 rfl ?_
            refine z_callV_eL (M := mX5_part) [_] tX2_aboveAt kX5_238 dX5_part_58 ⟨by decide, rfl, _, _, rfl⟩ ⟨by decide, by decide⟩ rfl (Nat.le_of_ble_eq_true rfl) rfl (c_X2_aboveAt (e := e) (by omega)) ?_
            rw [tY e he]
            have yb := pb.2.2 e he
            refine z_aload_n dX5_part_61 rfl ?_
            refine z_getR fX5_43 dX5_part_62 (by decide) rfl rfl ?_
            refine z_callV_eL (M := mX5_part) [] tX2_below kX5_241 dX5_part_65 ⟨by decide, rfl, _, _, rfl⟩ ⟨by decide, by decide⟩ rfl (Nat.le_of_ble_eq_true rfl) rfl c_X2_below ?_
            rw [tD]
            refine z_iload dX5_part_68 rfl ?_
            refine z_callS_eL (M := mX5_part) [_, _, _] tX5_lowestTerm kX5_245 dX5_part_70 ⟨by decide, by decide⟩ rfl (Nat.le_of_ble_eq_true rfl) rfl (c_X5_lowestTerm0 (a := y e) (b := D) (by omega) (by omega) (by omega)) ?_
            exact z_lreturn dX5_part_73 rfl (hQ _ _ ⟨_, rfl, ⟨tG, D, y, _, _, hV, LW.of d0, rfl⟩⟩)
          · have c33 := bi_eq.mp c33
            omega
set_option maxRecDepth 100000 in
set_option maxHeartbeats 4000000 in
theorem c_X5_part01 {g : GG} {h : HH} {σ : SG} (W : WF σ) (C : RC (h 2) σ) {c e : Nat} (hc : c < 3) (he : e < sE σ) : CnL mX5_part g [vr 0, vi (c : Int), vi 0, vi (e : Int), vi 1] h (fun z h' => GS h h' ∧ PVz σ c 0 e 1 z) := by
  refine cn_q (lv := [vr 0, vi (c : Int), vi 0, vi (e : Int), vi 1]) tX5_part.1 rfl rfl (fun hR Q hQ => ?_)
  have w1 := W.1
  have w2 := W.2.1
  have w3 := W.2.2.1
  refine z_iload_n dX5_part_0 rfl ?_
  refine z_callS_eI (M := mX5_part) [_] tX5_isChain kX5_150 dX5_part_1 ⟨by decide, by decide⟩ rfl (Nat.le_of_ble_eq_true rfl) rfl (c_X5_isChain (by omega)) ?_
  refine z_if_eq 36 dX5_part_4 (by decide) (bi_r _) (fun c4 => ?_) (fun c4 => ?_)
  · have c4 := bi_eq.mp c4
    omega
  · have c4 := bi_ne.mp c4
    refine z_iload_n dX5_part_7 rfl ?_
    refine z_if_lt 36 dX5_part_8 (by decide) (by omega) (fun c8 => ?_) (fun c8 => ?_)
    · omega
    · refine z_iload_n dX5_part_11 rfl ?_
      refine z_iconst dX5_part_12 ?_
      refine z_icmp_gt 36 dX5_part_13 (by decide) (by omega) (by omega) (fun c13 => ?_) (fun c13 => ?_)
      · omega
      · refine z_aload_n dX5_part_16 rfl ?_
        refine z_getR fX5_10 dX5_part_17 (by decide) rfl rfl ?_
        refine z_iconst dX5_part_20 ?_
        refine z_iload_n dX5_part_21 rfl ?_
        refine z_callV_eI (M := mX5_part) [_, _] tX0_hasCell kX5_127 dX5_part_22 ⟨by decide, rfl, _, _, rfl⟩ ⟨by decide, by decide⟩ rfl (Nat.le_of_ble_eq_true rfl) rfl (s_X0_has1 isC1 C (by omega)) ?_
        refine z_if_eq 36 dX5_part_25 (by decide) (bi_r _) (fun c25 => ?_) (fun c25 => ?_)
        · have c25 := bi_eq.mp c25
          omega
        · have c25 := bi_ne.mp c25
          refine z_iload dX5_part_28 rfl ?_
          refine z_callS_eI (M := mX5_part) [_] tX5_isSide kX5_229 dX5_part_30 ⟨by decide, by decide⟩ rfl (Nat.le_of_ble_eq_true rfl) rfl (c_X5_isSide (by omega)) ?_
          refine z_if_ne 40 dX5_part_33 (by decide) (bi_r _) (fun c33 => ?_) (fun c33 => ?_)
          · have c33 := bi_ne.mp c33
            refine z_aload_n dX5_part_40 rfl ?_
            refine z_getR fX5_43 dX5_part_41 (by decide) rfl rfl ?_
            refine z_aload_n dX5_part_44 rfl ?_
            refine z_getR fX5_10 dX5_part_45 (by decide) rfl rfl ?_
            refine z_iload_n dX5_part_48 rfl ?_
            refine z_iload_n dX5_part_49 rfl ?_
            refine z_callV_V (M := mX5_part) [_, _, _] tX2_take kX5_234 dX5_part_50 ⟨by decide, rfl, _, _, rfl⟩ ⟨by decide, by decide⟩ rfl (Nat.le_of_ble_eq_true rfl) rfl (c_X2_take0 W C hc) (fun h50 q50 => ?_)
            obtain ⟨tG, tE, tM, D, y, hV, d0, dB, tD, tY⟩ := q50
            have pb := pv_b W hc (by decide) hV
            refine z_aload_n dX5_part_53 rfl ?_
            refine z_getR fX5_43 dX5_part_54 (by decide) rfl rfl ?_
            refine z_iload_n dX5_part_57 rfl ?_
            refine z_callV_eL (M := mX5_part) [_] tX2_aboveAt kX5_238 dX5_part_58 ⟨by decide, rfl, _, _, rfl⟩ ⟨by decide, by decide⟩ rfl (Nat.le_of_ble_eq_true rfl) rfl (c_X2_aboveAt (e := e) (by omega)) ?_
            rw [tY e he]
            have yb := pb.2.2 e he
            refine z_aload_n dX5_part_61 rfl ?_
            refine z_getR fX5_43 dX5_part_62 (by decide) rfl rfl ?_
            refine z_callV_eL (M := mX5_part) [] tX2_below kX5_241 dX5_part_65 ⟨by decide, rfl, _, _, rfl⟩ ⟨by decide, by decide⟩ rfl (Nat.le_of_ble_eq_true rfl) rfl c_X2_below ?_
            rw [tD]
            refine z_iload dX5_part_68 rfl ?_
            refine z_callS_eL (M := mX5_part) [_, _, _] tX5_lowestTerm kX5_245 dX5_part_70 ⟨by decide, by decide⟩ rfl (Nat.le_of_ble_eq_true rfl) rfl (c_X5_lowestTerm1 (a := y e) (b := D) (by omega) (by omega) (by omega)) ?_
            exact z_lreturn dX5_part_73 rfl (hQ _ _ ⟨_, rfl, ⟨tG, D, y, _, _, hV, LW.of d0, rfl⟩⟩)
          · have c33 := bi_eq.mp c33
            omega
set_option maxRecDepth 100000 in
set_option maxHeartbeats 4000000 in
theorem c_X5_part10 {g : GG} {h : HH} {σ : SG} (W : WF σ) (C : RC (h 2) σ) {c e : Nat} (hc : c < 3) (he : e < sE σ) : CnL mX5_part g [vr 0, vi (c : Int), vi 1, vi (e : Int), vi 0] h (fun z h' => GS h h' ∧ PVz σ c 1 e 0 z) := by
  refine cn_q (lv := [vr 0, vi (c : Int), vi 1, vi (e : Int), vi 0]) tX5_part.1 rfl rfl (fun hR Q hQ => ?_)
  have w1 := W.1
  have w2 := W.2.1
  have w3 := W.2.2.1
  refine z_iload_n dX5_part_0 rfl ?_
  refine z_callS_eI (M := mX5_part) [_] tX5_isChain kX5_150 dX5_part_1 ⟨by decide, by decide⟩ rfl (Nat.le_of_ble_eq_true rfl) rfl (c_X5_isChain (by omega)) ?_
  refine z_if_eq 36 dX5_part_4 (by decide) (bi_r _) (fun c4 => ?_) (fun c4 => ?_)
  · have c4 := bi_eq.mp c4
    omega
  · have c4 := bi_ne.mp c4
    refine z_iload_n dX5_part_7 rfl ?_
    refine z_if_lt 36 dX5_part_8 (by decide) (by omega) (fun c8 => ?_) (fun c8 => ?_)
    · omega
    · refine z_iload_n dX5_part_11 rfl ?_
      refine z_iconst dX5_part_12 ?_
      refine z_icmp_gt 36 dX5_part_13 (by decide) (by omega) (by omega) (fun c13 => ?_) (fun c13 => ?_)
      · omega
      · refine z_aload_n dX5_part_16 rfl ?_
        refine z_getR fX5_10 dX5_part_17 (by decide) rfl rfl ?_
        refine z_iconst dX5_part_20 ?_
        refine z_iload_n dX5_part_21 rfl ?_
        refine z_callV_eI (M := mX5_part) [_, _] tX0_hasCell kX5_127 dX5_part_22 ⟨by decide, rfl, _, _, rfl⟩ ⟨by decide, by decide⟩ rfl (Nat.le_of_ble_eq_true rfl) rfl (s_X0_has1 isC1 C (by omega)) ?_
        refine z_if_eq 36 dX5_part_25 (by decide) (bi_r _) (fun c25 => ?_) (fun c25 => ?_)
        · have c25 := bi_eq.mp c25
          omega
        · have c25 := bi_ne.mp c25
          refine z_iload dX5_part_28 rfl ?_
          refine z_callS_eI (M := mX5_part) [_] tX5_isSide kX5_229 dX5_part_30 ⟨by decide, by decide⟩ rfl (Nat.le_of_ble_eq_true rfl) rfl (c_X5_isSide (by omega)) ?_
          refine z_if_ne 40 dX5_part_33 (by decide) (bi_r _) (fun c33 => ?_) (fun c33 => ?_)
          · have c33 := bi_ne.mp c33
            refine z_aload_n dX5_part_40 rfl ?_
            refine z_getR fX5_43 dX5_part_41 (by decide) rfl rfl ?_
            refine z_aload_n dX5_part_44 rfl ?_
            refine z_getR fX5_10 dX5_part_45 (by decide) rfl rfl ?_
            refine z_iload_n dX5_part_48 rfl ?_
            refine z_iload_n dX5_part_49 rfl ?_
            refine z_callV_V (M := mX5_part) [_, _, _] tX2_take kX5_234 dX5_part_50 ⟨by decide, rfl, _, _, rfl⟩ ⟨by decide, by decide⟩ rfl (Nat.le_of_ble_eq_true rfl) rfl (c_X2_take1 W C hc) (fun h50 q50 => ?_)
            obtain ⟨tG, tE, tM, D, y, hV, d0, dB, tD, tY⟩ := q50
            have pb := pv_b W hc (by decide) hV
            refine z_aload_n dX5_part_53 rfl ?_
            refine z_getR fX5_43 dX5_part_54 (by decide) rfl rfl ?_
            refine z_iload_n dX5_part_57 rfl ?_
            refine z_callV_eL (M := mX5_part) [_] tX2_aboveAt kX5_238 dX5_part_58 ⟨by decide, rfl, _, _, rfl⟩ ⟨by decide, by decide⟩ rfl (Nat.le_of_ble_eq_true rfl) rfl (c_X2_aboveAt (e := e) (by omega)) ?_
            rw [tY e he]
            have yb := pb.2.2 e he
            refine z_aload_n dX5_part_61 rfl ?_
            refine z_getR fX5_43 dX5_part_62 (by decide) rfl rfl ?_
            refine z_callV_eL (M := mX5_part) [] tX2_below kX5_241 dX5_part_65 ⟨by decide, rfl, _, _, rfl⟩ ⟨by decide, by decide⟩ rfl (Nat.le_of_ble_eq_true rfl) rfl c_X2_below ?_
            rw [tD]
            refine z_iload dX5_part_68 rfl ?_
            refine z_callS_eL (M := mX5_part) [_, _, _] tX5_lowestTerm kX5_245 dX5_part_70 ⟨by decide, by decide⟩ rfl (Nat.le_of_ble_eq_true rfl) rfl (c_X5_lowestTerm0 (a := y e) (b := D) (by omega) (by omega) (by omega)) ?_
            exact z_lreturn dX5_part_73 rfl (hQ _ _ ⟨_, rfl, ⟨tG, D, y, _, _, hV, LW.of d0, rfl⟩⟩)
          · have c33 := bi_eq.mp c33
            omega
set_option maxRecDepth 100000 in
set_option maxHeartbeats 4000000 in
theorem c_X5_part11 {g : GG} {h : HH} {σ : SG} (W : WF σ) (C : RC (h 2) σ) {c e : Nat} (hc : c < 3) (he : e < sE σ) : CnL mX5_part g [vr 0, vi (c : Int), vi 1, vi (e : Int), vi 1] h (fun z h' => GS h h' ∧ PVz σ c 1 e 1 z) := by
  refine cn_q (lv := [vr 0, vi (c : Int), vi 1, vi (e : Int), vi 1]) tX5_part.1 rfl rfl (fun hR Q hQ => ?_)
  have w1 := W.1
  have w2 := W.2.1
  have w3 := W.2.2.1
  refine z_iload_n dX5_part_0 rfl ?_
  refine z_callS_eI (M := mX5_part) [_] tX5_isChain kX5_150 dX5_part_1 ⟨by decide, by decide⟩ rfl (Nat.le_of_ble_eq_true rfl) rfl (c_X5_isChain (by omega)) ?_
  refine z_if_eq 36 dX5_part_4 (by decide) (bi_r _) (fun c4 => ?_) (fun c4 => ?_)
  · have c4 := bi_eq.mp c4
    omega
  · have c4 := bi_ne.mp c4
    refine z_iload_n dX5_part_7 rfl ?_
    refine z_if_lt 36 dX5_part_8 (by decide) (by omega) (fun c8 => ?_) (fun c8 => ?_)
    · omega
    · refine z_iload_n dX5_part_11 rfl ?_
      refine z_iconst dX5_part_12 ?_
      refine z_icmp_gt 36 dX5_part_13 (by decide) (by omega) (by omega) (fun c13 => ?_) (fun c13 => ?_)
      · omega
      · refine z_aload_n dX5_part_16 rfl ?_
        refine z_getR fX5_10 dX5_part_17 (by decide) rfl rfl ?_
        refine z_iconst dX5_part_20 ?_
        refine z_iload_n dX5_part_21 rfl ?_
        refine z_callV_eI (M := mX5_part) [_, _] tX0_hasCell kX5_127 dX5_part_22 ⟨by decide, rfl, _, _, rfl⟩ ⟨by decide, by decide⟩ rfl (Nat.le_of_ble_eq_true rfl) rfl (s_X0_has1 isC1 C (by omega)) ?_
        refine z_if_eq 36 dX5_part_25 (by decide) (bi_r _) (fun c25 => ?_) (fun c25 => ?_)
        · have c25 := bi_eq.mp c25
          omega
        · have c25 := bi_ne.mp c25
          refine z_iload dX5_part_28 rfl ?_
          refine z_callS_eI (M := mX5_part) [_] tX5_isSide kX5_229 dX5_part_30 ⟨by decide, by decide⟩ rfl (Nat.le_of_ble_eq_true rfl) rfl (c_X5_isSide (by omega)) ?_
          refine z_if_ne 40 dX5_part_33 (by decide) (bi_r _) (fun c33 => ?_) (fun c33 => ?_)
          · have c33 := bi_ne.mp c33
            refine z_aload_n dX5_part_40 rfl ?_
            refine z_getR fX5_43 dX5_part_41 (by decide) rfl rfl ?_
            refine z_aload_n dX5_part_44 rfl ?_
            refine z_getR fX5_10 dX5_part_45 (by decide) rfl rfl ?_
            refine z_iload_n dX5_part_48 rfl ?_
            refine z_iload_n dX5_part_49 rfl ?_
            refine z_callV_V (M := mX5_part) [_, _, _] tX2_take kX5_234 dX5_part_50 ⟨by decide, rfl, _, _, rfl⟩ ⟨by decide, by decide⟩ rfl (Nat.le_of_ble_eq_true rfl) rfl (c_X2_take1 W C hc) (fun h50 q50 => ?_)
            obtain ⟨tG, tE, tM, D, y, hV, d0, dB, tD, tY⟩ := q50
            have pb := pv_b W hc (by decide) hV
            refine z_aload_n dX5_part_53 rfl ?_
            refine z_getR fX5_43 dX5_part_54 (by decide) rfl rfl ?_
            refine z_iload_n dX5_part_57 rfl ?_
            refine z_callV_eL (M := mX5_part) [_] tX2_aboveAt kX5_238 dX5_part_58 ⟨by decide, rfl, _, _, rfl⟩ ⟨by decide, by decide⟩ rfl (Nat.le_of_ble_eq_true rfl) rfl (c_X2_aboveAt (e := e) (by omega)) ?_
            rw [tY e he]
            have yb := pb.2.2 e he
            refine z_aload_n dX5_part_61 rfl ?_
            refine z_getR fX5_43 dX5_part_62 (by decide) rfl rfl ?_
            refine z_callV_eL (M := mX5_part) [] tX2_below kX5_241 dX5_part_65 ⟨by decide, rfl, _, _, rfl⟩ ⟨by decide, by decide⟩ rfl (Nat.le_of_ble_eq_true rfl) rfl c_X2_below ?_
            rw [tD]
            refine z_iload dX5_part_68 rfl ?_
            refine z_callS_eL (M := mX5_part) [_, _, _] tX5_lowestTerm kX5_245 dX5_part_70 ⟨by decide, by decide⟩ rfl (Nat.le_of_ble_eq_true rfl) rfl (c_X5_lowestTerm1 (a := y e) (b := D) (by omega) (by omega) (by omega)) ?_
            exact z_lreturn dX5_part_73 rfl (hQ _ _ ⟨_, rfl, ⟨tG, D, y, _, _, hV, LW.of d0, rfl⟩⟩)
          · have c33 := bi_eq.mp c33
            omega
set_option maxRecDepth 100000 in
set_option maxHeartbeats 4000000 in
theorem c_X5_part20 {g : GG} {h : HH} {σ : SG} (W : WF σ) (C : RC (h 2) σ) {c e : Nat} (hc : c < 3) (he : e < sE σ) : CnL mX5_part g [vr 0, vi (c : Int), vi 2, vi (e : Int), vi 0] h (fun z h' => GS h h' ∧ PVz σ c 2 e 0 z) := by
  refine cn_q (lv := [vr 0, vi (c : Int), vi 2, vi (e : Int), vi 0]) tX5_part.1 rfl rfl (fun hR Q hQ => ?_)
  have w1 := W.1
  have w2 := W.2.1
  have w3 := W.2.2.1
  refine z_iload_n dX5_part_0 rfl ?_
  refine z_callS_eI (M := mX5_part) [_] tX5_isChain kX5_150 dX5_part_1 ⟨by decide, by decide⟩ rfl (Nat.le_of_ble_eq_true rfl) rfl (c_X5_isChain (by omega)) ?_
  refine z_if_eq 36 dX5_part_4 (by decide) (bi_r _) (fun c4 => ?_) (fun c4 => ?_)
  · have c4 := bi_eq.mp c4
    omega
  · have c4 := bi_ne.mp c4
    refine z_iload_n dX5_part_7 rfl ?_
    refine z_if_lt 36 dX5_part_8 (by decide) (by omega) (fun c8 => ?_) (fun c8 => ?_)
    · omega
    · refine z_iload_n dX5_part_11 rfl ?_
      refine z_iconst dX5_part_12 ?_
      refine z_icmp_gt 36 dX5_part_13 (by decide) (by omega) (by omega) (fun c13 => ?_) (fun c13 => ?_)
      · omega
      · refine z_aload_n dX5_part_16 rfl ?_
        refine z_getR fX5_10 dX5_part_17 (by decide) rfl rfl ?_
        refine z_iconst dX5_part_20 ?_
        refine z_iload_n dX5_part_21 rfl ?_
        refine z_callV_eI (M := mX5_part) [_, _] tX0_hasCell kX5_127 dX5_part_22 ⟨by decide, rfl, _, _, rfl⟩ ⟨by decide, by decide⟩ rfl (Nat.le_of_ble_eq_true rfl) rfl (s_X0_has1 isC1 C (by omega)) ?_
        refine z_if_eq 36 dX5_part_25 (by decide) (bi_r _) (fun c25 => ?_) (fun c25 => ?_)
        · have c25 := bi_eq.mp c25
          omega
        · have c25 := bi_ne.mp c25
          refine z_iload dX5_part_28 rfl ?_
          refine z_callS_eI (M := mX5_part) [_] tX5_isSide kX5_229 dX5_part_30 ⟨by decide, by decide⟩ rfl (Nat.le_of_ble_eq_true rfl) rfl (c_X5_isSide (by omega)) ?_
          refine z_if_ne 40 dX5_part_33 (by decide) (bi_r _) (fun c33 => ?_) (fun c33 => ?_)
          · have c33 := bi_ne.mp c33
            refine z_aload_n dX5_part_40 rfl ?_
            refine z_getR fX5_43 dX5_part_41 (by decide) rfl rfl ?_
            refine z_aload_n dX5_part_44 rfl ?_
            refine z_getR fX5_10 dX5_part_45 (by decide) rfl rfl ?_
            refine z_iload_n dX5_part_48 rfl ?_
            refine z_iload_n dX5_part_49 rfl ?_
            refine z_callV_V (M := mX5_part) [_, _, _] tX2_take kX5_234 dX5_part_50 ⟨by decide, rfl, _, _, rfl⟩ ⟨by decide, by decide⟩ rfl (Nat.le_of_ble_eq_true rfl) rfl (c_X2_take2 W C hc) (fun h50 q50 => ?_)
            obtain ⟨tG, tE, tM, D, y, hV, d0, dB, tD, tY⟩ := q50
            have pb := pv_b W hc (by decide) hV
            refine z_aload_n dX5_part_53 rfl ?_
            refine z_getR fX5_43 dX5_part_54 (by decide) rfl rfl ?_
            refine z_iload_n dX5_part_57 rfl ?_
            refine z_callV_eL (M := mX5_part) [_] tX2_aboveAt kX5_238 dX5_part_58 ⟨by decide, rfl, _, _, rfl⟩ ⟨by decide, by decide⟩ rfl (Nat.le_of_ble_eq_true rfl) rfl (c_X2_aboveAt (e := e) (by omega)) ?_
            rw [tY e he]
            have yb := pb.2.2 e he
            refine z_aload_n dX5_part_61 rfl ?_
            refine z_getR fX5_43 dX5_part_62 (by decide) rfl rfl ?_
            refine z_callV_eL (M := mX5_part) [] tX2_below kX5_241 dX5_part_65 ⟨by decide, rfl, _, _, rfl⟩ ⟨by decide, by decide⟩ rfl (Nat.le_of_ble_eq_true rfl) rfl c_X2_below ?_
            rw [tD]
            refine z_iload dX5_part_68 rfl ?_
            refine z_callS_eL (M := mX5_part) [_, _, _] tX5_lowestTerm kX5_245 dX5_part_70 ⟨by decide, by decide⟩ rfl (Nat.le_of_ble_eq_true rfl) rfl (c_X5_lowestTerm0 (a := y e) (b := D) (by omega) (by omega) (by omega)) ?_
            exact z_lreturn dX5_part_73 rfl (hQ _ _ ⟨_, rfl, ⟨tG, D, y, _, _, hV, LW.of d0, rfl⟩⟩)
          · have c33 := bi_eq.mp c33
            omega
set_option maxRecDepth 100000 in
set_option maxHeartbeats 4000000 in
theorem c_X5_part21 {g : GG} {h : HH} {σ : SG} (W : WF σ) (C : RC (h 2) σ) {c e : Nat} (hc : c < 3) (he : e < sE σ) : CnL mX5_part g [vr 0, vi (c : Int), vi 2, vi (e : Int), vi 1] h (fun z h' => GS h h' ∧ PVz σ c 2 e 1 z) := by
  refine cn_q (lv := [vr 0, vi (c : Int), vi 2, vi (e : Int), vi 1]) tX5_part.1 rfl rfl (fun hR Q hQ => ?_)
  have w1 := W.1
  have w2 := W.2.1
  have w3 := W.2.2.1
  refine z_iload_n dX5_part_0 rfl ?_
  refine z_callS_eI (M := mX5_part) [_] tX5_isChain kX5_150 dX5_part_1 ⟨by decide, by decide⟩ rfl (Nat.le_of_ble_eq_true rfl) rfl (c_X5_isChain (by omega)) ?_
  refine z_if_eq 36 dX5_part_4 (by decide) (bi_r _) (fun c4 => ?_) (fun c4 => ?_)
  · have c4 := bi_eq.mp c4
    omega
  · have c4 := bi_ne.mp c4
    refine z_iload_n dX5_part_7 rfl ?_
    refine z_if_lt 36 dX5_part_8 (by decide) (by omega) (fun c8 => ?_) (fun c8 => ?_)
    · omega
    · refine z_iload_n dX5_part_11 rfl ?_
      refine z_iconst dX5_part_12 ?_
      refine z_icmp_gt 36 dX5_part_13 (by decide) (by omega) (by omega) (fun c13 => ?_) (fun c13 => ?_)
      · omega
      · refine z_aload_n dX5_part_16 rfl ?_
        refine z_getR fX5_10 dX5_part_17 (by decide) rfl rfl ?_
        refine z_iconst dX5_part_20 ?_
        refine z_iload_n dX5_part_21 rfl ?_
        refine z_callV_eI (M := mX5_part) [_, _] tX0_hasCell kX5_127 dX5_part_22 ⟨by decide, rfl, _, _, rfl⟩ ⟨by decide, by decide⟩ rfl (Nat.le_of_ble_eq_true rfl) rfl (s_X0_has1 isC1 C (by omega)) ?_
        refine z_if_eq 36 dX5_part_25 (by decide) (bi_r _) (fun c25 => ?_) (fun c25 => ?_)
        · have c25 := bi_eq.mp c25
          omega
        · have c25 := bi_ne.mp c25
          refine z_iload dX5_part_28 rfl ?_
          refine z_callS_eI (M := mX5_part) [_] tX5_isSide kX5_229 dX5_part_30 ⟨by decide, by decide⟩ rfl (Nat.le_of_ble_eq_true rfl) rfl (c_X5_isSide (by omega)) ?_
          refine z_if_ne 40 dX5_part_33 (by decide) (bi_r _) (fun c33 => ?_) (fun c33 => ?_)
          · have c33 := bi_ne.mp c33
            refine z_aload_n dX5_part_40 rfl ?_
            refine z_getR fX5_43 dX5_part_41 (by decide) rfl rfl ?_
            refine z_aload_n dX5_part_44 rfl ?_
            refine z_getR fX5_10 dX5_part_45 (by decide) rfl rfl ?_
            refine z_iload_n dX5_part_48 rfl ?_
            refine z_iload_n dX5_part_49 rfl ?_
            refine z_callV_V (M := mX5_part) [_, _, _] tX2_take kX5_234 dX5_part_50 ⟨by decide, rfl, _, _, rfl⟩ ⟨by decide, by decide⟩ rfl (Nat.le_of_ble_eq_true rfl) rfl (c_X2_take2 W C hc) (fun h50 q50 => ?_)
            obtain ⟨tG, tE, tM, D, y, hV, d0, dB, tD, tY⟩ := q50
            have pb := pv_b W hc (by decide) hV
            refine z_aload_n dX5_part_53 rfl ?_
            refine z_getR fX5_43 dX5_part_54 (by decide) rfl rfl ?_
            refine z_iload_n dX5_part_57 rfl ?_
            refine z_callV_eL (M := mX5_part) [_] tX2_aboveAt kX5_238 dX5_part_58 ⟨by decide, rfl, _, _, rfl⟩ ⟨by decide, by decide⟩ rfl (Nat.le_of_ble_eq_true rfl) rfl (c_X2_aboveAt (e := e) (by omega)) ?_
            rw [tY e he]
            have yb := pb.2.2 e he
            refine z_aload_n dX5_part_61 rfl ?_
            refine z_getR fX5_43 dX5_part_62 (by decide) rfl rfl ?_
            refine z_callV_eL (M := mX5_part) [] tX2_below kX5_241 dX5_part_65 ⟨by decide, rfl, _, _, rfl⟩ ⟨by decide, by decide⟩ rfl (Nat.le_of_ble_eq_true rfl) rfl c_X2_below ?_
            rw [tD]
            refine z_iload dX5_part_68 rfl ?_
            refine z_callS_eL (M := mX5_part) [_, _, _] tX5_lowestTerm kX5_245 dX5_part_70 ⟨by decide, by decide⟩ rfl (Nat.le_of_ble_eq_true rfl) rfl (c_X5_lowestTerm1 (a := y e) (b := D) (by omega) (by omega) (by omega)) ?_
            exact z_lreturn dX5_part_73 rfl (hQ _ _ ⟨_, rfl, ⟨tG, D, y, _, _, hV, LW.of d0, rfl⟩⟩)
          · have c33 := bi_eq.mp c33
            omega
set_option maxRecDepth 100000 in
set_option maxHeartbeats 4000000 in
theorem c_X5_lengthS {g : GG} {h : HH} {σ : SG} (W : WF σ) (C : RC (h 2) σ) {c p w : Int} (hc : R32 c) (hp : R32 p) (hw : R32 w) (h0 : sP σ = 0) : CeL mX5_length g [vr 0, vi c, vi p, vi w] h kSTATE := by
  refine cn_q (lv := [vr 0, vi c, vi p, vi w]) tX5_length.1 rfl rfl (fun hR Q hQ => ?_)
  refine z_aload_n dX5_length_0 rfl ?_
  refine z_getR fX5_10 dX5_length_1 (by decide) rfl rfl ?_
  refine z_callV_eI (M := mX5_length) [] tX0_isThere kX5_123 dX5_length_4 ⟨by decide, rfl, _, _, rfl⟩ ⟨by decide, by decide⟩ rfl (Nat.le_of_ble_eq_true rfl) rfl (s_X0_isThere isC1 C) ?_
  refine z_if_ne 14 dX5_length_7 (by decide) (bi_r _) (fun c7 => ?_) (fun c7 => ?_)
  · have c7 := bi_ne.mp c7
    omega
  · have c7 := bi_eq.mp c7
    refine z_ldc2 (-1000002) dX5_length_10 qX5_249 rfl ?_
    exact z_lreturn dX5_length_13 rfl (hQ _ _ ⟨_, rfl, rfl, rfl⟩)
set_option maxRecDepth 100000 in
set_option maxHeartbeats 4000000 in
theorem c_X5_lengthO {g : GG} {h : HH} {σ : SG} (W : WF σ) (C : RC (h 2) σ) {c p w : Int} (hc : R32 c) (hp : R32 p) (hw : R32 w) (h0 : 0 < sP σ) (ho : ¬ (0 ≤ c ∧ c < 3 ∧ 0 ≤ p ∧ p ≤ 3 ∧ 0 ≤ w ∧ w ≤ 1)) : CeL mX5_length g [vr 0, vi c, vi p, vi w] h kBAD := by
  refine cn_q (lv := [vr 0, vi c, vi p, vi w]) tX5_length.1 rfl rfl (fun hR Q hQ => ?_)
  refine z_aload_n dX5_length_0 rfl ?_
  refine z_getR fX5_10 dX5_length_1 (by decide) rfl rfl ?_
  refine z_callV_eI (M := mX5_length) [] tX0_isThere kX5_123 dX5_length_4 ⟨by decide, rfl, _, _, rfl⟩ ⟨by decide, by decide⟩ rfl (Nat.le_of_ble_eq_true rfl) rfl (s_X0_isThere isC1 C) ?_
  refine z_if_ne 14 dX5_length_7 (by decide) (bi_r _) (fun c7 => ?_) (fun c7 => ?_)
  · have c7 := bi_ne.mp c7
    refine z_iload_n dX5_length_14 rfl ?_
    refine z_callS_eI (M := mX5_length) [_] tX5_isChain kX5_150 dX5_length_15 ⟨by decide, by decide⟩ rfl (Nat.le_of_ble_eq_true rfl) rfl (c_X5_isChain (by omega)) ?_
    refine z_if_eq 37 dX5_length_18 (by decide) (bi_r _) (fun c18 => ?_) (fun c18 => ?_)
    · have c18 := bi_eq.mp c18
      refine z_ldc2 (-1000001) dX5_length_37 qX5_232 rfl ?_
      exact z_lreturn dX5_length_40 rfl (hQ _ _ ⟨_, rfl, rfl, rfl⟩)
    · have c18 := bi_ne.mp c18
      refine z_iload_n dX5_length_21 rfl ?_
      refine z_if_lt 37 dX5_length_22 (by decide) (by omega) (fun c22 => ?_) (fun c22 => ?_)
      · refine z_ldc2 (-1000001) dX5_length_37 qX5_232 rfl ?_
        exact z_lreturn dX5_length_40 rfl (hQ _ _ ⟨_, rfl, rfl, rfl⟩)
      · refine z_iload_n dX5_length_25 rfl ?_
        refine z_iconst dX5_length_26 ?_
        refine z_icmp_gt 37 dX5_length_27 (by decide) (by omega) (by omega) (fun c27 => ?_) (fun c27 => ?_)
        · refine z_ldc2 (-1000001) dX5_length_37 qX5_232 rfl ?_
          exact z_lreturn dX5_length_40 rfl (hQ _ _ ⟨_, rfl, rfl, rfl⟩)
        · refine z_iload_n dX5_length_30 rfl ?_
          refine z_callS_eI (M := mX5_length) [_] tX5_isSide kX5_229 dX5_length_31 ⟨by decide, by decide⟩ rfl (Nat.le_of_ble_eq_true rfl) rfl (c_X5_isSide (by omega)) ?_
          refine z_if_ne 41 dX5_length_34 (by decide) (bi_r _) (fun c34 => ?_) (fun c34 => ?_)
          · have c34 := bi_ne.mp c34
            omega
          · have c34 := bi_eq.mp c34
            refine z_ldc2 (-1000001) dX5_length_37 qX5_232 rfl ?_
            exact z_lreturn dX5_length_40 rfl (hQ _ _ ⟨_, rfl, rfl, rfl⟩)
  · have c7 := bi_eq.mp c7
    omega
set_option maxRecDepth 100000 in
set_option maxHeartbeats 4000000 in
theorem c_X5_length00 {g : GG} {h : HH} {σ : SG} (W : WF σ) (C : RC (h 2) σ) {c : Nat} (hc : c < 3) (h0 : 0 < sP σ) : CnL mX5_length g [vr 0, vi (c : Int), vi 0, vi 0] h (fun z h' => GS h h' ∧ LNz σ c 0 0 z) := by
  refine cn_q (lv := [vr 0, vi (c : Int), vi 0, vi 0]) tX5_length.1 rfl rfl (fun hR Q hQ => ?_)
  have w1 := W.1
  have w2 := W.2.1
  have w3 := W.2.2.1
  refine z_aload_n dX5_length_0 rfl ?_
  refine z_getR fX5_10 dX5_length_1 (by decide) rfl rfl ?_
  refine z_callV_eI (M := mX5_length) [] tX0_isThere kX5_123 dX5_length_4 ⟨by decide, rfl, _, _, rfl⟩ ⟨by decide, by decide⟩ rfl (Nat.le_of_ble_eq_true rfl) rfl (s_X0_isThere isC1 C) ?_
  refine z_if_ne 14 dX5_length_7 (by decide) (bi_r _) (fun c7 => ?_) (fun c7 => ?_)
  · have c7 := bi_ne.mp c7
    refine z_iload_n dX5_length_14 rfl ?_
    refine z_callS_eI (M := mX5_length) [_] tX5_isChain kX5_150 dX5_length_15 ⟨by decide, by decide⟩ rfl (Nat.le_of_ble_eq_true rfl) rfl (c_X5_isChain (by omega)) ?_
    refine z_if_eq 37 dX5_length_18 (by decide) (bi_r _) (fun c18 => ?_) (fun c18 => ?_)
    · have c18 := bi_eq.mp c18
      omega
    · have c18 := bi_ne.mp c18
      refine z_iload_n dX5_length_21 rfl ?_
      refine z_if_lt 37 dX5_length_22 (by decide) (by omega) (fun c22 => ?_) (fun c22 => ?_)
      · omega
      · refine z_iload_n dX5_length_25 rfl ?_
        refine z_iconst dX5_length_26 ?_
        refine z_icmp_gt 37 dX5_length_27 (by decide) (by omega) (by omega) (fun c27 => ?_) (fun c27 => ?_)
        · omega
        · refine z_iload_n dX5_length_30 rfl ?_
          refine z_callS_eI (M := mX5_length) [_] tX5_isSide kX5_229 dX5_length_31 ⟨by decide, by decide⟩ rfl (Nat.le_of_ble_eq_true rfl) rfl (c_X5_isSide (by omega)) ?_
          refine z_if_ne 41 dX5_length_34 (by decide) (bi_r _) (fun c34 => ?_) (fun c34 => ?_)
          · have c34 := bi_ne.mp c34
            refine z_aload_n dX5_length_41 rfl ?_
            refine z_getR fX5_43 dX5_length_42 (by decide) rfl rfl ?_
            refine z_aload_n dX5_length_45 rfl ?_
            refine z_getR fX5_10 dX5_length_46 (by decide) rfl rfl ?_
            refine z_iload_n dX5_length_49 rfl ?_
            refine z_iload_n dX5_length_50 rfl ?_
            refine z_callV_V (M := mX5_length) [_, _, _] tX2_take kX5_234 dX5_length_51 ⟨by decide, rfl, _, _, rfl⟩ ⟨by decide, by decide⟩ rfl (Nat.le_of_ble_eq_true rfl) rfl (c_X2_take0 W C hc) (fun h51 q51 => ?_)
            obtain ⟨tG, tE, tM, D, y, hV, d0, dB, tD, tY⟩ := q51
            have pb := pv_b W hc (by decide) hV
            refine z_aload_n dX5_length_54 rfl ?_
            refine z_getR fX5_43 dX5_length_55 (by decide) rfl rfl ?_
            refine z_callV_eL (M := mX5_length) [] tX2_lengthAbove kX5_251 dX5_length_58 ⟨by decide, rfl, _, _, rfl⟩ ⟨by decide, by decide⟩ rfl (Nat.le_of_ble_eq_true rfl) rfl (c_X2_lengthAbove (E := sE σ) tE w2) ?_
            rw [tk_len tM tY]
            refine z_ldc2 (6) dX5_length_61 qX5_254 rfl ?_
            refine z_aload_n dX5_length_64 rfl ?_
            refine z_getR fX5_43 dX5_length_65 (by decide) rfl rfl ?_
            refine z_callV_eL (M := mX5_length) [] tX2_below kX5_241 dX5_length_68 ⟨by decide, rfl, _, _, rfl⟩ ⟨by decide, by decide⟩ rfl (Nat.le_of_ble_eq_true rfl) rfl c_X2_below ?_
            rw [tD]
            refine z_lmul dX5_length_71 ?_
            refine z_iload_n dX5_length_72 rfl ?_
            refine z_callS_eL (M := mX5_length) [_, _, _] tX5_lowestTerm kX5_245 dX5_length_73 ⟨by decide, by decide⟩ rfl (Nat.le_of_ble_eq_true rfl) rfl (c_X5_lowestTerm0 (a := ipw (sE σ) (msr σ) y (sch σ c)) (b := 6 * D) (by omega) (by omega) (by omega)) ?_
            exact z_lreturn dX5_length_76 rfl (hQ _ _ ⟨_, rfl, ⟨tG, D, y, _, _, hV, LW.of (by omega), rfl⟩⟩)
          · have c34 := bi_eq.mp c34
            omega
  · have c7 := bi_eq.mp c7
    omega
set_option maxRecDepth 100000 in
set_option maxHeartbeats 4000000 in
theorem c_X5_length01 {g : GG} {h : HH} {σ : SG} (W : WF σ) (C : RC (h 2) σ) {c : Nat} (hc : c < 3) (h0 : 0 < sP σ) : CnL mX5_length g [vr 0, vi (c : Int), vi 0, vi 1] h (fun z h' => GS h h' ∧ LNz σ c 0 1 z) := by
  refine cn_q (lv := [vr 0, vi (c : Int), vi 0, vi 1]) tX5_length.1 rfl rfl (fun hR Q hQ => ?_)
  have w1 := W.1
  have w2 := W.2.1
  have w3 := W.2.2.1
  refine z_aload_n dX5_length_0 rfl ?_
  refine z_getR fX5_10 dX5_length_1 (by decide) rfl rfl ?_
  refine z_callV_eI (M := mX5_length) [] tX0_isThere kX5_123 dX5_length_4 ⟨by decide, rfl, _, _, rfl⟩ ⟨by decide, by decide⟩ rfl (Nat.le_of_ble_eq_true rfl) rfl (s_X0_isThere isC1 C) ?_
  refine z_if_ne 14 dX5_length_7 (by decide) (bi_r _) (fun c7 => ?_) (fun c7 => ?_)
  · have c7 := bi_ne.mp c7
    refine z_iload_n dX5_length_14 rfl ?_
    refine z_callS_eI (M := mX5_length) [_] tX5_isChain kX5_150 dX5_length_15 ⟨by decide, by decide⟩ rfl (Nat.le_of_ble_eq_true rfl) rfl (c_X5_isChain (by omega)) ?_
    refine z_if_eq 37 dX5_length_18 (by decide) (bi_r _) (fun c18 => ?_) (fun c18 => ?_)
    · have c18 := bi_eq.mp c18
      omega
    · have c18 := bi_ne.mp c18
      refine z_iload_n dX5_length_21 rfl ?_
      refine z_if_lt 37 dX5_length_22 (by decide) (by omega) (fun c22 => ?_) (fun c22 => ?_)
      · omega
      · refine z_iload_n dX5_length_25 rfl ?_
        refine z_iconst dX5_length_26 ?_
        refine z_icmp_gt 37 dX5_length_27 (by decide) (by omega) (by omega) (fun c27 => ?_) (fun c27 => ?_)
        · omega
        · refine z_iload_n dX5_length_30 rfl ?_
          refine z_callS_eI (M := mX5_length) [_] tX5_isSide kX5_229 dX5_length_31 ⟨by decide, by decide⟩ rfl (Nat.le_of_ble_eq_true rfl) rfl (c_X5_isSide (by omega)) ?_
          refine z_if_ne 41 dX5_length_34 (by decide) (bi_r _) (fun c34 => ?_) (fun c34 => ?_)
          · have c34 := bi_ne.mp c34
            refine z_aload_n dX5_length_41 rfl ?_
            refine z_getR fX5_43 dX5_length_42 (by decide) rfl rfl ?_
            refine z_aload_n dX5_length_45 rfl ?_
            refine z_getR fX5_10 dX5_length_46 (by decide) rfl rfl ?_
            refine z_iload_n dX5_length_49 rfl ?_
            refine z_iload_n dX5_length_50 rfl ?_
            refine z_callV_V (M := mX5_length) [_, _, _] tX2_take kX5_234 dX5_length_51 ⟨by decide, rfl, _, _, rfl⟩ ⟨by decide, by decide⟩ rfl (Nat.le_of_ble_eq_true rfl) rfl (c_X2_take0 W C hc) (fun h51 q51 => ?_)
            obtain ⟨tG, tE, tM, D, y, hV, d0, dB, tD, tY⟩ := q51
            have pb := pv_b W hc (by decide) hV
            refine z_aload_n dX5_length_54 rfl ?_
            refine z_getR fX5_43 dX5_length_55 (by decide) rfl rfl ?_
            refine z_callV_eL (M := mX5_length) [] tX2_lengthAbove kX5_251 dX5_length_58 ⟨by decide, rfl, _, _, rfl⟩ ⟨by decide, by decide⟩ rfl (Nat.le_of_ble_eq_true rfl) rfl (c_X2_lengthAbove (E := sE σ) tE w2) ?_
            rw [tk_len tM tY]
            refine z_ldc2 (6) dX5_length_61 qX5_254 rfl ?_
            refine z_aload_n dX5_length_64 rfl ?_
            refine z_getR fX5_43 dX5_length_65 (by decide) rfl rfl ?_
            refine z_callV_eL (M := mX5_length) [] tX2_below kX5_241 dX5_length_68 ⟨by decide, rfl, _, _, rfl⟩ ⟨by decide, by decide⟩ rfl (Nat.le_of_ble_eq_true rfl) rfl c_X2_below ?_
            rw [tD]
            refine z_lmul dX5_length_71 ?_
            refine z_iload_n dX5_length_72 rfl ?_
            refine z_callS_eL (M := mX5_length) [_, _, _] tX5_lowestTerm kX5_245 dX5_length_73 ⟨by decide, by decide⟩ rfl (Nat.le_of_ble_eq_true rfl) rfl (c_X5_lowestTerm1 (a := ipw (sE σ) (msr σ) y (sch σ c)) (b := 6 * D) (by omega) (by omega) (by omega)) ?_
            exact z_lreturn dX5_length_76 rfl (hQ _ _ ⟨_, rfl, ⟨tG, D, y, _, _, hV, LW.of (by omega), rfl⟩⟩)
          · have c34 := bi_eq.mp c34
            omega
  · have c7 := bi_eq.mp c7
    omega
set_option maxRecDepth 100000 in
set_option maxHeartbeats 4000000 in
theorem c_X5_length10 {g : GG} {h : HH} {σ : SG} (W : WF σ) (C : RC (h 2) σ) {c : Nat} (hc : c < 3) (h0 : 0 < sP σ) : CnL mX5_length g [vr 0, vi (c : Int), vi 1, vi 0] h (fun z h' => GS h h' ∧ LNz σ c 1 0 z) := by
  refine cn_q (lv := [vr 0, vi (c : Int), vi 1, vi 0]) tX5_length.1 rfl rfl (fun hR Q hQ => ?_)
  have w1 := W.1
  have w2 := W.2.1
  have w3 := W.2.2.1
  refine z_aload_n dX5_length_0 rfl ?_
  refine z_getR fX5_10 dX5_length_1 (by decide) rfl rfl ?_
  refine z_callV_eI (M := mX5_length) [] tX0_isThere kX5_123 dX5_length_4 ⟨by decide, rfl, _, _, rfl⟩ ⟨by decide, by decide⟩ rfl (Nat.le_of_ble_eq_true rfl) rfl (s_X0_isThere isC1 C) ?_
  refine z_if_ne 14 dX5_length_7 (by decide) (bi_r _) (fun c7 => ?_) (fun c7 => ?_)
  · have c7 := bi_ne.mp c7
    refine z_iload_n dX5_length_14 rfl ?_
    refine z_callS_eI (M := mX5_length) [_] tX5_isChain kX5_150 dX5_length_15 ⟨by decide, by decide⟩ rfl (Nat.le_of_ble_eq_true rfl) rfl (c_X5_isChain (by omega)) ?_
    refine z_if_eq 37 dX5_length_18 (by decide) (bi_r _) (fun c18 => ?_) (fun c18 => ?_)
    · have c18 := bi_eq.mp c18
      omega
    · have c18 := bi_ne.mp c18
      refine z_iload_n dX5_length_21 rfl ?_
      refine z_if_lt 37 dX5_length_22 (by decide) (by omega) (fun c22 => ?_) (fun c22 => ?_)
      · omega
      · refine z_iload_n dX5_length_25 rfl ?_
        refine z_iconst dX5_length_26 ?_
        refine z_icmp_gt 37 dX5_length_27 (by decide) (by omega) (by omega) (fun c27 => ?_) (fun c27 => ?_)
        · omega
        · refine z_iload_n dX5_length_30 rfl ?_
          refine z_callS_eI (M := mX5_length) [_] tX5_isSide kX5_229 dX5_length_31 ⟨by decide, by decide⟩ rfl (Nat.le_of_ble_eq_true rfl) rfl (c_X5_isSide (by omega)) ?_
          refine z_if_ne 41 dX5_length_34 (by decide) (bi_r _) (fun c34 => ?_) (fun c34 => ?_)
          · have c34 := bi_ne.mp c34
            refine z_aload_n dX5_length_41 rfl ?_
            refine z_getR fX5_43 dX5_length_42 (by decide) rfl rfl ?_
            refine z_aload_n dX5_length_45 rfl ?_
            refine z_getR fX5_10 dX5_length_46 (by decide) rfl rfl ?_
            refine z_iload_n dX5_length_49 rfl ?_
            refine z_iload_n dX5_length_50 rfl ?_
            refine z_callV_V (M := mX5_length) [_, _, _] tX2_take kX5_234 dX5_length_51 ⟨by decide, rfl, _, _, rfl⟩ ⟨by decide, by decide⟩ rfl (Nat.le_of_ble_eq_true rfl) rfl (c_X2_take1 W C hc) (fun h51 q51 => ?_)
            obtain ⟨tG, tE, tM, D, y, hV, d0, dB, tD, tY⟩ := q51
            have pb := pv_b W hc (by decide) hV
            refine z_aload_n dX5_length_54 rfl ?_
            refine z_getR fX5_43 dX5_length_55 (by decide) rfl rfl ?_
            refine z_callV_eL (M := mX5_length) [] tX2_lengthAbove kX5_251 dX5_length_58 ⟨by decide, rfl, _, _, rfl⟩ ⟨by decide, by decide⟩ rfl (Nat.le_of_ble_eq_true rfl) rfl (c_X2_lengthAbove (E := sE σ) tE w2) ?_
            rw [tk_len tM tY]
            refine z_ldc2 (6) dX5_length_61 qX5_254 rfl ?_
            refine z_aload_n dX5_length_64 rfl ?_
            refine z_getR fX5_43 dX5_length_65 (by decide) rfl rfl ?_
            refine z_callV_eL (M := mX5_length) [] tX2_below kX5_241 dX5_length_68 ⟨by decide, rfl, _, _, rfl⟩ ⟨by decide, by decide⟩ rfl (Nat.le_of_ble_eq_true rfl) rfl c_X2_below ?_
            rw [tD]
            refine z_lmul dX5_length_71 ?_
            refine z_iload_n dX5_length_72 rfl ?_
            refine z_callS_eL (M := mX5_length) [_, _, _] tX5_lowestTerm kX5_245 dX5_length_73 ⟨by decide, by decide⟩ rfl (Nat.le_of_ble_eq_true rfl) rfl (c_X5_lowestTerm0 (a := ipw (sE σ) (msr σ) y (sch σ c)) (b := 6 * D) (by omega) (by omega) (by omega)) ?_
            exact z_lreturn dX5_length_76 rfl (hQ _ _ ⟨_, rfl, ⟨tG, D, y, _, _, hV, LW.of (by omega), rfl⟩⟩)
          · have c34 := bi_eq.mp c34
            omega
  · have c7 := bi_eq.mp c7
    omega
set_option maxRecDepth 100000 in
set_option maxHeartbeats 4000000 in
theorem c_X5_length11 {g : GG} {h : HH} {σ : SG} (W : WF σ) (C : RC (h 2) σ) {c : Nat} (hc : c < 3) (h0 : 0 < sP σ) : CnL mX5_length g [vr 0, vi (c : Int), vi 1, vi 1] h (fun z h' => GS h h' ∧ LNz σ c 1 1 z) := by
  refine cn_q (lv := [vr 0, vi (c : Int), vi 1, vi 1]) tX5_length.1 rfl rfl (fun hR Q hQ => ?_)
  have w1 := W.1
  have w2 := W.2.1
  have w3 := W.2.2.1
  refine z_aload_n dX5_length_0 rfl ?_
  refine z_getR fX5_10 dX5_length_1 (by decide) rfl rfl ?_
  refine z_callV_eI (M := mX5_length) [] tX0_isThere kX5_123 dX5_length_4 ⟨by decide, rfl, _, _, rfl⟩ ⟨by decide, by decide⟩ rfl (Nat.le_of_ble_eq_true rfl) rfl (s_X0_isThere isC1 C) ?_
  refine z_if_ne 14 dX5_length_7 (by decide) (bi_r _) (fun c7 => ?_) (fun c7 => ?_)
  · have c7 := bi_ne.mp c7
    refine z_iload_n dX5_length_14 rfl ?_
    refine z_callS_eI (M := mX5_length) [_] tX5_isChain kX5_150 dX5_length_15 ⟨by decide, by decide⟩ rfl (Nat.le_of_ble_eq_true rfl) rfl (c_X5_isChain (by omega)) ?_
    refine z_if_eq 37 dX5_length_18 (by decide) (bi_r _) (fun c18 => ?_) (fun c18 => ?_)
    · have c18 := bi_eq.mp c18
      omega
    · have c18 := bi_ne.mp c18
      refine z_iload_n dX5_length_21 rfl ?_
      refine z_if_lt 37 dX5_length_22 (by decide) (by omega) (fun c22 => ?_) (fun c22 => ?_)
      · omega
      · refine z_iload_n dX5_length_25 rfl ?_
        refine z_iconst dX5_length_26 ?_
        refine z_icmp_gt 37 dX5_length_27 (by decide) (by omega) (by omega) (fun c27 => ?_) (fun c27 => ?_)
        · omega
        · refine z_iload_n dX5_length_30 rfl ?_
          refine z_callS_eI (M := mX5_length) [_] tX5_isSide kX5_229 dX5_length_31 ⟨by decide, by decide⟩ rfl (Nat.le_of_ble_eq_true rfl) rfl (c_X5_isSide (by omega)) ?_
          refine z_if_ne 41 dX5_length_34 (by decide) (bi_r _) (fun c34 => ?_) (fun c34 => ?_)
          · have c34 := bi_ne.mp c34
            refine z_aload_n dX5_length_41 rfl ?_
            refine z_getR fX5_43 dX5_length_42 (by decide) rfl rfl ?_
            refine z_aload_n dX5_length_45 rfl ?_
            refine z_getR fX5_10 dX5_length_46 (by decide) rfl rfl ?_
            refine z_iload_n dX5_length_49 rfl ?_
            refine z_iload_n dX5_length_50 rfl ?_
            refine z_callV_V (M := mX5_length) [_, _, _] tX2_take kX5_234 dX5_length_51 ⟨by decide, rfl, _, _, rfl⟩ ⟨by decide, by decide⟩ rfl (Nat.le_of_ble_eq_true rfl) rfl (c_X2_take1 W C hc) (fun h51 q51 => ?_)
            obtain ⟨tG, tE, tM, D, y, hV, d0, dB, tD, tY⟩ := q51
            have pb := pv_b W hc (by decide) hV
            refine z_aload_n dX5_length_54 rfl ?_
            refine z_getR fX5_43 dX5_length_55 (by decide) rfl rfl ?_
            refine z_callV_eL (M := mX5_length) [] tX2_lengthAbove kX5_251 dX5_length_58 ⟨by decide, rfl, _, _, rfl⟩ ⟨by decide, by decide⟩ rfl (Nat.le_of_ble_eq_true rfl) rfl (c_X2_lengthAbove (E := sE σ) tE w2) ?_
            rw [tk_len tM tY]
            refine z_ldc2 (6) dX5_length_61 qX5_254 rfl ?_
            refine z_aload_n dX5_length_64 rfl ?_
            refine z_getR fX5_43 dX5_length_65 (by decide) rfl rfl ?_
            refine z_callV_eL (M := mX5_length) [] tX2_below kX5_241 dX5_length_68 ⟨by decide, rfl, _, _, rfl⟩ ⟨by decide, by decide⟩ rfl (Nat.le_of_ble_eq_true rfl) rfl c_X2_below ?_
            rw [tD]
            refine z_lmul dX5_length_71 ?_
            refine z_iload_n dX5_length_72 rfl ?_
            refine z_callS_eL (M := mX5_length) [_, _, _] tX5_lowestTerm kX5_245 dX5_length_73 ⟨by decide, by decide⟩ rfl (Nat.le_of_ble_eq_true rfl) rfl (c_X5_lowestTerm1 (a := ipw (sE σ) (msr σ) y (sch σ c)) (b := 6 * D) (by omega) (by omega) (by omega)) ?_
            exact z_lreturn dX5_length_76 rfl (hQ _ _ ⟨_, rfl, ⟨tG, D, y, _, _, hV, LW.of (by omega), rfl⟩⟩)
          · have c34 := bi_eq.mp c34
            omega
  · have c7 := bi_eq.mp c7
    omega
set_option maxRecDepth 100000 in
set_option maxHeartbeats 4000000 in
theorem c_X5_length20 {g : GG} {h : HH} {σ : SG} (W : WF σ) (C : RC (h 2) σ) {c : Nat} (hc : c < 3) (h0 : 0 < sP σ) : CnL mX5_length g [vr 0, vi (c : Int), vi 2, vi 0] h (fun z h' => GS h h' ∧ LNz σ c 2 0 z) := by
  refine cn_q (lv := [vr 0, vi (c : Int), vi 2, vi 0]) tX5_length.1 rfl rfl (fun hR Q hQ => ?_)
  have w1 := W.1
  have w2 := W.2.1
  have w3 := W.2.2.1
  refine z_aload_n dX5_length_0 rfl ?_
  refine z_getR fX5_10 dX5_length_1 (by decide) rfl rfl ?_
  refine z_callV_eI (M := mX5_length) [] tX0_isThere kX5_123 dX5_length_4 ⟨by decide, rfl, _, _, rfl⟩ ⟨by decide, by decide⟩ rfl (Nat.le_of_ble_eq_true rfl) rfl (s_X0_isThere isC1 C) ?_
  refine z_if_ne 14 dX5_length_7 (by decide) (bi_r _) (fun c7 => ?_) (fun c7 => ?_)
  · have c7 := bi_ne.mp c7
    refine z_iload_n dX5_length_14 rfl ?_
    refine z_callS_eI (M := mX5_length) [_] tX5_isChain kX5_150 dX5_length_15 ⟨by decide, by decide⟩ rfl (Nat.le_of_ble_eq_true rfl) rfl (c_X5_isChain (by omega)) ?_
    refine z_if_eq 37 dX5_length_18 (by decide) (bi_r _) (fun c18 => ?_) (fun c18 => ?_)
    · have c18 := bi_eq.mp c18
      omega
    · have c18 := bi_ne.mp c18
      refine z_iload_n dX5_length_21 rfl ?_
      refine z_if_lt 37 dX5_length_22 (by decide) (by omega) (fun c22 => ?_) (fun c22 => ?_)
      · omega
      · refine z_iload_n dX5_length_25 rfl ?_
        refine z_iconst dX5_length_26 ?_
        refine z_icmp_gt 37 dX5_length_27 (by decide) (by omega) (by omega) (fun c27 => ?_) (fun c27 => ?_)
        · omega
        · refine z_iload_n dX5_length_30 rfl ?_
          refine z_callS_eI (M := mX5_length) [_] tX5_isSide kX5_229 dX5_length_31 ⟨by decide, by decide⟩ rfl (Nat.le_of_ble_eq_true rfl) rfl (c_X5_isSide (by omega)) ?_
          refine z_if_ne 41 dX5_length_34 (by decide) (bi_r _) (fun c34 => ?_) (fun c34 => ?_)
          · have c34 := bi_ne.mp c34
            refine z_aload_n dX5_length_41 rfl ?_
            refine z_getR fX5_43 dX5_length_42 (by decide) rfl rfl ?_
            refine z_aload_n dX5_length_45 rfl ?_
            refine z_getR fX5_10 dX5_length_46 (by decide) rfl rfl ?_
            refine z_iload_n dX5_length_49 rfl ?_
            refine z_iload_n dX5_length_50 rfl ?_
            refine z_callV_V (M := mX5_length) [_, _, _] tX2_take kX5_234 dX5_length_51 ⟨by decide, rfl, _, _, rfl⟩ ⟨by decide, by decide⟩ rfl (Nat.le_of_ble_eq_true rfl) rfl (c_X2_take2 W C hc) (fun h51 q51 => ?_)
            obtain ⟨tG, tE, tM, D, y, hV, d0, dB, tD, tY⟩ := q51
            have pb := pv_b W hc (by decide) hV
            refine z_aload_n dX5_length_54 rfl ?_
            refine z_getR fX5_43 dX5_length_55 (by decide) rfl rfl ?_
            refine z_callV_eL (M := mX5_length) [] tX2_lengthAbove kX5_251 dX5_length_58 ⟨by decide, rfl, _, _, rfl⟩ ⟨by decide, by decide⟩ rfl (Nat.le_of_ble_eq_true rfl) rfl (c_X2_lengthAbove (E := sE σ) tE w2) ?_
            rw [tk_len tM tY]
            refine z_ldc2 (6) dX5_length_61 qX5_254 rfl ?_
            refine z_aload_n dX5_length_64 rfl ?_
            refine z_getR fX5_43 dX5_length_65 (by decide) rfl rfl ?_
            refine z_callV_eL (M := mX5_length) [] tX2_below kX5_241 dX5_length_68 ⟨by decide, rfl, _, _, rfl⟩ ⟨by decide, by decide⟩ rfl (Nat.le_of_ble_eq_true rfl) rfl c_X2_below ?_
            rw [tD]
            refine z_lmul dX5_length_71 ?_
            refine z_iload_n dX5_length_72 rfl ?_
            refine z_callS_eL (M := mX5_length) [_, _, _] tX5_lowestTerm kX5_245 dX5_length_73 ⟨by decide, by decide⟩ rfl (Nat.le_of_ble_eq_true rfl) rfl (c_X5_lowestTerm0 (a := ipw (sE σ) (msr σ) y (sch σ c)) (b := 6 * D) (by omega) (by omega) (by omega)) ?_
            exact z_lreturn dX5_length_76 rfl (hQ _ _ ⟨_, rfl, ⟨tG, D, y, _, _, hV, LW.of (by omega), rfl⟩⟩)
          · have c34 := bi_eq.mp c34
            omega
  · have c7 := bi_eq.mp c7
    omega
set_option maxRecDepth 100000 in
set_option maxHeartbeats 4000000 in
theorem c_X5_length21 {g : GG} {h : HH} {σ : SG} (W : WF σ) (C : RC (h 2) σ) {c : Nat} (hc : c < 3) (h0 : 0 < sP σ) : CnL mX5_length g [vr 0, vi (c : Int), vi 2, vi 1] h (fun z h' => GS h h' ∧ LNz σ c 2 1 z) := by
  refine cn_q (lv := [vr 0, vi (c : Int), vi 2, vi 1]) tX5_length.1 rfl rfl (fun hR Q hQ => ?_)
  have w1 := W.1
  have w2 := W.2.1
  have w3 := W.2.2.1
  refine z_aload_n dX5_length_0 rfl ?_
  refine z_getR fX5_10 dX5_length_1 (by decide) rfl rfl ?_
  refine z_callV_eI (M := mX5_length) [] tX0_isThere kX5_123 dX5_length_4 ⟨by decide, rfl, _, _, rfl⟩ ⟨by decide, by decide⟩ rfl (Nat.le_of_ble_eq_true rfl) rfl (s_X0_isThere isC1 C) ?_
  refine z_if_ne 14 dX5_length_7 (by decide) (bi_r _) (fun c7 => ?_) (fun c7 => ?_)
  · have c7 := bi_ne.mp c7
    refine z_iload_n dX5_length_14 rfl ?_
    refine z_callS_eI (M := mX5_length) [_] tX5_isChain kX5_150 dX5_length_15 ⟨by decide, by decide⟩ rfl (Nat.le_of_ble_eq_true rfl) rfl (c_X5_isChain (by omega)) ?_
    refine z_if_eq 37 dX5_length_18 (by decide) (bi_r _) (fun c18 => ?_) (fun c18 => ?_)
    · have c18 := bi_eq.mp c18
      omega
    · have c18 := bi_ne.mp c18
      refine z_iload_n dX5_length_21 rfl ?_
      refine z_if_lt 37 dX5_length_22 (by decide) (by omega) (fun c22 => ?_) (fun c22 => ?_)
      · omega
      · refine z_iload_n dX5_length_25 rfl ?_
        refine z_iconst dX5_length_26 ?_
        refine z_icmp_gt 37 dX5_length_27 (by decide) (by omega) (by omega) (fun c27 => ?_) (fun c27 => ?_)
        · omega
        · refine z_iload_n dX5_length_30 rfl ?_
          refine z_callS_eI (M := mX5_length) [_] tX5_isSide kX5_229 dX5_length_31 ⟨by decide, by decide⟩ rfl (Nat.le_of_ble_eq_true rfl) rfl (c_X5_isSide (by omega)) ?_
          refine z_if_ne 41 dX5_length_34 (by decide) (bi_r _) (fun c34 => ?_) (fun c34 => ?_)
          · have c34 := bi_ne.mp c34
            refine z_aload_n dX5_length_41 rfl ?_
            refine z_getR fX5_43 dX5_length_42 (by decide) rfl rfl ?_
            refine z_aload_n dX5_length_45 rfl ?_
            refine z_getR fX5_10 dX5_length_46 (by decide) rfl rfl ?_
            refine z_iload_n dX5_length_49 rfl ?_
            refine z_iload_n dX5_length_50 rfl ?_
            refine z_callV_V (M := mX5_length) [_, _, _] tX2_take kX5_234 dX5_length_51 ⟨by decide, rfl, _, _, rfl⟩ ⟨by decide, by decide⟩ rfl (Nat.le_of_ble_eq_true rfl) rfl (c_X2_take2 W C hc) (fun h51 q51 => ?_)
            obtain ⟨tG, tE, tM, D, y, hV, d0, dB, tD, tY⟩ := q51
            have pb := pv_b W hc (by decide) hV
            refine z_aload_n dX5_length_54 rfl ?_
            refine z_getR fX5_43 dX5_length_55 (by decide) rfl rfl ?_
            refine z_callV_eL (M := mX5_length) [] tX2_lengthAbove kX5_251 dX5_length_58 ⟨by decide, rfl, _, _, rfl⟩ ⟨by decide, by decide⟩ rfl (Nat.le_of_ble_eq_true rfl) rfl (c_X2_lengthAbove (E := sE σ) tE w2) ?_
            rw [tk_len tM tY]
            refine z_ldc2 (6) dX5_length_61 qX5_254 rfl ?_
            refine z_aload_n dX5_length_64 rfl ?_
            refine z_getR fX5_43 dX5_length_65 (by decide) rfl rfl ?_
            refine z_callV_eL (M := mX5_length) [] tX2_below kX5_241 dX5_length_68 ⟨by decide, rfl, _, _, rfl⟩ ⟨by decide, by decide⟩ rfl (Nat.le_of_ble_eq_true rfl) rfl c_X2_below ?_
            rw [tD]
            refine z_lmul dX5_length_71 ?_
            refine z_iload_n dX5_length_72 rfl ?_
            refine z_callS_eL (M := mX5_length) [_, _, _] tX5_lowestTerm kX5_245 dX5_length_73 ⟨by decide, by decide⟩ rfl (Nat.le_of_ble_eq_true rfl) rfl (c_X5_lowestTerm1 (a := ipw (sE σ) (msr σ) y (sch σ c)) (b := 6 * D) (by omega) (by omega) (by omega)) ?_
            exact z_lreturn dX5_length_76 rfl (hQ _ _ ⟨_, rfl, ⟨tG, D, y, _, _, hV, LW.of (by omega), rfl⟩⟩)
          · have c34 := bi_eq.mp c34
            omega
  · have c7 := bi_eq.mp c7
    omega
set_option maxRecDepth 100000 in
set_option maxHeartbeats 4000000 in
theorem c_X5_length30 {g : GG} {h : HH} {σ : SG} (W : WF σ) (C : RC (h 2) σ) {c : Nat} (hc : c < 3) (h0 : 0 < sP σ) : CnL mX5_length g [vr 0, vi (c : Int), vi 3, vi 0] h (fun z h' => GS h h' ∧ LNz σ c 3 0 z) := by
  refine cn_q (lv := [vr 0, vi (c : Int), vi 3, vi 0]) tX5_length.1 rfl rfl (fun hR Q hQ => ?_)
  have w1 := W.1
  have w2 := W.2.1
  have w3 := W.2.2.1
  refine z_aload_n dX5_length_0 rfl ?_
  refine z_getR fX5_10 dX5_length_1 (by decide) rfl rfl ?_
  refine z_callV_eI (M := mX5_length) [] tX0_isThere kX5_123 dX5_length_4 ⟨by decide, rfl, _, _, rfl⟩ ⟨by decide, by decide⟩ rfl (Nat.le_of_ble_eq_true rfl) rfl (s_X0_isThere isC1 C) ?_
  refine z_if_ne 14 dX5_length_7 (by decide) (bi_r _) (fun c7 => ?_) (fun c7 => ?_)
  · have c7 := bi_ne.mp c7
    refine z_iload_n dX5_length_14 rfl ?_
    refine z_callS_eI (M := mX5_length) [_] tX5_isChain kX5_150 dX5_length_15 ⟨by decide, by decide⟩ rfl (Nat.le_of_ble_eq_true rfl) rfl (c_X5_isChain (by omega)) ?_
    refine z_if_eq 37 dX5_length_18 (by decide) (bi_r _) (fun c18 => ?_) (fun c18 => ?_)
    · have c18 := bi_eq.mp c18
      omega
    · have c18 := bi_ne.mp c18
      refine z_iload_n dX5_length_21 rfl ?_
      refine z_if_lt 37 dX5_length_22 (by decide) (by omega) (fun c22 => ?_) (fun c22 => ?_)
      · omega
      · refine z_iload_n dX5_length_25 rfl ?_
        refine z_iconst dX5_length_26 ?_
        refine z_icmp_gt 37 dX5_length_27 (by decide) (by omega) (by omega) (fun c27 => ?_) (fun c27 => ?_)
        · omega
        · refine z_iload_n dX5_length_30 rfl ?_
          refine z_callS_eI (M := mX5_length) [_] tX5_isSide kX5_229 dX5_length_31 ⟨by decide, by decide⟩ rfl (Nat.le_of_ble_eq_true rfl) rfl (c_X5_isSide (by omega)) ?_
          refine z_if_ne 41 dX5_length_34 (by decide) (bi_r _) (fun c34 => ?_) (fun c34 => ?_)
          · have c34 := bi_ne.mp c34
            refine z_aload_n dX5_length_41 rfl ?_
            refine z_getR fX5_43 dX5_length_42 (by decide) rfl rfl ?_
            refine z_aload_n dX5_length_45 rfl ?_
            refine z_getR fX5_10 dX5_length_46 (by decide) rfl rfl ?_
            refine z_iload_n dX5_length_49 rfl ?_
            refine z_iload_n dX5_length_50 rfl ?_
            refine z_callV_V (M := mX5_length) [_, _, _] tX2_take kX5_234 dX5_length_51 ⟨by decide, rfl, _, _, rfl⟩ ⟨by decide, by decide⟩ rfl (Nat.le_of_ble_eq_true rfl) rfl (c_X2_take3 W C hc) (fun h51 q51 => ?_)
            obtain ⟨tG, tE, tM, D, y, hV, d0, dB, tD, tY⟩ := q51
            have pb := pv_b W hc (by decide) hV
            refine z_aload_n dX5_length_54 rfl ?_
            refine z_getR fX5_43 dX5_length_55 (by decide) rfl rfl ?_
            refine z_callV_eL (M := mX5_length) [] tX2_lengthAbove kX5_251 dX5_length_58 ⟨by decide, rfl, _, _, rfl⟩ ⟨by decide, by decide⟩ rfl (Nat.le_of_ble_eq_true rfl) rfl (c_X2_lengthAbove (E := sE σ) tE w2) ?_
            rw [tk_len tM tY]
            refine z_ldc2 (6) dX5_length_61 qX5_254 rfl ?_
            refine z_aload_n dX5_length_64 rfl ?_
            refine z_getR fX5_43 dX5_length_65 (by decide) rfl rfl ?_
            refine z_callV_eL (M := mX5_length) [] tX2_below kX5_241 dX5_length_68 ⟨by decide, rfl, _, _, rfl⟩ ⟨by decide, by decide⟩ rfl (Nat.le_of_ble_eq_true rfl) rfl c_X2_below ?_
            rw [tD]
            refine z_lmul dX5_length_71 ?_
            refine z_iload_n dX5_length_72 rfl ?_
            refine z_callS_eL (M := mX5_length) [_, _, _] tX5_lowestTerm kX5_245 dX5_length_73 ⟨by decide, by decide⟩ rfl (Nat.le_of_ble_eq_true rfl) rfl (c_X5_lowestTerm0 (a := ipw (sE σ) (msr σ) y (sch σ c)) (b := 6 * D) (by omega) (by omega) (by omega)) ?_
            exact z_lreturn dX5_length_76 rfl (hQ _ _ ⟨_, rfl, ⟨tG, D, y, _, _, hV, LW.of (by omega), rfl⟩⟩)
          · have c34 := bi_eq.mp c34
            omega
  · have c7 := bi_eq.mp c7
    omega
set_option maxRecDepth 100000 in
set_option maxHeartbeats 4000000 in
theorem c_X5_length31 {g : GG} {h : HH} {σ : SG} (W : WF σ) (C : RC (h 2) σ) {c : Nat} (hc : c < 3) (h0 : 0 < sP σ) : CnL mX5_length g [vr 0, vi (c : Int), vi 3, vi 1] h (fun z h' => GS h h' ∧ LNz σ c 3 1 z) := by
  refine cn_q (lv := [vr 0, vi (c : Int), vi 3, vi 1]) tX5_length.1 rfl rfl (fun hR Q hQ => ?_)
  have w1 := W.1
  have w2 := W.2.1
  have w3 := W.2.2.1
  refine z_aload_n dX5_length_0 rfl ?_
  refine z_getR fX5_10 dX5_length_1 (by decide) rfl rfl ?_
  refine z_callV_eI (M := mX5_length) [] tX0_isThere kX5_123 dX5_length_4 ⟨by decide, rfl, _, _, rfl⟩ ⟨by decide, by decide⟩ rfl (Nat.le_of_ble_eq_true rfl) rfl (s_X0_isThere isC1 C) ?_
  refine z_if_ne 14 dX5_length_7 (by decide) (bi_r _) (fun c7 => ?_) (fun c7 => ?_)
  · have c7 := bi_ne.mp c7
    refine z_iload_n dX5_length_14 rfl ?_
    refine z_callS_eI (M := mX5_length) [_] tX5_isChain kX5_150 dX5_length_15 ⟨by decide, by decide⟩ rfl (Nat.le_of_ble_eq_true rfl) rfl (c_X5_isChain (by omega)) ?_
    refine z_if_eq 37 dX5_length_18 (by decide) (bi_r _) (fun c18 => ?_) (fun c18 => ?_)
    · have c18 := bi_eq.mp c18
      omega
    · have c18 := bi_ne.mp c18
      refine z_iload_n dX5_length_21 rfl ?_
      refine z_if_lt 37 dX5_length_22 (by decide) (by omega) (fun c22 => ?_) (fun c22 => ?_)
      · omega
      · refine z_iload_n dX5_length_25 rfl ?_
        refine z_iconst dX5_length_26 ?_
        refine z_icmp_gt 37 dX5_length_27 (by decide) (by omega) (by omega) (fun c27 => ?_) (fun c27 => ?_)
        · omega
        · refine z_iload_n dX5_length_30 rfl ?_
          refine z_callS_eI (M := mX5_length) [_] tX5_isSide kX5_229 dX5_length_31 ⟨by decide, by decide⟩ rfl (Nat.le_of_ble_eq_true rfl) rfl (c_X5_isSide (by omega)) ?_
          refine z_if_ne 41 dX5_length_34 (by decide) (bi_r _) (fun c34 => ?_) (fun c34 => ?_)
          · have c34 := bi_ne.mp c34
            refine z_aload_n dX5_length_41 rfl ?_
            refine z_getR fX5_43 dX5_length_42 (by decide) rfl rfl ?_
            refine z_aload_n dX5_length_45 rfl ?_
            refine z_getR fX5_10 dX5_length_46 (by decide) rfl rfl ?_
            refine z_iload_n dX5_length_49 rfl ?_
            refine z_iload_n dX5_length_50 rfl ?_
            refine z_callV_V (M := mX5_length) [_, _, _] tX2_take kX5_234 dX5_length_51 ⟨by decide, rfl, _, _, rfl⟩ ⟨by decide, by decide⟩ rfl (Nat.le_of_ble_eq_true rfl) rfl (c_X2_take3 W C hc) (fun h51 q51 => ?_)
            obtain ⟨tG, tE, tM, D, y, hV, d0, dB, tD, tY⟩ := q51
            have pb := pv_b W hc (by decide) hV
            refine z_aload_n dX5_length_54 rfl ?_
            refine z_getR fX5_43 dX5_length_55 (by decide) rfl rfl ?_
            refine z_callV_eL (M := mX5_length) [] tX2_lengthAbove kX5_251 dX5_length_58 ⟨by decide, rfl, _, _, rfl⟩ ⟨by decide, by decide⟩ rfl (Nat.le_of_ble_eq_true rfl) rfl (c_X2_lengthAbove (E := sE σ) tE w2) ?_
            rw [tk_len tM tY]
            refine z_ldc2 (6) dX5_length_61 qX5_254 rfl ?_
            refine z_aload_n dX5_length_64 rfl ?_
            refine z_getR fX5_43 dX5_length_65 (by decide) rfl rfl ?_
            refine z_callV_eL (M := mX5_length) [] tX2_below kX5_241 dX5_length_68 ⟨by decide, rfl, _, _, rfl⟩ ⟨by decide, by decide⟩ rfl (Nat.le_of_ble_eq_true rfl) rfl c_X2_below ?_
            rw [tD]
            refine z_lmul dX5_length_71 ?_
            refine z_iload_n dX5_length_72 rfl ?_
            refine z_callS_eL (M := mX5_length) [_, _, _] tX5_lowestTerm kX5_245 dX5_length_73 ⟨by decide, by decide⟩ rfl (Nat.le_of_ble_eq_true rfl) rfl (c_X5_lowestTerm1 (a := ipw (sE σ) (msr σ) y (sch σ c)) (b := 6 * D) (by omega) (by omega) (by omega)) ?_
            exact z_lreturn dX5_length_76 rfl (hQ _ _ ⟨_, rfl, ⟨tG, D, y, _, _, hV, LW.of (by omega), rfl⟩⟩)
          · have c34 := bi_eq.mp c34
            omega
  · have c7 := bi_eq.mp c7
    omega
set_option maxRecDepth 100000 in
set_option maxHeartbeats 4000000 in
theorem c_X5_shareS {g : GG} {h : HH} {σ : SG} (W : WF σ) (C : RC (h 2) σ) {c p : Int} (hc : R32 c) (hp : R32 p) (h0 : sP σ = 0) : CeI mX5_share g [vr 0, vi c, vi p] h kSTATE := by
  refine cn_q (lv := [vr 0, vi c, vi p, vx, vx, vx, vx]) tX5_share.1 rfl rfl (fun hR Q hQ => ?_)
  refine z_aload_n dX5_share_0 rfl ?_
  refine z_getR fX5_10 dX5_share_1 (by decide) rfl rfl ?_
  refine z_callV_eI (M := mX5_share) [] tX0_isThere kX5_123 dX5_share_4 ⟨by decide, rfl, _, _, rfl⟩ ⟨by decide, by decide⟩ rfl (Nat.le_of_ble_eq_true rfl) rfl (s_X0_isThere isC1 C) ?_
  refine z_if_ne 13 dX5_share_7 (by decide) (bi_r _) (fun c7 => ?_) (fun c7 => ?_)
  · have c7 := bi_ne.mp c7
    omega
  · have c7 := bi_eq.mp c7
    refine z_ldc (-1000002) dX5_share_10 qX5_105 rfl ?_
    exact z_ireturn dX5_share_12 rfl (hQ _ _ ⟨_, rfl, rfl, rfl⟩)
set_option maxRecDepth 100000 in
set_option maxHeartbeats 4000000 in
theorem c_X5_shareO {g : GG} {h : HH} {σ : SG} (W : WF σ) (C : RC (h 2) σ) {c p : Int} (hc : R32 c) (hp : R32 p) (h0 : 0 < sP σ) (ho : ¬ (0 ≤ c ∧ c < 3 ∧ 0 ≤ p ∧ p ≤ 2)) : CeI mX5_share g [vr 0, vi c, vi p] h kBAD := by
  refine cn_q (lv := [vr 0, vi c, vi p, vx, vx, vx, vx]) tX5_share.1 rfl rfl (fun hR Q hQ => ?_)
  refine z_aload_n dX5_share_0 rfl ?_
  refine z_getR fX5_10 dX5_share_1 (by decide) rfl rfl ?_
  refine z_callV_eI (M := mX5_share) [] tX0_isThere kX5_123 dX5_share_4 ⟨by decide, rfl, _, _, rfl⟩ ⟨by decide, by decide⟩ rfl (Nat.le_of_ble_eq_true rfl) rfl (s_X0_isThere isC1 C) ?_
  refine z_if_ne 13 dX5_share_7 (by decide) (bi_r _) (fun c7 => ?_) (fun c7 => ?_)
  · have c7 := bi_ne.mp c7
    refine z_iload_n dX5_share_13 rfl ?_
    refine z_callS_eI (M := mX5_share) [_] tX5_isChain kX5_150 dX5_share_14 ⟨by decide, by decide⟩ rfl (Nat.le_of_ble_eq_true rfl) rfl (c_X5_isChain (by omega)) ?_
    refine z_if_eq 29 dX5_share_17 (by decide) (bi_r _) (fun c17 => ?_) (fun c17 => ?_)
    · have c17 := bi_eq.mp c17
      refine z_ldc (-1000001) dX5_share_29 qX5_65 rfl ?_
      exact z_ireturn dX5_share_31 rfl (hQ _ _ ⟨_, rfl, rfl, rfl⟩)
    · have c17 := bi_ne.mp c17
      refine z_iload_n dX5_share_20 rfl ?_
      refine z_if_lt 29 dX5_share_21 (by decide) (by omega) (fun c21 => ?_) (fun c21 => ?_)
      · refine z_ldc (-1000001) dX5_share_29 qX5_65 rfl ?_
        exact z_ireturn dX5_share_31 rfl (hQ _ _ ⟨_, rfl, rfl, rfl⟩)
      · refine z_iload_n dX5_share_24 rfl ?_
        refine z_iconst dX5_share_25 ?_
        refine z_icmp_le 32 dX5_share_26 (by decide) (by omega) (by omega) (fun c26 => ?_) (fun c26 => ?_)
        · omega
        · refine z_ldc (-1000001) dX5_share_29 qX5_65 rfl ?_
          exact z_ireturn dX5_share_31 rfl (hQ _ _ ⟨_, rfl, rfl, rfl⟩)
  · have c7 := bi_eq.mp c7
    omega
set_option maxRecDepth 100000 in
set_option maxHeartbeats 4000000 in
theorem c_X5_shareZ {g : GG} {h : HH} {σ : SG} (W : WF σ) (C : RC (h 2) σ) {c : Nat} (hc : c < 3) {p : Int} (hp : 0 ≤ p ∧ p ≤ 2) (h0 : 0 < sP σ) (hn : nnz σ c = 0) : CeI mX5_share g [vr 0, vi (c : Int), vi p] h kSTATE := by
  refine cn_q (lv := [vr 0, vi (c : Int), vi p, vx, vx, vx, vx]) tX5_share.1 rfl rfl (fun hR Q hQ => ?_)
  have w1 := W.1
  have w2 := W.2.1
  have w3 := W.2.2.1
  refine z_aload_n dX5_share_0 rfl ?_
  refine z_getR fX5_10 dX5_share_1 (by decide) rfl rfl ?_
  refine z_callV_eI (M := mX5_share) [] tX0_isThere kX5_123 dX5_share_4 ⟨by decide, rfl, _, _, rfl⟩ ⟨by decide, by decide⟩ rfl (Nat.le_of_ble_eq_true rfl) rfl (s_X0_isThere isC1 C) ?_
  refine z_if_ne 13 dX5_share_7 (by decide) (bi_r _) (fun c7 => ?_) (fun c7 => ?_)
  · have c7 := bi_ne.mp c7
    refine z_iload_n dX5_share_13 rfl ?_
    refine z_callS_eI (M := mX5_share) [_] tX5_isChain kX5_150 dX5_share_14 ⟨by decide, by decide⟩ rfl (Nat.le_of_ble_eq_true rfl) rfl (c_X5_isChain (by omega)) ?_
    refine z_if_eq 29 dX5_share_17 (by decide) (bi_r _) (fun c17 => ?_) (fun c17 => ?_)
    · have c17 := bi_eq.mp c17
      omega
    · have c17 := bi_ne.mp c17
      refine z_iload_n dX5_share_20 rfl ?_
      refine z_if_lt 29 dX5_share_21 (by decide) (by omega) (fun c21 => ?_) (fun c21 => ?_)
      · omega
      · refine z_iload_n dX5_share_24 rfl ?_
        refine z_iconst dX5_share_25 ?_
        refine z_icmp_le 32 dX5_share_26 (by decide) (by omega) (by omega) (fun c26 => ?_) (fun c26 => ?_)
        · refine z_aload_n dX5_share_32 rfl ?_
          refine z_getR fX5_10 dX5_share_33 (by decide) rfl rfl ?_
          refine z_iload_n dX5_share_36 rfl ?_
          refine z_callV_eI (M := mX5_share) [_] tX0_numbersNotZero kX5_166 dX5_share_37 ⟨by decide, rfl, _, _, rfl⟩ ⟨by decide, by decide⟩ rfl (Nat.le_of_ble_eq_true rfl) rfl (c_X0_numbersNotZero isC1 W C hc) ?_
          have n9 := nnz_r σ c w2
          refine z_if_ne 46 dX5_share_40 (by decide) (by omega) (fun c40 => ?_) (fun c40 => ?_)
          · omega
          · refine z_ldc (-1000002) dX5_share_43 qX5_105 rfl ?_
            exact z_ireturn dX5_share_45 rfl (hQ _ _ ⟨_, rfl, rfl, rfl⟩)
        · omega
  · have c7 := bi_eq.mp c7
    omega
set_option maxRecDepth 100000 in
set_option maxHeartbeats 4000000 in
theorem c_X5_share0 {g : GG} {h : HH} {σ : SG} (W : WF σ) (C : RC (h 2) σ) {c : Nat} (hc : c < 3) (h0 : 0 < sP σ) (hn : nnz σ c ≠ 0) : CnI mX5_share g [vr 0, vi (c : Int), vi 0] h (fun z h' => GS h h' ∧ SHz σ c 0 z) := by
  refine cn_q (lv := [vr 0, vi (c : Int), vi 0, vx, vx, vx, vx]) tX5_share.1 rfl rfl (fun hR Q hQ => ?_)
  have w1 := W.1
  have w2 := W.2.1
  have w3 := W.2.2.1
  have C0 := cc_nz W hn
  have C1 := (cc_r W hc).2
  refine z_aload_n dX5_share_0 rfl ?_
  refine z_getR fX5_10 dX5_share_1 (by decide) rfl rfl ?_
  refine z_callV_eI (M := mX5_share) [] tX0_isThere kX5_123 dX5_share_4 ⟨by decide, rfl, _, _, rfl⟩ ⟨by decide, by decide⟩ rfl (Nat.le_of_ble_eq_true rfl) rfl (s_X0_isThere isC1 C) ?_
  refine z_if_ne 13 dX5_share_7 (by decide) (bi_r _) (fun c7 => ?_) (fun c7 => ?_)
  · have c7 := bi_ne.mp c7
    refine z_iload_n dX5_share_13 rfl ?_
    refine z_callS_eI (M := mX5_share) [_] tX5_isChain kX5_150 dX5_share_14 ⟨by decide, by decide⟩ rfl (Nat.le_of_ble_eq_true rfl) rfl (c_X5_isChain (by omega)) ?_
    refine z_if_eq 29 dX5_share_17 (by decide) (bi_r _) (fun c17 => ?_) (fun c17 => ?_)
    · have c17 := bi_eq.mp c17
      omega
    · have c17 := bi_ne.mp c17
      refine z_iload_n dX5_share_20 rfl ?_
      refine z_if_lt 29 dX5_share_21 (by decide) (by omega) (fun c21 => ?_) (fun c21 => ?_)
      · omega
      · refine z_iload_n dX5_share_24 rfl ?_
        refine z_iconst dX5_share_25 ?_
        refine z_icmp_le 32 dX5_share_26 (by decide) (by omega) (by omega) (fun c26 => ?_) (fun c26 => ?_)
        · refine z_aload_n dX5_share_32 rfl ?_
          refine z_getR fX5_10 dX5_share_33 (by decide) rfl rfl ?_
          refine z_iload_n dX5_share_36 rfl ?_
          refine z_callV_eI (M := mX5_share) [_] tX0_numbersNotZero kX5_166 dX5_share_37 ⟨by decide, rfl, _, _, rfl⟩ ⟨by decide, by decide⟩ rfl (Nat.le_of_ble_eq_true rfl) rfl (c_X0_numbersNotZero isC1 W C hc) ?_
          have n9 := nnz_r σ c w2
          refine z_if_ne 46 dX5_share_40 (by decide) (by omega) (fun c40 => ?_) (fun c40 => ?_)
          · refine z_aload_n dX5_share_46 rfl ?_
            refine z_getR fX5_43 dX5_share_47 (by decide) rfl rfl ?_
            refine z_aload_n dX5_share_50 rfl ?_
            refine z_getR fX5_10 dX5_share_51 (by decide) rfl rfl ?_
            refine z_iload_n dX5_share_54 rfl ?_
            refine z_iconst dX5_share_55 ?_
            refine z_callV_V (M := mX5_share) [_, _, _] tX2_take kX5_234 dX5_share_56 ⟨by decide, rfl, _, _, rfl⟩ ⟨by decide, by decide⟩ rfl (Nat.le_of_ble_eq_true rfl) rfl (c_X2_take3 W C hc) (fun h56 q56 => ?_)
            obtain ⟨tG3, tE3, tM3, D3, y3, hV3, -, -, -, tY3⟩ := q56
            have y33 := (pv3.mp hV3).2
            refine z_aload_n dX5_share_59 rfl ?_
            refine z_getR fX5_43 dX5_share_60 (by decide) rfl rfl ?_
            refine z_callV_eL (M := mX5_share) [] tX2_lengthAbove kX5_251 dX5_share_63 ⟨by decide, rfl, _, _, rfl⟩ ⟨by decide, by decide⟩ rfl (Nat.le_of_ble_eq_true rfl) rfl (c_X2_lengthAbove (E := sE σ) tE3 w2) ?_
            rw [tk_len tM3 (fun e he => (tY3 e he).trans (y33 e he))]
            refine z_lstore_n dX5_share_66 (by decide) rfl ?_
            refine z_aload_n dX5_share_67 rfl ?_
            refine z_getR fX5_43 dX5_share_68 (by decide) rfl rfl ?_
            refine z_aload_n dX5_share_71 rfl ?_
            refine z_getR fX5_10 dX5_share_72 (by decide) rfl rfl ?_
            refine z_iload_n dX5_share_75 rfl ?_
            refine z_iload_n dX5_share_76 rfl ?_
            refine z_callV_V (M := mX5_share) [_, _, _] tX2_take kX5_234 dX5_share_77 ⟨by decide, rfl, _, _, rfl⟩ ⟨by decide, by decide⟩ rfl (Nat.le_of_ble_eq_true rfl) rfl (c_X2_take0 W (GS.rc tG3 C) hc) (fun h77 q77 => ?_)
            obtain ⟨tG, tE, tM, D, y, hV, d0, dB, tD, tY⟩ := q77
            have pb := pv_b W hc (by decide) hV
            have dcb : (D * (ipw (sE σ) (msr σ) (sch σ c) (sch σ c))).natAbs ≤ 2 ^ 50 * 2916 := by
              rw [Int.natAbs_mul]
              exact Nat.mul_le_mul dB (by omega)
            have dcp := Int.mul_pos d0 C0
            have lw := LW.of (a := (ipw (sE σ) (msr σ) y (sch σ c))) dcp
            have lb := lw.bd (by omega)
            have lp := lw.1
            refine z_aload_n dX5_share_80 rfl ?_
            refine z_getR fX5_43 dX5_share_81 (by decide) rfl rfl ?_
            refine z_callV_eL (M := mX5_share) [] tX2_lengthAbove kX5_251 dX5_share_84 ⟨by decide, rfl, _, _, rfl⟩ ⟨by decide, by decide⟩ rfl (Nat.le_of_ble_eq_true rfl) rfl (c_X2_lengthAbove (E := sE σ) tE w2) ?_
            rw [tk_len tM tY]
            refine z_aload_n dX5_share_87 rfl ?_
            refine z_getR fX5_43 dX5_share_88 (by decide) rfl rfl ?_
            refine z_callV_eL (M := mX5_share) [] tX2_below kX5_241 dX5_share_91 ⟨by decide, rfl, _, _, rfl⟩ ⟨by decide, by decide⟩ rfl (Nat.le_of_ble_eq_true rfl) rfl c_X2_below ?_
            rw [tD]
            refine z_lload_n dX5_share_94 rfl ?_
            refine z_lmul dX5_share_95 ?_
            refine z_iconst dX5_share_96 ?_
            refine z_callS_eL (M := mX5_share) [_, _, _] tX5_lowestTerm kX5_245 dX5_share_97 ⟨by decide, by decide⟩ rfl (Nat.le_of_ble_eq_true rfl) rfl (c_X5_lowestTerm0 (a := (ipw (sE σ) (msr σ) y (sch σ c))) (b := D * (ipw (sE σ) (msr σ) (sch σ c) (sch σ c))) (by omega) (by omega) (by omega)) ?_
            refine z_l2f dX5_share_100 ?_
            refine z_fstore dX5_share_101 (by decide) rfl ?_
            refine z_aload_n dX5_share_103 rfl ?_
            refine z_getR fX5_43 dX5_share_104 (by decide) rfl rfl ?_
            refine z_callV_eL (M := mX5_share) [] tX2_lengthAbove kX5_251 dX5_share_107 ⟨by decide, rfl, _, _, rfl⟩ ⟨by decide, by decide⟩ rfl (Nat.le_of_ble_eq_true rfl) rfl (c_X2_lengthAbove (E := sE σ) tE w2) ?_
            rw [tk_len tM tY]
            refine z_aload_n dX5_share_110 rfl ?_
            refine z_getR fX5_43 dX5_share_111 (by decide) rfl rfl ?_
            refine z_callV_eL (M := mX5_share) [] tX2_below kX5_241 dX5_share_114 ⟨by decide, rfl, _, _, rfl⟩ ⟨by decide, by decide⟩ rfl (Nat.le_of_ble_eq_true rfl) rfl c_X2_below ?_
            rw [tD]
            refine z_lload_n dX5_share_117 rfl ?_
            refine z_lmul dX5_share_118 ?_
            refine z_iconst dX5_share_119 ?_
            refine z_callS_eL (M := mX5_share) [_, _, _] tX5_lowestTerm kX5_245 dX5_share_120 ⟨by decide, by decide⟩ rfl (Nat.le_of_ble_eq_true rfl) rfl (c_X5_lowestTerm1 (a := (ipw (sE σ) (msr σ) y (sch σ c))) (b := D * (ipw (sE σ) (msr σ) (sch σ c) (sch σ c))) (by omega) (by omega) (by omega)) ?_
            refine z_l2f dX5_share_123 ?_
            refine z_fstore dX5_share_124 (by decide) rfl ?_
            refine z_fload dX5_share_126 rfl ?_
            refine z_fconst0 dX5_share_128 ?_
            refine z_fcmp dX5_share_129 ?_
            rw [fcmp_pos (by omega) lp, show (Op.cmpValue (some Ordering.gt) .l).toInt = 1 from by decide]
            refine z_if_le 146 dX5_share_130 (by decide) (by omega) (fun c130 => ?_) (fun c130 => ?_)
            · omega
            · refine z_fload dX5_share_133 rfl ?_
              refine z_fload dX5_share_135 rfl ?_
              refine z_fdiv dX5_share_137 (shv_n1 (by omega) (by omega) (by omega)) ?_
              refine z_ldcwf dX5_share_138 qX5_256 ?_
              refine z_fmul dX5_share_141 (shv_n2 (by omega) (by omega) (by omega)) ?_
              refine z_f2i dX5_share_142 ?_
              refine z_goto 148 dX5_share_143 (by decide) ?_
              exact z_ireturn dX5_share_148 rfl (hQ _ _ ⟨_, rfl, ⟨GS.tr tG3 tG, D, y, _, _, hV, lw, rfl⟩⟩)
          · omega
        · omega
  · have c7 := bi_eq.mp c7
    omega
set_option maxRecDepth 100000 in
set_option maxHeartbeats 4000000 in
theorem c_X5_share1 {g : GG} {h : HH} {σ : SG} (W : WF σ) (C : RC (h 2) σ) {c : Nat} (hc : c < 3) (h0 : 0 < sP σ) (hn : nnz σ c ≠ 0) : CnI mX5_share g [vr 0, vi (c : Int), vi 1] h (fun z h' => GS h h' ∧ SHz σ c 1 z) := by
  refine cn_q (lv := [vr 0, vi (c : Int), vi 1, vx, vx, vx, vx]) tX5_share.1 rfl rfl (fun hR Q hQ => ?_)
  have w1 := W.1
  have w2 := W.2.1
  have w3 := W.2.2.1
  have C0 := cc_nz W hn
  have C1 := (cc_r W hc).2
  refine z_aload_n dX5_share_0 rfl ?_
  refine z_getR fX5_10 dX5_share_1 (by decide) rfl rfl ?_
  refine z_callV_eI (M := mX5_share) [] tX0_isThere kX5_123 dX5_share_4 ⟨by decide, rfl, _, _, rfl⟩ ⟨by decide, by decide⟩ rfl (Nat.le_of_ble_eq_true rfl) rfl (s_X0_isThere isC1 C) ?_
  refine z_if_ne 13 dX5_share_7 (by decide) (bi_r _) (fun c7 => ?_) (fun c7 => ?_)
  · have c7 := bi_ne.mp c7
    refine z_iload_n dX5_share_13 rfl ?_
    refine z_callS_eI (M := mX5_share) [_] tX5_isChain kX5_150 dX5_share_14 ⟨by decide, by decide⟩ rfl (Nat.le_of_ble_eq_true rfl) rfl (c_X5_isChain (by omega)) ?_
    refine z_if_eq 29 dX5_share_17 (by decide) (bi_r _) (fun c17 => ?_) (fun c17 => ?_)
    · have c17 := bi_eq.mp c17
      omega
    · have c17 := bi_ne.mp c17
      refine z_iload_n dX5_share_20 rfl ?_
      refine z_if_lt 29 dX5_share_21 (by decide) (by omega) (fun c21 => ?_) (fun c21 => ?_)
      · omega
      · refine z_iload_n dX5_share_24 rfl ?_
        refine z_iconst dX5_share_25 ?_
        refine z_icmp_le 32 dX5_share_26 (by decide) (by omega) (by omega) (fun c26 => ?_) (fun c26 => ?_)
        · refine z_aload_n dX5_share_32 rfl ?_
          refine z_getR fX5_10 dX5_share_33 (by decide) rfl rfl ?_
          refine z_iload_n dX5_share_36 rfl ?_
          refine z_callV_eI (M := mX5_share) [_] tX0_numbersNotZero kX5_166 dX5_share_37 ⟨by decide, rfl, _, _, rfl⟩ ⟨by decide, by decide⟩ rfl (Nat.le_of_ble_eq_true rfl) rfl (c_X0_numbersNotZero isC1 W C hc) ?_
          have n9 := nnz_r σ c w2
          refine z_if_ne 46 dX5_share_40 (by decide) (by omega) (fun c40 => ?_) (fun c40 => ?_)
          · refine z_aload_n dX5_share_46 rfl ?_
            refine z_getR fX5_43 dX5_share_47 (by decide) rfl rfl ?_
            refine z_aload_n dX5_share_50 rfl ?_
            refine z_getR fX5_10 dX5_share_51 (by decide) rfl rfl ?_
            refine z_iload_n dX5_share_54 rfl ?_
            refine z_iconst dX5_share_55 ?_
            refine z_callV_V (M := mX5_share) [_, _, _] tX2_take kX5_234 dX5_share_56 ⟨by decide, rfl, _, _, rfl⟩ ⟨by decide, by decide⟩ rfl (Nat.le_of_ble_eq_true rfl) rfl (c_X2_take3 W C hc) (fun h56 q56 => ?_)
            obtain ⟨tG3, tE3, tM3, D3, y3, hV3, -, -, -, tY3⟩ := q56
            have y33 := (pv3.mp hV3).2
            refine z_aload_n dX5_share_59 rfl ?_
            refine z_getR fX5_43 dX5_share_60 (by decide) rfl rfl ?_
            refine z_callV_eL (M := mX5_share) [] tX2_lengthAbove kX5_251 dX5_share_63 ⟨by decide, rfl, _, _, rfl⟩ ⟨by decide, by decide⟩ rfl (Nat.le_of_ble_eq_true rfl) rfl (c_X2_lengthAbove (E := sE σ) tE3 w2) ?_
            rw [tk_len tM3 (fun e he => (tY3 e he).trans (y33 e he))]
            refine z_lstore_n dX5_share_66 (by decide) rfl ?_
            refine z_aload_n dX5_share_67 rfl ?_
            refine z_getR fX5_43 dX5_share_68 (by decide) rfl rfl ?_
            refine z_aload_n dX5_share_71 rfl ?_
            refine z_getR fX5_10 dX5_share_72 (by decide) rfl rfl ?_
            refine z_iload_n dX5_share_75 rfl ?_
            refine z_iload_n dX5_share_76 rfl ?_
            refine z_callV_V (M := mX5_share) [_, _, _] tX2_take kX5_234 dX5_share_77 ⟨by decide, rfl, _, _, rfl⟩ ⟨by decide, by decide⟩ rfl (Nat.le_of_ble_eq_true rfl) rfl (c_X2_take1 W (GS.rc tG3 C) hc) (fun h77 q77 => ?_)
            obtain ⟨tG, tE, tM, D, y, hV, d0, dB, tD, tY⟩ := q77
            have pb := pv_b W hc (by decide) hV
            have dcb : (D * (ipw (sE σ) (msr σ) (sch σ c) (sch σ c))).natAbs ≤ 2 ^ 50 * 2916 := by
              rw [Int.natAbs_mul]
              exact Nat.mul_le_mul dB (by omega)
            have dcp := Int.mul_pos d0 C0
            have lw := LW.of (a := (ipw (sE σ) (msr σ) y (sch σ c))) dcp
            have lb := lw.bd (by omega)
            have lp := lw.1
            refine z_aload_n dX5_share_80 rfl ?_
            refine z_getR fX5_43 dX5_share_81 (by decide) rfl rfl ?_
            refine z_callV_eL (M := mX5_share) [] tX2_lengthAbove kX5_251 dX5_share_84 ⟨by decide, rfl, _, _, rfl⟩ ⟨by decide, by decide⟩ rfl (Nat.le_of_ble_eq_true rfl) rfl (c_X2_lengthAbove (E := sE σ) tE w2) ?_
            rw [tk_len tM tY]
            refine z_aload_n dX5_share_87 rfl ?_
            refine z_getR fX5_43 dX5_share_88 (by decide) rfl rfl ?_
            refine z_callV_eL (M := mX5_share) [] tX2_below kX5_241 dX5_share_91 ⟨by decide, rfl, _, _, rfl⟩ ⟨by decide, by decide⟩ rfl (Nat.le_of_ble_eq_true rfl) rfl c_X2_below ?_
            rw [tD]
            refine z_lload_n dX5_share_94 rfl ?_
            refine z_lmul dX5_share_95 ?_
            refine z_iconst dX5_share_96 ?_
            refine z_callS_eL (M := mX5_share) [_, _, _] tX5_lowestTerm kX5_245 dX5_share_97 ⟨by decide, by decide⟩ rfl (Nat.le_of_ble_eq_true rfl) rfl (c_X5_lowestTerm0 (a := (ipw (sE σ) (msr σ) y (sch σ c))) (b := D * (ipw (sE σ) (msr σ) (sch σ c) (sch σ c))) (by omega) (by omega) (by omega)) ?_
            refine z_l2f dX5_share_100 ?_
            refine z_fstore dX5_share_101 (by decide) rfl ?_
            refine z_aload_n dX5_share_103 rfl ?_
            refine z_getR fX5_43 dX5_share_104 (by decide) rfl rfl ?_
            refine z_callV_eL (M := mX5_share) [] tX2_lengthAbove kX5_251 dX5_share_107 ⟨by decide, rfl, _, _, rfl⟩ ⟨by decide, by decide⟩ rfl (Nat.le_of_ble_eq_true rfl) rfl (c_X2_lengthAbove (E := sE σ) tE w2) ?_
            rw [tk_len tM tY]
            refine z_aload_n dX5_share_110 rfl ?_
            refine z_getR fX5_43 dX5_share_111 (by decide) rfl rfl ?_
            refine z_callV_eL (M := mX5_share) [] tX2_below kX5_241 dX5_share_114 ⟨by decide, rfl, _, _, rfl⟩ ⟨by decide, by decide⟩ rfl (Nat.le_of_ble_eq_true rfl) rfl c_X2_below ?_
            rw [tD]
            refine z_lload_n dX5_share_117 rfl ?_
            refine z_lmul dX5_share_118 ?_
            refine z_iconst dX5_share_119 ?_
            refine z_callS_eL (M := mX5_share) [_, _, _] tX5_lowestTerm kX5_245 dX5_share_120 ⟨by decide, by decide⟩ rfl (Nat.le_of_ble_eq_true rfl) rfl (c_X5_lowestTerm1 (a := (ipw (sE σ) (msr σ) y (sch σ c))) (b := D * (ipw (sE σ) (msr σ) (sch σ c) (sch σ c))) (by omega) (by omega) (by omega)) ?_
            refine z_l2f dX5_share_123 ?_
            refine z_fstore dX5_share_124 (by decide) rfl ?_
            refine z_fload dX5_share_126 rfl ?_
            refine z_fconst0 dX5_share_128 ?_
            refine z_fcmp dX5_share_129 ?_
            rw [fcmp_pos (by omega) lp, show (Op.cmpValue (some Ordering.gt) .l).toInt = 1 from by decide]
            refine z_if_le 146 dX5_share_130 (by decide) (by omega) (fun c130 => ?_) (fun c130 => ?_)
            · omega
            · refine z_fload dX5_share_133 rfl ?_
              refine z_fload dX5_share_135 rfl ?_
              refine z_fdiv dX5_share_137 (shv_n1 (by omega) (by omega) (by omega)) ?_
              refine z_ldcwf dX5_share_138 qX5_256 ?_
              refine z_fmul dX5_share_141 (shv_n2 (by omega) (by omega) (by omega)) ?_
              refine z_f2i dX5_share_142 ?_
              refine z_goto 148 dX5_share_143 (by decide) ?_
              exact z_ireturn dX5_share_148 rfl (hQ _ _ ⟨_, rfl, ⟨GS.tr tG3 tG, D, y, _, _, hV, lw, rfl⟩⟩)
          · omega
        · omega
  · have c7 := bi_eq.mp c7
    omega
set_option maxRecDepth 100000 in
set_option maxHeartbeats 4000000 in
theorem c_X5_share2 {g : GG} {h : HH} {σ : SG} (W : WF σ) (C : RC (h 2) σ) {c : Nat} (hc : c < 3) (h0 : 0 < sP σ) (hn : nnz σ c ≠ 0) : CnI mX5_share g [vr 0, vi (c : Int), vi 2] h (fun z h' => GS h h' ∧ SHz σ c 2 z) := by
  refine cn_q (lv := [vr 0, vi (c : Int), vi 2, vx, vx, vx, vx]) tX5_share.1 rfl rfl (fun hR Q hQ => ?_)
  have w1 := W.1
  have w2 := W.2.1
  have w3 := W.2.2.1
  have C0 := cc_nz W hn
  have C1 := (cc_r W hc).2
  refine z_aload_n dX5_share_0 rfl ?_
  refine z_getR fX5_10 dX5_share_1 (by decide) rfl rfl ?_
  refine z_callV_eI (M := mX5_share) [] tX0_isThere kX5_123 dX5_share_4 ⟨by decide, rfl, _, _, rfl⟩ ⟨by decide, by decide⟩ rfl (Nat.le_of_ble_eq_true rfl) rfl (s_X0_isThere isC1 C) ?_
  refine z_if_ne 13 dX5_share_7 (by decide) (bi_r _) (fun c7 => ?_) (fun c7 => ?_)
  · have c7 := bi_ne.mp c7
    refine z_iload_n dX5_share_13 rfl ?_
    refine z_callS_eI (M := mX5_share) [_] tX5_isChain kX5_150 dX5_share_14 ⟨by decide, by decide⟩ rfl (Nat.le_of_ble_eq_true rfl) rfl (c_X5_isChain (by omega)) ?_
    refine z_if_eq 29 dX5_share_17 (by decide) (bi_r _) (fun c17 => ?_) (fun c17 => ?_)
    · have c17 := bi_eq.mp c17
      omega
    · have c17 := bi_ne.mp c17
      refine z_iload_n dX5_share_20 rfl ?_
      refine z_if_lt 29 dX5_share_21 (by decide) (by omega) (fun c21 => ?_) (fun c21 => ?_)
      · omega
      · refine z_iload_n dX5_share_24 rfl ?_
        refine z_iconst dX5_share_25 ?_
        refine z_icmp_le 32 dX5_share_26 (by decide) (by omega) (by omega) (fun c26 => ?_) (fun c26 => ?_)
        · refine z_aload_n dX5_share_32 rfl ?_
          refine z_getR fX5_10 dX5_share_33 (by decide) rfl rfl ?_
          refine z_iload_n dX5_share_36 rfl ?_
          refine z_callV_eI (M := mX5_share) [_] tX0_numbersNotZero kX5_166 dX5_share_37 ⟨by decide, rfl, _, _, rfl⟩ ⟨by decide, by decide⟩ rfl (Nat.le_of_ble_eq_true rfl) rfl (c_X0_numbersNotZero isC1 W C hc) ?_
          have n9 := nnz_r σ c w2
          refine z_if_ne 46 dX5_share_40 (by decide) (by omega) (fun c40 => ?_) (fun c40 => ?_)
          · refine z_aload_n dX5_share_46 rfl ?_
            refine z_getR fX5_43 dX5_share_47 (by decide) rfl rfl ?_
            refine z_aload_n dX5_share_50 rfl ?_
            refine z_getR fX5_10 dX5_share_51 (by decide) rfl rfl ?_
            refine z_iload_n dX5_share_54 rfl ?_
            refine z_iconst dX5_share_55 ?_
            refine z_callV_V (M := mX5_share) [_, _, _] tX2_take kX5_234 dX5_share_56 ⟨by decide, rfl, _, _, rfl⟩ ⟨by decide, by decide⟩ rfl (Nat.le_of_ble_eq_true rfl) rfl (c_X2_take3 W C hc) (fun h56 q56 => ?_)
            obtain ⟨tG3, tE3, tM3, D3, y3, hV3, -, -, -, tY3⟩ := q56
            have y33 := (pv3.mp hV3).2
            refine z_aload_n dX5_share_59 rfl ?_
            refine z_getR fX5_43 dX5_share_60 (by decide) rfl rfl ?_
            refine z_callV_eL (M := mX5_share) [] tX2_lengthAbove kX5_251 dX5_share_63 ⟨by decide, rfl, _, _, rfl⟩ ⟨by decide, by decide⟩ rfl (Nat.le_of_ble_eq_true rfl) rfl (c_X2_lengthAbove (E := sE σ) tE3 w2) ?_
            rw [tk_len tM3 (fun e he => (tY3 e he).trans (y33 e he))]
            refine z_lstore_n dX5_share_66 (by decide) rfl ?_
            refine z_aload_n dX5_share_67 rfl ?_
            refine z_getR fX5_43 dX5_share_68 (by decide) rfl rfl ?_
            refine z_aload_n dX5_share_71 rfl ?_
            refine z_getR fX5_10 dX5_share_72 (by decide) rfl rfl ?_
            refine z_iload_n dX5_share_75 rfl ?_
            refine z_iload_n dX5_share_76 rfl ?_
            refine z_callV_V (M := mX5_share) [_, _, _] tX2_take kX5_234 dX5_share_77 ⟨by decide, rfl, _, _, rfl⟩ ⟨by decide, by decide⟩ rfl (Nat.le_of_ble_eq_true rfl) rfl (c_X2_take2 W (GS.rc tG3 C) hc) (fun h77 q77 => ?_)
            obtain ⟨tG, tE, tM, D, y, hV, d0, dB, tD, tY⟩ := q77
            have pb := pv_b W hc (by decide) hV
            have dcb : (D * (ipw (sE σ) (msr σ) (sch σ c) (sch σ c))).natAbs ≤ 2 ^ 50 * 2916 := by
              rw [Int.natAbs_mul]
              exact Nat.mul_le_mul dB (by omega)
            have dcp := Int.mul_pos d0 C0
            have lw := LW.of (a := (ipw (sE σ) (msr σ) y (sch σ c))) dcp
            have lb := lw.bd (by omega)
            have lp := lw.1
            refine z_aload_n dX5_share_80 rfl ?_
            refine z_getR fX5_43 dX5_share_81 (by decide) rfl rfl ?_
            refine z_callV_eL (M := mX5_share) [] tX2_lengthAbove kX5_251 dX5_share_84 ⟨by decide, rfl, _, _, rfl⟩ ⟨by decide, by decide⟩ rfl (Nat.le_of_ble_eq_true rfl) rfl (c_X2_lengthAbove (E := sE σ) tE w2) ?_
            rw [tk_len tM tY]
            refine z_aload_n dX5_share_87 rfl ?_
            refine z_getR fX5_43 dX5_share_88 (by decide) rfl rfl ?_
            refine z_callV_eL (M := mX5_share) [] tX2_below kX5_241 dX5_share_91 ⟨by decide, rfl, _, _, rfl⟩ ⟨by decide, by decide⟩ rfl (Nat.le_of_ble_eq_true rfl) rfl c_X2_below ?_
            rw [tD]
            refine z_lload_n dX5_share_94 rfl ?_
            refine z_lmul dX5_share_95 ?_
            refine z_iconst dX5_share_96 ?_
            refine z_callS_eL (M := mX5_share) [_, _, _] tX5_lowestTerm kX5_245 dX5_share_97 ⟨by decide, by decide⟩ rfl (Nat.le_of_ble_eq_true rfl) rfl (c_X5_lowestTerm0 (a := (ipw (sE σ) (msr σ) y (sch σ c))) (b := D * (ipw (sE σ) (msr σ) (sch σ c) (sch σ c))) (by omega) (by omega) (by omega)) ?_
            refine z_l2f dX5_share_100 ?_
            refine z_fstore dX5_share_101 (by decide) rfl ?_
            refine z_aload_n dX5_share_103 rfl ?_
            refine z_getR fX5_43 dX5_share_104 (by decide) rfl rfl ?_
            refine z_callV_eL (M := mX5_share) [] tX2_lengthAbove kX5_251 dX5_share_107 ⟨by decide, rfl, _, _, rfl⟩ ⟨by decide, by decide⟩ rfl (Nat.le_of_ble_eq_true rfl) rfl (c_X2_lengthAbove (E := sE σ) tE w2) ?_
            rw [tk_len tM tY]
            refine z_aload_n dX5_share_110 rfl ?_
            refine z_getR fX5_43 dX5_share_111 (by decide) rfl rfl ?_
            refine z_callV_eL (M := mX5_share) [] tX2_below kX5_241 dX5_share_114 ⟨by decide, rfl, _, _, rfl⟩ ⟨by decide, by decide⟩ rfl (Nat.le_of_ble_eq_true rfl) rfl c_X2_below ?_
            rw [tD]
            refine z_lload_n dX5_share_117 rfl ?_
            refine z_lmul dX5_share_118 ?_
            refine z_iconst dX5_share_119 ?_
            refine z_callS_eL (M := mX5_share) [_, _, _] tX5_lowestTerm kX5_245 dX5_share_120 ⟨by decide, by decide⟩ rfl (Nat.le_of_ble_eq_true rfl) rfl (c_X5_lowestTerm1 (a := (ipw (sE σ) (msr σ) y (sch σ c))) (b := D * (ipw (sE σ) (msr σ) (sch σ c) (sch σ c))) (by omega) (by omega) (by omega)) ?_
            refine z_l2f dX5_share_123 ?_
            refine z_fstore dX5_share_124 (by decide) rfl ?_
            refine z_fload dX5_share_126 rfl ?_
            refine z_fconst0 dX5_share_128 ?_
            refine z_fcmp dX5_share_129 ?_
            rw [fcmp_pos (by omega) lp, show (Op.cmpValue (some Ordering.gt) .l).toInt = 1 from by decide]
            refine z_if_le 146 dX5_share_130 (by decide) (by omega) (fun c130 => ?_) (fun c130 => ?_)
            · omega
            · refine z_fload dX5_share_133 rfl ?_
              refine z_fload dX5_share_135 rfl ?_
              refine z_fdiv dX5_share_137 (shv_n1 (by omega) (by omega) (by omega)) ?_
              refine z_ldcwf dX5_share_138 qX5_256 ?_
              refine z_fmul dX5_share_141 (shv_n2 (by omega) (by omega) (by omega)) ?_
              refine z_f2i dX5_share_142 ?_
              refine z_goto 148 dX5_share_143 (by decide) ?_
              exact z_ireturn dX5_share_148 rfl (hQ _ _ ⟨_, rfl, ⟨GS.tr tG3 tG, D, y, _, _, hV, lw, rfl⟩⟩)
          · omega
        · omega
  · have c7 := bi_eq.mp c7
    omega

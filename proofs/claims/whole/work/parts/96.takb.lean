set_option maxRecDepth 100000 in
set_option maxHeartbeats 4000000 in
theorem c_X6_shareS {g : GG} {h : HH} {σ : SG} (W : WF σ) (R : RM (h 48) σ) {c p : Int} (hc : R32 c) (hp : R32 p) (h0 : sP σ = 0) : CeI mX6_share g [vr 47, vi c, vi p] h kSTATE := by
  refine cn_q (lv := [vr 47, vi c, vi p, vx, vx, vx, vx, vx, vx, vx, vx, vx, vx, vx, vx]) tX6_share.1 rfl rfl (fun hR Q hQ => ?_)
  refine z_aload_n dX6_share_0 rfl ?_
  refine z_callV_eI (M := mX6_share) [] tX6_isComplex kX6_244 dX6_share_1 ⟨by decide, rfl, _, _, rfl⟩ ⟨by decide, by decide⟩ rfl (Nat.le_of_ble_eq_true rfl) rfl (c_X6_isComplex W.wb R) ?_
  refine z_if_ne 10 dX6_share_4 (by decide) (bi_r _) (fun c4 => ?_) (fun c4 => ?_)
  · have c4 := bi_ne.mp c4
    omega
  · have c4 := bi_eq.mp c4
    refine z_ldc (-1000002) dX6_share_7 qX6_241 rfl ?_
    exact z_ireturn dX6_share_9 rfl (hQ _ _ ⟨_, rfl, rfl, rfl⟩)
set_option maxRecDepth 100000 in
set_option maxHeartbeats 4000000 in
theorem c_X6_shareO {g : GG} {h : HH} {σ : SG} (W : WF σ) (R : RM (h 48) σ) {c p : Int} (hc : R32 c) (hp : R32 p) (h0 : 0 < sP σ) (ho : ¬ (0 ≤ c ∧ c < 3 ∧ 0 ≤ p ∧ p ≤ 2)) : CeI mX6_share g [vr 47, vi c, vi p] h kBAD := by
  refine cn_q (lv := [vr 47, vi c, vi p, vx, vx, vx, vx, vx, vx, vx, vx, vx, vx, vx, vx]) tX6_share.1 rfl rfl (fun hR Q hQ => ?_)
  refine z_aload_n dX6_share_0 rfl ?_
  refine z_callV_eI (M := mX6_share) [] tX6_isComplex kX6_244 dX6_share_1 ⟨by decide, rfl, _, _, rfl⟩ ⟨by decide, by decide⟩ rfl (Nat.le_of_ble_eq_true rfl) rfl (c_X6_isComplex W.wb R) ?_
  refine z_if_ne 10 dX6_share_4 (by decide) (bi_r _) (fun c4 => ?_) (fun c4 => ?_)
  · have c4 := bi_ne.mp c4
    refine z_iload_n dX6_share_10 rfl ?_
    refine z_i2l dX6_share_11 (by omega) ?_
    refine z_lconst (z := 0) dX6_share_12 rfl ?_
    refine z_ldc2 (2) dX6_share_13 qX6_242 rfl ?_
    refine z_callS_eI (M := mX6_share) [_, _, _] tX6_in kX6_150 dX6_share_16 ⟨by decide, by decide⟩ rfl (Nat.le_of_ble_eq_true rfl) rfl (c_X6_in (by omega) (by omega) (by omega)) ?_
    refine z_if_eq 34 dX6_share_19 (by decide) (bi_r _) (fun c19 => ?_) (fun c19 => ?_)
    · have c19 := bi_eq.mp c19
      refine z_ldc (-1000001) dX6_share_34 qX6_218 rfl ?_
      exact z_ireturn dX6_share_36 rfl (hQ _ _ ⟨_, rfl, rfl, rfl⟩)
    · have c19 := bi_ne.mp c19
      refine z_iload_n dX6_share_22 rfl ?_
      refine z_i2l dX6_share_23 (by omega) ?_
      refine z_lconst (z := 0) dX6_share_24 rfl ?_
      refine z_ldc2 (2) dX6_share_25 qX6_242 rfl ?_
      refine z_callS_eI (M := mX6_share) [_, _, _] tX6_in kX6_150 dX6_share_28 ⟨by decide, by decide⟩ rfl (Nat.le_of_ble_eq_true rfl) rfl (c_X6_in (by omega) (by omega) (by omega)) ?_
      refine z_if_ne 37 dX6_share_31 (by decide) (bi_r _) (fun c31 => ?_) (fun c31 => ?_)
      · have c31 := bi_ne.mp c31
        omega
      · have c31 := bi_eq.mp c31
        refine z_ldc (-1000001) dX6_share_34 qX6_218 rfl ?_
        exact z_ireturn dX6_share_36 rfl (hQ _ _ ⟨_, rfl, rfl, rfl⟩)
  · have c4 := bi_eq.mp c4
    omega
set_option maxRecDepth 100000 in
set_option maxHeartbeats 4000000 in
theorem c_X6_shareZ {g : GG} {h : HH} {σ : SG} (W : WF σ) (R : RM (h 48) σ) {c : Nat} (hc : c < 3) {p : Int} (hp : 0 ≤ p ∧ p ≤ 2) (h0 : 0 < sP σ) (hn : nnz σ c = 0) : CeI mX6_share g [vr 47, vi (c : Int), vi p] h kSTATE := by
  refine cn_q (lv := [vr 47, vi (c : Int), vi p, vx, vx, vx, vx, vx, vx, vx, vx, vx, vx, vx, vx]) tX6_share.1 rfl rfl (fun hR Q hQ => ?_)
  have w1 := W.1
  have w2 := W.2.1
  have w3 := W.2.2.1
  refine z_aload_n dX6_share_0 rfl ?_
  refine z_callV_eI (M := mX6_share) [] tX6_isComplex kX6_244 dX6_share_1 ⟨by decide, rfl, _, _, rfl⟩ ⟨by decide, by decide⟩ rfl (Nat.le_of_ble_eq_true rfl) rfl (c_X6_isComplex W.wb R) ?_
  refine z_if_ne 10 dX6_share_4 (by decide) (bi_r _) (fun c4 => ?_) (fun c4 => ?_)
  · have c4 := bi_ne.mp c4
    refine z_iload_n dX6_share_10 rfl ?_
    refine z_i2l dX6_share_11 (by omega) ?_
    refine z_lconst (z := 0) dX6_share_12 rfl ?_
    refine z_ldc2 (2) dX6_share_13 qX6_242 rfl ?_
    refine z_callS_eI (M := mX6_share) [_, _, _] tX6_in kX6_150 dX6_share_16 ⟨by decide, by decide⟩ rfl (Nat.le_of_ble_eq_true rfl) rfl (c_X6_in (by omega) (by omega) (by omega)) ?_
    refine z_if_eq 34 dX6_share_19 (by decide) (bi_r _) (fun c19 => ?_) (fun c19 => ?_)
    · have c19 := bi_eq.mp c19
      omega
    · have c19 := bi_ne.mp c19
      refine z_iload_n dX6_share_22 rfl ?_
      refine z_i2l dX6_share_23 (by omega) ?_
      refine z_lconst (z := 0) dX6_share_24 rfl ?_
      refine z_ldc2 (2) dX6_share_25 qX6_242 rfl ?_
      refine z_callS_eI (M := mX6_share) [_, _, _] tX6_in kX6_150 dX6_share_28 ⟨by decide, by decide⟩ rfl (Nat.le_of_ble_eq_true rfl) rfl (c_X6_in (by omega) (by omega) (by omega)) ?_
      refine z_if_ne 37 dX6_share_31 (by decide) (bi_r _) (fun c31 => ?_) (fun c31 => ?_)
      · have c31 := bi_ne.mp c31
        refine z_aload_n dX6_share_37 rfl ?_
        refine z_iload_n dX6_share_38 rfl ?_
        refine z_callV_eI (M := mX6_share) [_] tX6_others kX6_273 dX6_share_39 ⟨by decide, rfl, _, _, rfl⟩ ⟨by decide, by decide⟩ rfl (Nat.le_of_ble_eq_true rfl) rfl (c_X6_others W R hc) ?_
        have n9 := nnz_r σ c w2
        refine z_if_ne 48 dX6_share_42 (by decide) (by omega) (fun c42 => ?_) (fun c42 => ?_)
        · omega
        · refine z_ldc (-1000002) dX6_share_45 qX6_241 rfl ?_
          exact z_ireturn dX6_share_47 rfl (hQ _ _ ⟨_, rfl, rfl, rfl⟩)
      · have c31 := bi_eq.mp c31
        omega
  · have c4 := bi_eq.mp c4
    omega
set_option maxRecDepth 100000 in
set_option maxHeartbeats 4000000 in
theorem c_X6_share0 {g : GG} {h : HH} {σ : SG} (W : WF σ) (R : RM (h 48) σ) {c : Nat} (hc : c < 3) (h0 : 0 < sP σ) (hn : nnz σ c ≠ 0) : CnI mX6_share g [vr 47, vi (c : Int), vi 0] h (fun z h' => RFm h h' ∧ SHz σ c 0 z) := by
  refine cn_q (lv := [vr 47, vi (c : Int), vi 0, vx, vx, vx, vx, vx, vx, vx, vx, vx, vx, vx, vx]) tX6_share.1 rfl rfl (fun hR Q hQ => ?_)
  have w1 := W.1
  have w2 := W.2.1
  have w3 := W.2.2.1
  have C0 := cc_nz W hn
  have C1 := (cc_r W hc).2
  refine z_aload_n dX6_share_0 rfl ?_
  refine z_callV_eI (M := mX6_share) [] tX6_isComplex kX6_244 dX6_share_1 ⟨by decide, rfl, _, _, rfl⟩ ⟨by decide, by decide⟩ rfl (Nat.le_of_ble_eq_true rfl) rfl (c_X6_isComplex W.wb R) ?_
  refine z_if_ne 10 dX6_share_4 (by decide) (bi_r _) (fun c4 => ?_) (fun c4 => ?_)
  · have c4 := bi_ne.mp c4
    refine z_iload_n dX6_share_10 rfl ?_
    refine z_i2l dX6_share_11 (by omega) ?_
    refine z_lconst (z := 0) dX6_share_12 rfl ?_
    refine z_ldc2 (2) dX6_share_13 qX6_242 rfl ?_
    refine z_callS_eI (M := mX6_share) [_, _, _] tX6_in kX6_150 dX6_share_16 ⟨by decide, by decide⟩ rfl (Nat.le_of_ble_eq_true rfl) rfl (c_X6_in (by omega) (by omega) (by omega)) ?_
    refine z_if_eq 34 dX6_share_19 (by decide) (bi_r _) (fun c19 => ?_) (fun c19 => ?_)
    · have c19 := bi_eq.mp c19
      omega
    · have c19 := bi_ne.mp c19
      refine z_iload_n dX6_share_22 rfl ?_
      refine z_i2l dX6_share_23 (by omega) ?_
      refine z_lconst (z := 0) dX6_share_24 rfl ?_
      refine z_ldc2 (2) dX6_share_25 qX6_242 rfl ?_
      refine z_callS_eI (M := mX6_share) [_, _, _] tX6_in kX6_150 dX6_share_28 ⟨by decide, by decide⟩ rfl (Nat.le_of_ble_eq_true rfl) rfl (c_X6_in (by omega) (by omega) (by omega)) ?_
      refine z_if_ne 37 dX6_share_31 (by decide) (bi_r _) (fun c31 => ?_) (fun c31 => ?_)
      · have c31 := bi_ne.mp c31
        refine z_aload_n dX6_share_37 rfl ?_
        refine z_iload_n dX6_share_38 rfl ?_
        refine z_callV_eI (M := mX6_share) [_] tX6_others kX6_273 dX6_share_39 ⟨by decide, rfl, _, _, rfl⟩ ⟨by decide, by decide⟩ rfl (Nat.le_of_ble_eq_true rfl) rfl (c_X6_others W R hc) ?_
        have n9 := nnz_r σ c w2
        refine z_if_ne 48 dX6_share_42 (by decide) (by omega) (fun c42 => ?_) (fun c42 => ?_)
        · refine z_aload_n dX6_share_48 rfl ?_
          refine z_iload_n dX6_share_49 rfl ?_
          refine z_iconst dX6_share_50 ?_
          refine z_callV_V (M := mX6_share) [_, _] tX6_measures kX6_371 dX6_share_51 ⟨by decide, rfl, _, _, rfl⟩ ⟨by decide, by decide⟩ rfl (Nat.le_of_ble_eq_true rfl) rfl (c_X6_measures3 W R hc) (fun h51 q51 => ?_)
          obtain ⟨hF3, D3, y3, hV3, hB3, hL3⟩ := q51
          have k3 := ms3_lw hV3 hL3
          have R3 := hF3.rm R
          obtain ⟨a, ha⟩ : ∃ a, a = h51 47 23 := ⟨_, rfl⟩
          obtain ⟨b, hb⟩ : ∃ b, b = h51 47 22 := ⟨_, rfl⟩
          rw [← ha, ← hb] at k3
          have kb := k3.bd (by decide)
          refine z_aload_n dX6_share_54 rfl ?_
          refine z_getJ fX6_366 dX6_share_55 (by decide) rfl rfl (fun r55 => ?_)
          rw [← ha]
          refine z_lstore_n dX6_share_58 (by decide) rfl ?_
          refine z_aload_n dX6_share_59 rfl ?_
          refine z_getJ fX6_363 dX6_share_60 (by decide) rfl rfl (fun r60 => ?_)
          rw [← hb]
          refine z_lstore dX6_share_63 (by decide) rfl ?_
          refine z_aload_n dX6_share_65 rfl ?_
          refine z_iload_n dX6_share_66 rfl ?_
          refine z_iload_n dX6_share_67 rfl ?_
          refine z_callV_V (M := mX6_share) [_, _] tX6_measures kX6_371 dX6_share_68 ⟨by decide, rfl, _, _, rfl⟩ ⟨by decide, by decide⟩ rfl (Nat.le_of_ble_eq_true rfl) rfl (c_X6_measures0 W R3 hc) (fun h68 q68 => ?_)
          obtain ⟨hF, D, y, hV, hB, hL⟩ := q68
          obtain ⟨lA, hlA⟩ : ∃ a, a = h68 47 22 := ⟨_, rfl⟩
          obtain ⟨lB, hlB⟩ : ∃ b, b = h68 47 23 := ⟨_, rfl⟩
          rw [← hlA, ← hlB] at hL
          have d0 := pv_d (by decide) hV
          have lb := hL.bd (by omega)
          have pb := pv_b W hc (by decide) hV
          have e6 : (6 * D).natAbs = 6 * D.natAbs := by rw [Int.natAbs_mul]; rfl
          obtain ⟨s1, s2, s3, s4⟩ := sh_lw hL k3 C0
          have sb := s1.bd (Int.mul_ne_zero d0 (by omega))
          have dcb : (D * ipw (sE σ) (msr σ) (sch σ c) (sch σ c)).natAbs ≤ 2 ^ 41 * 2916 := by
            rw [Int.natAbs_mul]
            exact Nat.mul_le_mul hB (by omega)
          have l0 := hL.1
          have a0 := k3.1
          have g1 := gcd_b (a := lA) (b := b) (by omega)
          have g2 := gcd_b (a := a) (b := lB) (by omega)
          have sq := s1.1
          refine z_aload_n dX6_share_71 rfl ?_
          refine z_getJ fX6_363 dX6_share_72 (by decide) rfl rfl (fun r72 => ?_)
          rw [← hlA]
          refine z_lload dX6_share_75 rfl ?_
          refine z_callS_eL (M := mX6_share) [_, _] tX6_gcd kX6_117 dX6_share_77 ⟨by decide, by decide⟩ rfl (Nat.le_of_ble_eq_true rfl) rfl (c_X6_gcd (by omega) (by omega)) ?_
          refine z_lstore dX6_share_80 (by decide) rfl ?_
          refine z_lload_n dX6_share_82 rfl ?_
          refine z_aload_n dX6_share_83 rfl ?_
          refine z_getJ fX6_366 dX6_share_84 (by decide) rfl rfl (fun r84 => ?_)
          rw [← hlB]
          refine z_callS_eL (M := mX6_share) [_, _] tX6_gcd kX6_117 dX6_share_87 ⟨by decide, by decide⟩ rfl (Nat.le_of_ble_eq_true rfl) rfl (c_X6_gcd (by omega) (by omega)) ?_
          refine z_lstore dX6_share_90 (by decide) rfl ?_
          refine z_aload_n dX6_share_92 rfl ?_
          refine z_getJ fX6_363 dX6_share_93 (by decide) rfl rfl (fun r93 => ?_)
          rw [← hlA]
          refine z_lload dX6_share_96 rfl ?_
          refine z_ldiv dX6_share_98 (by omega) (by omega) (by omega) ?_
          refine z_lload_n dX6_share_99 rfl ?_
          refine z_lload dX6_share_100 rfl ?_
          refine z_ldiv dX6_share_102 (by omega) (by omega) (by omega) ?_
          refine z_lmul dX6_share_103 ?_
          refine z_lstore dX6_share_104 (by decide) rfl ?_
          refine z_lload dX6_share_106 rfl ?_
          refine z_lload dX6_share_108 rfl ?_
          refine z_ldiv dX6_share_110 (by omega) (by omega) (by omega) ?_
          refine z_aload_n dX6_share_111 rfl ?_
          refine z_getJ fX6_366 dX6_share_112 (by decide) rfl rfl (fun r112 => ?_)
          rw [← hlB]
          refine z_lload dX6_share_115 rfl ?_
          refine z_ldiv dX6_share_117 (by omega) (by omega) (by omega) ?_
          refine z_lmul dX6_share_118 ?_
          refine z_lstore dX6_share_119 (by decide) rfl ?_
          refine z_lload dX6_share_121 rfl ?_
          refine z_l2f dX6_share_123 ?_
          refine z_lload dX6_share_124 rfl ?_
          refine z_l2f dX6_share_126 ?_
          refine z_fdiv dX6_share_127 (shv_n1 (by omega) (by omega) (by omega)) ?_
          refine z_ldcwf dX6_share_128 qX6_374 ?_
          refine z_fmul dX6_share_131 (shv_n2 (by omega) (by omega) (by omega)) ?_
          refine z_f2i dX6_share_132 ?_
          exact z_ireturn dX6_share_133 rfl (hQ _ _ ⟨_, rfl, ⟨hF3.tr hF, D, y, _, _, hV, s1, rfl⟩⟩)
        · omega
      · have c31 := bi_eq.mp c31
        omega
  · have c4 := bi_eq.mp c4
    omega
set_option maxRecDepth 100000 in
set_option maxHeartbeats 4000000 in
theorem c_X6_share1 {g : GG} {h : HH} {σ : SG} (W : WF σ) (R : RM (h 48) σ) {c : Nat} (hc : c < 3) (h0 : 0 < sP σ) (hn : nnz σ c ≠ 0) : CnI mX6_share g [vr 47, vi (c : Int), vi 1] h (fun z h' => RFm h h' ∧ SHz σ c 1 z) := by
  refine cn_q (lv := [vr 47, vi (c : Int), vi 1, vx, vx, vx, vx, vx, vx, vx, vx, vx, vx, vx, vx]) tX6_share.1 rfl rfl (fun hR Q hQ => ?_)
  have w1 := W.1
  have w2 := W.2.1
  have w3 := W.2.2.1
  have C0 := cc_nz W hn
  have C1 := (cc_r W hc).2
  refine z_aload_n dX6_share_0 rfl ?_
  refine z_callV_eI (M := mX6_share) [] tX6_isComplex kX6_244 dX6_share_1 ⟨by decide, rfl, _, _, rfl⟩ ⟨by decide, by decide⟩ rfl (Nat.le_of_ble_eq_true rfl) rfl (c_X6_isComplex W.wb R) ?_
  refine z_if_ne 10 dX6_share_4 (by decide) (bi_r _) (fun c4 => ?_) (fun c4 => ?_)
  · have c4 := bi_ne.mp c4
    refine z_iload_n dX6_share_10 rfl ?_
    refine z_i2l dX6_share_11 (by omega) ?_
    refine z_lconst (z := 0) dX6_share_12 rfl ?_
    refine z_ldc2 (2) dX6_share_13 qX6_242 rfl ?_
    refine z_callS_eI (M := mX6_share) [_, _, _] tX6_in kX6_150 dX6_share_16 ⟨by decide, by decide⟩ rfl (Nat.le_of_ble_eq_true rfl) rfl (c_X6_in (by omega) (by omega) (by omega)) ?_
    refine z_if_eq 34 dX6_share_19 (by decide) (bi_r _) (fun c19 => ?_) (fun c19 => ?_)
    · have c19 := bi_eq.mp c19
      omega
    · have c19 := bi_ne.mp c19
      refine z_iload_n dX6_share_22 rfl ?_
      refine z_i2l dX6_share_23 (by omega) ?_
      refine z_lconst (z := 0) dX6_share_24 rfl ?_
      refine z_ldc2 (2) dX6_share_25 qX6_242 rfl ?_
      refine z_callS_eI (M := mX6_share) [_, _, _] tX6_in kX6_150 dX6_share_28 ⟨by decide, by decide⟩ rfl (Nat.le_of_ble_eq_true rfl) rfl (c_X6_in (by omega) (by omega) (by omega)) ?_
      refine z_if_ne 37 dX6_share_31 (by decide) (bi_r _) (fun c31 => ?_) (fun c31 => ?_)
      · have c31 := bi_ne.mp c31
        refine z_aload_n dX6_share_37 rfl ?_
        refine z_iload_n dX6_share_38 rfl ?_
        refine z_callV_eI (M := mX6_share) [_] tX6_others kX6_273 dX6_share_39 ⟨by decide, rfl, _, _, rfl⟩ ⟨by decide, by decide⟩ rfl (Nat.le_of_ble_eq_true rfl) rfl (c_X6_others W R hc) ?_
        have n9 := nnz_r σ c w2
        refine z_if_ne 48 dX6_share_42 (by decide) (by omega) (fun c42 => ?_) (fun c42 => ?_)
        · refine z_aload_n dX6_share_48 rfl ?_
          refine z_iload_n dX6_share_49 rfl ?_
          refine z_iconst dX6_share_50 ?_
          refine z_callV_V (M := mX6_share) [_, _] tX6_measures kX6_371 dX6_share_51 ⟨by decide, rfl, _, _, rfl⟩ ⟨by decide, by decide⟩ rfl (Nat.le_of_ble_eq_true rfl) rfl (c_X6_measures3 W R hc) (fun h51 q51 => ?_)
          obtain ⟨hF3, D3, y3, hV3, hB3, hL3⟩ := q51
          have k3 := ms3_lw hV3 hL3
          have R3 := hF3.rm R
          obtain ⟨a, ha⟩ : ∃ a, a = h51 47 23 := ⟨_, rfl⟩
          obtain ⟨b, hb⟩ : ∃ b, b = h51 47 22 := ⟨_, rfl⟩
          rw [← ha, ← hb] at k3
          have kb := k3.bd (by decide)
          refine z_aload_n dX6_share_54 rfl ?_
          refine z_getJ fX6_366 dX6_share_55 (by decide) rfl rfl (fun r55 => ?_)
          rw [← ha]
          refine z_lstore_n dX6_share_58 (by decide) rfl ?_
          refine z_aload_n dX6_share_59 rfl ?_
          refine z_getJ fX6_363 dX6_share_60 (by decide) rfl rfl (fun r60 => ?_)
          rw [← hb]
          refine z_lstore dX6_share_63 (by decide) rfl ?_
          refine z_aload_n dX6_share_65 rfl ?_
          refine z_iload_n dX6_share_66 rfl ?_
          refine z_iload_n dX6_share_67 rfl ?_
          refine z_callV_V (M := mX6_share) [_, _] tX6_measures kX6_371 dX6_share_68 ⟨by decide, rfl, _, _, rfl⟩ ⟨by decide, by decide⟩ rfl (Nat.le_of_ble_eq_true rfl) rfl (c_X6_measures1 W R3 hc) (fun h68 q68 => ?_)
          obtain ⟨hF, D, y, hV, hB, hL⟩ := q68
          obtain ⟨lA, hlA⟩ : ∃ a, a = h68 47 22 := ⟨_, rfl⟩
          obtain ⟨lB, hlB⟩ : ∃ b, b = h68 47 23 := ⟨_, rfl⟩
          rw [← hlA, ← hlB] at hL
          have d0 := pv_d (by decide) hV
          have lb := hL.bd (by omega)
          have pb := pv_b W hc (by decide) hV
          have e6 : (6 * D).natAbs = 6 * D.natAbs := by rw [Int.natAbs_mul]; rfl
          obtain ⟨s1, s2, s3, s4⟩ := sh_lw hL k3 C0
          have sb := s1.bd (Int.mul_ne_zero d0 (by omega))
          have dcb : (D * ipw (sE σ) (msr σ) (sch σ c) (sch σ c)).natAbs ≤ 2 ^ 41 * 2916 := by
            rw [Int.natAbs_mul]
            exact Nat.mul_le_mul hB (by omega)
          have l0 := hL.1
          have a0 := k3.1
          have g1 := gcd_b (a := lA) (b := b) (by omega)
          have g2 := gcd_b (a := a) (b := lB) (by omega)
          have sq := s1.1
          refine z_aload_n dX6_share_71 rfl ?_
          refine z_getJ fX6_363 dX6_share_72 (by decide) rfl rfl (fun r72 => ?_)
          rw [← hlA]
          refine z_lload dX6_share_75 rfl ?_
          refine z_callS_eL (M := mX6_share) [_, _] tX6_gcd kX6_117 dX6_share_77 ⟨by decide, by decide⟩ rfl (Nat.le_of_ble_eq_true rfl) rfl (c_X6_gcd (by omega) (by omega)) ?_
          refine z_lstore dX6_share_80 (by decide) rfl ?_
          refine z_lload_n dX6_share_82 rfl ?_
          refine z_aload_n dX6_share_83 rfl ?_
          refine z_getJ fX6_366 dX6_share_84 (by decide) rfl rfl (fun r84 => ?_)
          rw [← hlB]
          refine z_callS_eL (M := mX6_share) [_, _] tX6_gcd kX6_117 dX6_share_87 ⟨by decide, by decide⟩ rfl (Nat.le_of_ble_eq_true rfl) rfl (c_X6_gcd (by omega) (by omega)) ?_
          refine z_lstore dX6_share_90 (by decide) rfl ?_
          refine z_aload_n dX6_share_92 rfl ?_
          refine z_getJ fX6_363 dX6_share_93 (by decide) rfl rfl (fun r93 => ?_)
          rw [← hlA]
          refine z_lload dX6_share_96 rfl ?_
          refine z_ldiv dX6_share_98 (by omega) (by omega) (by omega) ?_
          refine z_lload_n dX6_share_99 rfl ?_
          refine z_lload dX6_share_100 rfl ?_
          refine z_ldiv dX6_share_102 (by omega) (by omega) (by omega) ?_
          refine z_lmul dX6_share_103 ?_
          refine z_lstore dX6_share_104 (by decide) rfl ?_
          refine z_lload dX6_share_106 rfl ?_
          refine z_lload dX6_share_108 rfl ?_
          refine z_ldiv dX6_share_110 (by omega) (by omega) (by omega) ?_
          refine z_aload_n dX6_share_111 rfl ?_
          refine z_getJ fX6_366 dX6_share_112 (by decide) rfl rfl (fun r112 => ?_)
          rw [← hlB]
          refine z_lload dX6_share_115 rfl ?_
          refine z_ldiv dX6_share_117 (by omega) (by omega) (by omega) ?_
          refine z_lmul dX6_share_118 ?_
          refine z_lstore dX6_share_119 (by decide) rfl ?_
          refine z_lload dX6_share_121 rfl ?_
          refine z_l2f dX6_share_123 ?_
          refine z_lload dX6_share_124 rfl ?_
          refine z_l2f dX6_share_126 ?_
          refine z_fdiv dX6_share_127 (shv_n1 (by omega) (by omega) (by omega)) ?_
          refine z_ldcwf dX6_share_128 qX6_374 ?_
          refine z_fmul dX6_share_131 (shv_n2 (by omega) (by omega) (by omega)) ?_
          refine z_f2i dX6_share_132 ?_
          exact z_ireturn dX6_share_133 rfl (hQ _ _ ⟨_, rfl, ⟨hF3.tr hF, D, y, _, _, hV, s1, rfl⟩⟩)
        · omega
      · have c31 := bi_eq.mp c31
        omega
  · have c4 := bi_eq.mp c4
    omega
set_option maxRecDepth 100000 in
set_option maxHeartbeats 4000000 in
theorem c_X6_share2 {g : GG} {h : HH} {σ : SG} (W : WF σ) (R : RM (h 48) σ) {c : Nat} (hc : c < 3) (h0 : 0 < sP σ) (hn : nnz σ c ≠ 0) : CnI mX6_share g [vr 47, vi (c : Int), vi 2] h (fun z h' => RFm h h' ∧ SHz σ c 2 z) := by
  refine cn_q (lv := [vr 47, vi (c : Int), vi 2, vx, vx, vx, vx, vx, vx, vx, vx, vx, vx, vx, vx]) tX6_share.1 rfl rfl (fun hR Q hQ => ?_)
  have w1 := W.1
  have w2 := W.2.1
  have w3 := W.2.2.1
  have C0 := cc_nz W hn
  have C1 := (cc_r W hc).2
  refine z_aload_n dX6_share_0 rfl ?_
  refine z_callV_eI (M := mX6_share) [] tX6_isComplex kX6_244 dX6_share_1 ⟨by decide, rfl, _, _, rfl⟩ ⟨by decide, by decide⟩ rfl (Nat.le_of_ble_eq_true rfl) rfl (c_X6_isComplex W.wb R) ?_
  refine z_if_ne 10 dX6_share_4 (by decide) (bi_r _) (fun c4 => ?_) (fun c4 => ?_)
  · have c4 := bi_ne.mp c4
    refine z_iload_n dX6_share_10 rfl ?_
    refine z_i2l dX6_share_11 (by omega) ?_
    refine z_lconst (z := 0) dX6_share_12 rfl ?_
    refine z_ldc2 (2) dX6_share_13 qX6_242 rfl ?_
    refine z_callS_eI (M := mX6_share) [_, _, _] tX6_in kX6_150 dX6_share_16 ⟨by decide, by decide⟩ rfl (Nat.le_of_ble_eq_true rfl) rfl (c_X6_in (by omega) (by omega) (by omega)) ?_
    refine z_if_eq 34 dX6_share_19 (by decide) (bi_r _) (fun c19 => ?_) (fun c19 => ?_)
    · have c19 := bi_eq.mp c19
      omega
    · have c19 := bi_ne.mp c19
      refine z_iload_n dX6_share_22 rfl ?_
      refine z_i2l dX6_share_23 (by omega) ?_
      refine z_lconst (z := 0) dX6_share_24 rfl ?_
      refine z_ldc2 (2) dX6_share_25 qX6_242 rfl ?_
      refine z_callS_eI (M := mX6_share) [_, _, _] tX6_in kX6_150 dX6_share_28 ⟨by decide, by decide⟩ rfl (Nat.le_of_ble_eq_true rfl) rfl (c_X6_in (by omega) (by omega) (by omega)) ?_
      refine z_if_ne 37 dX6_share_31 (by decide) (bi_r _) (fun c31 => ?_) (fun c31 => ?_)
      · have c31 := bi_ne.mp c31
        refine z_aload_n dX6_share_37 rfl ?_
        refine z_iload_n dX6_share_38 rfl ?_
        refine z_callV_eI (M := mX6_share) [_] tX6_others kX6_273 dX6_share_39 ⟨by decide, rfl, _, _, rfl⟩ ⟨by decide, by decide⟩ rfl (Nat.le_of_ble_eq_true rfl) rfl (c_X6_others W R hc) ?_
        have n9 := nnz_r σ c w2
        refine z_if_ne 48 dX6_share_42 (by decide) (by omega) (fun c42 => ?_) (fun c42 => ?_)
        · refine z_aload_n dX6_share_48 rfl ?_
          refine z_iload_n dX6_share_49 rfl ?_
          refine z_iconst dX6_share_50 ?_
          refine z_callV_V (M := mX6_share) [_, _] tX6_measures kX6_371 dX6_share_51 ⟨by decide, rfl, _, _, rfl⟩ ⟨by decide, by decide⟩ rfl (Nat.le_of_ble_eq_true rfl) rfl (c_X6_measures3 W R hc) (fun h51 q51 => ?_)
          obtain ⟨hF3, D3, y3, hV3, hB3, hL3⟩ := q51
          have k3 := ms3_lw hV3 hL3
          have R3 := hF3.rm R
          obtain ⟨a, ha⟩ : ∃ a, a = h51 47 23 := ⟨_, rfl⟩
          obtain ⟨b, hb⟩ : ∃ b, b = h51 47 22 := ⟨_, rfl⟩
          rw [← ha, ← hb] at k3
          have kb := k3.bd (by decide)
          refine z_aload_n dX6_share_54 rfl ?_
          refine z_getJ fX6_366 dX6_share_55 (by decide) rfl rfl (fun r55 => ?_)
          rw [← ha]
          refine z_lstore_n dX6_share_58 (by decide) rfl ?_
          refine z_aload_n dX6_share_59 rfl ?_
          refine z_getJ fX6_363 dX6_share_60 (by decide) rfl rfl (fun r60 => ?_)
          rw [← hb]
          refine z_lstore dX6_share_63 (by decide) rfl ?_
          refine z_aload_n dX6_share_65 rfl ?_
          refine z_iload_n dX6_share_66 rfl ?_
          refine z_iload_n dX6_share_67 rfl ?_
          refine z_callV_V (M := mX6_share) [_, _] tX6_measures kX6_371 dX6_share_68 ⟨by decide, rfl, _, _, rfl⟩ ⟨by decide, by decide⟩ rfl (Nat.le_of_ble_eq_true rfl) rfl (c_X6_measures2 W R3 hc) (fun h68 q68 => ?_)
          obtain ⟨hF, D, y, hV, hB, hL⟩ := q68
          obtain ⟨lA, hlA⟩ : ∃ a, a = h68 47 22 := ⟨_, rfl⟩
          obtain ⟨lB, hlB⟩ : ∃ b, b = h68 47 23 := ⟨_, rfl⟩
          rw [← hlA, ← hlB] at hL
          have d0 := pv_d (by decide) hV
          have lb := hL.bd (by omega)
          have pb := pv_b W hc (by decide) hV
          have e6 : (6 * D).natAbs = 6 * D.natAbs := by rw [Int.natAbs_mul]; rfl
          obtain ⟨s1, s2, s3, s4⟩ := sh_lw hL k3 C0
          have sb := s1.bd (Int.mul_ne_zero d0 (by omega))
          have dcb : (D * ipw (sE σ) (msr σ) (sch σ c) (sch σ c)).natAbs ≤ 2 ^ 41 * 2916 := by
            rw [Int.natAbs_mul]
            exact Nat.mul_le_mul hB (by omega)
          have l0 := hL.1
          have a0 := k3.1
          have g1 := gcd_b (a := lA) (b := b) (by omega)
          have g2 := gcd_b (a := a) (b := lB) (by omega)
          have sq := s1.1
          refine z_aload_n dX6_share_71 rfl ?_
          refine z_getJ fX6_363 dX6_share_72 (by decide) rfl rfl (fun r72 => ?_)
          rw [← hlA]
          refine z_lload dX6_share_75 rfl ?_
          refine z_callS_eL (M := mX6_share) [_, _] tX6_gcd kX6_117 dX6_share_77 ⟨by decide, by decide⟩ rfl (Nat.le_of_ble_eq_true rfl) rfl (c_X6_gcd (by omega) (by omega)) ?_
          refine z_lstore dX6_share_80 (by decide) rfl ?_
          refine z_lload_n dX6_share_82 rfl ?_
          refine z_aload_n dX6_share_83 rfl ?_
          refine z_getJ fX6_366 dX6_share_84 (by decide) rfl rfl (fun r84 => ?_)
          rw [← hlB]
          refine z_callS_eL (M := mX6_share) [_, _] tX6_gcd kX6_117 dX6_share_87 ⟨by decide, by decide⟩ rfl (Nat.le_of_ble_eq_true rfl) rfl (c_X6_gcd (by omega) (by omega)) ?_
          refine z_lstore dX6_share_90 (by decide) rfl ?_
          refine z_aload_n dX6_share_92 rfl ?_
          refine z_getJ fX6_363 dX6_share_93 (by decide) rfl rfl (fun r93 => ?_)
          rw [← hlA]
          refine z_lload dX6_share_96 rfl ?_
          refine z_ldiv dX6_share_98 (by omega) (by omega) (by omega) ?_
          refine z_lload_n dX6_share_99 rfl ?_
          refine z_lload dX6_share_100 rfl ?_
          refine z_ldiv dX6_share_102 (by omega) (by omega) (by omega) ?_
          refine z_lmul dX6_share_103 ?_
          refine z_lstore dX6_share_104 (by decide) rfl ?_
          refine z_lload dX6_share_106 rfl ?_
          refine z_lload dX6_share_108 rfl ?_
          refine z_ldiv dX6_share_110 (by omega) (by omega) (by omega) ?_
          refine z_aload_n dX6_share_111 rfl ?_
          refine z_getJ fX6_366 dX6_share_112 (by decide) rfl rfl (fun r112 => ?_)
          rw [← hlB]
          refine z_lload dX6_share_115 rfl ?_
          refine z_ldiv dX6_share_117 (by omega) (by omega) (by omega) ?_
          refine z_lmul dX6_share_118 ?_
          refine z_lstore dX6_share_119 (by decide) rfl ?_
          refine z_lload dX6_share_121 rfl ?_
          refine z_l2f dX6_share_123 ?_
          refine z_lload dX6_share_124 rfl ?_
          refine z_l2f dX6_share_126 ?_
          refine z_fdiv dX6_share_127 (shv_n1 (by omega) (by omega) (by omega)) ?_
          refine z_ldcwf dX6_share_128 qX6_374 ?_
          refine z_fmul dX6_share_131 (shv_n2 (by omega) (by omega) (by omega)) ?_
          refine z_f2i dX6_share_132 ?_
          exact z_ireturn dX6_share_133 rfl (hQ _ _ ⟨_, rfl, ⟨hF3.tr hF, D, y, _, _, hV, s1, rfl⟩⟩)
        · omega
      · have c31 := bi_eq.mp c31
        omega
  · have c4 := bi_eq.mp c4
    omega
set_option maxRecDepth 100000 in
set_option maxHeartbeats 4000000 in
theorem c_X2_aboveAt {g : GG} {h : HH} {e : Nat} (he : e < 6) : CeL mX2_aboveAt g [vr 18, vi (e : Int)] h (h 19 e) := by
  refine cn_q (lv := [vr 18, vi (e : Int)]) tX2_aboveAt.1 rfl rfl (fun hR Q hQ => ?_)
  refine z_iload_n dX2_aboveAt_0 rfl ?_
  refine z_aload_n dX2_aboveAt_1 rfl ?_
  refine z_getR fX2_9 dX2_aboveAt_2 (by decide) rfl rfl ?_
  refine z_alen2 dX2_aboveAt_5 (by decide) rfl ?_
  refine z_callN_eI (M := mX2_aboveAt) [_, _] tX5_isWithin (by decide) dX2_aboveAt_6 ⟨by decide, by decide⟩ rfl (Nat.le_of_ble_eq_true rfl) rfl (c_X5_isWithin (by omega) (by decide)) ?_
  refine z_if_eq 21 dX2_aboveAt_9 (by decide) (bi_r _) (fun c9 => ?_) (fun c9 => ?_)
  · have c9 := bi_eq.mp c9
    exact absurd ⟨by omega, by omega⟩ c9
  · have c9 := bi_ne.mp c9
    refine z_aload_n dX2_aboveAt_12 rfl ?_
    refine z_getR fX2_9 dX2_aboveAt_13 (by decide) rfl rfl ?_
    refine z_iload_n dX2_aboveAt_16 rfl ?_
    refine z_laload dX2_aboveAt_17 (by decide) rfl (by omega) (by omega) (by first | decide | omega) (fun r17 => ?_)
    refine z_goto 22 dX2_aboveAt_18 (by decide) ?_
    exact z_lreturn dX2_aboveAt_22 rfl (hQ _ _ ⟨_, rfl, rfl, rfl⟩)
set_option maxRecDepth 100000 in
set_option maxHeartbeats 4000000 in
theorem c_X2_below {g : GG} {h : HH}  : CeL mX2_below g [vr 18] h (h 18 1) := by
  refine cn_q (lv := [vr 18]) tX2_below.1 rfl rfl (fun hR Q hQ => ?_)
  refine z_aload_n dX2_below_0 rfl ?_
  refine z_getJ fX2_15 dX2_below_1 (by decide) rfl rfl (fun r1 => ?_)
  exact z_lreturn dX2_below_4 rfl (hQ _ _ ⟨_, rfl, rfl, rfl⟩)
set_option maxRecDepth 100000 in
set_option maxHeartbeats 4000000 in
theorem c_X2_lengthAbove {g : GG} {h : HH} {E : Nat} (hE : h 18 2 = (E : Int)) (hE6 : E ≤ 6) : CeL mX2_lengthAbove g [vr 18] h (ipw E (h 21) (h 19) (h 20)) := by
  refine cn_q (lv := [vr 18, vx, vx, vx]) tX2_lengthAbove.1 rfl rfl (fun hR Q hQ => ?_)
  refine z_lconst (z := 0) dX2_lengthAbove_0 rfl ?_
  refine z_lstore_n dX2_lengthAbove_1 (by decide) rfl ?_
  refine z_iconst dX2_lengthAbove_2 ?_
  refine z_istore_n dX2_lengthAbove_3 (by decide) rfl ?_
  have loop4 : ∀ (nL9 : Nat) (i : Nat), (i ≤ E) → E - i < nL9 → Z mX2_lengthAbove g 4 [vr 18, vl (ipw i (h 21) (h 19) (h 20)), vx, vi (i : Int)] [] h Q := by
    intro nL9
    induction nL9 with
    | zero => intro i hi hnL9; exact absurd hnL9 (Nat.not_lt_zero _)
    | succ nL9 ih4 =>
      intro i hi hnL9
      refine z_iload_n dX2_lengthAbove_4 rfl ?_
      refine z_aload_n dX2_lengthAbove_5 rfl ?_
      refine z_getI fX2_19 dX2_lengthAbove_6 (by decide) rfl rfl (fun r6 => ?_)
      rw [hE]
      refine z_icmp_ge 41 dX2_lengthAbove_9 (by decide) (by omega) (by omega) (fun c9 => ?_) (fun c9 => ?_)
      · refine z_lload_n dX2_lengthAbove_41 rfl ?_
        exact z_lreturn dX2_lengthAbove_42 rfl (hQ _ _ ⟨_, rfl, (by rw [show E = i from by omega]), rfl⟩)
      · refine z_lload_n dX2_lengthAbove_12 rfl ?_
        refine z_aload_n dX2_lengthAbove_13 rfl ?_
        refine z_getR fX2_9 dX2_lengthAbove_14 (by decide) rfl rfl ?_
        refine z_iload_n dX2_lengthAbove_17 rfl ?_
        refine z_laload dX2_lengthAbove_18 (by decide) rfl (by omega) (by omega) (by first | decide | omega) (fun r18 => ?_)
        refine z_aload_n dX2_lengthAbove_19 rfl ?_
        refine z_getR fX2_23 dX2_lengthAbove_20 (by decide) rfl rfl ?_
        refine z_iload_n dX2_lengthAbove_23 rfl ?_
        refine z_laload dX2_lengthAbove_24 (by decide) rfl (by omega) (by omega) (by first | decide | omega) (fun r24 => ?_)
        refine z_lmul dX2_lengthAbove_25 ?_
        refine z_aload_n dX2_lengthAbove_26 rfl ?_
        refine z_getR fX2_26 dX2_lengthAbove_27 (by decide) rfl rfl ?_
        refine z_iload_n dX2_lengthAbove_30 rfl ?_
        refine z_laload dX2_lengthAbove_31 (by decide) rfl (by omega) (by omega) (by first | decide | omega) (fun r31 => ?_)
        refine z_lmul dX2_lengthAbove_32 ?_
        refine z_ladd dX2_lengthAbove_33 ?_
        refine z_lstore_n dX2_lengthAbove_34 (by decide) rfl ?_
        refine z_iinc dX2_lengthAbove_35 rfl (by decide) rfl ?_
        refine z_goto 4 dX2_lengthAbove_38 (by decide) ?_
        exact ih4 (i + 1) (by omega) (by omega)
  exact loop4 _ 0 (by omega) (Nat.lt_succ_self _)

set_option maxRecDepth 100000 in
set_option maxHeartbeats 4000000 in
theorem c_X5_rankS {g : GG} {h : HH} {σ : SG} (W : WF σ) (C : RC (h 2) σ) {d p : Int} (hd : R32 d) (hp : R32 p) (h0 : sP σ = 0) : CeI mX5_rank g [vr 0, vi d, vi p] h kSTATE := by
  refine cn_q (lv := [vr 0, vi d, vi p]) tX5_rank.1 rfl rfl (fun hR Q hQ => ?_)
  refine z_aload_n dX5_rank_0 rfl ?_
  refine z_getR fX5_10 dX5_rank_1 (by decide) rfl rfl ?_
  refine z_callV_eI (M := mX5_rank) [] tX0_isThere kX5_123 dX5_rank_4 ⟨by decide, rfl, _, _, rfl⟩ ⟨by decide, by decide⟩ rfl (Nat.le_of_ble_eq_true rfl) rfl (s_X0_isThere isC1 C) ?_
  refine z_if_ne 13 dX5_rank_7 (by decide) (bi_r _) (fun c7 => ?_) (fun c7 => ?_)
  · have c7 := bi_ne.mp c7
    omega
  · have c7 := bi_eq.mp c7
    refine z_ldc (-1000002) dX5_rank_10 qX5_105 rfl ?_
    exact z_ireturn dX5_rank_12 rfl (hQ _ _ ⟨_, rfl, rfl, rfl⟩)
set_option maxRecDepth 100000 in
set_option maxHeartbeats 4000000 in
theorem c_X5_rankO {g : GG} {h : HH} {σ : SG} (W : WF σ) (C : RC (h 2) σ) {d p : Int} (hd : R32 d) (hp : R32 p) (h0 : 0 < sP σ) (ho : ¬ (1 ≤ d ∧ d ≤ 2 ∧ (p = 0 ∨ p = 2 ∨ p = 3 ∨ p = 5 ∨ p = 7))) : CeI mX5_rank g [vr 0, vi d, vi p] h kBAD := by
  refine cn_q (lv := [vr 0, vi d, vi p]) tX5_rank.1 rfl rfl (fun hR Q hQ => ?_)
  refine z_aload_n dX5_rank_0 rfl ?_
  refine z_getR fX5_10 dX5_rank_1 (by decide) rfl rfl ?_
  refine z_callV_eI (M := mX5_rank) [] tX0_isThere kX5_123 dX5_rank_4 ⟨by decide, rfl, _, _, rfl⟩ ⟨by decide, by decide⟩ rfl (Nat.le_of_ble_eq_true rfl) rfl (s_X0_isThere isC1 C) ?_
  refine z_if_ne 13 dX5_rank_7 (by decide) (bi_r _) (fun c7 => ?_) (fun c7 => ?_)
  · have c7 := bi_ne.mp c7
    refine z_iload_n dX5_rank_13 rfl ?_
    refine z_iconst dX5_rank_14 ?_
    refine z_icmp_lt 30 dX5_rank_15 (by decide) (by omega) (by omega) (fun c15 => ?_) (fun c15 => ?_)
    · refine z_ldc (-1000001) dX5_rank_30 qX5_65 rfl ?_
      exact z_ireturn dX5_rank_32 rfl (hQ _ _ ⟨_, rfl, rfl, rfl⟩)
    · refine z_iload_n dX5_rank_18 rfl ?_
      refine z_iconst dX5_rank_19 ?_
      refine z_icmp_gt 30 dX5_rank_20 (by decide) (by omega) (by omega) (fun c20 => ?_) (fun c20 => ?_)
      · refine z_ldc (-1000001) dX5_rank_30 qX5_65 rfl ?_
        exact z_ireturn dX5_rank_32 rfl (hQ _ _ ⟨_, rfl, rfl, rfl⟩)
      · refine z_iload_n dX5_rank_23 rfl ?_
        refine z_callS_eI (M := mX5_rank) [_] tX5_isField kX5_199 dX5_rank_24 ⟨by decide, by decide⟩ rfl (Nat.le_of_ble_eq_true rfl) rfl (c_X5_isField (by omega)) ?_
        refine z_if_ne 33 dX5_rank_27 (by decide) (bi_r _) (fun c27 => ?_) (fun c27 => ?_)
        · have c27 := bi_ne.mp c27
          exact absurd ⟨by omega, by omega, c27⟩ ho
        · have c27 := bi_eq.mp c27
          refine z_ldc (-1000001) dX5_rank_30 qX5_65 rfl ?_
          exact z_ireturn dX5_rank_32 rfl (hQ _ _ ⟨_, rfl, rfl, rfl⟩)
  · have c7 := bi_eq.mp c7
    omega
set_option maxRecDepth 100000 in
set_option maxHeartbeats 4000000 in
theorem c_X5_rank1 {g : GG} {h : HH} {σ : SG} (W : WF σ) (C : RC (h 2) σ) {p : Int} (hp : p = 0 ∨ p = 2 ∨ p = 3 ∨ p = 5 ∨ p = 7) (h0 : 0 < sP σ) : CnI mX5_rank g [vr 0, vi 1, vi p] h (fun z h' => GF h h' ∧ ∃ k : Nat, z = k ∧ k ≤ 6 ∧ Rk (ent1 σ) (sP σ) (2 ^ sE σ - 1) p k) := by
  refine cn_q (lv := [vr 0, vi 1, vi p]) tX5_rank.1 rfl rfl (fun hR Q hQ => ?_)
  refine z_aload_n dX5_rank_0 rfl ?_
  refine z_getR fX5_10 dX5_rank_1 (by decide) rfl rfl ?_
  refine z_callV_eI (M := mX5_rank) [] tX0_isThere kX5_123 dX5_rank_4 ⟨by decide, rfl, _, _, rfl⟩ ⟨by decide, by decide⟩ rfl (Nat.le_of_ble_eq_true rfl) rfl (s_X0_isThere isC1 C) ?_
  refine z_if_ne 13 dX5_rank_7 (by decide) (bi_r _) (fun c7 => ?_) (fun c7 => ?_)
  · have c7 := bi_ne.mp c7
    refine z_iload_n dX5_rank_13 rfl ?_
    refine z_iconst dX5_rank_14 ?_
    refine z_icmp_lt 30 dX5_rank_15 (by decide) (by omega) (by omega) (fun c15 => ?_) (fun c15 => ?_)
    · omega
    · refine z_iload_n dX5_rank_18 rfl ?_
      refine z_iconst dX5_rank_19 ?_
      refine z_icmp_gt 30 dX5_rank_20 (by decide) (by omega) (by omega) (fun c20 => ?_) (fun c20 => ?_)
      · omega
      · refine z_iload_n dX5_rank_23 rfl ?_
        refine z_callS_eI (M := mX5_rank) [_] tX5_isField kX5_199 dX5_rank_24 ⟨by decide, by decide⟩ rfl (Nat.le_of_ble_eq_true rfl) rfl (c_X5_isField (by omega)) ?_
        refine z_if_ne 33 dX5_rank_27 (by decide) (bi_r _) (fun c27 => ?_) (fun c27 => ?_)
        · have c27 := bi_ne.mp c27
          refine z_aload_n dX5_rank_33 rfl ?_
          refine z_iload_n dX5_rank_34 rfl ?_
          refine z_iload_n dX5_rank_35 rfl ?_
          refine z_callV_I (M := mX5_rank) [_, _] tX5_tableRank kX5_202 dX5_rank_36 ⟨by decide, rfl, _, _, rfl⟩ ⟨by decide, by decide⟩ rfl (Nat.le_of_ble_eq_true rfl) rfl (c_X5_tableRank1 W C (p := p) (by omega)) (fun z36 h36 q36 => ?_)
          exact z_ireturn dX5_rank_39 rfl (hQ _ _ ⟨_, rfl, q36⟩)
        · have c27 := bi_eq.mp c27
          exact absurd hp c27
  · have c7 := bi_eq.mp c7
    omega
set_option maxRecDepth 100000 in
set_option maxHeartbeats 4000000 in
theorem c_X5_rank2 {g : GG} {h : HH} {σ : SG} (W : WF σ) (C : RC (h 2) σ) {p : Int} (hp : p = 0 ∨ p = 2 ∨ p = 3 ∨ p = 5 ∨ p = 7) (h0 : 0 < sP σ) : CnI mX5_rank g [vr 0, vi 2, vi p] h (fun z h' => GF h h' ∧ ∃ k : Nat, z = k ∧ k ≤ 6 ∧ Rk (ent2 σ) (sE σ) (2 ^ sF σ - 1) p k) := by
  refine cn_q (lv := [vr 0, vi 2, vi p]) tX5_rank.1 rfl rfl (fun hR Q hQ => ?_)
  refine z_aload_n dX5_rank_0 rfl ?_
  refine z_getR fX5_10 dX5_rank_1 (by decide) rfl rfl ?_
  refine z_callV_eI (M := mX5_rank) [] tX0_isThere kX5_123 dX5_rank_4 ⟨by decide, rfl, _, _, rfl⟩ ⟨by decide, by decide⟩ rfl (Nat.le_of_ble_eq_true rfl) rfl (s_X0_isThere isC1 C) ?_
  refine z_if_ne 13 dX5_rank_7 (by decide) (bi_r _) (fun c7 => ?_) (fun c7 => ?_)
  · have c7 := bi_ne.mp c7
    refine z_iload_n dX5_rank_13 rfl ?_
    refine z_iconst dX5_rank_14 ?_
    refine z_icmp_lt 30 dX5_rank_15 (by decide) (by omega) (by omega) (fun c15 => ?_) (fun c15 => ?_)
    · omega
    · refine z_iload_n dX5_rank_18 rfl ?_
      refine z_iconst dX5_rank_19 ?_
      refine z_icmp_gt 30 dX5_rank_20 (by decide) (by omega) (by omega) (fun c20 => ?_) (fun c20 => ?_)
      · omega
      · refine z_iload_n dX5_rank_23 rfl ?_
        refine z_callS_eI (M := mX5_rank) [_] tX5_isField kX5_199 dX5_rank_24 ⟨by decide, by decide⟩ rfl (Nat.le_of_ble_eq_true rfl) rfl (c_X5_isField (by omega)) ?_
        refine z_if_ne 33 dX5_rank_27 (by decide) (bi_r _) (fun c27 => ?_) (fun c27 => ?_)
        · have c27 := bi_ne.mp c27
          refine z_aload_n dX5_rank_33 rfl ?_
          refine z_iload_n dX5_rank_34 rfl ?_
          refine z_iload_n dX5_rank_35 rfl ?_
          refine z_callV_I (M := mX5_rank) [_, _] tX5_tableRank kX5_202 dX5_rank_36 ⟨by decide, rfl, _, _, rfl⟩ ⟨by decide, by decide⟩ rfl (Nat.le_of_ble_eq_true rfl) rfl (c_X5_tableRank2 W C (p := p) (by omega)) (fun z36 h36 q36 => ?_)
          exact z_ireturn dX5_rank_39 rfl (hQ _ _ ⟨_, rfl, q36⟩)
        · have c27 := bi_eq.mp c27
          exact absurd hp c27
  · have c7 := bi_eq.mp c7
    omega
set_option maxRecDepth 100000 in
set_option maxHeartbeats 4000000 in
theorem c_X5_holesS {g : GG} {h : HH} {σ : SG} (W : WF σ) (C : RC (h 2) σ) {d p : Int} (hd : R32 d) (hp : R32 p) (h0 : sP σ = 0) : CeI mX5_holes g [vr 0, vi d, vi p] h kSTATE := by
  refine cn_q (lv := [vr 0, vi d, vi p, vx, vx]) tX5_holes.1 rfl rfl (fun hR Q hQ => ?_)
  refine z_aload_n dX5_holes_0 rfl ?_
  refine z_getR fX5_10 dX5_holes_1 (by decide) rfl rfl ?_
  refine z_callV_eI (M := mX5_holes) [] tX0_isThere kX5_123 dX5_holes_4 ⟨by decide, rfl, _, _, rfl⟩ ⟨by decide, by decide⟩ rfl (Nat.le_of_ble_eq_true rfl) rfl (s_X0_isThere isC1 C) ?_
  refine z_if_ne 13 dX5_holes_7 (by decide) (bi_r _) (fun c7 => ?_) (fun c7 => ?_)
  · have c7 := bi_ne.mp c7
    omega
  · have c7 := bi_eq.mp c7
    refine z_ldc (-1000002) dX5_holes_10 qX5_105 rfl ?_
    exact z_ireturn dX5_holes_12 rfl (hQ _ _ ⟨_, rfl, rfl, rfl⟩)
set_option maxRecDepth 100000 in
set_option maxHeartbeats 4000000 in
theorem c_X5_holesO {g : GG} {h : HH} {σ : SG} (W : WF σ) (C : RC (h 2) σ) {d p : Int} (hd : R32 d) (hp : R32 p) (h0 : 0 < sP σ) (ho : ¬ (0 ≤ d ∧ d ≤ 2 ∧ (p = 0 ∨ p = 2 ∨ p = 3 ∨ p = 5 ∨ p = 7))) : CeI mX5_holes g [vr 0, vi d, vi p] h kBAD := by
  refine cn_q (lv := [vr 0, vi d, vi p, vx, vx]) tX5_holes.1 rfl rfl (fun hR Q hQ => ?_)
  refine z_aload_n dX5_holes_0 rfl ?_
  refine z_getR fX5_10 dX5_holes_1 (by decide) rfl rfl ?_
  refine z_callV_eI (M := mX5_holes) [] tX0_isThere kX5_123 dX5_holes_4 ⟨by decide, rfl, _, _, rfl⟩ ⟨by decide, by decide⟩ rfl (Nat.le_of_ble_eq_true rfl) rfl (s_X0_isThere isC1 C) ?_
  refine z_if_ne 13 dX5_holes_7 (by decide) (bi_r _) (fun c7 => ?_) (fun c7 => ?_)
  · have c7 := bi_ne.mp c7
    refine z_iload_n dX5_holes_13 rfl ?_
    refine z_if_lt 29 dX5_holes_14 (by decide) (by omega) (fun c14 => ?_) (fun c14 => ?_)
    · refine z_ldc (-1000001) dX5_holes_29 qX5_65 rfl ?_
      exact z_ireturn dX5_holes_31 rfl (hQ _ _ ⟨_, rfl, rfl, rfl⟩)
    · refine z_iload_n dX5_holes_17 rfl ?_
      refine z_iconst dX5_holes_18 ?_
      refine z_icmp_gt 29 dX5_holes_19 (by decide) (by omega) (by omega) (fun c19 => ?_) (fun c19 => ?_)
      · refine z_ldc (-1000001) dX5_holes_29 qX5_65 rfl ?_
        exact z_ireturn dX5_holes_31 rfl (hQ _ _ ⟨_, rfl, rfl, rfl⟩)
      · refine z_iload_n dX5_holes_22 rfl ?_
        refine z_callS_eI (M := mX5_holes) [_] tX5_isField kX5_199 dX5_holes_23 ⟨by decide, by decide⟩ rfl (Nat.le_of_ble_eq_true rfl) rfl (c_X5_isField (by omega)) ?_
        refine z_if_ne 32 dX5_holes_26 (by decide) (bi_r _) (fun c26 => ?_) (fun c26 => ?_)
        · have c26 := bi_ne.mp c26
          exact absurd ⟨by omega, by omega, c26⟩ ho
        · have c26 := bi_eq.mp c26
          refine z_ldc (-1000001) dX5_holes_29 qX5_65 rfl ?_
          exact z_ireturn dX5_holes_31 rfl (hQ _ _ ⟨_, rfl, rfl, rfl⟩)
  · have c7 := bi_eq.mp c7
    omega
set_option maxRecDepth 100000 in
set_option maxHeartbeats 4000000 in
theorem c_X5_holes0 {g : GG} {h : HH} {σ : SG} (W : WF σ) (C : RC (h 2) σ) {p : Int} (hp : p = 0 ∨ p = 2 ∨ p = 3 ∨ p = 5 ∨ p = 7) (h0 : 0 < sP σ) : CnI mX5_holes g [vr 0, vi 0, vi p] h (fun z h' => GF h h' ∧ ∃ k : Nat, z = (sP σ : Int) - 0 - k ∧ Rk (ent1 σ) (sP σ) (2 ^ sE σ - 1) p k) := by
  refine cn_q (lv := [vr 0, vi 0, vi p, vx, vx]) tX5_holes.1 rfl rfl (fun hR Q hQ => ?_)
  refine z_aload_n dX5_holes_0 rfl ?_
  refine z_getR fX5_10 dX5_holes_1 (by decide) rfl rfl ?_
  refine z_callV_eI (M := mX5_holes) [] tX0_isThere kX5_123 dX5_holes_4 ⟨by decide, rfl, _, _, rfl⟩ ⟨by decide, by decide⟩ rfl (Nat.le_of_ble_eq_true rfl) rfl (s_X0_isThere isC1 C) ?_
  refine z_if_ne 13 dX5_holes_7 (by decide) (bi_r _) (fun c7 => ?_) (fun c7 => ?_)
  · have c7 := bi_ne.mp c7
    refine z_iload_n dX5_holes_13 rfl ?_
    refine z_if_lt 29 dX5_holes_14 (by decide) (by omega) (fun c14 => ?_) (fun c14 => ?_)
    · omega
    · refine z_iload_n dX5_holes_17 rfl ?_
      refine z_iconst dX5_holes_18 ?_
      refine z_icmp_gt 29 dX5_holes_19 (by decide) (by omega) (by omega) (fun c19 => ?_) (fun c19 => ?_)
      · omega
      · refine z_iload_n dX5_holes_22 rfl ?_
        refine z_callS_eI (M := mX5_holes) [_] tX5_isField kX5_199 dX5_holes_23 ⟨by decide, by decide⟩ rfl (Nat.le_of_ble_eq_true rfl) rfl (c_X5_isField (by omega)) ?_
        refine z_if_ne 32 dX5_holes_26 (by decide) (bi_r _) (fun c26 => ?_) (fun c26 => ?_)
        · have c26 := bi_ne.mp c26
          refine z_iload_n dX5_holes_32 rfl ?_
          refine z_if_ne 40 dX5_holes_33 (by decide) (by omega) (fun c33 => ?_) (fun c33 => ?_)
          · omega
          · refine z_iconst dX5_holes_36 ?_
            refine z_goto 46 dX5_holes_37 (by decide) ?_
            refine z_istore_n dX5_holes_46 (by decide) rfl ?_
            refine z_iload_n dX5_holes_47 rfl ?_
            refine z_iconst dX5_holes_48 ?_
            refine z_icmp_ne 56 dX5_holes_49 (by decide) (by omega) (by omega) (fun c49 => ?_) (fun c49 => ?_)
            · refine z_aload_n dX5_holes_56 rfl ?_
              refine z_iload_n dX5_holes_57 rfl ?_
              refine z_iconst dX5_holes_58 ?_
              refine z_iadd dX5_holes_59 ?_
              refine z_iload_n dX5_holes_60 rfl ?_
              refine z_callV_I (M := mX5_holes) [_, _] tX5_tableRank kX5_202 dX5_holes_61 ⟨by decide, rfl, _, _, rfl⟩ ⟨by decide, by decide⟩ rfl (Nat.le_of_ble_eq_true rfl) rfl (c_X5_tableRank1 W C (p := p) (by omega)) (fun z61 h61 q61 => ?_)
              refine z_istore dX5_holes_64 (by decide) rfl ?_
              refine z_aload_n dX5_holes_66 rfl ?_
              refine z_getR fX5_10 dX5_holes_67 (by decide) rfl rfl ?_
              refine z_iload_n dX5_holes_70 rfl ?_
              refine z_callV_eI (M := mX5_holes) [_] tX0_sizeOf kX5_97 dX5_holes_71 ⟨by decide, rfl, _, _, rfl⟩ ⟨by decide, by decide⟩ rfl (Nat.le_of_ble_eq_true rfl) rfl (s_X0_sizeP isC1 (q61.1.rc C)) ?_
              obtain ⟨F1, k, e1, e2, e3⟩ := q61
              rw [e1]
              refine z_iload_n dX5_holes_74 rfl ?_
              refine z_isub dX5_holes_75 ?_
              refine z_iload dX5_holes_76 rfl ?_
              refine z_isub dX5_holes_78 ?_
              exact z_ireturn dX5_holes_79 rfl (hQ _ _ ⟨_, rfl, ⟨F1, k, rfl, e3⟩⟩)
            · omega
        · have c26 := bi_eq.mp c26
          exact absurd hp c26
  · have c7 := bi_eq.mp c7
    omega
set_option maxRecDepth 100000 in
set_option maxHeartbeats 4000000 in
theorem c_X5_holes1 {g : GG} {h : HH} {σ : SG} (W : WF σ) (C : RC (h 2) σ) {p : Int} (hp : p = 0 ∨ p = 2 ∨ p = 3 ∨ p = 5 ∨ p = 7) (h0 : 0 < sP σ) : CnI mX5_holes g [vr 0, vi 1, vi p] h (fun z h' => GF h h' ∧ ∃ k l : Nat, z = (sE σ : Int) - k - l ∧ Rk (ent1 σ) (sP σ) (2 ^ sE σ - 1) p k ∧ Rk (ent2 σ) (sE σ) (2 ^ sF σ - 1) p l) := by
  refine cn_q (lv := [vr 0, vi 1, vi p, vx, vx]) tX5_holes.1 rfl rfl (fun hR Q hQ => ?_)
  refine z_aload_n dX5_holes_0 rfl ?_
  refine z_getR fX5_10 dX5_holes_1 (by decide) rfl rfl ?_
  refine z_callV_eI (M := mX5_holes) [] tX0_isThere kX5_123 dX5_holes_4 ⟨by decide, rfl, _, _, rfl⟩ ⟨by decide, by decide⟩ rfl (Nat.le_of_ble_eq_true rfl) rfl (s_X0_isThere isC1 C) ?_
  refine z_if_ne 13 dX5_holes_7 (by decide) (bi_r _) (fun c7 => ?_) (fun c7 => ?_)
  · have c7 := bi_ne.mp c7
    refine z_iload_n dX5_holes_13 rfl ?_
    refine z_if_lt 29 dX5_holes_14 (by decide) (by omega) (fun c14 => ?_) (fun c14 => ?_)
    · omega
    · refine z_iload_n dX5_holes_17 rfl ?_
      refine z_iconst dX5_holes_18 ?_
      refine z_icmp_gt 29 dX5_holes_19 (by decide) (by omega) (by omega) (fun c19 => ?_) (fun c19 => ?_)
      · omega
      · refine z_iload_n dX5_holes_22 rfl ?_
        refine z_callS_eI (M := mX5_holes) [_] tX5_isField kX5_199 dX5_holes_23 ⟨by decide, by decide⟩ rfl (Nat.le_of_ble_eq_true rfl) rfl (c_X5_isField (by omega)) ?_
        refine z_if_ne 32 dX5_holes_26 (by decide) (bi_r _) (fun c26 => ?_) (fun c26 => ?_)
        · have c26 := bi_ne.mp c26
          refine z_iload_n dX5_holes_32 rfl ?_
          refine z_if_ne 40 dX5_holes_33 (by decide) (by omega) (fun c33 => ?_) (fun c33 => ?_)
          · refine z_aload_n dX5_holes_40 rfl ?_
            refine z_iload_n dX5_holes_41 rfl ?_
            refine z_iload_n dX5_holes_42 rfl ?_
            refine z_callV_I (M := mX5_holes) [_, _] tX5_tableRank kX5_202 dX5_holes_43 ⟨by decide, rfl, _, _, rfl⟩ ⟨by decide, by decide⟩ rfl (Nat.le_of_ble_eq_true rfl) rfl (c_X5_tableRank1 W C (p := p) (by omega)) (fun z43 h43 q43 => ?_)
            refine z_istore_n dX5_holes_46 (by decide) rfl ?_
            refine z_iload_n dX5_holes_47 rfl ?_
            refine z_iconst dX5_holes_48 ?_
            refine z_icmp_ne 56 dX5_holes_49 (by decide) (by omega) (by omega) (fun c49 => ?_) (fun c49 => ?_)
            · refine z_aload_n dX5_holes_56 rfl ?_
              refine z_iload_n dX5_holes_57 rfl ?_
              refine z_iconst dX5_holes_58 ?_
              refine z_iadd dX5_holes_59 ?_
              refine z_iload_n dX5_holes_60 rfl ?_
              refine z_callV_I (M := mX5_holes) [_, _] tX5_tableRank kX5_202 dX5_holes_61 ⟨by decide, rfl, _, _, rfl⟩ ⟨by decide, by decide⟩ rfl (Nat.le_of_ble_eq_true rfl) rfl (c_X5_tableRank2 W (q43.1.rc C) (p := p) (by omega)) (fun z61 h61 q61 => ?_)
              refine z_istore dX5_holes_64 (by decide) rfl ?_
              refine z_aload_n dX5_holes_66 rfl ?_
              refine z_getR fX5_10 dX5_holes_67 (by decide) rfl rfl ?_
              refine z_iload_n dX5_holes_70 rfl ?_
              refine z_callV_eI (M := mX5_holes) [_] tX0_sizeOf kX5_97 dX5_holes_71 ⟨by decide, rfl, _, _, rfl⟩ ⟨by decide, by decide⟩ rfl (Nat.le_of_ble_eq_true rfl) rfl (s_X0_sizeE isC1 (q61.1.rc (q43.1.rc C))) ?_
              obtain ⟨F1, k, e1, e2, e3⟩ := q43
              obtain ⟨F2, l, e4, e5, e6⟩ := q61
              rw [e1, e4]
              refine z_iload_n dX5_holes_74 rfl ?_
              refine z_isub dX5_holes_75 ?_
              refine z_iload dX5_holes_76 rfl ?_
              refine z_isub dX5_holes_78 ?_
              exact z_ireturn dX5_holes_79 rfl (hQ _ _ ⟨_, rfl, ⟨F1.tr F2, k, l, rfl, e3, e6⟩⟩)
            · omega
          · omega
        · have c26 := bi_eq.mp c26
          exact absurd hp c26
  · have c7 := bi_eq.mp c7
    omega
set_option maxRecDepth 100000 in
set_option maxHeartbeats 4000000 in
theorem c_X5_holes2 {g : GG} {h : HH} {σ : SG} (W : WF σ) (C : RC (h 2) σ) {p : Int} (hp : p = 0 ∨ p = 2 ∨ p = 3 ∨ p = 5 ∨ p = 7) (h0 : 0 < sP σ) : CnI mX5_holes g [vr 0, vi 2, vi p] h (fun z h' => GF h h' ∧ ∃ k : Nat, z = (sF σ : Int) - k - 0 ∧ Rk (ent2 σ) (sE σ) (2 ^ sF σ - 1) p k) := by
  refine cn_q (lv := [vr 0, vi 2, vi p, vx, vx]) tX5_holes.1 rfl rfl (fun hR Q hQ => ?_)
  refine z_aload_n dX5_holes_0 rfl ?_
  refine z_getR fX5_10 dX5_holes_1 (by decide) rfl rfl ?_
  refine z_callV_eI (M := mX5_holes) [] tX0_isThere kX5_123 dX5_holes_4 ⟨by decide, rfl, _, _, rfl⟩ ⟨by decide, by decide⟩ rfl (Nat.le_of_ble_eq_true rfl) rfl (s_X0_isThere isC1 C) ?_
  refine z_if_ne 13 dX5_holes_7 (by decide) (bi_r _) (fun c7 => ?_) (fun c7 => ?_)
  · have c7 := bi_ne.mp c7
    refine z_iload_n dX5_holes_13 rfl ?_
    refine z_if_lt 29 dX5_holes_14 (by decide) (by omega) (fun c14 => ?_) (fun c14 => ?_)
    · omega
    · refine z_iload_n dX5_holes_17 rfl ?_
      refine z_iconst dX5_holes_18 ?_
      refine z_icmp_gt 29 dX5_holes_19 (by decide) (by omega) (by omega) (fun c19 => ?_) (fun c19 => ?_)
      · omega
      · refine z_iload_n dX5_holes_22 rfl ?_
        refine z_callS_eI (M := mX5_holes) [_] tX5_isField kX5_199 dX5_holes_23 ⟨by decide, by decide⟩ rfl (Nat.le_of_ble_eq_true rfl) rfl (c_X5_isField (by omega)) ?_
        refine z_if_ne 32 dX5_holes_26 (by decide) (bi_r _) (fun c26 => ?_) (fun c26 => ?_)
        · have c26 := bi_ne.mp c26
          refine z_iload_n dX5_holes_32 rfl ?_
          refine z_if_ne 40 dX5_holes_33 (by decide) (by omega) (fun c33 => ?_) (fun c33 => ?_)
          · refine z_aload_n dX5_holes_40 rfl ?_
            refine z_iload_n dX5_holes_41 rfl ?_
            refine z_iload_n dX5_holes_42 rfl ?_
            refine z_callV_I (M := mX5_holes) [_, _] tX5_tableRank kX5_202 dX5_holes_43 ⟨by decide, rfl, _, _, rfl⟩ ⟨by decide, by decide⟩ rfl (Nat.le_of_ble_eq_true rfl) rfl (c_X5_tableRank2 W C (p := p) (by omega)) (fun z43 h43 q43 => ?_)
            refine z_istore_n dX5_holes_46 (by decide) rfl ?_
            refine z_iload_n dX5_holes_47 rfl ?_
            refine z_iconst dX5_holes_48 ?_
            refine z_icmp_ne 56 dX5_holes_49 (by decide) (by omega) (by omega) (fun c49 => ?_) (fun c49 => ?_)
            · omega
            · refine z_iconst dX5_holes_52 ?_
              refine z_goto 64 dX5_holes_53 (by decide) ?_
              refine z_istore dX5_holes_64 (by decide) rfl ?_
              refine z_aload_n dX5_holes_66 rfl ?_
              refine z_getR fX5_10 dX5_holes_67 (by decide) rfl rfl ?_
              refine z_iload_n dX5_holes_70 rfl ?_
              refine z_callV_eI (M := mX5_holes) [_] tX0_sizeOf kX5_97 dX5_holes_71 ⟨by decide, rfl, _, _, rfl⟩ ⟨by decide, by decide⟩ rfl (Nat.le_of_ble_eq_true rfl) rfl (s_X0_sizeF isC1 (q43.1.rc C)) ?_
              obtain ⟨F1, k, e1, e2, e3⟩ := q43
              rw [e1]
              refine z_iload_n dX5_holes_74 rfl ?_
              refine z_isub dX5_holes_75 ?_
              refine z_iload dX5_holes_76 rfl ?_
              refine z_isub dX5_holes_78 ?_
              exact z_ireturn dX5_holes_79 rfl (hQ _ _ ⟨_, rfl, ⟨F1, k, rfl, e3⟩⟩)
          · omega
        · have c26 := bi_eq.mp c26
          exact absurd hp c26
  · have c7 := bi_eq.mp c7
    omega

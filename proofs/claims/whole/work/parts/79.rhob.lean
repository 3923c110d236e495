set_option maxRecDepth 100000 in
set_option maxHeartbeats 4000000 in
theorem c_X6_rankS {g : GG} {h : HH} {σ : SG} (W : WF σ) (R : RM (h 48) σ) {d p : Int} (hd : R32 d) (hp : R32 p) (h0 : sP σ = 0) : CeI mX6_rank g [vr 47, vi d, vi p] h kSTATE := by
  refine cn_q (lv := [vr 47, vi d, vi p]) tX6_rank.1 rfl rfl (fun hR Q hQ => ?_)
  refine z_aload_n dX6_rank_0 rfl ?_
  refine z_callV_eI (M := mX6_rank) [] tX6_isComplex kX6_244 dX6_rank_1 ⟨by decide, rfl, _, _, rfl⟩ ⟨by decide, by decide⟩ rfl (Nat.le_of_ble_eq_true rfl) rfl (c_X6_isComplex W.wb R) ?_
  refine z_if_ne 10 dX6_rank_4 (by decide) (bi_r _) (fun c4 => ?_) (fun c4 => ?_)
  · have c4 := bi_ne.mp c4
    omega
  · have c4 := bi_eq.mp c4
    refine z_ldc (-1000002) dX6_rank_7 qX6_241 rfl ?_
    exact z_ireturn dX6_rank_9 rfl (hQ _ _ ⟨_, rfl, rfl, rfl⟩)
set_option maxRecDepth 100000 in
set_option maxHeartbeats 4000000 in
theorem c_X6_rankO {g : GG} {h : HH} {σ : SG} (W : WF σ) (R : RM (h 48) σ) {d p : Int} (hd : R32 d) (hp : R32 p) (h0 : 0 < sP σ) (ho : ¬ (1 ≤ d ∧ d ≤ 2 ∧ (p = 0 ∨ p = 2 ∨ p = 3 ∨ p = 5 ∨ p = 7))) : CeI mX6_rank g [vr 47, vi d, vi p] h kBAD := by
  refine cn_q (lv := [vr 47, vi d, vi p]) tX6_rank.1 rfl rfl (fun hR Q hQ => ?_)
  refine z_aload_n dX6_rank_0 rfl ?_
  refine z_callV_eI (M := mX6_rank) [] tX6_isComplex kX6_244 dX6_rank_1 ⟨by decide, rfl, _, _, rfl⟩ ⟨by decide, by decide⟩ rfl (Nat.le_of_ble_eq_true rfl) rfl (c_X6_isComplex W.wb R) ?_
  refine z_if_ne 10 dX6_rank_4 (by decide) (bi_r _) (fun c4 => ?_) (fun c4 => ?_)
  · have c4 := bi_ne.mp c4
    refine z_iload_n dX6_rank_10 rfl ?_
    refine z_i2l dX6_rank_11 (by omega) ?_
    refine z_lconst (z := 1) dX6_rank_12 rfl ?_
    refine z_ldc2 (2) dX6_rank_13 qX6_242 rfl ?_
    refine z_callS_eI (M := mX6_rank) [_, _, _] tX6_in kX6_150 dX6_rank_16 ⟨by decide, by decide⟩ rfl (Nat.le_of_ble_eq_true rfl) rfl (c_X6_in (by omega) (by omega) (by omega)) ?_
    refine z_if_eq 38 dX6_rank_19 (by decide) (bi_r _) (fun c19 => ?_) (fun c19 => ?_)
    · have c19 := bi_eq.mp c19
      refine z_ldc (-1000001) dX6_rank_38 qX6_218 rfl ?_
      exact z_ireturn dX6_rank_40 rfl (hQ _ _ ⟨_, rfl, rfl, rfl⟩)
    · have c19 := bi_ne.mp c19
      refine z_iload_n dX6_rank_22 rfl ?_
      refine z_callS_eI (M := mX6_rank) [_] tX6_isPrime kX6_312 dX6_rank_23 ⟨by decide, by decide⟩ rfl (Nat.le_of_ble_eq_true rfl) rfl (c_X6_isPrime (by omega)) ?_
      refine z_if_eq 38 dX6_rank_26 (by decide) (bi_r _) (fun c26 => ?_) (fun c26 => ?_)
      · have c26 := bi_eq.mp c26
        refine z_ldc (-1000001) dX6_rank_38 qX6_218 rfl ?_
        exact z_ireturn dX6_rank_40 rfl (hQ _ _ ⟨_, rfl, rfl, rfl⟩)
      · have c26 := bi_ne.mp c26
        exact absurd ⟨by omega, by omega, c26⟩ ho
  · have c4 := bi_eq.mp c4
    omega
set_option maxRecDepth 100000 in
set_option maxHeartbeats 4000000 in
theorem c_X6_rank1 {g : GG} {h : HH} {σ : SG} (W : WF σ) (R : RM (h 48) σ) {p : Int} (hp : p = 0 ∨ p = 2 ∨ p = 3 ∨ p = 5 ∨ p = 7) (h0 : 0 < sP σ) : CnI mX6_rank g [vr 47, vi 1, vi p] h (fun z h' => F54 h h' ∧ ∃ k : Nat, z = k ∧ Rk (ent1 σ) (sP σ) (2 ^ sE σ - 1) p k) := by
  refine cn_q (lv := [vr 47, vi 1, vi p]) tX6_rank.1 rfl rfl (fun hR Q hQ => ?_)
  refine z_aload_n dX6_rank_0 rfl ?_
  refine z_callV_eI (M := mX6_rank) [] tX6_isComplex kX6_244 dX6_rank_1 ⟨by decide, rfl, _, _, rfl⟩ ⟨by decide, by decide⟩ rfl (Nat.le_of_ble_eq_true rfl) rfl (c_X6_isComplex W.wb R) ?_
  refine z_if_ne 10 dX6_rank_4 (by decide) (bi_r _) (fun c4 => ?_) (fun c4 => ?_)
  · have c4 := bi_ne.mp c4
    refine z_iload_n dX6_rank_10 rfl ?_
    refine z_i2l dX6_rank_11 (by omega) ?_
    refine z_lconst (z := 1) dX6_rank_12 rfl ?_
    refine z_ldc2 (2) dX6_rank_13 qX6_242 rfl ?_
    refine z_callS_eI (M := mX6_rank) [_, _, _] tX6_in kX6_150 dX6_rank_16 ⟨by decide, by decide⟩ rfl (Nat.le_of_ble_eq_true rfl) rfl (c_X6_in (by omega) (by omega) (by omega)) ?_
    refine z_if_eq 38 dX6_rank_19 (by decide) (bi_r _) (fun c19 => ?_) (fun c19 => ?_)
    · have c19 := bi_eq.mp c19
      omega
    · have c19 := bi_ne.mp c19
      refine z_iload_n dX6_rank_22 rfl ?_
      refine z_callS_eI (M := mX6_rank) [_] tX6_isPrime kX6_312 dX6_rank_23 ⟨by decide, by decide⟩ rfl (Nat.le_of_ble_eq_true rfl) rfl (c_X6_isPrime (by omega)) ?_
      refine z_if_eq 38 dX6_rank_26 (by decide) (bi_r _) (fun c26 => ?_) (fun c26 => ?_)
      · have c26 := bi_eq.mp c26
        exact absurd hp c26
      · have c26 := bi_ne.mp c26
        refine z_aload_n dX6_rank_29 rfl ?_
        refine z_iload_n dX6_rank_30 rfl ?_
        refine z_iload_n dX6_rank_31 rfl ?_
        refine z_callV_I (M := mX6_rank) [_, _] tX6_rankFor kX6_315 dX6_rank_32 ⟨by decide, rfl, _, _, rfl⟩ ⟨by decide, by decide⟩ rfl (Nat.le_of_ble_eq_true rfl) rfl (c_X6_rankFor1 W R hp) (fun z32 h32 q32 => ?_)
        obtain ⟨⟨k, k1, k2, k3⟩, kf⟩ := q32
        refine z_goto 40 dX6_rank_35 (by decide) ?_
        exact z_ireturn dX6_rank_40 rfl (hQ _ _ ⟨_, rfl, ⟨kf, k, k1, k3⟩⟩)
  · have c4 := bi_eq.mp c4
    omega
set_option maxRecDepth 100000 in
set_option maxHeartbeats 4000000 in
theorem c_X6_rank2 {g : GG} {h : HH} {σ : SG} (W : WF σ) (R : RM (h 48) σ) {p : Int} (hp : p = 0 ∨ p = 2 ∨ p = 3 ∨ p = 5 ∨ p = 7) (h0 : 0 < sP σ) : CnI mX6_rank g [vr 47, vi 2, vi p] h (fun z h' => F54 h h' ∧ ∃ k : Nat, z = k ∧ Rk (ent2 σ) (sE σ) (2 ^ sF σ - 1) p k) := by
  refine cn_q (lv := [vr 47, vi 2, vi p]) tX6_rank.1 rfl rfl (fun hR Q hQ => ?_)
  refine z_aload_n dX6_rank_0 rfl ?_
  refine z_callV_eI (M := mX6_rank) [] tX6_isComplex kX6_244 dX6_rank_1 ⟨by decide, rfl, _, _, rfl⟩ ⟨by decide, by decide⟩ rfl (Nat.le_of_ble_eq_true rfl) rfl (c_X6_isComplex W.wb R) ?_
  refine z_if_ne 10 dX6_rank_4 (by decide) (bi_r _) (fun c4 => ?_) (fun c4 => ?_)
  · have c4 := bi_ne.mp c4
    refine z_iload_n dX6_rank_10 rfl ?_
    refine z_i2l dX6_rank_11 (by omega) ?_
    refine z_lconst (z := 1) dX6_rank_12 rfl ?_
    refine z_ldc2 (2) dX6_rank_13 qX6_242 rfl ?_
    refine z_callS_eI (M := mX6_rank) [_, _, _] tX6_in kX6_150 dX6_rank_16 ⟨by decide, by decide⟩ rfl (Nat.le_of_ble_eq_true rfl) rfl (c_X6_in (by omega) (by omega) (by omega)) ?_
    refine z_if_eq 38 dX6_rank_19 (by decide) (bi_r _) (fun c19 => ?_) (fun c19 => ?_)
    · have c19 := bi_eq.mp c19
      omega
    · have c19 := bi_ne.mp c19
      refine z_iload_n dX6_rank_22 rfl ?_
      refine z_callS_eI (M := mX6_rank) [_] tX6_isPrime kX6_312 dX6_rank_23 ⟨by decide, by decide⟩ rfl (Nat.le_of_ble_eq_true rfl) rfl (c_X6_isPrime (by omega)) ?_
      refine z_if_eq 38 dX6_rank_26 (by decide) (bi_r _) (fun c26 => ?_) (fun c26 => ?_)
      · have c26 := bi_eq.mp c26
        exact absurd hp c26
      · have c26 := bi_ne.mp c26
        refine z_aload_n dX6_rank_29 rfl ?_
        refine z_iload_n dX6_rank_30 rfl ?_
        refine z_iload_n dX6_rank_31 rfl ?_
        refine z_callV_I (M := mX6_rank) [_, _] tX6_rankFor kX6_315 dX6_rank_32 ⟨by decide, rfl, _, _, rfl⟩ ⟨by decide, by decide⟩ rfl (Nat.le_of_ble_eq_true rfl) rfl (c_X6_rankFor2 W R hp) (fun z32 h32 q32 => ?_)
        obtain ⟨⟨k, k1, k2, k3⟩, kf⟩ := q32
        refine z_goto 40 dX6_rank_35 (by decide) ?_
        exact z_ireturn dX6_rank_40 rfl (hQ _ _ ⟨_, rfl, ⟨kf, k, k1, k3⟩⟩)
  · have c4 := bi_eq.mp c4
    omega
set_option maxRecDepth 100000 in
set_option maxHeartbeats 4000000 in
theorem c_X6_holesS {g : GG} {h : HH} {σ : SG} (W : WF σ) (R : RM (h 48) σ) {d p : Int} (hd : R32 d) (hp : R32 p) (h0 : sP σ = 0) : CeI mX6_holes g [vr 47, vi d, vi p] h kSTATE := by
  refine cn_q (lv := [vr 47, vi d, vi p, vx, vx]) tX6_holes.1 rfl rfl (fun hR Q hQ => ?_)
  refine z_aload_n dX6_holes_0 rfl ?_
  refine z_callV_eI (M := mX6_holes) [] tX6_isComplex kX6_244 dX6_holes_1 ⟨by decide, rfl, _, _, rfl⟩ ⟨by decide, by decide⟩ rfl (Nat.le_of_ble_eq_true rfl) rfl (c_X6_isComplex W.wb R) ?_
  refine z_if_ne 10 dX6_holes_4 (by decide) (bi_r _) (fun c4 => ?_) (fun c4 => ?_)
  · have c4 := bi_ne.mp c4
    omega
  · have c4 := bi_eq.mp c4
    refine z_ldc (-1000002) dX6_holes_7 qX6_241 rfl ?_
    exact z_ireturn dX6_holes_9 rfl (hQ _ _ ⟨_, rfl, rfl, rfl⟩)
set_option maxRecDepth 100000 in
set_option maxHeartbeats 4000000 in
theorem c_X6_holesO {g : GG} {h : HH} {σ : SG} (W : WF σ) (R : RM (h 48) σ) {d p : Int} (hd : R32 d) (hp : R32 p) (h0 : 0 < sP σ) (ho : ¬ (0 ≤ d ∧ d ≤ 2 ∧ (p = 0 ∨ p = 2 ∨ p = 3 ∨ p = 5 ∨ p = 7))) : CeI mX6_holes g [vr 47, vi d, vi p] h kBAD := by
  refine cn_q (lv := [vr 47, vi d, vi p, vx, vx]) tX6_holes.1 rfl rfl (fun hR Q hQ => ?_)
  refine z_aload_n dX6_holes_0 rfl ?_
  refine z_callV_eI (M := mX6_holes) [] tX6_isComplex kX6_244 dX6_holes_1 ⟨by decide, rfl, _, _, rfl⟩ ⟨by decide, by decide⟩ rfl (Nat.le_of_ble_eq_true rfl) rfl (c_X6_isComplex W.wb R) ?_
  refine z_if_ne 10 dX6_holes_4 (by decide) (bi_r _) (fun c4 => ?_) (fun c4 => ?_)
  · have c4 := bi_ne.mp c4
    refine z_iload_n dX6_holes_10 rfl ?_
    refine z_i2l dX6_holes_11 (by omega) ?_
    refine z_lconst (z := 0) dX6_holes_12 rfl ?_
    refine z_ldc2 (2) dX6_holes_13 qX6_242 rfl ?_
    refine z_callS_eI (M := mX6_holes) [_, _, _] tX6_in kX6_150 dX6_holes_16 ⟨by decide, by decide⟩ rfl (Nat.le_of_ble_eq_true rfl) rfl (c_X6_in (by omega) (by omega) (by omega)) ?_
    refine z_if_eq 29 dX6_holes_19 (by decide) (bi_r _) (fun c19 => ?_) (fun c19 => ?_)
    · have c19 := bi_eq.mp c19
      refine z_ldc (-1000001) dX6_holes_29 qX6_218 rfl ?_
      exact z_ireturn dX6_holes_31 rfl (hQ _ _ ⟨_, rfl, rfl, rfl⟩)
    · have c19 := bi_ne.mp c19
      refine z_iload_n dX6_holes_22 rfl ?_
      refine z_callS_eI (M := mX6_holes) [_] tX6_isPrime kX6_312 dX6_holes_23 ⟨by decide, by decide⟩ rfl (Nat.le_of_ble_eq_true rfl) rfl (c_X6_isPrime (by omega)) ?_
      refine z_if_ne 32 dX6_holes_26 (by decide) (bi_r _) (fun c26 => ?_) (fun c26 => ?_)
      · have c26 := bi_ne.mp c26
        exact absurd ⟨by omega, by omega, c26⟩ ho
      · have c26 := bi_eq.mp c26
        refine z_ldc (-1000001) dX6_holes_29 qX6_218 rfl ?_
        exact z_ireturn dX6_holes_31 rfl (hQ _ _ ⟨_, rfl, rfl, rfl⟩)
  · have c4 := bi_eq.mp c4
    omega
set_option maxRecDepth 100000 in
set_option maxHeartbeats 4000000 in
theorem c_X6_holes0 {g : GG} {h : HH} {σ : SG} (W : WF σ) (R : RM (h 48) σ) {p : Int} (hp : p = 0 ∨ p = 2 ∨ p = 3 ∨ p = 5 ∨ p = 7) (h0 : 0 < sP σ) : CnI mX6_holes g [vr 47, vi 0, vi p] h (fun z h' => F54 h h' ∧ ∃ k l : Nat, Rk (ent1 σ) (sP σ) (2 ^ sE σ - 1) p k ∧ Rk (ent2 σ) (sE σ) (2 ^ sF σ - 1) p l ∧ z = (sP σ : Int) - k) := by
  refine cn_q (lv := [vr 47, vi 0, vi p, vx, vx]) tX6_holes.1 rfl rfl (fun hR Q hQ => ?_)
  refine z_aload_n dX6_holes_0 rfl ?_
  refine z_callV_eI (M := mX6_holes) [] tX6_isComplex kX6_244 dX6_holes_1 ⟨by decide, rfl, _, _, rfl⟩ ⟨by decide, by decide⟩ rfl (Nat.le_of_ble_eq_true rfl) rfl (c_X6_isComplex W.wb R) ?_
  refine z_if_ne 10 dX6_holes_4 (by decide) (bi_r _) (fun c4 => ?_) (fun c4 => ?_)
  · have c4 := bi_ne.mp c4
    refine z_iload_n dX6_holes_10 rfl ?_
    refine z_i2l dX6_holes_11 (by omega) ?_
    refine z_lconst (z := 0) dX6_holes_12 rfl ?_
    refine z_ldc2 (2) dX6_holes_13 qX6_242 rfl ?_
    refine z_callS_eI (M := mX6_holes) [_, _, _] tX6_in kX6_150 dX6_holes_16 ⟨by decide, by decide⟩ rfl (Nat.le_of_ble_eq_true rfl) rfl (c_X6_in (by omega) (by omega) (by omega)) ?_
    refine z_if_eq 29 dX6_holes_19 (by decide) (bi_r _) (fun c19 => ?_) (fun c19 => ?_)
    · have c19 := bi_eq.mp c19
      omega
    · have c19 := bi_ne.mp c19
      refine z_iload_n dX6_holes_22 rfl ?_
      refine z_callS_eI (M := mX6_holes) [_] tX6_isPrime kX6_312 dX6_holes_23 ⟨by decide, by decide⟩ rfl (Nat.le_of_ble_eq_true rfl) rfl (c_X6_isPrime (by omega)) ?_
      refine z_if_ne 32 dX6_holes_26 (by decide) (bi_r _) (fun c26 => ?_) (fun c26 => ?_)
      · have c26 := bi_ne.mp c26
        refine z_aload_n dX6_holes_32 rfl ?_
        refine z_iconst dX6_holes_33 ?_
        refine z_iload_n dX6_holes_34 rfl ?_
        refine z_callV_I (M := mX6_holes) [_, _] tX6_rankFor kX6_315 dX6_holes_35 ⟨by decide, rfl, _, _, rfl⟩ ⟨by decide, by decide⟩ rfl (Nat.le_of_ble_eq_true rfl) rfl (c_X6_rankFor1 W R hp) (fun z35 h35 q35 => ?_)
        obtain ⟨⟨k, k1, k2, k3⟩, kf⟩ := q35
        refine z_istore_n dX6_holes_38 (by decide) rfl ?_
        refine z_aload_n dX6_holes_39 rfl ?_
        refine z_iconst dX6_holes_40 ?_
        refine z_iload_n dX6_holes_41 rfl ?_
        refine z_callV_I (M := mX6_holes) [_, _] tX6_rankFor kX6_315 dX6_holes_42 ⟨by decide, rfl, _, _, rfl⟩ ⟨by decide, by decide⟩ rfl (Nat.le_of_ble_eq_true rfl) rfl (c_X6_rankFor2 W (kf.rm R) hp) (fun z42 h42 q42 => ?_)
        obtain ⟨⟨l, l1, l2, l3⟩, lf⟩ := q42
        rw [k1, l1]
        have RR9 := lf.rm (kf.rm R)
        refine z_istore dX6_holes_45 (by decide) rfl ?_
        refine z_iload_n dX6_holes_47 rfl ?_
        refine z_if_ne 62 dX6_holes_48 (by decide) (by omega) (fun c48 => ?_) (fun c48 => ?_)
        · omega
        · refine z_aload_n dX6_holes_51 rfl ?_
          refine z_getR fX6_7 dX6_holes_52 (by decide) rfl rfl ?_
          refine z_iconst dX6_holes_55 ?_
          refine z_iaload dX6_holes_56 (by decide) rfl (by omega) (by omega) (by first | decide | omega) (fun r56 => ?_)
          refine z_iload_n dX6_holes_57 rfl ?_
          refine z_isub dX6_holes_58 ?_
          refine z_goto 90 dX6_holes_59 (by decide) ?_
          exact z_ireturn dX6_holes_90 rfl (hQ _ _ ⟨_, rfl, ⟨kf.tr lf, k, l, k3, l3, (by first | rw [show h42 48 (Int.toNat 0) = sP σ from rm_P RR9] | rw [show h42 48 (Int.toNat 1) = sE σ from rm_E RR9] | rw [show h42 48 (Int.toNat 2) = sF σ from rm_F RR9])⟩⟩)
      · have c26 := bi_eq.mp c26
        exact absurd hp c26
  · have c4 := bi_eq.mp c4
    omega
set_option maxRecDepth 100000 in
set_option maxHeartbeats 4000000 in
theorem c_X6_holes1 {g : GG} {h : HH} {σ : SG} (W : WF σ) (R : RM (h 48) σ) {p : Int} (hp : p = 0 ∨ p = 2 ∨ p = 3 ∨ p = 5 ∨ p = 7) (h0 : 0 < sP σ) : CnI mX6_holes g [vr 47, vi 1, vi p] h (fun z h' => F54 h h' ∧ ∃ k l : Nat, Rk (ent1 σ) (sP σ) (2 ^ sE σ - 1) p k ∧ Rk (ent2 σ) (sE σ) (2 ^ sF σ - 1) p l ∧ z = (sE σ : Int) - k - l) := by
  refine cn_q (lv := [vr 47, vi 1, vi p, vx, vx]) tX6_holes.1 rfl rfl (fun hR Q hQ => ?_)
  refine z_aload_n dX6_holes_0 rfl ?_
  refine z_callV_eI (M := mX6_holes) [] tX6_isComplex kX6_244 dX6_holes_1 ⟨by decide, rfl, _, _, rfl⟩ ⟨by decide, by decide⟩ rfl (Nat.le_of_ble_eq_true rfl) rfl (c_X6_isComplex W.wb R) ?_
  refine z_if_ne 10 dX6_holes_4 (by decide) (bi_r _) (fun c4 => ?_) (fun c4 => ?_)
  · have c4 := bi_ne.mp c4
    refine z_iload_n dX6_holes_10 rfl ?_
    refine z_i2l dX6_holes_11 (by omega) ?_
    refine z_lconst (z := 0) dX6_holes_12 rfl ?_
    refine z_ldc2 (2) dX6_holes_13 qX6_242 rfl ?_
    refine z_callS_eI (M := mX6_holes) [_, _, _] tX6_in kX6_150 dX6_holes_16 ⟨by decide, by decide⟩ rfl (Nat.le_of_ble_eq_true rfl) rfl (c_X6_in (by omega) (by omega) (by omega)) ?_
    refine z_if_eq 29 dX6_holes_19 (by decide) (bi_r _) (fun c19 => ?_) (fun c19 => ?_)
    · have c19 := bi_eq.mp c19
      omega
    · have c19 := bi_ne.mp c19
      refine z_iload_n dX6_holes_22 rfl ?_
      refine z_callS_eI (M := mX6_holes) [_] tX6_isPrime kX6_312 dX6_holes_23 ⟨by decide, by decide⟩ rfl (Nat.le_of_ble_eq_true rfl) rfl (c_X6_isPrime (by omega)) ?_
      refine z_if_ne 32 dX6_holes_26 (by decide) (bi_r _) (fun c26 => ?_) (fun c26 => ?_)
      · have c26 := bi_ne.mp c26
        refine z_aload_n dX6_holes_32 rfl ?_
        refine z_iconst dX6_holes_33 ?_
        refine z_iload_n dX6_holes_34 rfl ?_
        refine z_callV_I (M := mX6_holes) [_, _] tX6_rankFor kX6_315 dX6_holes_35 ⟨by decide, rfl, _, _, rfl⟩ ⟨by decide, by decide⟩ rfl (Nat.le_of_ble_eq_true rfl) rfl (c_X6_rankFor1 W R hp) (fun z35 h35 q35 => ?_)
        obtain ⟨⟨k, k1, k2, k3⟩, kf⟩ := q35
        refine z_istore_n dX6_holes_38 (by decide) rfl ?_
        refine z_aload_n dX6_holes_39 rfl ?_
        refine z_iconst dX6_holes_40 ?_
        refine z_iload_n dX6_holes_41 rfl ?_
        refine z_callV_I (M := mX6_holes) [_, _] tX6_rankFor kX6_315 dX6_holes_42 ⟨by decide, rfl, _, _, rfl⟩ ⟨by decide, by decide⟩ rfl (Nat.le_of_ble_eq_true rfl) rfl (c_X6_rankFor2 W (kf.rm R) hp) (fun z42 h42 q42 => ?_)
        obtain ⟨⟨l, l1, l2, l3⟩, lf⟩ := q42
        rw [k1, l1]
        have RR9 := lf.rm (kf.rm R)
        refine z_istore dX6_holes_45 (by decide) rfl ?_
        refine z_iload_n dX6_holes_47 rfl ?_
        refine z_if_ne 62 dX6_holes_48 (by decide) (by omega) (fun c48 => ?_) (fun c48 => ?_)
        · refine z_iload_n dX6_holes_62 rfl ?_
          refine z_iconst dX6_holes_63 ?_
          refine z_icmp_ne 81 dX6_holes_64 (by decide) (by omega) (by omega) (fun c64 => ?_) (fun c64 => ?_)
          · omega
          · refine z_aload_n dX6_holes_67 rfl ?_
            refine z_getR fX6_7 dX6_holes_68 (by decide) rfl rfl ?_
            refine z_iconst dX6_holes_71 ?_
            refine z_iaload dX6_holes_72 (by decide) rfl (by omega) (by omega) (by first | decide | omega) (fun r72 => ?_)
            refine z_iload_n dX6_holes_73 rfl ?_
            refine z_isub dX6_holes_74 ?_
            refine z_iload dX6_holes_75 rfl ?_
            refine z_isub dX6_holes_77 ?_
            refine z_goto 90 dX6_holes_78 (by decide) ?_
            exact z_ireturn dX6_holes_90 rfl (hQ _ _ ⟨_, rfl, ⟨kf.tr lf, k, l, k3, l3, (by first | rw [show h42 48 (Int.toNat 0) = sP σ from rm_P RR9] | rw [show h42 48 (Int.toNat 1) = sE σ from rm_E RR9] | rw [show h42 48 (Int.toNat 2) = sF σ from rm_F RR9])⟩⟩)
        · omega
      · have c26 := bi_eq.mp c26
        exact absurd hp c26
  · have c4 := bi_eq.mp c4
    omega
set_option maxRecDepth 100000 in
set_option maxHeartbeats 4000000 in
theorem c_X6_holes2 {g : GG} {h : HH} {σ : SG} (W : WF σ) (R : RM (h 48) σ) {p : Int} (hp : p = 0 ∨ p = 2 ∨ p = 3 ∨ p = 5 ∨ p = 7) (h0 : 0 < sP σ) : CnI mX6_holes g [vr 47, vi 2, vi p] h (fun z h' => F54 h h' ∧ ∃ k l : Nat, Rk (ent1 σ) (sP σ) (2 ^ sE σ - 1) p k ∧ Rk (ent2 σ) (sE σ) (2 ^ sF σ - 1) p l ∧ z = (sF σ : Int) - l) := by
  refine cn_q (lv := [vr 47, vi 2, vi p, vx, vx]) tX6_holes.1 rfl rfl (fun hR Q hQ => ?_)
  refine z_aload_n dX6_holes_0 rfl ?_
  refine z_callV_eI (M := mX6_holes) [] tX6_isComplex kX6_244 dX6_holes_1 ⟨by decide, rfl, _, _, rfl⟩ ⟨by decide, by decide⟩ rfl (Nat.le_of_ble_eq_true rfl) rfl (c_X6_isComplex W.wb R) ?_
  refine z_if_ne 10 dX6_holes_4 (by decide) (bi_r _) (fun c4 => ?_) (fun c4 => ?_)
  · have c4 := bi_ne.mp c4
    refine z_iload_n dX6_holes_10 rfl ?_
    refine z_i2l dX6_holes_11 (by omega) ?_
    refine z_lconst (z := 0) dX6_holes_12 rfl ?_
    refine z_ldc2 (2) dX6_holes_13 qX6_242 rfl ?_
    refine z_callS_eI (M := mX6_holes) [_, _, _] tX6_in kX6_150 dX6_holes_16 ⟨by decide, by decide⟩ rfl (Nat.le_of_ble_eq_true rfl) rfl (c_X6_in (by omega) (by omega) (by omega)) ?_
    refine z_if_eq 29 dX6_holes_19 (by decide) (bi_r _) (fun c19 => ?_) (fun c19 => ?_)
    · have c19 := bi_eq.mp c19
      omega
    · have c19 := bi_ne.mp c19
      refine z_iload_n dX6_holes_22 rfl ?_
      refine z_callS_eI (M := mX6_holes) [_] tX6_isPrime kX6_312 dX6_holes_23 ⟨by decide, by decide⟩ rfl (Nat.le_of_ble_eq_true rfl) rfl (c_X6_isPrime (by omega)) ?_
      refine z_if_ne 32 dX6_holes_26 (by decide) (bi_r _) (fun c26 => ?_) (fun c26 => ?_)
      · have c26 := bi_ne.mp c26
        refine z_aload_n dX6_holes_32 rfl ?_
        refine z_iconst dX6_holes_33 ?_
        refine z_iload_n dX6_holes_34 rfl ?_
        refine z_callV_I (M := mX6_holes) [_, _] tX6_rankFor kX6_315 dX6_holes_35 ⟨by decide, rfl, _, _, rfl⟩ ⟨by decide, by decide⟩ rfl (Nat.le_of_ble_eq_true rfl) rfl (c_X6_rankFor1 W R hp) (fun z35 h35 q35 => ?_)
        obtain ⟨⟨k, k1, k2, k3⟩, kf⟩ := q35
        refine z_istore_n dX6_holes_38 (by decide) rfl ?_
        refine z_aload_n dX6_holes_39 rfl ?_
        refine z_iconst dX6_holes_40 ?_
        refine z_iload_n dX6_holes_41 rfl ?_
        refine z_callV_I (M := mX6_holes) [_, _] tX6_rankFor kX6_315 dX6_holes_42 ⟨by decide, rfl, _, _, rfl⟩ ⟨by decide, by decide⟩ rfl (Nat.le_of_ble_eq_true rfl) rfl (c_X6_rankFor2 W (kf.rm R) hp) (fun z42 h42 q42 => ?_)
        obtain ⟨⟨l, l1, l2, l3⟩, lf⟩ := q42
        rw [k1, l1]
        have RR9 := lf.rm (kf.rm R)
        refine z_istore dX6_holes_45 (by decide) rfl ?_
        refine z_iload_n dX6_holes_47 rfl ?_
        refine z_if_ne 62 dX6_holes_48 (by decide) (by omega) (fun c48 => ?_) (fun c48 => ?_)
        · refine z_iload_n dX6_holes_62 rfl ?_
          refine z_iconst dX6_holes_63 ?_
          refine z_icmp_ne 81 dX6_holes_64 (by decide) (by omega) (by omega) (fun c64 => ?_) (fun c64 => ?_)
          · refine z_aload_n dX6_holes_81 rfl ?_
            refine z_getR fX6_7 dX6_holes_82 (by decide) rfl rfl ?_
            refine z_iconst dX6_holes_85 ?_
            refine z_iaload dX6_holes_86 (by decide) rfl (by omega) (by omega) (by first | decide | omega) (fun r86 => ?_)
            refine z_iload dX6_holes_87 rfl ?_
            refine z_isub dX6_holes_89 ?_
            exact z_ireturn dX6_holes_90 rfl (hQ _ _ ⟨_, rfl, ⟨kf.tr lf, k, l, k3, l3, (by first | rw [show h42 48 (Int.toNat 0) = sP σ from rm_P RR9] | rw [show h42 48 (Int.toNat 1) = sE σ from rm_E RR9] | rw [show h42 48 (Int.toNat 2) = sF σ from rm_F RR9])⟩⟩)
          · omega
        · omega
      · have c26 := bi_eq.mp c26
        exact absurd hp c26
  · have c4 := bi_eq.mp c4
    omega
set_option maxRecDepth 100000 in
set_option maxHeartbeats 4000000 in
theorem c_X6_twistS {g : GG} {h : HH} {σ : SG} (W : WF σ) (R : RM (h 48) σ) {d p : Int} (hd : R32 d) (hp : R32 p) (h0 : sP σ = 0) : CeI mX6_twist g [vr 47, vi d, vi p] h kSTATE := by
  refine cn_q (lv := [vr 47, vi d, vi p, vx]) tX6_twist.1 rfl rfl (fun hR Q hQ => ?_)
  refine z_aload_n dX6_twist_0 rfl ?_
  refine z_callV_eI (M := mX6_twist) [] tX6_isComplex kX6_244 dX6_twist_1 ⟨by decide, rfl, _, _, rfl⟩ ⟨by decide, by decide⟩ rfl (Nat.le_of_ble_eq_true rfl) rfl (c_X6_isComplex W.wb R) ?_
  refine z_if_ne 10 dX6_twist_4 (by decide) (bi_r _) (fun c4 => ?_) (fun c4 => ?_)
  · have c4 := bi_ne.mp c4
    omega
  · have c4 := bi_eq.mp c4
    refine z_ldc (-1000002) dX6_twist_7 qX6_241 rfl ?_
    exact z_ireturn dX6_twist_9 rfl (hQ _ _ ⟨_, rfl, rfl, rfl⟩)
set_option maxRecDepth 100000 in
set_option maxHeartbeats 4000000 in
theorem c_X6_twistO {g : GG} {h : HH} {σ : SG} (W : WF σ) (R : RM (h 48) σ) {d p : Int} (hd : R32 d) (hp : R32 p) (h0 : 0 < sP σ) (ho : ¬ (0 ≤ d ∧ d < ((2 ^ sF σ : Nat) : Int) ∧ 0 ≤ p)) : CeI mX6_twist g [vr 47, vi d, vi p] h kBAD := by
  refine cn_q (lv := [vr 47, vi d, vi p, vx]) tX6_twist.1 rfl rfl (fun hR Q hQ => ?_)
  have w1 := W.1
  have w2 := W.2.1
  have w3 := W.2.2.1
  have b1 := b_shl (j := sF σ) (by omega)
  have b2 := b_pos (sF σ)
  refine z_aload_n dX6_twist_0 rfl ?_
  refine z_callV_eI (M := mX6_twist) [] tX6_isComplex kX6_244 dX6_twist_1 ⟨by decide, rfl, _, _, rfl⟩ ⟨by decide, by decide⟩ rfl (Nat.le_of_ble_eq_true rfl) rfl (c_X6_isComplex W.wb R) ?_
  refine z_if_ne 10 dX6_twist_4 (by decide) (bi_r _) (fun c4 => ?_) (fun c4 => ?_)
  · have c4 := bi_ne.mp c4
    refine z_iload_n dX6_twist_10 rfl ?_
    refine z_if_lt 27 dX6_twist_11 (by decide) (by omega) (fun c11 => ?_) (fun c11 => ?_)
    · refine z_ldc (-1000001) dX6_twist_27 qX6_218 rfl ?_
      exact z_ireturn dX6_twist_29 rfl (hQ _ _ ⟨_, rfl, rfl, rfl⟩)
    · refine z_iload_n dX6_twist_14 rfl ?_
      refine z_aload_n dX6_twist_15 rfl ?_
      refine z_iconst dX6_twist_16 ?_
      refine z_callV_eI (M := mX6_twist) [_] tX6_allColumns kX6_124 dX6_twist_17 ⟨by decide, rfl, _, _, rfl⟩ ⟨by decide, by decide⟩ rfl (Nat.le_of_ble_eq_true rfl) rfl (c_X6_allColumns2 W R) ?_
      refine z_icmp_gt 27 dX6_twist_20 (by decide) (by omega) (by omega) (fun c20 => ?_) (fun c20 => ?_)
      · refine z_ldc (-1000001) dX6_twist_27 qX6_218 rfl ?_
        exact z_ireturn dX6_twist_29 rfl (hQ _ _ ⟨_, rfl, rfl, rfl⟩)
      · refine z_iload_n dX6_twist_23 rfl ?_
        refine z_if_ge 30 dX6_twist_24 (by decide) (by omega) (fun c24 => ?_) (fun c24 => ?_)
        · omega
        · refine z_ldc (-1000001) dX6_twist_27 qX6_218 rfl ?_
          exact z_ireturn dX6_twist_29 rfl (hQ _ _ ⟨_, rfl, rfl, rfl⟩)
  · have c4 := bi_eq.mp c4
    omega
set_option maxRecDepth 100000 in
set_option maxHeartbeats 4000000 in
theorem c_X6_twist0 {g : GG} {h : HH} {σ : SG} (W : WF σ) (R : RM (h 48) σ) (h0 : 0 < sP σ) {a : Nat} (ha : a < 2 ^ sF σ) : CnI mX6_twist g [vr 47, vi (a : Int), vi 0] h (fun z h' => F54 h h' ∧ ∃ k d : Nat, z = (d : Int) ∧ Rk (ent2 σ) (sE σ) a 0 k ∧ Dv (ent2 σ) (sE σ) a k d) := by
  refine cn_q (lv := [vr 47, vi (a : Int), vi 0, vx]) tX6_twist.1 rfl rfl (fun hR Q hQ => ?_)
  have w1 := W.1
  have w2 := W.2.1
  have w3 := W.2.2.1
  have b1 := b_shl (j := sF σ) (by omega)
  have b2 := b_pos (sF σ)
  have ok := okc_f W ha
  have wb := wd2_bit W (c := 0) ha
  refine z_aload_n dX6_twist_0 rfl ?_
  refine z_callV_eI (M := mX6_twist) [] tX6_isComplex kX6_244 dX6_twist_1 ⟨by decide, rfl, _, _, rfl⟩ ⟨by decide, by decide⟩ rfl (Nat.le_of_ble_eq_true rfl) rfl (c_X6_isComplex W.wb R) ?_
  refine z_if_ne 10 dX6_twist_4 (by decide) (bi_r _) (fun c4 => ?_) (fun c4 => ?_)
  · have c4 := bi_ne.mp c4
    refine z_iload_n dX6_twist_10 rfl ?_
    refine z_if_lt 27 dX6_twist_11 (by decide) (by omega) (fun c11 => ?_) (fun c11 => ?_)
    · omega
    · refine z_iload_n dX6_twist_14 rfl ?_
      refine z_aload_n dX6_twist_15 rfl ?_
      refine z_iconst dX6_twist_16 ?_
      refine z_callV_eI (M := mX6_twist) [_] tX6_allColumns kX6_124 dX6_twist_17 ⟨by decide, rfl, _, _, rfl⟩ ⟨by decide, by decide⟩ rfl (Nat.le_of_ble_eq_true rfl) rfl (c_X6_allColumns2 W R) ?_
      refine z_icmp_gt 27 dX6_twist_20 (by decide) (by omega) (by omega) (fun c20 => ?_) (fun c20 => ?_)
      · omega
      · refine z_iload_n dX6_twist_23 rfl ?_
        refine z_if_ge 30 dX6_twist_24 (by decide) (by omega) (fun c24 => ?_) (fun c24 => ?_)
        · refine z_aload_n dX6_twist_30 rfl ?_
          refine z_iconst dX6_twist_31 ?_
          refine z_iload_n dX6_twist_32 rfl ?_
          refine z_iconst dX6_twist_33 ?_
          refine z_callV_I (M := mX6_twist) [_, _, _] tX6_rankOf kX6_127 dX6_twist_34 ⟨by decide, rfl, _, _, rfl⟩ ⟨by decide, by decide⟩ rfl (Nat.le_of_ble_eq_true rfl) rfl (c_X6_rankOf (ch := ((0 : Nat) : Int)) (by omega) ok.1 (wd_2 W R (by decide) ok)) (fun z34 h34 q34 => ?_)
          obtain ⟨⟨y, y1, y2, y3⟩, yf⟩ := q34
          have y4 := rk_cols w2 ok.1 wb y3
          rw [y1]
          refine z_istore_n dX6_twist_37 (by decide) rfl ?_
          refine z_iload_n dX6_twist_38 rfl ?_
          refine z_if_ne 52 dX6_twist_39 (by decide) (by omega) (fun c39 => ?_) (fun c39 => ?_)
          · omega
          · refine z_aload_n dX6_twist_42 rfl ?_
            refine z_iconst dX6_twist_43 ?_
            refine z_iload_n dX6_twist_44 rfl ?_
            refine z_iload_n dX6_twist_45 rfl ?_
            refine z_iconst dX6_twist_46 ?_
            refine z_callV_L (M := mX6_twist) [_, _, _, _] tX6_minorsOf kX6_121 dX6_twist_47 ⟨by decide, rfl, _, _, rfl⟩ ⟨by decide, by decide⟩ rfl (Nat.le_of_ble_eq_true rfl) rfl (c_X6_minorsOf (ch := ((0 : Nat) : Int)) (by omega) ok.1 (wd_2 W (F54.rm yf R) (by decide) ok) (k := y) (by omega)) (fun z47 h47 q47 => ?_)
            obtain ⟨⟨d, d1, d2, d3⟩, df⟩ := q47
            have d4 := dv_cols w2 ok.1 wb d3
            rw [d1]
            refine z_l2i dX6_twist_50 ?_
            exact z_ireturn dX6_twist_51 rfl (hQ _ _ ⟨_, rfl, ⟨F54.tr yf df, y, d, rfl, y4, d4⟩⟩)
        · omega
  · have c4 := bi_eq.mp c4
    omega
set_option maxRecDepth 100000 in
set_option maxHeartbeats 4000000 in
theorem c_X6_twist1 {g : GG} {h : HH} {σ : SG} (W : WF σ) (R : RM (h 48) σ) (h0 : 0 < sP σ) {a : Nat} (ha : a < 2 ^ sF σ) {k : Nat} (hk : 1 ≤ k ∧ (k : Int) < 2147483648) : CnI mX6_twist g [vr 47, vi (a : Int), vi (k : Int)] h (fun z h' => F54 h h' ∧ ∃ y : Nat, Rk (ent2 σ) (sE σ) a 0 y ∧ (y < k → z = kNONE) ∧ (k ≤ y → ∃ d e : Nat, d ≠ 0 ∧ e ≠ 0 ∧ Dv (ent2 σ) (sE σ) a k d ∧ Dv (ent2 σ) (sE σ) a (k - 1) e ∧ z = (d : Int).tdiv e)) := by
  refine cn_q (lv := [vr 47, vi (a : Int), vi (k : Int), vx]) tX6_twist.1 rfl rfl (fun hR Q hQ => ?_)
  have w1 := W.1
  have w2 := W.2.1
  have w3 := W.2.2.1
  have b1 := b_shl (j := sF σ) (by omega)
  have b2 := b_pos (sF σ)
  have ok := okc_f W ha
  have wb := wd2_bit W (c := 0) ha
  refine z_aload_n dX6_twist_0 rfl ?_
  refine z_callV_eI (M := mX6_twist) [] tX6_isComplex kX6_244 dX6_twist_1 ⟨by decide, rfl, _, _, rfl⟩ ⟨by decide, by decide⟩ rfl (Nat.le_of_ble_eq_true rfl) rfl (c_X6_isComplex W.wb R) ?_
  refine z_if_ne 10 dX6_twist_4 (by decide) (bi_r _) (fun c4 => ?_) (fun c4 => ?_)
  · have c4 := bi_ne.mp c4
    refine z_iload_n dX6_twist_10 rfl ?_
    refine z_if_lt 27 dX6_twist_11 (by decide) (by omega) (fun c11 => ?_) (fun c11 => ?_)
    · omega
    · refine z_iload_n dX6_twist_14 rfl ?_
      refine z_aload_n dX6_twist_15 rfl ?_
      refine z_iconst dX6_twist_16 ?_
      refine z_callV_eI (M := mX6_twist) [_] tX6_allColumns kX6_124 dX6_twist_17 ⟨by decide, rfl, _, _, rfl⟩ ⟨by decide, by decide⟩ rfl (Nat.le_of_ble_eq_true rfl) rfl (c_X6_allColumns2 W R) ?_
      refine z_icmp_gt 27 dX6_twist_20 (by decide) (by omega) (by omega) (fun c20 => ?_) (fun c20 => ?_)
      · omega
      · refine z_iload_n dX6_twist_23 rfl ?_
        refine z_if_ge 30 dX6_twist_24 (by decide) (by omega) (fun c24 => ?_) (fun c24 => ?_)
        · refine z_aload_n dX6_twist_30 rfl ?_
          refine z_iconst dX6_twist_31 ?_
          refine z_iload_n dX6_twist_32 rfl ?_
          refine z_iconst dX6_twist_33 ?_
          refine z_callV_I (M := mX6_twist) [_, _, _] tX6_rankOf kX6_127 dX6_twist_34 ⟨by decide, rfl, _, _, rfl⟩ ⟨by decide, by decide⟩ rfl (Nat.le_of_ble_eq_true rfl) rfl (c_X6_rankOf (ch := ((0 : Nat) : Int)) (by omega) ok.1 (wd_2 W R (by decide) ok)) (fun z34 h34 q34 => ?_)
          obtain ⟨⟨y, y1, y2, y3⟩, yf⟩ := q34
          have y4 := rk_cols w2 ok.1 wb y3
          rw [y1]
          refine z_istore_n dX6_twist_37 (by decide) rfl ?_
          refine z_iload_n dX6_twist_38 rfl ?_
          refine z_if_ne 52 dX6_twist_39 (by decide) (by omega) (fun c39 => ?_) (fun c39 => ?_)
          · refine z_iload_n dX6_twist_52 rfl ?_
            refine z_iload_n dX6_twist_53 rfl ?_
            refine z_icmp_le 63 dX6_twist_54 (by decide) (by omega) (by omega) (fun c54 => ?_) (fun c54 => ?_)
            · refine z_aload_n dX6_twist_63 rfl ?_
              refine z_iconst dX6_twist_64 ?_
              refine z_iload_n dX6_twist_65 rfl ?_
              refine z_iload_n dX6_twist_66 rfl ?_
              refine z_iconst dX6_twist_67 ?_
              refine z_callV_L (M := mX6_twist) [_, _, _, _] tX6_minorsOf kX6_121 dX6_twist_68 ⟨by decide, rfl, _, _, rfl⟩ ⟨by decide, by decide⟩ rfl (Nat.le_of_ble_eq_true rfl) rfl (c_X6_minorsOf (ch := ((0 : Nat) : Int)) (by omega) ok.1 (wd_2 W (F54.rm yf R) (by decide) ok) (k := k) (by omega)) (fun z68 h68 q68 => ?_)
              obtain ⟨⟨d, d1, d2, d3⟩, df⟩ := q68
              have d4 := dv_cols w2 ok.1 wb d3
              rw [d1]
              refine z_aload_n dX6_twist_71 rfl ?_
              refine z_iconst dX6_twist_72 ?_
              refine z_iload_n dX6_twist_73 rfl ?_
              refine z_iload_n dX6_twist_74 rfl ?_
              refine z_iconst dX6_twist_75 ?_
              refine z_isub dX6_twist_76 ?_
              rw [show (k : Int) - 1 = ((k - 1 : Nat) : Int) from by omega]
              refine z_iconst dX6_twist_77 ?_
              refine z_callV_L (M := mX6_twist) [_, _, _, _] tX6_minorsOf kX6_121 dX6_twist_78 ⟨by decide, rfl, _, _, rfl⟩ ⟨by decide, by decide⟩ rfl (Nat.le_of_ble_eq_true rfl) rfl (c_X6_minorsOf (ch := ((0 : Nat) : Int)) (by omega) ok.1 (wd_2 W (F54.rm df (F54.rm yf R)) (by decide) ok) (k := (k - 1)) (by omega)) (fun z78 h78 q78 => ?_)
              obtain ⟨⟨e, e1, e2, e3⟩, ef⟩ := q78
              have e4 := dv_cols w2 ok.1 wb e3
              rw [e1]
              have e0 := rk_nz w2 ok.1 y4 (by omega) e4
              refine z_ldiv dX6_twist_81 (by omega) (by omega) (by omega) ?_
              refine z_l2i dX6_twist_82 ?_
              exact z_ireturn dX6_twist_83 rfl (hQ _ _ ⟨_, rfl, ⟨F54.tr (F54.tr yf df) ef, y, y4, fun q => by omega, fun _ => ⟨d, e, rk_nz w2 ok.1 y4 (by omega) d4, e0, d4, e4, rfl⟩⟩⟩)
            · refine z_ldcw (-1000000) dX6_twist_57 qX6_291 rfl ?_
              refine z_goto 83 dX6_twist_60 (by decide) ?_
              exact z_ireturn dX6_twist_83 rfl (hQ _ _ ⟨_, rfl, ⟨yf, y, y4, fun _ => rfl, fun q => by omega⟩⟩)
          · omega
        · omega
  · have c4 := bi_eq.mp c4
    omega
set_option maxRecDepth 100000 in
set_option maxHeartbeats 4000000 in
theorem c_X6_order {g : GG} {h : HH} {σ : SG} (W : WF σ) (R : RM (h 48) σ) {c : Nat} (hc : c < 3) : CnI mX6_order g [vr 47, vi (c : Int)] h (fun z h' => F54 h h' ∧ R32 z ∧ ∃ y l : Nat, Rk (ent2 σ) (sE σ) (2 ^ sF σ - 1) 0 y ∧ Rk (wd2 σ c) (sE σ) (2 ^ sF σ - 1 ||| 16) 0 l ∧ (y < l → z = kNONE) ∧ (l ≤ y → ∃ d e : Nat, d ≠ 0 ∧ Dv (wd2 σ c) (sE σ) (2 ^ sF σ - 1 ||| 16) y d ∧ Dv (ent2 σ) (sE σ) (2 ^ sF σ - 1) y e ∧ z = (e : Int).tdiv d)) := by
  refine cn_q (lv := [vr 47, vi (c : Int), vx, vx]) tX6_order.1 rfl rfl (fun hR Q hQ => ?_)
  have w1 := W.1
  have w2 := W.2.1
  have w3 := W.2.2.1
  have b1 := b_shl (j := sF σ) (by omega)
  have b2 := b_pos (sF σ)
  have mk := mask1 (C := sF σ) (by omega)
  have ow := okc_w W
  have of := okc_f W mk.1
  have wb := wd2_bit W (c := c) mk.1
  refine z_aload_n dX6_order_0 rfl ?_
  refine z_iconst dX6_order_1 ?_
  refine z_callV_I (M := mX6_order) [_] tX6_rankAll kX6_303 dX6_order_2 ⟨by decide, rfl, _, _, rfl⟩ ⟨by decide, by decide⟩ rfl (Nat.le_of_ble_eq_true rfl) rfl (c_X6_rankAll2 W R) (fun z2 h2 q2 => ?_)
  obtain ⟨⟨y, y1, y2, y3⟩, yf⟩ := q2
  have Ry := F54.rm yf R
  rw [y1]
  refine z_istore_n dX6_order_5 (by decide) rfl ?_
  refine z_aload_n dX6_order_6 rfl ?_
  refine z_iconst dX6_order_7 ?_
  refine z_callV_eI (M := mX6_order) [_] tX6_allColumns kX6_124 dX6_order_8 ⟨by decide, rfl, _, _, rfl⟩ ⟨by decide, by decide⟩ rfl (Nat.le_of_ble_eq_true rfl) rfl (c_X6_allColumns2 W Ry) ?_
  refine z_bipush dX6_order_11 (by decide) ?_
  refine z_ior dX6_order_13 ?_
  rw [wide_or0 ⟨sF σ, by omega⟩]
  refine z_istore_n dX6_order_14 (by decide) rfl ?_
  refine z_aload_n dX6_order_15 rfl ?_
  refine z_iconst dX6_order_16 ?_
  refine z_iload_n dX6_order_17 rfl ?_
  refine z_iload_n dX6_order_18 rfl ?_
  refine z_callV_I (M := mX6_order) [_, _, _] tX6_rankOf kX6_127 dX6_order_19 ⟨by decide, rfl, _, _, rfl⟩ ⟨by decide, by decide⟩ rfl (Nat.le_of_ble_eq_true rfl) rfl (c_X6_rankOf (ch := (c : Int)) (by omega) ow.1 (wd_2 W Ry hc ow)) (fun z19 h19 q19 => ?_)
  obtain ⟨⟨l, l1, l2, l3⟩, lf⟩ := q19
  have Rl := F54.rm lf Ry
  rw [l1]
  refine z_iload_n dX6_order_22 rfl ?_
  refine z_icmp_le 30 dX6_order_23 (by decide) (by omega) (by omega) (fun c23 => ?_) (fun c23 => ?_)
  · refine z_aload_n dX6_order_30 rfl ?_
    refine z_iconst dX6_order_31 ?_
    refine z_aload_n dX6_order_32 rfl ?_
    refine z_iconst dX6_order_33 ?_
    refine z_callV_eI (M := mX6_order) [_] tX6_allColumns kX6_124 dX6_order_34 ⟨by decide, rfl, _, _, rfl⟩ ⟨by decide, by decide⟩ rfl (Nat.le_of_ble_eq_true rfl) rfl (c_X6_allColumns2 W Rl) ?_
    refine z_iload_n dX6_order_37 rfl ?_
    refine z_iload_n dX6_order_38 rfl ?_
    refine z_callV_L (M := mX6_order) [_, _, _, _] tX6_minorsOf kX6_121 dX6_order_39 ⟨by decide, rfl, _, _, rfl⟩ ⟨by decide, by decide⟩ rfl (Nat.le_of_ble_eq_true rfl) rfl (c_X6_minorsOf (ch := (c : Int)) (by omega) of.1 (wd_2 W Rl hc of) (k := y) (by omega)) (fun z39 h39 q39 => ?_)
    obtain ⟨⟨e, e1, e2, e3⟩, ef⟩ := q39
    have Re := F54.rm ef Rl
    have e4 := dv_cols w2 of.1 wb e3
    rw [e1]
    refine z_aload_n dX6_order_42 rfl ?_
    refine z_iconst dX6_order_43 ?_
    refine z_iload_n dX6_order_44 rfl ?_
    refine z_iload_n dX6_order_45 rfl ?_
    refine z_iload_n dX6_order_46 rfl ?_
    refine z_callV_L (M := mX6_order) [_, _, _, _] tX6_minorsOf kX6_121 dX6_order_47 ⟨by decide, rfl, _, _, rfl⟩ ⟨by decide, by decide⟩ rfl (Nat.le_of_ble_eq_true rfl) rfl (c_X6_minorsOf (ch := (c : Int)) (by omega) ow.1 (wd_2 W Re hc ow) (k := y) (by omega)) (fun z47 h47 q47 => ?_)
    obtain ⟨⟨d, d1, d2, d3⟩, df⟩ := q47
    rw [d1]
    have d0 := ord_nz w2 of.1 ow.1 (fun c q => ord_sub (sF σ) (by omega) c q) wb y3 d3
    have e5 := dv_r32 w2 of.1 (fun i j hi hj hb => ent2_9 W (bit_C (by omega) mk.1 hj hb)) y3 (Nat.le_refl y) (pcF0 ⟨sF σ, by omega⟩) e4
    refine z_ldiv dX6_order_50 (by omega) (by omega) (by omega) ?_
    refine z_l2i dX6_order_51 ?_
    exact z_ireturn dX6_order_52 rfl (hQ _ _ ⟨_, rfl, ⟨F54.tr (F54.tr (F54.tr yf lf) ef) df, tdiv_32 e5, y, l, y3, l3, fun q => by omega, fun _ => ⟨d, e, d0, d3, e4, rfl⟩⟩⟩)
  · refine z_ldcw (-1000000) dX6_order_26 qX6_291 rfl ?_
    exact z_ireturn dX6_order_29 rfl (hQ _ _ ⟨_, rfl, ⟨F54.tr yf lf, by decide, y, l, y3, l3, fun _ => rfl, fun q => by omega⟩⟩)
set_option maxRecDepth 100000 in
set_option maxHeartbeats 4000000 in
theorem c_X6_whole1 {g : GG} {h : HH} {σ : SG} (W : WF σ) (R : RM (h 48) σ) {c : Nat} (hc : c < 3) (h0 : 0 < sP σ) : CnI mX6_whole g [vr 47, vi (c : Int), vi 1] h (fun z h' => F54 h h' ∧ ∃ o : Int, (∃ y l : Nat, Rk (ent2 σ) (sE σ) (2 ^ sF σ - 1) 0 y ∧ Rk (wd2 σ c) (sE σ) (2 ^ sF σ - 1 ||| 16) 0 l ∧ (y < l → o = kNONE) ∧ (l ≤ y → ∃ d e : Nat, d ≠ 0 ∧ Dv (wd2 σ c) (sE σ) (2 ^ sF σ - 1 ||| 16) y d ∧ Dv (ent2 σ) (sE σ) (2 ^ sF σ - 1) y e ∧ o = (e : Int).tdiv d)) ∧ z = bi (o = 1)) := by
  refine cn_q (lv := [vr 47, vi (c : Int), vi 1]) tX6_whole.1 rfl rfl (fun hR Q hQ => ?_)
  refine z_aload_n dX6_whole_0 rfl ?_
  refine z_callV_eI (M := mX6_whole) [] tX6_isComplex kX6_244 dX6_whole_1 ⟨by decide, rfl, _, _, rfl⟩ ⟨by decide, by decide⟩ rfl (Nat.le_of_ble_eq_true rfl) rfl (c_X6_isComplex W.wb R) ?_
  refine z_if_ne 10 dX6_whole_4 (by decide) (bi_r _) (fun c4 => ?_) (fun c4 => ?_)
  · have c4 := bi_ne.mp c4
    refine z_iload_n dX6_whole_10 rfl ?_
    refine z_i2l dX6_whole_11 (by omega) ?_
    refine z_lconst (z := 0) dX6_whole_12 rfl ?_
    refine z_ldc2 (2) dX6_whole_13 qX6_242 rfl ?_
    refine z_callS_eI (M := mX6_whole) [_, _, _] tX6_in kX6_150 dX6_whole_16 ⟨by decide, by decide⟩ rfl (Nat.le_of_ble_eq_true rfl) rfl (c_X6_in (by omega) (by omega) (by omega)) ?_
    refine z_if_eq 34 dX6_whole_19 (by decide) (bi_r _) (fun c19 => ?_) (fun c19 => ?_)
    · have c19 := bi_eq.mp c19
      omega
    · have c19 := bi_ne.mp c19
      refine z_iload_n dX6_whole_22 rfl ?_
      refine z_i2l dX6_whole_23 (by omega) ?_
      refine z_lconst (z := 0) dX6_whole_24 rfl ?_
      refine z_ldc2 (2) dX6_whole_25 qX6_242 rfl ?_
      refine z_callS_eI (M := mX6_whole) [_, _, _] tX6_in kX6_150 dX6_whole_28 ⟨by decide, by decide⟩ rfl (Nat.le_of_ble_eq_true rfl) rfl (c_X6_in (by omega) (by omega) (by omega)) ?_
      refine z_if_ne 37 dX6_whole_31 (by decide) (bi_r _) (fun c31 => ?_) (fun c31 => ?_)
      · have c31 := bi_ne.mp c31
        refine z_iload_n dX6_whole_37 rfl ?_
        refine z_if_ne 55 dX6_whole_38 (by decide) (by omega) (fun c38 => ?_) (fun c38 => ?_)
        · refine z_iload_n dX6_whole_55 rfl ?_
          refine z_iconst dX6_whole_56 ?_
          refine z_icmp_ne 68 dX6_whole_57 (by decide) (by omega) (by omega) (fun c57 => ?_) (fun c57 => ?_)
          · refine z_aload_n dX6_whole_68 rfl ?_
            refine z_iload_n dX6_whole_69 rfl ?_
            refine z_callV_I (M := mX6_whole) [_] tX6_order kX6_324 dX6_whole_70 ⟨by decide, rfl, _, _, rfl⟩ ⟨by decide, by decide⟩ rfl (Nat.le_of_ble_eq_true rfl) rfl (c_X6_order W R hc) (fun z70 h70 q70 => ?_)
            have rz := q70.2.1
            refine z_iconst dX6_whole_73 ?_
            refine z_icmp_ne 81 dX6_whole_74 (by decide) (by omega) (by omega) (fun c74 => ?_) (fun c74 => ?_)
            · refine z_iconst dX6_whole_81 ?_
              exact z_ireturn dX6_whole_82 rfl (hQ _ _ ⟨_, rfl, ⟨q70.1, z70, q70.2.2, bi_f c74⟩⟩)
            · refine z_iconst dX6_whole_77 ?_
              refine z_goto 82 dX6_whole_78 (by decide) ?_
              exact z_ireturn dX6_whole_82 rfl (hQ _ _ ⟨_, rfl, ⟨q70.1, z70, q70.2.2, bi_t c74⟩⟩)
          · omega
        · omega
      · have c31 := bi_eq.mp c31
        omega
  · have c4 := bi_eq.mp c4
    omega
set_option maxRecDepth 100000 in
set_option maxHeartbeats 4000000 in
theorem c_X6_whole2 {g : GG} {h : HH} {σ : SG} (W : WF σ) (R : RM (h 48) σ) {c : Nat} (hc : c < 3) (h0 : 0 < sP σ) : CnI mX6_whole g [vr 47, vi (c : Int), vi 2] h (fun z h' => F54 h h' ∧ (∃ y l : Nat, Rk (ent2 σ) (sE σ) (2 ^ sF σ - 1) 0 y ∧ Rk (wd2 σ c) (sE σ) (2 ^ sF σ - 1 ||| 16) 0 l ∧ (y < l → z = kNONE) ∧ (l ≤ y → ∃ d e : Nat, d ≠ 0 ∧ Dv (wd2 σ c) (sE σ) (2 ^ sF σ - 1 ||| 16) y d ∧ Dv (ent2 σ) (sE σ) (2 ^ sF σ - 1) y e ∧ z = (e : Int).tdiv d))) := by
  refine cn_q (lv := [vr 47, vi (c : Int), vi 2]) tX6_whole.1 rfl rfl (fun hR Q hQ => ?_)
  refine z_aload_n dX6_whole_0 rfl ?_
  refine z_callV_eI (M := mX6_whole) [] tX6_isComplex kX6_244 dX6_whole_1 ⟨by decide, rfl, _, _, rfl⟩ ⟨by decide, by decide⟩ rfl (Nat.le_of_ble_eq_true rfl) rfl (c_X6_isComplex W.wb R) ?_
  refine z_if_ne 10 dX6_whole_4 (by decide) (bi_r _) (fun c4 => ?_) (fun c4 => ?_)
  · have c4 := bi_ne.mp c4
    refine z_iload_n dX6_whole_10 rfl ?_
    refine z_i2l dX6_whole_11 (by omega) ?_
    refine z_lconst (z := 0) dX6_whole_12 rfl ?_
    refine z_ldc2 (2) dX6_whole_13 qX6_242 rfl ?_
    refine z_callS_eI (M := mX6_whole) [_, _, _] tX6_in kX6_150 dX6_whole_16 ⟨by decide, by decide⟩ rfl (Nat.le_of_ble_eq_true rfl) rfl (c_X6_in (by omega) (by omega) (by omega)) ?_
    refine z_if_eq 34 dX6_whole_19 (by decide) (bi_r _) (fun c19 => ?_) (fun c19 => ?_)
    · have c19 := bi_eq.mp c19
      omega
    · have c19 := bi_ne.mp c19
      refine z_iload_n dX6_whole_22 rfl ?_
      refine z_i2l dX6_whole_23 (by omega) ?_
      refine z_lconst (z := 0) dX6_whole_24 rfl ?_
      refine z_ldc2 (2) dX6_whole_25 qX6_242 rfl ?_
      refine z_callS_eI (M := mX6_whole) [_, _, _] tX6_in kX6_150 dX6_whole_28 ⟨by decide, by decide⟩ rfl (Nat.le_of_ble_eq_true rfl) rfl (c_X6_in (by omega) (by omega) (by omega)) ?_
      refine z_if_ne 37 dX6_whole_31 (by decide) (bi_r _) (fun c31 => ?_) (fun c31 => ?_)
      · have c31 := bi_ne.mp c31
        refine z_iload_n dX6_whole_37 rfl ?_
        refine z_if_ne 55 dX6_whole_38 (by decide) (by omega) (fun c38 => ?_) (fun c38 => ?_)
        · refine z_iload_n dX6_whole_55 rfl ?_
          refine z_iconst dX6_whole_56 ?_
          refine z_icmp_ne 68 dX6_whole_57 (by decide) (by omega) (by omega) (fun c57 => ?_) (fun c57 => ?_)
          · omega
          · refine z_aload_n dX6_whole_60 rfl ?_
            refine z_iload_n dX6_whole_61 rfl ?_
            refine z_callV_I (M := mX6_whole) [_] tX6_order kX6_324 dX6_whole_62 ⟨by decide, rfl, _, _, rfl⟩ ⟨by decide, by decide⟩ rfl (Nat.le_of_ble_eq_true rfl) rfl (c_X6_order W R hc) (fun z62 h62 q62 => ?_)
            have rz := q62.2.1
            refine z_goto 82 dX6_whole_65 (by decide) ?_
            exact z_ireturn dX6_whole_82 rfl (hQ _ _ ⟨_, rfl, ⟨q62.1, q62.2.2⟩⟩)
        · omega
      · have c31 := bi_eq.mp c31
        omega
  · have c4 := bi_eq.mp c4
    omega

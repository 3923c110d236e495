set_option maxRecDepth 100000 in
set_option maxHeartbeats 4000000 in
theorem c_X5_tableRank1 {g : GG} {h : HH} {σ : SG} (W : WF σ) (C : RC (h 2) σ) {p : Int} (hp : R32 p) : CnI mX5_tableRank g [vr 0, vi 1, vi p] h (fun z h' => GF h h' ∧ ∃ k : Nat, z = k ∧ k ≤ 6 ∧ Rk (ent1 σ) (sP σ) (2 ^ sE σ - 1) p k) := by
  refine cn_q (lv := [vr 0, vi 1, vi p]) tX5_tableRank.1 rfl rfl (fun hR Q hQ => ?_)
  have w1 := W.1
  have w2 := W.2.1
  have w3 := W.2.2.1
  have b2 := b_pos (sE σ)
  refine z_aload_n dX5_tableRank_0 rfl ?_
  refine z_getR fX5_36 dX5_tableRank_1 (by decide) rfl rfl ?_
  refine z_aload_n dX5_tableRank_4 rfl ?_
  refine z_getR fX5_10 dX5_tableRank_5 (by decide) rfl rfl ?_
  refine z_iload_n dX5_tableRank_8 rfl ?_
  refine z_callV_V (M := mX5_tableRank) [_, _] tX1_loadTable kX5_205 dX5_tableRank_9 ⟨by decide, rfl, _, _, rfl⟩ ⟨by decide, by decide⟩ rfl (Nat.le_of_ble_eq_true rfl) rfl (c_X1_loadTable1 W C) (fun h9 q9 => ?_)
  refine z_aload_n dX5_tableRank_12 rfl ?_
  refine z_getR fX5_36 dX5_tableRank_13 (by decide) rfl rfl ?_
  refine z_callV_V (M := mX5_tableRank) [] tX1_fillMinors kX5_209 dX5_tableRank_16 ⟨by decide, rfl, _, _, rfl⟩ ⟨by decide, by decide⟩ rfl (Nat.le_of_ble_eq_true rfl) rfl (c_X1_fillMinors q9.2.1 (by omega) q9.2.2.1 (by omega) (lg_64 q9 (by omega) (by omega) (ent1_64 W))) (fun h16 q16 => ?_)
  obtain ⟨f, g1, g2⟩ := q16
  have E2 : h16 9 2 = sP σ := by rw [g1, setc_ne _ _ (by decide)]; exact q9.2.1
  have E3 : h16 9 3 = sE σ := by rw [g1, setc_ne _ _ (by decide)]; exact q9.2.2.1
  have F16 : GF h h16 := by rw [g1]; exact lg_gf q9 f
  have m16 : MT (h16 17) (GA h9) (sP σ) (sE σ) := by rw [g1, setc_at]; exact g2
  refine z_aload_n dX5_tableRank_19 rfl ?_
  refine z_getR fX5_36 dX5_tableRank_20 (by decide) rfl rfl ?_
  refine z_iload_n dX5_tableRank_23 rfl ?_
  refine z_aload_n dX5_tableRank_24 rfl ?_
  refine z_getR fX5_36 dX5_tableRank_25 (by decide) rfl rfl ?_
  refine z_callV_eI (M := mX5_tableRank) [] tX1_allColumns kX5_257 dX5_tableRank_28 ⟨by decide, rfl, _, _, rfl⟩ ⟨by decide, by decide⟩ rfl (Nat.le_of_ble_eq_true rfl) rfl (c_X1_allColumns E3 (by omega)) ?_
  refine z_callV_pI (M := mX5_tableRank) [_, _] tX1_rankBy kX5_212 dX5_tableRank_31 ⟨by decide, rfl, _, _, rfl⟩ ⟨by decide, by decide⟩ rfl (Nat.le_of_ble_eq_true rfl) rfl (c_X1_rankBy E2 (by omega) E3 (by omega) m16 hp (a := 2 ^ sE σ - 1) (by omega)) (fun z31 q31 => ?_)
  obtain ⟨k, k1, k2, k3⟩ := q31
  exact z_ireturn dX5_tableRank_34 rfl (hQ _ _ ⟨_, rfl, ⟨F16, k, k1, k2, rk_grid (by omega) (by omega) (lg_ga q9) (by omega) k3⟩⟩)
set_option maxRecDepth 100000 in
set_option maxHeartbeats 4000000 in
theorem c_X5_tableRank2 {g : GG} {h : HH} {σ : SG} (W : WF σ) (C : RC (h 2) σ) {p : Int} (hp : R32 p) : CnI mX5_tableRank g [vr 0, vi 2, vi p] h (fun z h' => GF h h' ∧ ∃ k : Nat, z = k ∧ k ≤ 6 ∧ Rk (ent2 σ) (sE σ) (2 ^ sF σ - 1) p k) := by
  refine cn_q (lv := [vr 0, vi 2, vi p]) tX5_tableRank.1 rfl rfl (fun hR Q hQ => ?_)
  have w1 := W.1
  have w2 := W.2.1
  have w3 := W.2.2.1
  have b2 := b_pos (sF σ)
  refine z_aload_n dX5_tableRank_0 rfl ?_
  refine z_getR fX5_36 dX5_tableRank_1 (by decide) rfl rfl ?_
  refine z_aload_n dX5_tableRank_4 rfl ?_
  refine z_getR fX5_10 dX5_tableRank_5 (by decide) rfl rfl ?_
  refine z_iload_n dX5_tableRank_8 rfl ?_
  refine z_callV_V (M := mX5_tableRank) [_, _] tX1_loadTable kX5_205 dX5_tableRank_9 ⟨by decide, rfl, _, _, rfl⟩ ⟨by decide, by decide⟩ rfl (Nat.le_of_ble_eq_true rfl) rfl (c_X1_loadTable2 W C) (fun h9 q9 => ?_)
  refine z_aload_n dX5_tableRank_12 rfl ?_
  refine z_getR fX5_36 dX5_tableRank_13 (by decide) rfl rfl ?_
  refine z_callV_V (M := mX5_tableRank) [] tX1_fillMinors kX5_209 dX5_tableRank_16 ⟨by decide, rfl, _, _, rfl⟩ ⟨by decide, by decide⟩ rfl (Nat.le_of_ble_eq_true rfl) rfl (c_X1_fillMinors q9.2.1 (by omega) q9.2.2.1 (by omega) (lg_64 q9 (by omega) (by omega) (ent2_64 W))) (fun h16 q16 => ?_)
  obtain ⟨f, g1, g2⟩ := q16
  have E2 : h16 9 2 = sE σ := by rw [g1, setc_ne _ _ (by decide)]; exact q9.2.1
  have E3 : h16 9 3 = sF σ := by rw [g1, setc_ne _ _ (by decide)]; exact q9.2.2.1
  have F16 : GF h h16 := by rw [g1]; exact lg_gf q9 f
  have m16 : MT (h16 17) (GA h9) (sE σ) (sF σ) := by rw [g1, setc_at]; exact g2
  refine z_aload_n dX5_tableRank_19 rfl ?_
  refine z_getR fX5_36 dX5_tableRank_20 (by decide) rfl rfl ?_
  refine z_iload_n dX5_tableRank_23 rfl ?_
  refine z_aload_n dX5_tableRank_24 rfl ?_
  refine z_getR fX5_36 dX5_tableRank_25 (by decide) rfl rfl ?_
  refine z_callV_eI (M := mX5_tableRank) [] tX1_allColumns kX5_257 dX5_tableRank_28 ⟨by decide, rfl, _, _, rfl⟩ ⟨by decide, by decide⟩ rfl (Nat.le_of_ble_eq_true rfl) rfl (c_X1_allColumns E3 (by omega)) ?_
  refine z_callV_pI (M := mX5_tableRank) [_, _] tX1_rankBy kX5_212 dX5_tableRank_31 ⟨by decide, rfl, _, _, rfl⟩ ⟨by decide, by decide⟩ rfl (Nat.le_of_ble_eq_true rfl) rfl (c_X1_rankBy E2 (by omega) E3 (by omega) m16 hp (a := 2 ^ sF σ - 1) (by omega)) (fun z31 q31 => ?_)
  obtain ⟨k, k1, k2, k3⟩ := q31
  exact z_ireturn dX5_tableRank_34 rfl (hQ _ _ ⟨_, rfl, ⟨F16, k, k1, k2, rk_grid (by omega) (by omega) (lg_ga q9) (by omega) k3⟩⟩)

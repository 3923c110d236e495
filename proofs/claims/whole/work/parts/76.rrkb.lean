set_option maxRecDepth 100000 in
set_option maxHeartbeats 4000000 in
theorem c_X6_wide1 {g : GG} {h : HH} {σ : SG} (W : WF σ) (R : RM (h 48) σ) {i j : Nat} (hi : i < 6) (hj : j < sE σ) {c : Int} (hc : R32 c) : CeI mX6_wide g [vr 47, vi 1, vi (i : Int), vi (j : Int), vi c] h (ent1 σ i j) := by
  refine cn_q (lv := [vr 47, vi 1, vi (i : Int), vi (j : Int), vi c]) tX6_wide.1 rfl rfl (fun hR Q hQ => ?_)
  have w1 := W.1
  have w2 := W.2.1
  have w3 := W.2.2.1
  refine z_iload_n dX6_wide_0 rfl ?_
  refine z_iconst dX6_wide_1 ?_
  refine z_icmp_ne 28 dX6_wide_2 (by decide) (by omega) (by omega) (fun c2 => ?_) (fun c2 => ?_)
  · refine z_aload_n dX6_wide_28 rfl ?_
    refine z_iload_n dX6_wide_29 rfl ?_
    refine z_iload_n dX6_wide_30 rfl ?_
    refine z_iload_n dX6_wide_31 rfl ?_
    refine z_callV_eI (M := mX6_wide) [_, _, _] tX6_entry kX6_77 dX6_wide_32 ⟨by decide, rfl, _, _, rfl⟩ ⟨by decide, by decide⟩ rfl (Nat.le_of_ble_eq_true rfl) rfl (c_X6_entry1 W R hi hj) ?_
    exact z_ireturn dX6_wide_35 rfl (hQ _ _ ⟨_, rfl, rfl, rfl⟩)
  · omega
set_option maxRecDepth 100000 in
set_option maxHeartbeats 4000000 in
theorem c_X6_wide2 {g : GG} {h : HH} {σ : SG} (W : WF σ) (R : RM (h 48) σ) {c i j : Nat} (hc : c < 3) (hi : i < sE σ) (hj : j < sF σ ∨ j = 4) : CeI mX6_wide g [vr 47, vi 2, vi (i : Int), vi (j : Int), vi (c : Int)] h (wd2 σ c i j) := by
  refine cn_q (lv := [vr 47, vi 2, vi (i : Int), vi (j : Int), vi (c : Int)]) tX6_wide.1 rfl rfl (fun hR Q hQ => ?_)
  have w1 := W.1
  have w2 := W.2.1
  have w3 := W.2.2.1
  refine z_iload_n dX6_wide_0 rfl ?_
  refine z_iconst dX6_wide_1 ?_
  refine z_icmp_ne 28 dX6_wide_2 (by decide) (by omega) (by omega) (fun c2 => ?_) (fun c2 => ?_)
  · omega
  · refine z_iload_n dX6_wide_5 rfl ?_
    refine z_iconst dX6_wide_6 ?_
    refine z_icmp_ne 28 dX6_wide_7 (by decide) (by omega) (by omega) (fun c7 => ?_) (fun c7 => ?_)
    · refine z_aload_n dX6_wide_28 rfl ?_
      refine z_iload_n dX6_wide_29 rfl ?_
      refine z_iload_n dX6_wide_30 rfl ?_
      refine z_iload_n dX6_wide_31 rfl ?_
      refine z_callV_eI (M := mX6_wide) [_, _, _] tX6_entry kX6_77 dX6_wide_32 ⟨by decide, rfl, _, _, rfl⟩ ⟨by decide, by decide⟩ rfl (Nat.le_of_ble_eq_true rfl) rfl (c_X6_entry2 W R (i := i) (j := j) (by omega) (by omega)) ?_
      exact z_ireturn dX6_wide_35 rfl (hQ _ _ ⟨_, rfl, (by unfold wd2; rw [if_neg (by omega)]), rfl⟩)
    · refine z_aload_n dX6_wide_10 rfl ?_
      refine z_getR fX6_7 dX6_wide_11 (by decide) rfl rfl ?_
      refine z_bipush dX6_wide_14 (by decide) ?_
      refine z_bipush dX6_wide_16 (by decide) ?_
      refine z_iload dX6_wide_18 rfl ?_
      refine z_imul dX6_wide_20 ?_
      refine z_iadd dX6_wide_21 ?_
      refine z_iload_n dX6_wide_22 rfl ?_
      refine z_iadd dX6_wide_23 ?_
      refine z_iaload dX6_wide_24 (by decide) rfl (by omega) (by omega) (by first | decide | omega) (fun r24 => ?_)
      refine z_goto 35 dX6_wide_25 (by decide) ?_
      exact z_ireturn dX6_wide_35 rfl (hQ _ _ ⟨_, rfl, (by unfold wd2; rw [if_pos (by omega)]; exact rm_ch R hc hi (by omega)), rfl⟩)
set_option maxRecDepth 100000 in
set_option maxHeartbeats 4000000 in
theorem c_X6_allColumns1 {g : GG} {h : HH} {σ : SG} (W : WF σ) (R : RM (h 48) σ) : CeI mX6_allColumns g [vr 47, vi 1] h ((2 ^ sE σ - 1 : Nat) : Int) := by
  refine cn_q (lv := [vr 47, vi 1]) tX6_allColumns.1 rfl rfl (fun hR Q hQ => ?_)
  have w1 := W.1
  have w2 := W.2.1
  have w3 := W.2.2.1
  have b1 := b_shl (j := sE σ) (by omega)
  have b2 := b_pos (sE σ)
  refine z_iconst dX6_allColumns_0 ?_
  refine z_aload_n dX6_allColumns_1 rfl ?_
  refine z_iload_n dX6_allColumns_2 rfl ?_
  refine z_callV_eI (M := mX6_allColumns) [_] tX6_columns kX6_74 dX6_allColumns_3 ⟨by decide, rfl, _, _, rfl⟩ ⟨by decide, by decide⟩ rfl (Nat.le_of_ble_eq_true rfl) rfl (c_X6_columns1 R) ?_
  refine z_ishl dX6_allColumns_6 ?_
  rw [b1.1]
  refine z_iconst dX6_allColumns_7 ?_
  refine z_isub dX6_allColumns_8 ?_
  rw [show ((2 ^ sE σ : Nat) : Int) - 1 = ((2 ^ sE σ - 1 : Nat) : Int) from by omega]
  exact z_ireturn dX6_allColumns_9 rfl (hQ _ _ ⟨_, rfl, rfl, rfl⟩)
set_option maxRecDepth 100000 in
set_option maxHeartbeats 4000000 in
theorem c_X6_allColumns2 {g : GG} {h : HH} {σ : SG} (W : WF σ) (R : RM (h 48) σ) : CeI mX6_allColumns g [vr 47, vi 2] h ((2 ^ sF σ - 1 : Nat) : Int) := by
  refine cn_q (lv := [vr 47, vi 2]) tX6_allColumns.1 rfl rfl (fun hR Q hQ => ?_)
  have w1 := W.1
  have w2 := W.2.1
  have w3 := W.2.2.1
  have b1 := b_shl (j := sF σ) (by omega)
  have b2 := b_pos (sF σ)
  refine z_iconst dX6_allColumns_0 ?_
  refine z_aload_n dX6_allColumns_1 rfl ?_
  refine z_iload_n dX6_allColumns_2 rfl ?_
  refine z_callV_eI (M := mX6_allColumns) [_] tX6_columns kX6_74 dX6_allColumns_3 ⟨by decide, rfl, _, _, rfl⟩ ⟨by decide, by decide⟩ rfl (Nat.le_of_ble_eq_true rfl) rfl (c_X6_columns2 R) ?_
  refine z_ishl dX6_allColumns_6 ?_
  rw [b1.1]
  refine z_iconst dX6_allColumns_7 ?_
  refine z_isub dX6_allColumns_8 ?_
  rw [show ((2 ^ sF σ : Nat) : Int) - 1 = ((2 ^ sF σ - 1 : Nat) : Int) from by omega]
  exact z_ireturn dX6_allColumns_9 rfl (hQ _ _ ⟨_, rfl, rfl, rfl⟩)

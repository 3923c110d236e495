set_option maxRecDepth 100000 in
set_option maxHeartbeats 4000000 in
theorem c_X6_independent2 {g : GG} {h : HH} {σ : SG} (W : WF σ) (R : RM (h 48) σ) : CnI mX6_independent g [vr 47, vi 2] h (fun z h' => (∃ I : Nat, z = I ∧ IND (sE σ) (sF σ) (ryF σ) (sF σ) I) ∧ F54 h h') := by
  refine cn_q (lv := [vr 47, vi 2, vx, vx, vx, vx, vx]) tX6_independent.1 rfl rfl (fun hR Q hQ => ?_)
  have w1 := W.1
  have w2 := W.2.1
  have w3 := W.2.2.1
  refine z_iconst dX6_independent_0 ?_
  refine z_istore_n dX6_independent_1 (by decide) rfl ?_
  refine z_iload_n dX6_independent_2 rfl ?_
  refine z_iconst dX6_independent_3 ?_
  refine z_icmp_ne 16 dX6_independent_4 (by decide) (by omega) (by omega) (fun c4 => ?_) (fun c4 => ?_)
  · refine z_aload_n dX6_independent_16 rfl ?_
    refine z_getR fX6_7 dX6_independent_17 (by decide) rfl rfl ?_
    refine z_iconst dX6_independent_20 ?_
    refine z_iaload dX6_independent_21 (by decide) rfl (by omega) (by omega) (by first | decide | omega) (fun r21 => ?_)
    rw [show h 48 (Int.toNat 2) = sF σ from rm_F R]
    refine z_istore_n dX6_independent_22 (by decide) rfl ?_
    refine z_iconst dX6_independent_23 ?_
    refine z_istore dX6_independent_24 (by decide) rfl ?_
    have loop26 : ∀ (nL9 : Nat) (k : Nat) (I : Nat) (f : Nat → Int), (k ≤ sF σ) → (IND (sE σ) (sF σ) (ryF σ) k I) → sF σ - k < nL9 → Z mX6_independent g 26 [vr 47, vi 2, vi (I : Int), vi (sF σ : Int), vi (k : Int), vx, vx] [] (setc h 54 f) Q := by
      intro nL9
      induction nL9 with
      | zero => intro k I f hk hI hnL9; exact absurd hnL9 (Nat.not_lt_zero _)
      | succ nL9 ih26 =>
        intro k I f hk hI hnL9
        refine z_iload dX6_independent_26 rfl ?_
        refine z_iload_n dX6_independent_28 rfl ?_
        refine z_icmp_ge 108 dX6_independent_29 (by decide) (by omega) (by omega) (fun c29 => ?_) (fun c29 => ?_)
        · refine z_iload_n dX6_independent_108 rfl ?_
          exact z_ireturn dX6_independent_109 rfl (hQ _ _ ⟨_, rfl, ⟨⟨I, rfl, by rw [show k = sF σ from by omega] at hI; exact hI⟩, f, rfl⟩⟩)
        · have hk6 : k < 6 := by omega
          have bk := b_shl (j := k) (by omega)
          have bn := pow_mono2 (show k + 1 ≤ sF σ by omega)
          have b6 := b_shl (j := sF σ) (by omega)
          have nx := (top0 ⟨I, by have := hI.1; omega⟩ ⟨k, hk6⟩ hI.1).2.2.1
          have nx : I + 2 ^ k < 2 ^ (k + 1) := nx
          have bp := b_pos k
          have nx2 : I + 2 ^ k < 2 ^ sF σ := by omega
          refine z_iload_n dX6_independent_32 rfl ?_
          refine z_iconst dX6_independent_33 ?_
          refine z_iload dX6_independent_34 rfl ?_
          refine z_ishl dX6_independent_36 ?_
          rw [bk.1]
          refine z_ior dX6_independent_37 ?_
          rw [ior_k hk6 hI.1]
          refine z_istore dX6_independent_38 (by decide) rfl ?_
          refine z_iload_n dX6_independent_40 rfl ?_
          refine z_iconst dX6_independent_41 ?_
          refine z_icmp_ne 69 dX6_independent_42 (by decide) (by omega) (by omega) (fun c42 => ?_) (fun c42 => ?_)
          · omega
          · refine z_aload_n dX6_independent_45 rfl ?_
            refine z_iconst dX6_independent_46 ?_
            refine z_iload dX6_independent_47 rfl ?_
            refine z_iconst dX6_independent_49 ?_
            refine z_callV_I (M := mX6_independent) [_, _, _] tX6_rankOf kX6_127 dX6_independent_50 ⟨by decide, rfl, _, _, rfl⟩ ⟨by decide, by decide⟩ rfl (Nat.le_of_ble_eq_true rfl) rfl (c_X6_rankOf (ch := ((0 : Nat) : Int)) (a := I + 2 ^ k) (by omega) (by omega) (wd_2 W (rm54 R f) (by decide) (okc_f W nx2))) (fun z50 h50 q50 => ?_)
            obtain ⟨⟨y, y1, y2, y3⟩, f1, f2⟩ := q50
            rw [y1, f2, setc_setc]
            have nz : nzs (fun e j => ryF σ j e) (sE σ) (I + 2 ^ k) (pc6 (I + 2 ^ k)) ↔ y = pc6 (I + 2 ^ k) := nzs_rk (a := I + 2 ^ k) (y := pc6 (I + 2 ^ k)) (by omega) rfl (rk_cols w2 (by omega) (wd2_bit W (c := 0) nx2) y3)
            have pn6 := (pc6_r (c := I + 2 ^ k) (by omega)).1
            have cut90 : ∀ b : Int, (b = 0 ∨ b = 1) → (b = 1 ↔ y = pc6 (I + 2 ^ k)) → Z mX6_independent g 90 [vr 47, vi 2, vi (I : Int), vi (sF σ : Int), vi (k : Int), vi ((I + 2 ^ k : Nat) : Int), vi b] [] (setc h 54 f1) Q := by
              intro b hb01 hb1
              refine z_iload dX6_independent_90 rfl ?_
              refine z_if_eq 100 dX6_independent_92 (by decide) (by omega) (fun c92 => ?_) (fun c92 => ?_)
              · refine z_iload_n dX6_independent_100 rfl ?_
                refine z_istore_n dX6_independent_101 (by decide) rfl ?_
                refine z_iinc dX6_independent_102 rfl (by decide) rfl ?_
                refine z_goto 26 dX6_independent_105 (by decide) ?_
                refine z_forget 5 ?_
                refine z_forget 6 ?_
                exact ih26 (k + 1) I f1 (by omega) (hI.no w2 hk6 (by omega) (by omega) (fun q => by have := nz.mp q; omega)) (by omega)
              · refine z_iload dX6_independent_95 rfl ?_
                refine z_goto 101 dX6_independent_97 (by decide) ?_
                refine z_istore_n dX6_independent_101 (by decide) rfl ?_
                refine z_iinc dX6_independent_102 rfl (by decide) rfl ?_
                refine z_goto 26 dX6_independent_105 (by decide) ?_
                refine z_forget 5 ?_
                refine z_forget 6 ?_
                exact ih26 (k + 1) (I + 2 ^ k) f1 (by omega) (hI.yes hk6 (nzs_ind w2 (by omega) (nz.mpr (by omega)))) (by omega)
            refine z_iload dX6_independent_53 rfl ?_
            refine z_callS_eI (M := mX6_independent) [_] tX6_ones kX6_99 dX6_independent_55 ⟨by decide, by decide⟩ rfl (Nat.le_of_ble_eq_true rfl) rfl (c_X6_ones (by omega)) ?_
            refine z_icmp_ne 65 dX6_independent_58 (by decide) (by omega) (by omega) (fun c58 => ?_) (fun c58 => ?_)
            · refine z_iconst dX6_independent_65 ?_
              refine z_goto 88 dX6_independent_66 (by decide) ?_
              refine z_istore dX6_independent_88 (by decide) rfl ?_
              exact cut90 0 (Or.inl rfl) (by omega)
            · refine z_iconst dX6_independent_61 ?_
              refine z_goto 88 dX6_independent_62 (by decide) ?_
              refine z_istore dX6_independent_88 (by decide) rfl ?_
              exact cut90 1 (Or.inr rfl) (by omega)
    have x0 := loop26 _ 0 0 (h 54) (by omega) (IND.zero _ _ _) (Nat.lt_succ_self _)
    rw [setc_self] at x0
    exact x0
  · omega
set_option maxRecDepth 100000 in
set_option maxHeartbeats 4000000 in
theorem c_X6_independent1 {g : GG} {h : HH} {σ : SG} (W : WF σ) (R : RM (h 48) σ) : CnI mX6_independent g [vr 47, vi 1] h (fun z h' => (∃ I : Nat, z = I ∧ IND (sE σ) (sP σ) (ryD σ) (sP σ) I) ∧ F54 h h') := by
  refine cn_q (lv := [vr 47, vi 1, vx, vx, vx, vx, vx]) tX6_independent.1 rfl rfl (fun hR Q hQ => ?_)
  have w1 := W.1
  have w2 := W.2.1
  have w3 := W.2.2.1
  refine z_iconst dX6_independent_0 ?_
  refine z_istore_n dX6_independent_1 (by decide) rfl ?_
  refine z_iload_n dX6_independent_2 rfl ?_
  refine z_iconst dX6_independent_3 ?_
  refine z_icmp_ne 16 dX6_independent_4 (by decide) (by omega) (by omega) (fun c4 => ?_) (fun c4 => ?_)
  · omega
  · refine z_aload_n dX6_independent_7 rfl ?_
    refine z_getR fX6_7 dX6_independent_8 (by decide) rfl rfl ?_
    refine z_iconst dX6_independent_11 ?_
    refine z_iaload dX6_independent_12 (by decide) rfl (by omega) (by omega) (by first | decide | omega) (fun r12 => ?_)
    refine z_goto 22 dX6_independent_13 (by decide) ?_
    rw [show h 48 (Int.toNat 0) = sP σ from rm_P R]
    refine z_istore_n dX6_independent_22 (by decide) rfl ?_
    refine z_iconst dX6_independent_23 ?_
    refine z_istore dX6_independent_24 (by decide) rfl ?_
    have loop26 : ∀ (nL9 : Nat) (k : Nat) (I : Nat) (f : Nat → Int), (k ≤ sP σ) → (IND (sE σ) (sP σ) (fun p e => ent1 σ p e) k I) → sP σ - k < nL9 → Z mX6_independent g 26 [vr 47, vi 1, vi (I : Int), vi (sP σ : Int), vi (k : Int), vx, vx] [] (setc h 54 f) Q := by
      intro nL9
      induction nL9 with
      | zero => intro k I f hk hI hnL9; exact absurd hnL9 (Nat.not_lt_zero _)
      | succ nL9 ih26 =>
        intro k I f hk hI hnL9
        refine z_iload dX6_independent_26 rfl ?_
        refine z_iload_n dX6_independent_28 rfl ?_
        refine z_icmp_ge 108 dX6_independent_29 (by decide) (by omega) (by omega) (fun c29 => ?_) (fun c29 => ?_)
        · refine z_iload_n dX6_independent_108 rfl ?_
          exact z_ireturn dX6_independent_109 rfl (hQ _ _ ⟨_, rfl, ⟨⟨I, rfl, by rw [show k = sP σ from by omega] at hI; exact ind_w W hI⟩, f, rfl⟩⟩)
        · have hk6 : k < 6 := by omega
          have bk := b_shl (j := k) (by omega)
          have bn := pow_mono2 (show k + 1 ≤ sP σ by omega)
          have b6 := b_shl (j := sP σ) (by omega)
          have nx := (top0 ⟨I, by have := hI.1; omega⟩ ⟨k, hk6⟩ hI.1).2.2.1
          have nx : I + 2 ^ k < 2 ^ (k + 1) := nx
          have bp := b_pos k
          have nx2 : I + 2 ^ k < 2 ^ sP σ := by omega
          refine z_iload_n dX6_independent_32 rfl ?_
          refine z_iconst dX6_independent_33 ?_
          refine z_iload dX6_independent_34 rfl ?_
          refine z_ishl dX6_independent_36 ?_
          rw [bk.1]
          refine z_ior dX6_independent_37 ?_
          rw [ior_k hk6 hI.1]
          refine z_istore dX6_independent_38 (by decide) rfl ?_
          refine z_iload_n dX6_independent_40 rfl ?_
          refine z_iconst dX6_independent_41 ?_
          refine z_icmp_ne 69 dX6_independent_42 (by decide) (by omega) (by omega) (fun c42 => ?_) (fun c42 => ?_)
          · refine z_aload_n dX6_independent_69 rfl ?_
            refine z_iload dX6_independent_70 rfl ?_
            refine z_callV_I (M := mX6_independent) [_] tX6_rankOfRows kX6_327 dX6_independent_72 ⟨by decide, rfl, _, _, rfl⟩ ⟨by decide, by decide⟩ rfl (Nat.le_of_ble_eq_true rfl) rfl (c_X6_rankOfRows W (rm54 R f) (a := I + 2 ^ k) nx2 (by omega)) (fun z72 h72 q72 => ?_)
            obtain ⟨⟨y, y1, y2, y3⟩, f1, f2⟩ := q72
            rw [y1, f2, setc_setc]
            have nz : nzs (fun e j => (fun p e => ent1 σ p e) j e) (sE σ) (I + 2 ^ k) (pc6 (I + 2 ^ k)) ↔ y = pc6 (I + 2 ^ k) := (nzr_nzs W nx2).symm.trans y3.symm
            have pn6 := (pc6_r (c := I + 2 ^ k) (by omega)).1
            have cut90 : ∀ b : Int, (b = 0 ∨ b = 1) → (b = 1 ↔ y = pc6 (I + 2 ^ k)) → Z mX6_independent g 90 [vr 47, vi 1, vi (I : Int), vi (sP σ : Int), vi (k : Int), vi ((I + 2 ^ k : Nat) : Int), vi b] [] (setc h 54 f1) Q := by
              intro b hb01 hb1
              refine z_iload dX6_independent_90 rfl ?_
              refine z_if_eq 100 dX6_independent_92 (by decide) (by omega) (fun c92 => ?_) (fun c92 => ?_)
              · refine z_iload_n dX6_independent_100 rfl ?_
                refine z_istore_n dX6_independent_101 (by decide) rfl ?_
                refine z_iinc dX6_independent_102 rfl (by decide) rfl ?_
                refine z_goto 26 dX6_independent_105 (by decide) ?_
                refine z_forget 5 ?_
                refine z_forget 6 ?_
                exact ih26 (k + 1) I f1 (by omega) (hI.no w2 hk6 (by omega) (by omega) (fun q => by have := nz.mp q; omega)) (by omega)
              · refine z_iload dX6_independent_95 rfl ?_
                refine z_goto 101 dX6_independent_97 (by decide) ?_
                refine z_istore_n dX6_independent_101 (by decide) rfl ?_
                refine z_iinc dX6_independent_102 rfl (by decide) rfl ?_
                refine z_goto 26 dX6_independent_105 (by decide) ?_
                refine z_forget 5 ?_
                refine z_forget 6 ?_
                exact ih26 (k + 1) (I + 2 ^ k) f1 (by omega) (hI.yes hk6 (nzs_ind w2 (by omega) (nz.mpr (by omega)))) (by omega)
            refine z_iload dX6_independent_75 rfl ?_
            refine z_callS_eI (M := mX6_independent) [_] tX6_ones kX6_99 dX6_independent_77 ⟨by decide, by decide⟩ rfl (Nat.le_of_ble_eq_true rfl) rfl (c_X6_ones (by omega)) ?_
            refine z_icmp_ne 87 dX6_independent_80 (by decide) (by omega) (by omega) (fun c80 => ?_) (fun c80 => ?_)
            · refine z_iconst dX6_independent_87 ?_
              refine z_istore dX6_independent_88 (by decide) rfl ?_
              exact cut90 0 (Or.inl rfl) (by omega)
            · refine z_iconst dX6_independent_83 ?_
              refine z_goto 88 dX6_independent_84 (by decide) ?_
              refine z_istore dX6_independent_88 (by decide) rfl ?_
              exact cut90 1 (Or.inr rfl) (by omega)
          · omega
    have x0 := loop26 _ 0 0 (h 54) (by omega) (IND.zero _ _ _) (Nat.lt_succ_self _)
    rw [setc_self] at x0
    exact x0
set_option maxRecDepth 100000 in
set_option maxHeartbeats 4000000 in
theorem c_X6_laysProducts1 {g : GG} {h : HH} {σ : SG} (W : WF σ) (R : RM (h 48) σ) {I : Nat} (hI : I < 2 ^ sP σ) : CnV mX6_laysProducts g [vr 47, vi 1, vi (I : Int)] h (fun h' => ∃ f, h' = setc h 54 f ∧ ∀ i j, i < pc6 I → j < pc6 I → MM f i j = prd σ 1 (nt I i) (nt I j)) := by
  refine cn_q (lv := [vr 47, vi 1, vi (I : Int), vx, vx]) tX6_laysProducts.1 rfl rfl (fun hR Q hQ => ?_)
  have w1 := W.1
  have w2 := W.2.1
  have w3 := W.2.2.1
  have b6 := b_shl (j := sP σ) (by omega)
  have I64 : I < 64 := by omega
  have p6 := (pc6_r I64).1
  have nn := nn_36 (n := pc6 I) (by omega)
  refine z_iload_n dX6_laysProducts_0 rfl ?_
  refine z_callS_eI (M := mX6_laysProducts) [_] tX6_ones kX6_99 dX6_laysProducts_1 ⟨by decide, by decide⟩ rfl (Nat.le_of_ble_eq_true rfl) rfl (c_X6_ones (by omega)) ?_
  refine z_istore_n dX6_laysProducts_4 (by decide) rfl ?_
  refine z_iconst dX6_laysProducts_5 ?_
  refine z_istore dX6_laysProducts_6 (by decide) rfl ?_
  have loop8 : ∀ (nL9 : Nat) (k : Nat) (f : Nat → Int), (k ≤ pc6 I * pc6 I) → (LY (pc6 I) k (fun i j => prd σ 1 (nt I i) (nt I j)) f) → pc6 I * pc6 I - k < nL9 → Z mX6_laysProducts g 8 [vr 47, vi 1, vi (I : Int), vi (pc6 I : Int), vi (k : Int)] [] (setc h 54 f) Q := by
    intro nL9
    induction nL9 with
    | zero => intro k f hk hL hnL9; exact absurd hnL9 (Nat.not_lt_zero _)
    | succ nL9 ih8 =>
      intro k f hk hL hnL9
      refine z_iload dX6_laysProducts_8 rfl ?_
      refine z_iload_n dX6_laysProducts_10 rfl ?_
      refine z_iload_n dX6_laysProducts_11 rfl ?_
      refine z_imul dX6_laysProducts_12 ?_
      rw [show (pc6 I : Int) * (pc6 I : Int) = ((pc6 I * pc6 I : Nat) : Int) from rfl]
      refine z_icmp_ge 60 dX6_laysProducts_13 (by decide) (by omega) (by omega) (fun c13 => ?_) (fun c13 => ?_)
      · exact z_return dX6_laysProducts_60 rfl (hQ _ _ ⟨rfl, (by
  have hk9 : k = pc6 I * pc6 I := by omega
  subst hk9
  exact ⟨f, rfl, hL.all⟩)⟩)
      · obtain ⟨d1, d2, d3⟩ := nn_dm (show k < pc6 I * pc6 I by omega)
        obtain ⟨x, hx⟩ : ∃ x, x = k / pc6 I := ⟨_, rfl⟩
        obtain ⟨w, hw⟩ : ∃ w, w = k % pc6 I := ⟨_, rfl⟩
        rw [← hx] at d2
        rw [← hw] at d3
        refine z_aload_n dX6_laysProducts_16 rfl ?_
        refine z_getR fX6_29 dX6_laysProducts_17 (by decide) rfl rfl ?_
        refine z_bipush dX6_laysProducts_20 (by decide) ?_
        refine z_iload dX6_laysProducts_22 rfl ?_
        refine z_iload_n dX6_laysProducts_24 rfl ?_
        refine z_idiv dX6_laysProducts_25 (by omega) (by omega) (by omega) ?_
        rw [show (k : Int).tdiv (pc6 I : Int) = ((k / pc6 I : Nat) : Int) from rfl, ← hx]
        refine z_imul dX6_laysProducts_26 ?_
        refine z_iload dX6_laysProducts_27 rfl ?_
        refine z_iload_n dX6_laysProducts_29 rfl ?_
        refine z_irem dX6_laysProducts_30 (by omega) (by omega) (by omega) ?_
        rw [show (k : Int).tmod (pc6 I : Int) = ((k % pc6 I : Nat) : Int) from rfl, ← hw]
        refine z_iadd dX6_laysProducts_31 ?_
        refine z_aload_n dX6_laysProducts_32 rfl ?_
        refine z_iload_n dX6_laysProducts_33 rfl ?_
        refine z_iload_n dX6_laysProducts_34 rfl ?_
        refine z_iload dX6_laysProducts_35 rfl ?_
        refine z_iload_n dX6_laysProducts_37 rfl ?_
        refine z_idiv dX6_laysProducts_38 (by omega) (by omega) (by omega) ?_
        rw [show (k : Int).tdiv (pc6 I : Int) = ((k / pc6 I : Nat) : Int) from rfl, ← hx]
        refine z_callS_eI (M := mX6_laysProducts) [_, _] tX6_nth kX6_102 dX6_laysProducts_39 ⟨by decide, by decide⟩ rfl (Nat.le_of_ble_eq_true rfl) rfl (c_X6_nth (c := I) (k := x) I64 (by omega)) ?_
        refine z_iload_n dX6_laysProducts_42 rfl ?_
        refine z_iload dX6_laysProducts_43 rfl ?_
        refine z_iload_n dX6_laysProducts_45 rfl ?_
        refine z_irem dX6_laysProducts_46 (by omega) (by omega) (by omega) ?_
        rw [show (k : Int).tmod (pc6 I : Int) = ((k % pc6 I : Nat) : Int) from rfl, ← hw]
        refine z_callS_eI (M := mX6_laysProducts) [_, _] tX6_nth kX6_102 dX6_laysProducts_47 ⟨by decide, by decide⟩ rfl (Nat.le_of_ble_eq_true rfl) rfl (c_X6_nth (c := I) (k := w) I64 (by omega)) ?_
        refine z_callV_eL (M := mX6_laysProducts) [_, _, _] tX6_product kX6_330 dX6_laysProducts_50 ⟨by decide, rfl, _, _, rfl⟩ ⟨by decide, by decide⟩ rfl (Nat.le_of_ble_eq_true rfl) rfl (c_X6_product1 W (rm54 R f) (nt_C (by omega) hI (by omega)) (nt_C (by omega) hI (by omega))) ?_
        have p9 : (prd σ 1 (nt I x) (nt I w)).natAbs ≤ 96 := by
          have := near0_r W (nt I x) (nt I w)
          show (near0 σ (nt I x) (nt I w)).natAbs ≤ 96
          omega
        refine z_lastore dX6_laysProducts_53 (by decide) rfl (by omega) (by omega) (by first | decide | omega) (by omega) ?_
        rw [up_s (i := 6 * x + w) (by omega)]
        refine z_iinc dX6_laysProducts_54 rfl (by decide) rfl ?_
        refine z_goto 8 dX6_laysProducts_57 (by decide) ?_
        have x0 := ih8 (k + 1) _ (by omega) (hL.put (by omega) d1 rfl) (by omega)
        rw [← hx, ← hw] at x0
        exact x0
  have x0 := loop8 _ 0 (h 54) (by omega) (fun t ht => absurd ht (Nat.not_lt_zero _)) (Nat.lt_succ_self _)
  rw [setc_self] at x0
  exact x0
set_option maxRecDepth 100000 in
set_option maxHeartbeats 4000000 in
theorem c_X6_laysProducts2 {g : GG} {h : HH} {σ : SG} (W : WF σ) (R : RM (h 48) σ) {I : Nat} (hI : I < 2 ^ sF σ) : CnV mX6_laysProducts g [vr 47, vi 2, vi (I : Int)] h (fun h' => ∃ f, h' = setc h 54 f ∧ ∀ i j, i < pc6 I → j < pc6 I → MM f i j = prd σ 2 (nt I i) (nt I j)) := by
  refine cn_q (lv := [vr 47, vi 2, vi (I : Int), vx, vx]) tX6_laysProducts.1 rfl rfl (fun hR Q hQ => ?_)
  have w1 := W.1
  have w2 := W.2.1
  have w3 := W.2.2.1
  have b6 := b_shl (j := sF σ) (by omega)
  have I64 : I < 64 := by omega
  have p6 := (pc6_r I64).1
  have nn := nn_36 (n := pc6 I) (by omega)
  refine z_iload_n dX6_laysProducts_0 rfl ?_
  refine z_callS_eI (M := mX6_laysProducts) [_] tX6_ones kX6_99 dX6_laysProducts_1 ⟨by decide, by decide⟩ rfl (Nat.le_of_ble_eq_true rfl) rfl (c_X6_ones (by omega)) ?_
  refine z_istore_n dX6_laysProducts_4 (by decide) rfl ?_
  refine z_iconst dX6_laysProducts_5 ?_
  refine z_istore dX6_laysProducts_6 (by decide) rfl ?_
  have loop8 : ∀ (nL9 : Nat) (k : Nat) (f : Nat → Int), (k ≤ pc6 I * pc6 I) → (LY (pc6 I) k (fun i j => prd σ 2 (nt I i) (nt I j)) f) → pc6 I * pc6 I - k < nL9 → Z mX6_laysProducts g 8 [vr 47, vi 2, vi (I : Int), vi (pc6 I : Int), vi (k : Int)] [] (setc h 54 f) Q := by
    intro nL9
    induction nL9 with
    | zero => intro k f hk hL hnL9; exact absurd hnL9 (Nat.not_lt_zero _)
    | succ nL9 ih8 =>
      intro k f hk hL hnL9
      refine z_iload dX6_laysProducts_8 rfl ?_
      refine z_iload_n dX6_laysProducts_10 rfl ?_
      refine z_iload_n dX6_laysProducts_11 rfl ?_
      refine z_imul dX6_laysProducts_12 ?_
      rw [show (pc6 I : Int) * (pc6 I : Int) = ((pc6 I * pc6 I : Nat) : Int) from rfl]
      refine z_icmp_ge 60 dX6_laysProducts_13 (by decide) (by omega) (by omega) (fun c13 => ?_) (fun c13 => ?_)
      · exact z_return dX6_laysProducts_60 rfl (hQ _ _ ⟨rfl, (by
  have hk9 : k = pc6 I * pc6 I := by omega
  subst hk9
  exact ⟨f, rfl, hL.all⟩)⟩)
      · obtain ⟨d1, d2, d3⟩ := nn_dm (show k < pc6 I * pc6 I by omega)
        obtain ⟨x, hx⟩ : ∃ x, x = k / pc6 I := ⟨_, rfl⟩
        obtain ⟨w, hw⟩ : ∃ w, w = k % pc6 I := ⟨_, rfl⟩
        rw [← hx] at d2
        rw [← hw] at d3
        refine z_aload_n dX6_laysProducts_16 rfl ?_
        refine z_getR fX6_29 dX6_laysProducts_17 (by decide) rfl rfl ?_
        refine z_bipush dX6_laysProducts_20 (by decide) ?_
        refine z_iload dX6_laysProducts_22 rfl ?_
        refine z_iload_n dX6_laysProducts_24 rfl ?_
        refine z_idiv dX6_laysProducts_25 (by omega) (by omega) (by omega) ?_
        rw [show (k : Int).tdiv (pc6 I : Int) = ((k / pc6 I : Nat) : Int) from rfl, ← hx]
        refine z_imul dX6_laysProducts_26 ?_
        refine z_iload dX6_laysProducts_27 rfl ?_
        refine z_iload_n dX6_laysProducts_29 rfl ?_
        refine z_irem dX6_laysProducts_30 (by omega) (by omega) (by omega) ?_
        rw [show (k : Int).tmod (pc6 I : Int) = ((k % pc6 I : Nat) : Int) from rfl, ← hw]
        refine z_iadd dX6_laysProducts_31 ?_
        refine z_aload_n dX6_laysProducts_32 rfl ?_
        refine z_iload_n dX6_laysProducts_33 rfl ?_
        refine z_iload_n dX6_laysProducts_34 rfl ?_
        refine z_iload dX6_laysProducts_35 rfl ?_
        refine z_iload_n dX6_laysProducts_37 rfl ?_
        refine z_idiv dX6_laysProducts_38 (by omega) (by omega) (by omega) ?_
        rw [show (k : Int).tdiv (pc6 I : Int) = ((k / pc6 I : Nat) : Int) from rfl, ← hx]
        refine z_callS_eI (M := mX6_laysProducts) [_, _] tX6_nth kX6_102 dX6_laysProducts_39 ⟨by decide, by decide⟩ rfl (Nat.le_of_ble_eq_true rfl) rfl (c_X6_nth (c := I) (k := x) I64 (by omega)) ?_
        refine z_iload_n dX6_laysProducts_42 rfl ?_
        refine z_iload dX6_laysProducts_43 rfl ?_
        refine z_iload_n dX6_laysProducts_45 rfl ?_
        refine z_irem dX6_laysProducts_46 (by omega) (by omega) (by omega) ?_
        rw [show (k : Int).tmod (pc6 I : Int) = ((k % pc6 I : Nat) : Int) from rfl, ← hw]
        refine z_callS_eI (M := mX6_laysProducts) [_, _] tX6_nth kX6_102 dX6_laysProducts_47 ⟨by decide, by decide⟩ rfl (Nat.le_of_ble_eq_true rfl) rfl (c_X6_nth (c := I) (k := w) I64 (by omega)) ?_
        refine z_callV_eL (M := mX6_laysProducts) [_, _, _] tX6_product kX6_330 dX6_laysProducts_50 ⟨by decide, rfl, _, _, rfl⟩ ⟨by decide, by decide⟩ rfl (Nat.le_of_ble_eq_true rfl) rfl (c_X6_product2 W (rm54 R f) (nt_C (by omega) hI (by omega)) (nt_C (by omega) hI (by omega))) ?_
        have p9 : (prd σ 2 (nt I x) (nt I w)).natAbs ≤ 96 := prd2_r W (nt_C (by omega) hI (by omega)) (nt_C (by omega) hI (by omega))
        refine z_lastore dX6_laysProducts_53 (by decide) rfl (by omega) (by omega) (by first | decide | omega) (by omega) ?_
        rw [up_s (i := 6 * x + w) (by omega)]
        refine z_iinc dX6_laysProducts_54 rfl (by decide) rfl ?_
        refine z_goto 8 dX6_laysProducts_57 (by decide) ?_
        have x0 := ih8 (k + 1) _ (by omega) (hL.put (by omega) d1 rfl) (by omega)
        rw [← hx, ← hw] at x0
        exact x0
  have x0 := loop8 _ 0 (h 54) (by omega) (fun t ht => absurd ht (Nat.not_lt_zero _)) (Nat.lt_succ_self _)
  rw [setc_self] at x0
  exact x0
set_option maxRecDepth 100000 in
set_option maxHeartbeats 4000000 in
theorem c_X6_tells {g : GG} {h : HH} {e : Nat} (he : e < 6) {a b : Int} (ha : a.natAbs < 2 ^ 63) (hb : b.natAbs < 2 ^ 63) (h0 : b ≠ 0) : CnV mX6_tells g [vr 47, vi (e : Int), vl a, vl b] h (fun h' => ∃ p q, LW a b p q ∧ h' = up (up h 56 e p) 57 e q) := by
  refine cn_q (lv := [vr 47, vi (e : Int), vl a, vx, vl b, vx, vx, vx]) tX6_tells.1 rfl rfl (fun hR Q hQ => ?_)
  have g1 := gcd_b (a := a) h0
  have ta := fun g => tdiv_b (g := g) ha
  have tb := fun g => tdiv_b (g := g) hb
  refine z_lload_n dX6_tells_0 rfl ?_
  refine z_lload dX6_tells_1 rfl ?_
  refine z_callS_eL (M := mX6_tells) [_, _] tX6_gcd kX6_117 dX6_tells_3 ⟨by decide, by decide⟩ rfl (Nat.le_of_ble_eq_true rfl) rfl (c_X6_gcd (by omega) (by omega)) ?_
  refine z_lstore dX6_tells_6 (by decide) rfl ?_
  refine z_lload dX6_tells_8 rfl ?_
  refine z_lconst (z := 0) dX6_tells_10 rfl ?_
  refine z_lcmp dX6_tells_11 (by omega) (by decide) ?_
  refine z_if_ge 21 dX6_tells_12 (by decide) (icmp_r _ _) (fun c12 => ?_) (fun c12 => ?_)
  · have c12 := icmp_ge.mp c12
    refine z_lload dX6_tells_21 rfl ?_
    refine z_lstore dX6_tells_23 (by decide) rfl ?_
    refine z_aload_n dX6_tells_25 rfl ?_
    refine z_getR fX6_36 dX6_tells_26 (by decide) rfl rfl ?_
    refine z_iload_n dX6_tells_29 rfl ?_
    refine z_lload_n dX6_tells_30 rfl ?_
    refine z_lload dX6_tells_31 rfl ?_
    refine z_ldiv dX6_tells_33 (by omega) (by omega) (by omega) ?_
    refine z_lastore dX6_tells_34 (by decide) rfl (by omega) (by omega) (by first | decide | omega) (ta _) ?_
    refine z_aload_n dX6_tells_35 rfl ?_
    refine z_getR fX6_39 dX6_tells_36 (by decide) rfl rfl ?_
    refine z_iload_n dX6_tells_39 rfl ?_
    refine z_lload dX6_tells_40 rfl ?_
    refine z_lload dX6_tells_42 rfl ?_
    refine z_ldiv dX6_tells_44 (by omega) (by omega) (by omega) ?_
    refine z_lastore dX6_tells_45 (by decide) rfl (by omega) (by omega) (by first | decide | omega) (tb _) ?_
    exact z_return dX6_tells_46 rfl (hQ _ _ ⟨rfl, ⟨_, _, LW.of (by omega), rfl⟩⟩)
  · have c12 := icmp_lt.mp c12
    refine z_lload dX6_tells_15 rfl ?_
    refine z_lneg dX6_tells_17 ?_
    refine z_goto 23 dX6_tells_18 (by decide) ?_
    refine z_lstore dX6_tells_23 (by decide) rfl ?_
    refine z_aload_n dX6_tells_25 rfl ?_
    refine z_getR fX6_36 dX6_tells_26 (by decide) rfl rfl ?_
    refine z_iload_n dX6_tells_29 rfl ?_
    refine z_lload_n dX6_tells_30 rfl ?_
    refine z_lload dX6_tells_31 rfl ?_
    refine z_ldiv dX6_tells_33 (by omega) (by omega) (by omega) ?_
    refine z_lastore dX6_tells_34 (by decide) rfl (by omega) (by omega) (by first | decide | omega) (ta _) ?_
    refine z_aload_n dX6_tells_35 rfl ?_
    refine z_getR fX6_39 dX6_tells_36 (by decide) rfl rfl ?_
    refine z_iload_n dX6_tells_39 rfl ?_
    refine z_lload dX6_tells_40 rfl ?_
    refine z_lload dX6_tells_42 rfl ?_
    refine z_ldiv dX6_tells_44 (by omega) (by omega) (by omega) ?_
    refine z_lastore dX6_tells_45 (by decide) rfl (by omega) (by omega) (by first | decide | omega) (tb _) ?_
    exact z_return dX6_tells_46 rfl (hQ _ _ ⟨rfl, ⟨_, _, LW.ofn (by omega), rfl⟩⟩)

set_option maxRecDepth 100000 in
set_option maxHeartbeats 4000000 in
theorem c_X1_loadNear0 {g : GG} {h : HH} {σ : SG} (W : WF σ) (C : RC (h 2) σ) : CnV mX1_loadNear g [vr 9, vr 1, vi 0] h (fun h' => LG h h' (sP σ) (sP σ) (sP σ) 0 (near0 σ)) := by
  refine cn_q (lv := [vr 9, vr 1, vi 0, vx, vx]) tX1_loadNear.1 rfl rfl (fun hR Q hQ => ?_)
  have w1 := W.1
  have w2 := W.2.1
  have w3 := W.2.2.1
  refine z_aload_n dX1_loadNear_0 rfl ?_
  refine z_aload_n dX1_loadNear_1 rfl ?_
  refine z_iload_n dX1_loadNear_2 rfl ?_
  refine z_if_ne 10 dX1_loadNear_3 (by decide) (by omega) (fun c3 => ?_) (fun c3 => ?_)
  · omega
  · refine z_iconst dX1_loadNear_6 ?_
    refine z_goto 11 dX1_loadNear_7 (by decide) ?_
    refine z_callV_eI (M := mX1_loadNear) [_] tX0_sizeOf kX1_25 dX1_loadNear_11 ⟨by decide, rfl, _, _, rfl⟩ ⟨by decide, by decide⟩ rfl (Nat.le_of_ble_eq_true rfl) rfl (s_X0_sizeP isC1 C) ?_
    refine z_bipush dX1_loadNear_14 (by decide) ?_
    refine z_min kMin1 dX1_loadNear_16 (by omega) (by omega) ⟨by decide, by decide⟩ (Nat.le_of_ble_eq_true rfl) ?_
    rw [show min (sP σ : Int) 6 = sP σ from by omega]
    refine z_putI pX1_18 dX1_loadNear_19 (by decide) rfl rfl (by omega) ?_
    refine z_aload_n dX1_loadNear_22 rfl ?_
    refine z_aload_n dX1_loadNear_23 rfl ?_
    refine z_getI fX1_18 dX1_loadNear_24 (by decide) rfl rfl (fun r24 => ?_)
    rw [up_same]
    refine z_putI pX1_22 dX1_loadNear_27 (by decide) rfl rfl (by omega) ?_
    refine z_iconst dX1_loadNear_30 ?_
    refine z_istore_n dX1_loadNear_31 (by decide) rfl ?_
    have loop32 : ∀ (nL9 : Nat) (i : Nat) (h1 : HH), (i ≤ sP σ) → (LG h h1 (sP σ) (sP σ) i 0 (near0 σ)) → sP σ - i < nL9 → Z mX1_loadNear g 32 [vr 9, vr 1, vi 0, vi (i : Int), vx] [] h1 Q := by
      intro nL9
      induction nL9 with
      | zero => intro i h1 hi L1 hnL9; exact absurd hnL9 (Nat.not_lt_zero _)
      | succ nL9 ih32 =>
        intro i h1 hi L1 hnL9
        refine z_iload_n dX1_loadNear_32 rfl ?_
        refine z_aload_n dX1_loadNear_33 rfl ?_
        refine z_getI fX1_18 dX1_loadNear_34 (by decide) rfl rfl (fun r34 => ?_)
        rw [show h1 9 2 = sP σ from L1.2.1]
        refine z_icmp_ge 82 dX1_loadNear_37 (by decide) (by omega) (by omega) (fun c37 => ?_) (fun c37 => ?_)
        · exact z_return dX1_loadNear_82 rfl (hQ _ _ ⟨rfl, (by rw [show sP σ = i from by omega] at L1 ⊢; exact L1)⟩)
        · refine z_iconst dX1_loadNear_40 ?_
          refine z_istore dX1_loadNear_41 (by decide) rfl ?_
          have loop43 : ∀ (nL9 : Nat) (j : Nat) (h1 : HH), (j ≤ sP σ) → (LG h h1 (sP σ) (sP σ) i j (near0 σ)) → sP σ - j < nL9 → Z mX1_loadNear g 43 [vr 9, vr 1, vi 0, vi (i : Int), vi (j : Int)] [] h1 Q := by
            intro nL9
            induction nL9 with
            | zero => intro j h1 hj L1 hnL9; exact absurd hnL9 (Nat.not_lt_zero _)
            | succ nL9 ih43 =>
              intro j h1 hj L1 hnL9
              refine z_iload dX1_loadNear_43 rfl ?_
              refine z_aload_n dX1_loadNear_45 rfl ?_
              refine z_getI fX1_22 dX1_loadNear_46 (by decide) rfl rfl (fun r46 => ?_)
              rw [show h1 9 3 = sP σ from L1.2.2.1]
              refine z_icmp_ge 76 dX1_loadNear_49 (by decide) (by omega) (by omega) (fun c49 => ?_) (fun c49 => ?_)
              · refine z_iinc dX1_loadNear_76 rfl (by decide) rfl ?_
                refine z_goto 32 dX1_loadNear_79 (by decide) ?_
                refine z_forget 4 ?_
                exact ih32 (i + 1) h1 (by omega) (L1.next (by omega)) (by omega)
              · refine z_aload_n dX1_loadNear_52 rfl ?_
                refine z_getR fX1_11 dX1_loadNear_53 (by decide) rfl rfl ?_
                refine z_iload_n dX1_loadNear_56 rfl ?_
                refine z_aaloadJ dX1_loadNear_57 (by decide) rfl (by omega) (by omega) (by decide) ?_
                have hi6 : i < 6 := by omega
                rw [show 11 + ((i : Nat) : Int).toNat = 11 + i from rfl]
                have b3 := near0_r W i j
                refine z_iload dX1_loadNear_58 rfl ?_
                refine z_aload_n dX1_loadNear_60 rfl ?_
                refine z_iload_n dX1_loadNear_61 rfl ?_
                refine z_iload_n dX1_loadNear_62 rfl ?_
                refine z_iload dX1_loadNear_63 rfl ?_
                refine z_callV_eI (M := mX1_loadNear) [_, _, _] tX0_nearOf kX1_41 dX1_loadNear_65 ⟨by decide, rfl, _, _, rfl⟩ ⟨by decide, by decide⟩ rfl (Nat.le_of_ble_eq_true rfl) rfl (c_X0_near0 isC1 W (by rw [show 1 + 1 = 2 from rfl, L1.1 2 (by decide) (Or.inl (by decide))]; exact C) (i := i) (j := j) (by omega) (by omega)) ?_
                refine z_i2l dX1_loadNear_68 (by omega) ?_
                refine z_lastore dX1_loadNear_69 (by omega) (shpG hi6) (by omega) (by omega) (by first | decide | omega) (by omega) ?_
                refine z_iinc dX1_loadNear_70 rfl (by decide) rfl ?_
                refine z_goto 43 dX1_loadNear_73 (by decide) ?_
                exact ih43 (j + 1) _ (by omega) (L1.put hi6 rfl rfl) (by omega)
          exact loop43 _ 0 h1 (by omega) L1 (Nat.lt_succ_self _)
    exact loop32 _ 0 _ (by omega) ⟨fun k k1 _ => by rw [up_ne _ _ _ k1, up_ne _ _ _ k1], by rw [up_o _ _ (by decide), up_same], up_same _ _ _ _, fun i' _ h1 => absurd h1 (Nat.not_lt_zero _), fun j' h1 => absurd h1 (Nat.not_lt_zero _)⟩ (Nat.lt_succ_self _)
set_option maxRecDepth 100000 in
set_option maxHeartbeats 4000000 in
theorem c_X1_loadNear1 {g : GG} {h : HH} {σ : SG} (W : WF σ) (C : RC (h 2) σ) : CnV mX1_loadNear g [vr 9, vr 1, vi 1] h (fun h' => LG h h' (sE σ) (sE σ) (sE σ) 0 (near1 σ)) := by
  refine cn_q (lv := [vr 9, vr 1, vi 1, vx, vx]) tX1_loadNear.1 rfl rfl (fun hR Q hQ => ?_)
  have w1 := W.1
  have w2 := W.2.1
  have w3 := W.2.2.1
  refine z_aload_n dX1_loadNear_0 rfl ?_
  refine z_aload_n dX1_loadNear_1 rfl ?_
  refine z_iload_n dX1_loadNear_2 rfl ?_
  refine z_if_ne 10 dX1_loadNear_3 (by decide) (by omega) (fun c3 => ?_) (fun c3 => ?_)
  · refine z_iconst dX1_loadNear_10 ?_
    refine z_callV_eI (M := mX1_loadNear) [_] tX0_sizeOf kX1_25 dX1_loadNear_11 ⟨by decide, rfl, _, _, rfl⟩ ⟨by decide, by decide⟩ rfl (Nat.le_of_ble_eq_true rfl) rfl (s_X0_sizeE isC1 C) ?_
    refine z_bipush dX1_loadNear_14 (by decide) ?_
    refine z_min kMin1 dX1_loadNear_16 (by omega) (by omega) ⟨by decide, by decide⟩ (Nat.le_of_ble_eq_true rfl) ?_
    rw [show min (sE σ : Int) 6 = sE σ from by omega]
    refine z_putI pX1_18 dX1_loadNear_19 (by decide) rfl rfl (by omega) ?_
    refine z_aload_n dX1_loadNear_22 rfl ?_
    refine z_aload_n dX1_loadNear_23 rfl ?_
    refine z_getI fX1_18 dX1_loadNear_24 (by decide) rfl rfl (fun r24 => ?_)
    rw [up_same]
    refine z_putI pX1_22 dX1_loadNear_27 (by decide) rfl rfl (by omega) ?_
    refine z_iconst dX1_loadNear_30 ?_
    refine z_istore_n dX1_loadNear_31 (by decide) rfl ?_
    have loop32 : ∀ (nL9 : Nat) (i : Nat) (h1 : HH), (i ≤ sE σ) → (LG h h1 (sE σ) (sE σ) i 0 (near1 σ)) → sE σ - i < nL9 → Z mX1_loadNear g 32 [vr 9, vr 1, vi 1, vi (i : Int), vx] [] h1 Q := by
      intro nL9
      induction nL9 with
      | zero => intro i h1 hi L1 hnL9; exact absurd hnL9 (Nat.not_lt_zero _)
      | succ nL9 ih32 =>
        intro i h1 hi L1 hnL9
        refine z_iload_n dX1_loadNear_32 rfl ?_
        refine z_aload_n dX1_loadNear_33 rfl ?_
        refine z_getI fX1_18 dX1_loadNear_34 (by decide) rfl rfl (fun r34 => ?_)
        rw [show h1 9 2 = sE σ from L1.2.1]
        refine z_icmp_ge 82 dX1_loadNear_37 (by decide) (by omega) (by omega) (fun c37 => ?_) (fun c37 => ?_)
        · exact z_return dX1_loadNear_82 rfl (hQ _ _ ⟨rfl, (by rw [show sE σ = i from by omega] at L1 ⊢; exact L1)⟩)
        · refine z_iconst dX1_loadNear_40 ?_
          refine z_istore dX1_loadNear_41 (by decide) rfl ?_
          have loop43 : ∀ (nL9 : Nat) (j : Nat) (h1 : HH), (j ≤ sE σ) → (LG h h1 (sE σ) (sE σ) i j (near1 σ)) → sE σ - j < nL9 → Z mX1_loadNear g 43 [vr 9, vr 1, vi 1, vi (i : Int), vi (j : Int)] [] h1 Q := by
            intro nL9
            induction nL9 with
            | zero => intro j h1 hj L1 hnL9; exact absurd hnL9 (Nat.not_lt_zero _)
            | succ nL9 ih43 =>
              intro j h1 hj L1 hnL9
              refine z_iload dX1_loadNear_43 rfl ?_
              refine z_aload_n dX1_loadNear_45 rfl ?_
              refine z_getI fX1_22 dX1_loadNear_46 (by decide) rfl rfl (fun r46 => ?_)
              rw [show h1 9 3 = sE σ from L1.2.2.1]
              refine z_icmp_ge 76 dX1_loadNear_49 (by decide) (by omega) (by omega) (fun c49 => ?_) (fun c49 => ?_)
              · refine z_iinc dX1_loadNear_76 rfl (by decide) rfl ?_
                refine z_goto 32 dX1_loadNear_79 (by decide) ?_
                refine z_forget 4 ?_
                exact ih32 (i + 1) h1 (by omega) (L1.next (by omega)) (by omega)
              · refine z_aload_n dX1_loadNear_52 rfl ?_
                refine z_getR fX1_11 dX1_loadNear_53 (by decide) rfl rfl ?_
                refine z_iload_n dX1_loadNear_56 rfl ?_
                refine z_aaloadJ dX1_loadNear_57 (by decide) rfl (by omega) (by omega) (by decide) ?_
                have hi6 : i < 6 := by omega
                rw [show 11 + ((i : Nat) : Int).toNat = 11 + i from rfl]
                have b3 := near1_r W i j
                refine z_iload dX1_loadNear_58 rfl ?_
                refine z_aload_n dX1_loadNear_60 rfl ?_
                refine z_iload_n dX1_loadNear_61 rfl ?_
                refine z_iload_n dX1_loadNear_62 rfl ?_
                refine z_iload dX1_loadNear_63 rfl ?_
                refine z_callV_eI (M := mX1_loadNear) [_, _, _] tX0_nearOf kX1_41 dX1_loadNear_65 ⟨by decide, rfl, _, _, rfl⟩ ⟨by decide, by decide⟩ rfl (Nat.le_of_ble_eq_true rfl) rfl (c_X0_near1 isC1 W (by rw [show 1 + 1 = 2 from rfl, L1.1 2 (by decide) (Or.inl (by decide))]; exact C) (i := i) (j := j) (by omega) (by omega)) ?_
                refine z_i2l dX1_loadNear_68 (by omega) ?_
                refine z_lastore dX1_loadNear_69 (by omega) (shpG hi6) (by omega) (by omega) (by first | decide | omega) (by omega) ?_
                refine z_iinc dX1_loadNear_70 rfl (by decide) rfl ?_
                refine z_goto 43 dX1_loadNear_73 (by decide) ?_
                exact ih43 (j + 1) _ (by omega) (L1.put hi6 rfl rfl) (by omega)
          exact loop43 _ 0 h1 (by omega) L1 (Nat.lt_succ_self _)
    exact loop32 _ 0 _ (by omega) ⟨fun k k1 _ => by rw [up_ne _ _ _ k1, up_ne _ _ _ k1], by rw [up_o _ _ (by decide), up_same], up_same _ _ _ _, fun i' _ h1 => absurd h1 (Nat.not_lt_zero _), fun j' h1 => absurd h1 (Nat.not_lt_zero _)⟩ (Nat.lt_succ_self _)
  · omega
set_option maxRecDepth 100000 in
set_option maxHeartbeats 4000000 in
theorem c_X1_loadNear2 {g : GG} {h : HH} {σ : SG} (W : WF σ) (C : RC (h 2) σ) : CnV mX1_loadNear g [vr 9, vr 1, vi 2] h (fun h' => LG h h' (sE σ) (sE σ) (sE σ) 0 (near2 σ)) := by
  refine cn_q (lv := [vr 9, vr 1, vi 2, vx, vx]) tX1_loadNear.1 rfl rfl (fun hR Q hQ => ?_)
  have w1 := W.1
  have w2 := W.2.1
  have w3 := W.2.2.1
  refine z_aload_n dX1_loadNear_0 rfl ?_
  refine z_aload_n dX1_loadNear_1 rfl ?_
  refine z_iload_n dX1_loadNear_2 rfl ?_
  refine z_if_ne 10 dX1_loadNear_3 (by decide) (by omega) (fun c3 => ?_) (fun c3 => ?_)
  · refine z_iconst dX1_loadNear_10 ?_
    refine z_callV_eI (M := mX1_loadNear) [_] tX0_sizeOf kX1_25 dX1_loadNear_11 ⟨by decide, rfl, _, _, rfl⟩ ⟨by decide, by decide⟩ rfl (Nat.le_of_ble_eq_true rfl) rfl (s_X0_sizeE isC1 C) ?_
    refine z_bipush dX1_loadNear_14 (by decide) ?_
    refine z_min kMin1 dX1_loadNear_16 (by omega) (by omega) ⟨by decide, by decide⟩ (Nat.le_of_ble_eq_true rfl) ?_
    rw [show min (sE σ : Int) 6 = sE σ from by omega]
    refine z_putI pX1_18 dX1_loadNear_19 (by decide) rfl rfl (by omega) ?_
    refine z_aload_n dX1_loadNear_22 rfl ?_
    refine z_aload_n dX1_loadNear_23 rfl ?_
    refine z_getI fX1_18 dX1_loadNear_24 (by decide) rfl rfl (fun r24 => ?_)
    rw [up_same]
    refine z_putI pX1_22 dX1_loadNear_27 (by decide) rfl rfl (by omega) ?_
    refine z_iconst dX1_loadNear_30 ?_
    refine z_istore_n dX1_loadNear_31 (by decide) rfl ?_
    have loop32 : ∀ (nL9 : Nat) (i : Nat) (h1 : HH), (i ≤ sE σ) → (LG h h1 (sE σ) (sE σ) i 0 (near2 σ)) → sE σ - i < nL9 → Z mX1_loadNear g 32 [vr 9, vr 1, vi 2, vi (i : Int), vx] [] h1 Q := by
      intro nL9
      induction nL9 with
      | zero => intro i h1 hi L1 hnL9; exact absurd hnL9 (Nat.not_lt_zero _)
      | succ nL9 ih32 =>
        intro i h1 hi L1 hnL9
        refine z_iload_n dX1_loadNear_32 rfl ?_
        refine z_aload_n dX1_loadNear_33 rfl ?_
        refine z_getI fX1_18 dX1_loadNear_34 (by decide) rfl rfl (fun r34 => ?_)
        rw [show h1 9 2 = sE σ from L1.2.1]
        refine z_icmp_ge 82 dX1_loadNear_37 (by decide) (by omega) (by omega) (fun c37 => ?_) (fun c37 => ?_)
        · exact z_return dX1_loadNear_82 rfl (hQ _ _ ⟨rfl, (by rw [show sE σ = i from by omega] at L1 ⊢; exact L1)⟩)
        · refine z_iconst dX1_loadNear_40 ?_
          refine z_istore dX1_loadNear_41 (by decide) rfl ?_
          have loop43 : ∀ (nL9 : Nat) (j : Nat) (h1 : HH), (j ≤ sE σ) → (LG h h1 (sE σ) (sE σ) i j (near2 σ)) → sE σ - j < nL9 → Z mX1_loadNear g 43 [vr 9, vr 1, vi 2, vi (i : Int), vi (j : Int)] [] h1 Q := by
            intro nL9
            induction nL9 with
            | zero => intro j h1 hj L1 hnL9; exact absurd hnL9 (Nat.not_lt_zero _)
            | succ nL9 ih43 =>
              intro j h1 hj L1 hnL9
              refine z_iload dX1_loadNear_43 rfl ?_
              refine z_aload_n dX1_loadNear_45 rfl ?_
              refine z_getI fX1_22 dX1_loadNear_46 (by decide) rfl rfl (fun r46 => ?_)
              rw [show h1 9 3 = sE σ from L1.2.2.1]
              refine z_icmp_ge 76 dX1_loadNear_49 (by decide) (by omega) (by omega) (fun c49 => ?_) (fun c49 => ?_)
              · refine z_iinc dX1_loadNear_76 rfl (by decide) rfl ?_
                refine z_goto 32 dX1_loadNear_79 (by decide) ?_
                refine z_forget 4 ?_
                exact ih32 (i + 1) h1 (by omega) (L1.next (by omega)) (by omega)
              · refine z_aload_n dX1_loadNear_52 rfl ?_
                refine z_getR fX1_11 dX1_loadNear_53 (by decide) rfl rfl ?_
                refine z_iload_n dX1_loadNear_56 rfl ?_
                refine z_aaloadJ dX1_loadNear_57 (by decide) rfl (by omega) (by omega) (by decide) ?_
                have hi6 : i < 6 := by omega
                rw [show 11 + ((i : Nat) : Int).toNat = 11 + i from rfl]
                have b3 := near2_r W i j
                refine z_iload dX1_loadNear_58 rfl ?_
                refine z_aload_n dX1_loadNear_60 rfl ?_
                refine z_iload_n dX1_loadNear_61 rfl ?_
                refine z_iload_n dX1_loadNear_62 rfl ?_
                refine z_iload dX1_loadNear_63 rfl ?_
                refine z_callV_eI (M := mX1_loadNear) [_, _, _] tX0_nearOf kX1_41 dX1_loadNear_65 ⟨by decide, rfl, _, _, rfl⟩ ⟨by decide, by decide⟩ rfl (Nat.le_of_ble_eq_true rfl) rfl (c_X0_near2 isC1 W (by rw [show 1 + 1 = 2 from rfl, L1.1 2 (by decide) (Or.inl (by decide))]; exact C) (i := i) (j := j) (by omega) (by omega)) ?_
                refine z_i2l dX1_loadNear_68 (by omega) ?_
                refine z_lastore dX1_loadNear_69 (by omega) (shpG hi6) (by omega) (by omega) (by first | decide | omega) (by omega) ?_
                refine z_iinc dX1_loadNear_70 rfl (by decide) rfl ?_
                refine z_goto 43 dX1_loadNear_73 (by decide) ?_
                exact ih43 (j + 1) _ (by omega) (L1.put hi6 rfl rfl) (by omega)
          exact loop43 _ 0 h1 (by omega) L1 (Nat.lt_succ_self _)
    exact loop32 _ 0 _ (by omega) ⟨fun k k1 _ => by rw [up_ne _ _ _ k1, up_ne _ _ _ k1], by rw [up_o _ _ (by decide), up_same], up_same _ _ _ _, fun i' _ h1 => absurd h1 (Nat.not_lt_zero _), fun j' h1 => absurd h1 (Nat.not_lt_zero _)⟩ (Nat.lt_succ_self _)
  · omega

set_option maxRecDepth 100000 in
set_option maxHeartbeats 4000000 in
theorem c_X1_loadTable1 {g : GG} {h : HH} {σ : SG} (W : WF σ) (C : RC (h 2) σ) : CnV mX1_loadTable g [vr 9, vr 1, vi 1] h (fun h' => LG h h' (sP σ) (sE σ) (sP σ) 0 (ent1 σ)) := by
  refine cn_q (lv := [vr 9, vr 1, vi 1, vx, vx]) tX1_loadTable.1 rfl rfl (fun hR Q hQ => ?_)
  have w1 := W.1
  have w2 := W.2.1
  have w3 := W.2.2.1
  refine z_aload_n dX1_loadTable_0 rfl ?_
  refine z_aload_n dX1_loadTable_1 rfl ?_
  refine z_iload_n dX1_loadTable_2 rfl ?_
  refine z_iconst dX1_loadTable_3 ?_
  refine z_isub dX1_loadTable_4 ?_
  refine z_callV_eI (M := mX1_loadTable) [_] tX0_sizeOf kX1_25 dX1_loadTable_5 ⟨by decide, rfl, _, _, rfl⟩ ⟨by decide, by decide⟩ rfl (Nat.le_of_ble_eq_true rfl) rfl (s_X0_sizeP isC1 C) ?_
  refine z_bipush dX1_loadTable_8 (by decide) ?_
  refine z_min kMin1 dX1_loadTable_10 (by omega) (by omega) ⟨by decide, by decide⟩ (Nat.le_of_ble_eq_true rfl) ?_
  rw [show min (sP σ : Int) 6 = sP σ from by omega]
  refine z_putI pX1_18 dX1_loadTable_13 (by decide) rfl rfl (by omega) ?_
  refine z_aload_n dX1_loadTable_16 rfl ?_
  refine z_aload_n dX1_loadTable_17 rfl ?_
  refine z_iload_n dX1_loadTable_18 rfl ?_
  refine z_callV_eI (M := mX1_loadTable) [_] tX0_sizeOf kX1_25 dX1_loadTable_19 ⟨by decide, rfl, _, _, rfl⟩ ⟨by decide, by decide⟩ rfl (Nat.le_of_ble_eq_true rfl) rfl (s_X0_sizeE (h := up h 9 2 (sP σ)) isC1 (by rw [up_ne _ _ _ (by decide)]; exact C)) ?_
  refine z_bipush dX1_loadTable_22 (by decide) ?_
  refine z_min kMin1 dX1_loadTable_24 (by omega) (by omega) ⟨by decide, by decide⟩ (Nat.le_of_ble_eq_true rfl) ?_
  rw [show min (sE σ : Int) 6 = sE σ from by omega]
  refine z_putI pX1_22 dX1_loadTable_27 (by decide) rfl rfl (by omega) ?_
  refine z_iconst dX1_loadTable_30 ?_
  refine z_istore_n dX1_loadTable_31 (by decide) rfl ?_
  have loop32 : ∀ (nL9 : Nat) (i : Nat) (h1 : HH), (i ≤ sP σ) → (LG h h1 (sP σ) (sE σ) i 0 (ent1 σ)) → sP σ - i < nL9 → Z mX1_loadTable g 32 [vr 9, vr 1, vi 1, vi (i : Int), vx] [] h1 Q := by
    intro nL9
    induction nL9 with
    | zero => intro i h1 hi L1 hnL9; exact absurd hnL9 (Nat.not_lt_zero _)
    | succ nL9 ih32 =>
      intro i h1 hi L1 hnL9
      refine z_iload_n dX1_loadTable_32 rfl ?_
      refine z_aload_n dX1_loadTable_33 rfl ?_
      refine z_getI fX1_18 dX1_loadTable_34 (by decide) rfl rfl (fun r34 => ?_)
      rw [show h1 9 2 = sP σ from L1.2.1]
      refine z_icmp_ge 82 dX1_loadTable_37 (by decide) (by omega) (by omega) (fun c37 => ?_) (fun c37 => ?_)
      · exact z_return dX1_loadTable_82 rfl (hQ _ _ ⟨rfl, (by rw [show sP σ = i from by omega] at L1 ⊢; exact L1)⟩)
      · refine z_iconst dX1_loadTable_40 ?_
        refine z_istore dX1_loadTable_41 (by decide) rfl ?_
        have loop43 : ∀ (nL9 : Nat) (j : Nat) (h1 : HH), (j ≤ sE σ) → (LG h h1 (sP σ) (sE σ) i j (ent1 σ)) → sE σ - j < nL9 → Z mX1_loadTable g 43 [vr 9, vr 1, vi 1, vi (i : Int), vi (j : Int)] [] h1 Q := by
          intro nL9
          induction nL9 with
          | zero => intro j h1 hj L1 hnL9; exact absurd hnL9 (Nat.not_lt_zero _)
          | succ nL9 ih43 =>
            intro j h1 hj L1 hnL9
            refine z_iload dX1_loadTable_43 rfl ?_
            refine z_aload_n dX1_loadTable_45 rfl ?_
            refine z_getI fX1_22 dX1_loadTable_46 (by decide) rfl rfl (fun r46 => ?_)
            rw [show h1 9 3 = sE σ from L1.2.2.1]
            refine z_icmp_ge 76 dX1_loadTable_49 (by decide) (by omega) (by omega) (fun c49 => ?_) (fun c49 => ?_)
            · refine z_iinc dX1_loadTable_76 rfl (by decide) rfl ?_
              refine z_goto 32 dX1_loadTable_79 (by decide) ?_
              refine z_forget 4 ?_
              exact ih32 (i + 1) h1 (by omega) (L1.next (by omega)) (by omega)
            · refine z_aload_n dX1_loadTable_52 rfl ?_
              refine z_getR fX1_11 dX1_loadTable_53 (by decide) rfl rfl ?_
              refine z_iload_n dX1_loadTable_56 rfl ?_
              refine z_aaloadJ dX1_loadTable_57 (by decide) rfl (by omega) (by omega) (by decide) ?_
              have hi6 : i < 6 := by omega
              rw [show 11 + ((i : Nat) : Int).toNat = 11 + i from rfl]
              have b3 := ent1_r σ i j
              refine z_iload dX1_loadTable_58 rfl ?_
              refine z_aload_n dX1_loadTable_60 rfl ?_
              refine z_iload_n dX1_loadTable_61 rfl ?_
              refine z_iload_n dX1_loadTable_62 rfl ?_
              refine z_iload dX1_loadTable_63 rfl ?_
              refine z_callV_eI (M := mX1_loadTable) [_, _, _] tX0_entryOf kX1_37 dX1_loadTable_65 ⟨by decide, rfl, _, _, rfl⟩ ⟨by decide, by decide⟩ rfl (Nat.le_of_ble_eq_true rfl) rfl (c_X0_entry1 isC1 W (by rw [show 1 + 1 = 2 from rfl, L1.1 2 (by decide) (Or.inl (by decide))]; exact C) (i := i) (j := j) (by omega) (by omega)) ?_
              refine z_i2l dX1_loadTable_68 (by omega) ?_
              refine z_lastore dX1_loadTable_69 (by omega) (shpG hi6) (by omega) (by omega) (by first | decide | omega) (by omega) ?_
              refine z_iinc dX1_loadTable_70 rfl (by decide) rfl ?_
              refine z_goto 43 dX1_loadTable_73 (by decide) ?_
              exact ih43 (j + 1) _ (by omega) (L1.put hi6 rfl rfl) (by omega)
        exact loop43 _ 0 h1 (by omega) L1 (Nat.lt_succ_self _)
  exact loop32 _ 0 _ (by omega) ⟨fun k k1 _ => by rw [up_ne _ _ _ k1, up_ne _ _ _ k1], by rw [up_o _ _ (by decide), up_same], up_same _ _ _ _, fun i' _ h1 => absurd h1 (Nat.not_lt_zero _), fun j' h1 => absurd h1 (Nat.not_lt_zero _)⟩ (Nat.lt_succ_self _)
set_option maxRecDepth 100000 in
set_option maxHeartbeats 4000000 in
theorem c_X1_loadTable2 {g : GG} {h : HH} {σ : SG} (W : WF σ) (C : RC (h 2) σ) : CnV mX1_loadTable g [vr 9, vr 1, vi 2] h (fun h' => LG h h' (sE σ) (sF σ) (sE σ) 0 (ent2 σ)) := by
  refine cn_q (lv := [vr 9, vr 1, vi 2, vx, vx]) tX1_loadTable.1 rfl rfl (fun hR Q hQ => ?_)
  have w1 := W.1
  have w2 := W.2.1
  have w3 := W.2.2.1
  refine z_aload_n dX1_loadTable_0 rfl ?_
  refine z_aload_n dX1_loadTable_1 rfl ?_
  refine z_iload_n dX1_loadTable_2 rfl ?_
  refine z_iconst dX1_loadTable_3 ?_
  refine z_isub dX1_loadTable_4 ?_
  refine z_callV_eI (M := mX1_loadTable) [_] tX0_sizeOf kX1_25 dX1_loadTable_5 ⟨by decide, rfl, _, _, rfl⟩ ⟨by decide, by decide⟩ rfl (Nat.le_of_ble_eq_true rfl) rfl (s_X0_sizeE isC1 C) ?_
  refine z_bipush dX1_loadTable_8 (by decide) ?_
  refine z_min kMin1 dX1_loadTable_10 (by omega) (by omega) ⟨by decide, by decide⟩ (Nat.le_of_ble_eq_true rfl) ?_
  rw [show min (sE σ : Int) 6 = sE σ from by omega]
  refine z_putI pX1_18 dX1_loadTable_13 (by decide) rfl rfl (by omega) ?_
  refine z_aload_n dX1_loadTable_16 rfl ?_
  refine z_aload_n dX1_loadTable_17 rfl ?_
  refine z_iload_n dX1_loadTable_18 rfl ?_
  refine z_callV_eI (M := mX1_loadTable) [_] tX0_sizeOf kX1_25 dX1_loadTable_19 ⟨by decide, rfl, _, _, rfl⟩ ⟨by decide, by decide⟩ rfl (Nat.le_of_ble_eq_true rfl) rfl (s_X0_sizeF (h := up h 9 2 (sE σ)) isC1 (by rw [up_ne _ _ _ (by decide)]; exact C)) ?_
  refine z_bipush dX1_loadTable_22 (by decide) ?_
  refine z_min kMin1 dX1_loadTable_24 (by omega) (by omega) ⟨by decide, by decide⟩ (Nat.le_of_ble_eq_true rfl) ?_
  rw [show min (sF σ : Int) 6 = sF σ from by omega]
  refine z_putI pX1_22 dX1_loadTable_27 (by decide) rfl rfl (by omega) ?_
  refine z_iconst dX1_loadTable_30 ?_
  refine z_istore_n dX1_loadTable_31 (by decide) rfl ?_
  have loop32 : ∀ (nL9 : Nat) (i : Nat) (h1 : HH), (i ≤ sE σ) → (LG h h1 (sE σ) (sF σ) i 0 (ent2 σ)) → sE σ - i < nL9 → Z mX1_loadTable g 32 [vr 9, vr 1, vi 2, vi (i : Int), vx] [] h1 Q := by
    intro nL9
    induction nL9 with
    | zero => intro i h1 hi L1 hnL9; exact absurd hnL9 (Nat.not_lt_zero _)
    | succ nL9 ih32 =>
      intro i h1 hi L1 hnL9
      refine z_iload_n dX1_loadTable_32 rfl ?_
      refine z_aload_n dX1_loadTable_33 rfl ?_
      refine z_getI fX1_18 dX1_loadTable_34 (by decide) rfl rfl (fun r34 => ?_)
      rw [show h1 9 2 = sE σ from L1.2.1]
      refine z_icmp_ge 82 dX1_loadTable_37 (by decide) (by omega) (by omega) (fun c37 => ?_) (fun c37 => ?_)
      · exact z_return dX1_loadTable_82 rfl (hQ _ _ ⟨rfl, (by rw [show sE σ = i from by omega] at L1 ⊢; exact L1)⟩)
      · refine z_iconst dX1_loadTable_40 ?_
        refine z_istore dX1_loadTable_41 (by decide) rfl ?_
        have loop43 : ∀ (nL9 : Nat) (j : Nat) (h1 : HH), (j ≤ sF σ) → (LG h h1 (sE σ) (sF σ) i j (ent2 σ)) → sF σ - j < nL9 → Z mX1_loadTable g 43 [vr 9, vr 1, vi 2, vi (i : Int), vi (j : Int)] [] h1 Q := by
          intro nL9
          induction nL9 with
          | zero => intro j h1 hj L1 hnL9; exact absurd hnL9 (Nat.not_lt_zero _)
          | succ nL9 ih43 =>
            intro j h1 hj L1 hnL9
            refine z_iload dX1_loadTable_43 rfl ?_
            refine z_aload_n dX1_loadTable_45 rfl ?_
            refine z_getI fX1_22 dX1_loadTable_46 (by decide) rfl rfl (fun r46 => ?_)
            rw [show h1 9 3 = sF σ from L1.2.2.1]
            refine z_icmp_ge 76 dX1_loadTable_49 (by decide) (by omega) (by omega) (fun c49 => ?_) (fun c49 => ?_)
            · refine z_iinc dX1_loadTable_76 rfl (by decide) rfl ?_
              refine z_goto 32 dX1_loadTable_79 (by decide) ?_
              refine z_forget 4 ?_
              exact ih32 (i + 1) h1 (by omega) (L1.next (by omega)) (by omega)
            · refine z_aload_n dX1_loadTable_52 rfl ?_
              refine z_getR fX1_11 dX1_loadTable_53 (by decide) rfl rfl ?_
              refine z_iload_n dX1_loadTable_56 rfl ?_
              refine z_aaloadJ dX1_loadTable_57 (by decide) rfl (by omega) (by omega) (by decide) ?_
              have hi6 : i < 6 := by omega
              rw [show 11 + ((i : Nat) : Int).toNat = 11 + i from rfl]
              have b3 := ent2_r W (f := j) (i := i) (by omega)
              refine z_iload dX1_loadTable_58 rfl ?_
              refine z_aload_n dX1_loadTable_60 rfl ?_
              refine z_iload_n dX1_loadTable_61 rfl ?_
              refine z_iload_n dX1_loadTable_62 rfl ?_
              refine z_iload dX1_loadTable_63 rfl ?_
              refine z_callV_eI (M := mX1_loadTable) [_, _, _] tX0_entryOf kX1_37 dX1_loadTable_65 ⟨by decide, rfl, _, _, rfl⟩ ⟨by decide, by decide⟩ rfl (Nat.le_of_ble_eq_true rfl) rfl (c_X0_entry2 isC1 W (by rw [show 1 + 1 = 2 from rfl, L1.1 2 (by decide) (Or.inl (by decide))]; exact C) (i := i) (j := j) (by omega) (by omega)) ?_
              refine z_i2l dX1_loadTable_68 (by omega) ?_
              refine z_lastore dX1_loadTable_69 (by omega) (shpG hi6) (by omega) (by omega) (by first | decide | omega) (by omega) ?_
              refine z_iinc dX1_loadTable_70 rfl (by decide) rfl ?_
              refine z_goto 43 dX1_loadTable_73 (by decide) ?_
              exact ih43 (j + 1) _ (by omega) (L1.put hi6 rfl rfl) (by omega)
        exact loop43 _ 0 h1 (by omega) L1 (Nat.lt_succ_self _)
  exact loop32 _ 0 _ (by omega) ⟨fun k k1 _ => by rw [up_ne _ _ _ k1, up_ne _ _ _ k1], by rw [up_o _ _ (by decide), up_same], up_same _ _ _ _, fun i' _ h1 => absurd h1 (Nat.not_lt_zero _), fun j' h1 => absurd h1 (Nat.not_lt_zero _)⟩ (Nat.lt_succ_self _)

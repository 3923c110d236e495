set_option maxRecDepth 100000 in
set_option maxHeartbeats 4000000 in
theorem c_X2_loadChain {g : GG} {h : HH} {σ : SG} (W : WF σ) (C : RC (h 2) σ) {c : Nat} (hc : c < 3) : CnV mX2_loadChain g [vr 18, vr 1, vi (c : Int)] h (fun h' => LCh h h' σ c (sE σ)) := by
  refine cn_q (lv := [vr 18, vr 1, vi (c : Int), vx, vx]) tX2_loadChain.1 rfl rfl (fun hR Q hQ => ?_)
  have w1 := W.1
  have w2 := W.2.1
  have w3 := W.2.2.1
  refine z_aload_n dX2_loadChain_0 rfl ?_
  refine z_aload_n dX2_loadChain_1 rfl ?_
  refine z_iconst dX2_loadChain_2 ?_
  refine z_callV_eI (M := mX2_loadChain) [_] tX0_sizeOf kX2_63 dX2_loadChain_3 ⟨by decide, rfl, _, _, rfl⟩ ⟨by decide, by decide⟩ rfl (Nat.le_of_ble_eq_true rfl) rfl (s_X0_sizeE isC1 C) ?_
  refine z_bipush dX2_loadChain_6 (by decide) ?_
  refine z_min kMin2 dX2_loadChain_8 (by omega) (by omega) ⟨by decide, by decide⟩ (Nat.le_of_ble_eq_true rfl) ?_
  rw [show min (sE σ : Int) 6 = sE σ from by omega]
  refine z_putI pX2_19 dX2_loadChain_11 (by decide) rfl rfl (by omega) ?_
  refine z_aload_n dX2_loadChain_14 rfl ?_
  refine z_lconst (z := 1) dX2_loadChain_15 rfl ?_
  refine z_putJ pX2_15 dX2_loadChain_16 (by decide) rfl rfl (by omega) ?_
  refine z_iconst dX2_loadChain_19 ?_
  refine z_istore_n dX2_loadChain_20 (by decide) rfl ?_
  have loop21 : ∀ (nL9 : Nat) (i : Nat) (h1 : HH), (i ≤ sE σ) → (LCh h h1 σ c i) → sE σ - i < nL9 → Z mX2_loadChain g 21 [vr 18, vr 1, vi (c : Int), vi (i : Int), vx] [] h1 Q := by
    intro nL9
    induction nL9 with
    | zero => intro i h1 hi L1 hnL9; exact absurd hnL9 (Nat.not_lt_zero _)
    | succ nL9 ih21 =>
      intro i h1 hi L1 hnL9
      refine z_iload_n dX2_loadChain_21 rfl ?_
      refine z_aload_n dX2_loadChain_22 rfl ?_
      refine z_getI fX2_19 dX2_loadChain_23 (by decide) rfl rfl (fun r23 => ?_)
      rw [show h1 18 2 = sE σ from L1.2.1]
      refine z_icmp_ge 91 dX2_loadChain_26 (by decide) (by omega) (by omega) (fun c26 => ?_) (fun c26 => ?_)
      · exact z_return dX2_loadChain_91 rfl (hQ _ _ ⟨rfl, (by rw [show sE σ = i from by omega]; exact L1)⟩)
      · refine z_aload_n dX2_loadChain_29 rfl ?_
        refine z_iconst dX2_loadChain_30 ?_
        refine z_iload_n dX2_loadChain_31 rfl ?_
        refine z_callV_eI (M := mX2_loadChain) [_, _] tX0_weightOf kX2_75 dX2_loadChain_32 ⟨by decide, rfl, _, _, rfl⟩ ⟨by decide, by decide⟩ rfl (Nat.le_of_ble_eq_true rfl) rfl (s_X0_weightE isC1 W.wb (by rw [show 1 + 1 = 2 from rfl, L1.1 2 (by decide) (Or.inl (by decide))]; exact C) (e := i) (by omega)) ?_
        have w4 := W.2.2.2.1 i (by omega)
        refine z_istore dX2_loadChain_35 (by decide) rfl ?_
        refine z_aload_n dX2_loadChain_37 rfl ?_
        refine z_getR fX2_23 dX2_loadChain_38 (by decide) rfl rfl ?_
        refine z_iload_n dX2_loadChain_41 rfl ?_
        refine z_aload_n dX2_loadChain_42 rfl ?_
        refine z_iload_n dX2_loadChain_43 rfl ?_
        refine z_iload_n dX2_loadChain_44 rfl ?_
        refine z_callV_eI (M := mX2_loadChain) [_, _] tX0_numberAt kX2_78 dX2_loadChain_45 ⟨by decide, rfl, _, _, rfl⟩ ⟨by decide, by decide⟩ rfl (Nat.le_of_ble_eq_true rfl) rfl (s_X0_numberAt isC1 W.wb (by rw [show 1 + 1 = 2 from rfl, L1.1 2 (by decide) (Or.inl (by decide))]; exact C) hc (e := i) (by omega)) ?_
        have c9 := W.2.2.2.2.2 c i hc (by omega)
        refine z_i2l dX2_loadChain_48 (by omega) ?_
        refine z_lastore dX2_loadChain_49 (by decide) rfl (by omega) (by omega) (by first | decide | omega) (by omega) ?_
        refine z_aload_n dX2_loadChain_50 rfl ?_
        refine z_getR fX2_26 dX2_loadChain_51 (by decide) rfl rfl ?_
        refine z_iload_n dX2_loadChain_54 rfl ?_
        refine z_iload dX2_loadChain_55 rfl ?_
        have w4 := W.2.2.2.1 i (by omega)
        have m9 := msr_r W (e := i) (by omega)
        have c9 := W.2.2.2.2.2 c i hc (by omega)
        refine z_if_le 69 dX2_loadChain_57 (by decide) (by omega) (fun c57 => ?_) (fun c57 => ?_)
        · omega
        · refine z_bipush dX2_loadChain_60 (by decide) ?_
          refine z_iload dX2_loadChain_62 rfl ?_
          refine z_idiv dX2_loadChain_64 (by omega) (by omega) (by omega) ?_
          rw [show (6 : Int).tdiv (sew σ i : Int) = msr σ i from rfl]
          refine z_i2l dX2_loadChain_65 (by omega) ?_
          refine z_goto 72 dX2_loadChain_66 (by decide) ?_
          refine z_lastore dX2_loadChain_72 (by decide) rfl (by omega) (by omega) (by first | decide | omega) (by omega) ?_
          refine z_aload_n dX2_loadChain_73 rfl ?_
          refine z_getR fX2_9 dX2_loadChain_74 (by decide) rfl rfl ?_
          refine z_iload_n dX2_loadChain_77 rfl ?_
          refine z_aload_n dX2_loadChain_78 rfl ?_
          refine z_getR fX2_23 dX2_loadChain_79 (by decide) rfl rfl ?_
          refine z_iload_n dX2_loadChain_82 rfl ?_
          refine z_laload dX2_loadChain_83 (by decide) rfl (by omega) (by omega) (by first | decide | omega) (fun r83 => ?_)
          rw [show (up (up h1 20 (i : Int).toNat (sch σ c i)) 21 (i : Int).toNat (msr σ i)) 20 (i : Int).toNat = sch σ c i from by rw [up_ne _ _ _ (by decide), up_same]]
          refine z_lastore dX2_loadChain_84 (by decide) rfl (by omega) (by omega) (by first | decide | omega) (by omega) ?_
          refine z_iinc dX2_loadChain_85 rfl (by decide) rfl ?_
          refine z_goto 21 dX2_loadChain_88 (by decide) ?_
          refine z_forget 4 ?_
          exact ih21 (i + 1) _ (by omega) (L1.put rfl) (by omega)
  exact loop21 _ 0 _ (by omega) ⟨fun k k1 _ => by rw [up_ne _ _ _ k1, up_ne _ _ _ k1], by rw [up_o _ _ (by decide), up_same], up_same _ _ _ _, fun e he => absurd he (Nat.not_lt_zero _)⟩ (Nat.lt_succ_self _)
set_option maxRecDepth 100000 in
set_option maxHeartbeats 4000000 in
theorem c_X2_loadRays0 {g : GG} {h : HH} {σ : SG} (W : WF σ) (C : RC (h 2) σ) (hE : h 18 2 = sE σ) : CnV mX2_loadRays g [vr 18, vr 1, vi 0] h (fun h' => LRy h h' (sF σ) (sE σ) (sF σ) 0 (ryF σ)) := by
  refine cn_q (lv := [vr 18, vr 1, vi 0, vx, vx]) tX2_loadRays.1 rfl rfl (fun hR Q hQ => ?_)
  have w1 := W.1
  have w2 := W.2.1
  have w3 := W.2.2.1
  refine z_aload_n dX2_loadRays_0 rfl ?_
  refine z_aload_n dX2_loadRays_1 rfl ?_
  refine z_iload_n dX2_loadRays_2 rfl ?_
  refine z_if_ne 10 dX2_loadRays_3 (by decide) (by omega) (fun c3 => ?_) (fun c3 => ?_)
  · omega
  · refine z_iconst dX2_loadRays_6 ?_
    refine z_goto 11 dX2_loadRays_7 (by decide) ?_
    refine z_callV_eI (M := mX2_loadRays) [_] tX0_sizeOf kX2_63 dX2_loadRays_11 ⟨by decide, rfl, _, _, rfl⟩ ⟨by decide, by decide⟩ rfl (Nat.le_of_ble_eq_true rfl) rfl (s_X0_sizeF isC1 C) ?_
    refine z_iconst dX2_loadRays_14 ?_
    refine z_min kMin2 dX2_loadRays_15 (by omega) (by omega) ⟨by decide, by decide⟩ (Nat.le_of_ble_eq_true rfl) ?_
    rw [show min (sF σ : Int) 5 = sF σ from by omega]
    refine z_putI pX2_34 dX2_loadRays_18 (by decide) rfl rfl (by omega) ?_
    refine z_iconst dX2_loadRays_21 ?_
    refine z_istore_n dX2_loadRays_22 (by decide) rfl ?_
    have loop23 : ∀ (nL9 : Nat) (i : Nat) (h1 : HH), (i ≤ sF σ) → (LRy h h1 (sF σ) (sE σ) i 0 (ryF σ)) → sF σ - i < nL9 → Z mX2_loadRays g 23 [vr 18, vr 1, vi 0, vi (i : Int), vx] [] h1 Q := by
      intro nL9
      induction nL9 with
      | zero => intro i h1 hi L1 hnL9; exact absurd hnL9 (Nat.not_lt_zero _)
      | succ nL9 ih23 =>
        intro i h1 hi L1 hnL9
        refine z_iload_n dX2_loadRays_23 rfl ?_
        refine z_aload_n dX2_loadRays_24 rfl ?_
        refine z_getI fX2_34 dX2_loadRays_25 (by decide) rfl rfl (fun r25 => ?_)
        rw [show h1 18 6 = sF σ from L1.2.2.1]
        refine z_icmp_ge 97 dX2_loadRays_28 (by decide) (by omega) (by omega) (fun c28 => ?_) (fun c28 => ?_)
        · exact z_return dX2_loadRays_97 rfl (hQ _ _ ⟨rfl, (by rw [show sF σ = i from by omega] at L1 ⊢; exact L1)⟩)
        · refine z_iconst dX2_loadRays_31 ?_
          refine z_istore dX2_loadRays_32 (by decide) rfl ?_
          have loop34 : ∀ (nL9 : Nat) (j : Nat) (h1 : HH), (j ≤ sE σ) → (LRy h h1 (sF σ) (sE σ) i j (ryF σ)) → sE σ - j < nL9 → Z mX2_loadRays g 34 [vr 18, vr 1, vi 0, vi (i : Int), vi (j : Int)] [] h1 Q := by
            intro nL9
            induction nL9 with
            | zero => intro j h1 hj L1 hnL9; exact absurd hnL9 (Nat.not_lt_zero _)
            | succ nL9 ih34 =>
              intro j h1 hj L1 hnL9
              refine z_iload dX2_loadRays_34 rfl ?_
              refine z_aload_n dX2_loadRays_36 rfl ?_
              refine z_getI fX2_19 dX2_loadRays_37 (by decide) rfl rfl (fun r37 => ?_)
              rw [show h1 18 2 = sE σ from (L1.2.1 2 (by decide)).trans hE]
              refine z_icmp_ge 91 dX2_loadRays_40 (by decide) (by omega) (by omega) (fun c40 => ?_) (fun c40 => ?_)
              · refine z_iinc dX2_loadRays_91 rfl (by decide) rfl ?_
                refine z_goto 23 dX2_loadRays_94 (by decide) ?_
                refine z_forget 4 ?_
                exact ih23 (i + 1) h1 (by omega) (L1.next (by omega)) (by omega)
              · refine z_aload_n dX2_loadRays_43 rfl ?_
                refine z_getR fX2_31 dX2_loadRays_44 (by decide) rfl rfl ?_
                refine z_iload_n dX2_loadRays_47 rfl ?_
                refine z_aaloadJ dX2_loadRays_48 (by decide) rfl (by omega) (by omega) (by decide) ?_
                have hi5 : i < 5 := by omega
                rw [show 23 + ((i : Nat) : Int).toNat = 23 + i from rfl]
                refine z_iload dX2_loadRays_49 rfl ?_
                refine z_iload_n dX2_loadRays_51 rfl ?_
                refine z_if_ne 67 dX2_loadRays_52 (by decide) (by omega) (fun c52 => ?_) (fun c52 => ?_)
                · omega
                · refine z_aload_n dX2_loadRays_55 rfl ?_
                  refine z_iconst dX2_loadRays_56 ?_
                  refine z_iload dX2_loadRays_57 rfl ?_
                  refine z_iload_n dX2_loadRays_59 rfl ?_
                  refine z_callV_eI (M := mX2_loadRays) [_, _, _] tX0_entryOf kX2_83 dX2_loadRays_60 ⟨by decide, rfl, _, _, rfl⟩ ⟨by decide, by decide⟩ rfl (Nat.le_of_ble_eq_true rfl) rfl (c_X0_entry2 isC1 W (by rw [show 1 + 1 = 2 from rfl, L1.1 2 (by decide) (Or.inl (by decide))]; exact C) (i := j) (j := i) (by omega) (by omega)) ?_
                  have b3 := ent2_r W (f := i) (i := j) (by omega)
                  refine z_i2l dX2_loadRays_63 (by omega) ?_
                  refine z_goto 84 dX2_loadRays_64 (by decide) ?_
                  refine z_lastore dX2_loadRays_84 (by omega) (shpR hi5) (by omega) (by omega) (by first | decide | omega) (by omega) ?_
                  refine z_iinc dX2_loadRays_85 rfl (by decide) rfl ?_
                  refine z_goto 34 dX2_loadRays_88 (by decide) ?_
                  exact ih34 (j + 1) _ (by omega) (L1.put hi5 rfl rfl) (by omega)
          exact loop34 _ 0 h1 (by omega) L1 (Nat.lt_succ_self _)
    exact loop23 _ 0 _ (by omega) ⟨fun k k1 _ => by rw [up_ne _ _ _ k1], fun q hq => up_o _ _ hq, up_same _ _ _ _, fun i' _ h1 => absurd h1 (Nat.not_lt_zero _), fun j' h1 => absurd h1 (Nat.not_lt_zero _)⟩ (Nat.lt_succ_self _)
set_option maxRecDepth 100000 in
set_option maxHeartbeats 4000000 in
theorem c_X2_loadRays1 {g : GG} {h : HH} {σ : SG} (W : WF σ) (C : RC (h 2) σ) (hE : h 18 2 = sE σ) : CnV mX2_loadRays g [vr 18, vr 1, vi 1] h (fun h' => LRy h h' (sP σ) (sE σ) (sP σ) 0 (ryD σ)) := by
  refine cn_q (lv := [vr 18, vr 1, vi 1, vx, vx]) tX2_loadRays.1 rfl rfl (fun hR Q hQ => ?_)
  have w1 := W.1
  have w2 := W.2.1
  have w3 := W.2.2.1
  refine z_aload_n dX2_loadRays_0 rfl ?_
  refine z_aload_n dX2_loadRays_1 rfl ?_
  refine z_iload_n dX2_loadRays_2 rfl ?_
  refine z_if_ne 10 dX2_loadRays_3 (by decide) (by omega) (fun c3 => ?_) (fun c3 => ?_)
  · refine z_iconst dX2_loadRays_10 ?_
    refine z_callV_eI (M := mX2_loadRays) [_] tX0_sizeOf kX2_63 dX2_loadRays_11 ⟨by decide, rfl, _, _, rfl⟩ ⟨by decide, by decide⟩ rfl (Nat.le_of_ble_eq_true rfl) rfl (s_X0_sizeP isC1 C) ?_
    refine z_iconst dX2_loadRays_14 ?_
    refine z_min kMin2 dX2_loadRays_15 (by omega) (by omega) ⟨by decide, by decide⟩ (Nat.le_of_ble_eq_true rfl) ?_
    rw [show min (sP σ : Int) 5 = sP σ from by omega]
    refine z_putI pX2_34 dX2_loadRays_18 (by decide) rfl rfl (by omega) ?_
    refine z_iconst dX2_loadRays_21 ?_
    refine z_istore_n dX2_loadRays_22 (by decide) rfl ?_
    have loop23 : ∀ (nL9 : Nat) (i : Nat) (h1 : HH), (i ≤ sP σ) → (LRy h h1 (sP σ) (sE σ) i 0 (ryD σ)) → sP σ - i < nL9 → Z mX2_loadRays g 23 [vr 18, vr 1, vi 1, vi (i : Int), vx] [] h1 Q := by
      intro nL9
      induction nL9 with
      | zero => intro i h1 hi L1 hnL9; exact absurd hnL9 (Nat.not_lt_zero _)
      | succ nL9 ih23 =>
        intro i h1 hi L1 hnL9
        refine z_iload_n dX2_loadRays_23 rfl ?_
        refine z_aload_n dX2_loadRays_24 rfl ?_
        refine z_getI fX2_34 dX2_loadRays_25 (by decide) rfl rfl (fun r25 => ?_)
        rw [show h1 18 6 = sP σ from L1.2.2.1]
        refine z_icmp_ge 97 dX2_loadRays_28 (by decide) (by omega) (by omega) (fun c28 => ?_) (fun c28 => ?_)
        · exact z_return dX2_loadRays_97 rfl (hQ _ _ ⟨rfl, (by rw [show sP σ = i from by omega] at L1 ⊢; exact L1)⟩)
        · refine z_iconst dX2_loadRays_31 ?_
          refine z_istore dX2_loadRays_32 (by decide) rfl ?_
          have loop34 : ∀ (nL9 : Nat) (j : Nat) (h1 : HH), (j ≤ sE σ) → (LRy h h1 (sP σ) (sE σ) i j (ryD σ)) → sE σ - j < nL9 → Z mX2_loadRays g 34 [vr 18, vr 1, vi 1, vi (i : Int), vi (j : Int)] [] h1 Q := by
            intro nL9
            induction nL9 with
            | zero => intro j h1 hj L1 hnL9; exact absurd hnL9 (Nat.not_lt_zero _)
            | succ nL9 ih34 =>
              intro j h1 hj L1 hnL9
              refine z_iload dX2_loadRays_34 rfl ?_
              refine z_aload_n dX2_loadRays_36 rfl ?_
              refine z_getI fX2_19 dX2_loadRays_37 (by decide) rfl rfl (fun r37 => ?_)
              rw [show h1 18 2 = sE σ from (L1.2.1 2 (by decide)).trans hE]
              refine z_icmp_ge 91 dX2_loadRays_40 (by decide) (by omega) (by omega) (fun c40 => ?_) (fun c40 => ?_)
              · refine z_iinc dX2_loadRays_91 rfl (by decide) rfl ?_
                refine z_goto 23 dX2_loadRays_94 (by decide) ?_
                refine z_forget 4 ?_
                exact ih23 (i + 1) h1 (by omega) (L1.next (by omega)) (by omega)
              · refine z_aload_n dX2_loadRays_43 rfl ?_
                refine z_getR fX2_31 dX2_loadRays_44 (by decide) rfl rfl ?_
                refine z_iload_n dX2_loadRays_47 rfl ?_
                refine z_aaloadJ dX2_loadRays_48 (by decide) rfl (by omega) (by omega) (by decide) ?_
                have hi5 : i < 5 := by omega
                rw [show 23 + ((i : Nat) : Int).toNat = 23 + i from rfl]
                refine z_iload dX2_loadRays_49 rfl ?_
                refine z_iload_n dX2_loadRays_51 rfl ?_
                refine z_if_ne 67 dX2_loadRays_52 (by decide) (by omega) (fun c52 => ?_) (fun c52 => ?_)
                · refine z_aload_n dX2_loadRays_67 rfl ?_
                  refine z_iconst dX2_loadRays_68 ?_
                  refine z_iload_n dX2_loadRays_69 rfl ?_
                  refine z_iload dX2_loadRays_70 rfl ?_
                  refine z_callV_eI (M := mX2_loadRays) [_, _, _] tX0_entryOf kX2_83 dX2_loadRays_72 ⟨by decide, rfl, _, _, rfl⟩ ⟨by decide, by decide⟩ rfl (Nat.le_of_ble_eq_true rfl) rfl (c_X0_entry1 isC1 W (by rw [show 1 + 1 = 2 from rfl, L1.1 2 (by decide) (Or.inl (by decide))]; exact C) (i := i) (j := j) (by omega) (by omega)) ?_
                  refine z_aload_n dX2_loadRays_75 rfl ?_
                  refine z_iconst dX2_loadRays_76 ?_
                  refine z_iload dX2_loadRays_77 rfl ?_
                  refine z_callV_eI (M := mX2_loadRays) [_, _] tX0_weightOf kX2_75 dX2_loadRays_79 ⟨by decide, rfl, _, _, rfl⟩ ⟨by decide, by decide⟩ rfl (Nat.le_of_ble_eq_true rfl) rfl (s_X0_weightE isC1 W.wb (by rw [show 1 + 1 = 2 from rfl, L1.1 2 (by decide) (Or.inl (by decide))]; exact C) (e := j) (by omega)) ?_
                  refine z_imul dX2_loadRays_82 ?_
                  have b3 := ryD_r W (e := j) (by omega) i
                  rw [show ent1 σ i j * (sew σ j : Int) = ryD σ i j from rfl]
                  refine z_i2l dX2_loadRays_83 (by omega) ?_
                  refine z_lastore dX2_loadRays_84 (by omega) (shpR hi5) (by omega) (by omega) (by first | decide | omega) (by omega) ?_
                  refine z_iinc dX2_loadRays_85 rfl (by decide) rfl ?_
                  refine z_goto 34 dX2_loadRays_88 (by decide) ?_
                  exact ih34 (j + 1) _ (by omega) (L1.put hi5 rfl rfl) (by omega)
                · omega
          exact loop34 _ 0 h1 (by omega) L1 (Nat.lt_succ_self _)
    exact loop23 _ 0 _ (by omega) ⟨fun k k1 _ => by rw [up_ne _ _ _ k1], fun q hq => up_o _ _ hq, up_same _ _ _ _, fun i' _ h1 => absurd h1 (Nat.not_lt_zero _), fun j' h1 => absurd h1 (Nat.not_lt_zero _)⟩ (Nat.lt_succ_self _)
  · omega
set_option maxRecDepth 100000 in
set_option maxHeartbeats 4000000 in
theorem c_X2_product {g : GG} {h : HH} {x y E : Nat} (hx : x < 60) (sx : shp x = (2, 6, [])) (hy : y < 60) (sy : shp y = (2, 6, [])) (hE : h 18 2 = (E : Int)) (hE6 : E ≤ 6) : CeL mX2_product g [vr 18, vr x, vr y] h (ipw E (h 21) (h x) (h y)) := by
  refine cn_q (lv := [vr 18, vr x, vr y, vx, vx, vx]) tX2_product.1 rfl rfl (fun hR Q hQ => ?_)
  refine z_lconst (z := 0) dX2_product_0 rfl ?_
  refine z_lstore_n dX2_product_1 (by decide) rfl ?_
  refine z_iconst dX2_product_2 ?_
  refine z_istore dX2_product_3 (by decide) rfl ?_
  have loop5 : ∀ (nL9 : Nat) (i : Nat), (i ≤ E) → E - i < nL9 → Z mX2_product g 5 [vr 18, vr x, vr y, vl (sI i (fun e => h x e * h y e * h 21 e)), vx, vi (i : Int)] [] h Q := by
    intro nL9
    induction nL9 with
    | zero => intro i hi hnL9; exact absurd hnL9 (Nat.not_lt_zero _)
    | succ nL9 ih5 =>
      intro i hi hnL9
      refine z_iload dX2_product_5 rfl ?_
      refine z_aload_n dX2_product_7 rfl ?_
      refine z_getI fX2_19 dX2_product_8 (by decide) rfl rfl (fun r8 => ?_)
      rw [hE]
      refine z_icmp_ge 40 dX2_product_11 (by decide) (by omega) (by omega) (fun c11 => ?_) (fun c11 => ?_)
      · refine z_lload_n dX2_product_40 rfl ?_
        exact z_lreturn dX2_product_41 rfl (hQ _ _ ⟨_, rfl, (by unfold ipw; rw [show E = i from by omega]), rfl⟩)
      · refine z_lload_n dX2_product_14 rfl ?_
        refine z_aload_n dX2_product_15 rfl ?_
        refine z_iload dX2_product_16 rfl ?_
        refine z_laload dX2_product_18 hx sx (by omega) (by omega) (by first | decide | omega) (fun r18 => ?_)
        refine z_aload_n dX2_product_19 rfl ?_
        refine z_iload dX2_product_20 rfl ?_
        refine z_laload dX2_product_22 hy sy (by omega) (by omega) (by first | decide | omega) (fun r22 => ?_)
        refine z_lmul dX2_product_23 ?_
        refine z_aload_n dX2_product_24 rfl ?_
        refine z_getR fX2_26 dX2_product_25 (by decide) rfl rfl ?_
        refine z_iload dX2_product_28 rfl ?_
        refine z_laload dX2_product_30 (by decide) rfl (by omega) (by omega) (by first | decide | omega) (fun r30 => ?_)
        refine z_lmul dX2_product_31 ?_
        refine z_ladd dX2_product_32 ?_
        refine z_lstore_n dX2_product_33 (by decide) rfl ?_
        refine z_iinc dX2_product_34 rfl (by decide) rfl ?_
        refine z_goto 5 dX2_product_37 (by decide) ?_
        exact ih5 (i + 1) (by omega) (by omega)
  exact loop5 _ 0 (by omega) (Nat.lt_succ_self _)
set_option maxRecDepth 100000 in
set_option maxHeartbeats 4000000 in
theorem c_X2_fillSystem {g : GG} {h : HH} {E n : Nat} {m : Nat → Int} {v : Nat → Nat → Int} {c : Nat → Int} (D : LD h n E m v c) (hn : n ≤ 5) (hE6 : E ≤ 6) (hg : ∀ a s, a < n → s ≤ n → R64 (GM E m n v c a s)) : CnV mX2_fillSystem g [vr 18] h (fun h' => LSy h h' n n 0 (GM E m n v c)) := by
  refine cn_q (lv := [vr 18, vx, vx]) tX2_fillSystem.1 rfl rfl (fun hR Q hQ => ?_)
  refine z_iconst dX2_fillSystem_0 ?_
  refine z_istore_n dX2_fillSystem_1 (by decide) rfl ?_
  have loop2 : ∀ (nL9 : Nat) (i : Nat) (h1 : HH), (i ≤ n) → (LSy h h1 n i 0 (GM E m n v c)) → n - i < nL9 → Z mX2_fillSystem g 2 [vr 18, vi (i : Int), vx] [] h1 Q := by
    intro nL9
    induction nL9 with
    | zero => intro i h1 hi L1 hnL9; exact absurd hnL9 (Nat.not_lt_zero _)
    | succ nL9 ih2 =>
      intro i h1 hi L1 hnL9
      refine z_iload_n dX2_fillSystem_2 rfl ?_
      refine z_aload_n dX2_fillSystem_3 rfl ?_
      refine z_getI fX2_34 dX2_fillSystem_4 (by decide) rfl rfl (fun r4 => ?_)
      rw [show h1 18 6 = n from (D.same hn (fun k hk => L1.1 k (Or.inl (by omega)))).2.1]
      refine z_icmp_ge 81 dX2_fillSystem_7 (by decide) (by omega) (by omega) (fun c7 => ?_) (fun c7 => ?_)
      · exact z_return dX2_fillSystem_81 rfl (hQ _ _ ⟨rfl, (by rw [show i = n from by omega] at L1; exact L1)⟩)
      · refine z_iconst dX2_fillSystem_10 ?_
        refine z_istore_n dX2_fillSystem_11 (by decide) rfl ?_
        have loop12 : ∀ (nL9 : Nat) (j : Nat) (h1 : HH), (j ≤ n) → (LSy h h1 n i j (GM E m n v c)) → n - j < nL9 → Z mX2_fillSystem g 12 [vr 18, vi (i : Int), vi (j : Int)] [] h1 Q := by
          intro nL9
          induction nL9 with
          | zero => intro j h1 hj L1 hnL9; exact absurd hnL9 (Nat.not_lt_zero _)
          | succ nL9 ih12 =>
            intro j h1 hj L1 hnL9
            refine z_iload_n dX2_fillSystem_12 rfl ?_
            refine z_aload_n dX2_fillSystem_13 rfl ?_
            refine z_getI fX2_34 dX2_fillSystem_14 (by decide) rfl rfl (fun r14 => ?_)
            rw [show h1 18 6 = n from (D.same hn (fun k hk => L1.1 k (Or.inl (by omega)))).2.1]
            refine z_icmp_ge 50 dX2_fillSystem_17 (by decide) (by omega) (by omega) (fun c17 => ?_) (fun c17 => ?_)
            · refine z_aload_n dX2_fillSystem_50 rfl ?_
              refine z_getR fX2_37 dX2_fillSystem_51 (by decide) rfl rfl ?_
              refine z_iload_n dX2_fillSystem_54 rfl ?_
              refine z_aaloadJ dX2_fillSystem_55 (by decide) rfl (by omega) (by omega) (by decide) ?_
              have hi5 : i < 5 := by omega
              rw [show 29 + ((i : Nat) : Int).toNat = 29 + i from rfl]
              refine z_aload_n dX2_fillSystem_56 rfl ?_
              refine z_getI fX2_34 dX2_fillSystem_57 (by decide) rfl rfl (fun r57 => ?_)
              rw [show h1 18 6 = n from (D.same hn (fun k hk => L1.1 k (Or.inl (by omega)))).2.1]
              refine z_aload_n dX2_fillSystem_60 rfl ?_
              refine z_aload_n dX2_fillSystem_61 rfl ?_
              refine z_getR fX2_31 dX2_fillSystem_62 (by decide) rfl rfl ?_
              refine z_iload_n dX2_fillSystem_65 rfl ?_
              refine z_aaloadJ dX2_fillSystem_66 (by decide) rfl (by omega) (by omega) (by decide) ?_
              rw [show 23 + ((i : Nat) : Int).toNat = 23 + i from rfl]
              refine z_aload_n dX2_fillSystem_67 rfl ?_
              refine z_getR fX2_23 dX2_fillSystem_68 (by decide) rfl rfl ?_
              refine z_callV_eL (M := mX2_fillSystem) [_, _] tX2_product kX2_96 dX2_fillSystem_71 ⟨by decide, rfl, _, _, rfl⟩ ⟨by decide, by decide⟩ rfl (Nat.le_of_ble_eq_true rfl) rfl (c_X2_product (x := 23 + i) (y := 20) (by omega) (shpR hi5) (by decide) rfl (D.same hn (fun k hk => L1.1 k (Or.inl (by omega)))).1 hE6) ?_
              have D2 := (D.same hn (fun k hk => L1.1 k (Or.inl (by omega))))
              rw [show ipw E (h1 21) (h1 (23 + i)) (h1 20) = GM E m n v c i n from by
                unfold GM
                rw [if_neg (Nat.lt_irrefl n)]
                exact sI_congr fun e he => by rw [(D2.2.2.1 e he).1, D2.2.2.2 i e (by omega) he, (D2.2.2.1 e he).2]]
              have g9 := hg i n (by omega) (by omega)
              refine z_lastore dX2_fillSystem_74 (by omega) (shpY hi5) (by omega) (by omega) (by first | decide | omega) (by omega) ?_
              refine z_iinc dX2_fillSystem_75 rfl (by decide) rfl ?_
              refine z_goto 2 dX2_fillSystem_78 (by decide) ?_
              refine z_forget 2 ?_
              rw [show j = n from by omega] at L1
              exact ih2 (i + 1) _ (by omega) ((L1.put hi5 rfl rfl).next (by omega)) (by omega)
            · refine z_aload_n dX2_fillSystem_20 rfl ?_
              refine z_getR fX2_37 dX2_fillSystem_21 (by decide) rfl rfl ?_
              refine z_iload_n dX2_fillSystem_24 rfl ?_
              refine z_aaloadJ dX2_fillSystem_25 (by decide) rfl (by omega) (by omega) (by decide) ?_
              have hi5 : i < 5 := by omega
              rw [show 29 + ((i : Nat) : Int).toNat = 29 + i from rfl]
              refine z_iload_n dX2_fillSystem_26 rfl ?_
              refine z_aload_n dX2_fillSystem_27 rfl ?_
              refine z_aload_n dX2_fillSystem_28 rfl ?_
              refine z_getR fX2_31 dX2_fillSystem_29 (by decide) rfl rfl ?_
              refine z_iload_n dX2_fillSystem_32 rfl ?_
              refine z_aaloadJ dX2_fillSystem_33 (by decide) rfl (by omega) (by omega) (by decide) ?_
              rw [show 23 + ((i : Nat) : Int).toNat = 23 + i from rfl]
              refine z_aload_n dX2_fillSystem_34 rfl ?_
              refine z_getR fX2_31 dX2_fillSystem_35 (by decide) rfl rfl ?_
              refine z_iload_n dX2_fillSystem_38 rfl ?_
              refine z_aaloadJ dX2_fillSystem_39 (by decide) rfl (by omega) (by omega) (by decide) ?_
              rw [show 23 + ((j : Nat) : Int).toNat = 23 + j from rfl]
              refine z_callV_eL (M := mX2_fillSystem) [_, _] tX2_product kX2_96 dX2_fillSystem_40 ⟨by decide, rfl, _, _, rfl⟩ ⟨by decide, by decide⟩ rfl (Nat.le_of_ble_eq_true rfl) rfl (c_X2_product (x := 23 + i) (y := 23 + j) (by omega) (shpR hi5) (by omega) (shpR (by omega)) (D.same hn (fun k hk => L1.1 k (Or.inl (by omega)))).1 hE6) ?_
              have D2 := (D.same hn (fun k hk => L1.1 k (Or.inl (by omega))))
              rw [show ipw E (h1 21) (h1 (23 + i)) (h1 (23 + j)) = GM E m n v c i j from by
                unfold GM
                rw [if_pos (by omega)]
                exact sI_congr fun e he => by rw [(D2.2.2.1 e he).1, D2.2.2.2 i e (by omega) he, D2.2.2.2 j e (by omega) he]]
              have g9 := hg i j (by omega) (by omega)
              refine z_lastore dX2_fillSystem_43 (by omega) (shpY hi5) (by omega) (by omega) (by first | decide | omega) (by omega) ?_
              refine z_iinc dX2_fillSystem_44 rfl (by decide) rfl ?_
              refine z_goto 12 dX2_fillSystem_47 (by decide) ?_
              exact ih12 (j + 1) _ (by omega) (L1.put hi5 rfl rfl) (by omega)
        exact loop12 _ 0 h1 (by omega) L1 (Nat.lt_succ_self _)
  exact loop2 _ 0 h (by omega) ⟨fun _ _ => rfl, fun i' _ h1 => absurd h1 (Nat.not_lt_zero _), fun j' h1 => absurd h1 (Nat.not_lt_zero _)⟩ (Nat.lt_succ_self _)
set_option maxRecDepth 100000 in
set_option maxHeartbeats 4000000 in
theorem c_X2_eliminate {g : GG} {h : HH} {r k n : Nat} (hr : r < 5) (hk : k < 5) (hrk : r ≠ k) (hn5 : n ≤ 5) (hn : h 18 6 = n) {d : Int} (hd : R64 d) (h0 : d ≠ 0) (hq : ∀ s, s ≤ n → R64 (h (29 + k) k * h (29 + r) s - h (29 + r) k * h (29 + k) s) ∧ R64 ((h (29 + k) k * h (29 + r) s - h (29 + r) k * h (29 + k) s).tdiv d)) : CnV mX2_eliminate g [vr 18, vi (r : Int), vi (k : Int), vl d] h (fun h' => h' = setc h (29 + r) (elf h n r k d (n + 1))) := by
  refine cn_q (lv := [vr 18, vi (r : Int), vi (k : Int), vl d, vx, vx, vx, vx, vx, vx]) tX2_eliminate.1 rfl rfl (fun hR Q hQ => ?_)
  refine z_lload_n dX2_eliminate_0 rfl ?_
  refine z_lconst (z := 0) dX2_eliminate_1 rfl ?_
  refine z_lcmp dX2_eliminate_2 hd (by decide) ?_
  refine z_if_eq 22 dX2_eliminate_3 (by decide) (icmp_r _ _) (fun c3 => ?_) (fun c3 => ?_)
  · have c3 := icmp_eq.mp c3
    exact absurd c3 h0
  · have c3 := icmp_ne.mp c3
    refine z_iload_n dX2_eliminate_6 rfl ?_
    refine z_iconst dX2_eliminate_7 ?_
    refine z_callN_eI (M := mX2_eliminate) [_, _] tX5_isWithin (by decide) dX2_eliminate_8 ⟨by decide, by decide⟩ rfl (Nat.le_of_ble_eq_true rfl) rfl (c_X5_isWithin (by omega) (by decide)) ?_
    refine z_if_eq 22 dX2_eliminate_11 (by decide) (bi_r _) (fun c11 => ?_) (fun c11 => ?_)
    · have c11 := bi_eq.mp c11
      exact absurd ⟨by omega, by omega⟩ c11
    · have c11 := bi_ne.mp c11
      refine z_iload_n dX2_eliminate_14 rfl ?_
      refine z_iconst dX2_eliminate_15 ?_
      refine z_callN_eI (M := mX2_eliminate) [_, _] tX5_isWithin (by decide) dX2_eliminate_16 ⟨by decide, by decide⟩ rfl (Nat.le_of_ble_eq_true rfl) rfl (c_X5_isWithin (by omega) (by decide)) ?_
      refine z_if_ne 23 dX2_eliminate_19 (by decide) (bi_r _) (fun c19 => ?_) (fun c19 => ?_)
      · have c19 := bi_ne.mp c19
        refine z_aload_n dX2_eliminate_23 rfl ?_
        refine z_getR fX2_37 dX2_eliminate_24 (by decide) rfl rfl ?_
        refine z_iload_n dX2_eliminate_27 rfl ?_
        refine z_aaloadJ dX2_eliminate_28 (by decide) rfl (by omega) (by omega) (by decide) ?_
        rw [show 29 + ((k : Nat) : Int).toNat = 29 + k from rfl]
        refine z_iload_n dX2_eliminate_29 rfl ?_
        refine z_laload dX2_eliminate_30 (by omega) (shpY hk) (by omega) (by omega) (by first | decide | omega) (fun r30 => ?_)
        rw [ix (f := h (29 + k)) (z := (k : Int)) (i := k) rfl]
        refine z_lstore dX2_eliminate_31 (by decide) rfl ?_
        refine z_aload_n dX2_eliminate_33 rfl ?_
        refine z_getR fX2_37 dX2_eliminate_34 (by decide) rfl rfl ?_
        refine z_iload_n dX2_eliminate_37 rfl ?_
        refine z_aaloadJ dX2_eliminate_38 (by decide) rfl (by omega) (by omega) (by decide) ?_
        rw [show 29 + ((r : Nat) : Int).toNat = 29 + r from rfl]
        refine z_iload_n dX2_eliminate_39 rfl ?_
        refine z_laload dX2_eliminate_40 (by omega) (shpY hr) (by omega) (by omega) (by first | decide | omega) (fun r40 => ?_)
        rw [ix (f := h (29 + r)) (z := (k : Int)) (i := k) rfl]
        refine z_lstore dX2_eliminate_41 (by decide) rfl ?_
        refine z_iconst dX2_eliminate_43 ?_
        refine z_istore dX2_eliminate_44 (by decide) rfl ?_
        have loop46 : ∀ (nL9 : Nat) (i : Nat), (i ≤ n + 1) → n + 1 - i < nL9 → Z mX2_eliminate g 46 [vr 18, vi (r : Int), vi (k : Int), vl d, vx, vl (h (29 + k) k), vx, vl (h (29 + r) k), vx, vi (i : Int)] [] (setc h (29 + r) (elf h n r k d i)) Q := by
          intro nL9
          induction nL9 with
          | zero => intro i hi hnL9; exact absurd hnL9 (Nat.not_lt_zero _)
          | succ nL9 ih46 =>
            intro i hi hnL9
            refine z_iload dX2_eliminate_46 rfl ?_
            refine z_aload_n dX2_eliminate_48 rfl ?_
            refine z_getI fX2_34 dX2_eliminate_49 (by decide) rfl rfl (fun r49 => ?_)
            rw [show (setc h (29 + r) (elf h n r k d i)) 18 6 = n from by rw [setc_ne _ _ (by omega)]; exact hn]
            refine z_icmp_gt 103 dX2_eliminate_52 (by decide) (by omega) (by omega) (fun c52 => ?_) (fun c52 => ?_)
            · exact z_return dX2_eliminate_103 rfl (hQ _ _ ⟨rfl, (by rw [show n + 1 = i from by omega])⟩)
            · refine z_iload dX2_eliminate_55 rfl ?_
              refine z_iconst dX2_eliminate_57 ?_
              refine z_icmp_gt 103 dX2_eliminate_58 (by decide) (by omega) (by omega) (fun c58 => ?_) (fun c58 => ?_)
              · exact z_return dX2_eliminate_103 rfl (hQ _ _ ⟨rfl, (by rw [show n + 1 = i from by omega])⟩)
              · refine z_aload_n dX2_eliminate_61 rfl ?_
                refine z_getR fX2_37 dX2_eliminate_62 (by decide) rfl rfl ?_
                refine z_iload_n dX2_eliminate_65 rfl ?_
                refine z_aaloadJ dX2_eliminate_66 (by decide) rfl (by omega) (by omega) (by decide) ?_
                rw [show 29 + ((r : Nat) : Int).toNat = 29 + r from rfl]
                refine z_iload dX2_eliminate_67 rfl ?_
                refine z_lload dX2_eliminate_69 rfl ?_
                refine z_aload_n dX2_eliminate_71 rfl ?_
                refine z_getR fX2_37 dX2_eliminate_72 (by decide) rfl rfl ?_
                refine z_iload_n dX2_eliminate_75 rfl ?_
                refine z_aaloadJ dX2_eliminate_76 (by decide) rfl (by omega) (by omega) (by decide) ?_
                rw [show 29 + ((r : Nat) : Int).toNat = 29 + r from rfl]
                refine z_iload dX2_eliminate_77 rfl ?_
                refine z_laload dX2_eliminate_79 (by omega) (shpY hr) (by omega) (by omega) (by first | decide | omega) (fun r79 => ?_)
                refine z_lmul dX2_eliminate_80 ?_
                refine z_lload dX2_eliminate_81 rfl ?_
                refine z_aload_n dX2_eliminate_83 rfl ?_
                refine z_getR fX2_37 dX2_eliminate_84 (by decide) rfl rfl ?_
                refine z_iload_n dX2_eliminate_87 rfl ?_
                refine z_aaloadJ dX2_eliminate_88 (by decide) rfl (by omega) (by omega) (by decide) ?_
                rw [show 29 + ((k : Nat) : Int).toNat = 29 + k from rfl]
                refine z_iload dX2_eliminate_89 rfl ?_
                refine z_laload dX2_eliminate_91 (by omega) (shpY hk) (by omega) (by omega) (by first | decide | omega) (fun r91 => ?_)
                refine z_lmul dX2_eliminate_92 ?_
                refine z_lsub dX2_eliminate_93 ?_
                rw [show setc h (29 + r) (elf h n r k d i) (29 + r) (i : Int).toNat = h (29 + r) i from by rw [setc_at]; exact elf_g h n r k d (Nat.le_refl i), show setc h (29 + r) (elf h n r k d i) (29 + k) (i : Int).toNat = h (29 + k) i from by rw [setc_ne _ _ (by omega)]; rfl]
                refine z_lload_n dX2_eliminate_94 rfl ?_
                refine z_ldiv dX2_eliminate_95 (hq i (by omega)).1 hd h0 ?_
                refine z_lastore dX2_eliminate_96 (by omega) (shpY hr) (by omega) (by omega) (by first | decide | omega) (hq i (by omega)).2 ?_
                rw [up_s (i := i) rfl, elf_s]
                refine z_iinc dX2_eliminate_97 rfl (by decide) rfl ?_
                refine z_goto 46 dX2_eliminate_100 (by decide) ?_
                exact ih46 (i + 1) (by omega) (by omega)
        have x0 := loop46 _ 0 (by omega) (Nat.lt_succ_self _)
        rw [elf_0, setc_self] at x0
        exact x0
      · have c19 := bi_eq.mp c19
        exact absurd ⟨by omega, by omega⟩ c19

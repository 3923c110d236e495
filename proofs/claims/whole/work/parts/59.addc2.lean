set_option maxRecDepth 100000 in
set_option maxHeartbeats 4000000 in
theorem c_X1_addChain {g : GG} {h : HH} {σ : SG} (W : WF σ) (C : RC (h 2) σ) {c : Nat} (hc : c < 3) (h2 : h 9 2 = sE σ) (h3 : h 9 3 = sF σ) : CnV mX1_addChain g [vr 9, vr 1, vi (c : Int)] h (fun h' => ∃ h1, AC h h1 (sF σ) (sE σ) (sch σ c) ∧ h' = up h1 9 3 ((sF σ : Int) + 1)) := by
  refine cn_q (lv := [vr 9, vr 1, vi (c : Int), vx]) tX1_addChain.1 rfl rfl (fun hR Q hQ => ?_)
  have w1 := W.1
  have w2 := W.2.1
  have w3 := W.2.2.1
  refine z_aload_n dX1_addChain_0 rfl ?_
  refine z_getI fX1_22 dX1_addChain_1 (by decide) rfl rfl (fun r1 => ?_)
  rw [h3]
  refine z_bipush dX1_addChain_4 (by decide) ?_
  refine z_callN_eI (M := mX1_addChain) [_, _] tX5_isWithin (by decide) dX1_addChain_6 ⟨by decide, by decide⟩ rfl (Nat.le_of_ble_eq_true rfl) rfl (c_X5_isWithin (by omega) (by decide)) ?_
  refine z_if_ne 13 dX1_addChain_9 (by decide) (bi_r _) (fun c9 => ?_) (fun c9 => ?_)
  · have c9 := bi_ne.mp c9
    refine z_iconst dX1_addChain_13 ?_
    refine z_istore_n dX1_addChain_14 (by decide) rfl ?_
    have loop15 : ∀ (nL9 : Nat) (i : Nat) (h1 : HH), (i ≤ sE σ) → (AC h h1 (sF σ) i (sch σ c)) → sE σ - i < nL9 → Z mX1_addChain g 15 [vr 9, vr 1, vi (c : Int), vi (i : Int)] [] h1 Q := by
      intro nL9
      induction nL9 with
      | zero => intro i h1 hi L1 hnL9; exact absurd hnL9 (Nat.not_lt_zero _)
      | succ nL9 ih15 =>
        intro i h1 hi L1 hnL9
        refine z_iload_n dX1_addChain_15 rfl ?_
        refine z_aload_n dX1_addChain_16 rfl ?_
        refine z_getI fX1_18 dX1_addChain_17 (by decide) rfl rfl (fun r17 => ?_)
        rw [show h1 9 2 = sE σ from L1.2.1.trans h2]
        refine z_icmp_ge 47 dX1_addChain_20 (by decide) (by omega) (by omega) (fun c20 => ?_) (fun c20 => ?_)
        · refine z_aload_n dX1_addChain_47 rfl ?_
          refine z_dup dX1_addChain_48 rfl ?_
          refine z_getI fX1_22 dX1_addChain_49 (by decide) rfl rfl (fun r49 => ?_)
          rw [show h1 9 3 = sF σ from L1.2.2.1.trans h3]
          refine z_iconst dX1_addChain_52 ?_
          refine z_iadd dX1_addChain_53 ?_
          refine z_putI pX1_22 dX1_addChain_54 (by decide) rfl rfl (by omega) ?_
          exact z_return dX1_addChain_57 rfl (hQ _ _ ⟨rfl, ⟨h1, by rw [show sE σ = i from by omega]; exact L1, rfl⟩⟩)
        · refine z_aload_n dX1_addChain_23 rfl ?_
          refine z_getR fX1_11 dX1_addChain_24 (by decide) rfl rfl ?_
          refine z_iload_n dX1_addChain_27 rfl ?_
          refine z_aaloadJ dX1_addChain_28 (by decide) rfl (by omega) (by omega) (by decide) ?_
          have hi6 : i < 6 := by omega
          rw [show 11 + ((i : Nat) : Int).toNat = 11 + i from rfl]
          have b3 := W.2.2.2.2.2 c i hc (by omega)
          refine z_aload_n dX1_addChain_29 rfl ?_
          refine z_getI fX1_22 dX1_addChain_30 (by decide) rfl rfl (fun r30 => ?_)
          rw [show h1 9 3 = sF σ from L1.2.2.1.trans h3]
          refine z_aload_n dX1_addChain_33 rfl ?_
          refine z_iload_n dX1_addChain_34 rfl ?_
          refine z_iload_n dX1_addChain_35 rfl ?_
          refine z_callV_eI (M := mX1_addChain) [_, _] tX0_numberAt kX1_50 dX1_addChain_36 ⟨by decide, rfl, _, _, rfl⟩ ⟨by decide, by decide⟩ rfl (Nat.le_of_ble_eq_true rfl) rfl (s_X0_numberAt isC1 W.wb (by rw [show 1 + 1 = 2 from rfl, L1.1 2 (by decide) (Or.inl (by decide))]; exact C) hc (e := i) (by omega)) ?_
          refine z_i2l dX1_addChain_39 (by omega) ?_
          refine z_lastore dX1_addChain_40 (by omega) (shpG hi6) (by omega) (by omega) (by first | decide | omega) (by omega) ?_
          refine z_iinc dX1_addChain_41 rfl (by decide) rfl ?_
          refine z_goto 15 dX1_addChain_44 (by decide) ?_
          exact ih15 (i + 1) _ (by omega) (L1.put hi6 rfl) (by omega)
    exact loop15 _ 0 h (by omega) ⟨fun _ _ _ => rfl, rfl, rfl, fun i' h1 => absurd h1 (Nat.not_lt_zero _), fun i' j' _ => rfl⟩ (Nat.lt_succ_self _)
  · have c9 := bi_eq.mp c9
    exact absurd ⟨by omega, by omega⟩ c9

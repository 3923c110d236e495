set_option maxRecDepth 100000 in
set_option maxHeartbeats 4000000 in
theorem c_L_told {g : GG} {h : HH} {σ : SG} (W : WF σ) (C : RC (h 2) σ) {as : List SG} (R : RA h as) (h51 : h 5 1 = 0) (Zc : ZC (h 47) σ) (h3 : h 47 3 = as.length) (Cc : CC (h 48) σ) (h0 : 0 < sP σ) : CeI mL_told g [vr 0, vr 47, vr 48] h 1 := by
  refine cn_q (lv := [vr 0, vr 47, vr 48, vx, vx, vx, vx, vx]) tL_told.1 rfl rfl (fun hR Q hQ => ?_)
  have w1 := W.1
  have w2 := W.2.1
  have w3 := W.2.2.1
  have h8 := R.1
  have ct := c_cnt (g := g) W C R (n := 0) h51
  refine z_aload_n dL_told_0 rfl ?_
  refine z_iconst dL_told_1 ?_
  refine z_callV_eI (M := mL_told) [_] tX5_count kL_73 dL_told_2 ⟨by decide, rfl, _, _, rfl⟩ ⟨by decide, by decide⟩ rfl (Nat.le_of_ble_eq_true rfl) rfl ct.1 ?_
  refine z_aload_n dL_told_5 rfl ?_
  refine z_iconst dL_told_6 ?_
  refine z_iaload dL_told_7 (by decide) rfl (by omega) (by omega) (by first | decide | omega) (fun r7 => ?_)
  rw [show h 47 (Int.toNat 0) = sP σ from Zc.1]
  refine z_icmp_ne 84 dL_told_8 (by decide) (by omega) (by omega) (fun c8 => ?_) (fun c8 => ?_)
  · exact absurd rfl c8
  · refine z_aload_n dL_told_11 rfl ?_
    refine z_iconst dL_told_12 ?_
    refine z_callV_eI (M := mL_told) [_] tX5_count kL_73 dL_told_13 ⟨by decide, rfl, _, _, rfl⟩ ⟨by decide, by decide⟩ rfl (Nat.le_of_ble_eq_true rfl) rfl ct.2.1 ?_
    refine z_aload_n dL_told_16 rfl ?_
    refine z_iconst dL_told_17 ?_
    refine z_iaload dL_told_18 (by decide) rfl (by omega) (by omega) (by first | decide | omega) (fun r18 => ?_)
    rw [show h 47 (Int.toNat 1) = sE σ from Zc.2.1]
    refine z_icmp_ne 84 dL_told_19 (by decide) (by omega) (by omega) (fun c19 => ?_) (fun c19 => ?_)
    · exact absurd rfl c19
    · refine z_aload_n dL_told_22 rfl ?_
      refine z_iconst dL_told_23 ?_
      refine z_callV_eI (M := mL_told) [_] tX5_count kL_73 dL_told_24 ⟨by decide, rfl, _, _, rfl⟩ ⟨by decide, by decide⟩ rfl (Nat.le_of_ble_eq_true rfl) rfl ct.2.2.1 ?_
      refine z_aload_n dL_told_27 rfl ?_
      refine z_iconst dL_told_28 ?_
      refine z_iaload dL_told_29 (by decide) rfl (by omega) (by omega) (by first | decide | omega) (fun r29 => ?_)
      rw [show h 47 (Int.toNat 2) = sF σ from Zc.2.2.1]
      refine z_icmp_ne 84 dL_told_30 (by decide) (by omega) (by omega) (fun c30 => ?_) (fun c30 => ?_)
      · exact absurd rfl c30
      · refine z_aload_n dL_told_33 rfl ?_
        refine z_iconst dL_told_34 ?_
        refine z_callV_eI (M := mL_told) [_] tX5_count kL_73 dL_told_35 ⟨by decide, rfl, _, _, rfl⟩ ⟨by decide, by decide⟩ rfl (Nat.le_of_ble_eq_true rfl) rfl ct.2.2.2.1 ?_
        refine z_aload_n dL_told_38 rfl ?_
        refine z_iconst dL_told_39 ?_
        refine z_iaload dL_told_40 (by decide) rfl (by omega) (by omega) (by first | decide | omega) (fun r40 => ?_)
        rw [show h 47 (Int.toNat 3) = as.length from h3]
        refine z_icmp_ne 84 dL_told_41 (by decide) (by omega) (by omega) (fun c41 => ?_) (fun c41 => ?_)
        · exact absurd rfl c41
        · refine z_aload_n dL_told_44 rfl ?_
          refine z_iconst dL_told_45 ?_
          refine z_callV_eI (M := mL_told) [_] tX5_count kL_73 dL_told_46 ⟨by decide, rfl, _, _, rfl⟩ ⟨by decide, by decide⟩ rfl (Nat.le_of_ble_eq_true rfl) rfl ct.2.2.2.2 ?_
          refine z_if_ne 84 dL_told_49 (by decide) (by omega) (fun c49 => ?_) (fun c49 => ?_)
          · exact absurd rfl c49
          · refine z_aload_n dL_told_52 rfl ?_
            refine z_iconst dL_told_53 ?_
            refine z_aload_n dL_told_54 rfl ?_
            refine z_iconst dL_told_55 ?_
            refine z_iaload dL_told_56 (by decide) rfl (by omega) (by omega) (by first | decide | omega) (fun r56 => ?_)
            rw [show h 47 (Int.toNat 0) = sP σ from Zc.1]
            refine z_iconst dL_told_57 ?_
            refine z_callV_eI (M := mL_told) [_, _, _] tX5_table kL_76 dL_told_58 ⟨by decide, rfl, _, _, rfl⟩ ⟨by decide, by decide⟩ rfl (Nat.le_of_ble_eq_true rfl) rfl (c_X5_tableO1 W C (by omega) (by decide) (by omega)) ?_
            refine z_ldc (-1000001) dL_told_61 qL_80 rfl ?_
            refine z_icmp_ne 84 dL_told_63 (by decide) (by decide) (by decide) (fun c63 => ?_) (fun c63 => ?_)
            · exact absurd rfl c63
            · refine z_aload_n dL_told_66 rfl ?_
              refine z_iconst dL_told_67 ?_
              refine z_iconst dL_told_68 ?_
              refine z_aload_n dL_told_69 rfl ?_
              refine z_iconst dL_told_70 ?_
              refine z_iaload dL_told_71 (by decide) rfl (by omega) (by omega) (by first | decide | omega) (fun r71 => ?_)
              rw [show h 47 (Int.toNat 2) = sF σ from Zc.2.2.1]
              refine z_callV_eI (M := mL_told) [_, _, _] tX5_table kL_76 dL_told_72 ⟨by decide, rfl, _, _, rfl⟩ ⟨by decide, by decide⟩ rfl (Nat.le_of_ble_eq_true rfl) rfl (c_X5_tableO2 W C (by decide) (by omega) (by omega)) ?_
              refine z_ldc (-1000001) dL_told_75 qL_80 rfl ?_
              refine z_icmp_ne 84 dL_told_77 (by decide) (by decide) (by decide) (fun c77 => ?_) (fun c77 => ?_)
              · exact absurd rfl c77
              · refine z_iconst dL_told_80 ?_
                refine z_goto 85 dL_told_81 (by decide) ?_
                refine z_istore_n dL_told_85 (by decide) rfl ?_
                refine z_iconst dL_told_86 ?_
                refine z_istore dL_told_87 (by decide) rfl ?_
                have loop89 : ∀ (nL9 : Nat) (e : Nat), (e ≤ sE σ) → sE σ - e < nL9 → Z mL_told g 89 [vr 0, vr 47, vr 48, vi 1, vi (e : Int), vx, vx, vx] [] h Q := by
                  intro nL9
                  induction nL9 with
                  | zero => intro e he hnL9; exact absurd hnL9 (Nat.not_lt_zero _)
                  | succ nL9 ih89 =>
                    intro e he hnL9
                    refine z_iload dL_told_89 rfl ?_
                    refine z_aload_n dL_told_91 rfl ?_
                    refine z_iconst dL_told_92 ?_
                    refine z_iaload dL_told_93 (by decide) rfl (by omega) (by omega) (by first | decide | omega) (fun r93 => ?_)
                    rw [show h 47 (Int.toNat 1) = sE σ from Zc.2.1]
                    refine z_icmp_ge 371 dL_told_94 (by decide) (by omega) (by omega) (fun c94 => ?_) (fun c94 => ?_)
                    · refine z_iconst dL_told_371 ?_
                      refine z_istore dL_told_372 (by decide) rfl ?_
                      have loop374 : ∀ (nL9 : Nat) (f : Nat), (f ≤ sF σ) → sF σ - f < nL9 → Z mL_told g 374 [vr 0, vr 47, vr 48, vi 1, vi (f : Int), vx, vx, vx] [] h Q := by
                        intro nL9
                        induction nL9 with
                        | zero => intro f hf hnL9; exact absurd hnL9 (Nat.not_lt_zero _)
                        | succ nL9 ih374 =>
                          intro f hf hnL9
                          refine z_iload dL_told_374 rfl ?_
                          refine z_aload_n dL_told_376 rfl ?_
                          refine z_iconst dL_told_377 ?_
                          refine z_iaload dL_told_378 (by decide) rfl (by omega) (by omega) (by first | decide | omega) (fun r378 => ?_)
                          rw [show h 47 (Int.toNat 2) = sF σ from Zc.2.2.1]
                          refine z_icmp_ge 695 dL_told_379 (by decide) (by omega) (by omega) (fun c379 => ?_) (fun c379 => ?_)
                          · refine z_iconst dL_told_695 ?_
                            refine z_istore dL_told_696 (by decide) rfl ?_
                            have loop698 : ∀ (nL9 : Nat) (k : Nat), (k ≤ 3 * sP σ) → 3 * sP σ - k < nL9 → Z mL_told g 698 [vr 0, vr 47, vr 48, vi 1, vi (k : Int), vx, vx, vx] [] h Q := by
                              intro nL9
                              induction nL9 with
                              | zero => intro k hk hnL9; exact absurd hnL9 (Nat.not_lt_zero _)
                              | succ nL9 ih698 =>
                                intro k hk hnL9
                                refine z_iload dL_told_698 rfl ?_
                                refine z_iconst dL_told_700 ?_
                                refine z_aload_n dL_told_701 rfl ?_
                                refine z_iconst dL_told_702 ?_
                                refine z_iaload dL_told_703 (by decide) rfl (by omega) (by omega) (by first | decide | omega) (fun r703 => ?_)
                                rw [show h 47 (Int.toNat 0) = sP σ from Zc.1]
                                refine z_imul dL_told_704 ?_
                                have sp3 : 3 * sP σ ≤ 15 := by omega
                                refine z_icmp_ge 844 dL_told_705 (by decide) (by omega) (by omega) (fun c705 => ?_) (fun c705 => ?_)
                                · refine z_iload_n dL_told_844 rfl ?_
                                  exact z_zreturn dL_told_845 rfl (by first | exact Or.inl rfl | exact Or.inr rfl | exact bi_01 _ | omega) (hQ _ _ ⟨_, rfl, rfl, rfl⟩)
                                · refine z_iload_n dL_told_708 rfl ?_
                                  refine z_if_eq 844 dL_told_709 (by decide) (by omega) (fun c709 => ?_) (fun c709 => ?_)
                                  · omega
                                  · have kz : (0 : Int) ≤ ((k / sP σ : Nat) : Int) := Int.natCast_nonneg _
                                    have kd : k / sP σ < 3 := Nat.div_lt_of_lt_mul (by rw [Nat.mul_comm]; omega)
                                    have km := Nat.mod_lt k h0
                                    refine z_iconst dL_told_712 ?_
                                    refine z_istore dL_told_713 (by decide) rfl ?_
                                    refine z_iconst dL_told_715 ?_
                                    refine z_istore dL_told_716 (by decide) rfl ?_
                                    have loop718 : ∀ (nL9 : Nat) (e : Nat), (e ≤ sE σ) → sE σ - e < nL9 → Z mL_told g 718 [vr 0, vr 47, vr 48, vi 1, vi (k : Int), vi (sI e (bd σ (k / sP σ) (k % sP σ))), vi (e : Int), vx] [] h Q := by
                                      intro nL9
                                      induction nL9 with
                                      | zero => intro e he hnL9; exact absurd hnL9 (Nat.not_lt_zero _)
                                      | succ nL9 ih718 =>
                                        intro e he hnL9
                                        refine z_iload dL_told_718 rfl ?_
                                        refine z_aload_n dL_told_720 rfl ?_
                                        refine z_iconst dL_told_721 ?_
                                        refine z_iaload dL_told_722 (by decide) rfl (by omega) (by omega) (by first | decide | omega) (fun r722 => ?_)
                                        rw [show h 47 (Int.toNat 1) = sE σ from Zc.2.1]
                                        refine z_icmp_ge 764 dL_told_723 (by decide) (by omega) (by omega) (fun c723 => ?_) (fun c723 => ?_)
                                        · refine z_aload_n dL_told_764 rfl ?_
                                          refine z_iload dL_told_765 rfl ?_
                                          refine z_aload_n dL_told_767 rfl ?_
                                          refine z_iconst dL_told_768 ?_
                                          refine z_iaload dL_told_769 (by decide) rfl (by omega) (by omega) (by first | decide | omega) (fun r769 => ?_)
                                          rw [show h 47 (Int.toNat 0) = sP σ from Zc.1]
                                          refine z_idiv dL_told_770 (by omega) (by omega) (by omega) ?_
                                          rw [show (k : Int).tdiv (sP σ : Int) = ((k / sP σ : Nat) : Int) from rfl]
                                          refine z_iload dL_told_771 rfl ?_
                                          refine z_aload_n dL_told_773 rfl ?_
                                          refine z_iconst dL_told_774 ?_
                                          refine z_iaload dL_told_775 (by decide) rfl (by omega) (by omega) (by first | decide | omega) (fun r775 => ?_)
                                          rw [show h 47 (Int.toNat 0) = sP σ from Zc.1]
                                          refine z_irem dL_told_776 (by omega) (by omega) (by omega) ?_
                                          rw [show (k : Int).tmod (sP σ : Int) = ((k % sP σ : Nat) : Int) from rfl]
                                          refine z_callV_eI (M := mL_told) [_, _] tX5_ends kL_90 dL_told_777 ⟨by decide, rfl, _, _, rfl⟩ ⟨by decide, by decide⟩ rfl (Nat.le_of_ble_eq_true rfl) rfl (c_X5_ends1 W C kd km) ?_
                                          have er := ends_r W kd (p := k % sP σ)
                                          rw [show e = sE σ by omega, show sI (sE σ) (bd σ (k / sP σ) (k % sP σ)) = ends σ (k / sP σ) (k % sP σ) from rfl]
                                          refine z_iload dL_told_780 rfl ?_
                                          refine z_icmp_ne 836 dL_told_782 (by decide) (by omega) (by omega) (fun c782 => ?_) (fun c782 => ?_)
                                          · exact absurd rfl c782
                                          · refine z_iload dL_told_785 rfl ?_
                                            refine z_aload_n dL_told_787 rfl ?_
                                            refine z_iconst dL_told_788 ?_
                                            refine z_iaload dL_told_789 (by decide) rfl (by omega) (by omega) (by first | decide | omega) (fun r789 => ?_)
                                            rw [show h 47 (Int.toNat 0) = sP σ from Zc.1]
                                            refine z_icmp_ge 832 dL_told_790 (by decide) (by omega) (by omega) (fun c790 => ?_) (fun c790 => ?_)
                                            · refine z_iconst dL_told_832 ?_
                                              refine z_goto 837 dL_told_833 (by decide) ?_
                                              refine z_istore_n dL_told_837 (by decide) rfl ?_
                                              refine z_iinc dL_told_838 rfl (by decide) rfl ?_
                                              refine z_goto 698 dL_told_841 (by decide) ?_
                                              refine z_forget 5 ?_
                                              refine z_forget 6 ?_
                                              rw [show (k : Int) + 1 = ((k + 1 : Nat) : Int) by omega]
                                              exact ih698 (k + 1) (by omega) (by omega)
                                            · refine z_aload_n dL_told_793 rfl ?_
                                              refine z_iconst dL_told_794 ?_
                                              refine z_iload dL_told_795 rfl ?_
                                              refine z_iconst dL_told_797 ?_
                                              refine z_callV_pI (M := mL_told) [_, _, _] tX5_as kL_83 dL_told_798 ⟨by decide, rfl, _, _, rfl⟩ ⟨by decide, by decide⟩ rfl (Nat.le_of_ble_eq_true rfl) rfl (c_as0 W C (c := k) (by omega)).1 (fun z798 q798 => ?_)
                                              refine z_iload dL_told_801 rfl ?_
                                              refine z_icmp_ne 836 dL_told_803 (by decide) (by omega) (by omega) (fun c803 => ?_) (fun c803 => ?_)
                                              · omega
                                              · refine z_aload_n dL_told_806 rfl ?_
                                                refine z_iconst dL_told_807 ?_
                                                refine z_iload dL_told_808 rfl ?_
                                                refine z_iconst dL_told_810 ?_
                                                refine z_callV_pI (M := mL_told) [_, _, _] tX5_as kL_83 dL_told_811 ⟨by decide, rfl, _, _, rfl⟩ ⟨by decide, by decide⟩ rfl (Nat.le_of_ble_eq_true rfl) rfl (c_as0 W C (c := k) (by omega)).2.1 (fun z811 q811 => ?_)
                                                refine z_iload dL_told_814 rfl ?_
                                                refine z_icmp_ne 836 dL_told_816 (by decide) (by omega) (by omega) (fun c816 => ?_) (fun c816 => ?_)
                                                · omega
                                                · refine z_aload_n dL_told_819 rfl ?_
                                                  refine z_iconst dL_told_820 ?_
                                                  refine z_iload dL_told_821 rfl ?_
                                                  refine z_iconst dL_told_823 ?_
                                                  refine z_callV_pI (M := mL_told) [_, _, _] tX5_as kL_83 dL_told_824 ⟨by decide, rfl, _, _, rfl⟩ ⟨by decide, by decide⟩ rfl (Nat.le_of_ble_eq_true rfl) rfl (c_as0 W C (c := k) (by omega)).2.2 (fun z824 q824 => ?_)
                                                  refine z_ldc (-1000000) dL_told_827 qL_86 rfl ?_
                                                  refine z_icmp_ne 836 dL_told_829 (by decide) (by rw [q824]; decide) (by decide) (fun c829 => ?_) (fun c829 => ?_)
                                                  · exact absurd q824 c829
                                                  · refine z_iconst dL_told_832 ?_
                                                    refine z_goto 837 dL_told_833 (by decide) ?_
                                                    refine z_istore_n dL_told_837 (by decide) rfl ?_
                                                    refine z_iinc dL_told_838 rfl (by decide) rfl ?_
                                                    refine z_goto 698 dL_told_841 (by decide) ?_
                                                    refine z_forget 5 ?_
                                                    refine z_forget 6 ?_
                                                    rw [show (k : Int) + 1 = ((k + 1 : Nat) : Int) by omega]
                                                    exact ih698 (k + 1) (by omega) (by omega)
                                        · refine z_iload dL_told_726 rfl ?_
                                          refine z_aload_n dL_told_728 rfl ?_
                                          refine z_bipush dL_told_729 (by decide) ?_
                                          refine z_iload dL_told_731 rfl ?_
                                          refine z_aload_n dL_told_733 rfl ?_
                                          refine z_iconst dL_told_734 ?_
                                          refine z_iaload dL_told_735 (by decide) rfl (by omega) (by omega) (by first | decide | omega) (fun r735 => ?_)
                                          rw [show h 47 (Int.toNat 0) = sP σ from Zc.1]
                                          refine z_idiv dL_told_736 (by omega) (by omega) (by omega) ?_
                                          rw [show (k : Int).tdiv (sP σ : Int) = ((k / sP σ : Nat) : Int) from rfl]
                                          refine z_imul dL_told_737 ?_
                                          refine z_iload dL_told_738 rfl ?_
                                          refine z_iadd dL_told_740 ?_
                                          refine z_iaload dL_told_741 (by decide) rfl (by omega) (by omega) (by first | decide | omega) (fun r741 => ?_)
                                          rw [cc_ch Cc kd (show e < sE σ by omega) (z := 6 * ((k / sP σ : Nat) : Int) + (e : Int)) rfl]
                                          refine z_aload_n dL_told_742 rfl ?_
                                          refine z_iload dL_told_743 rfl ?_
                                          refine z_aload_n dL_told_745 rfl ?_
                                          refine z_iconst dL_told_746 ?_
                                          refine z_iaload dL_told_747 (by decide) rfl (by omega) (by omega) (by first | decide | omega) (fun r747 => ?_)
                                          rw [show h 47 (Int.toNat 0) = sP σ from Zc.1]
                                          refine z_irem dL_told_748 (by omega) (by omega) (by omega) ?_
                                          rw [show (k : Int).tmod (sP σ : Int) = ((k % sP σ : Nat) : Int) from rfl]
                                          refine z_iload dL_told_749 rfl ?_
                                          refine z_callS_eI (M := mL_told) [_, _, _] tL_one kL_9 dL_told_751 ⟨by decide, by decide⟩ rfl (Nat.le_of_ble_eq_true rfl) rfl (c_L_one W Zc (p := k % sP σ) (e := e) (by omega) (by omega)) ?_
                                          refine z_imul dL_told_754 ?_
                                          refine z_iadd dL_told_755 ?_
                                          refine z_istore dL_told_756 (by decide) rfl ?_
                                          refine z_iinc dL_told_758 rfl (by decide) rfl ?_
                                          refine z_goto 718 dL_told_761 (by decide) ?_
                                          rw [show sI e (bd σ (k / sP σ) (k % sP σ)) + sch σ (k / sP σ) e * ent1 σ (k % sP σ) e = sI (e + 1) (bd σ (k / sP σ) (k % sP σ)) from rfl]
                                          rw [show (e : Int) + 1 = ((e + 1 : Nat) : Int) by omega]
                                          exact ih718 (e + 1) (by omega) (by omega)
                                    exact loop718 _ 0 (by omega) (Nat.lt_succ_self _)
                            exact loop698 _ 0 (Nat.zero_le _) (Nat.lt_succ_self _)
                          · refine z_iload_n dL_told_382 rfl ?_
                            refine z_if_eq 695 dL_told_383 (by decide) (by omega) (fun c383 => ?_) (fun c383 => ?_)
                            · omega
                            · have hf2 : f < sF σ := by omega
                              obtain ⟨x1, x2, x3, x4, x5, x6, x7⟩ := W.2.2.2.2.1 f hf2
                              have cf := c_cel2 (g := g) W C hf2
                              refine z_aload_n dL_told_386 rfl ?_
                              refine z_bipush dL_told_387 (by decide) ?_
                              refine z_bipush dL_told_389 (by decide) ?_
                              refine z_iload dL_told_391 rfl ?_
                              refine z_imul dL_told_393 ?_
                              refine z_iadd dL_told_394 ?_
                              refine z_iaload dL_told_395 (by decide) rfl (by omega) (by omega) (by first | decide | omega) (fun r395 => ?_)
                              rw [zc_wl Zc hf2 (z := 23 + 6 * (f : Int)) rfl]
                              refine z_istore dL_told_396 (by decide) rfl ?_
                              refine z_iconst dL_told_398 ?_
                              refine z_istore dL_told_399 (by decide) rfl ?_
                              refine z_iconst dL_told_401 ?_
                              refine z_istore dL_told_402 (by decide) rfl ?_
                              have loop404 : ∀ (nL9 : Nat) (e : Nat), (e ≤ sE σ) → sE σ - e < nL9 → Z mL_told g 404 [vr 0, vr 47, vr 48, vi 1, vi (f : Int), vi (swl σ f : Int), vi (bi (∀ x, x < e → ent2 σ x f = 0)), vi (e : Int)] [] h Q := by
                                intro nL9
                                induction nL9 with
                                | zero => intro e he hnL9; exact absurd hnL9 (Nat.not_lt_zero _)
                                | succ nL9 ih404 =>
                                  intro e he hnL9
                                  refine z_iload dL_told_404 rfl ?_
                                  refine z_aload_n dL_told_406 rfl ?_
                                  refine z_iconst dL_told_407 ?_
                                  refine z_iaload dL_told_408 (by decide) rfl (by omega) (by omega) (by first | decide | omega) (fun r408 => ?_)
                                  rw [show h 47 (Int.toNat 1) = sE σ from Zc.2.1]
                                  refine z_icmp_ge 471 dL_told_409 (by decide) (by omega) (by omega) (fun c409 => ?_) (fun c409 => ?_)
                                  · rw [show e = sE σ by omega]
                                    refine z_iload_n dL_told_471 rfl ?_
                                    refine z_if_eq 552 dL_told_472 (by decide) (by omega) (fun c472 => ?_) (fun c472 => ?_)
                                    · omega
                                    · have b5 := bnd5 W (ssg σ f 0) (x5 0 (by omega))
                                      refine z_aload_n dL_told_475 rfl ?_
                                      refine z_iconst dL_told_476 ?_
                                      refine z_iload dL_told_477 rfl ?_
                                      refine z_iconst dL_told_479 ?_
                                      refine z_callV_eI (M := mL_told) [_, _, _] tX5_cell kL_81 dL_told_480 ⟨by decide, rfl, _, _, rfl⟩ ⟨by decide, by decide⟩ rfl (Nat.le_of_ble_eq_true rfl) rfl cf.1 ?_
                                      refine z_aload_n dL_told_483 rfl ?_
                                      refine z_bipush dL_told_484 (by decide) ?_
                                      refine z_bipush dL_told_486 (by decide) ?_
                                      refine z_iload dL_told_488 rfl ?_
                                      refine z_imul dL_told_490 ?_
                                      refine z_iadd dL_told_491 ?_
                                      refine z_iaload dL_told_492 (by decide) rfl (by omega) (by omega) (by first | decide | omega) (fun r492 => ?_)
                                      rw [zc_fw Zc hf2 (z := 22 + 6 * (f : Int)) rfl]
                                      refine z_icmp_ne 552 dL_told_493 (by decide) (by omega) (by omega) (fun c493 => ?_) (fun c493 => ?_)
                                      · exact absurd rfl c493
                                      · refine z_aload_n dL_told_496 rfl ?_
                                        refine z_iconst dL_told_497 ?_
                                        refine z_iload dL_told_498 rfl ?_
                                        refine z_iconst dL_told_500 ?_
                                        refine z_callV_eI (M := mL_told) [_, _, _] tX5_cell kL_81 dL_told_501 ⟨by decide, rfl, _, _, rfl⟩ ⟨by decide, by decide⟩ rfl (Nat.le_of_ble_eq_true rfl) rfl cf.2.1 ?_
                                        refine z_iload dL_told_504 rfl ?_
                                        refine z_icmp_ne 552 dL_told_506 (by decide) (by omega) (by omega) (fun c506 => ?_) (fun c506 => ?_)
                                        · exact absurd rfl c506
                                        · refine z_aload_n dL_told_509 rfl ?_
                                          refine z_iconst dL_told_510 ?_
                                          refine z_iload dL_told_511 rfl ?_
                                          refine z_iconst dL_told_513 ?_
                                          refine z_callV_eI (M := mL_told) [_, _, _] tX5_cell kL_81 dL_told_514 ⟨by decide, rfl, _, _, rfl⟩ ⟨by decide, by decide⟩ rfl (Nat.le_of_ble_eq_true rfl) rfl cf.2.2.1 ?_
                                          refine z_aload_n dL_told_517 rfl ?_
                                          refine z_aload_n dL_told_518 rfl ?_
                                          refine z_bipush dL_told_519 (by decide) ?_
                                          refine z_bipush dL_told_521 (by decide) ?_
                                          refine z_iload dL_told_523 rfl ?_
                                          refine z_imul dL_told_525 ?_
                                          refine z_iadd dL_told_526 ?_
                                          refine z_iaload dL_told_527 (by decide) rfl (by omega) (by omega) (by first | decide | omega) (fun r527 => ?_)
                                          rw [zc_lt Zc hf2 (j := 0) (by omega) (z := 24 + 6 * (f : Int)) (by omega)]
                                          refine z_callS_eI (M := mL_told) [_, _] tL_begin kL_49 dL_told_528 ⟨by decide, by decide⟩ rfl (Nat.le_of_ble_eq_true rfl) rfl (c_L_begin w2 Zc.ze (ssg σ f 0) (x5 0 (by omega))) ?_
                                          refine z_icmp_ne 552 dL_told_531 (by decide) (by have : bgn σ f 0 = bgE σ (sle σ f 0) (ssg σ f 0) := rfl; omega) (by omega) (fun c531 => ?_) (fun c531 => ?_)
                                          · exact absurd rfl c531
                                          · refine z_aload_n dL_told_534 rfl ?_
                                            refine z_iconst dL_told_535 ?_
                                            refine z_iload dL_told_536 rfl ?_
                                            refine z_bipush dL_told_538 (by decide) ?_
                                            refine z_callV_eI (M := mL_told) [_, _, _] tX5_cell kL_81 dL_told_540 ⟨by decide, rfl, _, _, rfl⟩ ⟨by decide, by decide⟩ rfl (Nat.le_of_ble_eq_true rfl) rfl cf.2.2.2 ?_
                                            refine z_ldc (-1000001) dL_told_543 qL_80 rfl ?_
                                            refine z_icmp_ne 552 dL_told_545 (by decide) (by decide) (by decide) (fun c545 => ?_) (fun c545 => ?_)
                                            · exact absurd rfl c545
                                            · refine z_iconst dL_told_548 ?_
                                              refine z_goto 553 dL_told_549 (by decide) ?_
                                              refine z_istore_n dL_told_553 (by decide) rfl ?_
                                              refine z_iconst dL_told_554 ?_
                                              refine z_istore dL_told_555 (by decide) rfl ?_
                                              have loop557 : ∀ (nL9 : Nat) (k : Nat), (k ≤ 4) → 4 - k < nL9 → Z mL_told g 557 [vr 0, vr 47, vr 48, vi 1, vi (f : Int), vi (swl σ f : Int), vi (bi (sld σ f)), vi (k : Int)] [] h Q := by
                                                intro nL9
                                                induction nL9 with
                                                | zero => intro k hk hnL9; exact absurd hnL9 (Nat.not_lt_zero _)
                                                | succ nL9 ih557 =>
                                                  intro k hk hnL9
                                                  refine z_iload dL_told_557 rfl ?_
                                                  refine z_iconst dL_told_559 ?_
                                                  refine z_icmp_ge 622 dL_told_560 (by decide) (by omega) (by omega) (fun c560 => ?_) (fun c560 => ?_)
                                                  · refine z_iconst dL_told_622 ?_
                                                    refine z_istore dL_told_623 (by decide) rfl ?_
                                                    have loop625 : ∀ (nL9 : Nat) (k : Nat), (k ≤ 6) → 6 - k < nL9 → Z mL_told g 625 [vr 0, vr 47, vr 48, vi 1, vi (f : Int), vi (swl σ f : Int), vi (bi (sld σ f)), vi (k : Int)] [] h Q := by
                                                      intro nL9
                                                      induction nL9 with
                                                      | zero => intro k hk hnL9; exact absurd hnL9 (Nat.not_lt_zero _)
                                                      | succ nL9 ih625 =>
                                                        intro k hk hnL9
                                                        refine z_iload dL_told_625 rfl ?_
                                                        refine z_bipush dL_told_627 (by decide) ?_
                                                        refine z_icmp_ge 689 dL_told_629 (by decide) (by omega) (by omega) (fun c629 => ?_) (fun c629 => ?_)
                                                        · refine z_iinc dL_told_689 rfl (by decide) rfl ?_
                                                          refine z_goto 374 dL_told_692 (by decide) ?_
                                                          refine z_forget 5 ?_
                                                          refine z_forget 6 ?_
                                                          refine z_forget 7 ?_
                                                          rw [show (f : Int) + 1 = ((f + 1 : Nat) : Int) by omega]
                                                          exact ih374 (f + 1) (by omega) (by omega)
                                                        · refine z_iload_n dL_told_632 rfl ?_
                                                          refine z_if_eq 689 dL_told_633 (by decide) (by omega) (fun c633 => ?_) (fun c633 => ?_)
                                                          · omega
                                                          · refine z_aload_n dL_told_636 rfl ?_
                                                            refine z_iconst dL_told_637 ?_
                                                            refine z_iload dL_told_638 rfl ?_
                                                            refine z_iload dL_told_640 rfl ?_
                                                            refine z_callV_pI (M := mL_told) [_, _, _] tX5_as kL_83 dL_told_642 ⟨by decide, rfl, _, _, rfl⟩ ⟨by decide, by decide⟩ rfl (Nat.le_of_ble_eq_true rfl) rfl (c_as2 W C hf2 (show k < 6 by omega)) (fun z642 q642 => ?_)
                                                            refine z_iload dL_told_645 rfl ?_
                                                            refine z_if_eq 667 dL_told_647 (by decide) (by omega) (fun c647 => ?_) (fun c647 => ?_)
                                                            · refine z_iload dL_told_667 rfl ?_
                                                              refine z_goto 674 dL_told_669 (by decide) ?_
                                                              refine z_icmp_ne 681 dL_told_674 (by decide) (by rcases q642 with q | q <;> rw [q.1] <;> first | decide | omega) (by first | decide | omega) (fun c674 => ?_) (fun c674 => ?_)
                                                              · rcases q642 with ⟨q, q2⟩ | ⟨q, q2⟩ <;> first | exact absurd q c674 | (exfalso; omega)
                                                              · refine z_iconst dL_told_677 ?_
                                                                refine z_goto 682 dL_told_678 (by decide) ?_
                                                                refine z_istore_n dL_told_682 (by decide) rfl ?_
                                                                refine z_iinc dL_told_683 rfl (by decide) rfl ?_
                                                                refine z_goto 625 dL_told_686 (by decide) ?_
                                                                rw [show (k : Int) + 1 = ((k + 1 : Nat) : Int) by omega]
                                                                exact ih625 (k + 1) (by omega) (by omega)
                                                            · refine z_iload dL_told_650 rfl ?_
                                                              refine z_iconst dL_told_652 ?_
                                                              refine z_icmp_eq 667 dL_told_653 (by decide) (by omega) (by omega) (fun c653 => ?_) (fun c653 => ?_)
                                                              · refine z_iload dL_told_667 rfl ?_
                                                                refine z_goto 674 dL_told_669 (by decide) ?_
                                                                refine z_icmp_ne 681 dL_told_674 (by decide) (by rcases q642 with q | q <;> rw [q.1] <;> first | decide | omega) (by first | decide | omega) (fun c674 => ?_) (fun c674 => ?_)
                                                                · rcases q642 with ⟨q, q2⟩ | ⟨q, q2⟩ <;> first | exact absurd q c674 | (exfalso; omega)
                                                                · refine z_iconst dL_told_677 ?_
                                                                  refine z_goto 682 dL_told_678 (by decide) ?_
                                                                  refine z_istore_n dL_told_682 (by decide) rfl ?_
                                                                  refine z_iinc dL_told_683 rfl (by decide) rfl ?_
                                                                  refine z_goto 625 dL_told_686 (by decide) ?_
                                                                  rw [show (k : Int) + 1 = ((k + 1 : Nat) : Int) by omega]
                                                                  exact ih625 (k + 1) (by omega) (by omega)
                                                              · refine z_iload dL_told_656 rfl ?_
                                                                refine z_iconst dL_told_658 ?_
                                                                refine z_icmp_ne 672 dL_told_659 (by decide) (by omega) (by omega) (fun c659 => ?_) (fun c659 => ?_)
                                                                · refine z_ldc (-1000000) dL_told_672 qL_86 rfl ?_
                                                                  refine z_icmp_ne 681 dL_told_674 (by decide) (by rcases q642 with q | q <;> rw [q.1] <;> first | decide | omega) (by first | decide | omega) (fun c674 => ?_) (fun c674 => ?_)
                                                                  · rcases q642 with ⟨q, q2⟩ | ⟨q, q2⟩ <;> first | exact absurd q c674 | (exfalso; omega)
                                                                  · refine z_iconst dL_told_677 ?_
                                                                    refine z_goto 682 dL_told_678 (by decide) ?_
                                                                    refine z_istore_n dL_told_682 (by decide) rfl ?_
                                                                    refine z_iinc dL_told_683 rfl (by decide) rfl ?_
                                                                    refine z_goto 625 dL_told_686 (by decide) ?_
                                                                    rw [show (k : Int) + 1 = ((k + 1 : Nat) : Int) by omega]
                                                                    exact ih625 (k + 1) (by omega) (by omega)
                                                                · refine z_iload dL_told_662 rfl ?_
                                                                  refine z_if_eq 672 dL_told_664 (by decide) (bi_r _) (fun c664 => ?_) (fun c664 => ?_)
                                                                  · have c664 : bi (sld σ f) = 0 := c664
                                                                    refine z_ldc (-1000000) dL_told_672 qL_86 rfl ?_
                                                                    refine z_icmp_ne 681 dL_told_674 (by decide) (by rcases q642 with q | q <;> rw [q.1] <;> first | decide | omega) (by first | decide | omega) (fun c674 => ?_) (fun c674 => ?_)
                                                                    · rcases q642 with ⟨q, q2⟩ | ⟨q, q2⟩ <;> first | exact absurd q c674 | (exfalso; omega)
                                                                    · refine z_iconst dL_told_677 ?_
                                                                      refine z_goto 682 dL_told_678 (by decide) ?_
                                                                      refine z_istore_n dL_told_682 (by decide) rfl ?_
                                                                      refine z_iinc dL_told_683 rfl (by decide) rfl ?_
                                                                      refine z_goto 625 dL_told_686 (by decide) ?_
                                                                      rw [show (k : Int) + 1 = ((k + 1 : Nat) : Int) by omega]
                                                                      exact ih625 (k + 1) (by omega) (by omega)
                                                                  · have c664 : bi (sld σ f) = 1 := (bi_01 _).resolve_left c664
                                                                    refine z_iload dL_told_667 rfl ?_
                                                                    refine z_goto 674 dL_told_669 (by decide) ?_
                                                                    refine z_icmp_ne 681 dL_told_674 (by decide) (by rcases q642 with q | q <;> rw [q.1] <;> first | decide | omega) (by first | decide | omega) (fun c674 => ?_) (fun c674 => ?_)
                                                                    · rcases q642 with ⟨q, q2⟩ | ⟨q, q2⟩ <;> first | exact absurd q c674 | (exfalso; omega)
                                                                    · refine z_iconst dL_told_677 ?_
                                                                      refine z_goto 682 dL_told_678 (by decide) ?_
                                                                      refine z_istore_n dL_told_682 (by decide) rfl ?_
                                                                      refine z_iinc dL_told_683 rfl (by decide) rfl ?_
                                                                      refine z_goto 625 dL_told_686 (by decide) ?_
                                                                      rw [show (k : Int) + 1 = ((k + 1 : Nat) : Int) by omega]
                                                                      exact ih625 (k + 1) (by omega) (by omega)
                                                    exact loop625 _ 0 (by omega) (Nat.lt_succ_self _)
                                                  · refine z_iload_n dL_told_563 rfl ?_
                                                    refine z_if_eq 622 dL_told_564 (by decide) (by omega) (fun c564 => ?_) (fun c564 => ?_)
                                                    · omega
                                                    · refine z_aload_n dL_told_567 rfl ?_
                                                      refine z_iconst dL_told_568 ?_
                                                      refine z_iload dL_told_569 rfl ?_
                                                      refine z_bipush dL_told_571 (by decide) ?_
                                                      refine z_iload dL_told_573 rfl ?_
                                                      refine z_iadd dL_told_575 ?_
                                                      refine z_callV_eI (M := mL_told) [_, _, _] tX5_cell kL_81 dL_told_576 ⟨by decide, rfl, _, _, rfl⟩ ⟨by decide, by decide⟩ rfl (Nat.le_of_ble_eq_true rfl) rfl (c_celL W C hf2 (show k < 4 by omega)) ?_
                                                      refine z_iload dL_told_579 rfl ?_
                                                      refine z_iload dL_told_581 rfl ?_
                                                      refine z_icmp_ge 605 dL_told_583 (by decide) (by omega) (by omega) (fun c583 => ?_) (fun c583 => ?_)
                                                      · refine z_ldc (-1000000) dL_told_605 qL_86 rfl ?_
                                                        refine z_icmp_ne 614 dL_told_607 (by decide) (by split <;> first | exact cod_b _ (by have := x5 k (by omega); omega) | decide) (by first | exact cod_b _ (by have := x5 k (by omega); omega) | decide) (fun c607 => ?_) (fun c607 => ?_)
                                                        · first | exact absurd (if_pos (by omega)) c607 | exact absurd (if_neg (by omega)) c607
                                                        · refine z_iconst dL_told_610 ?_
                                                          refine z_goto 615 dL_told_611 (by decide) ?_
                                                          refine z_istore_n dL_told_615 (by decide) rfl ?_
                                                          refine z_iinc dL_told_616 rfl (by decide) rfl ?_
                                                          refine z_goto 557 dL_told_619 (by decide) ?_
                                                          rw [show (k : Int) + 1 = ((k + 1 : Nat) : Int) by omega]
                                                          exact ih557 (k + 1) (by omega) (by omega)
                                                      · refine z_aload_n dL_told_586 rfl ?_
                                                        refine z_bipush dL_told_587 (by decide) ?_
                                                        refine z_bipush dL_told_589 (by decide) ?_
                                                        refine z_iload dL_told_591 rfl ?_
                                                        refine z_imul dL_told_593 ?_
                                                        refine z_iadd dL_told_594 ?_
                                                        refine z_iload dL_told_595 rfl ?_
                                                        refine z_iadd dL_told_597 ?_
                                                        refine z_iaload dL_told_598 (by decide) rfl (by omega) (by omega) (by first | decide | omega) (fun r598 => ?_)
                                                        rw [zc_lt Zc hf2 (j := k) (by omega) (z := 24 + 6 * (f : Int) + (k : Int)) rfl]
                                                        refine z_callS_eI (M := mL_told) [_] tL_code kL_55 dL_told_599 ⟨by decide, by decide⟩ rfl (Nat.le_of_ble_eq_true rfl) rfl (c_L_code (ssg σ f k) (by have := x5 k (by omega); omega)) ?_
                                                        refine z_goto 607 dL_told_602 (by decide) ?_
                                                        refine z_icmp_ne 614 dL_told_607 (by decide) (by split <;> first | exact cod_b _ (by have := x5 k (by omega); omega) | decide) (by first | exact cod_b _ (by have := x5 k (by omega); omega) | decide) (fun c607 => ?_) (fun c607 => ?_)
                                                        · first | exact absurd (if_pos (by omega)) c607 | exact absurd (if_neg (by omega)) c607
                                                        · refine z_iconst dL_told_610 ?_
                                                          refine z_goto 615 dL_told_611 (by decide) ?_
                                                          refine z_istore_n dL_told_615 (by decide) rfl ?_
                                                          refine z_iinc dL_told_616 rfl (by decide) rfl ?_
                                                          refine z_goto 557 dL_told_619 (by decide) ?_
                                                          rw [show (k : Int) + 1 = ((k + 1 : Nat) : Int) by omega]
                                                          exact ih557 (k + 1) (by omega) (by omega)
                                              exact loop557 _ 0 (by omega) (Nat.lt_succ_self _)
                                  · refine z_iload_n dL_told_412 rfl ?_
                                    refine z_if_eq 471 dL_told_413 (by decide) (by omega) (fun c413 => ?_) (fun c413 => ?_)
                                    · omega
                                    · have k437 : ∀ b : Int, b = bi (∀ x, x < e + 1 → ent2 σ x f = 0) → Z mL_told g 437 [vr 0, vr 47, vr 48, vi 1, vi (f : Int), vi (swl σ f : Int), vi (bi (∀ x, x < e → ent2 σ x f = 0)), vi (e : Int)] [vi b] h Q := by
                                        intro b hb
                                        rw [hb]
                                        refine z_istore dL_told_437 (by decide) rfl ?_
                                        refine z_aload_n dL_told_439 rfl ?_
                                        refine z_iconst dL_told_440 ?_
                                        refine z_iload dL_told_441 rfl ?_
                                        refine z_iload dL_told_443 rfl ?_
                                        refine z_callV_eI (M := mL_told) [_, _, _] tX5_table kL_76 dL_told_445 ⟨by decide, rfl, _, _, rfl⟩ ⟨by decide, by decide⟩ rfl (Nat.le_of_ble_eq_true rfl) rfl (c_X5_table2 W C (i := e) (by omega) hf2) ?_
                                        refine z_aload_n dL_told_448 rfl ?_
                                        refine z_iload dL_told_449 rfl ?_
                                        refine z_iload dL_told_451 rfl ?_
                                        refine z_callS_eI (M := mL_told) [_, _, _] tL_two kL_15 dL_told_453 ⟨by decide, by decide⟩ rfl (Nat.le_of_ble_eq_true rfl) rfl (c_L_two W Zc (e := e) (f := f) (by omega) hf2) ?_
                                        have e1 := ent2_r W hf2 (i := e)
                                        refine z_icmp_ne 463 dL_told_456 (by decide) (by omega) (by omega) (fun c456 => ?_) (fun c456 => ?_)
                                        · exact absurd rfl c456
                                        · refine z_iconst dL_told_459 ?_
                                          refine z_goto 464 dL_told_460 (by decide) ?_
                                          refine z_istore_n dL_told_464 (by decide) rfl ?_
                                          refine z_iinc dL_told_465 rfl (by decide) rfl ?_
                                          refine z_goto 404 dL_told_468 (by decide) ?_
                                          rw [show (e : Int) + 1 = ((e + 1 : Nat) : Int) by omega]
                                          exact ih404 (e + 1) (by omega) (by omega)
                                      refine z_iload dL_told_416 rfl ?_
                                      refine z_if_eq 436 dL_told_418 (by decide) (bi_r _) (fun c418 => ?_) (fun c418 => ?_)
                                      · have c418 := bi_eq.mp c418
                                        refine z_iconst dL_told_436 ?_
                                        exact k437 0 (bi_f fun q => c418 fun x hx => q x (by omega))
                                      · have c418 := bi_ne.mp c418
                                        refine z_aload_n dL_told_421 rfl ?_
                                        refine z_iload dL_told_422 rfl ?_
                                        refine z_iload dL_told_424 rfl ?_
                                        refine z_callS_eI (M := mL_told) [_, _, _] tL_two kL_15 dL_told_426 ⟨by decide, by decide⟩ rfl (Nat.le_of_ble_eq_true rfl) rfl (c_L_two W Zc (e := e) (f := f) (by omega) hf2) ?_
                                        have e1 := ent2_r W hf2 (i := e)
                                        refine z_if_ne 436 dL_told_429 (by decide) (by omega) (fun c429 => ?_) (fun c429 => ?_)
                                        · refine z_iconst dL_told_436 ?_
                                          exact k437 0 (bi_f fun q => c429 (q e (by omega)))
                                        · refine z_iconst dL_told_432 ?_
                                          refine z_goto 437 dL_told_433 (by decide) ?_
                                          exact k437 1 (bi_t fun x hx => by
                                            by_cases q : x = e
                                            · rw [q]; exact c429
                                            · exact c418 x (by omega))
                              have e9 := loop404 _ 0 (Nat.zero_le _) (Nat.lt_succ_self _)
                              rw [show bi (∀ x, x < 0 → ent2 σ x f = 0) = 1 from (bi_t fun x hx => absurd hx (Nat.not_lt_zero x)).symm] at e9
                              exact e9
                      exact loop374 _ 0 (by omega) (Nat.lt_succ_self _)
                    · refine z_iload_n dL_told_97 rfl ?_
                      refine z_if_eq 371 dL_told_98 (by decide) (by omega) (fun c98 => ?_) (fun c98 => ?_)
                      · omega
                      · have he2 : e < sE σ := by omega
                        have w4 := W.2.2.2.1 e he2
                        have ce := c_cel1 (g := g) W C he2
                        have k125 : Z mL_told g 125 [vr 0, vr 47, vr 48, vi 1, vi (e : Int), vx, vx, vx] [vi (bi (sfr σ e = sto σ e))] h Q := by
                          refine z_istore dL_told_125 (by decide) rfl ?_
                          refine z_aload_n dL_told_127 rfl ?_
                          refine z_iconst dL_told_128 ?_
                          refine z_iload dL_told_129 rfl ?_
                          refine z_iconst dL_told_131 ?_
                          refine z_callV_eI (M := mL_told) [_, _, _] tX5_cell kL_81 dL_told_132 ⟨by decide, rfl, _, _, rfl⟩ ⟨by decide, by decide⟩ rfl (Nat.le_of_ble_eq_true rfl) rfl ce.1 ?_
                          refine z_aload_n dL_told_135 rfl ?_
                          refine z_bipush dL_told_136 (by decide) ?_
                          refine z_iconst dL_told_138 ?_
                          refine z_iload dL_told_139 rfl ?_
                          refine z_imul dL_told_141 ?_
                          refine z_iadd dL_told_142 ?_
                          refine z_iaload dL_told_143 (by decide) rfl (by omega) (by omega) (by first | decide | omega) (fun r143 => ?_)
                          rw [zc_ew Zc he2 (z := 6 + 3 * (e : Int)) rfl]
                          refine z_icmp_ne 203 dL_told_144 (by decide) (by omega) (by omega) (fun c144 => ?_) (fun c144 => ?_)
                          · exact absurd rfl c144
                          · refine z_aload_n dL_told_147 rfl ?_
                            refine z_iconst dL_told_148 ?_
                            refine z_iload dL_told_149 rfl ?_
                            refine z_iconst dL_told_151 ?_
                            refine z_callV_eI (M := mL_told) [_, _, _] tX5_cell kL_81 dL_told_152 ⟨by decide, rfl, _, _, rfl⟩ ⟨by decide, by decide⟩ rfl (Nat.le_of_ble_eq_true rfl) rfl ce.2.1 ?_
                            refine z_aload_n dL_told_155 rfl ?_
                            refine z_iconst dL_told_156 ?_
                            refine z_iconst dL_told_157 ?_
                            refine z_iload dL_told_158 rfl ?_
                            refine z_imul dL_told_160 ?_
                            refine z_iadd dL_told_161 ?_
                            refine z_iaload dL_told_162 (by decide) rfl (by omega) (by omega) (by first | decide | omega) (fun r162 => ?_)
                            rw [zc_fr Zc he2 (z := 4 + 3 * (e : Int)) rfl]
                            refine z_icmp_ne 203 dL_told_163 (by decide) (by omega) (by omega) (fun c163 => ?_) (fun c163 => ?_)
                            · exact absurd rfl c163
                            · refine z_aload_n dL_told_166 rfl ?_
                              refine z_iconst dL_told_167 ?_
                              refine z_iload dL_told_168 rfl ?_
                              refine z_iconst dL_told_170 ?_
                              refine z_callV_eI (M := mL_told) [_, _, _] tX5_cell kL_81 dL_told_171 ⟨by decide, rfl, _, _, rfl⟩ ⟨by decide, by decide⟩ rfl (Nat.le_of_ble_eq_true rfl) rfl ce.2.2.1 ?_
                              refine z_aload_n dL_told_174 rfl ?_
                              refine z_iconst dL_told_175 ?_
                              refine z_iconst dL_told_176 ?_
                              refine z_iload dL_told_177 rfl ?_
                              refine z_imul dL_told_179 ?_
                              refine z_iadd dL_told_180 ?_
                              refine z_iaload dL_told_181 (by decide) rfl (by omega) (by omega) (by first | decide | omega) (fun r181 => ?_)
                              rw [zc_to Zc he2 (z := 5 + 3 * (e : Int)) rfl]
                              refine z_icmp_ne 203 dL_told_182 (by decide) (by omega) (by omega) (fun c182 => ?_) (fun c182 => ?_)
                              · exact absurd rfl c182
                              · refine z_aload_n dL_told_185 rfl ?_
                                refine z_iconst dL_told_186 ?_
                                refine z_iload dL_told_187 rfl ?_
                                refine z_bipush dL_told_189 (by decide) ?_
                                refine z_callV_eI (M := mL_told) [_, _, _] tX5_cell kL_81 dL_told_191 ⟨by decide, rfl, _, _, rfl⟩ ⟨by decide, by decide⟩ rfl (Nat.le_of_ble_eq_true rfl) rfl ce.2.2.2 ?_
                                refine z_ldc (-1000001) dL_told_194 qL_80 rfl ?_
                                refine z_icmp_ne 203 dL_told_196 (by decide) (by decide) (by decide) (fun c196 => ?_) (fun c196 => ?_)
                                · exact absurd rfl c196
                                · refine z_iconst dL_told_199 ?_
                                  refine z_goto 204 dL_told_200 (by decide) ?_
                                  refine z_istore_n dL_told_204 (by decide) rfl ?_
                                  refine z_iconst dL_told_205 ?_
                                  refine z_istore dL_told_206 (by decide) rfl ?_
                                  have loop208 : ∀ (nL9 : Nat) (k : Nat), (k ≤ 6) → 6 - k < nL9 → Z mL_told g 208 [vr 0, vr 47, vr 48, vi 1, vi (e : Int), vi (bi (sfr σ e = sto σ e)), vi (k : Int), vx] [] h Q := by
                                    intro nL9
                                    induction nL9 with
                                    | zero => intro k hk hnL9; exact absurd hnL9 (Nat.not_lt_zero _)
                                    | succ nL9 ih208 =>
                                      intro k hk hnL9
                                      refine z_iload dL_told_208 rfl ?_
                                      refine z_bipush dL_told_210 (by decide) ?_
                                      refine z_icmp_ge 272 dL_told_212 (by decide) (by omega) (by omega) (fun c212 => ?_) (fun c212 => ?_)
                                      · refine z_iconst dL_told_272 ?_
                                        refine z_istore dL_told_273 (by decide) rfl ?_
                                        have loop275 : ∀ (nL9 : Nat) (p : Nat), (p ≤ sP σ) → sP σ - p < nL9 → Z mL_told g 275 [vr 0, vr 47, vr 48, vi 1, vi (e : Int), vi (bi (sfr σ e = sto σ e)), vi (p : Int), vx] [] h Q := by
                                          intro nL9
                                          induction nL9 with
                                          | zero => intro p hp hnL9; exact absurd hnL9 (Nat.not_lt_zero _)
                                          | succ nL9 ih275 =>
                                            intro p hp hnL9
                                            refine z_iload dL_told_275 rfl ?_
                                            refine z_aload_n dL_told_277 rfl ?_
                                            refine z_iconst dL_told_278 ?_
                                            refine z_iaload dL_told_279 (by decide) rfl (by omega) (by omega) (by first | decide | omega) (fun r279 => ?_)
                                            rw [show h 47 (Int.toNat 0) = sP σ from Zc.1]
                                            refine z_icmp_ge 319 dL_told_280 (by decide) (by omega) (by omega) (fun c280 => ?_) (fun c280 => ?_)
                                            · refine z_iconst dL_told_319 ?_
                                              refine z_istore dL_told_320 (by decide) rfl ?_
                                              have loop322 : ∀ (nL9 : Nat) (k : Nat), (k ≤ 3) → 3 - k < nL9 → Z mL_told g 322 [vr 0, vr 47, vr 48, vi 1, vi (e : Int), vi (bi (sfr σ e = sto σ e)), vi (k : Int), vx] [] h Q := by
                                                intro nL9
                                                induction nL9 with
                                                | zero => intro k hk hnL9; exact absurd hnL9 (Nat.not_lt_zero _)
                                                | succ nL9 ih322 =>
                                                  intro k hk hnL9
                                                  refine z_iload dL_told_322 rfl ?_
                                                  refine z_iconst dL_told_324 ?_
                                                  refine z_icmp_ge 365 dL_told_325 (by decide) (by omega) (by omega) (fun c325 => ?_) (fun c325 => ?_)
                                                  · refine z_iinc dL_told_365 rfl (by decide) rfl ?_
                                                    refine z_goto 89 dL_told_368 (by decide) ?_
                                                    refine z_forget 5 ?_
                                                    refine z_forget 6 ?_
                                                    rw [show (e : Int) + 1 = ((e + 1 : Nat) : Int) by omega]
                                                    exact ih89 (e + 1) (by omega) (by omega)
                                                  · refine z_iload_n dL_told_328 rfl ?_
                                                    refine z_if_eq 365 dL_told_329 (by decide) (by omega) (fun c329 => ?_) (fun c329 => ?_)
                                                    · omega
                                                    · refine z_aload_n dL_told_332 rfl ?_
                                                      refine z_iload dL_told_333 rfl ?_
                                                      refine z_iload dL_told_335 rfl ?_
                                                      refine z_callV_eI (M := mL_told) [_, _] tX5_chain kL_87 dL_told_337 ⟨by decide, rfl, _, _, rfl⟩ ⟨by decide, by decide⟩ rfl (Nat.le_of_ble_eq_true rfl) rfl (c_X5_chain1 W C (c := k) (by omega) he2) ?_
                                                      refine z_aload_n dL_told_340 rfl ?_
                                                      refine z_bipush dL_told_341 (by decide) ?_
                                                      refine z_iload dL_told_343 rfl ?_
                                                      refine z_imul dL_told_345 ?_
                                                      refine z_iload dL_told_346 rfl ?_
                                                      refine z_iadd dL_told_348 ?_
                                                      refine z_iaload dL_told_349 (by decide) rfl (by omega) (by omega) (by first | decide | omega) (fun r349 => ?_)
                                                      rw [cc_ch Cc (show k < 3 by omega) he2 (z := 6 * (k : Int) + (e : Int)) rfl]
                                                      have cb := W.2.2.2.2.2 k e (by omega) he2
                                                      refine z_icmp_ne 357 dL_told_350 (by decide) (by omega) (by omega) (fun c350 => ?_) (fun c350 => ?_)
                                                      · exact absurd rfl c350
                                                      · refine z_iconst dL_told_353 ?_
                                                        refine z_goto 358 dL_told_354 (by decide) ?_
                                                        refine z_istore_n dL_told_358 (by decide) rfl ?_
                                                        refine z_iinc dL_told_359 rfl (by decide) rfl ?_
                                                        refine z_goto 322 dL_told_362 (by decide) ?_
                                                        rw [show (k : Int) + 1 = ((k + 1 : Nat) : Int) by omega]
                                                        exact ih322 (k + 1) (by omega) (by omega)
                                              exact loop322 _ 0 (by omega) (Nat.lt_succ_self _)
                                            · refine z_iload_n dL_told_283 rfl ?_
                                              refine z_if_eq 319 dL_told_284 (by decide) (by omega) (fun c284 => ?_) (fun c284 => ?_)
                                              · omega
                                              · refine z_aload_n dL_told_287 rfl ?_
                                                refine z_iconst dL_told_288 ?_
                                                refine z_iload dL_told_289 rfl ?_
                                                refine z_iload dL_told_291 rfl ?_
                                                refine z_callV_eI (M := mL_told) [_, _, _] tX5_table kL_76 dL_told_293 ⟨by decide, rfl, _, _, rfl⟩ ⟨by decide, by decide⟩ rfl (Nat.le_of_ble_eq_true rfl) rfl (c_X5_table1 W C (i := p) (by omega) he2) ?_
                                                refine z_aload_n dL_told_296 rfl ?_
                                                refine z_iload dL_told_297 rfl ?_
                                                refine z_iload dL_told_299 rfl ?_
                                                refine z_callS_eI (M := mL_told) [_, _, _] tL_one kL_9 dL_told_301 ⟨by decide, by decide⟩ rfl (Nat.le_of_ble_eq_true rfl) rfl (c_L_one W Zc (p := p) (e := e) (by omega) he2) ?_
                                                have e1 := ent1_r σ p e
                                                refine z_icmp_ne 311 dL_told_304 (by decide) (by omega) (by omega) (fun c304 => ?_) (fun c304 => ?_)
                                                · exact absurd rfl c304
                                                · refine z_iconst dL_told_307 ?_
                                                  refine z_goto 312 dL_told_308 (by decide) ?_
                                                  refine z_istore_n dL_told_312 (by decide) rfl ?_
                                                  refine z_iinc dL_told_313 rfl (by decide) rfl ?_
                                                  refine z_goto 275 dL_told_316 (by decide) ?_
                                                  rw [show (p : Int) + 1 = ((p + 1 : Nat) : Int) by omega]
                                                  exact ih275 (p + 1) (by omega) (by omega)
                                        exact loop275 _ 0 (by omega) (Nat.lt_succ_self _)
                                      · refine z_iload_n dL_told_215 rfl ?_
                                        refine z_if_eq 272 dL_told_216 (by decide) (by omega) (fun c216 => ?_) (fun c216 => ?_)
                                        · omega
                                        · refine z_aload_n dL_told_219 rfl ?_
                                          refine z_iconst dL_told_220 ?_
                                          refine z_iload dL_told_221 rfl ?_
                                          refine z_iload dL_told_223 rfl ?_
                                          refine z_callV_pI (M := mL_told) [_, _, _] tX5_as kL_83 dL_told_225 ⟨by decide, rfl, _, _, rfl⟩ ⟨by decide, by decide⟩ rfl (Nat.le_of_ble_eq_true rfl) rfl (c_as1 W C he2 (show k < 6 by omega)) (fun z225 q225 => ?_)
                                          refine z_iload dL_told_228 rfl ?_
                                          refine z_if_eq 250 dL_told_230 (by decide) (by omega) (fun c230 => ?_) (fun c230 => ?_)
                                          · refine z_iload dL_told_250 rfl ?_
                                            refine z_goto 257 dL_told_252 (by decide) ?_
                                            refine z_icmp_ne 264 dL_told_257 (by decide) (by rcases q225 with q | q <;> rw [q.1] <;> first | decide | omega) (by first | decide | omega) (fun c257 => ?_) (fun c257 => ?_)
                                            · rcases q225 with ⟨q, q2⟩ | ⟨q, q2⟩ <;> first | exact absurd q c257 | (exfalso; omega)
                                            · refine z_iconst dL_told_260 ?_
                                              refine z_goto 265 dL_told_261 (by decide) ?_
                                              refine z_istore_n dL_told_265 (by decide) rfl ?_
                                              refine z_iinc dL_told_266 rfl (by decide) rfl ?_
                                              refine z_goto 208 dL_told_269 (by decide) ?_
                                              rw [show (k : Int) + 1 = ((k + 1 : Nat) : Int) by omega]
                                              exact ih208 (k + 1) (by omega) (by omega)
                                          · refine z_iload dL_told_233 rfl ?_
                                            refine z_iconst dL_told_235 ?_
                                            refine z_icmp_eq 250 dL_told_236 (by decide) (by omega) (by omega) (fun c236 => ?_) (fun c236 => ?_)
                                            · refine z_iload dL_told_250 rfl ?_
                                              refine z_goto 257 dL_told_252 (by decide) ?_
                                              refine z_icmp_ne 264 dL_told_257 (by decide) (by rcases q225 with q | q <;> rw [q.1] <;> first | decide | omega) (by first | decide | omega) (fun c257 => ?_) (fun c257 => ?_)
                                              · rcases q225 with ⟨q, q2⟩ | ⟨q, q2⟩ <;> first | exact absurd q c257 | (exfalso; omega)
                                              · refine z_iconst dL_told_260 ?_
                                                refine z_goto 265 dL_told_261 (by decide) ?_
                                                refine z_istore_n dL_told_265 (by decide) rfl ?_
                                                refine z_iinc dL_told_266 rfl (by decide) rfl ?_
                                                refine z_goto 208 dL_told_269 (by decide) ?_
                                                rw [show (k : Int) + 1 = ((k + 1 : Nat) : Int) by omega]
                                                exact ih208 (k + 1) (by omega) (by omega)
                                            · refine z_iload dL_told_239 rfl ?_
                                              refine z_iconst dL_told_241 ?_
                                              refine z_icmp_ne 255 dL_told_242 (by decide) (by omega) (by omega) (fun c242 => ?_) (fun c242 => ?_)
                                              · refine z_ldc (-1000000) dL_told_255 qL_86 rfl ?_
                                                refine z_icmp_ne 264 dL_told_257 (by decide) (by rcases q225 with q | q <;> rw [q.1] <;> first | decide | omega) (by first | decide | omega) (fun c257 => ?_) (fun c257 => ?_)
                                                · rcases q225 with ⟨q, q2⟩ | ⟨q, q2⟩ <;> first | exact absurd q c257 | (exfalso; omega)
                                                · refine z_iconst dL_told_260 ?_
                                                  refine z_goto 265 dL_told_261 (by decide) ?_
                                                  refine z_istore_n dL_told_265 (by decide) rfl ?_
                                                  refine z_iinc dL_told_266 rfl (by decide) rfl ?_
                                                  refine z_goto 208 dL_told_269 (by decide) ?_
                                                  rw [show (k : Int) + 1 = ((k + 1 : Nat) : Int) by omega]
                                                  exact ih208 (k + 1) (by omega) (by omega)
                                              · refine z_iload dL_told_245 rfl ?_
                                                refine z_if_eq 255 dL_told_247 (by decide) (bi_r _) (fun c247 => ?_) (fun c247 => ?_)
                                                · have c247 := bi_eq.mp c247
                                                  refine z_ldc (-1000000) dL_told_255 qL_86 rfl ?_
                                                  refine z_icmp_ne 264 dL_told_257 (by decide) (by rcases q225 with q | q <;> rw [q.1] <;> first | decide | omega) (by first | decide | omega) (fun c257 => ?_) (fun c257 => ?_)
                                                  · rcases q225 with ⟨q, q2⟩ | ⟨q, q2⟩ <;> first | exact absurd q c257 | (exfalso; omega)
                                                  · refine z_iconst dL_told_260 ?_
                                                    refine z_goto 265 dL_told_261 (by decide) ?_
                                                    refine z_istore_n dL_told_265 (by decide) rfl ?_
                                                    refine z_iinc dL_told_266 rfl (by decide) rfl ?_
                                                    refine z_goto 208 dL_told_269 (by decide) ?_
                                                    rw [show (k : Int) + 1 = ((k + 1 : Nat) : Int) by omega]
                                                    exact ih208 (k + 1) (by omega) (by omega)
                                                · have c247 := bi_ne.mp c247
                                                  refine z_iload dL_told_250 rfl ?_
                                                  refine z_goto 257 dL_told_252 (by decide) ?_
                                                  refine z_icmp_ne 264 dL_told_257 (by decide) (by rcases q225 with q | q <;> rw [q.1] <;> first | decide | omega) (by first | decide | omega) (fun c257 => ?_) (fun c257 => ?_)
                                                  · rcases q225 with ⟨q, q2⟩ | ⟨q, q2⟩ <;> first | exact absurd q c257 | (exfalso; omega)
                                                  · refine z_iconst dL_told_260 ?_
                                                    refine z_goto 265 dL_told_261 (by decide) ?_
                                                    refine z_istore_n dL_told_265 (by decide) rfl ?_
                                                    refine z_iinc dL_told_266 rfl (by decide) rfl ?_
                                                    refine z_goto 208 dL_told_269 (by decide) ?_
                                                    rw [show (k : Int) + 1 = ((k + 1 : Nat) : Int) by omega]
                                                    exact ih208 (k + 1) (by omega) (by omega)
                                  exact loop208 _ 0 (by omega) (Nat.lt_succ_self _)
                        refine z_aload_n dL_told_101 rfl ?_
                        refine z_iconst dL_told_102 ?_
                        refine z_iconst dL_told_103 ?_
                        refine z_iload dL_told_104 rfl ?_
                        refine z_imul dL_told_106 ?_
                        refine z_iadd dL_told_107 ?_
                        refine z_iaload dL_told_108 (by decide) rfl (by omega) (by omega) (by first | decide | omega) (fun r108 => ?_)
                        rw [zc_fr Zc he2 (z := 4 + 3 * (e : Int)) rfl]
                        refine z_aload_n dL_told_109 rfl ?_
                        refine z_iconst dL_told_110 ?_
                        refine z_iconst dL_told_111 ?_
                        refine z_iload dL_told_112 rfl ?_
                        refine z_imul dL_told_114 ?_
                        refine z_iadd dL_told_115 ?_
                        refine z_iaload dL_told_116 (by decide) rfl (by omega) (by omega) (by first | decide | omega) (fun r116 => ?_)
                        rw [zc_to Zc he2 (z := 5 + 3 * (e : Int)) rfl]
                        refine z_icmp_ne 124 dL_told_117 (by decide) (by omega) (by omega) (fun c117 => ?_) (fun c117 => ?_)
                        · have c117 : ¬ sfr σ e = sto σ e := by omega
                          refine z_iconst dL_told_124 ?_
                          rw [show bi (sfr σ e = sto σ e) = 0 from (bi_f c117).symm] at k125
                          exact k125
                        · have c117 : sfr σ e = sto σ e := by omega
                          refine z_iconst dL_told_120 ?_
                          refine z_goto 125 dL_told_121 (by decide) ?_
                          rw [show bi (sfr σ e = sto σ e) = 1 from (bi_t c117).symm] at k125
                          exact k125
                exact loop89 _ 0 (by omega) (Nat.lt_succ_self _)

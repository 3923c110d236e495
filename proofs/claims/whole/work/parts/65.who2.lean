set_option maxRecDepth 100000 in
set_option maxHeartbeats 4000000 in
theorem c_X5_whole1 {g : GG} {h : HH} {σ : SG} (W : WF σ) (C : RC (h 2) σ) {c : Nat} (hc : c < 3) (h0 : 0 < sP σ) : CnI mX5_whole g [vr 0, vi (c : Int), vi 1] h (fun z h' => GF h h' ∧ ∃ o : Int, OrdP σ c o ∧ z = bi (o = 1)) := by
  refine cn_q (lv := [vr 0, vi (c : Int), vi 1, vx, vx]) tX5_whole.1 rfl rfl (fun hR Q hQ => ?_)
  refine z_aload_n dX5_whole_0 rfl ?_
  refine z_getR fX5_10 dX5_whole_1 (by decide) rfl rfl ?_
  refine z_callV_eI (M := mX5_whole) [] tX0_isThere kX5_123 dX5_whole_4 ⟨by decide, rfl, _, _, rfl⟩ ⟨by decide, by decide⟩ rfl (Nat.le_of_ble_eq_true rfl) rfl (s_X0_isThere isC1 C) ?_
  refine z_if_ne 13 dX5_whole_7 (by decide) (bi_r _) (fun c7 => ?_) (fun c7 => ?_)
  · have c7 := bi_ne.mp c7
    refine z_iload_n dX5_whole_13 rfl ?_
    refine z_callS_eI (M := mX5_whole) [_] tX5_isChain kX5_150 dX5_whole_14 ⟨by decide, by decide⟩ rfl (Nat.le_of_ble_eq_true rfl) rfl (c_X5_isChain (by omega)) ?_
    refine z_if_eq 29 dX5_whole_17 (by decide) (bi_r _) (fun c17 => ?_) (fun c17 => ?_)
    · have c17 := bi_eq.mp c17
      omega
    · have c17 := bi_ne.mp c17
      refine z_iload_n dX5_whole_20 rfl ?_
      refine z_if_lt 29 dX5_whole_21 (by decide) (by omega) (fun c21 => ?_) (fun c21 => ?_)
      · omega
      · refine z_iload_n dX5_whole_24 rfl ?_
        refine z_iconst dX5_whole_25 ?_
        refine z_icmp_le 32 dX5_whole_26 (by decide) (by omega) (by omega) (fun c26 => ?_) (fun c26 => ?_)
        · refine z_iload_n dX5_whole_32 rfl ?_
          refine z_if_ne 53 dX5_whole_33 (by decide) (by omega) (fun c33 => ?_) (fun c33 => ?_)
          · refine z_aload_n dX5_whole_53 rfl ?_
            refine z_iload_n dX5_whole_54 rfl ?_
            refine z_callV_L (M := mX5_whole) [_] tX5_orderOf kX5_225 dX5_whole_55 ⟨by decide, rfl, _, _, rfl⟩ ⟨by decide, by decide⟩ rfl (Nat.le_of_ble_eq_true rfl) rfl (c_X5_orderOf W C hc) (fun z55 h55 q55 => ?_)
            refine z_lstore_n dX5_whole_58 (by decide) rfl ?_
            refine z_iload_n dX5_whole_59 rfl ?_
            refine z_iconst dX5_whole_60 ?_
            refine z_icmp_ne 76 dX5_whole_61 (by decide) (by omega) (by omega) (fun c61 => ?_) (fun c61 => ?_)
            · omega
            · refine z_lload_n dX5_whole_64 rfl ?_
              refine z_lconst (z := 1) dX5_whole_65 rfl ?_
              refine z_lcmp dX5_whole_66 (by exact q55.2.1) (by decide) ?_
              refine z_if_ne 74 dX5_whole_67 (by decide) (icmp_r _ _) (fun c67 => ?_) (fun c67 => ?_)
              · have c67 := icmp_ne.mp c67
                refine z_iconst dX5_whole_74 ?_
                exact z_ireturn dX5_whole_75 rfl (hQ _ _ ⟨_, rfl, ⟨q55.1, z55, q55.2.2, bi_f (fun q => c67 q)⟩⟩)
              · have c67 := icmp_eq.mp c67
                refine z_iconst dX5_whole_70 ?_
                refine z_goto 75 dX5_whole_71 (by decide) ?_
                exact z_ireturn dX5_whole_75 rfl (hQ _ _ ⟨_, rfl, ⟨q55.1, z55, q55.2.2, bi_t c67⟩⟩)
          · omega
        · omega
  · have c7 := bi_eq.mp c7
    omega
set_option maxRecDepth 100000 in
set_option maxHeartbeats 4000000 in
theorem c_X5_whole2 {g : GG} {h : HH} {σ : SG} (W : WF σ) (C : RC (h 2) σ) {c : Nat} (hc : c < 3) (h0 : 0 < sP σ) : CnI mX5_whole g [vr 0, vi (c : Int), vi 2] h (fun z h' => GF h h' ∧ ∃ o : Int, OrdP σ c o ∧ z = if o = 0 then kNONE else o) := by
  refine cn_q (lv := [vr 0, vi (c : Int), vi 2, vx, vx]) tX5_whole.1 rfl rfl (fun hR Q hQ => ?_)
  refine z_aload_n dX5_whole_0 rfl ?_
  refine z_getR fX5_10 dX5_whole_1 (by decide) rfl rfl ?_
  refine z_callV_eI (M := mX5_whole) [] tX0_isThere kX5_123 dX5_whole_4 ⟨by decide, rfl, _, _, rfl⟩ ⟨by decide, by decide⟩ rfl (Nat.le_of_ble_eq_true rfl) rfl (s_X0_isThere isC1 C) ?_
  refine z_if_ne 13 dX5_whole_7 (by decide) (bi_r _) (fun c7 => ?_) (fun c7 => ?_)
  · have c7 := bi_ne.mp c7
    refine z_iload_n dX5_whole_13 rfl ?_
    refine z_callS_eI (M := mX5_whole) [_] tX5_isChain kX5_150 dX5_whole_14 ⟨by decide, by decide⟩ rfl (Nat.le_of_ble_eq_true rfl) rfl (c_X5_isChain (by omega)) ?_
    refine z_if_eq 29 dX5_whole_17 (by decide) (bi_r _) (fun c17 => ?_) (fun c17 => ?_)
    · have c17 := bi_eq.mp c17
      omega
    · have c17 := bi_ne.mp c17
      refine z_iload_n dX5_whole_20 rfl ?_
      refine z_if_lt 29 dX5_whole_21 (by decide) (by omega) (fun c21 => ?_) (fun c21 => ?_)
      · omega
      · refine z_iload_n dX5_whole_24 rfl ?_
        refine z_iconst dX5_whole_25 ?_
        refine z_icmp_le 32 dX5_whole_26 (by decide) (by omega) (by omega) (fun c26 => ?_) (fun c26 => ?_)
        · refine z_iload_n dX5_whole_32 rfl ?_
          refine z_if_ne 53 dX5_whole_33 (by decide) (by omega) (fun c33 => ?_) (fun c33 => ?_)
          · refine z_aload_n dX5_whole_53 rfl ?_
            refine z_iload_n dX5_whole_54 rfl ?_
            refine z_callV_L (M := mX5_whole) [_] tX5_orderOf kX5_225 dX5_whole_55 ⟨by decide, rfl, _, _, rfl⟩ ⟨by decide, by decide⟩ rfl (Nat.le_of_ble_eq_true rfl) rfl (c_X5_orderOf W C hc) (fun z55 h55 q55 => ?_)
            refine z_lstore_n dX5_whole_58 (by decide) rfl ?_
            refine z_iload_n dX5_whole_59 rfl ?_
            refine z_iconst dX5_whole_60 ?_
            refine z_icmp_ne 76 dX5_whole_61 (by decide) (by omega) (by omega) (fun c61 => ?_) (fun c61 => ?_)
            · refine z_lload_n dX5_whole_76 rfl ?_
              refine z_lconst (z := 0) dX5_whole_77 rfl ?_
              refine z_lcmp dX5_whole_78 (by exact q55.2.1) (by decide) ?_
              refine z_if_ne 87 dX5_whole_79 (by decide) (icmp_r _ _) (fun c79 => ?_) (fun c79 => ?_)
              · have c79 := icmp_ne.mp c79
                refine z_lload_n dX5_whole_87 rfl ?_
                refine z_l2i dX5_whole_88 ?_
                exact z_ireturn dX5_whole_89 rfl (hQ _ _ ⟨_, rfl, ⟨q55.1, z55, q55.2.2, (if_neg c79).symm⟩⟩)
              · have c79 := icmp_eq.mp c79
                refine z_ldc (-1000000) dX5_whole_82 qX5_191 rfl ?_
                refine z_goto 89 dX5_whole_84 (by decide) ?_
                exact z_ireturn dX5_whole_89 rfl (hQ _ _ ⟨_, rfl, ⟨q55.1, z55, q55.2.2, (if_pos c79).symm⟩⟩)
            · omega
          · omega
        · omega
  · have c7 := bi_eq.mp c7
    omega

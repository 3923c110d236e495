set_option maxRecDepth 100000 in
set_option maxHeartbeats 4000000 in
theorem c_bc {g : GG} {h : HH} {z : Nat} (hz : z < 64) : CeI mJ6_bitCount_0f7a4 g [vi (z : Int)] h (pc6 z) := by
  refine cn_q (lv := [vi (z : Int)]) tJ6_bitCount_0f7a4.1 rfl rfl (fun hR Q hQ => ?_)
  refine z_iload_n dJ6_bitCount_0f7a4_0 rfl ?_
  refine z_iload_n dJ6_bitCount_0f7a4_1 rfl ?_
  refine z_iconst dJ6_bitCount_0f7a4_2 ?_
  refine z_iushr dJ6_bitCount_0f7a4_3 ?_
  refine z_ldcw (1431655765) dJ6_bitCount_0f7a4_4 qJ6_265 rfl ?_
  refine z_iand dJ6_bitCount_0f7a4_7 ?_
  refine z_isub dJ6_bitCount_0f7a4_8 ?_
  refine z_istore_n dJ6_bitCount_0f7a4_9 (by decide) rfl ?_
  refine z_iload_n dJ6_bitCount_0f7a4_10 rfl ?_
  refine z_ldcw (858993459) dJ6_bitCount_0f7a4_11 qJ6_266 rfl ?_
  refine z_iand dJ6_bitCount_0f7a4_14 ?_
  refine z_iload_n dJ6_bitCount_0f7a4_15 rfl ?_
  refine z_iconst dJ6_bitCount_0f7a4_16 ?_
  refine z_iushr dJ6_bitCount_0f7a4_17 ?_
  refine z_ldcw (858993459) dJ6_bitCount_0f7a4_18 qJ6_266 rfl ?_
  refine z_iand dJ6_bitCount_0f7a4_21 ?_
  refine z_iadd dJ6_bitCount_0f7a4_22 ?_
  refine z_istore_n dJ6_bitCount_0f7a4_23 (by decide) rfl ?_
  refine z_iload_n dJ6_bitCount_0f7a4_24 rfl ?_
  refine z_iload_n dJ6_bitCount_0f7a4_25 rfl ?_
  refine z_iconst dJ6_bitCount_0f7a4_26 ?_
  refine z_iushr dJ6_bitCount_0f7a4_27 ?_
  refine z_iadd dJ6_bitCount_0f7a4_28 ?_
  refine z_ldcw (252645135) dJ6_bitCount_0f7a4_29 qJ6_267 rfl ?_
  refine z_iand dJ6_bitCount_0f7a4_32 ?_
  refine z_istore_n dJ6_bitCount_0f7a4_33 (by decide) rfl ?_
  refine z_iload_n dJ6_bitCount_0f7a4_34 rfl ?_
  refine z_iload_n dJ6_bitCount_0f7a4_35 rfl ?_
  refine z_bipush dJ6_bitCount_0f7a4_36 (by decide) ?_
  refine z_iushr dJ6_bitCount_0f7a4_38 ?_
  refine z_iadd dJ6_bitCount_0f7a4_39 ?_
  refine z_istore_n dJ6_bitCount_0f7a4_40 (by decide) rfl ?_
  refine z_iload_n dJ6_bitCount_0f7a4_41 rfl ?_
  refine z_iload_n dJ6_bitCount_0f7a4_42 rfl ?_
  refine z_bipush dJ6_bitCount_0f7a4_43 (by decide) ?_
  refine z_iushr dJ6_bitCount_0f7a4_45 ?_
  refine z_iadd dJ6_bitCount_0f7a4_46 ?_
  refine z_istore_n dJ6_bitCount_0f7a4_47 (by decide) rfl ?_
  refine z_iload_n dJ6_bitCount_0f7a4_48 rfl ?_
  refine z_bipush dJ6_bitCount_0f7a4_49 (by decide) ?_
  refine z_iand dJ6_bitCount_0f7a4_51 ?_
  exact z_ireturn dJ6_bitCount_0f7a4_52 rfl (hQ _ _ ⟨_, rfl, (bcE_pc ⟨z, hz⟩), rfl⟩)
set_option maxRecDepth 100000 in
set_option maxHeartbeats 4000000 in
theorem c_X1_allColumns {g : GG} {h : HH} {C : Nat} (hC : h 9 3 = (C : Int)) (h6 : C ≤ 6) : CeI mX1_allColumns g [vr 9] h ((2 ^ C - 1 : Nat) : Int) := by
  refine cn_q (lv := [vr 9]) tX1_allColumns.1 rfl rfl (fun hR Q hQ => ?_)
  have b1 := b_shl h6
  have b2 := b_pos C
  refine z_iconst dX1_allColumns_0 ?_
  refine z_aload_n dX1_allColumns_1 rfl ?_
  refine z_getI fX1_22 dX1_allColumns_2 (by decide) rfl rfl (fun r2 => ?_)
  rw [hC]
  refine z_ishl dX1_allColumns_5 ?_
  rw [b1.1]
  refine z_iconst dX1_allColumns_6 ?_
  refine z_isub dX1_allColumns_7 ?_
  rw [show ((2 ^ C : Nat) : Int) - 1 = ((2 ^ C - 1 : Nat) : Int) from by omega]
  exact z_ireturn dX1_allColumns_8 rfl (hQ _ _ ⟨_, rfl, rfl, rfl⟩)
set_option maxRecDepth 100000 in
set_option maxHeartbeats 4000000 in
theorem c_X1_minorOf {g : GG} {h : HH} {r c : Nat} (hr : r < 64) (hc : c < 64) : CeL mX1_minorOf g [vr 9, vi (r : Int), vi (c : Int)] h (h 17 (r * 64 + c)) := by
  refine cn_q (lv := [vr 9, vi (r : Int), vi (c : Int), vx]) tX1_minorOf.1 rfl rfl (fun hR Q hQ => ?_)
  refine z_iload_n dX1_minorOf_0 rfl ?_
  refine z_bipush dX1_minorOf_1 (by decide) ?_
  refine z_imul dX1_minorOf_3 ?_
  refine z_iload_n dX1_minorOf_4 rfl ?_
  refine z_iadd dX1_minorOf_5 ?_
  refine z_istore_n dX1_minorOf_6 (by decide) rfl ?_
  refine z_iload_n dX1_minorOf_7 rfl ?_
  refine z_aload_n dX1_minorOf_8 rfl ?_
  refine z_getR fX1_14 dX1_minorOf_9 (by decide) rfl rfl ?_
  refine z_alen2 dX1_minorOf_12 (by decide) rfl ?_
  refine z_callN_eI (M := mX1_minorOf) [_, _] tX5_isWithin (by decide) dX1_minorOf_13 ⟨by decide, by decide⟩ rfl (Nat.le_of_ble_eq_true rfl) rfl (c_X5_isWithin (by omega) (by decide)) ?_
  refine z_if_eq 28 dX1_minorOf_16 (by decide) (bi_r _) (fun c16 => ?_) (fun c16 => ?_)
  · have c16 := bi_eq.mp c16
    exact absurd ⟨by omega, by omega⟩ c16
  · have c16 := bi_ne.mp c16
    refine z_aload_n dX1_minorOf_19 rfl ?_
    refine z_getR fX1_14 dX1_minorOf_20 (by decide) rfl rfl ?_
    refine z_iload_n dX1_minorOf_23 rfl ?_
    refine z_laload dX1_minorOf_24 (by decide) rfl (by omega) (by omega) (by first | decide | omega) (fun r24 => ?_)
    refine z_goto 29 dX1_minorOf_25 (by decide) ?_
    exact z_lreturn dX1_minorOf_29 rfl (hQ _ _ ⟨_, rfl, (ix (by omega)), rfl⟩)
set_option maxRecDepth 100000 in
set_option maxHeartbeats 4000000 in
theorem c_X1_isZero {g : GG} {h : HH} {v p : Int} (hv : R64 v) (hp : R32 p) : CeI mX1_isZero g [vl v, vi p] h (bi (if p = 0 then v = 0 else v.tmod p = 0)) := by
  refine cn_q (lv := [vl v, vx, vi p]) tX1_isZero.1 rfl rfl (fun hR Q hQ => ?_)
  refine z_iload_n dX1_isZero_0 rfl ?_
  refine z_if_ne 18 dX1_isZero_1 (by decide) (by omega) (fun c1 => ?_) (fun c1 => ?_)
  · refine z_lload_n dX1_isZero_18 rfl ?_
    refine z_iload_n dX1_isZero_19 rfl ?_
    refine z_i2l dX1_isZero_20 (by omega) ?_
    refine z_lrem dX1_isZero_21 (by omega) (by omega) (by omega) ?_
    refine z_lconst (z := 0) dX1_isZero_22 rfl ?_
    refine z_lcmp dX1_isZero_23 (by have := tmod_r hv p; omega) (by decide) ?_
    refine z_if_ne 31 dX1_isZero_24 (by decide) (icmp_r _ _) (fun c24 => ?_) (fun c24 => ?_)
    · have c24 := icmp_ne.mp c24
      refine z_iconst dX1_isZero_31 ?_
      exact z_zreturn dX1_isZero_32 rfl (by first | exact Or.inl rfl | exact Or.inr rfl | exact bi_01 _ | omega) (hQ _ _ ⟨_, rfl, (by rw [if_neg c1]; exact bi_f (fun q => c24 q)), rfl⟩)
    · have c24 := icmp_eq.mp c24
      refine z_iconst dX1_isZero_27 ?_
      refine z_goto 32 dX1_isZero_28 (by decide) ?_
      exact z_zreturn dX1_isZero_32 rfl (by first | exact Or.inl rfl | exact Or.inr rfl | exact bi_01 _ | omega) (hQ _ _ ⟨_, rfl, (by rw [if_neg c1]; exact bi_t c24), rfl⟩)
  · refine z_lload_n dX1_isZero_4 rfl ?_
    refine z_lconst (z := 0) dX1_isZero_5 rfl ?_
    refine z_lcmp dX1_isZero_6 (by omega) (by omega) ?_
    refine z_if_ne 14 dX1_isZero_7 (by decide) (icmp_r _ _) (fun c7 => ?_) (fun c7 => ?_)
    · have c7 := icmp_ne.mp c7
      refine z_iconst dX1_isZero_14 ?_
      refine z_goto 32 dX1_isZero_15 (by decide) ?_
      exact z_zreturn dX1_isZero_32 rfl (by first | exact Or.inl rfl | exact Or.inr rfl | exact bi_01 _ | omega) (hQ _ _ ⟨_, rfl, (by rw [if_pos c1]; exact bi_f (fun q => c7 q)), rfl⟩)
    · have c7 := icmp_eq.mp c7
      refine z_iconst dX1_isZero_10 ?_
      refine z_goto 32 dX1_isZero_11 (by decide) ?_
      exact z_zreturn dX1_isZero_32 rfl (by first | exact Or.inl rfl | exact Or.inr rfl | exact bi_01 _ | omega) (hQ _ _ ⟨_, rfl, (by rw [if_pos c1]; exact bi_t c7), rfl⟩)
set_option maxRecDepth 100000 in
set_option maxHeartbeats 4000000 in
theorem c_X1_expandedMinor {g : GG} {h : HH} {C : Nat} (hC : h 9 3 = (C : Int)) (h6 : C ≤ 6) {k r c : Nat} (hr : r < 64) (hr0 : 0 < r) (hc : c < 2 ^ C) (hM : ∀ j, j < 6 → mbit c j → h 17 ((r - 2 ^ lb r) * 64 + (c - 2 ^ j)) = mnr (GA h) k (r - 2 ^ lb r) (c - 2 ^ j)) : CeL mX1_expandedMinor g [vr 9, vi (r : Int), vi (c : Int)] h (mnr (GA h) (k + 1) r c) := by
  refine cn_q (lv := [vr 9, vi (r : Int), vi (c : Int), vx, vx, vx, vx, vx, vx, vx, vx]) tX1_expandedMinor.1 rfl rfl (fun hR Q hQ => ?_)
  obtain ⟨l1, l2, l3, l4, -⟩ := b_low hr hr0
  have b1 := b_shl h6
  have b3 := b_pos (lb r)
  have sL := shpG l4
  refine z_iload_n dX1_expandedMinor_0 rfl ?_
  refine z_iload_n dX1_expandedMinor_1 rfl ?_
  refine z_ineg dX1_expandedMinor_2 ?_
  refine z_iand dX1_expandedMinor_3 ?_
  rw [l1]
  refine z_istore_n dX1_expandedMinor_4 (by decide) rfl ?_
  refine z_iload_n dX1_expandedMinor_5 rfl ?_
  refine z_iconst dX1_expandedMinor_6 ?_
  refine z_isub dX1_expandedMinor_7 ?_
  rw [show ((2 ^ lb r : Nat) : Int) - 1 = ((2 ^ lb r - 1 : Nat) : Int) from by omega]
  refine z_callS_eI (M := mX1_expandedMinor) [_] tJ6_bitCount_0f7a4 kX1_53 dX1_expandedMinor_8 ⟨by decide, by decide⟩ rfl (Nat.le_of_ble_eq_true rfl) rfl (c_bc (by omega)) ?_
  rw [l2]
  refine z_istore dX1_expandedMinor_11 (by decide) rfl ?_
  refine z_iload dX1_expandedMinor_13 rfl ?_
  refine z_bipush dX1_expandedMinor_15 (by decide) ?_
  refine z_callN_eI (M := mX1_expandedMinor) [_, _] tX5_isWithin (by decide) dX1_expandedMinor_17 ⟨by decide, by decide⟩ rfl (Nat.le_of_ble_eq_true rfl) rfl (c_X5_isWithin (by omega) (by decide)) ?_
  refine z_if_ne 25 dX1_expandedMinor_20 (by decide) (bi_r _) (fun c20 => ?_) (fun c20 => ?_)
  · have c20 := bi_ne.mp c20
    refine z_lconst (z := 0) dX1_expandedMinor_25 rfl ?_
    refine z_lstore dX1_expandedMinor_26 (by decide) rfl ?_
    refine z_lconst (z := 1) dX1_expandedMinor_28 rfl ?_
    refine z_lstore dX1_expandedMinor_29 (by decide) rfl ?_
    refine z_iconst dX1_expandedMinor_31 ?_
    refine z_istore dX1_expandedMinor_32 (by decide) rfl ?_
    have loop34 : ∀ (nL9 : Nat) (i : Nat), (i ≤ C) → C - i < nL9 → Z mX1_expandedMinor g 34 [vr 9, vi (r : Int), vi (c : Int), vi ((2 ^ lb r : Nat) : Int), vi (lb r : Int), vl (sI i (mnT (GA h) k r c)), vx, vl (sg6 c i), vx, vi (i : Int), vx] [] h Q := by
      intro nL9
      induction nL9 with
      | zero => intro i hi hnL9; exact absurd hnL9 (Nat.not_lt_zero _)
      | succ nL9 ih34 =>
        intro i hi hnL9
        refine z_iload dX1_expandedMinor_34 rfl ?_
        refine z_aload_n dX1_expandedMinor_36 rfl ?_
        refine z_getI fX1_22 dX1_expandedMinor_37 (by decide) rfl rfl (fun r37 => ?_)
        rw [hC]
        refine z_icmp_ge 112 dX1_expandedMinor_40 (by decide) (by omega) (by omega) (fun c40 => ?_) (fun c40 => ?_)
        · refine z_lload dX1_expandedMinor_112 rfl ?_
          exact z_lreturn dX1_expandedMinor_114 rfl (hQ _ _ ⟨_, rfl, (by rw [mn_C _ _ _ h6 hc, show C = i from by omega]), rfl⟩)
        · refine z_iconst dX1_expandedMinor_43 ?_
          refine z_iload dX1_expandedMinor_44 rfl ?_
          refine z_ishl dX1_expandedMinor_46 ?_
          rw [(b_shl (j := i) (by omega)).1]
          refine z_istore dX1_expandedMinor_47 (by decide) rfl ?_
          refine z_iload_n dX1_expandedMinor_49 rfl ?_
          refine z_iload dX1_expandedMinor_50 rfl ?_
          refine z_iand dX1_expandedMinor_52 ?_
          have b5 := b_and (c := c) (j := i) (by omega) (by omega)
          rw [b5.1]
          have b6 := b_pos i
          refine z_if_eq 106 dX1_expandedMinor_53 (by decide) (by split <;> omega) (fun c53 => ?_) (fun c53 => ?_)
          · have c53 : ¬ mbit c i := fun q => by rw [if_pos q] at c53; omega
            refine z_iinc dX1_expandedMinor_106 rfl (by decide) rfl ?_
            refine z_goto 34 dX1_expandedMinor_109 (by decide) ?_
            have e1 : sI (i + 1) (mnT (GA h) k r c) = sI i (mnT (GA h) k r c) := by rw [sI_s]; unfold mnT; rw [if_neg c53]; omega
            have e2 : sg6 c (i + 1) = sg6 c i := if_neg c53
            have x0 := ih34 (i + 1) (by omega) (by omega)
            rw [e1, e2] at x0
            refine z_forget 10 ?_
            exact x0
          · have c53 : mbit c i := Classical.byContradiction (fun q => c53 (if_neg q))
            refine z_aload_n dX1_expandedMinor_56 rfl ?_
            refine z_getR fX1_11 dX1_expandedMinor_57 (by decide) rfl rfl ?_
            refine z_iload dX1_expandedMinor_60 rfl ?_
            refine z_aaloadJ dX1_expandedMinor_62 (by decide) rfl (by omega) (by omega) (by decide) ?_
            rw [show 11 + ((lb r : Nat) : Int).toNat = 11 + lb r from rfl]
            refine z_iload dX1_expandedMinor_63 rfl ?_
            refine z_laload dX1_expandedMinor_65 (by omega) sL (by omega) (by omega) (by first | decide | omega) (fun r65 => ?_)
            rw [show h (11 + lb r) ((i : Nat) : Int).toNat = GA h (lb r) i from rfl] at r65 ⊢
            refine z_lconst (z := 0) dX1_expandedMinor_66 rfl ?_
            refine z_lcmp dX1_expandedMinor_67 (by omega) (by omega) ?_
            refine z_if_eq 101 dX1_expandedMinor_68 (by decide) (icmp_r _ _) (fun c68 => ?_) (fun c68 => ?_)
            · have c68 := icmp_eq.mp c68
              refine z_lload dX1_expandedMinor_101 rfl ?_
              refine z_lneg dX1_expandedMinor_103 ?_
              refine z_lstore dX1_expandedMinor_104 (by decide) rfl ?_
              refine z_iinc dX1_expandedMinor_106 rfl (by decide) rfl ?_
              refine z_goto 34 dX1_expandedMinor_109 (by decide) ?_
              have e1 : sI (i + 1) (mnT (GA h) k r c) = sI i (mnT (GA h) k r c) := by rw [sI_s]; unfold mnT; rw [if_pos c53, c68, Int.mul_zero, Int.zero_mul]; omega
              have e2 : sg6 c (i + 1) = -(sg6 c i) := if_pos c53
              have x0 := ih34 (i + 1) (by omega) (by omega)
              rw [e1, e2] at x0
              refine z_forget 10 ?_
              exact x0
            · have c68 := icmp_ne.mp c68
              refine z_lload dX1_expandedMinor_71 rfl ?_
              refine z_lload dX1_expandedMinor_73 rfl ?_
              refine z_aload_n dX1_expandedMinor_75 rfl ?_
              refine z_getR fX1_11 dX1_expandedMinor_76 (by decide) rfl rfl ?_
              refine z_iload dX1_expandedMinor_79 rfl ?_
              refine z_aaloadJ dX1_expandedMinor_81 (by decide) rfl (by omega) (by omega) (by decide) ?_
              rw [show 11 + ((lb r : Nat) : Int).toNat = 11 + lb r from rfl]
              refine z_iload dX1_expandedMinor_82 rfl ?_
              refine z_laload dX1_expandedMinor_84 (by omega) sL (by omega) (by omega) (by first | decide | omega) (fun r84 => ?_)
              rw [show h (11 + lb r) ((i : Nat) : Int).toNat = GA h (lb r) i from rfl] at r84 ⊢
              obtain ⟨b7, -⟩ := b5.2 c53
              refine z_lmul dX1_expandedMinor_85 ?_
              refine z_aload_n dX1_expandedMinor_86 rfl ?_
              refine z_iload_n dX1_expandedMinor_87 rfl ?_
              refine z_iload_n dX1_expandedMinor_88 rfl ?_
              refine z_isub dX1_expandedMinor_89 ?_
              refine z_iload_n dX1_expandedMinor_90 rfl ?_
              refine z_iload dX1_expandedMinor_91 rfl ?_
              refine z_isub dX1_expandedMinor_93 ?_
              rw [show (r : Int) - ((2 ^ lb r : Nat) : Int) = ((r - 2 ^ lb r : Nat) : Int) from by omega, show (c : Int) - ((2 ^ i : Nat) : Int) = ((c - 2 ^ i : Nat) : Int) from by omega]
              refine z_callV_eL (M := mX1_expandedMinor) [_, _] tX1_minorOf kX1_62 dX1_expandedMinor_94 ⟨by decide, rfl, _, _, rfl⟩ ⟨by decide, by decide⟩ rfl (Nat.le_of_ble_eq_true rfl) rfl (c_X1_minorOf (by omega) (by omega)) ?_
              rw [hM i (by omega) c53]
              refine z_lmul dX1_expandedMinor_97 ?_
              refine z_ladd dX1_expandedMinor_98 ?_
              refine z_lstore dX1_expandedMinor_99 (by decide) rfl ?_
              refine z_lload dX1_expandedMinor_101 rfl ?_
              refine z_lneg dX1_expandedMinor_103 ?_
              refine z_lstore dX1_expandedMinor_104 (by decide) rfl ?_
              refine z_iinc dX1_expandedMinor_106 rfl (by decide) rfl ?_
              refine z_goto 34 dX1_expandedMinor_109 (by decide) ?_
              have e1 : sI (i + 1) (mnT (GA h) k r c) = sI i (mnT (GA h) k r c) + sg6 c i * GA h (lb r) i * mnr (GA h) k (r - 2 ^ lb r) (c - 2 ^ i) := by rw [sI_s]; unfold mnT; rw [if_pos c53]
              have e2 : sg6 c (i + 1) = -(sg6 c i) := if_pos c53
              have x0 := ih34 (i + 1) (by omega) (by omega)
              rw [e1, e2] at x0
              refine z_forget 10 ?_
              exact x0
    exact loop34 _ 0 (by omega) (Nat.lt_succ_self _)
  · have c20 := bi_eq.mp c20
    exact absurd ⟨by omega, by omega⟩ c20

set_option maxRecDepth 100000 in
set_option maxHeartbeats 4000000 in
theorem c_X6_byteAt {g : GG} {h : HH} {tk : Nat → Int} {n : Nat} (T : TP h tk n) {i : Nat} (hi : i ≤ 90) : CeI mX6_byteAt g [vr 47, vi (i : Int)] h (tk i) := by
  refine cn_q (lv := [vr 47, vi (i : Int)]) tX6_byteAt.1 rfl rfl (fun hR Q hQ => ?_)
  obtain ⟨t1, t2, t3, t4⟩ := id T
  refine z_iload_n dX6_byteAt_0 rfl ?_
  refine z_aload_n dX6_byteAt_1 rfl ?_
  refine z_getI fX6_130 dX6_byteAt_2 (by decide) rfl rfl (fun r2 => ?_)
  refine z_icmp_ge 17 dX6_byteAt_5 (by decide) (by omega) (by omega) (fun c5 => ?_) (fun c5 => ?_)
  · refine z_iconst dX6_byteAt_17 ?_
    exact z_ireturn dX6_byteAt_18 rfl (hQ _ _ ⟨_, rfl, (by rw [← t1]; unfold mtk; rw [if_neg (by omega)]), rfl⟩)
  · refine z_aload_n dX6_byteAt_8 rfl ?_
    refine z_getR fX6_26 dX6_byteAt_9 (by decide) rfl rfl ?_
    refine z_iload_n dX6_byteAt_12 rfl ?_
    refine z_iaload dX6_byteAt_13 (by decide) rfl (by omega) (by omega) (by first | decide | omega) (fun r13 => ?_)
    refine z_goto 18 dX6_byteAt_14 (by decide) ?_
    exact z_ireturn dX6_byteAt_18 rfl (hQ _ _ ⟨_, rfl, (by rw [← t1]; unfold mtk; rw [if_pos (by omega)]; exact ix rfl), rfl⟩)
set_option maxRecDepth 100000 in
set_option maxHeartbeats 4000000 in
theorem c_X6_reads {g : GG} {h : HH} {tk : Nat → Int} {n : Nat} (T : TP h tk n) {i : Nat} (h8 : h 47 8 = (i : Int)) (hi : i ≤ 90) : CnV mX6_reads g [vr 47] h (fun h' => ∃ f', h' = setc h 47 f' ∧ FRf (h 47) f' ∧ f' 12 = h 47 12 ∧ f' 13 = h 47 13 ∧ RD tk f' i) := by
  refine cn_q (lv := [vr 47, vx]) tX6_reads.1 rfl rfl (fun hR Q hQ => ?_)
  obtain ⟨t1, t2, t3, t4⟩ := id T
  refine z_aload_n dX6_reads_0 rfl ?_
  refine z_aload_n dX6_reads_1 rfl ?_
  refine z_getI fX6_134 dX6_reads_2 (by decide) rfl rfl (fun r2 => ?_)
  rw [h8]
  refine z_putI pX6_137 dX6_reads_5 (by decide) rfl rfl (by omega) ?_
  refine z_aload_n dX6_reads_8 rfl ?_
  refine z_aload_n dX6_reads_9 rfl ?_
  refine z_getI fX6_134 dX6_reads_10 (by decide) rfl rfl (fun r10 => ?_)
  rw [up_o h _ (show (8 : Nat) ≠ 9 by decide), h8]
  refine z_callV_eI (M := mX6_reads) [_] tX6_byteAt kX6_140 dX6_reads_13 ⟨by decide, rfl, _, _, rfl⟩ ⟨by decide, by decide⟩ rfl (Nat.le_of_ble_eq_true rfl) rfl (c_X6_byteAt (h := up h 47 9 (i : Int)) (TP_of T (up_o h _ (by decide)) (up_ne h _ _ (by decide))) hi) ?_
  have rz : R32 (tk i) := by
    rw [← t1]; unfold mtk; split
    · exact hR.2.1 53 (by exact Or.inl rfl) i
    · decide
  refine z_istore_n dX6_reads_16 (by decide) rfl ?_
  refine z_aload_n dX6_reads_17 rfl ?_
  refine z_iload_n dX6_reads_18 rfl ?_
  refine z_putI pX6_143 dX6_reads_19 (by decide) rfl rfl (by omega) ?_
  refine z_aload_n dX6_reads_22 rfl ?_
  refine z_dup dX6_reads_23 rfl ?_
  refine z_getI fX6_134 dX6_reads_24 (by decide) rfl rfl (fun r24 => ?_)
  rw [up_o _ _ (show (8 : Nat) ≠ 11 by decide), up_o _ _ (show (8 : Nat) ≠ 9 by decide), h8]
  refine z_iload_n dX6_reads_27 rfl ?_
  refine z_if_ge 35 dX6_reads_28 (by decide) (by omega) (fun c28 => ?_) (fun c28 => ?_)
  · refine z_iconst dX6_reads_35 ?_
    refine z_iadd dX6_reads_36 ?_
    refine z_putI pX6_134 dX6_reads_37 (by decide) rfl rfl (by omega) ?_
    refine z_aload_n dX6_reads_40 rfl ?_
    refine z_iload_n dX6_reads_41 rfl ?_
    refine z_if_ge 49 dX6_reads_42 (by decide) (by omega) (fun c42 => ?_) (fun c42 => ?_)
    · refine z_iload_n dX6_reads_49 rfl ?_
      refine z_i2l dX6_reads_50 (by omega) ?_
      refine z_ldc2 (97) dX6_reads_51 qX6_146 rfl ?_
      refine z_ldc2 (122) dX6_reads_54 qX6_148 rfl ?_
      refine z_callS_eI (M := mX6_reads) [_, _, _] tX6_in kX6_150 dX6_reads_57 ⟨by decide, by decide⟩ rfl (Nat.le_of_ble_eq_true rfl) rfl (c_X6_in (by omega) (by omega) (by omega)) ?_
      refine z_if_ne 77 dX6_reads_60 (by decide) (bi_r _) (fun c60 => ?_) (fun c60 => ?_)
      · have c60 := bi_ne.mp c60
        refine z_iconst dX6_reads_77 ?_
        refine z_goto 116 dX6_reads_78 (by decide) ?_
        refine z_putI pX6_162 dX6_reads_116 (by decide) rfl rfl (by omega) ?_
        exact z_return dX6_reads_119 rfl (hQ _ _ ⟨rfl, (rd_of rfl (by first | (exfalso; omega) | rw [if_pos (by omega)] | rw [if_neg (by omega)]) (by unfold kd; (repeat' split) <;> omega))⟩)
      · have c60 := bi_eq.mp c60
        refine z_iload_n dX6_reads_63 rfl ?_
        refine z_i2l dX6_reads_64 (by omega) ?_
        refine z_ldc2 (65) dX6_reads_65 qX6_154 rfl ?_
        refine z_ldc2 (90) dX6_reads_68 qX6_156 rfl ?_
        refine z_callS_eI (M := mX6_reads) [_, _, _] tX6_in kX6_150 dX6_reads_71 ⟨by decide, by decide⟩ rfl (Nat.le_of_ble_eq_true rfl) rfl (c_X6_in (by omega) (by omega) (by omega)) ?_
        refine z_if_eq 81 dX6_reads_74 (by decide) (bi_r _) (fun c74 => ?_) (fun c74 => ?_)
        · have c74 := bi_eq.mp c74
          refine z_iload_n dX6_reads_81 rfl ?_
          refine z_i2l dX6_reads_82 (by omega) ?_
          refine z_ldc2 (48) dX6_reads_83 qX6_158 rfl ?_
          refine z_ldc2 (57) dX6_reads_86 qX6_160 rfl ?_
          refine z_callS_eI (M := mX6_reads) [_, _, _] tX6_in kX6_150 dX6_reads_89 ⟨by decide, by decide⟩ rfl (Nat.le_of_ble_eq_true rfl) rfl (c_X6_in (by omega) (by omega) (by omega)) ?_
          refine z_if_eq 99 dX6_reads_92 (by decide) (bi_r _) (fun c92 => ?_) (fun c92 => ?_)
          · have c92 := bi_eq.mp c92
            refine z_iload_n dX6_reads_99 rfl ?_
            refine z_bipush dX6_reads_100 (by decide) ?_
            refine z_icmp_eq 111 dX6_reads_102 (by decide) (by omega) (by omega) (fun c102 => ?_) (fun c102 => ?_)
            · refine z_iconst dX6_reads_111 ?_
              refine z_goto 116 dX6_reads_112 (by decide) ?_
              refine z_putI pX6_162 dX6_reads_116 (by decide) rfl rfl (by omega) ?_
              exact z_return dX6_reads_119 rfl (hQ _ _ ⟨rfl, (rd_of rfl (by first | (exfalso; omega) | rw [if_pos (by omega)] | rw [if_neg (by omega)]) (by unfold kd; (repeat' split) <;> omega))⟩)
            · refine z_iload_n dX6_reads_105 rfl ?_
              refine z_bipush dX6_reads_106 (by decide) ?_
              refine z_icmp_ne 115 dX6_reads_108 (by decide) (by omega) (by omega) (fun c108 => ?_) (fun c108 => ?_)
              · refine z_iconst dX6_reads_115 ?_
                refine z_putI pX6_162 dX6_reads_116 (by decide) rfl rfl (by omega) ?_
                exact z_return dX6_reads_119 rfl (hQ _ _ ⟨rfl, (rd_of rfl (by first | (exfalso; omega) | rw [if_pos (by omega)] | rw [if_neg (by omega)]) (by unfold kd; (repeat' split) <;> omega))⟩)
              · refine z_iconst dX6_reads_111 ?_
                refine z_goto 116 dX6_reads_112 (by decide) ?_
                refine z_putI pX6_162 dX6_reads_116 (by decide) rfl rfl (by omega) ?_
                exact z_return dX6_reads_119 rfl (hQ _ _ ⟨rfl, (rd_of rfl (by first | (exfalso; omega) | rw [if_pos (by omega)] | rw [if_neg (by omega)]) (by unfold kd; (repeat' split) <;> omega))⟩)
          · have c92 := bi_ne.mp c92
            refine z_iconst dX6_reads_95 ?_
            refine z_goto 116 dX6_reads_96 (by decide) ?_
            refine z_putI pX6_162 dX6_reads_116 (by decide) rfl rfl (by omega) ?_
            exact z_return dX6_reads_119 rfl (hQ _ _ ⟨rfl, (rd_of rfl (by first | (exfalso; omega) | rw [if_pos (by omega)] | rw [if_neg (by omega)]) (by unfold kd; (repeat' split) <;> omega))⟩)
        · have c74 := bi_ne.mp c74
          refine z_iconst dX6_reads_77 ?_
          refine z_goto 116 dX6_reads_78 (by decide) ?_
          refine z_putI pX6_162 dX6_reads_116 (by decide) rfl rfl (by omega) ?_
          exact z_return dX6_reads_119 rfl (hQ _ _ ⟨rfl, (rd_of rfl (by first | (exfalso; omega) | rw [if_pos (by omega)] | rw [if_neg (by omega)]) (by unfold kd; (repeat' split) <;> omega))⟩)
    · refine z_iconst dX6_reads_45 ?_
      refine z_goto 116 dX6_reads_46 (by decide) ?_
      refine z_putI pX6_162 dX6_reads_116 (by decide) rfl rfl (by omega) ?_
      exact z_return dX6_reads_119 rfl (hQ _ _ ⟨rfl, (rd_of rfl (by first | (exfalso; omega) | rw [if_pos (by omega)] | rw [if_neg (by omega)]) (by unfold kd; (repeat' split) <;> omega))⟩)
  · refine z_iconst dX6_reads_31 ?_
    refine z_goto 36 dX6_reads_32 (by decide) ?_
    refine z_iadd dX6_reads_36 ?_
    refine z_putI pX6_134 dX6_reads_37 (by decide) rfl rfl (by omega) ?_
    refine z_aload_n dX6_reads_40 rfl ?_
    refine z_iload_n dX6_reads_41 rfl ?_
    refine z_if_ge 49 dX6_reads_42 (by decide) (by omega) (fun c42 => ?_) (fun c42 => ?_)
    · refine z_iload_n dX6_reads_49 rfl ?_
      refine z_i2l dX6_reads_50 (by omega) ?_
      refine z_ldc2 (97) dX6_reads_51 qX6_146 rfl ?_
      refine z_ldc2 (122) dX6_reads_54 qX6_148 rfl ?_
      refine z_callS_eI (M := mX6_reads) [_, _, _] tX6_in kX6_150 dX6_reads_57 ⟨by decide, by decide⟩ rfl (Nat.le_of_ble_eq_true rfl) rfl (c_X6_in (by omega) (by omega) (by omega)) ?_
      refine z_if_ne 77 dX6_reads_60 (by decide) (bi_r _) (fun c60 => ?_) (fun c60 => ?_)
      · have c60 := bi_ne.mp c60
        refine z_iconst dX6_reads_77 ?_
        refine z_goto 116 dX6_reads_78 (by decide) ?_
        refine z_putI pX6_162 dX6_reads_116 (by decide) rfl rfl (by omega) ?_
        exact z_return dX6_reads_119 rfl (hQ _ _ ⟨rfl, (rd_of rfl (by first | (exfalso; omega) | rw [if_pos (by omega)] | rw [if_neg (by omega)]) (by unfold kd; (repeat' split) <;> omega))⟩)
      · have c60 := bi_eq.mp c60
        refine z_iload_n dX6_reads_63 rfl ?_
        refine z_i2l dX6_reads_64 (by omega) ?_
        refine z_ldc2 (65) dX6_reads_65 qX6_154 rfl ?_
        refine z_ldc2 (90) dX6_reads_68 qX6_156 rfl ?_
        refine z_callS_eI (M := mX6_reads) [_, _, _] tX6_in kX6_150 dX6_reads_71 ⟨by decide, by decide⟩ rfl (Nat.le_of_ble_eq_true rfl) rfl (c_X6_in (by omega) (by omega) (by omega)) ?_
        refine z_if_eq 81 dX6_reads_74 (by decide) (bi_r _) (fun c74 => ?_) (fun c74 => ?_)
        · have c74 := bi_eq.mp c74
          refine z_iload_n dX6_reads_81 rfl ?_
          refine z_i2l dX6_reads_82 (by omega) ?_
          refine z_ldc2 (48) dX6_reads_83 qX6_158 rfl ?_
          refine z_ldc2 (57) dX6_reads_86 qX6_160 rfl ?_
          refine z_callS_eI (M := mX6_reads) [_, _, _] tX6_in kX6_150 dX6_reads_89 ⟨by decide, by decide⟩ rfl (Nat.le_of_ble_eq_true rfl) rfl (c_X6_in (by omega) (by omega) (by omega)) ?_
          refine z_if_eq 99 dX6_reads_92 (by decide) (bi_r _) (fun c92 => ?_) (fun c92 => ?_)
          · have c92 := bi_eq.mp c92
            refine z_iload_n dX6_reads_99 rfl ?_
            refine z_bipush dX6_reads_100 (by decide) ?_
            refine z_icmp_eq 111 dX6_reads_102 (by decide) (by omega) (by omega) (fun c102 => ?_) (fun c102 => ?_)
            · refine z_iconst dX6_reads_111 ?_
              refine z_goto 116 dX6_reads_112 (by decide) ?_
              refine z_putI pX6_162 dX6_reads_116 (by decide) rfl rfl (by omega) ?_
              exact z_return dX6_reads_119 rfl (hQ _ _ ⟨rfl, (rd_of rfl (by first | (exfalso; omega) | rw [if_pos (by omega)] | rw [if_neg (by omega)]) (by unfold kd; (repeat' split) <;> omega))⟩)
            · refine z_iload_n dX6_reads_105 rfl ?_
              refine z_bipush dX6_reads_106 (by decide) ?_
              refine z_icmp_ne 115 dX6_reads_108 (by decide) (by omega) (by omega) (fun c108 => ?_) (fun c108 => ?_)
              · refine z_iconst dX6_reads_115 ?_
                refine z_putI pX6_162 dX6_reads_116 (by decide) rfl rfl (by omega) ?_
                exact z_return dX6_reads_119 rfl (hQ _ _ ⟨rfl, (rd_of rfl (by first | (exfalso; omega) | rw [if_pos (by omega)] | rw [if_neg (by omega)]) (by unfold kd; (repeat' split) <;> omega))⟩)
              · refine z_iconst dX6_reads_111 ?_
                refine z_goto 116 dX6_reads_112 (by decide) ?_
                refine z_putI pX6_162 dX6_reads_116 (by decide) rfl rfl (by omega) ?_
                exact z_return dX6_reads_119 rfl (hQ _ _ ⟨rfl, (rd_of rfl (by first | (exfalso; omega) | rw [if_pos (by omega)] | rw [if_neg (by omega)]) (by unfold kd; (repeat' split) <;> omega))⟩)
          · have c92 := bi_ne.mp c92
            refine z_iconst dX6_reads_95 ?_
            refine z_goto 116 dX6_reads_96 (by decide) ?_
            refine z_putI pX6_162 dX6_reads_116 (by decide) rfl rfl (by omega) ?_
            exact z_return dX6_reads_119 rfl (hQ _ _ ⟨rfl, (rd_of rfl (by first | (exfalso; omega) | rw [if_pos (by omega)] | rw [if_neg (by omega)]) (by unfold kd; (repeat' split) <;> omega))⟩)
        · have c74 := bi_ne.mp c74
          refine z_iconst dX6_reads_77 ?_
          refine z_goto 116 dX6_reads_78 (by decide) ?_
          refine z_putI pX6_162 dX6_reads_116 (by decide) rfl rfl (by omega) ?_
          exact z_return dX6_reads_119 rfl (hQ _ _ ⟨rfl, (rd_of rfl (by first | (exfalso; omega) | rw [if_pos (by omega)] | rw [if_neg (by omega)]) (by unfold kd; (repeat' split) <;> omega))⟩)
    · refine z_iconst dX6_reads_45 ?_
      refine z_goto 116 dX6_reads_46 (by decide) ?_
      refine z_putI pX6_162 dX6_reads_116 (by decide) rfl rfl (by omega) ?_
      exact z_return dX6_reads_119 rfl (hQ _ _ ⟨rfl, (rd_of rfl (by first | (exfalso; omega) | rw [if_pos (by omega)] | rw [if_neg (by omega)]) (by unfold kd; (repeat' split) <;> omega))⟩)
set_option maxRecDepth 100000 in
set_option maxHeartbeats 4000000 in
theorem c_X6_bad {g : GG} {h : HH} {tk : Nat → Int} {s : PF} (L : LAf tk (h 47) s) {c : Nat} (hc : 1 ≤ c ∧ c ≤ 3) : CnV mX6_bad g [vr 47, vi (c : Int)] h (Pt h tk (bdS s c)) := by
  refine cn_q (lv := [vr 47, vi (c : Int)]) tX6_bad.1 rfl rfl (fun hR Q hQ => ?_)
  refine z_aload_n dX6_bad_0 rfl ?_
  refine z_getI fX6_165 dX6_bad_1 (by decide) rfl rfl (fun r1 => ?_)
  refine z_if_ne 20 dX6_bad_4 (by decide) (by omega) (fun c4 => ?_) (fun c4 => ?_)
  · exact z_return dX6_bad_20 rfl (hQ _ _ ⟨rfl, (by rw [show bdS s c = s from if_pos (by have := L.1; omega)]; exact Pt.refl L)⟩)
  · refine z_aload_n dX6_bad_7 rfl ?_
    refine z_iload_n dX6_bad_8 rfl ?_
    refine z_putI pX6_165 dX6_bad_9 (by decide) rfl rfl (by omega) ?_
    refine z_aload_n dX6_bad_12 rfl ?_
    refine z_aload_n dX6_bad_13 rfl ?_
    refine z_getI fX6_137 dX6_bad_14 (by decide) rfl rfl (fun r14 => ?_)
    refine z_putI pX6_168 dX6_bad_17 (by decide) rfl rfl (by omega) ?_
    exact z_return dX6_bad_20 rfl (hQ _ _ ⟨rfl, (by have l1 := L.1; exact bad_of L (by omega) (by omega) ((up_o h _ (by decide)).trans (L.2.2.1 (by omega)).1))⟩)
set_option maxRecDepth 100000 in
set_option maxHeartbeats 4000000 in
theorem c_X6_goesOn {g : GG} {h : HH} {tk : Nat → Int} {n : Nat} (T : TP h tk n) {s : PF} (L : LAf tk (h 47) s) (hg : s.2 = 0 → 0 ≤ tk s.1) : CnV mX6_goesOn g [vr 47] h (Pt h tk (goS s)) := by
  refine cn_q (lv := [vr 47]) tX6_goesOn.1 rfl rfl (fun hR Q hQ => ?_)
  have l1 := L.1
  refine z_aload_n dX6_goesOn_0 rfl ?_
  refine z_getI fX6_165 dX6_goesOn_1 (by decide) rfl rfl (fun r1 => ?_)
  refine z_if_ne 11 dX6_goesOn_4 (by decide) (by omega) (fun c4 => ?_) (fun c4 => ?_)
  · exact z_return dX6_goesOn_11 rfl (hQ _ _ ⟨rfl, (by rw [show goS s = s from if_pos (by omega)]; exact Pt.refl L)⟩)
  · have l0 : s.2 = 0 := by omega
    have l2 := tp_lt T (hg l0)
    have l3 := T.2.2.1
    have l4 := (L.2.2.1 l0).2.2.2
    have l5 := hg l0
    rw [if_neg (by omega)] at l4
    refine z_aload_n dX6_goesOn_7 rfl ?_
    refine z_callV_V (M := mX6_goesOn) [] tX6_reads kX6_171 dX6_goesOn_8 ⟨by decide, rfl, _, _, rfl⟩ ⟨by decide, by decide⟩ rfl (Nat.le_of_ble_eq_true rfl) rfl (c_X6_reads T (i := s.1 + 1) (by omega) (by omega)) (fun h8 q8 => ?_)
    exact z_return dX6_goesOn_11 rfl (hQ _ _ ⟨rfl, (by
  obtain ⟨f', g1, g2, g3, g4, g5⟩ := q8
  rw [show goS s = (s.1 + 1, 0) from if_neg (fun q => q l0)]
  exact ⟨f', g1, g2, by rw [g3, l1, l0], fun q => absurd rfl q, fun _ => g5, by rw [g5.2.1]; exact T.2.2.2.1 _⟩)⟩)
set_option maxRecDepth 100000 in
set_option maxHeartbeats 4000000 in
theorem c_X6_isLetter {g : GG} {h : HH} {tk : Nat → Int} {n : Nat} (T : TP h tk n) {s : PF} (L : LAf tk (h 47) s) {c : Int} (hc : 0 ≤ edg c) (hc2 : c ≤ 122) : CeI mX6_isLetter g [vr 47, vi c] h (bi (s.2 = 0 ∧ tk s.1 = c)) := by
  refine cn_q (lv := [vr 47, vi c]) tX6_isLetter.1 rfl rfl (fun hR Q hQ => ?_)
  have l1 := L.1
  have hc3 : 0 ≤ c := by unfold edg at hc; split at hc <;> (try split at hc) <;> omega
  refine z_aload_n dX6_isLetter_0 rfl ?_
  refine z_getI fX6_165 dX6_isLetter_1 (by decide) rfl rfl (fun r1 => ?_)
  refine z_if_ne 27 dX6_isLetter_4 (by decide) (by omega) (fun c4 => ?_) (fun c4 => ?_)
  · refine z_iconst dX6_isLetter_27 ?_
    exact z_zreturn dX6_isLetter_28 rfl (by first | exact Or.inl rfl | exact Or.inr rfl | exact bi_01 _ | omega) (hQ _ _ ⟨_, rfl, (bi_f (fun q => by omega)), rfl⟩)
  · refine z_aload_n dX6_isLetter_7 rfl ?_
    have l0 : s.2 = 0 := by omega
    obtain ⟨l2, l3, l4, l5⟩ := L.2.2.1 l0
    refine z_getI fX6_162 dX6_isLetter_8 (by decide) rfl rfl (fun r8 => ?_)
    refine z_iconst dX6_isLetter_11 ?_
    refine z_icmp_ne 27 dX6_isLetter_12 (by decide) (by omega) (by omega) (fun c12 => ?_) (fun c12 => ?_)
    · refine z_iconst dX6_isLetter_27 ?_
      exact z_zreturn dX6_isLetter_28 rfl (by first | exact Or.inl rfl | exact Or.inr rfl | exact bi_01 _ | omega) (hQ _ _ ⟨_, rfl, (bi_f (fun q => c12 (by rw [l4, q.2]; exact kd_1.mpr hc))), rfl⟩)
    · refine z_aload_n dX6_isLetter_15 rfl ?_
      refine z_getI fX6_143 dX6_isLetter_16 (by decide) rfl rfl (fun r16 => ?_)
      refine z_iload_n dX6_isLetter_19 rfl ?_
      refine z_icmp_ne 27 dX6_isLetter_20 (by decide) (by omega) (by omega) (fun c20 => ?_) (fun c20 => ?_)
      · refine z_iconst dX6_isLetter_27 ?_
        exact z_zreturn dX6_isLetter_28 rfl (by first | exact Or.inl rfl | exact Or.inr rfl | exact bi_01 _ | omega) (hQ _ _ ⟨_, rfl, (bi_f (fun q => c20 (by rw [l3]; exact q.2))), rfl⟩)
      · refine z_iconst dX6_isLetter_23 ?_
        refine z_goto 28 dX6_isLetter_24 (by decide) ?_
        exact z_zreturn dX6_isLetter_28 rfl (by first | exact Or.inl rfl | exact Or.inr rfl | exact bi_01 _ | omega) (hQ _ _ ⟨_, rfl, (bi_t ⟨l0, by rw [← l3]; exact c20⟩), rfl⟩)
set_option maxRecDepth 100000 in
set_option maxHeartbeats 4000000 in
theorem c_X6_isStop {g : GG} {h : HH}  : CeI mX6_isStop g [vr 47] h (bi (h 47 10 = 3 ∧ h 47 11 = 59)) := by
  refine cn_q (lv := [vr 47]) tX6_isStop.1 rfl rfl (fun hR Q hQ => ?_)
  refine z_aload_n dX6_isStop_0 rfl ?_
  refine z_getI fX6_162 dX6_isStop_1 (by decide) rfl rfl (fun r1 => ?_)
  refine z_iconst dX6_isStop_4 ?_
  refine z_icmp_ne 21 dX6_isStop_5 (by decide) (by omega) (by omega) (fun c5 => ?_) (fun c5 => ?_)
  · refine z_iconst dX6_isStop_21 ?_
    exact z_zreturn dX6_isStop_22 rfl (by first | exact Or.inl rfl | exact Or.inr rfl | exact bi_01 _ | omega) (hQ _ _ ⟨_, rfl, (bi_f (fun q => c5 q.1)), rfl⟩)
  · refine z_aload_n dX6_isStop_8 rfl ?_
    refine z_getI fX6_143 dX6_isStop_9 (by decide) rfl rfl (fun r9 => ?_)
    refine z_bipush dX6_isStop_12 (by decide) ?_
    refine z_icmp_ne 21 dX6_isStop_14 (by decide) (by omega) (by omega) (fun c14 => ?_) (fun c14 => ?_)
    · refine z_iconst dX6_isStop_21 ?_
      exact z_zreturn dX6_isStop_22 rfl (by first | exact Or.inl rfl | exact Or.inr rfl | exact bi_01 _ | omega) (hQ _ _ ⟨_, rfl, (bi_f (fun q => c14 q.2)), rfl⟩)
    · refine z_iconst dX6_isStop_17 ?_
      refine z_goto 22 dX6_isStop_18 (by decide) ?_
      exact z_zreturn dX6_isStop_22 rfl (by first | exact Or.inl rfl | exact Or.inr rfl | exact bi_01 _ | omega) (hQ _ _ ⟨_, rfl, (bi_t ⟨c5, c14⟩), rfl⟩)
set_option maxRecDepth 100000 in
set_option maxHeartbeats 4000000 in
theorem c_X6_stop {g : GG} {h : HH} {tk : Nat → Int} {n : Nat} (T : TP h tk n) {s : PF} (L : LAf tk (h 47) s) : CnV mX6_stop g [vr 47] h (Pt h tk (tkS tk 59 s)) := by
  refine cn_q (lv := [vr 47]) tX6_stop.1 rfl rfl (fun hR Q hQ => ?_)
  have l1 := L.1
  refine z_aload_n dX6_stop_0 rfl ?_
  refine z_callV_eI (M := mX6_stop) [] tX6_isStop kX6_181 dX6_stop_1 ⟨by decide, rfl, _, _, rfl⟩ ⟨by decide, by decide⟩ rfl (Nat.le_of_ble_eq_true rfl) rfl c_X6_isStop ?_
  refine z_if_ne 12 dX6_stop_4 (by decide) (bi_r _) (fun c4 => ?_) (fun c4 => ?_)
  · have c4 := bi_ne.mp c4
    refine z_aload_n dX6_stop_12 rfl ?_
    refine z_callV_V (M := mX6_stop) [] tX6_goesOn kX6_178 dX6_stop_13 ⟨by decide, rfl, _, _, rfl⟩ ⟨by decide, by decide⟩ rfl (Nat.le_of_ble_eq_true rfl) rfl (c_X6_goesOn T L (fun q => by have := (L.2.2.1 q).2.1; omega)) (fun h13 q13 => ?_)
    exact z_return dX6_stop_16 rfl (hQ _ _ ⟨rfl, (by
  have e : goS s = tkS tk 59 s := by
    unfold goS tkS
    by_cases q : s.2 ≠ 0
    · rw [if_pos q, if_pos q]
    · rw [if_neg q, if_neg q, if_pos (by rw [← (L.2.2.1 (by omega)).2.1]; exact c4.2)]
  rw [← e]; exact q13)⟩)
  · have c4 := bi_eq.mp c4
    refine z_aload_n dX6_stop_7 rfl ?_
    refine z_iconst dX6_stop_8 ?_
    refine z_callV_V (M := mX6_stop) [_] tX6_bad kX6_174 dX6_stop_9 ⟨by decide, rfl, _, _, rfl⟩ ⟨by decide, by decide⟩ rfl (Nat.le_of_ble_eq_true rfl) rfl (c_X6_bad L (by decide)) (fun h9 q9 => ?_)
    refine z_aload_n dX6_stop_12 rfl ?_
    refine z_callV_V (M := mX6_stop) [] tX6_goesOn kX6_178 dX6_stop_13 ⟨by decide, rfl, _, _, rfl⟩ ⟨by decide, by decide⟩ rfl (Nat.le_of_ble_eq_true rfl) rfl (c_X6_goesOn (q9.tp T) q9.la (fun q => (bdS_0 (by decide) q).elim)) (fun h13 q13 => ?_)
    exact z_return dX6_stop_16 rfl (hQ _ _ ⟨rfl, (by
  have e : goS (bdS s 1) = tkS tk 59 s := by
    unfold goS bdS tkS
    by_cases q : s.2 ≠ 0
    · rw [if_pos q, if_pos q, if_pos q]
    · rw [if_neg q, if_neg q, if_pos (show (1 : Nat) ≠ 0 by decide), if_neg (fun r => c4 ⟨by rw [(L.2.2.1 (by omega)).2.2.1]; exact kd_59 r, by rw [(L.2.2.1 (by omega)).2.1]; exact r⟩)]
  rw [← e]; exact q9.tr q13)⟩)
set_option maxRecDepth 100000 in
set_option maxHeartbeats 4000000 in
theorem c_X6_digit {g : GG} {h : HH} {tk : Nat → Int} {n : Nat} (T : TP h tk n) {s : PF} (L : LAf tk (h 47) s) {lo hi : Int} (hl : 0 ≤ lo ∧ lo ≤ 9) (hh : -1 ≤ hi ∧ hi ≤ 9) : CnI mX6_digit g [vr 47, vi lo, vi hi] h (fun z h' => Pt h tk (tkD tk lo hi s).2 h' ∧ z = if (tkD tk lo hi s).2.2 = 0 then ((tkD tk lo hi s).1 : Int) else lo) := by
  refine cn_q (lv := [vr 47, vi lo, vi hi, vx]) tX6_digit.1 rfl rfl (fun hR Q hQ => ?_)
  have l1 := L.1
  have l9 := L.2.2.2
  have K39 : ∀ (h1 : HH) (s1 : PF), Pt h tk s1 h1 → (s1.2 = 0 → s1 = s ∧ 48 ≤ tk s.1 ∧ tk s.1 ≤ 57 ∧ lo ≤ tk s.1 - 48 ∧ tk s.1 - 48 ≤ hi) → (s1.2 ≠ 0 → tkD tk lo hi s = (0, s1)) → Z mX6_digit g 39 [vr 47, vi lo, vi hi, vx] [] h1 Q := by
    intro h1 s1 P1 k1 k2
    have L1 := P1.la
    have l2 := L1.1
    have l8 := L1.2.2.2
    refine z_aload_n dX6_digit_39 rfl ?_
    refine z_getI fX6_165 dX6_digit_40 (by decide) rfl rfl (fun r40 => ?_)
    refine z_if_ne 56 dX6_digit_43 (by decide) (by omega) (fun c43 => ?_) (fun c43 => ?_)
    · refine z_iload_n dX6_digit_56 rfl ?_
      refine z_istore_n dX6_digit_57 (by decide) rfl ?_
      refine z_aload_n dX6_digit_58 rfl ?_
      refine z_callV_V (M := mX6_digit) [] tX6_goesOn kX6_178 dX6_digit_59 ⟨by decide, rfl, _, _, rfl⟩ ⟨by decide, by decide⟩ rfl (Nat.le_of_ble_eq_true rfl) rfl (c_X6_goesOn (P1.tp T) L1 (fun q => by omega)) (fun h59 q59 => ?_)
      refine z_iload_n dX6_digit_62 rfl ?_
      exact z_ireturn dX6_digit_63 rfl (hQ _ _ ⟨_, rfl, (by
  have k4 := k2 (by omega)
  rw [k4]
  rw [show goS s1 = s1 from if_pos (by omega)] at q59
  exact ⟨P1.tr q59, (if_neg (by show ¬ s1.2 = 0; omega)).symm⟩)⟩)
    · refine z_aload_n dX6_digit_46 rfl ?_
      refine z_getI fX6_143 dX6_digit_47 (by decide) rfl rfl (fun r47 => ?_)
      refine z_bipush dX6_digit_50 (by decide) ?_
      refine z_isub dX6_digit_52 ?_
      refine z_goto 57 dX6_digit_53 (by decide) ?_
      refine z_istore_n dX6_digit_57 (by decide) rfl ?_
      refine z_aload_n dX6_digit_58 rfl ?_
      refine z_callV_V (M := mX6_digit) [] tX6_goesOn kX6_178 dX6_digit_59 ⟨by decide, rfl, _, _, rfl⟩ ⟨by decide, by decide⟩ rfl (Nat.le_of_ble_eq_true rfl) rfl (c_X6_goesOn (P1.tp T) L1 (fun q => by rw [(k1 q).1]; have := k1 q; omega)) (fun h59 q59 => ?_)
      refine z_iload_n dX6_digit_62 rfl ?_
      exact z_ireturn dX6_digit_63 rfl (hQ _ _ ⟨_, rfl, (by
  obtain ⟨e1, k3, k4, k5, k6⟩ := k1 (by omega)
  subst e1
  have m := L1.2.2.1 (by omega)
  have e2 : tkD tk lo hi s1 = ((tk s1.1 - 48).toNat, (s1.1 + 1, 0)) := by
    unfold tkD; rw [if_neg (by omega), if_neg (by omega), if_neg (by omega)]
  rw [e2]
  rw [show goS s1 = (s1.1 + 1, 0) from if_neg (by omega)] at q59
  exact ⟨P1.tr q59, by rw [if_pos rfl, m.2.1]; show _ = ((tk s1.1 - 48).toNat : Int); omega⟩)⟩)
  refine z_aload_n dX6_digit_0 rfl ?_
  refine z_getI fX6_162 dX6_digit_1 (by decide) rfl rfl (fun r1 => ?_)
  refine z_iconst dX6_digit_4 ?_
  refine z_icmp_eq 16 dX6_digit_5 (by decide) (by omega) (by omega) (fun c5 => ?_) (fun c5 => ?_)
  · refine z_aload_n dX6_digit_16 rfl ?_
    refine z_getI fX6_143 dX6_digit_17 (by decide) rfl rfl (fun r17 => ?_)
    refine z_bipush dX6_digit_20 (by decide) ?_
    refine z_isub dX6_digit_22 ?_
    refine z_i2l dX6_digit_23 (by omega) ?_
    refine z_iload_n dX6_digit_24 rfl ?_
    refine z_i2l dX6_digit_25 (by omega) ?_
    refine z_iload_n dX6_digit_26 rfl ?_
    refine z_i2l dX6_digit_27 (by omega) ?_
    refine z_callS_eI (M := mX6_digit) [_, _, _] tX6_in kX6_150 dX6_digit_28 ⟨by decide, by decide⟩ rfl (Nat.le_of_ble_eq_true rfl) rfl (c_X6_in (by omega) (by omega) (by omega)) ?_
    refine z_if_ne 39 dX6_digit_31 (by decide) (bi_r _) (fun c31 => ?_) (fun c31 => ?_)
    · have c31 := bi_ne.mp c31
      exact K39 h s (Pt.refl L) (fun q => by obtain ⟨m2, m3, m4, m5⟩ := L.2.2.1 q; rw [m3] at c31; have m6 := kd_2.mp (m4.symm.trans c5); exact ⟨rfl, by omega, by omega, by omega, by omega⟩) (fun q => by unfold tkD; rw [if_pos q])
    · have c31 := bi_eq.mp c31
      refine z_aload_n dX6_digit_34 rfl ?_
      refine z_iconst dX6_digit_35 ?_
      refine z_callV_V (M := mX6_digit) [_] tX6_bad kX6_174 dX6_digit_36 ⟨by decide, rfl, _, _, rfl⟩ ⟨by decide, by decide⟩ rfl (Nat.le_of_ble_eq_true rfl) rfl (c_X6_bad L (c := 2) (by decide)) (fun h36 q36 => ?_)
      exact K39 _ _ q36 (fun q => (bdS_0 (by decide) q).elim) (fun _ => tkD_b2 (fun q => by obtain ⟨m2, m3, m4, m5⟩ := L.2.2.1 q; rw [m3] at c31; have m6 := kd_2.mp (m4.symm.trans c5); exact ⟨m6, c31⟩))
  · refine z_aload_n dX6_digit_8 rfl ?_
    refine z_iconst dX6_digit_9 ?_
    refine z_callV_V (M := mX6_digit) [_] tX6_bad kX6_174 dX6_digit_10 ⟨by decide, rfl, _, _, rfl⟩ ⟨by decide, by decide⟩ rfl (Nat.le_of_ble_eq_true rfl) rfl (c_X6_bad L (c := 1) (by decide)) (fun h10 q10 => ?_)
    refine z_goto 39 dX6_digit_13 (by decide) ?_
    exact K39 _ _ q10 (fun q => (bdS_0 (by decide) q).elim) (fun _ => tkD_b1 (fun q r => by obtain ⟨m2, m3, m4, m5⟩ := L.2.2.1 q; exact c5 (by rw [m4]; exact kd_2.mpr r)))
set_option maxRecDepth 100000 in
set_option maxHeartbeats 4000000 in
theorem c_X6_told {g : GG} {h : HH} {b : Nat} (hb : isB b) {σ : SG} (W : WB σ) (R : RM (h b) σ) {z : Int} (hz : -1 ≤ z ∧ z ≤ 255) : CeI mX6_told g [vr b, vi z] h (tld σ z) := by
  refine cn_q (lv := [vr b, vi z, vx]) tX6_told.1 rfl rfl (fun hR Q hQ => ?_)
  have w1 := W.1
  have w2 := W.2.1
  have w3 := W.2.2.1
  refine z_iload_n dX6_told_0 rfl ?_
  refine z_i2l dX6_told_1 (by omega) ?_
  refine z_ldc2 (97) dX6_told_2 qX6_146 rfl ?_
  refine z_ldc2 (122) dX6_told_5 qX6_148 rfl ?_
  refine z_callS_eI (M := mX6_told) [_, _, _] tX6_in kX6_150 dX6_told_8 ⟨by decide, by decide⟩ rfl (Nat.le_of_ble_eq_true rfl) rfl (c_X6_in (by omega) (by omega) (by omega)) ?_
  refine z_if_eq 21 dX6_told_11 (by decide) (bi_r _) (fun c11 => ?_) (fun c11 => ?_)
  · have c11 := bi_eq.mp c11
    refine z_iload_n dX6_told_21 rfl ?_
    refine z_i2l dX6_told_22 (by omega) ?_
    refine z_ldc2 (65) dX6_told_23 qX6_154 rfl ?_
    refine z_ldc2 (90) dX6_told_26 qX6_156 rfl ?_
    refine z_callS_eI (M := mX6_told) [_, _, _] tX6_in kX6_150 dX6_told_29 ⟨by decide, by decide⟩ rfl (Nat.le_of_ble_eq_true rfl) rfl (c_X6_in (by omega) (by omega) (by omega)) ?_
    refine z_if_eq 42 dX6_told_32 (by decide) (bi_r _) (fun c32 => ?_) (fun c32 => ?_)
    · have c32 := bi_eq.mp c32
      refine z_bipush dX6_told_42 (by decide) ?_
      refine z_istore_n dX6_told_44 (by decide) rfl ?_
      refine z_iload_n dX6_told_45 rfl ?_
      refine z_aload_n dX6_told_46 rfl ?_
      refine z_iconst dX6_told_47 ?_
      refine z_iaload dX6_told_48 (ltB hb) (shpB hb) (by omega) (by omega) (by first | decide | omega) (fun r48 => ?_)
      rw [show h b (Int.toNat 1) = sE σ from rm_E R]
      refine z_icmp_lt 56 dX6_told_49 (by decide) (by omega) (by omega) (fun c49 => ?_) (fun c49 => ?_)
      · refine z_iload_n dX6_told_56 rfl ?_
        refine z_i2l dX6_told_57 (by omega) ?_
        refine z_ldc2 (97) dX6_told_58 qX6_146 rfl ?_
        refine z_ldc2 (122) dX6_told_61 qX6_148 rfl ?_
        refine z_callS_eI (M := mX6_told) [_, _, _] tX6_in kX6_150 dX6_told_64 ⟨by decide, by decide⟩ rfl (Nat.le_of_ble_eq_true rfl) rfl (c_X6_in (by omega) (by omega) (by omega)) ?_
        refine z_if_eq 76 dX6_told_67 (by decide) (bi_r _) (fun c67 => ?_) (fun c67 => ?_)
        · have c67 := bi_eq.mp c67
          refine z_iload_n dX6_told_76 rfl ?_
          refine z_ineg dX6_told_77 ?_
          refine z_iconst dX6_told_78 ?_
          refine z_isub dX6_told_79 ?_
          exact z_ireturn dX6_told_80 rfl (hQ _ _ ⟨_, rfl, (tld_any (by omega)), rfl⟩)
        · have c67 := bi_ne.mp c67
          refine z_iload_n dX6_told_70 rfl ?_
          refine z_iconst dX6_told_71 ?_
          refine z_iadd dX6_told_72 ?_
          refine z_goto 80 dX6_told_73 (by decide) ?_
          exact z_ireturn dX6_told_80 rfl (hQ _ _ ⟨_, rfl, (tld_any (by omega)), rfl⟩)
      · refine z_iconst dX6_told_52 ?_
        refine z_goto 80 dX6_told_53 (by decide) ?_
        exact z_ireturn dX6_told_80 rfl (hQ _ _ ⟨_, rfl, (tld_any (by omega)), rfl⟩)
    · have c32 := bi_ne.mp c32
      refine z_iload_n dX6_told_35 rfl ?_
      refine z_bipush dX6_told_36 (by decide) ?_
      refine z_isub dX6_told_38 ?_
      refine z_goto 44 dX6_told_39 (by decide) ?_
      refine z_istore_n dX6_told_44 (by decide) rfl ?_
      refine z_iload_n dX6_told_45 rfl ?_
      refine z_aload_n dX6_told_46 rfl ?_
      refine z_iconst dX6_told_47 ?_
      refine z_iaload dX6_told_48 (ltB hb) (shpB hb) (by omega) (by omega) (by first | decide | omega) (fun r48 => ?_)
      rw [show h b (Int.toNat 1) = sE σ from rm_E R]
      refine z_icmp_lt 56 dX6_told_49 (by decide) (by omega) (by omega) (fun c49 => ?_) (fun c49 => ?_)
      · refine z_iload_n dX6_told_56 rfl ?_
        refine z_i2l dX6_told_57 (by omega) ?_
        refine z_ldc2 (97) dX6_told_58 qX6_146 rfl ?_
        refine z_ldc2 (122) dX6_told_61 qX6_148 rfl ?_
        refine z_callS_eI (M := mX6_told) [_, _, _] tX6_in kX6_150 dX6_told_64 ⟨by decide, by decide⟩ rfl (Nat.le_of_ble_eq_true rfl) rfl (c_X6_in (by omega) (by omega) (by omega)) ?_
        refine z_if_eq 76 dX6_told_67 (by decide) (bi_r _) (fun c67 => ?_) (fun c67 => ?_)
        · have c67 := bi_eq.mp c67
          refine z_iload_n dX6_told_76 rfl ?_
          refine z_ineg dX6_told_77 ?_
          refine z_iconst dX6_told_78 ?_
          refine z_isub dX6_told_79 ?_
          exact z_ireturn dX6_told_80 rfl (hQ _ _ ⟨_, rfl, (tld_any (by omega)), rfl⟩)
        · have c67 := bi_ne.mp c67
          refine z_iload_n dX6_told_70 rfl ?_
          refine z_iconst dX6_told_71 ?_
          refine z_iadd dX6_told_72 ?_
          refine z_goto 80 dX6_told_73 (by decide) ?_
          exact z_ireturn dX6_told_80 rfl (hQ _ _ ⟨_, rfl, (tld_any (by omega)), rfl⟩)
      · refine z_iconst dX6_told_52 ?_
        refine z_goto 80 dX6_told_53 (by decide) ?_
        exact z_ireturn dX6_told_80 rfl (hQ _ _ ⟨_, rfl, (tld_any (by omega)), rfl⟩)
  · have c11 := bi_ne.mp c11
    refine z_iload_n dX6_told_14 rfl ?_
    refine z_bipush dX6_told_15 (by decide) ?_
    refine z_isub dX6_told_17 ?_
    refine z_goto 44 dX6_told_18 (by decide) ?_
    refine z_istore_n dX6_told_44 (by decide) rfl ?_
    refine z_iload_n dX6_told_45 rfl ?_
    refine z_aload_n dX6_told_46 rfl ?_
    refine z_iconst dX6_told_47 ?_
    refine z_iaload dX6_told_48 (ltB hb) (shpB hb) (by omega) (by omega) (by first | decide | omega) (fun r48 => ?_)
    rw [show h b (Int.toNat 1) = sE σ from rm_E R]
    refine z_icmp_lt 56 dX6_told_49 (by decide) (by omega) (by omega) (fun c49 => ?_) (fun c49 => ?_)
    · refine z_iload_n dX6_told_56 rfl ?_
      refine z_i2l dX6_told_57 (by omega) ?_
      refine z_ldc2 (97) dX6_told_58 qX6_146 rfl ?_
      refine z_ldc2 (122) dX6_told_61 qX6_148 rfl ?_
      refine z_callS_eI (M := mX6_told) [_, _, _] tX6_in kX6_150 dX6_told_64 ⟨by decide, by decide⟩ rfl (Nat.le_of_ble_eq_true rfl) rfl (c_X6_in (by omega) (by omega) (by omega)) ?_
      refine z_if_eq 76 dX6_told_67 (by decide) (bi_r _) (fun c67 => ?_) (fun c67 => ?_)
      · have c67 := bi_eq.mp c67
        refine z_iload_n dX6_told_76 rfl ?_
        refine z_ineg dX6_told_77 ?_
        refine z_iconst dX6_told_78 ?_
        refine z_isub dX6_told_79 ?_
        exact z_ireturn dX6_told_80 rfl (hQ _ _ ⟨_, rfl, (tld_any (by omega)), rfl⟩)
      · have c67 := bi_ne.mp c67
        refine z_iload_n dX6_told_70 rfl ?_
        refine z_iconst dX6_told_71 ?_
        refine z_iadd dX6_told_72 ?_
        refine z_goto 80 dX6_told_73 (by decide) ?_
        exact z_ireturn dX6_told_80 rfl (hQ _ _ ⟨_, rfl, (tld_any (by omega)), rfl⟩)
    · refine z_iconst dX6_told_52 ?_
      refine z_goto 80 dX6_told_53 (by decide) ?_
      exact z_ireturn dX6_told_80 rfl (hQ _ _ ⟨_, rfl, (tld_any (by omega)), rfl⟩)
set_option maxRecDepth 100000 in
set_option maxHeartbeats 4000000 in
theorem c_X6_isNext {g : GG} {h : HH} {b : Nat} (hb : isB b) {σ : SG} (W : WB σ) (R : RM (h b) σ) {F n : Nat} {le : Nat → Nat} {sg : Nat → Bool} (wl : WL (h b) σ F n le sg) {z : Int} : CeI mX6_isNext g [vr b, vi (F : Int), vi (tld σ z)] h (bi (apOK σ n le sg z)) := by
  refine cn_q (lv := [vr b, vi (F : Int), vi (tld σ z), vx]) tX6_isNext.1 rfl rfl (fun hR Q hQ => ?_)
  have w1 := W.1
  have w2 := W.2.1
  have w3 := W.2.2.1
  obtain ⟨wF, wn, wm, wk⟩ := id wl
  have tr : -27 ≤ tld σ z ∧ tld σ z ≤ 27 := by
    by_cases q : tld σ z = 0
    · omega
    · obtain ⟨e, y, he, ht, hc⟩ := tld_ne q; rw [ht]; exact lcd_r y (by omega)
  refine z_aload_n dX6_isNext_0 rfl ?_
  refine z_iload_n dX6_isNext_1 rfl ?_
  refine z_callS_eI (M := mX6_isNext) [_, _] tX6_many kX6_60 dX6_isNext_2 ⟨by decide, by decide⟩ rfl (Nat.le_of_ble_eq_true rfl) rfl (c_X6_many hb (f := F) wF) ?_
  rw [wm]
  refine z_istore_n dX6_isNext_5 (by decide) rfl ?_
  refine z_iload_n dX6_isNext_6 rfl ?_
  refine z_if_eq 43 dX6_isNext_7 (by decide) (by omega) (fun c7 => ?_) (fun c7 => ?_)
  · refine z_iconst dX6_isNext_43 ?_
    exact z_zreturn dX6_isNext_44 rfl (by first | exact Or.inl rfl | exact Or.inr rfl | exact bi_01 _ | omega) (hQ _ _ ⟨_, rfl, (bi_f (fun q => by obtain ⟨-, e, y, h1, h2, -⟩ := q; exact tld_0 w2 c7 h2 h1)), rfl⟩)
  · obtain ⟨e, y, he, ht, hc⟩ := tld_ne c7
    rw [ht] at tr ⊢
    refine z_iload_n dX6_isNext_10 rfl ?_
    refine z_iconst dX6_isNext_11 ?_
    refine z_icmp_ge 43 dX6_isNext_12 (by decide) (by omega) (by omega) (fun c12 => ?_) (fun c12 => ?_)
    · refine z_iconst dX6_isNext_43 ?_
      exact z_zreturn dX6_isNext_44 rfl (by first | exact Or.inl rfl | exact Or.inr rfl | exact bi_01 _ | omega) (hQ _ _ ⟨_, rfl, (bi_f (fun q => by have := q.1; omega)), rfl⟩)
    · refine z_iload_n dX6_isNext_15 rfl ?_
      refine z_if_eq 39 dX6_isNext_16 (by decide) (by omega) (fun c16 => ?_) (fun c16 => ?_)
      · refine z_iconst dX6_isNext_39 ?_
        refine z_goto 44 dX6_isNext_40 (by decide) ?_
        exact z_zreturn dX6_isNext_44 rfl (by first | exact Or.inl rfl | exact Or.inr rfl | exact bi_01 _ | omega) (hQ _ _ ⟨_, rfl, (bi_t ((ap_iff w2 he hc).mpr ⟨by omega, fun q => by omega⟩)), rfl⟩)
      · refine z_aload_n dX6_isNext_19 rfl ?_
        refine z_aload_n dX6_isNext_20 rfl ?_
        refine z_iload_n dX6_isNext_21 rfl ?_
        refine z_iload_n dX6_isNext_22 rfl ?_
        refine z_iconst dX6_isNext_23 ?_
        refine z_isub dX6_isNext_24 ?_
        rw [show (n : Int) - 1 = ((n - 1 : Nat) : Int) from by omega]
        refine z_callS_eI (M := mX6_isNext) [_, _, _] tX6_letter kX6_64 dX6_isNext_25 ⟨by decide, by decide⟩ rfl (Nat.le_of_ble_eq_true rfl) rfl (c_X6_letter hb (f := F) (k := n - 1) (by omega) (by omega)) ?_
        rw [(wk (n - 1) (by omega)).1]
        refine z_callS_eI (M := mX6_isNext) [_, _] tX6_endOf kX6_185 dX6_isNext_28 ⟨by decide, by decide⟩ rfl (Nat.le_of_ble_eq_true rfl) rfl (c_X6_endOf hb W R (sg (n - 1)) (wk (n - 1) (by omega)).2) ?_
        refine z_aload_n dX6_isNext_31 rfl ?_
        refine z_iload_n dX6_isNext_32 rfl ?_
        refine z_callS_eI (M := mX6_isNext) [_, _] tX6_beginOf kX6_188 dX6_isNext_33 ⟨by decide, by decide⟩ rfl (Nat.le_of_ble_eq_true rfl) rfl (c_X6_beginOf hb W R y he) ?_
        have bE : bgE σ e y < 2147483648 ∧ enE σ (le (n - 1)) (sg (n - 1)) < 2147483648 := ⟨mbE_r hR hb W R he y, meE_r hR hb W R (wk (n - 1) (by omega)).2 _⟩
        refine z_icmp_ne 43 dX6_isNext_36 (by decide) (by omega) (by omega) (fun c36 => ?_) (fun c36 => ?_)
        · refine z_iconst dX6_isNext_43 ?_
          exact z_zreturn dX6_isNext_44 rfl (by first | exact Or.inl rfl | exact Or.inr rfl | exact bi_01 _ | omega) (hQ _ _ ⟨_, rfl, (bi_f (fun q => by have := ((ap_iff w2 he hc).mp q).2 (by omega); omega)), rfl⟩)
        · refine z_iconst dX6_isNext_39 ?_
          refine z_goto 44 dX6_isNext_40 (by decide) ?_
          exact z_zreturn dX6_isNext_44 rfl (by first | exact Or.inl rfl | exact Or.inr rfl | exact bi_01 _ | omega) (hQ _ _ ⟨_, rfl, (bi_t ((ap_iff w2 he hc).mpr ⟨by omega, fun _ => by omega⟩)), rfl⟩)
set_option maxRecDepth 100000 in
set_option maxHeartbeats 4000000 in
theorem c_X6_isClosed {g : GG} {h : HH} {b : Nat} (hb : isB b) {σ : SG} (W : WB σ) (R : RM (h b) σ) {F n : Nat} {le : Nat → Nat} {sg : Nat → Bool} (wl : WL (h b) σ F n le sg) : CeI mX6_isClosed g [vr b, vi (F : Int)] h (bi (wcl σ n le sg)) := by
  refine cn_q (lv := [vr b, vi (F : Int), vx]) tX6_isClosed.1 rfl rfl (fun hR Q hQ => ?_)
  have w1 := W.1
  have w2 := W.2.1
  have w3 := W.2.2.1
  obtain ⟨wF, wn, wm, wk⟩ := id wl
  refine z_aload_n dX6_isClosed_0 rfl ?_
  refine z_iload_n dX6_isClosed_1 rfl ?_
  refine z_callS_eI (M := mX6_isClosed) [_, _] tX6_many kX6_60 dX6_isClosed_2 ⟨by decide, by decide⟩ rfl (Nat.le_of_ble_eq_true rfl) rfl (c_X6_many hb (f := F) wF) ?_
  rw [wm]
  refine z_istore_n dX6_isClosed_5 (by decide) rfl ?_
  refine z_iload_n dX6_isClosed_6 rfl ?_
  refine z_if_le 39 dX6_isClosed_7 (by decide) (by omega) (fun c7 => ?_) (fun c7 => ?_)
  · refine z_iconst dX6_isClosed_39 ?_
    exact z_zreturn dX6_isClosed_40 rfl (by first | exact Or.inl rfl | exact Or.inr rfl | exact bi_01 _ | omega) (hQ _ _ ⟨_, rfl, (bi_f (fun q => by have := q.1; omega)), rfl⟩)
  · refine z_aload_n dX6_isClosed_10 rfl ?_
    refine z_aload_n dX6_isClosed_11 rfl ?_
    refine z_iload_n dX6_isClosed_12 rfl ?_
    refine z_iload_n dX6_isClosed_13 rfl ?_
    refine z_iconst dX6_isClosed_14 ?_
    refine z_isub dX6_isClosed_15 ?_
    rw [show (n : Int) - 1 = ((n - 1 : Nat) : Int) from by omega]
    refine z_callS_eI (M := mX6_isClosed) [_, _, _] tX6_letter kX6_64 dX6_isClosed_16 ⟨by decide, by decide⟩ rfl (Nat.le_of_ble_eq_true rfl) rfl (c_X6_letter hb (f := F) (k := n - 1) (by omega) (by omega)) ?_
    rw [(wk (n - 1) (by omega)).1]
    refine z_callS_eI (M := mX6_isClosed) [_, _] tX6_endOf kX6_185 dX6_isClosed_19 ⟨by decide, by decide⟩ rfl (Nat.le_of_ble_eq_true rfl) rfl (c_X6_endOf hb W R (sg (n - 1)) (wk (n - 1) (by omega)).2) ?_
    refine z_aload_n dX6_isClosed_22 rfl ?_
    refine z_aload_n dX6_isClosed_23 rfl ?_
    refine z_iload_n dX6_isClosed_24 rfl ?_
    refine z_iconst dX6_isClosed_25 ?_
    refine z_callS_eI (M := mX6_isClosed) [_, _, _] tX6_letter kX6_64 dX6_isClosed_26 ⟨by decide, by decide⟩ rfl (Nat.le_of_ble_eq_true rfl) rfl (c_X6_letter hb (f := F) (k := 0) (by omega) (by omega)) ?_
    rw [(wk 0 (by omega)).1]
    refine z_callS_eI (M := mX6_isClosed) [_, _] tX6_beginOf kX6_188 dX6_isClosed_29 ⟨by decide, by decide⟩ rfl (Nat.le_of_ble_eq_true rfl) rfl (c_X6_beginOf hb W R (sg 0) (wk 0 (by omega)).2) ?_
    have bE : bgE σ (le 0) (sg 0) < 2147483648 ∧ enE σ (le (n - 1)) (sg (n - 1)) < 2147483648 := ⟨mbE_r hR hb W R (wk 0 (by omega)).2 _, meE_r hR hb W R (wk (n - 1) (by omega)).2 _⟩
    refine z_icmp_ne 39 dX6_isClosed_32 (by decide) (by omega) (by omega) (fun c32 => ?_) (fun c32 => ?_)
    · refine z_iconst dX6_isClosed_39 ?_
      exact z_zreturn dX6_isClosed_40 rfl (by first | exact Or.inl rfl | exact Or.inr rfl | exact bi_01 _ | omega) (hQ _ _ ⟨_, rfl, (bi_f (fun q => c32 (by rw [q.2]))), rfl⟩)
    · refine z_iconst dX6_isClosed_35 ?_
      refine z_goto 40 dX6_isClosed_36 (by decide) ?_
      exact z_zreturn dX6_isClosed_40 rfl (by first | exact Or.inl rfl | exact Or.inr rfl | exact bi_01 _ | omega) (hQ _ _ ⟨_, rfl, (bi_t ⟨by omega, by omega⟩), rfl⟩)
set_option maxRecDepth 100000 in
set_option maxHeartbeats 4000000 in
theorem c_X6_spells {g : GG} {h : HH} {b : Nat} (hb : isB b) {σ : SG} (W : WB σ) (R : RM (h b) σ) {F n : Nat} {le : Nat → Nat} {sg : Nat → Bool} (wl : WL (h b) σ F n le sg) {v : Int} (hv : R32 v) (hn : n < 4) : CnV mX6_spells g [vr b, vi (F : Int), vi v] h (fun h' => h' = setc h b (upn (upn (h b) (21 + 6 * F + 2 + n) v) (21 + 6 * F + 1) ((n : Int) + 1))) := by
  refine cn_q (lv := [vr b, vi (F : Int), vi v]) tX6_spells.1 rfl rfl (fun hR Q hQ => ?_)
  have w1 := W.1
  have w2 := W.2.1
  have w3 := W.2.2.1
  obtain ⟨wF, wn, wm, wk⟩ := id wl
  refine z_aload_n dX6_spells_0 rfl ?_
  refine z_bipush dX6_spells_1 (by decide) ?_
  refine z_bipush dX6_spells_3 (by decide) ?_
  refine z_iload_n dX6_spells_5 rfl ?_
  refine z_imul dX6_spells_6 ?_
  refine z_iadd dX6_spells_7 ?_
  refine z_iconst dX6_spells_8 ?_
  refine z_iadd dX6_spells_9 ?_
  refine z_aload_n dX6_spells_10 rfl ?_
  refine z_iload_n dX6_spells_11 rfl ?_
  refine z_callS_eI (M := mX6_spells) [_, _] tX6_many kX6_60 dX6_spells_12 ⟨by decide, by decide⟩ rfl (Nat.le_of_ble_eq_true rfl) rfl (c_X6_many hb (f := F) wF) ?_
  rw [wm]
  refine z_iadd dX6_spells_15 ?_
  refine z_iload_n dX6_spells_16 rfl ?_
  refine z_iastore dX6_spells_17 (ltB hb) (shpB hb) (by omega) (by omega) (by first | decide | omega) (by omega) ?_
  rw [up_n (i := 21 + 6 * F + 2 + n) (by omega)]
  refine z_aload_n dX6_spells_18 rfl ?_
  refine z_bipush dX6_spells_19 (by decide) ?_
  refine z_bipush dX6_spells_21 (by decide) ?_
  refine z_iload_n dX6_spells_23 rfl ?_
  refine z_imul dX6_spells_24 ?_
  refine z_iadd dX6_spells_25 ?_
  refine z_iconst dX6_spells_26 ?_
  refine z_iadd dX6_spells_27 ?_
  refine z_dup2 dX6_spells_28 rfl rfl ?_
  refine z_iaload dX6_spells_29 (ltB hb) (shpB hb) (by omega) (by omega) (by first | decide | omega) (fun r29 => ?_)
  have e29 : setc h b (upn (h b) (21 + 6 * F + 2 + n) v) b (21 + 6 * (F : Int) + 1).toNat = n := by rw [setc_at]; exact (ix (i := 21 + 6 * F + 1) (by omega)).trans ((upn_ne (by omega)).trans wm)
  rw [e29] at r29 ⊢
  refine z_iconst dX6_spells_30 ?_
  refine z_iadd dX6_spells_31 ?_
  refine z_iastore dX6_spells_32 (ltB hb) (shpB hb) (by omega) (by omega) (by first | decide | omega) (by omega) ?_
  rw [up_s (i := 21 + 6 * F + 1) (by omega)]
  exact z_return dX6_spells_33 rfl (hQ _ _ ⟨rfl, rfl⟩)

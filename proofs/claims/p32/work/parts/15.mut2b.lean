set_option maxRecDepth 100000 in
set_option maxHeartbeats 4000000 in
theorem c_X0_lowerLettersBehind {g : GG} {h : HH} {o : Nat} {σ : SG} (ho : isC o) (W : WB σ) (C : RC (h (o + 1)) σ) (hl : ∀ f k, f < sF σ → k < swl σ f → sle σ f k < 26) {d : Nat} (hd : d < 26) : CnV mX0_lowerLettersBehind g [vr o, vi (d : Int)] h (fun h' => ∃ f', h' = setc h (o + 1) f' ∧ RC f' (lowS σ d (sF σ) 0)) := by
  refine cn_q (lv := [vr o, vi (d : Int), vx, vx, vx]) tX0_lowerLettersBehind.1 rfl rfl (fun hR Q hQ => ?_)
  have w1 := W.1
  have w2 := W.2.1
  have w3 := W.2.2.1
  refine z_iconst dX0_lowerLettersBehind_0 ?_
  refine z_istore_n dX0_lowerLettersBehind_1 (by decide) rfl ?_
  have loop2 : ∀ (nw : Nat) (a : Nat) (f : Nat → Int), (a ≤ sF σ) → (RC f (lowS σ d a 0)) → sF σ - a < nw → Z mX0_lowerLettersBehind g 2 [vr o, vi (d : Int), vi (a : Int), vx, vx] [] (setc h (o + 1) f) Q := by
    intro nw
    induction nw with
    | zero => intro a f ha hC hn; exact absurd hn (Nat.not_lt_zero _)
    | succ nw ih2 =>
      intro a f ha hC hn
      refine z_iload_n dX0_lowerLettersBehind_2 rfl ?_
      refine z_aload_n dX0_lowerLettersBehind_3 rfl ?_
      refine z_iconst dX0_lowerLettersBehind_4 ?_
      refine z_callV_eI (M := mX0_lowerLettersBehind) [_] tX0_sizeOf kX0_21 dX0_lowerLettersBehind_5 (rcvC ho) ⟨by decide, by decide⟩ rfl (Nat.le_of_ble_eq_true rfl) rfl (s_X0_sizeF ho (σ := lowS σ d a 0) (by rw [setc_at]; exact hC)) ?_
      rw [show sF (lowS σ d a 0) = sF σ from rfl]
      refine z_icmp_ge 67 dX0_lowerLettersBehind_8 (by decide) (by omega) (by omega) (fun c8 => ?_) (fun c8 => ?_)
      · exact z_return dX0_lowerLettersBehind_67 rfl (hQ _ _ ⟨rfl, ⟨f, rfl, by rw [show sF σ = a from by omega]; exact hC⟩⟩)
      · refine z_iconst dX0_lowerLettersBehind_11 ?_
        refine z_istore_n dX0_lowerLettersBehind_12 (by decide) rfl ?_
        have loop13 : ∀ (nw : Nat) (k : Nat) (f : Nat → Int), (k ≤ swl σ a) → (RC f (lowS σ d a k)) → swl σ a - k < nw → Z mX0_lowerLettersBehind g 13 [vr o, vi (d : Int), vi (a : Int), vi (k : Int), vx] [] (setc h (o + 1) f) Q := by
          intro nw
          induction nw with
          | zero => intro k f hk hD hn; exact absurd hn (Nat.not_lt_zero _)
          | succ nw ih13 =>
            intro k f hk hD hn
            refine z_iload_n dX0_lowerLettersBehind_13 rfl ?_
            refine z_aload_n dX0_lowerLettersBehind_14 rfl ?_
            refine z_iload_n dX0_lowerLettersBehind_15 rfl ?_
            refine z_callV_eI (M := mX0_lowerLettersBehind) [_] tX0_wordSize kX0_65 dX0_lowerLettersBehind_16 (rcvC ho) ⟨by decide, by decide⟩ rfl (Nat.le_of_ble_eq_true rfl) rfl (s_X0_wordSize ho (W := WB_low W d a k) (σ := lowS σ d a k) (by rw [setc_at]; exact hD) (f := a) (by show a < sF σ; omega)) ?_
            rw [show swl (lowS σ d a k) a = swl σ a from rfl]
            have w4 := W.2.2.2 a (by omega)
            refine z_icmp_ge 61 dX0_lowerLettersBehind_19 (by decide) (by omega) (by omega) (fun c19 => ?_) (fun c19 => ?_)
            · refine z_iinc dX0_lowerLettersBehind_61 rfl (by decide) rfl ?_
              refine z_goto 2 dX0_lowerLettersBehind_64 (by decide) ?_
              refine z_forget 3 ?_
              exact ih2 (a + 1) f (by omega) (lowS_row (by rw [show swl σ a = k from by omega]; exact hD)) (by omega)
            · refine z_aload_n dX0_lowerLettersBehind_22 rfl ?_
              refine z_iload_n dX0_lowerLettersBehind_23 rfl ?_
              refine z_iload_n dX0_lowerLettersBehind_24 rfl ?_
              refine z_callV_eI (M := mX0_lowerLettersBehind) [_, _] tX0_letterAt kX0_68 dX0_lowerLettersBehind_25 (rcvC ho) ⟨by decide, by decide⟩ rfl (Nat.le_of_ble_eq_true rfl) rfl (s_X0_letterAt ho (W := WB_low W d a k) (σ := lowS σ d a k) (by rw [setc_at]; exact hD) (f := a) (k := k) (by show a < sF σ; omega) (by show k < swl σ a; omega)) ?_
              rw [show sle (lowS σ d a k) a k = sle σ a k from if_neg (by omega), show ssg (lowS σ d a k) a k = ssg σ a k from rfl]
              have l1 := hl a k (by omega) (by omega)
              have l2 := cod_r (ssg σ a k) l1
              refine z_istore dX0_lowerLettersBehind_28 (by decide) rfl ?_
              refine z_iload dX0_lowerLettersBehind_30 rfl ?_
              refine z_callS_eI (M := mX0_lowerLettersBehind) [_] tX4_edgeOf kX0_36 dX0_lowerLettersBehind_32 ⟨by decide, by decide⟩ rfl (Nat.le_of_ble_eq_true rfl) rfl (s_X4_edgeOf _ l1) ?_
              refine z_iload_n dX0_lowerLettersBehind_35 rfl ?_
              refine z_icmp_le 55 dX0_lowerLettersBehind_36 (by decide) (by omega) (by omega) (fun c36 => ?_) (fun c36 => ?_)
              · refine z_iinc dX0_lowerLettersBehind_55 rfl (by decide) rfl ?_
                refine z_goto 13 dX0_lowerLettersBehind_58 (by decide) ?_
                refine z_forget 4 ?_
                exact ih13 (k + 1) f (by omega) (lowS_skip (by omega) hD) (by omega)
              · refine z_aload_n dX0_lowerLettersBehind_39 rfl ?_
                refine z_bipush dX0_lowerLettersBehind_40 (by decide) ?_
                refine z_iload_n dX0_lowerLettersBehind_42 rfl ?_
                refine z_iconst dX0_lowerLettersBehind_43 ?_
                refine z_imul dX0_lowerLettersBehind_44 ?_
                refine z_iadd dX0_lowerLettersBehind_45 ?_
                refine z_iload_n dX0_lowerLettersBehind_46 rfl ?_
                refine z_iadd dX0_lowerLettersBehind_47 ?_
                refine z_iload dX0_lowerLettersBehind_48 rfl ?_
                refine z_iconst dX0_lowerLettersBehind_50 ?_
                refine z_isub dX0_lowerLettersBehind_51 ?_
                refine z_callV_V (M := mX0_lowerLettersBehind) [_, _] tX0_setSlot kX0_32 dX0_lowerLettersBehind_52 (rcvC ho) ⟨by decide, by decide⟩ rfl (Nat.le_of_ble_eq_true rfl) rfl (c_X0_setSlot ho (by omega) (by omega)) (fun h52 q52 => ?_)
                subst q52
                rw [ss_s (i := 29 + a * 4 + k) (by omega) (by omega)]
                refine z_iinc dX0_lowerLettersBehind_55 rfl (by decide) rfl ?_
                refine z_goto 13 dX0_lowerLettersBehind_58 (by decide) ?_
                refine z_forget 4 ?_
                exact ih13 (k + 1) (upn f (29 + a * 4 + k) (cod (sle σ a k) (ssg σ a k) - 1)) (by omega) (lowS_put W (by omega) (by omega) (by omega) hD) (by omega)
        exact loop13 _ 0 f (by omega) hC (Nat.lt_succ_self _)
  have e0 : setc h (o + 1) (h (o + 1)) = h := setc_self _ _
  have x0 := loop2 _ 0 (h (o + 1)) (by omega) (lowS_0 d C) (Nat.lt_succ_self _)
  rw [e0] at x0
  exact x0
set_option maxRecDepth 100000 in
set_option maxHeartbeats 4000000 in
theorem c_X0_removeEdge {g : GG} {h : HH} {o : Nat} {σ : SG} (ho : isC o) (W : WB σ) (C : RC (h (o + 1)) σ) (hl : ∀ f k, f < sF σ → k < swl σ f → sle σ f k < 26) {d : Nat} (hd : d < sE σ) : CnV mX0_removeEdge g [vr o, vi (d : Int)] h (fun h' => ∃ f', h' = setc h (o + 1) f' ∧ RC f' (dropE σ d)) := by
  refine cn_q (lv := [vr o, vi (d : Int), vx, vx, vx]) tX0_removeEdge.1 rfl rfl (fun hR Q hQ => ?_)
  have w1 := W.1
  have w2 := W.2.1
  have w3 := W.2.2.1
  refine z_aload_n dX0_removeEdge_0 rfl ?_
  refine z_iconst dX0_removeEdge_1 ?_
  refine z_callV_eI (M := mX0_removeEdge) [_] tX0_sizeOf kX0_21 dX0_removeEdge_2 (rcvC ho) ⟨by decide, by decide⟩ rfl (Nat.le_of_ble_eq_true rfl) rfl (s_X0_sizeE ho C) ?_
  refine z_iconst dX0_removeEdge_5 ?_
  refine z_isub dX0_removeEdge_6 ?_
  refine z_istore_n dX0_removeEdge_7 (by decide) rfl ?_
  refine z_iload_n dX0_removeEdge_8 rfl ?_
  refine z_istore_n dX0_removeEdge_9 (by decide) rfl ?_
  have loop10 : ∀ (nw : Nat) (e : Nat), (d ≤ e) → (e ≤ sE σ - 1) → sE σ - 1 - e < nw → Z mX0_removeEdge g 10 [vr o, vi (d : Int), vi ((sE σ : Int) - 1), vi (e : Int), vx] [] (setc h (o + 1) (shE (h (o + 1)) d e)) Q := by
    intro nw
    induction nw with
    | zero => intro e he he2 hn; exact absurd hn (Nat.not_lt_zero _)
    | succ nw ih10 =>
      intro e he he2 hn
      refine z_iload_n dX0_removeEdge_10 rfl ?_
      refine z_iload_n dX0_removeEdge_11 rfl ?_
      refine z_icmp_ge 95 dX0_removeEdge_12 (by decide) (by omega) (by omega) (fun c12 => ?_) (fun c12 => ?_)
      · refine z_aload_n dX0_removeEdge_95 rfl ?_
        refine z_iconst dX0_removeEdge_96 ?_
        refine z_iload_n dX0_removeEdge_97 rfl ?_
        refine z_callV_V (M := mX0_removeEdge) [_, _] tX0_setSlot kX0_32 dX0_removeEdge_98 (rcvC ho) ⟨by decide, by decide⟩ rfl (Nat.le_of_ble_eq_true rfl) rfl (c_X0_setSlot ho (by omega) (by omega)) (fun h98 q98 => ?_)
        subst q98
        rw [ss_s (i := 1) (by omega) (by omega)]
        have hX := rc_cutE W C hd
        rw [show sE σ - 1 = e from by omega] at hX
        refine z_aload_n dX0_removeEdge_101 rfl ?_
        refine z_iload_n dX0_removeEdge_102 rfl ?_
        refine z_callV_V (M := mX0_removeEdge) [_] tX0_lowerLettersBehind kX0_77 dX0_removeEdge_103 (rcvC ho) ⟨by decide, by decide⟩ rfl (Nat.le_of_ble_eq_true rfl) rfl (c_X0_lowerLettersBehind ho (WB_cut W d) (by rw [setc_at]; exact hX) hl (d := d) (by omega)) (fun h103 q103 => ?_)
        exact z_return dX0_removeEdge_106 rfl (hQ _ _ ⟨rfl, (by
  obtain ⟨f', q1, q2⟩ := q103
  exact ⟨f', by rw [q1, setc_setc], q2⟩)⟩)
      · refine z_aload_n dX0_removeEdge_15 rfl ?_
        refine z_iconst dX0_removeEdge_16 ?_
        refine z_iload_n dX0_removeEdge_17 rfl ?_
        refine z_iadd dX0_removeEdge_18 ?_
        refine z_aload_n dX0_removeEdge_19 rfl ?_
        refine z_iload_n dX0_removeEdge_20 rfl ?_
        refine z_iconst dX0_removeEdge_21 ?_
        refine z_iadd dX0_removeEdge_22 ?_
        refine z_callV_eI (M := mX0_removeEdge) [_] tX0_fromOf kX0_48 dX0_removeEdge_23 (rcvC ho) ⟨by decide, by decide⟩ rfl (Nat.le_of_ble_eq_true rfl) rfl (c_X0_fromOf ho (by omega)) ?_
        rw [sl_s (i := 3 + e + 1) (by omega) (by omega)]
        refine z_RR (fun hR1 => ?_)
        have r1 := hR1.2.1 (o + 1) (by rw [shpS ho]; exact Or.inl rfl) (3 + e + 1)
        rw [setc_at] at r1
        refine z_callV_V (M := mX0_removeEdge) [_, _] tX0_setSlot kX0_32 dX0_removeEdge_26 (rcvC ho) ⟨by decide, by decide⟩ rfl (Nat.le_of_ble_eq_true rfl) rfl (c_X0_setSlot ho (by omega) (by omega)) (fun h26 q26 => ?_)
        subst q26
        rw [ss_s (i := 3 + e) (by omega) (by omega)]
        refine z_aload_n dX0_removeEdge_29 rfl ?_
        refine z_bipush dX0_removeEdge_30 (by decide) ?_
        refine z_iload_n dX0_removeEdge_32 rfl ?_
        refine z_iadd dX0_removeEdge_33 ?_
        refine z_aload_n dX0_removeEdge_34 rfl ?_
        refine z_iload_n dX0_removeEdge_35 rfl ?_
        refine z_iconst dX0_removeEdge_36 ?_
        refine z_iadd dX0_removeEdge_37 ?_
        refine z_callV_eI (M := mX0_removeEdge) [_] tX0_toOf kX0_45 dX0_removeEdge_38 (rcvC ho) ⟨by decide, by decide⟩ rfl (Nat.le_of_ble_eq_true rfl) rfl (c_X0_toOf ho (by omega)) ?_
        rw [sl_s (i := 9 + e + 1) (by omega) (by omega)]
        refine z_RR (fun hR1 => ?_)
        have r1 := hR1.2.1 (o + 1) (by rw [shpS ho]; exact Or.inl rfl) (9 + e + 1)
        rw [setc_at] at r1
        refine z_callV_V (M := mX0_removeEdge) [_, _] tX0_setSlot kX0_32 dX0_removeEdge_41 (rcvC ho) ⟨by decide, by decide⟩ rfl (Nat.le_of_ble_eq_true rfl) rfl (c_X0_setSlot ho (by omega) (by omega)) (fun h41 q41 => ?_)
        subst q41
        rw [ss_s (i := 9 + e) (by omega) (by omega)]
        refine z_aload_n dX0_removeEdge_44 rfl ?_
        refine z_iconst dX0_removeEdge_45 ?_
        refine z_iload_n dX0_removeEdge_46 rfl ?_
        refine z_aload_n dX0_removeEdge_47 rfl ?_
        refine z_iconst dX0_removeEdge_48 ?_
        refine z_iload_n dX0_removeEdge_49 rfl ?_
        refine z_iconst dX0_removeEdge_50 ?_
        refine z_iadd dX0_removeEdge_51 ?_
        refine z_callV_eI (M := mX0_removeEdge) [_, _] tX0_weightOf kX0_71 dX0_removeEdge_52 (rcvC ho) ⟨by decide, by decide⟩ rfl (Nat.le_of_ble_eq_true rfl) rfl (c_X0_weightOf ho (by omega) (by omega)) ?_
        rw [if_pos rfl]
        rw [sl_s (i := 15 + e + 1) (by omega) (by omega)]
        refine z_RR (fun hR1 => ?_)
        have r1 := hR1.2.1 (o + 1) (by rw [shpS ho]; exact Or.inl rfl) (15 + e + 1)
        rw [setc_at] at r1
        refine z_callV_V (M := mX0_removeEdge) [_, _, _] tX0_setWeight kX0_51 dX0_removeEdge_55 (rcvC ho) ⟨by decide, by decide⟩ rfl (Nat.le_of_ble_eq_true rfl) rfl (c_X0_setWeight ho (by omega) (by omega) (by omega)) (fun h55 q55 => ?_)
        rw [if_pos rfl] at q55
        subst q55
        rw [ss_s (i := 15 + e) (by omega) (by omega)]
        refine z_iconst dX0_removeEdge_58 ?_
        refine z_istore dX0_removeEdge_59 (by decide) rfl ?_
        refine z_iload dX0_removeEdge_61 rfl ?_
        refine z_iconst dX0_removeEdge_63 ?_
        refine z_icmp_ge 89 dX0_removeEdge_64 (by decide) (by omega) (by omega) (fun c64 => ?_) (fun c64 => ?_)
        · omega
        · refine z_aload_n dX0_removeEdge_67 rfl ?_
          refine z_iload dX0_removeEdge_68 rfl ?_
          refine z_iload_n dX0_removeEdge_70 rfl ?_
          refine z_aload_n dX0_removeEdge_71 rfl ?_
          refine z_iload dX0_removeEdge_72 rfl ?_
          refine z_iload_n dX0_removeEdge_74 rfl ?_
          refine z_iconst dX0_removeEdge_75 ?_
          refine z_iadd dX0_removeEdge_76 ?_
          refine z_callV_eI (M := mX0_removeEdge) [_, _] tX0_numberAt kX0_74 dX0_removeEdge_77 (rcvC ho) ⟨by decide, by decide⟩ rfl (Nat.le_of_ble_eq_true rfl) rfl (c_X0_numberAt ho (by omega) (by omega)) ?_
          rw [sl_s (i := 45 + e + 1) (by omega) (by omega)]
          refine z_RR (fun hR1 => ?_)
          have r1 := hR1.2.1 (o + 1) (by rw [shpS ho]; exact Or.inl rfl) (45 + e + 1)
          rw [setc_at] at r1
          refine z_callV_V (M := mX0_removeEdge) [_, _, _] tX0_setNumber kX0_55 dX0_removeEdge_80 (rcvC ho) ⟨by decide, by decide⟩ rfl (Nat.le_of_ble_eq_true rfl) rfl (c_X0_setNumber ho (by omega) (by omega) (by omega)) (fun h80 q80 => ?_)
          subst q80
          rw [ss_s (i := 45 + e) (by omega) (by omega)]
          refine z_iinc dX0_removeEdge_83 rfl (by decide) rfl ?_
          refine z_goto 61 dX0_removeEdge_86 (by decide) ?_
          refine z_iload dX0_removeEdge_61 rfl ?_
          refine z_iconst dX0_removeEdge_63 ?_
          refine z_icmp_ge 89 dX0_removeEdge_64 (by decide) (by omega) (by omega) (fun c64 => ?_) (fun c64 => ?_)
          · omega
          · refine z_aload_n dX0_removeEdge_67 rfl ?_
            refine z_iload dX0_removeEdge_68 rfl ?_
            refine z_iload_n dX0_removeEdge_70 rfl ?_
            refine z_aload_n dX0_removeEdge_71 rfl ?_
            refine z_iload dX0_removeEdge_72 rfl ?_
            refine z_iload_n dX0_removeEdge_74 rfl ?_
            refine z_iconst dX0_removeEdge_75 ?_
            refine z_iadd dX0_removeEdge_76 ?_
            refine z_callV_eI (M := mX0_removeEdge) [_, _] tX0_numberAt kX0_74 dX0_removeEdge_77 (rcvC ho) ⟨by decide, by decide⟩ rfl (Nat.le_of_ble_eq_true rfl) rfl (c_X0_numberAt ho (by omega) (by omega)) ?_
            rw [sl_s (i := 51 + e + 1) (by omega) (by omega)]
            refine z_RR (fun hR1 => ?_)
            have r1 := hR1.2.1 (o + 1) (by rw [shpS ho]; exact Or.inl rfl) (51 + e + 1)
            rw [setc_at] at r1
            refine z_callV_V (M := mX0_removeEdge) [_, _, _] tX0_setNumber kX0_55 dX0_removeEdge_80 (rcvC ho) ⟨by decide, by decide⟩ rfl (Nat.le_of_ble_eq_true rfl) rfl (c_X0_setNumber ho (by omega) (by omega) (by omega)) (fun h80 q80 => ?_)
            subst q80
            rw [ss_s (i := 51 + e) (by omega) (by omega)]
            refine z_iinc dX0_removeEdge_83 rfl (by decide) rfl ?_
            refine z_goto 61 dX0_removeEdge_86 (by decide) ?_
            refine z_iload dX0_removeEdge_61 rfl ?_
            refine z_iconst dX0_removeEdge_63 ?_
            refine z_icmp_ge 89 dX0_removeEdge_64 (by decide) (by omega) (by omega) (fun c64 => ?_) (fun c64 => ?_)
            · omega
            · refine z_aload_n dX0_removeEdge_67 rfl ?_
              refine z_iload dX0_removeEdge_68 rfl ?_
              refine z_iload_n dX0_removeEdge_70 rfl ?_
              refine z_aload_n dX0_removeEdge_71 rfl ?_
              refine z_iload dX0_removeEdge_72 rfl ?_
              refine z_iload_n dX0_removeEdge_74 rfl ?_
              refine z_iconst dX0_removeEdge_75 ?_
              refine z_iadd dX0_removeEdge_76 ?_
              refine z_callV_eI (M := mX0_removeEdge) [_, _] tX0_numberAt kX0_74 dX0_removeEdge_77 (rcvC ho) ⟨by decide, by decide⟩ rfl (Nat.le_of_ble_eq_true rfl) rfl (c_X0_numberAt ho (by omega) (by omega)) ?_
              rw [sl_s (i := 57 + e + 1) (by omega) (by omega)]
              refine z_RR (fun hR1 => ?_)
              have r1 := hR1.2.1 (o + 1) (by rw [shpS ho]; exact Or.inl rfl) (57 + e + 1)
              rw [setc_at] at r1
              refine z_callV_V (M := mX0_removeEdge) [_, _, _] tX0_setNumber kX0_55 dX0_removeEdge_80 (rcvC ho) ⟨by decide, by decide⟩ rfl (Nat.le_of_ble_eq_true rfl) rfl (c_X0_setNumber ho (by omega) (by omega) (by omega)) (fun h80 q80 => ?_)
              subst q80
              rw [ss_s (i := 57 + e) (by omega) (by omega)]
              refine z_iinc dX0_removeEdge_83 rfl (by decide) rfl ?_
              refine z_goto 61 dX0_removeEdge_86 (by decide) ?_
              refine z_iload dX0_removeEdge_61 rfl ?_
              refine z_iconst dX0_removeEdge_63 ?_
              refine z_icmp_ge 89 dX0_removeEdge_64 (by decide) (by omega) (by omega) (fun c64 => ?_) (fun c64 => ?_)
              · refine z_iinc dX0_removeEdge_89 rfl (by decide) rfl ?_
                refine z_goto 10 dX0_removeEdge_92 (by decide) ?_
                refine z_forget 4 ?_
                have e1 := shE_step (h (o + 1)) (d := d) (e := e) (by omega) (by omega)
                unfold upc at e1
                rw [e1]
                exact ih10 (e + 1) (by omega) (by omega) (by omega)
              · omega
  have e0 : setc h (o + 1) (shE (h (o + 1)) d d) = h := by rw [shE_0, setc_self]
  have x0 := loop10 _ d (by omega) (by omega) (Nat.lt_succ_self _)
  rw [e0] at x0
  exact x0
set_option maxRecDepth 100000 in
set_option maxHeartbeats 4000000 in
theorem c_X0_removeFace {g : GG} {h : HH} {o : Nat} {σ : SG} (ho : isC o) (W : WB σ) (C : RC (h (o + 1)) σ) {d : Nat} (hd : d < sF σ) : CnV mX0_removeFace g [vr o, vi (d : Int)] h (fun h' => ∃ f', h' = setc h (o + 1) f' ∧ RC f' (dropF σ d)) := by
  refine cn_q (lv := [vr o, vi (d : Int), vx, vx, vx]) tX0_removeFace.1 rfl rfl (fun hR Q hQ => ?_)
  have w1 := W.1
  have w2 := W.2.1
  have w3 := W.2.2.1
  refine z_aload_n dX0_removeFace_0 rfl ?_
  refine z_iconst dX0_removeFace_1 ?_
  refine z_callV_eI (M := mX0_removeFace) [_] tX0_sizeOf kX0_21 dX0_removeFace_2 (rcvC ho) ⟨by decide, by decide⟩ rfl (Nat.le_of_ble_eq_true rfl) rfl (s_X0_sizeF ho C) ?_
  refine z_iconst dX0_removeFace_5 ?_
  refine z_isub dX0_removeFace_6 ?_
  refine z_istore_n dX0_removeFace_7 (by decide) rfl ?_
  refine z_iload_n dX0_removeFace_8 rfl ?_
  refine z_istore_n dX0_removeFace_9 (by decide) rfl ?_
  have loop10 : ∀ (nw : Nat) (e : Nat), (d ≤ e) → (e ≤ sF σ - 1) → sF σ - 1 - e < nw → Z mX0_removeFace g 10 [vr o, vi (d : Int), vi ((sF σ : Int) - 1), vi (e : Int), vx] [] (setc h (o + 1) (shF (h (o + 1)) d e)) Q := by
    intro nw
    induction nw with
    | zero => intro e he he2 hn; exact absurd hn (Nat.not_lt_zero _)
    | succ nw ih10 =>
      intro e he he2 hn
      refine z_iload_n dX0_removeFace_10 rfl ?_
      refine z_iload_n dX0_removeFace_11 rfl ?_
      refine z_icmp_ge 87 dX0_removeFace_12 (by decide) (by omega) (by omega) (fun c12 => ?_) (fun c12 => ?_)
      · refine z_aload_n dX0_removeFace_87 rfl ?_
        refine z_iconst dX0_removeFace_88 ?_
        refine z_iload_n dX0_removeFace_89 rfl ?_
        refine z_callV_V (M := mX0_removeFace) [_, _] tX0_setSlot kX0_32 dX0_removeFace_90 (rcvC ho) ⟨by decide, by decide⟩ rfl (Nat.le_of_ble_eq_true rfl) rfl (c_X0_setSlot ho (by omega) (by omega)) (fun h90 q90 => ?_)
        subst q90
        rw [ss_s (i := 2) (by omega) (by omega)]
        exact z_return dX0_removeFace_93 rfl (hQ _ _ ⟨rfl, ⟨_, rfl, by rw [show e = sF σ - 1 from by omega]; exact rc_dropF W C hd⟩⟩)
      · refine z_aload_n dX0_removeFace_15 rfl ?_
        refine z_iconst dX0_removeFace_16 ?_
        refine z_iload_n dX0_removeFace_17 rfl ?_
        refine z_aload_n dX0_removeFace_18 rfl ?_
        refine z_iconst dX0_removeFace_19 ?_
        refine z_iload_n dX0_removeFace_20 rfl ?_
        refine z_iconst dX0_removeFace_21 ?_
        refine z_iadd dX0_removeFace_22 ?_
        refine z_callV_eI (M := mX0_removeFace) [_, _] tX0_weightOf kX0_71 dX0_removeFace_23 (rcvC ho) ⟨by decide, by decide⟩ rfl (Nat.le_of_ble_eq_true rfl) rfl (c_X0_weightOf ho (by omega) (by omega)) ?_
        rw [if_neg (by decide)]
        rw [sl_s (i := 21 + e + 1) (by omega) (by omega)]
        refine z_RR (fun hR1 => ?_)
        have r1 := hR1.2.1 (o + 1) (by rw [shpS ho]; exact Or.inl rfl) (21 + e + 1)
        rw [setc_at] at r1
        refine z_callV_V (M := mX0_removeFace) [_, _, _] tX0_setWeight kX0_51 dX0_removeFace_26 (rcvC ho) ⟨by decide, by decide⟩ rfl (Nat.le_of_ble_eq_true rfl) rfl (c_X0_setWeight ho (by omega) (by omega) (by omega)) (fun h26 q26 => ?_)
        rw [if_neg (by decide)] at q26
        subst q26
        rw [ss_s (i := 21 + e) (by omega) (by omega)]
        refine z_aload_n dX0_removeFace_29 rfl ?_
        refine z_bipush dX0_removeFace_30 (by decide) ?_
        refine z_iload_n dX0_removeFace_32 rfl ?_
        refine z_iadd dX0_removeFace_33 ?_
        refine z_aload_n dX0_removeFace_34 rfl ?_
        refine z_iload_n dX0_removeFace_35 rfl ?_
        refine z_iconst dX0_removeFace_36 ?_
        refine z_iadd dX0_removeFace_37 ?_
        refine z_callV_eI (M := mX0_removeFace) [_] tX0_wordSize kX0_65 dX0_removeFace_38 (rcvC ho) ⟨by decide, by decide⟩ rfl (Nat.le_of_ble_eq_true rfl) rfl (c_X0_wordSize ho (by omega)) ?_
        rw [sl_s (i := 25 + e + 1) (by omega) (by omega)]
        refine z_RR (fun hR1 => ?_)
        have r1 := hR1.2.1 (o + 1) (by rw [shpS ho]; exact Or.inl rfl) (25 + e + 1)
        rw [setc_at] at r1
        refine z_callV_V (M := mX0_removeFace) [_, _] tX0_setSlot kX0_32 dX0_removeFace_41 (rcvC ho) ⟨by decide, by decide⟩ rfl (Nat.le_of_ble_eq_true rfl) rfl (c_X0_setSlot ho (by omega) (by omega)) (fun h41 q41 => ?_)
        subst q41
        rw [ss_s (i := 25 + e) (by omega) (by omega)]
        refine z_iconst dX0_removeFace_44 ?_
        refine z_istore dX0_removeFace_45 (by decide) rfl ?_
        refine z_iload dX0_removeFace_47 rfl ?_
        refine z_iconst dX0_removeFace_49 ?_
        refine z_icmp_ge 81 dX0_removeFace_50 (by decide) (by omega) (by omega) (fun c50 => ?_) (fun c50 => ?_)
        · omega
        · refine z_aload_n dX0_removeFace_53 rfl ?_
          refine z_bipush dX0_removeFace_54 (by decide) ?_
          refine z_iload_n dX0_removeFace_56 rfl ?_
          refine z_iconst dX0_removeFace_57 ?_
          refine z_imul dX0_removeFace_58 ?_
          refine z_iadd dX0_removeFace_59 ?_
          refine z_iload dX0_removeFace_60 rfl ?_
          refine z_iadd dX0_removeFace_62 ?_
          refine z_aload_n dX0_removeFace_63 rfl ?_
          refine z_iload_n dX0_removeFace_64 rfl ?_
          refine z_iconst dX0_removeFace_65 ?_
          refine z_iadd dX0_removeFace_66 ?_
          refine z_iload dX0_removeFace_67 rfl ?_
          refine z_callV_eI (M := mX0_removeFace) [_, _] tX0_letterAt kX0_68 dX0_removeFace_69 (rcvC ho) ⟨by decide, by decide⟩ rfl (Nat.le_of_ble_eq_true rfl) rfl (c_X0_letterAt ho (by omega) (by omega)) ?_
          rw [sl_s (i := 29 + 4 * e + 0 + 4) (by omega) (by omega)]
          refine z_RR (fun hR1 => ?_)
          have r1 := hR1.2.1 (o + 1) (by rw [shpS ho]; exact Or.inl rfl) (29 + 4 * e + 0 + 4)
          rw [setc_at] at r1
          refine z_callV_V (M := mX0_removeFace) [_, _] tX0_setSlot kX0_32 dX0_removeFace_72 (rcvC ho) ⟨by decide, by decide⟩ rfl (Nat.le_of_ble_eq_true rfl) rfl (c_X0_setSlot ho (by omega) (by omega)) (fun h72 q72 => ?_)
          subst q72
          rw [ss_s (i := 29 + 4 * e + 0) (by omega) (by omega)]
          refine z_iinc dX0_removeFace_75 rfl (by decide) rfl ?_
          refine z_goto 47 dX0_removeFace_78 (by decide) ?_
          refine z_iload dX0_removeFace_47 rfl ?_
          refine z_iconst dX0_removeFace_49 ?_
          refine z_icmp_ge 81 dX0_removeFace_50 (by decide) (by omega) (by omega) (fun c50 => ?_) (fun c50 => ?_)
          · omega
          · refine z_aload_n dX0_removeFace_53 rfl ?_
            refine z_bipush dX0_removeFace_54 (by decide) ?_
            refine z_iload_n dX0_removeFace_56 rfl ?_
            refine z_iconst dX0_removeFace_57 ?_
            refine z_imul dX0_removeFace_58 ?_
            refine z_iadd dX0_removeFace_59 ?_
            refine z_iload dX0_removeFace_60 rfl ?_
            refine z_iadd dX0_removeFace_62 ?_
            refine z_aload_n dX0_removeFace_63 rfl ?_
            refine z_iload_n dX0_removeFace_64 rfl ?_
            refine z_iconst dX0_removeFace_65 ?_
            refine z_iadd dX0_removeFace_66 ?_
            refine z_iload dX0_removeFace_67 rfl ?_
            refine z_callV_eI (M := mX0_removeFace) [_, _] tX0_letterAt kX0_68 dX0_removeFace_69 (rcvC ho) ⟨by decide, by decide⟩ rfl (Nat.le_of_ble_eq_true rfl) rfl (c_X0_letterAt ho (by omega) (by omega)) ?_
            rw [sl_s (i := 29 + 4 * e + 1 + 4) (by omega) (by omega)]
            refine z_RR (fun hR1 => ?_)
            have r1 := hR1.2.1 (o + 1) (by rw [shpS ho]; exact Or.inl rfl) (29 + 4 * e + 1 + 4)
            rw [setc_at] at r1
            refine z_callV_V (M := mX0_removeFace) [_, _] tX0_setSlot kX0_32 dX0_removeFace_72 (rcvC ho) ⟨by decide, by decide⟩ rfl (Nat.le_of_ble_eq_true rfl) rfl (c_X0_setSlot ho (by omega) (by omega)) (fun h72 q72 => ?_)
            subst q72
            rw [ss_s (i := 29 + 4 * e + 1) (by omega) (by omega)]
            refine z_iinc dX0_removeFace_75 rfl (by decide) rfl ?_
            refine z_goto 47 dX0_removeFace_78 (by decide) ?_
            refine z_iload dX0_removeFace_47 rfl ?_
            refine z_iconst dX0_removeFace_49 ?_
            refine z_icmp_ge 81 dX0_removeFace_50 (by decide) (by omega) (by omega) (fun c50 => ?_) (fun c50 => ?_)
            · omega
            · refine z_aload_n dX0_removeFace_53 rfl ?_
              refine z_bipush dX0_removeFace_54 (by decide) ?_
              refine z_iload_n dX0_removeFace_56 rfl ?_
              refine z_iconst dX0_removeFace_57 ?_
              refine z_imul dX0_removeFace_58 ?_
              refine z_iadd dX0_removeFace_59 ?_
              refine z_iload dX0_removeFace_60 rfl ?_
              refine z_iadd dX0_removeFace_62 ?_
              refine z_aload_n dX0_removeFace_63 rfl ?_
              refine z_iload_n dX0_removeFace_64 rfl ?_
              refine z_iconst dX0_removeFace_65 ?_
              refine z_iadd dX0_removeFace_66 ?_
              refine z_iload dX0_removeFace_67 rfl ?_
              refine z_callV_eI (M := mX0_removeFace) [_, _] tX0_letterAt kX0_68 dX0_removeFace_69 (rcvC ho) ⟨by decide, by decide⟩ rfl (Nat.le_of_ble_eq_true rfl) rfl (c_X0_letterAt ho (by omega) (by omega)) ?_
              rw [sl_s (i := 29 + 4 * e + 2 + 4) (by omega) (by omega)]
              refine z_RR (fun hR1 => ?_)
              have r1 := hR1.2.1 (o + 1) (by rw [shpS ho]; exact Or.inl rfl) (29 + 4 * e + 2 + 4)
              rw [setc_at] at r1
              refine z_callV_V (M := mX0_removeFace) [_, _] tX0_setSlot kX0_32 dX0_removeFace_72 (rcvC ho) ⟨by decide, by decide⟩ rfl (Nat.le_of_ble_eq_true rfl) rfl (c_X0_setSlot ho (by omega) (by omega)) (fun h72 q72 => ?_)
              subst q72
              rw [ss_s (i := 29 + 4 * e + 2) (by omega) (by omega)]
              refine z_iinc dX0_removeFace_75 rfl (by decide) rfl ?_
              refine z_goto 47 dX0_removeFace_78 (by decide) ?_
              refine z_iload dX0_removeFace_47 rfl ?_
              refine z_iconst dX0_removeFace_49 ?_
              refine z_icmp_ge 81 dX0_removeFace_50 (by decide) (by omega) (by omega) (fun c50 => ?_) (fun c50 => ?_)
              · omega
              · refine z_aload_n dX0_removeFace_53 rfl ?_
                refine z_bipush dX0_removeFace_54 (by decide) ?_
                refine z_iload_n dX0_removeFace_56 rfl ?_
                refine z_iconst dX0_removeFace_57 ?_
                refine z_imul dX0_removeFace_58 ?_
                refine z_iadd dX0_removeFace_59 ?_
                refine z_iload dX0_removeFace_60 rfl ?_
                refine z_iadd dX0_removeFace_62 ?_
                refine z_aload_n dX0_removeFace_63 rfl ?_
                refine z_iload_n dX0_removeFace_64 rfl ?_
                refine z_iconst dX0_removeFace_65 ?_
                refine z_iadd dX0_removeFace_66 ?_
                refine z_iload dX0_removeFace_67 rfl ?_
                refine z_callV_eI (M := mX0_removeFace) [_, _] tX0_letterAt kX0_68 dX0_removeFace_69 (rcvC ho) ⟨by decide, by decide⟩ rfl (Nat.le_of_ble_eq_true rfl) rfl (c_X0_letterAt ho (by omega) (by omega)) ?_
                rw [sl_s (i := 29 + 4 * e + 3 + 4) (by omega) (by omega)]
                refine z_RR (fun hR1 => ?_)
                have r1 := hR1.2.1 (o + 1) (by rw [shpS ho]; exact Or.inl rfl) (29 + 4 * e + 3 + 4)
                rw [setc_at] at r1
                refine z_callV_V (M := mX0_removeFace) [_, _] tX0_setSlot kX0_32 dX0_removeFace_72 (rcvC ho) ⟨by decide, by decide⟩ rfl (Nat.le_of_ble_eq_true rfl) rfl (c_X0_setSlot ho (by omega) (by omega)) (fun h72 q72 => ?_)
                subst q72
                rw [ss_s (i := 29 + 4 * e + 3) (by omega) (by omega)]
                refine z_iinc dX0_removeFace_75 rfl (by decide) rfl ?_
                refine z_goto 47 dX0_removeFace_78 (by decide) ?_
                refine z_iload dX0_removeFace_47 rfl ?_
                refine z_iconst dX0_removeFace_49 ?_
                refine z_icmp_ge 81 dX0_removeFace_50 (by decide) (by omega) (by omega) (fun c50 => ?_) (fun c50 => ?_)
                · refine z_iinc dX0_removeFace_81 rfl (by decide) rfl ?_
                  refine z_goto 10 dX0_removeFace_84 (by decide) ?_
                  refine z_forget 4 ?_
                  have e1 := shF_step (h (o + 1)) (d := d) (e := e) (by omega) (by omega)
                  unfold upc up4 at e1
                  rw [e1]
                  exact ih10 (e + 1) (by omega) (by omega) (by omega)
                · omega
  have e0 : setc h (o + 1) (shF (h (o + 1)) d d) = h := by rw [shF_0, setc_self]
  have x0 := loop10 _ d (by omega) (by omega) (Nat.lt_succ_self _)
  rw [e0] at x0
  exact x0

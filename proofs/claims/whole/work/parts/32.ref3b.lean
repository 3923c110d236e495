set_option maxRecDepth 100000 in
set_option maxHeartbeats 4000000 in
theorem c_X6_copies {g : GG} {h : HH} {x a y b nx ny : Nat} (hx : x < 60) (hy : y < 60) (hxy : x ≠ y) (sx : shp x = (1, nx, [])) (sy : shp y = (1, ny, [])) (ha : a + 63 ≤ nx) (hb : b + 63 ≤ ny) (nx9 : nx < 1000) (ny9 : ny < 1000) : CnV mX6_copies g [vr x, vi (a : Int), vr y, vi (b : Int)] h (fun h' => h' = cpB h x a y b 63) := by
  refine cn_q (lv := [vr x, vi (a : Int), vr y, vi (b : Int), vx]) tX6_copies.1 rfl rfl (fun hR Q hQ => ?_)
  refine z_iconst dX6_copies_0 ?_
  refine z_istore dX6_copies_1 (by decide) rfl ?_
  have loop3 : ∀ (nL9 : Nat) (k : Nat), (k ≤ 63) → 63 - k < nL9 → Z mX6_copies g 3 [vr x, vi (a : Int), vr y, vi (b : Int), vi (k : Int)] [] (cpB h x a y b k) Q := by
    intro nL9
    induction nL9 with
    | zero => intro k hk hnL9; exact absurd hnL9 (Nat.not_lt_zero _)
    | succ nL9 ih3 =>
      intro k hk hnL9
      refine z_iload dX6_copies_3 rfl ?_
      refine z_bipush dX6_copies_5 (by decide) ?_
      refine z_icmp_ge 28 dX6_copies_7 (by decide) (by omega) (by omega) (fun c7 => ?_) (fun c7 => ?_)
      · exact z_return dX6_copies_28 rfl (hQ _ _ ⟨rfl, (by rw [show k = 63 from by omega])⟩)
      · refine z_aload_n dX6_copies_10 rfl ?_
        refine z_iload_n dX6_copies_11 rfl ?_
        refine z_iload dX6_copies_12 rfl ?_
        refine z_iadd dX6_copies_14 ?_
        refine z_aload_n dX6_copies_15 rfl ?_
        refine z_iload_n dX6_copies_16 rfl ?_
        refine z_iload dX6_copies_17 rfl ?_
        refine z_iadd dX6_copies_19 ?_
        refine z_iaload dX6_copies_20 hx sx (by omega) (by omega) (by first | decide | omega) (fun r20 => ?_)
        rw [show cpB h x a y b k x ((a : Int) + (k : Int)).toNat = h x (a + k) from by unfold cpB; rw [setc_ne _ _ hxy]; exact ix (by omega)]
        have r20 : R32 (h x (a + k)) := by
          have := hR.2.1 x (by rw [sx]; exact Or.inl rfl) (a + k)
          exact this
        refine z_iastore dX6_copies_21 hy sy (by omega) (by omega) (by first | decide | omega) (by omega) ?_
        rw [cpB_s h x a y b k (by omega)]
        refine z_iinc dX6_copies_22 rfl (by decide) rfl ?_
        refine z_goto 3 dX6_copies_25 (by decide) ?_
        exact ih3 (k + 1) (by omega) (by omega)
  have x0 := loop3 _ 0 (by omega) (Nat.lt_succ_self _)
  rw [cpB_0] at x0
  exact x0
set_option maxRecDepth 100000 in
set_option maxHeartbeats 4000000 in
theorem c_X6_notesN {g : GG} {h : HH} {σ : SG} (W : WF σ) (R : RM (h 48) σ) {as : List SG} (P : RPast h as) (h8 : as.length < 8) : CnV mX6_notes g [vr 47] h (fun h' => NoteP h h' σ as) := by
  refine cn_q (lv := [vr 47, vx]) tX6_notes.1 rfl rfl (fun hR Q hQ => ?_)
  obtain ⟨p1, p2, p3⟩ := id P
  refine z_aload_n dX6_notes_0 rfl ?_
  refine z_getI fX6_238 dX6_notes_1 (by decide) rfl rfl (fun r1 => ?_)
  refine z_bipush dX6_notes_4 (by decide) ?_
  refine z_icmp_ne 49 dX6_notes_6 (by decide) (by omega) (by omega) (fun c6 => ?_) (fun c6 => ?_)
  · refine z_aload_n dX6_notes_49 rfl ?_
    refine z_getR fX6_7 dX6_notes_50 (by decide) rfl rfl ?_
    refine z_iconst dX6_notes_53 ?_
    refine z_aload_n dX6_notes_54 rfl ?_
    refine z_getR fX6_16 dX6_notes_55 (by decide) rfl rfl ?_
    refine z_bipush dX6_notes_58 (by decide) ?_
    refine z_aload_n dX6_notes_60 rfl ?_
    refine z_getI fX6_238 dX6_notes_61 (by decide) rfl rfl (fun r61 => ?_)
    refine z_imul dX6_notes_64 ?_
    rw [p2, show (63 : Int) * (as.length : Int) = ((63 * as.length : Nat) : Int) from by omega]
    refine z_callS_V (M := mX6_notes) [_, _, _, _] tX6_copies kX6_234 dX6_notes_65 ⟨by decide, by decide⟩ rfl (Nat.le_of_ble_eq_true rfl) rfl (c_X6_copies (x := 48) (a := 0) (y := 50) (b := 63 * as.length) (by decide) (by decide) (by decide) rfl rfl (by decide) (by omega) (by decide) (by decide)) (fun h65 q65 => ?_)
    rw [q65]
    refine z_aload_n dX6_notes_68 rfl ?_
    refine z_dup dX6_notes_69 rfl ?_
    refine z_getI fX6_238 dX6_notes_70 (by decide) rfl rfl (fun r70 => ?_)
    rw [show cpB h 48 0 50 (63 * as.length) 63 47 3 = as.length from by unfold cpB; rw [setc_ne _ _ (by decide)]; exact p2]
    refine z_iconst dX6_notes_73 ?_
    refine z_iadd dX6_notes_74 ?_
    refine z_putI pX6_238 dX6_notes_75 (by decide) rfl rfl (by omega) ?_
    exact z_return dX6_notes_78 rfl (hQ _ _ ⟨rfl, (noteN W R P h8)⟩)
  · omega
set_option maxRecDepth 100000 in
set_option maxHeartbeats 4000000 in
theorem c_X6_notes8 {g : GG} {h : HH} {σ : SG} (W : WF σ) (R : RM (h 48) σ) {as : List SG} (P : RPast h as) (h8 : as.length = 8) : CnV mX6_notes g [vr 47] h (fun h' => NoteP h h' σ as) := by
  refine cn_q (lv := [vr 47, vx]) tX6_notes.1 rfl rfl (fun hR Q hQ => ?_)
  obtain ⟨p1, p2, p3⟩ := id P
  refine z_aload_n dX6_notes_0 rfl ?_
  refine z_getI fX6_238 dX6_notes_1 (by decide) rfl rfl (fun r1 => ?_)
  refine z_bipush dX6_notes_4 (by decide) ?_
  refine z_icmp_ne 49 dX6_notes_6 (by decide) (by omega) (by omega) (fun c6 => ?_) (fun c6 => ?_)
  · omega
  · refine z_iconst dX6_notes_9 ?_
    refine z_istore_n dX6_notes_10 (by decide) rfl ?_
    have loop11 : ∀ (nL9 : Nat) (k : Nat), (k ≤ 441) → 441 - k < nL9 → Z mX6_notes g 11 [vr 47, vi (k : Int)] [] (setc h 50 (shP (h 50) k)) Q := by
      intro nL9
      induction nL9 with
      | zero => intro k hk hnL9; exact absurd hnL9 (Nat.not_lt_zero _)
      | succ nL9 ih11 =>
        intro k hk hnL9
        refine z_iload_n dX6_notes_11 rfl ?_
        refine z_sipush dX6_notes_12 (by decide) ?_
        refine z_icmp_ge 39 dX6_notes_15 (by decide) (by omega) (by omega) (fun c15 => ?_) (fun c15 => ?_)
        · rw [show k = 441 from by omega]
          refine z_aload_n dX6_notes_39 rfl ?_
          refine z_dup dX6_notes_40 rfl ?_
          refine z_getI fX6_238 dX6_notes_41 (by decide) rfl rfl (fun r41 => ?_)
          rw [setc_ne h _ (show (47 : Nat) ≠ 50 by decide), p2, h8]
          refine z_iconst dX6_notes_44 ?_
          refine z_isub dX6_notes_45 ?_
          refine z_putI pX6_238 dX6_notes_46 (by decide) rfl rfl (by omega) ?_
          refine z_aload_n dX6_notes_49 rfl ?_
          refine z_getR fX6_7 dX6_notes_50 (by decide) rfl rfl ?_
          refine z_iconst dX6_notes_53 ?_
          refine z_aload_n dX6_notes_54 rfl ?_
          refine z_getR fX6_16 dX6_notes_55 (by decide) rfl rfl ?_
          refine z_bipush dX6_notes_58 (by decide) ?_
          refine z_aload_n dX6_notes_60 rfl ?_
          refine z_getI fX6_238 dX6_notes_61 (by decide) rfl rfl (fun r61 => ?_)
          refine z_imul dX6_notes_64 ?_
          rw [up_same, show ((8 : Nat) : Int) - 1 = 7 from rfl]
          refine z_callS_V (M := mX6_notes) [_, _, _, _] tX6_copies kX6_234 dX6_notes_65 ⟨by decide, by decide⟩ rfl (Nat.le_of_ble_eq_true rfl) rfl (c_X6_copies (x := 48) (a := 0) (y := 50) (b := 441) (by decide) (by decide) (by decide) rfl rfl (by decide) (by omega) (by decide) (by decide)) (fun h65 q65 => ?_)
          rw [q65]
          refine z_aload_n dX6_notes_68 rfl ?_
          refine z_dup dX6_notes_69 rfl ?_
          refine z_getI fX6_238 dX6_notes_70 (by decide) rfl rfl (fun r70 => ?_)
          rw [show cpB (up (setc h 50 (shP (h 50) 441)) 47 3 7) 48 0 50 441 63 47 3 = 7 from by unfold cpB; rw [setc_ne _ _ (by decide), up_same]]
          refine z_iconst dX6_notes_73 ?_
          refine z_iadd dX6_notes_74 ?_
          refine z_putI pX6_238 dX6_notes_75 (by decide) rfl rfl (by omega) ?_
          exact z_return dX6_notes_78 rfl (hQ _ _ ⟨rfl, (note8 W R P h8)⟩)
        · refine z_aload_n dX6_notes_18 rfl ?_
          refine z_getR fX6_16 dX6_notes_19 (by decide) rfl rfl ?_
          refine z_iload_n dX6_notes_22 rfl ?_
          refine z_aload_n dX6_notes_23 rfl ?_
          refine z_getR fX6_16 dX6_notes_24 (by decide) rfl rfl ?_
          refine z_iload_n dX6_notes_27 rfl ?_
          refine z_bipush dX6_notes_28 (by decide) ?_
          refine z_iadd dX6_notes_30 ?_
          refine z_iaload dX6_notes_31 (by decide) rfl (by omega) (by omega) (by first | decide | omega) (fun r31 => ?_)
          rw [show setc h 50 (shP (h 50) k) 50 ((k : Int) + 63).toNat = shP (h 50) k (k + 63) from by rw [setc_at]; exact ix (by omega)]
          have r31 : R32 (shP (h 50) k (k + 63)) := by
            rw [show setc h 50 (shP (h 50) k) 50 ((k : Int) + 63).toNat = shP (h 50) k (k + 63) from by rw [setc_at]; exact ix (by omega)] at r31; exact r31
          refine z_iastore dX6_notes_32 (by decide) rfl (by omega) (by omega) (by first | decide | omega) (by omega) ?_
          rw [up_s (i := k) rfl, shP_s]
          refine z_iinc dX6_notes_33 rfl (by decide) rfl ?_
          refine z_goto 11 dX6_notes_36 (by decide) ?_
          exact ih11 (k + 1) (by omega) (by omega)
    have x0 := loop11 _ 0 (by omega) (Nat.lt_succ_self _)
    rw [show shP (h 50) 0 = h 50 from rfl, setc_self] at x0
    exact x0

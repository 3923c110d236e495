set_option maxRecDepth 100000 in
set_option maxHeartbeats 4000000 in
theorem c_X6_feedO {g : GG} {h : HH} {b : Int} (hb : R32 b) (ho : ¬ (0 ≤ b ∧ b ≤ 255)) : CeI mX6_feed g [vr 47, vi b] h kBAD := by
  refine cn_q (lv := [vr 47, vi b]) tX6_feed.1 rfl rfl (fun hR Q hQ => ?_)
  refine z_iload_n dX6_feed_0 rfl ?_
  refine z_i2l dX6_feed_1 (by omega) ?_
  refine z_lconst (z := 0) dX6_feed_2 rfl ?_
  refine z_ldc2 (255) dX6_feed_3 qX6_216 rfl ?_
  refine z_callS_eI (M := mX6_feed) [_, _, _] tX6_in kX6_150 dX6_feed_6 ⟨by decide, by decide⟩ rfl (Nat.le_of_ble_eq_true rfl) rfl (c_X6_in (by omega) (by omega) (by omega)) ?_
  refine z_if_ne 15 dX6_feed_9 (by decide) (bi_r _) (fun c9 => ?_) (fun c9 => ?_)
  · have c9 := bi_ne.mp c9
    exact absurd c9 ho
  · have c9 := bi_eq.mp c9
    refine z_ldc (-1000001) dX6_feed_12 qX6_218 rfl ?_
    exact z_ireturn dX6_feed_14 rfl (hQ _ _ ⟨_, rfl, rfl, rfl⟩)
set_option maxRecDepth 100000 in
set_option maxHeartbeats 4000000 in
theorem c_X6_feedF {g : GG} {h : HH} {n : Nat} (hn : h 47 7 = n) {b : Int} (hb : 0 ≤ b ∧ b ≤ 255) (hf : n = 90) : CeI mX6_feed g [vr 47, vi b] h kFULL := by
  refine cn_q (lv := [vr 47, vi b]) tX6_feed.1 rfl rfl (fun hR Q hQ => ?_)
  refine z_iload_n dX6_feed_0 rfl ?_
  refine z_i2l dX6_feed_1 (by omega) ?_
  refine z_lconst (z := 0) dX6_feed_2 rfl ?_
  refine z_ldc2 (255) dX6_feed_3 qX6_216 rfl ?_
  refine z_callS_eI (M := mX6_feed) [_, _, _] tX6_in kX6_150 dX6_feed_6 ⟨by decide, by decide⟩ rfl (Nat.le_of_ble_eq_true rfl) rfl (c_X6_in (by omega) (by omega) (by omega)) ?_
  refine z_if_ne 15 dX6_feed_9 (by decide) (bi_r _) (fun c9 => ?_) (fun c9 => ?_)
  · have c9 := bi_ne.mp c9
    refine z_aload_n dX6_feed_15 rfl ?_
    refine z_getI fX6_130 dX6_feed_16 (by decide) rfl rfl (fun r16 => ?_)
    refine z_bipush dX6_feed_19 (by decide) ?_
    refine z_icmp_ne 27 dX6_feed_21 (by decide) (by omega) (by omega) (fun c21 => ?_) (fun c21 => ?_)
    · omega
    · refine z_ldc (-1000003) dX6_feed_24 qX6_219 rfl ?_
      exact z_ireturn dX6_feed_26 rfl (hQ _ _ ⟨_, rfl, rfl, rfl⟩)
  · have c9 := bi_eq.mp c9
    omega
set_option maxRecDepth 100000 in
set_option maxHeartbeats 4000000 in
theorem c_X6_feed1 {g : GG} {h : HH} {n : Nat} (hn : h 47 7 = n) {b : Int} (hb : 0 ≤ b ∧ b ≤ 255) (hf : n < 90) : CnI mX6_feed g [vr 47, vi b] h (fun z h' => z = n + 1 ∧ h' = up (up h 53 n b) 47 7 ((n : Int) + 1)) := by
  refine cn_q (lv := [vr 47, vi b]) tX6_feed.1 rfl rfl (fun hR Q hQ => ?_)
  refine z_iload_n dX6_feed_0 rfl ?_
  refine z_i2l dX6_feed_1 (by omega) ?_
  refine z_lconst (z := 0) dX6_feed_2 rfl ?_
  refine z_ldc2 (255) dX6_feed_3 qX6_216 rfl ?_
  refine z_callS_eI (M := mX6_feed) [_, _, _] tX6_in kX6_150 dX6_feed_6 ⟨by decide, by decide⟩ rfl (Nat.le_of_ble_eq_true rfl) rfl (c_X6_in (by omega) (by omega) (by omega)) ?_
  refine z_if_ne 15 dX6_feed_9 (by decide) (bi_r _) (fun c9 => ?_) (fun c9 => ?_)
  · have c9 := bi_ne.mp c9
    refine z_aload_n dX6_feed_15 rfl ?_
    refine z_getI fX6_130 dX6_feed_16 (by decide) rfl rfl (fun r16 => ?_)
    refine z_bipush dX6_feed_19 (by decide) ?_
    refine z_icmp_ne 27 dX6_feed_21 (by decide) (by omega) (by omega) (fun c21 => ?_) (fun c21 => ?_)
    · refine z_aload_n dX6_feed_27 rfl ?_
      refine z_getR fX6_26 dX6_feed_28 (by decide) rfl rfl ?_
      refine z_aload_n dX6_feed_31 rfl ?_
      refine z_getI fX6_130 dX6_feed_32 (by decide) rfl rfl (fun r32 => ?_)
      rw [hn]
      refine z_iload_n dX6_feed_35 rfl ?_
      refine z_iastore dX6_feed_36 (by decide) rfl (by omega) (by omega) (by first | decide | omega) (by omega) ?_
      rw [show ((n : Nat) : Int).toNat = n from rfl]
      refine z_aload_n dX6_feed_37 rfl ?_
      refine z_dup dX6_feed_38 rfl ?_
      refine z_getI fX6_130 dX6_feed_39 (by decide) rfl rfl (fun r39 => ?_)
      rw [up_ne h _ _ (show (47 : Nat) ≠ 53 by decide), hn]
      refine z_iconst dX6_feed_42 ?_
      refine z_iadd dX6_feed_43 ?_
      refine z_putI pX6_130 dX6_feed_44 (by decide) rfl rfl (by omega) ?_
      refine z_aload_n dX6_feed_47 rfl ?_
      refine z_getI fX6_130 dX6_feed_48 (by decide) rfl rfl (fun r48 => ?_)
      rw [up_same]
      exact z_ireturn dX6_feed_51 rfl (hQ _ _ ⟨_, rfl, ⟨rfl, rfl⟩⟩)
    · omega
  · have c9 := bi_eq.mp c9
    omega
set_option maxRecDepth 100000 in
set_option maxHeartbeats 4000000 in
theorem c_X6_imageO {g : GG} {h : HH} {σ : SG} (W : WF σ) (R : RM (h 48) σ) {k : Int} (hk : R32 k) (ho : ¬ (0 ≤ k ∧ k < 2)) : CeI mX6_image g [vr 47, vi k] h kBAD := by
  refine cn_q (lv := [vr 47, vi k]) tX6_image.1 rfl rfl (fun hR Q hQ => ?_)
  refine z_iload_n dX6_image_0 rfl ?_
  refine z_i2l dX6_image_1 (by omega) ?_
  refine z_lconst (z := 0) dX6_image_2 rfl ?_
  refine z_lconst (z := 1) dX6_image_3 rfl ?_
  refine z_callS_eI (M := mX6_image) [_, _, _] tX6_in kX6_150 dX6_image_4 ⟨by decide, by decide⟩ rfl (Nat.le_of_ble_eq_true rfl) rfl (c_X6_in (by omega) (by omega) (by omega)) ?_
  refine z_if_ne 13 dX6_image_7 (by decide) (bi_r _) (fun c7 => ?_) (fun c7 => ?_)
  · have c7 := bi_ne.mp c7
    omega
  · have c7 := bi_eq.mp c7
    refine z_ldc (-1000001) dX6_image_10 qX6_218 rfl ?_
    exact z_ireturn dX6_image_12 rfl (hQ _ _ ⟨_, rfl, rfl, rfl⟩)
set_option maxRecDepth 100000 in
set_option maxHeartbeats 4000000 in
theorem c_X6_imageS {g : GG} {h : HH} {σ : SG} (W : WF σ) (R : RM (h 48) σ) {k : Nat} (hk : k < 2) (h0 : sP σ = 0) : CeI mX6_image g [vr 47, vi (k : Int)] h kSTATE := by
  refine cn_q (lv := [vr 47, vi (k : Int)]) tX6_image.1 rfl rfl (fun hR Q hQ => ?_)
  refine z_iload_n dX6_image_0 rfl ?_
  refine z_i2l dX6_image_1 (by omega) ?_
  refine z_lconst (z := 0) dX6_image_2 rfl ?_
  refine z_lconst (z := 1) dX6_image_3 rfl ?_
  refine z_callS_eI (M := mX6_image) [_, _, _] tX6_in kX6_150 dX6_image_4 ⟨by decide, by decide⟩ rfl (Nat.le_of_ble_eq_true rfl) rfl (c_X6_in (by omega) (by omega) (by omega)) ?_
  refine z_if_ne 13 dX6_image_7 (by decide) (bi_r _) (fun c7 => ?_) (fun c7 => ?_)
  · have c7 := bi_ne.mp c7
    refine z_aload_n dX6_image_13 rfl ?_
    refine z_callV_eI (M := mX6_image) [] tX6_isComplex kX6_244 dX6_image_14 ⟨by decide, rfl, _, _, rfl⟩ ⟨by decide, by decide⟩ rfl (Nat.le_of_ble_eq_true rfl) rfl (c_X6_isComplex W.wb R) ?_
    refine z_if_ne 23 dX6_image_17 (by decide) (bi_r _) (fun c17 => ?_) (fun c17 => ?_)
    · have c17 := bi_ne.mp c17
      omega
    · have c17 := bi_eq.mp c17
      refine z_ldc (-1000002) dX6_image_20 qX6_241 rfl ?_
      exact z_ireturn dX6_image_22 rfl (hQ _ _ ⟨_, rfl, rfl, rfl⟩)
  · have c7 := bi_eq.mp c7
    omega
set_option maxRecDepth 100000 in
set_option maxHeartbeats 4000000 in
theorem c_X6_image1 {g : GG} {h : HH} {σ : SG} (W : WF σ) (R : RM (h 48) σ) {k : Nat} (hk : k < 2) (h0 : 0 < sP σ) : CnI mX6_image g [vr 47, vi (k : Int)] h (fun z h' => z = 1 ∧ h' = up (cpB h 48 0 51 (63 * k) 63) 52 k 1) := by
  refine cn_q (lv := [vr 47, vi (k : Int)]) tX6_image.1 rfl rfl (fun hR Q hQ => ?_)
  refine z_iload_n dX6_image_0 rfl ?_
  refine z_i2l dX6_image_1 (by omega) ?_
  refine z_lconst (z := 0) dX6_image_2 rfl ?_
  refine z_lconst (z := 1) dX6_image_3 rfl ?_
  refine z_callS_eI (M := mX6_image) [_, _, _] tX6_in kX6_150 dX6_image_4 ⟨by decide, by decide⟩ rfl (Nat.le_of_ble_eq_true rfl) rfl (c_X6_in (by omega) (by omega) (by omega)) ?_
  refine z_if_ne 13 dX6_image_7 (by decide) (bi_r _) (fun c7 => ?_) (fun c7 => ?_)
  · have c7 := bi_ne.mp c7
    refine z_aload_n dX6_image_13 rfl ?_
    refine z_callV_eI (M := mX6_image) [] tX6_isComplex kX6_244 dX6_image_14 ⟨by decide, rfl, _, _, rfl⟩ ⟨by decide, by decide⟩ rfl (Nat.le_of_ble_eq_true rfl) rfl (c_X6_isComplex W.wb R) ?_
    refine z_if_ne 23 dX6_image_17 (by decide) (bi_r _) (fun c17 => ?_) (fun c17 => ?_)
    · have c17 := bi_ne.mp c17
      refine z_aload_n dX6_image_23 rfl ?_
      refine z_getR fX6_7 dX6_image_24 (by decide) rfl rfl ?_
      refine z_iconst dX6_image_27 ?_
      refine z_aload_n dX6_image_28 rfl ?_
      refine z_getR fX6_19 dX6_image_29 (by decide) rfl rfl ?_
      refine z_bipush dX6_image_32 (by decide) ?_
      refine z_iload_n dX6_image_34 rfl ?_
      refine z_imul dX6_image_35 ?_
      rw [show (63 : Int) * (k : Int) = ((63 * k : Nat) : Int) from by omega]
      refine z_callS_V (M := mX6_image) [_, _, _, _] tX6_copies kX6_234 dX6_image_36 ⟨by decide, by decide⟩ rfl (Nat.le_of_ble_eq_true rfl) rfl (c_X6_copies (x := 48) (a := 0) (y := 51) (b := 63 * k) (by decide) (by decide) (by decide) rfl rfl (by decide) (by omega) (by decide) (by decide)) (fun h36 q36 => ?_)
      rw [q36]
      refine z_aload_n dX6_image_39 rfl ?_
      refine z_getR fX6_22 dX6_image_40 (by decide) rfl rfl ?_
      refine z_iload_n dX6_image_43 rfl ?_
      refine z_iconst dX6_image_44 ?_
      refine z_bastore dX6_image_45 (by decide) rfl (by omega) (by omega) (by first | decide | omega) (by omega) (by omega) ?_
      refine z_iconst dX6_image_46 ?_
      exact z_ireturn dX6_image_47 rfl (hQ _ _ ⟨_, rfl, ⟨rfl, rfl⟩⟩)
    · have c17 := bi_eq.mp c17
      omega
  · have c7 := bi_eq.mp c7
    omega
set_option maxRecDepth 100000 in
set_option maxHeartbeats 4000000 in
theorem c_X6_restoreO {g : GG} {h : HH} {k : Int} (hk : R32 k) (ho : ¬ (0 ≤ k ∧ k < 2)) : CeI mX6_restore g [vr 47, vi k] h kBAD := by
  refine cn_q (lv := [vr 47, vi k]) tX6_restore.1 rfl rfl (fun hR Q hQ => ?_)
  refine z_iload_n dX6_restore_0 rfl ?_
  refine z_i2l dX6_restore_1 (by omega) ?_
  refine z_lconst (z := 0) dX6_restore_2 rfl ?_
  refine z_lconst (z := 1) dX6_restore_3 rfl ?_
  refine z_callS_eI (M := mX6_restore) [_, _, _] tX6_in kX6_150 dX6_restore_4 ⟨by decide, by decide⟩ rfl (Nat.le_of_ble_eq_true rfl) rfl (c_X6_in (by omega) (by omega) (by omega)) ?_
  refine z_if_ne 13 dX6_restore_7 (by decide) (bi_r _) (fun c7 => ?_) (fun c7 => ?_)
  · have c7 := bi_ne.mp c7
    omega
  · have c7 := bi_eq.mp c7
    refine z_ldc (-1000001) dX6_restore_10 qX6_218 rfl ?_
    exact z_ireturn dX6_restore_12 rfl (hQ _ _ ⟨_, rfl, rfl, rfl⟩)
set_option maxRecDepth 100000 in
set_option maxHeartbeats 4000000 in
theorem c_X6_restoreS {g : GG} {h : HH} {k : Nat} (hk : k < 2) (h0 : h 52 k = 0) : CeI mX6_restore g [vr 47, vi (k : Int)] h kSTATE := by
  refine cn_q (lv := [vr 47, vi (k : Int)]) tX6_restore.1 rfl rfl (fun hR Q hQ => ?_)
  refine z_iload_n dX6_restore_0 rfl ?_
  refine z_i2l dX6_restore_1 (by omega) ?_
  refine z_lconst (z := 0) dX6_restore_2 rfl ?_
  refine z_lconst (z := 1) dX6_restore_3 rfl ?_
  refine z_callS_eI (M := mX6_restore) [_, _, _] tX6_in kX6_150 dX6_restore_4 ⟨by decide, by decide⟩ rfl (Nat.le_of_ble_eq_true rfl) rfl (c_X6_in (by omega) (by omega) (by omega)) ?_
  refine z_if_ne 13 dX6_restore_7 (by decide) (bi_r _) (fun c7 => ?_) (fun c7 => ?_)
  · have c7 := bi_ne.mp c7
    refine z_aload_n dX6_restore_13 rfl ?_
    refine z_getR fX6_22 dX6_restore_14 (by decide) rfl rfl ?_
    refine z_iload_n dX6_restore_17 rfl ?_
    refine z_baload dX6_restore_18 (by decide) rfl (by omega) (by omega) (by first | decide | omega) (fun r18 => ?_)
    rw [show ((k : Nat) : Int).toNat = k from rfl] at *
    refine z_if_ne 25 dX6_restore_19 (by decide) (by omega) (fun c19 => ?_) (fun c19 => ?_)
    · omega
    · refine z_ldc (-1000002) dX6_restore_22 qX6_241 rfl ?_
      exact z_ireturn dX6_restore_24 rfl (hQ _ _ ⟨_, rfl, rfl, rfl⟩)
  · have c7 := bi_eq.mp c7
    omega
set_option maxRecDepth 100000 in
set_option maxHeartbeats 4000000 in
theorem c_X6_restore1 {g : GG} {h : HH} {k : Nat} (hk : k < 2) (h0 : h 52 k = 1) : CnI mX6_restore g [vr 47, vi (k : Int)] h (fun z h' => z = 1 ∧ h' = up (cpB h 51 (63 * k) 48 0 63) 47 3 0) := by
  refine cn_q (lv := [vr 47, vi (k : Int)]) tX6_restore.1 rfl rfl (fun hR Q hQ => ?_)
  refine z_iload_n dX6_restore_0 rfl ?_
  refine z_i2l dX6_restore_1 (by omega) ?_
  refine z_lconst (z := 0) dX6_restore_2 rfl ?_
  refine z_lconst (z := 1) dX6_restore_3 rfl ?_
  refine z_callS_eI (M := mX6_restore) [_, _, _] tX6_in kX6_150 dX6_restore_4 ⟨by decide, by decide⟩ rfl (Nat.le_of_ble_eq_true rfl) rfl (c_X6_in (by omega) (by omega) (by omega)) ?_
  refine z_if_ne 13 dX6_restore_7 (by decide) (bi_r _) (fun c7 => ?_) (fun c7 => ?_)
  · have c7 := bi_ne.mp c7
    refine z_aload_n dX6_restore_13 rfl ?_
    refine z_getR fX6_22 dX6_restore_14 (by decide) rfl rfl ?_
    refine z_iload_n dX6_restore_17 rfl ?_
    refine z_baload dX6_restore_18 (by decide) rfl (by omega) (by omega) (by first | decide | omega) (fun r18 => ?_)
    rw [show ((k : Nat) : Int).toNat = k from rfl] at *
    refine z_if_ne 25 dX6_restore_19 (by decide) (by omega) (fun c19 => ?_) (fun c19 => ?_)
    · refine z_aload_n dX6_restore_25 rfl ?_
      refine z_getR fX6_19 dX6_restore_26 (by decide) rfl rfl ?_
      refine z_bipush dX6_restore_29 (by decide) ?_
      refine z_iload_n dX6_restore_31 rfl ?_
      refine z_imul dX6_restore_32 ?_
      refine z_aload_n dX6_restore_33 rfl ?_
      refine z_getR fX6_7 dX6_restore_34 (by decide) rfl rfl ?_
      refine z_iconst dX6_restore_37 ?_
      rw [show (63 : Int) * (k : Int) = ((63 * k : Nat) : Int) from by omega]
      refine z_callS_V (M := mX6_restore) [_, _, _, _] tX6_copies kX6_234 dX6_restore_38 ⟨by decide, by decide⟩ rfl (Nat.le_of_ble_eq_true rfl) rfl (c_X6_copies (x := 51) (a := 63 * k) (y := 48) (b := 0) (by decide) (by decide) (by decide) rfl rfl (by omega) (by decide) (by decide) (by decide)) (fun h38 q38 => ?_)
      rw [q38]
      refine z_aload_n dX6_restore_41 rfl ?_
      refine z_iconst dX6_restore_42 ?_
      refine z_putI pX6_238 dX6_restore_43 (by decide) rfl rfl (by omega) ?_
      refine z_iconst dX6_restore_46 ?_
      exact z_ireturn dX6_restore_47 rfl (hQ _ _ ⟨_, rfl, ⟨rfl, rfl⟩⟩)
    · omega
  · have c7 := bi_eq.mp c7
    omega
set_option maxRecDepth 100000 in
set_option maxHeartbeats 4000000 in
theorem c_X6_readsEdge {g : GG} {h : HH} {tk : Nat → Int} {n : Nat} (T : TP h tk n) {s : PF} (L : LAf tk (h 47) s) (h0 : s.2 = 0) {σ : SG} (W : WB σ) (R : RM (h 49) σ) (h1 : tk s.1 = 101) (hz : ∀ j, 45 ≤ j → j < 63 → h 49 j = 0) : CnV mX6_readsEdge g [vr 47] h (fun h' => FM h h' ∧ LAf tk (h' 47) (pEdge tk (s, σ)).1 ∧ RM (h' 49) (pEdge tk (s, σ)).2 ∧ ∀ j, 45 ≤ j → j < 63 → h' 49 j = 0) := by
  refine cn_q (lv := [vr 47, vx, vx, vx, vx]) tX6_readsEdge.1 rfl rfl (fun hR Q hQ => ?_)
  have w1 := W.1
  have w2 := W.2.1
  have w3 := W.2.2.1
  refine z_aload_n dX6_readsEdge_0 rfl ?_
  refine z_getR fX6_13 dX6_readsEdge_1 (by decide) rfl rfl ?_
  refine z_iconst dX6_readsEdge_4 ?_
  refine z_iaload dX6_readsEdge_5 (by decide) rfl (by omega) (by omega) (by first | decide | omega) (fun r5 => ?_)
  rw [show h 49 (Int.toNat 1) = sE σ from rm_E R]
  have K18 : ∀ (h5 : HH) (s5 : PF), Pt h tk s5 h5 → (s5.2 = 0 → sE σ < 6 ∧ tk s5.1 = 101) → pEdge tk (s, σ) = pE1 tk σ s5 → Z mX6_readsEdge g 18 [vr 47, vi (sE σ : Int), vx, vx, vx] [] h5 Q := by
    intro h5 s5 P5 k1 k2
    have L5 := P5.la
    refine z_aload_n dX6_readsEdge_18 rfl ?_
    refine z_callV_V (M := mX6_readsEdge) [] tX6_goesOn kX6_178 dX6_readsEdge_19 ⟨by decide, rfl, _, _, rfl⟩ ⟨by decide, by decide⟩ rfl (Nat.le_of_ble_eq_true rfl) rfl (c_X6_goesOn (P5.tp T) L5 (fun q => by rw [(k1 q).2]; decide)) (fun h19 q19 => ?_)
    rw [goS_tkS (c := 101) (fun q => (k1 q).2)] at q19
    obtain ⟨s1, es1⟩ : ∃ x, x = tkS tk 101 s5 := ⟨_, rfl⟩
    rw [← es1] at q19
    have P1 := P5.tr q19
    have E49 : h19 49 = h 49 := P1.ne (by decide)
    refine z_aload_n dX6_readsEdge_22 rfl ?_
    refine z_iconst dX6_readsEdge_23 ?_
    refine z_aload_n dX6_readsEdge_24 rfl ?_
    refine z_getR fX6_13 dX6_readsEdge_25 (by decide) rfl rfl ?_
    refine z_iconst dX6_readsEdge_28 ?_
    refine z_iaload dX6_readsEdge_29 (by decide) rfl (by omega) (by omega) (by first | decide | omega) (fun r29 => ?_)
    rw [show h19 49 (Int.toNat 0) = sP σ from by rw [E49]; exact rm_P R]
    refine z_iconst dX6_readsEdge_30 ?_
    refine z_isub dX6_readsEdge_31 ?_
    refine z_callV_I (M := mX6_readsEdge) [_, _] tX6_digit kX6_191 dX6_readsEdge_32 ⟨by decide, rfl, _, _, rfl⟩ ⟨by decide, by decide⟩ rfl (Nat.le_of_ble_eq_true rfl) rfl (c_X6_digit (P1.tp T) P1.la (lo := 0) (hi := (sP σ : Int) - 1) (by decide) (by omega)) (fun z32 h32 q32 => ?_)
    obtain ⟨q1, q2⟩ := q32
    obtain ⟨a, ea⟩ : ∃ x, x = tkD tk 0 ((sP σ : Int) - 1) s1 := ⟨_, rfl⟩
    rw [← ea] at q1 q2
    have P2 := P1.tr q1
    have E32 : h32 49 = h 49 := P2.ne (by decide)
    refine z_istore_n dX6_readsEdge_35 (by decide) rfl ?_
    refine z_aload_n dX6_readsEdge_36 rfl ?_
    refine z_iconst dX6_readsEdge_37 ?_
    refine z_aload_n dX6_readsEdge_38 rfl ?_
    refine z_getR fX6_13 dX6_readsEdge_39 (by decide) rfl rfl ?_
    refine z_iconst dX6_readsEdge_42 ?_
    refine z_iaload dX6_readsEdge_43 (by decide) rfl (by omega) (by omega) (by first | decide | omega) (fun r43 => ?_)
    rw [show h32 49 (Int.toNat 0) = sP σ from by rw [E32]; exact rm_P R]
    refine z_iconst dX6_readsEdge_44 ?_
    refine z_isub dX6_readsEdge_45 ?_
    refine z_callV_I (M := mX6_readsEdge) [_, _] tX6_digit kX6_191 dX6_readsEdge_46 ⟨by decide, rfl, _, _, rfl⟩ ⟨by decide, by decide⟩ rfl (Nat.le_of_ble_eq_true rfl) rfl (c_X6_digit (P2.tp T) P2.la (lo := 0) (hi := (sP σ : Int) - 1) (by decide) (by omega)) (fun z46 h46 q46 => ?_)
    obtain ⟨q3, q4⟩ := q46
    obtain ⟨b, eb⟩ : ∃ x, x = tkD tk 0 ((sP σ : Int) - 1) a.2 := ⟨_, rfl⟩
    rw [← eb] at q3 q4
    have P3 := P2.tr q3
    refine z_istore_n dX6_readsEdge_49 (by decide) rfl ?_
    refine z_aload_n dX6_readsEdge_50 rfl ?_
    refine z_iconst dX6_readsEdge_51 ?_
    refine z_iconst dX6_readsEdge_52 ?_
    refine z_callV_I (M := mX6_readsEdge) [_, _] tX6_digit kX6_191 dX6_readsEdge_53 ⟨by decide, rfl, _, _, rfl⟩ ⟨by decide, by decide⟩ rfl (Nat.le_of_ble_eq_true rfl) rfl (c_X6_digit (P3.tp T) P3.la (lo := 1) (hi := 3) (by decide) (by decide)) (fun z53 h53 q53 => ?_)
    obtain ⟨q5, q6⟩ := q53
    obtain ⟨w, ew⟩ : ∃ x, x = tkD tk 1 3 b.2 := ⟨_, rfl⟩
    rw [← ew] at q5 q6
    have P4 := P3.tr q5
    refine z_istore dX6_readsEdge_56 (by decide) rfl ?_
    refine z_aload_n dX6_readsEdge_58 rfl ?_
    refine z_callV_V (M := mX6_readsEdge) [] tX6_stop kX6_194 dX6_readsEdge_59 ⟨by decide, rfl, _, _, rfl⟩ ⟨by decide, by decide⟩ rfl (Nat.le_of_ble_eq_true rfl) rfl (c_X6_stop (P4.tp T) P4.la) (fun h59 q59 => ?_)
    obtain ⟨t, et⟩ : ∃ x, x = tkS tk 59 w.2 := ⟨_, rfl⟩
    rw [← et] at q59
    have P6 := P4.tr q59
    have E59 : h59 49 = h 49 := P6.ne (by decide)
    have Lt := P6.la
    have l1 := Lt.1
    have eP : pE1 tk σ s5 = (t, if t.2 = 0 then addE σ a.1 b.1 w.1 else σ) := by
      unfold pE1; dsimp only; rw [← es1, ← ea, ← eb, ← ew, ← et]
    refine z_aload_n dX6_readsEdge_62 rfl ?_
    refine z_getI fX6_165 dX6_readsEdge_63 (by decide) rfl rfl (fun r63 => ?_)
    refine z_if_ne 80 dX6_readsEdge_66 (by decide) (by omega) (fun c66 => ?_) (fun c66 => ?_)
    · exact z_return dX6_readsEdge_80 rfl (hQ _ _ ⟨rfl, (by
  rw [k2, eP, if_neg (show ¬ t.2 = 0 by omega)]
  exact ⟨P6.fm, Lt, by rw [E59]; exact R, by rw [E59]; exact hz⟩)⟩)
    · have t0 : t.2 = 0 := by omega
      obtain ⟨m1, -, m3⟩ := tkS_ok (et ▸ t0)
      obtain ⟨m4, m5, m6, m7⟩ := tkD_ok (ew ▸ m1)
      obtain ⟨n4, n5, n6, n7⟩ := tkD_ok (eb ▸ m4)
      obtain ⟨o4, o5, o6, o7⟩ := tkD_ok (ea ▸ n4)
      obtain ⟨r4, r5, r6⟩ := tkS_ok (es1 ▸ o4)
      have k3 := (k1 r4).1
      rw [← ew] at m6 m7
      rw [← eb] at n6 n7
      rw [← ea] at o6 o7
      rw [if_pos m1] at q6
      rw [if_pos m4] at q4
      rw [if_pos n4] at q2
      rw [q2, q4, q6]
      refine z_aload_n dX6_readsEdge_69 rfl ?_
      refine z_getR fX6_13 dX6_readsEdge_70 (by decide) rfl rfl ?_
      refine z_iload_n dX6_readsEdge_73 rfl ?_
      refine z_iload_n dX6_readsEdge_74 rfl ?_
      refine z_iload dX6_readsEdge_75 rfl ?_
      refine z_callS_V (M := mX6_readsEdge) [_, _, _, _] tX6_laysEdge kX6_197 dX6_readsEdge_77 ⟨by decide, by decide⟩ rfl (Nat.le_of_ble_eq_true rfl) rfl (c_X6_laysEdge isB49 (h := h59) W (by rw [E59]; exact R) (a := a.1) (c := b.1) (w := w.1) (by omega) (by omega) (by omega) (by omega) (fun c hc => by rw [E59]; exact hz _ (by omega) (by omega))) (fun h77 q77 => ?_)
      obtain ⟨f', g1, g2, g3⟩ := q77
      rw [g1]
      exact z_return dX6_readsEdge_80 rfl (hQ _ _ ⟨rfl, (by
  rw [k2, eP, if_pos t0]
  exact ⟨P6.fm.tr (FM.set _ _), la_set Lt, by rw [setc_at]; exact g2, fun j j1 j2 => by rw [setc_at, g3 j j1, E59]; exact hz j j1 j2⟩)⟩)
  refine z_istore_n dX6_readsEdge_6 (by decide) rfl ?_
  refine z_iload_n dX6_readsEdge_7 rfl ?_
  refine z_bipush dX6_readsEdge_8 (by decide) ?_
  refine z_icmp_ne 18 dX6_readsEdge_10 (by decide) (by omega) (by omega) (fun c10 => ?_) (fun c10 => ?_)
  · exact K18 h s (Pt.refl L) (fun _ => ⟨by omega, h1⟩) (pE1_0 (by omega))
  · refine z_aload_n dX6_readsEdge_13 rfl ?_
    refine z_iconst dX6_readsEdge_14 ?_
    refine z_callV_V (M := mX6_readsEdge) [_] tX6_bad kX6_174 dX6_readsEdge_15 ⟨by decide, rfl, _, _, rfl⟩ ⟨by decide, by decide⟩ rfl (Nat.le_of_ble_eq_true rfl) rfl (c_X6_bad L (c := 3) (by decide)) (fun h15 q15 => ?_)
    exact K18 _ _ q15 (fun q => (bdS_0 (by decide) q).elim) (pE1_6 (by omega) h0)

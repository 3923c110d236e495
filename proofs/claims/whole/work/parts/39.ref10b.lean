set_option maxRecDepth 100000 in
set_option maxHeartbeats 4000000 in
theorem c_X6_faceS {g : GG} {h : HH} {tk : Nat → Int} {n : Nat} (T : TP h tk n) {σ : SG} (W : WF σ) (R : RM (h 48) σ) {w : Int} (hw : R32 w) (h0 : sP σ = 0) : CnI mX6_face g [vr 47, vi w] h (fun z h' => z = kSTATE ∧ TClrM h h') := by
  refine cn_q (lv := [vr 47, vi w, vx, vx]) tX6_face.1 rfl rfl (fun hR Q hQ => ?_)
  have w1 := W.1
  have w2 := W.2.1
  have w3 := W.2.2.1
  refine z_aload_n dX6_face_0 rfl ?_
  refine z_getR fX6_7 dX6_face_1 (by decide) rfl rfl ?_
  refine z_iconst dX6_face_4 ?_
  refine z_aload_n dX6_face_5 rfl ?_
  refine z_getR fX6_13 dX6_face_6 (by decide) rfl rfl ?_
  refine z_iconst dX6_face_9 ?_
  refine z_callS_V (M := mX6_face) [_, _, _, _] tX6_copies kX6_234 dX6_face_10 ⟨by decide, by decide⟩ rfl (Nat.le_of_ble_eq_true rfl) rfl (c_X6_copies (x := 48) (a := 0) (y := 49) (b := 0) (by decide) (by decide) (by decide) rfl rfl (by decide) (by decide) (by decide) (by decide)) (fun h10 q10 => ?_)
  obtain ⟨f0, e0, f1, -⟩ := cpB_g h 48 49
  rw [e0] at q10
  have n10 : ∀ k, k ≠ 49 → h10 k = h k := fun k hk => by rw [q10]; exact setc_ne _ _ hk
  have e10 : h10 49 = f0 := by rw [q10]; exact setc_at _ _ _
  have R10 : RM (h10 48) σ := by rw [n10 48 (by decide)]; exact R
  have R11 : RM (h10 49) σ := by rw [e10]; exact RM_congr W.wb R f1
  have T10 : TP h10 tk n := TP_of T (by rw [n10 47 (by decide)]) (n10 53 (by decide))
  refine z_aload_n dX6_face_13 rfl ?_
  have K54 : ∀ (h5 : HH) (F : Nat) (ok : Int) (d5 : DR h h5 F) (hF : sF σ < 4 → F = sF σ) (hok : ok = 0 ∨ ok = 1) (k1 : 0 < sP σ → ok = bi (pWord σ tk n 0 (fun _ => 0) (fun _ => false) 0 ≠ none) ∧ ∀ m le sg, pWord σ tk n 0 (fun _ => 0) (fun _ => false) 0 = some (m, le, sg) → WL (h5 49) σ F m le sg), Z mX6_face g 54 [vr 47, vi w, vi (F : Int), vx] [vi ok] h5 Q := by
    intro h5 F ok d5 hF hok k1
    refine z_istore_n dX6_face_54 (by decide) rfl ?_
    have k6 := tclr_up (h5 := h5) d5.1
    have R5 : RM ((up h5 47 7 0) 48) σ := by rw [k6.2.1 48 (by decide) (by decide)]; exact R
    refine z_aload_n dX6_face_55 rfl ?_
    refine z_iconst dX6_face_56 ?_
    refine z_putI pX6_130 dX6_face_57 (by decide) rfl rfl (by omega) ?_
    refine z_aload_n dX6_face_60 rfl ?_
    refine z_callV_eI (M := mX6_face) [] tX6_isComplex kX6_244 dX6_face_61 ⟨by decide, rfl, _, _, rfl⟩ ⟨by decide, by decide⟩ rfl (Nat.le_of_ble_eq_true rfl) rfl (c_X6_isComplex W.wb R5) ?_
    refine z_if_ne 70 dX6_face_64 (by decide) (bi_r _) (fun c64 => ?_) (fun c64 => ?_)
    · have c64 := bi_ne.mp c64
      omega
    · have c64 := bi_eq.mp c64
      refine z_ldc (-1000002) dX6_face_67 qX6_241 rfl ?_
      exact z_ireturn dX6_face_69 rfl (hQ _ _ ⟨_, rfl, ⟨rfl, k6⟩⟩)
  have K33 : ∀ (F : Nat) (h4 : F < 4) (hF : sF σ < 4 → F = sF σ), Z mX6_face g 33 [vr 47, vi w, vx, vx] [vi (F : Int)] h10 Q := by
    intro F h4 hF
    refine z_istore_n dX6_face_33 (by decide) rfl ?_
    refine z_aload_n dX6_face_34 rfl ?_
    refine z_callV_eI (M := mX6_face) [] tX6_isComplex kX6_244 dX6_face_35 ⟨by decide, rfl, _, _, rfl⟩ ⟨by decide, by decide⟩ rfl (Nat.le_of_ble_eq_true rfl) rfl (c_X6_isComplex W.wb R10) ?_
    refine z_if_eq 53 dX6_face_38 (by decide) (bi_r _) (fun c38 => ?_) (fun c38 => ?_)
    · have c38 := bi_eq.mp c38
      refine z_iconst dX6_face_53 ?_
      exact K54 h10 F 0 ⟨n10, fun j j1 _ => by rw [e10]; exact f1 j j1⟩ hF (Or.inl rfl) (fun q => absurd q c38)
    · have c38 := bi_ne.mp c38
      refine z_aload_n dX6_face_41 rfl ?_
      refine z_iload_n dX6_face_42 rfl ?_
      refine z_callV_I (M := mX6_face) [_] tX6_isWord kX6_257 dX6_face_43 ⟨by decide, rfl, _, _, rfl⟩ ⟨by decide, by decide⟩ rfl (Nat.le_of_ble_eq_true rfl) rfl (c_X6_isWord T10 W.wb R11 h4) (fun z43 h43 q43 => ?_)
      obtain ⟨f', g1, g2, g3, g4⟩ := q43
      rw [g1]
      have d6 : DR h (setc h10 49 f') F := ⟨fun k hk => by rw [setc_ne _ _ hk]; exact n10 k hk, fun j j1 j2 => by rw [setc_at, g2 j j2, e10]; exact f1 j j1⟩
      have g5 : (setc h10 49 f') 49 = f' := setc_at _ _ _
      have z01 : z43 = 0 ∨ z43 = 1 := by rw [g3]; exact bi_01 _
      refine z_if_eq 53 dX6_face_46 (by decide) (by omega) (fun c46 => ?_) (fun c46 => ?_)
      · refine z_iconst dX6_face_53 ?_
        exact K54 _ F 0 d6 hF (Or.inl rfl) (fun _ => ⟨by rw [← g3]; exact c46.symm, fun m le sg q => by rw [g5]; exact g4 m le sg q⟩)
      · refine z_iconst dX6_face_49 ?_
        refine z_goto 54 dX6_face_50 (by decide) ?_
        exact K54 _ F 1 d6 hF (Or.inr rfl) (fun _ => ⟨by rw [← g3]; exact (z01.resolve_left c46).symm, fun m le sg q => by rw [g5]; exact g4 m le sg q⟩)
  refine z_getR fX6_7 dX6_face_14 (by decide) rfl rfl ?_
  refine z_iconst dX6_face_17 ?_
  refine z_iaload dX6_face_18 (by decide) rfl (by omega) (by omega) (by first | decide | omega) (fun r18 => ?_)
  rw [show h10 48 (Int.toNat 2) = sF σ from rm_F R10]
  refine z_iconst dX6_face_19 ?_
  refine z_icmp_ne 27 dX6_face_20 (by decide) (by omega) (by omega) (fun c20 => ?_) (fun c20 => ?_)
  · refine z_aload_n dX6_face_27 rfl ?_
    refine z_getR fX6_7 dX6_face_28 (by decide) rfl rfl ?_
    refine z_iconst dX6_face_31 ?_
    refine z_iaload dX6_face_32 (by decide) rfl (by omega) (by omega) (by first | decide | omega) (fun r32 => ?_)
    rw [show h10 48 (Int.toNat 2) = sF σ from rm_F R10]
    exact K33 (sF σ) (by omega) (fun _ => rfl)
  · refine z_iconst dX6_face_23 ?_
    refine z_goto 33 dX6_face_24 (by decide) ?_
    exact K33 0 (by decide) (fun q => absurd q (by omega))
set_option maxRecDepth 100000 in
set_option maxHeartbeats 4000000 in
theorem c_X6_faceO {g : GG} {h : HH} {tk : Nat → Int} {n : Nat} (T : TP h tk n) {σ : SG} (W : WF σ) (R : RM (h 48) σ) {w : Int} (hw : R32 w) (h0 : 0 < sP σ) (ho : pWord σ tk n 0 (fun _ => 0) (fun _ => false) 0 = none ∨ ¬ (1 ≤ w ∧ w ≤ 3)) : CnI mX6_face g [vr 47, vi w] h (fun z h' => z = kBAD ∧ TClrM h h') := by
  refine cn_q (lv := [vr 47, vi w, vx, vx]) tX6_face.1 rfl rfl (fun hR Q hQ => ?_)
  have w1 := W.1
  have w2 := W.2.1
  have w3 := W.2.2.1
  refine z_aload_n dX6_face_0 rfl ?_
  refine z_getR fX6_7 dX6_face_1 (by decide) rfl rfl ?_
  refine z_iconst dX6_face_4 ?_
  refine z_aload_n dX6_face_5 rfl ?_
  refine z_getR fX6_13 dX6_face_6 (by decide) rfl rfl ?_
  refine z_iconst dX6_face_9 ?_
  refine z_callS_V (M := mX6_face) [_, _, _, _] tX6_copies kX6_234 dX6_face_10 ⟨by decide, by decide⟩ rfl (Nat.le_of_ble_eq_true rfl) rfl (c_X6_copies (x := 48) (a := 0) (y := 49) (b := 0) (by decide) (by decide) (by decide) rfl rfl (by decide) (by decide) (by decide) (by decide)) (fun h10 q10 => ?_)
  obtain ⟨f0, e0, f1, -⟩ := cpB_g h 48 49
  rw [e0] at q10
  have n10 : ∀ k, k ≠ 49 → h10 k = h k := fun k hk => by rw [q10]; exact setc_ne _ _ hk
  have e10 : h10 49 = f0 := by rw [q10]; exact setc_at _ _ _
  have R10 : RM (h10 48) σ := by rw [n10 48 (by decide)]; exact R
  have R11 : RM (h10 49) σ := by rw [e10]; exact RM_congr W.wb R f1
  have T10 : TP h10 tk n := TP_of T (by rw [n10 47 (by decide)]) (n10 53 (by decide))
  refine z_aload_n dX6_face_13 rfl ?_
  have K54 : ∀ (h5 : HH) (F : Nat) (ok : Int) (d5 : DR h h5 F) (hF : sF σ < 4 → F = sF σ) (hok : ok = 0 ∨ ok = 1) (k1 : 0 < sP σ → ok = bi (pWord σ tk n 0 (fun _ => 0) (fun _ => false) 0 ≠ none) ∧ ∀ m le sg, pWord σ tk n 0 (fun _ => 0) (fun _ => false) 0 = some (m, le, sg) → WL (h5 49) σ F m le sg), Z mX6_face g 54 [vr 47, vi w, vi (F : Int), vx] [vi ok] h5 Q := by
    intro h5 F ok d5 hF hok k1
    refine z_istore_n dX6_face_54 (by decide) rfl ?_
    have k6 := tclr_up (h5 := h5) d5.1
    have R5 : RM ((up h5 47 7 0) 48) σ := by rw [k6.2.1 48 (by decide) (by decide)]; exact R
    refine z_aload_n dX6_face_55 rfl ?_
    refine z_iconst dX6_face_56 ?_
    refine z_putI pX6_130 dX6_face_57 (by decide) rfl rfl (by omega) ?_
    refine z_aload_n dX6_face_60 rfl ?_
    refine z_callV_eI (M := mX6_face) [] tX6_isComplex kX6_244 dX6_face_61 ⟨by decide, rfl, _, _, rfl⟩ ⟨by decide, by decide⟩ rfl (Nat.le_of_ble_eq_true rfl) rfl (c_X6_isComplex W.wb R5) ?_
    refine z_if_ne 70 dX6_face_64 (by decide) (bi_r _) (fun c64 => ?_) (fun c64 => ?_)
    · have c64 := bi_ne.mp c64
      refine z_iload_n dX6_face_70 rfl ?_
      refine z_i2l dX6_face_71 (by omega) ?_
      refine z_lconst (z := 1) dX6_face_72 rfl ?_
      refine z_ldc2 (3) dX6_face_73 qX6_250 rfl ?_
      refine z_callS_eI (M := mX6_face) [_, _, _] tX6_in kX6_150 dX6_face_76 ⟨by decide, by decide⟩ rfl (Nat.le_of_ble_eq_true rfl) rfl (c_X6_in (by omega) (by omega) (by omega)) ?_
      refine z_if_eq 86 dX6_face_79 (by decide) (bi_r _) (fun c79 => ?_) (fun c79 => ?_)
      · have c79 := bi_eq.mp c79
        refine z_ldc (-1000001) dX6_face_86 qX6_218 rfl ?_
        exact z_ireturn dX6_face_88 rfl (hQ _ _ ⟨_, rfl, ⟨rfl, k6⟩⟩)
      · have c79 := bi_ne.mp c79
        refine z_iload_n dX6_face_82 rfl ?_
        refine z_if_ne 89 dX6_face_83 (by decide) (by omega) (fun c83 => ?_) (fun c83 => ?_)
        · exact (ho.elim (fun q => c83 (by rw [(k1 h0).1, q]; exact (bi_f (fun r => r rfl)).symm)) (fun q => q c79) : False).elim
        · refine z_ldc (-1000001) dX6_face_86 qX6_218 rfl ?_
          exact z_ireturn dX6_face_88 rfl (hQ _ _ ⟨_, rfl, ⟨rfl, k6⟩⟩)
    · have c64 := bi_eq.mp c64
      omega
  have K33 : ∀ (F : Nat) (h4 : F < 4) (hF : sF σ < 4 → F = sF σ), Z mX6_face g 33 [vr 47, vi w, vx, vx] [vi (F : Int)] h10 Q := by
    intro F h4 hF
    refine z_istore_n dX6_face_33 (by decide) rfl ?_
    refine z_aload_n dX6_face_34 rfl ?_
    refine z_callV_eI (M := mX6_face) [] tX6_isComplex kX6_244 dX6_face_35 ⟨by decide, rfl, _, _, rfl⟩ ⟨by decide, by decide⟩ rfl (Nat.le_of_ble_eq_true rfl) rfl (c_X6_isComplex W.wb R10) ?_
    refine z_if_eq 53 dX6_face_38 (by decide) (bi_r _) (fun c38 => ?_) (fun c38 => ?_)
    · have c38 := bi_eq.mp c38
      refine z_iconst dX6_face_53 ?_
      exact K54 h10 F 0 ⟨n10, fun j j1 _ => by rw [e10]; exact f1 j j1⟩ hF (Or.inl rfl) (fun q => absurd q c38)
    · have c38 := bi_ne.mp c38
      refine z_aload_n dX6_face_41 rfl ?_
      refine z_iload_n dX6_face_42 rfl ?_
      refine z_callV_I (M := mX6_face) [_] tX6_isWord kX6_257 dX6_face_43 ⟨by decide, rfl, _, _, rfl⟩ ⟨by decide, by decide⟩ rfl (Nat.le_of_ble_eq_true rfl) rfl (c_X6_isWord T10 W.wb R11 h4) (fun z43 h43 q43 => ?_)
      obtain ⟨f', g1, g2, g3, g4⟩ := q43
      rw [g1]
      have d6 : DR h (setc h10 49 f') F := ⟨fun k hk => by rw [setc_ne _ _ hk]; exact n10 k hk, fun j j1 j2 => by rw [setc_at, g2 j j2, e10]; exact f1 j j1⟩
      have g5 : (setc h10 49 f') 49 = f' := setc_at _ _ _
      have z01 : z43 = 0 ∨ z43 = 1 := by rw [g3]; exact bi_01 _
      refine z_if_eq 53 dX6_face_46 (by decide) (by omega) (fun c46 => ?_) (fun c46 => ?_)
      · refine z_iconst dX6_face_53 ?_
        exact K54 _ F 0 d6 hF (Or.inl rfl) (fun _ => ⟨by rw [← g3]; exact c46.symm, fun m le sg q => by rw [g5]; exact g4 m le sg q⟩)
      · refine z_iconst dX6_face_49 ?_
        refine z_goto 54 dX6_face_50 (by decide) ?_
        exact K54 _ F 1 d6 hF (Or.inr rfl) (fun _ => ⟨by rw [← g3]; exact (z01.resolve_left c46).symm, fun m le sg q => by rw [g5]; exact g4 m le sg q⟩)
  refine z_getR fX6_7 dX6_face_14 (by decide) rfl rfl ?_
  refine z_iconst dX6_face_17 ?_
  refine z_iaload dX6_face_18 (by decide) rfl (by omega) (by omega) (by first | decide | omega) (fun r18 => ?_)
  rw [show h10 48 (Int.toNat 2) = sF σ from rm_F R10]
  refine z_iconst dX6_face_19 ?_
  refine z_icmp_ne 27 dX6_face_20 (by decide) (by omega) (by omega) (fun c20 => ?_) (fun c20 => ?_)
  · refine z_aload_n dX6_face_27 rfl ?_
    refine z_getR fX6_7 dX6_face_28 (by decide) rfl rfl ?_
    refine z_iconst dX6_face_31 ?_
    refine z_iaload dX6_face_32 (by decide) rfl (by omega) (by omega) (by first | decide | omega) (fun r32 => ?_)
    rw [show h10 48 (Int.toNat 2) = sF σ from rm_F R10]
    exact K33 (sF σ) (by omega) (fun _ => rfl)
  · refine z_iconst dX6_face_23 ?_
    refine z_goto 33 dX6_face_24 (by decide) ?_
    exact K33 0 (by decide) (fun q => absurd q (by omega))
set_option maxRecDepth 100000 in
set_option maxHeartbeats 4000000 in
theorem c_X6_faceF {g : GG} {h : HH} {tk : Nat → Int} {n : Nat} (T : TP h tk n) {σ : SG} (W : WF σ) (R : RM (h 48) σ) {w : Nat} (hw : 1 ≤ w ∧ w ≤ 3) (h0 : 0 < sP σ) {m : Nat} {le : Nat → Nat} {sg : Nat → Bool} (hW : pWord σ tk n 0 (fun _ => 0) (fun _ => false) 0 = some (m, le, sg)) (hF : sF σ = 4) : CnI mX6_face g [vr 47, vi (w : Int)] h (fun z h' => z = kFULL ∧ TClrM h h') := by
  refine cn_q (lv := [vr 47, vi (w : Int), vx, vx]) tX6_face.1 rfl rfl (fun hR Q hQ => ?_)
  have w1 := W.1
  have w2 := W.2.1
  have w3 := W.2.2.1
  refine z_aload_n dX6_face_0 rfl ?_
  refine z_getR fX6_7 dX6_face_1 (by decide) rfl rfl ?_
  refine z_iconst dX6_face_4 ?_
  refine z_aload_n dX6_face_5 rfl ?_
  refine z_getR fX6_13 dX6_face_6 (by decide) rfl rfl ?_
  refine z_iconst dX6_face_9 ?_
  refine z_callS_V (M := mX6_face) [_, _, _, _] tX6_copies kX6_234 dX6_face_10 ⟨by decide, by decide⟩ rfl (Nat.le_of_ble_eq_true rfl) rfl (c_X6_copies (x := 48) (a := 0) (y := 49) (b := 0) (by decide) (by decide) (by decide) rfl rfl (by decide) (by decide) (by decide) (by decide)) (fun h10 q10 => ?_)
  obtain ⟨f0, e0, f1, -⟩ := cpB_g h 48 49
  rw [e0] at q10
  have n10 : ∀ k, k ≠ 49 → h10 k = h k := fun k hk => by rw [q10]; exact setc_ne _ _ hk
  have e10 : h10 49 = f0 := by rw [q10]; exact setc_at _ _ _
  have R10 : RM (h10 48) σ := by rw [n10 48 (by decide)]; exact R
  have R11 : RM (h10 49) σ := by rw [e10]; exact RM_congr W.wb R f1
  have T10 : TP h10 tk n := TP_of T (by rw [n10 47 (by decide)]) (n10 53 (by decide))
  refine z_aload_n dX6_face_13 rfl ?_
  have K54 : ∀ (h5 : HH) (F : Nat) (ok : Int) (d5 : DR h h5 F) (hF : sF σ < 4 → F = sF σ) (hok : ok = 0 ∨ ok = 1) (k1 : 0 < sP σ → ok = bi (pWord σ tk n 0 (fun _ => 0) (fun _ => false) 0 ≠ none) ∧ ∀ m le sg, pWord σ tk n 0 (fun _ => 0) (fun _ => false) 0 = some (m, le, sg) → WL (h5 49) σ F m le sg), Z mX6_face g 54 [vr 47, vi (w : Int), vi (F : Int), vx] [vi ok] h5 Q := by
    intro h5 F ok d5 hF hok k1
    refine z_istore_n dX6_face_54 (by decide) rfl ?_
    have k6 := tclr_up (h5 := h5) d5.1
    have R5 : RM ((up h5 47 7 0) 48) σ := by rw [k6.2.1 48 (by decide) (by decide)]; exact R
    refine z_aload_n dX6_face_55 rfl ?_
    refine z_iconst dX6_face_56 ?_
    refine z_putI pX6_130 dX6_face_57 (by decide) rfl rfl (by omega) ?_
    refine z_aload_n dX6_face_60 rfl ?_
    refine z_callV_eI (M := mX6_face) [] tX6_isComplex kX6_244 dX6_face_61 ⟨by decide, rfl, _, _, rfl⟩ ⟨by decide, by decide⟩ rfl (Nat.le_of_ble_eq_true rfl) rfl (c_X6_isComplex W.wb R5) ?_
    refine z_if_ne 70 dX6_face_64 (by decide) (bi_r _) (fun c64 => ?_) (fun c64 => ?_)
    · have c64 := bi_ne.mp c64
      refine z_iload_n dX6_face_70 rfl ?_
      refine z_i2l dX6_face_71 (by omega) ?_
      refine z_lconst (z := 1) dX6_face_72 rfl ?_
      refine z_ldc2 (3) dX6_face_73 qX6_250 rfl ?_
      refine z_callS_eI (M := mX6_face) [_, _, _] tX6_in kX6_150 dX6_face_76 ⟨by decide, by decide⟩ rfl (Nat.le_of_ble_eq_true rfl) rfl (c_X6_in (by omega) (by omega) (by omega)) ?_
      refine z_if_eq 86 dX6_face_79 (by decide) (bi_r _) (fun c79 => ?_) (fun c79 => ?_)
      · have c79 := bi_eq.mp c79
        omega
      · have c79 := bi_ne.mp c79
        refine z_iload_n dX6_face_82 rfl ?_
        refine z_if_ne 89 dX6_face_83 (by decide) (by omega) (fun c83 => ?_) (fun c83 => ?_)
        · refine z_aload_n dX6_face_89 rfl ?_
          refine z_getR fX6_7 dX6_face_90 (by decide) rfl rfl ?_
          refine z_iconst dX6_face_93 ?_
          refine z_iaload dX6_face_94 (by decide) rfl (by omega) (by omega) (by first | decide | omega) (fun r94 => ?_)
          have e94 : (up h5 47 7 0) 48 (Int.toNat 2) = sF σ := rm_F R5
          rw [e94]
          refine z_iconst dX6_face_95 ?_
          refine z_icmp_ne 102 dX6_face_96 (by decide) (by omega) (by omega) (fun c96 => ?_) (fun c96 => ?_)
          · omega
          · refine z_ldc (-1000003) dX6_face_99 qX6_219 rfl ?_
            exact z_ireturn dX6_face_101 rfl (hQ _ _ ⟨_, rfl, ⟨rfl, k6⟩⟩)
        · exact absurd ((k1 h0).1.symm.trans c83) (fun q => bi_eq.mp q (by rw [hW]; exact fun r => by cases r))
    · have c64 := bi_eq.mp c64
      omega
  have K33 : ∀ (F : Nat) (h4 : F < 4) (hF : sF σ < 4 → F = sF σ), Z mX6_face g 33 [vr 47, vi (w : Int), vx, vx] [vi (F : Int)] h10 Q := by
    intro F h4 hF
    refine z_istore_n dX6_face_33 (by decide) rfl ?_
    refine z_aload_n dX6_face_34 rfl ?_
    refine z_callV_eI (M := mX6_face) [] tX6_isComplex kX6_244 dX6_face_35 ⟨by decide, rfl, _, _, rfl⟩ ⟨by decide, by decide⟩ rfl (Nat.le_of_ble_eq_true rfl) rfl (c_X6_isComplex W.wb R10) ?_
    refine z_if_eq 53 dX6_face_38 (by decide) (bi_r _) (fun c38 => ?_) (fun c38 => ?_)
    · have c38 := bi_eq.mp c38
      refine z_iconst dX6_face_53 ?_
      exact K54 h10 F 0 ⟨n10, fun j j1 _ => by rw [e10]; exact f1 j j1⟩ hF (Or.inl rfl) (fun q => absurd q c38)
    · have c38 := bi_ne.mp c38
      refine z_aload_n dX6_face_41 rfl ?_
      refine z_iload_n dX6_face_42 rfl ?_
      refine z_callV_I (M := mX6_face) [_] tX6_isWord kX6_257 dX6_face_43 ⟨by decide, rfl, _, _, rfl⟩ ⟨by decide, by decide⟩ rfl (Nat.le_of_ble_eq_true rfl) rfl (c_X6_isWord T10 W.wb R11 h4) (fun z43 h43 q43 => ?_)
      obtain ⟨f', g1, g2, g3, g4⟩ := q43
      rw [g1]
      have d6 : DR h (setc h10 49 f') F := ⟨fun k hk => by rw [setc_ne _ _ hk]; exact n10 k hk, fun j j1 j2 => by rw [setc_at, g2 j j2, e10]; exact f1 j j1⟩
      have g5 : (setc h10 49 f') 49 = f' := setc_at _ _ _
      have z01 : z43 = 0 ∨ z43 = 1 := by rw [g3]; exact bi_01 _
      refine z_if_eq 53 dX6_face_46 (by decide) (by omega) (fun c46 => ?_) (fun c46 => ?_)
      · refine z_iconst dX6_face_53 ?_
        exact K54 _ F 0 d6 hF (Or.inl rfl) (fun _ => ⟨by rw [← g3]; exact c46.symm, fun m le sg q => by rw [g5]; exact g4 m le sg q⟩)
      · refine z_iconst dX6_face_49 ?_
        refine z_goto 54 dX6_face_50 (by decide) ?_
        exact K54 _ F 1 d6 hF (Or.inr rfl) (fun _ => ⟨by rw [← g3]; exact (z01.resolve_left c46).symm, fun m le sg q => by rw [g5]; exact g4 m le sg q⟩)
  refine z_getR fX6_7 dX6_face_14 (by decide) rfl rfl ?_
  refine z_iconst dX6_face_17 ?_
  refine z_iaload dX6_face_18 (by decide) rfl (by omega) (by omega) (by first | decide | omega) (fun r18 => ?_)
  rw [show h10 48 (Int.toNat 2) = sF σ from rm_F R10]
  refine z_iconst dX6_face_19 ?_
  refine z_icmp_ne 27 dX6_face_20 (by decide) (by omega) (by omega) (fun c20 => ?_) (fun c20 => ?_)
  · refine z_aload_n dX6_face_27 rfl ?_
    refine z_getR fX6_7 dX6_face_28 (by decide) rfl rfl ?_
    refine z_iconst dX6_face_31 ?_
    refine z_iaload dX6_face_32 (by decide) rfl (by omega) (by omega) (by first | decide | omega) (fun r32 => ?_)
    rw [show h10 48 (Int.toNat 2) = sF σ from rm_F R10]
    exact K33 (sF σ) (by omega) (fun _ => rfl)
  · refine z_iconst dX6_face_23 ?_
    refine z_goto 33 dX6_face_24 (by decide) ?_
    exact K33 0 (by decide) (fun q => absurd q (by omega))
set_option maxRecDepth 100000 in
set_option maxHeartbeats 4000000 in
theorem c_X6_face1 {g : GG} {h : HH} {tk : Nat → Int} {n : Nat} (T : TP h tk n) {σ : SG} (W : WF σ) (R : RM (h 48) σ) {w : Nat} (hw : 1 ≤ w ∧ w ≤ 3) (h0 : 0 < sP σ) {m : Nat} {le : Nat → Nat} {sg : Nat → Bool} (hW : pWord σ tk n 0 (fun _ => 0) (fun _ => false) 0 = some (m, le, sg)) (hF4 : sF σ < 4) {as : List SG} (P : RPast h as) : CnI mX6_face g [vr 47, vi (w : Int)] h (fun z h' => z = sF σ ∧ ∃ h1, TClrM h h1 ∧ ActM h1 h' σ as (addF σ w m le sg)) := by
  refine cn_q (lv := [vr 47, vi (w : Int), vx, vx]) tX6_face.1 rfl rfl (fun hR Q hQ => ?_)
  have w1 := W.1
  have w2 := W.2.1
  have w3 := W.2.2.1
  refine z_aload_n dX6_face_0 rfl ?_
  refine z_getR fX6_7 dX6_face_1 (by decide) rfl rfl ?_
  refine z_iconst dX6_face_4 ?_
  refine z_aload_n dX6_face_5 rfl ?_
  refine z_getR fX6_13 dX6_face_6 (by decide) rfl rfl ?_
  refine z_iconst dX6_face_9 ?_
  refine z_callS_V (M := mX6_face) [_, _, _, _] tX6_copies kX6_234 dX6_face_10 ⟨by decide, by decide⟩ rfl (Nat.le_of_ble_eq_true rfl) rfl (c_X6_copies (x := 48) (a := 0) (y := 49) (b := 0) (by decide) (by decide) (by decide) rfl rfl (by decide) (by decide) (by decide) (by decide)) (fun h10 q10 => ?_)
  obtain ⟨f0, e0, f1, -⟩ := cpB_g h 48 49
  rw [e0] at q10
  have n10 : ∀ k, k ≠ 49 → h10 k = h k := fun k hk => by rw [q10]; exact setc_ne _ _ hk
  have e10 : h10 49 = f0 := by rw [q10]; exact setc_at _ _ _
  have R10 : RM (h10 48) σ := by rw [n10 48 (by decide)]; exact R
  have R11 : RM (h10 49) σ := by rw [e10]; exact RM_congr W.wb R f1
  have T10 : TP h10 tk n := TP_of T (by rw [n10 47 (by decide)]) (n10 53 (by decide))
  refine z_aload_n dX6_face_13 rfl ?_
  have K54 : ∀ (h5 : HH) (F : Nat) (ok : Int) (d5 : DR h h5 F) (hF : sF σ < 4 → F = sF σ) (hok : ok = 0 ∨ ok = 1) (k1 : 0 < sP σ → ok = bi (pWord σ tk n 0 (fun _ => 0) (fun _ => false) 0 ≠ none) ∧ ∀ m le sg, pWord σ tk n 0 (fun _ => 0) (fun _ => false) 0 = some (m, le, sg) → WL (h5 49) σ F m le sg), Z mX6_face g 54 [vr 47, vi (w : Int), vi (F : Int), vx] [vi ok] h5 Q := by
    intro h5 F ok d5 hF hok k1
    refine z_istore_n dX6_face_54 (by decide) rfl ?_
    have k6 := tclr_up (h5 := h5) d5.1
    have R5 : RM ((up h5 47 7 0) 48) σ := by rw [k6.2.1 48 (by decide) (by decide)]; exact R
    refine z_aload_n dX6_face_55 rfl ?_
    refine z_iconst dX6_face_56 ?_
    refine z_putI pX6_130 dX6_face_57 (by decide) rfl rfl (by omega) ?_
    refine z_aload_n dX6_face_60 rfl ?_
    refine z_callV_eI (M := mX6_face) [] tX6_isComplex kX6_244 dX6_face_61 ⟨by decide, rfl, _, _, rfl⟩ ⟨by decide, by decide⟩ rfl (Nat.le_of_ble_eq_true rfl) rfl (c_X6_isComplex W.wb R5) ?_
    refine z_if_ne 70 dX6_face_64 (by decide) (bi_r _) (fun c64 => ?_) (fun c64 => ?_)
    · have c64 := bi_ne.mp c64
      refine z_iload_n dX6_face_70 rfl ?_
      refine z_i2l dX6_face_71 (by omega) ?_
      refine z_lconst (z := 1) dX6_face_72 rfl ?_
      refine z_ldc2 (3) dX6_face_73 qX6_250 rfl ?_
      refine z_callS_eI (M := mX6_face) [_, _, _] tX6_in kX6_150 dX6_face_76 ⟨by decide, by decide⟩ rfl (Nat.le_of_ble_eq_true rfl) rfl (c_X6_in (by omega) (by omega) (by omega)) ?_
      refine z_if_eq 86 dX6_face_79 (by decide) (bi_r _) (fun c79 => ?_) (fun c79 => ?_)
      · have c79 := bi_eq.mp c79
        omega
      · have c79 := bi_ne.mp c79
        refine z_iload_n dX6_face_82 rfl ?_
        refine z_if_ne 89 dX6_face_83 (by decide) (by omega) (fun c83 => ?_) (fun c83 => ?_)
        · refine z_aload_n dX6_face_89 rfl ?_
          refine z_getR fX6_7 dX6_face_90 (by decide) rfl rfl ?_
          refine z_iconst dX6_face_93 ?_
          refine z_iaload dX6_face_94 (by decide) rfl (by omega) (by omega) (by first | decide | omega) (fun r94 => ?_)
          have e94 : (up h5 47 7 0) 48 (Int.toNat 2) = sF σ := rm_F R5
          rw [e94]
          refine z_iconst dX6_face_95 ?_
          refine z_icmp_ne 102 dX6_face_96 (by decide) (by omega) (by omega) (fun c96 => ?_) (fun c96 => ?_)
          · have P6 : RPast (up h5 47 7 0) as := RPast_keep P (k6.2.2 3 (by decide)) (k6.2.1 50 (by decide) (by decide))
            refine z_aload_n dX6_face_102 rfl ?_
            refine z_callV_V (M := mX6_face) [] tX6_notes kX6_252 dX6_face_103 ⟨by decide, rfl, _, _, rfl⟩ ⟨by decide, by decide⟩ rfl (Nat.le_of_ble_eq_true rfl) rfl (c_X6_notes W R5 P6) (fun h103 q103 => ?_)
            refine z_aload_n dX6_face_106 rfl ?_
            refine z_getR fX6_13 dX6_face_107 (by decide) rfl rfl ?_
            refine z_iconst dX6_face_110 ?_
            refine z_aload_n dX6_face_111 rfl ?_
            refine z_getR fX6_7 dX6_face_112 (by decide) rfl rfl ?_
            refine z_iconst dX6_face_115 ?_
            refine z_callS_V (M := mX6_face) [_, _, _, _] tX6_copies kX6_234 dX6_face_116 ⟨by decide, by decide⟩ rfl (Nat.le_of_ble_eq_true rfl) rfl (c_X6_copies (x := 49) (a := 0) (y := 48) (b := 0) (by decide) (by decide) (by decide) rfl rfl (by decide) (by decide) (by decide) (by decide)) (fun h116 q116 => ?_)
            obtain ⟨f2, e2, f3, f4⟩ := cpB_g h103 49 48
            rw [q116, e2]
            have eF := hF hF4
            have wl := (k1 h0).2 m le sg hW
            have E49 : h103 49 = h5 49 := by rw [q103.2.1 49 (by decide) (by decide), up_ne _ _ _ (by decide)]
            have E48 : h103 48 = h 48 := by rw [q103.2.1 48 (by decide) (by decide), k6.2.1 48 (by decide) (by decide)]
            have R6 : RM (upn f2 (21 + 6 * sF σ) w) σ := by
              refine rm_low W.wb R (fun j hj => ?_)
              rw [upn_ne (by omega)]
              rcases Nat.lt_or_ge j 63 with q | q
              · rw [f3 j q, E49]; exact d5.2 j q (by omega)
              · rw [f4 j q, E48]
            have wl6 : WL (upn f2 (21 + 6 * sF σ) w) σ (sF σ) m le sg := by
              rw [eF] at wl
              obtain ⟨l1, l2, l3, l4⟩ := wl
              exact ⟨l1, l2, by rw [upn_ne (by omega), f3 _ (by omega), E49]; exact l3, fun k hk => by rw [upn_ne (by omega), f3 _ (by omega), E49]; exact l4 k hk⟩
            rw [eF]
            refine z_aload_n dX6_face_119 rfl ?_
            refine z_getR fX6_7 dX6_face_120 (by decide) rfl rfl ?_
            refine z_bipush dX6_face_123 (by decide) ?_
            refine z_bipush dX6_face_125 (by decide) ?_
            refine z_iload_n dX6_face_127 rfl ?_
            refine z_imul dX6_face_128 ?_
            refine z_iadd dX6_face_129 ?_
            refine z_iload_n dX6_face_130 rfl ?_
            refine z_iastore dX6_face_131 (by decide) rfl (by omega) (by omega) (by first | decide | omega) (by omega) ?_
            rw [up_s (i := 21 + 6 * sF σ) (by omega)]
            refine z_aload_n dX6_face_132 rfl ?_
            refine z_getR fX6_7 dX6_face_133 (by decide) rfl rfl ?_
            refine z_iconst dX6_face_136 ?_
            refine z_dup2 dX6_face_137 rfl rfl ?_
            refine z_iaload dX6_face_138 (by decide) rfl (by omega) (by omega) (by first | decide | omega) (fun r138 => ?_)
            have e138 : (setc h103 48 (upn f2 (21 + 6 * sF σ) (w : Int))) 48 (Int.toNat 2) = sF σ := by rw [setc_at]; exact rm_F R6
            rw [e138] at r138 ⊢
            refine z_iconst dX6_face_139 ?_
            refine z_iadd dX6_face_140 ?_
            refine z_iastore dX6_face_141 (by decide) rfl (by omega) (by omega) (by first | decide | omega) (by omega) ?_
            rw [up_s (z := 2) (i := 2) rfl]
            refine z_iload_n dX6_face_142 rfl ?_
            exact z_ireturn dX6_face_143 rfl (hQ _ _ ⟨_, rfl, ⟨rfl, _, k6, actM_of q103 (rm_addF W.wb R6 wl6 (upn_eq rfl))⟩⟩)
          · omega
        · exact absurd ((k1 h0).1.symm.trans c83) (fun q => bi_eq.mp q (by rw [hW]; exact fun r => by cases r))
    · have c64 := bi_eq.mp c64
      omega
  have K33 : ∀ (F : Nat) (h4 : F < 4) (hF : sF σ < 4 → F = sF σ), Z mX6_face g 33 [vr 47, vi (w : Int), vx, vx] [vi (F : Int)] h10 Q := by
    intro F h4 hF
    refine z_istore_n dX6_face_33 (by decide) rfl ?_
    refine z_aload_n dX6_face_34 rfl ?_
    refine z_callV_eI (M := mX6_face) [] tX6_isComplex kX6_244 dX6_face_35 ⟨by decide, rfl, _, _, rfl⟩ ⟨by decide, by decide⟩ rfl (Nat.le_of_ble_eq_true rfl) rfl (c_X6_isComplex W.wb R10) ?_
    refine z_if_eq 53 dX6_face_38 (by decide) (bi_r _) (fun c38 => ?_) (fun c38 => ?_)
    · have c38 := bi_eq.mp c38
      refine z_iconst dX6_face_53 ?_
      exact K54 h10 F 0 ⟨n10, fun j j1 _ => by rw [e10]; exact f1 j j1⟩ hF (Or.inl rfl) (fun q => absurd q c38)
    · have c38 := bi_ne.mp c38
      refine z_aload_n dX6_face_41 rfl ?_
      refine z_iload_n dX6_face_42 rfl ?_
      refine z_callV_I (M := mX6_face) [_] tX6_isWord kX6_257 dX6_face_43 ⟨by decide, rfl, _, _, rfl⟩ ⟨by decide, by decide⟩ rfl (Nat.le_of_ble_eq_true rfl) rfl (c_X6_isWord T10 W.wb R11 h4) (fun z43 h43 q43 => ?_)
      obtain ⟨f', g1, g2, g3, g4⟩ := q43
      rw [g1]
      have d6 : DR h (setc h10 49 f') F := ⟨fun k hk => by rw [setc_ne _ _ hk]; exact n10 k hk, fun j j1 j2 => by rw [setc_at, g2 j j2, e10]; exact f1 j j1⟩
      have g5 : (setc h10 49 f') 49 = f' := setc_at _ _ _
      have z01 : z43 = 0 ∨ z43 = 1 := by rw [g3]; exact bi_01 _
      refine z_if_eq 53 dX6_face_46 (by decide) (by omega) (fun c46 => ?_) (fun c46 => ?_)
      · refine z_iconst dX6_face_53 ?_
        exact K54 _ F 0 d6 hF (Or.inl rfl) (fun _ => ⟨by rw [← g3]; exact c46.symm, fun m le sg q => by rw [g5]; exact g4 m le sg q⟩)
      · refine z_iconst dX6_face_49 ?_
        refine z_goto 54 dX6_face_50 (by decide) ?_
        exact K54 _ F 1 d6 hF (Or.inr rfl) (fun _ => ⟨by rw [← g3]; exact (z01.resolve_left c46).symm, fun m le sg q => by rw [g5]; exact g4 m le sg q⟩)
  refine z_getR fX6_7 dX6_face_14 (by decide) rfl rfl ?_
  refine z_iconst dX6_face_17 ?_
  refine z_iaload dX6_face_18 (by decide) rfl (by omega) (by omega) (by first | decide | omega) (fun r18 => ?_)
  rw [show h10 48 (Int.toNat 2) = sF σ from rm_F R10]
  refine z_iconst dX6_face_19 ?_
  refine z_icmp_ne 27 dX6_face_20 (by decide) (by omega) (by omega) (fun c20 => ?_) (fun c20 => ?_)
  · refine z_aload_n dX6_face_27 rfl ?_
    refine z_getR fX6_7 dX6_face_28 (by decide) rfl rfl ?_
    refine z_iconst dX6_face_31 ?_
    refine z_iaload dX6_face_32 (by decide) rfl (by omega) (by omega) (by first | decide | omega) (fun r32 => ?_)
    rw [show h10 48 (Int.toNat 2) = sF σ from rm_F R10]
    exact K33 (sF σ) (by omega) (fun _ => rfl)
  · refine z_iconst dX6_face_23 ?_
    refine z_goto 33 dX6_face_24 (by decide) ?_
    exact K33 0 (by decide) (fun q => absurd q (by omega))

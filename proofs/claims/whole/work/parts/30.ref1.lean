/-! THE REFERENCE'S READERS, of the complex in its row. -/
def isB (b : Nat) : Prop := b = 48 ∨ b = 49
theorem shpB {b : Nat} (h : isB b) : shp b = (1, 63, []) := by rcases h with rfl | rfl <;> rfl
theorem ltB {b : Nat} (h : isB b) : b < 60 := by rcases h with rfl | rfl <;> decide
theorem isB48 : isB 48 := Or.inl rfl
theorem isB49 : isB 49 := Or.inr rfl
/-- the reference's letters -/
def lcd (e : Nat) (b : Bool) : Int := if b then -(e : Int) - 1 else (e : Int) + 1
def led (z : Int) : Int := if z < 0 then -z - 1 else z - 1
theorem lcd_led (e : Nat) (b : Bool) : led (lcd e b) = e := by unfold led lcd; cases b <;> simp <;> omega
theorem lcd_neg (e : Nat) (b : Bool) : lcd e b < 0 ↔ b = true := by unfold lcd; cases b <;> simp <;> omega
theorem lcd_r {e : Nat} (b : Bool) (he : e < 26) : -27 ≤ lcd e b ∧ lcd e b ≤ 27 := by unfold lcd; cases b <;> simp <;> omega
theorem ix {f : Nat → Int} {z : Int} {i : Nat} (h : z = (i : Int)) : f z.toNat = f i := by subst h; rfl
theorem rm_P {f : Nat → Int} {σ : SG} (R : RM f σ) : f 0 = sP σ := R.1
theorem rm_E {f : Nat → Int} {σ : SG} (R : RM f σ) : f 1 = sE σ := R.2.1
theorem rm_F {f : Nat → Int} {σ : SG} (R : RM f σ) : f 2 = sF σ := R.2.2.1
theorem rm_fr {f : Nat → Int} {σ : SG} (R : RM f σ) {e : Nat} (he : e < sE σ) {z : Int} (hz : z = 3 + 3 * (e : Int)) : f z.toNat = sfr σ e := (ix (i := 3 + 3 * e) (by omega)).trans (R.2.2.2.1 e he).1
theorem rm_to {f : Nat → Int} {σ : SG} (R : RM f σ) {e : Nat} (he : e < sE σ) {z : Int} (hz : z = 3 + 3 * (e : Int) + 1) : f z.toNat = sto σ e := (ix (i := 3 + 3 * e + 1) (by omega)).trans (R.2.2.2.1 e he).2.1
theorem rm_ew {f : Nat → Int} {σ : SG} (R : RM f σ) {e : Nat} (he : e < sE σ) {z : Int} (hz : z = 3 + 3 * (e : Int) + 2) : f z.toNat = sew σ e := (ix (i := 3 + 3 * e + 2) (by omega)).trans (R.2.2.2.1 e he).2.2
theorem rm_fw {f : Nat → Int} {σ : SG} (R : RM f σ) {k : Nat} (hk : k < sF σ) {z : Int} (hz : z = 21 + 6 * (k : Int)) : f z.toNat = sfw σ k := (ix (i := 21 + 6 * k) (by omega)).trans (R.2.2.2.2.1 k hk).1
theorem rm_wl {f : Nat → Int} {σ : SG} (R : RM f σ) {k : Nat} (hk : k < sF σ) {z : Int} (hz : z = 21 + 6 * (k : Int) + 1) : f z.toNat = swl σ k := (ix (i := 21 + 6 * k + 1) (by omega)).trans (R.2.2.2.2.1 k hk).2.1
theorem rm_lt {f : Nat → Int} {σ : SG} (R : RM f σ) {k j : Nat} (hk : k < sF σ) (hj : j < swl σ k) {z : Int} (hz : z = 21 + 6 * (k : Int) + 2 + (j : Int)) : f z.toNat = lcd (sle σ k j) (ssg σ k j) := (ix (i := 21 + 6 * k + 2 + j) (by omega)).trans ((R.2.2.2.2.1 k hk).2.2 j hj)
theorem rm_ch {f : Nat → Int} {σ : SG} (R : RM f σ) {c e : Nat} (hc : c < 3) (he : e < sE σ) {z : Int} (hz : z = 45 + 6 * (c : Int) + (e : Int)) : f z.toNat = sch σ c e := (ix (i := 45 + 6 * c + e) (by omega)).trans (R.2.2.2.2.2 c e hc he)
theorem rm_bg0 {f : Nat → Int} {σ : SG} (R : RM f σ) {e : Nat} {y : Bool} (he : e < sE σ) (c : 0 ≤ lcd e y) {z : Int} (hz : z = 3 + 3 * (e : Int)) : f z.toNat = bgE σ e y := by
  have l2 := lcd_neg e y
  unfold bgE; cases y
  · exact rm_fr R he hz
  · simp at l2; omega
theorem rm_bg1 {f : Nat → Int} {σ : SG} (R : RM f σ) {e : Nat} {y : Bool} (he : e < sE σ) (c : lcd e y < 0) {z : Int} (hz : z = 3 + 3 * (e : Int) + 1) : f z.toNat = bgE σ e y := by
  have l2 := lcd_neg e y
  unfold bgE; cases y
  · simp at l2; omega
  · exact rm_to R he hz
theorem rm_en0 {f : Nat → Int} {σ : SG} (R : RM f σ) {e : Nat} {y : Bool} (he : e < sE σ) (c : 0 ≤ lcd e y) {z : Int} (hz : z = 3 + 3 * (e : Int) + 1) : f z.toNat = enE σ e y := by
  have l2 := lcd_neg e y
  unfold enE; cases y
  · exact rm_to R he hz
  · simp at l2; omega
theorem rm_en1 {f : Nat → Int} {σ : SG} (R : RM f σ) {e : Nat} {y : Bool} (he : e < sE σ) (c : lcd e y < 0) {z : Int} (hz : z = 3 + 3 * (e : Int)) : f z.toNat = enE σ e y := by
  have l2 := lcd_neg e y
  unfold enE; cases y
  · simp at l2; omega
  · exact rm_fr R he hz
theorem cod_l0 {e : Nat} {y : Bool} (c : 0 ≤ lcd e y) : 97 + lcd e y - 1 = cod e y := by
  have l2 := lcd_neg e y
  unfold cod; cases y
  · unfold lcd; simp; omega
  · simp at l2; omega
theorem cod_l1 {e : Nat} {y : Bool} (c : lcd e y < 0) : 65 - lcd e y - 1 = cod e y := by
  have l2 := lcd_neg e y
  unfold cod; cases y
  · simp at l2; omega
  · unfold lcd; simp; omega
set_option maxRecDepth 100000 in
set_option maxHeartbeats 4000000 in
theorem c_X6_in {g : GG} {h : HH} {v lo hi : Int} (hv : R64 v) (hl : R64 lo) (hh : R64 hi) : CeI mX6_in g [vl v, vl lo, vl hi] h (bi (lo ≤ v ∧ v ≤ hi)) := by
  refine cn_q (lv := [vl v, vx, vl lo, vx, vl hi, vx]) tX6_in.1 rfl rfl (fun hR Q hQ => ?_)
  refine z_lload_n dX6_in_0 rfl ?_
  refine z_lload_n dX6_in_1 rfl ?_
  refine z_lcmp dX6_in_2 (by omega) (by omega) ?_
  refine z_if_lt 17 dX6_in_3 (by decide) (icmp_r _ _) (fun c3 => ?_) (fun c3 => ?_)
  · have c3 := icmp_lt.mp c3
    refine z_iconst dX6_in_17 ?_
    exact z_zreturn dX6_in_18 rfl (by first | exact Or.inl rfl | exact Or.inr rfl | exact bi_01 _ | omega) (hQ _ _ ⟨_, rfl, (by first | (exfalso; omega) | exact bi_t (by omega) | exact bi_f (by omega)), rfl⟩)
  · have c3 := icmp_ge.mp c3
    refine z_lload_n dX6_in_6 rfl ?_
    refine z_lload dX6_in_7 rfl ?_
    refine z_lcmp dX6_in_9 (by omega) (by omega) ?_
    refine z_if_gt 17 dX6_in_10 (by decide) (icmp_r _ _) (fun c10 => ?_) (fun c10 => ?_)
    · have c10 := icmp_gt.mp c10
      refine z_iconst dX6_in_17 ?_
      exact z_zreturn dX6_in_18 rfl (by first | exact Or.inl rfl | exact Or.inr rfl | exact bi_01 _ | omega) (hQ _ _ ⟨_, rfl, (by first | (exfalso; omega) | exact bi_t (by omega) | exact bi_f (by omega)), rfl⟩)
    · have c10 := icmp_le.mp c10
      refine z_iconst dX6_in_13 ?_
      refine z_goto 18 dX6_in_14 (by decide) ?_
      exact z_zreturn dX6_in_18 rfl (by first | exact Or.inl rfl | exact Or.inr rfl | exact bi_01 _ | omega) (hQ _ _ ⟨_, rfl, (by first | (exfalso; omega) | exact bi_t (by omega) | exact bi_f (by omega)), rfl⟩)
set_option maxRecDepth 100000 in
set_option maxHeartbeats 4000000 in
theorem c_X6_isComplex {g : GG} {h : HH} {σ : SG} (W : WB σ) (R : RM (h 48) σ) : CeI mX6_isComplex g [vr 47] h (bi (0 < sP σ)) := by
  refine cn_q (lv := [vr 47]) tX6_isComplex.1 rfl rfl (fun hR Q hQ => ?_)
  have w1 := W.1
  have w2 := W.2.1
  have w3 := W.2.2.1
  refine z_aload_n dX6_isComplex_0 rfl ?_
  refine z_getR fX6_7 dX6_isComplex_1 (by decide) rfl rfl ?_
  refine z_iconst dX6_isComplex_4 ?_
  refine z_iaload dX6_isComplex_5 (by decide) rfl (by omega) (by omega) (by decide) (fun r5 => ?_)
  rw [show h 48 (Int.toNat 0) = sP σ from rm_P R]
  refine z_if_le 13 dX6_isComplex_6 (by decide) (by omega) (fun c6 => ?_) (fun c6 => ?_)
  · refine z_iconst dX6_isComplex_13 ?_
    exact z_zreturn dX6_isComplex_14 rfl (by first | exact Or.inl rfl | exact Or.inr rfl | exact bi_01 _ | omega) (hQ _ _ ⟨_, rfl, (by first | (exfalso; omega) | exact bi_t (by omega) | exact bi_f (by omega)), rfl⟩)
  · refine z_iconst dX6_isComplex_9 ?_
    refine z_goto 14 dX6_isComplex_10 (by decide) ?_
    exact z_zreturn dX6_isComplex_14 rfl (by first | exact Or.inl rfl | exact Or.inr rfl | exact bi_01 _ | omega) (hQ _ _ ⟨_, rfl, (by first | (exfalso; omega) | exact bi_t (by omega) | exact bi_f (by omega)), rfl⟩)
set_option maxRecDepth 100000 in
set_option maxHeartbeats 4000000 in
theorem c_X6_edgeAt {g : GG} {h : HH} {b : Nat} (hb : isB b) {e w : Int} (he : -100 ≤ e ∧ e ≤ 100) (hw : 0 ≤ w ∧ w < 3) (hi : 0 ≤ 3 + 3 * e + w ∧ 3 + 3 * e + w < 63) : CeI mX6_edgeAt g [vr b, vi e, vi w] h (h b (3 + 3 * e + w).toNat) := by
  refine cn_q (lv := [vr b, vi e, vi w]) tX6_edgeAt.1 rfl rfl (fun hR Q hQ => ?_)
  refine z_aload_n dX6_edgeAt_0 rfl ?_
  refine z_iconst dX6_edgeAt_1 ?_
  refine z_iconst dX6_edgeAt_2 ?_
  refine z_iload_n dX6_edgeAt_3 rfl ?_
  refine z_imul dX6_edgeAt_4 ?_
  refine z_iadd dX6_edgeAt_5 ?_
  refine z_iload_n dX6_edgeAt_6 rfl ?_
  refine z_iadd dX6_edgeAt_7 ?_
  refine z_iaload dX6_edgeAt_8 (ltB hb) (shpB hb) (by omega) (by omega) (by decide) (fun r8 => ?_)
  exact z_ireturn dX6_edgeAt_9 rfl (hQ _ _ ⟨_, rfl, rfl, rfl⟩)
set_option maxRecDepth 100000 in
set_option maxHeartbeats 4000000 in
theorem c_X6_weightE {g : GG} {h : HH} {b : Nat} (hb : isB b) {σ : SG} (W : WB σ) (R : RM (h b) σ) {e : Nat} (he : e < sE σ) : CeI mX6_weight g [vr b, vi 1, vi (e : Int)] h (sew σ e) := by
  refine cn_q (lv := [vr b, vi 1, vi (e : Int)]) tX6_weight.1 rfl rfl (fun hR Q hQ => ?_)
  have w1 := W.1
  have w2 := W.2.1
  have w3 := W.2.2.1
  refine z_iload_n dX6_weight_0 rfl ?_
  refine z_iconst dX6_weight_1 ?_
  refine z_icmp_ne 17 dX6_weight_2 (by decide) (by omega) (by omega) (fun c2 => ?_) (fun c2 => ?_)
  · omega
  · refine z_aload_n dX6_weight_5 rfl ?_
    refine z_iconst dX6_weight_6 ?_
    refine z_iconst dX6_weight_7 ?_
    refine z_iload_n dX6_weight_8 rfl ?_
    refine z_imul dX6_weight_9 ?_
    refine z_iadd dX6_weight_10 ?_
    refine z_iconst dX6_weight_11 ?_
    refine z_iadd dX6_weight_12 ?_
    refine z_iaload dX6_weight_13 (ltB hb) (shpB hb) (by omega) (by omega) (by decide) (fun r13 => ?_)
    refine z_goto 26 dX6_weight_14 (by decide) ?_
    exact z_ireturn dX6_weight_26 rfl (hQ _ _ ⟨_, rfl, (rm_ew R he (by omega)), rfl⟩)
set_option maxRecDepth 100000 in
set_option maxHeartbeats 4000000 in
theorem c_X6_weightF {g : GG} {h : HH} {b : Nat} (hb : isB b) {σ : SG} (W : WB σ) (R : RM (h b) σ) {f : Nat} (hf : f < sF σ) : CeI mX6_weight g [vr b, vi 2, vi (f : Int)] h (sfw σ f) := by
  refine cn_q (lv := [vr b, vi 2, vi (f : Int)]) tX6_weight.1 rfl rfl (fun hR Q hQ => ?_)
  have w1 := W.1
  have w2 := W.2.1
  have w3 := W.2.2.1
  refine z_iload_n dX6_weight_0 rfl ?_
  refine z_iconst dX6_weight_1 ?_
  refine z_icmp_ne 17 dX6_weight_2 (by decide) (by omega) (by omega) (fun c2 => ?_) (fun c2 => ?_)
  · refine z_aload_n dX6_weight_17 rfl ?_
    refine z_bipush dX6_weight_18 (by decide) ?_
    refine z_bipush dX6_weight_20 (by decide) ?_
    refine z_iload_n dX6_weight_22 rfl ?_
    refine z_imul dX6_weight_23 ?_
    refine z_iadd dX6_weight_24 ?_
    refine z_iaload dX6_weight_25 (ltB hb) (shpB hb) (by omega) (by omega) (by decide) (fun r25 => ?_)
    exact z_ireturn dX6_weight_26 rfl (hQ _ _ ⟨_, rfl, (rm_fw R hf (by omega)), rfl⟩)
  · omega
set_option maxRecDepth 100000 in
set_option maxHeartbeats 4000000 in
theorem c_X6_letter {g : GG} {h : HH} {b : Nat} (hb : isB b) {f k : Nat} (hf : f < 4) (hk : k < 4) : CeI mX6_letter g [vr b, vi (f : Int), vi (k : Int)] h (h b (21 + 6 * f + 2 + k)) := by
  refine cn_q (lv := [vr b, vi (f : Int), vi (k : Int)]) tX6_letter.1 rfl rfl (fun hR Q hQ => ?_)
  refine z_aload_n dX6_letter_0 rfl ?_
  refine z_bipush dX6_letter_1 (by decide) ?_
  refine z_bipush dX6_letter_3 (by decide) ?_
  refine z_iload_n dX6_letter_5 rfl ?_
  refine z_imul dX6_letter_6 ?_
  refine z_iadd dX6_letter_7 ?_
  refine z_iconst dX6_letter_8 ?_
  refine z_iadd dX6_letter_9 ?_
  refine z_iload_n dX6_letter_10 rfl ?_
  refine z_iadd dX6_letter_11 ?_
  refine z_iaload dX6_letter_12 (ltB hb) (shpB hb) (by omega) (by omega) (by decide) (fun r12 => ?_)
  exact z_ireturn dX6_letter_13 rfl (hQ _ _ ⟨_, rfl, (ix (by omega)), rfl⟩)
set_option maxRecDepth 100000 in
set_option maxHeartbeats 4000000 in
theorem c_X6_many {g : GG} {h : HH} {b : Nat} (hb : isB b) {f : Nat} (hf : f < 4) : CeI mX6_many g [vr b, vi (f : Int)] h (h b (21 + 6 * f + 1)) := by
  refine cn_q (lv := [vr b, vi (f : Int)]) tX6_many.1 rfl rfl (fun hR Q hQ => ?_)
  refine z_aload_n dX6_many_0 rfl ?_
  refine z_bipush dX6_many_1 (by decide) ?_
  refine z_bipush dX6_many_3 (by decide) ?_
  refine z_iload_n dX6_many_5 rfl ?_
  refine z_imul dX6_many_6 ?_
  refine z_iadd dX6_many_7 ?_
  refine z_iconst dX6_many_8 ?_
  refine z_iadd dX6_many_9 ?_
  refine z_iaload dX6_many_10 (ltB hb) (shpB hb) (by omega) (by omega) (by decide) (fun r10 => ?_)
  exact z_ireturn dX6_many_11 rfl (hQ _ _ ⟨_, rfl, (ix (by omega)), rfl⟩)
set_option maxRecDepth 100000 in
set_option maxHeartbeats 4000000 in
theorem c_X6_edgeOf {g : GG} {h : HH} {z : Int} (hz : -1000 ≤ z ∧ z ≤ 1000) : CeI mX6_edgeOf g [vi z] h (led z) := by
  refine cn_q (lv := [vi z]) tX6_edgeOf.1 rfl rfl (fun hR Q hQ => ?_)
  refine z_iload_n dX6_edgeOf_0 rfl ?_
  refine z_if_ge 11 dX6_edgeOf_1 (by decide) (by omega) (fun c1 => ?_) (fun c1 => ?_)
  · refine z_iload_n dX6_edgeOf_11 rfl ?_
    refine z_iconst dX6_edgeOf_12 ?_
    refine z_isub dX6_edgeOf_13 ?_
    exact z_ireturn dX6_edgeOf_14 rfl (hQ _ _ ⟨_, rfl, (by unfold led; first | rw [if_pos (by omega)] | rw [if_neg (by omega)]), rfl⟩)
  · refine z_iload_n dX6_edgeOf_4 rfl ?_
    refine z_ineg dX6_edgeOf_5 ?_
    refine z_iconst dX6_edgeOf_6 ?_
    refine z_isub dX6_edgeOf_7 ?_
    refine z_goto 14 dX6_edgeOf_8 (by decide) ?_
    exact z_ireturn dX6_edgeOf_14 rfl (hQ _ _ ⟨_, rfl, (by unfold led; first | rw [if_pos (by omega)] | rw [if_neg (by omega)]), rfl⟩)
set_option maxRecDepth 100000 in
set_option maxHeartbeats 4000000 in
theorem c_X6_beginOf {g : GG} {h : HH} {b : Nat} (hb : isB b) {σ : SG} (W : WB σ) (R : RM (h b) σ) {e : Nat} (y : Bool) (he : e < sE σ) : CeI mX6_beginOf g [vr b, vi (lcd e y)] h (bgE σ e y) := by
  refine cn_q (lv := [vr b, vi (lcd e y)]) tX6_beginOf.1 rfl rfl (fun hR Q hQ => ?_)
  have w1 := W.1
  have w2 := W.2.1
  have w3 := W.2.2.1
  have l1 := lcd_r y (show e < 26 by omega)
  have l2 := lcd_neg e y
  refine z_aload_n dX6_beginOf_0 rfl ?_
  refine z_iload_n dX6_beginOf_1 rfl ?_
  refine z_callS_eI (M := mX6_beginOf) [_] tX6_edgeOf kX6_52 dX6_beginOf_2 ⟨by decide, by decide⟩ rfl (Nat.le_of_ble_eq_true rfl) rfl (c_X6_edgeOf (by omega)) ?_
  rw [lcd_led]
  refine z_iload_n dX6_beginOf_5 rfl ?_
  refine z_if_ge 13 dX6_beginOf_6 (by decide) (by omega) (fun c6 => ?_) (fun c6 => ?_)
  · refine z_iconst dX6_beginOf_13 ?_
    refine z_callS_eI (M := mX6_beginOf) [_, _, _] tX6_edgeAt kX6_56 dX6_beginOf_14 ⟨by decide, by decide⟩ rfl (Nat.le_of_ble_eq_true rfl) rfl (c_X6_edgeAt hb (by omega) (by omega) (by omega)) ?_
    exact z_ireturn dX6_beginOf_17 rfl (hQ _ _ ⟨_, rfl, (rm_bg0 R he c6 (by omega)), rfl⟩)
  · refine z_iconst dX6_beginOf_9 ?_
    refine z_goto 14 dX6_beginOf_10 (by decide) ?_
    refine z_callS_eI (M := mX6_beginOf) [_, _, _] tX6_edgeAt kX6_56 dX6_beginOf_14 ⟨by decide, by decide⟩ rfl (Nat.le_of_ble_eq_true rfl) rfl (c_X6_edgeAt hb (by omega) (by omega) (by omega)) ?_
    exact z_ireturn dX6_beginOf_17 rfl (hQ _ _ ⟨_, rfl, (rm_bg1 R he c6 (by omega)), rfl⟩)
set_option maxRecDepth 100000 in
set_option maxHeartbeats 4000000 in
theorem c_X6_endOf {g : GG} {h : HH} {b : Nat} (hb : isB b) {σ : SG} (W : WB σ) (R : RM (h b) σ) {e : Nat} (y : Bool) (he : e < sE σ) : CeI mX6_endOf g [vr b, vi (lcd e y)] h (enE σ e y) := by
  refine cn_q (lv := [vr b, vi (lcd e y)]) tX6_endOf.1 rfl rfl (fun hR Q hQ => ?_)
  have w1 := W.1
  have w2 := W.2.1
  have w3 := W.2.2.1
  have l1 := lcd_r y (show e < 26 by omega)
  have l2 := lcd_neg e y
  refine z_aload_n dX6_endOf_0 rfl ?_
  refine z_iload_n dX6_endOf_1 rfl ?_
  refine z_callS_eI (M := mX6_endOf) [_] tX6_edgeOf kX6_52 dX6_endOf_2 ⟨by decide, by decide⟩ rfl (Nat.le_of_ble_eq_true rfl) rfl (c_X6_edgeOf (by omega)) ?_
  rw [lcd_led]
  refine z_iload_n dX6_endOf_5 rfl ?_
  refine z_if_ge 13 dX6_endOf_6 (by decide) (by omega) (fun c6 => ?_) (fun c6 => ?_)
  · refine z_iconst dX6_endOf_13 ?_
    refine z_callS_eI (M := mX6_endOf) [_, _, _] tX6_edgeAt kX6_56 dX6_endOf_14 ⟨by decide, by decide⟩ rfl (Nat.le_of_ble_eq_true rfl) rfl (c_X6_edgeAt hb (by omega) (by omega) (by omega)) ?_
    exact z_ireturn dX6_endOf_17 rfl (hQ _ _ ⟨_, rfl, (rm_en0 R he c6 (by omega)), rfl⟩)
  · refine z_iconst dX6_endOf_9 ?_
    refine z_goto 14 dX6_endOf_10 (by decide) ?_
    refine z_callS_eI (M := mX6_endOf) [_, _, _] tX6_edgeAt kX6_56 dX6_endOf_14 ⟨by decide, by decide⟩ rfl (Nat.le_of_ble_eq_true rfl) rfl (c_X6_edgeAt hb (by omega) (by omega) (by omega)) ?_
    exact z_ireturn dX6_endOf_17 rfl (hQ _ _ ⟨_, rfl, (rm_en1 R he c6 (by omega)), rfl⟩)
set_option maxRecDepth 100000 in
set_option maxHeartbeats 4000000 in
theorem c_X6_one {g : GG} {h : HH} {σ : SG} (W : WF σ) (R : RM (h 48) σ) {p e : Nat} (hp : p < 6) (he : e < sE σ) : CeI mX6_one g [vr 47, vi (p : Int), vi (e : Int)] h (ent1 σ p e) := by
  refine cn_q (lv := [vr 47, vi (p : Int), vi (e : Int)]) tX6_one.1 rfl rfl (fun hR Q hQ => ?_)
  have w1 := W.1
  have w2 := W.2.1
  have w3 := W.2.2.1
  have w4 := W.2.2.2.1 e he
  refine z_aload_n dX6_one_0 rfl ?_
  refine z_getR fX6_7 dX6_one_1 (by decide) rfl rfl ?_
  refine z_iload_n dX6_one_4 rfl ?_
  refine z_iconst dX6_one_5 ?_
  refine z_callS_eI (M := mX6_one) [_, _, _] tX6_edgeAt kX6_56 dX6_one_6 ⟨by decide, by decide⟩ rfl (Nat.le_of_ble_eq_true rfl) rfl (c_X6_edgeAt isB48 (by omega) (by omega) (by omega)) ?_
  rw [rm_to R he (z := 3 + 3 * (e : Int) + 1) rfl]
  refine z_iload_n dX6_one_9 rfl ?_
  refine z_icmp_ne 17 dX6_one_10 (by decide) (by omega) (by omega) (fun c10 => ?_) (fun c10 => ?_)
  · refine z_iconst dX6_one_17 ?_
    refine z_aload_n dX6_one_18 rfl ?_
    refine z_getR fX6_7 dX6_one_19 (by decide) rfl rfl ?_
    refine z_iload_n dX6_one_22 rfl ?_
    refine z_iconst dX6_one_23 ?_
    refine z_callS_eI (M := mX6_one) [_, _, _] tX6_edgeAt kX6_56 dX6_one_24 ⟨by decide, by decide⟩ rfl (Nat.le_of_ble_eq_true rfl) rfl (c_X6_edgeAt isB48 (by omega) (by omega) (by omega)) ?_
    rw [rm_fr R he (z := 3 + 3 * (e : Int) + 0) (by omega)]
    refine z_iload_n dX6_one_27 rfl ?_
    refine z_icmp_ne 35 dX6_one_28 (by decide) (by omega) (by omega) (fun c28 => ?_) (fun c28 => ?_)
    · refine z_iconst dX6_one_35 ?_
      refine z_isub dX6_one_36 ?_
      exact z_ireturn dX6_one_37 rfl (hQ _ _ ⟨_, rfl, (by unfold ent1; split <;> split <;> omega), rfl⟩)
    · refine z_iconst dX6_one_31 ?_
      refine z_goto 36 dX6_one_32 (by decide) ?_
      refine z_isub dX6_one_36 ?_
      exact z_ireturn dX6_one_37 rfl (hQ _ _ ⟨_, rfl, (by unfold ent1; split <;> split <;> omega), rfl⟩)
  · refine z_iconst dX6_one_13 ?_
    refine z_goto 18 dX6_one_14 (by decide) ?_
    refine z_aload_n dX6_one_18 rfl ?_
    refine z_getR fX6_7 dX6_one_19 (by decide) rfl rfl ?_
    refine z_iload_n dX6_one_22 rfl ?_
    refine z_iconst dX6_one_23 ?_
    refine z_callS_eI (M := mX6_one) [_, _, _] tX6_edgeAt kX6_56 dX6_one_24 ⟨by decide, by decide⟩ rfl (Nat.le_of_ble_eq_true rfl) rfl (c_X6_edgeAt isB48 (by omega) (by omega) (by omega)) ?_
    rw [rm_fr R he (z := 3 + 3 * (e : Int) + 0) (by omega)]
    refine z_iload_n dX6_one_27 rfl ?_
    refine z_icmp_ne 35 dX6_one_28 (by decide) (by omega) (by omega) (fun c28 => ?_) (fun c28 => ?_)
    · refine z_iconst dX6_one_35 ?_
      refine z_isub dX6_one_36 ?_
      exact z_ireturn dX6_one_37 rfl (hQ _ _ ⟨_, rfl, (by unfold ent1; split <;> split <;> omega), rfl⟩)
    · refine z_iconst dX6_one_31 ?_
      refine z_goto 36 dX6_one_32 (by decide) ?_
      refine z_isub dX6_one_36 ?_
      exact z_ireturn dX6_one_37 rfl (hQ _ _ ⟨_, rfl, (by unfold ent1; split <;> split <;> omega), rfl⟩)
set_option maxRecDepth 100000 in
set_option maxHeartbeats 4000000 in
theorem c_X6_two {g : GG} {h : HH} {σ : SG} (W : WF σ) (R : RM (h 48) σ) {e f : Nat} (he : e < 6) (hf : f < sF σ) : CeI mX6_two g [vr 47, vi (e : Int), vi (f : Int)] h (ent2 σ e f) := by
  refine cn_q (lv := [vr 47, vi (e : Int), vi (f : Int), vx, vx]) tX6_two.1 rfl rfl (fun hR Q hQ => ?_)
  have w1 := W.1
  have w2 := W.2.1
  have w3 := W.2.2.1
  have w4 := (W.2.2.2.2.1 f hf).2.2.2.1
  have w5 := (W.2.2.2.2.1 f hf).2.2.2.2.1
  refine z_iconst dX6_two_0 ?_
  refine z_istore_n dX6_two_1 (by decide) rfl ?_
  refine z_iconst dX6_two_2 ?_
  refine z_istore dX6_two_3 (by decide) rfl ?_
  have loop5 : ∀ (nL9 : Nat) (k : Nat), (k ≤ swl σ f) → swl σ f - k < nL9 → Z mX6_two g 5 [vr 47, vi (e : Int), vi (f : Int), vi (sI k (lsg σ e f)), vi (k : Int)] [] h Q := by
    intro nL9
    induction nL9 with
    | zero => intro k hk hnL9; exact absurd hnL9 (Nat.not_lt_zero _)
    | succ nL9 ih5 =>
      intro k hk hnL9
      refine z_iload dX6_two_5 rfl ?_
      refine z_aload_n dX6_two_7 rfl ?_
      refine z_getR fX6_7 dX6_two_8 (by decide) rfl rfl ?_
      refine z_iload_n dX6_two_11 rfl ?_
      refine z_callS_eI (M := mX6_two) [_, _] tX6_many kX6_60 dX6_two_12 ⟨by decide, by decide⟩ rfl (Nat.le_of_ble_eq_true rfl) rfl (c_X6_many isB48 (by omega)) ?_
      rw [(R.2.2.2.2.1 f hf).2.1]
      refine z_icmp_ge 66 dX6_two_15 (by decide) (by omega) (by omega) (fun c15 => ?_) (fun c15 => ?_)
      · refine z_iload_n dX6_two_66 rfl ?_
        exact z_ireturn dX6_two_67 rfl (hQ _ _ ⟨_, rfl, (by unfold ent2; rw [show k = swl σ f from by omega]), rfl⟩)
      · refine z_iload_n dX6_two_18 rfl ?_
        refine z_aload_n dX6_two_19 rfl ?_
        refine z_getR fX6_7 dX6_two_20 (by decide) rfl rfl ?_
        refine z_iload_n dX6_two_23 rfl ?_
        refine z_iload dX6_two_24 rfl ?_
        refine z_callS_eI (M := mX6_two) [_, _, _] tX6_letter kX6_64 dX6_two_26 ⟨by decide, by decide⟩ rfl (Nat.le_of_ble_eq_true rfl) rfl (c_X6_letter isB48 (by omega) (by omega)) ?_
        rw [(R.2.2.2.2.1 f hf).2.2 k (by omega)]
        rw [show (if ssg σ f k then -(sle σ f k : Int) - 1 else (sle σ f k : Int) + 1) = lcd (sle σ f k) (ssg σ f k) from rfl]
        have l0 := w5 k (by omega)
        have l1 := lcd_r (ssg σ f k) (show sle σ f k < 26 by omega)
        have l2 := lcd_neg (sle σ f k) (ssg σ f k)
        refine z_callS_eI (M := mX6_two) [_] tX6_edgeOf kX6_52 dX6_two_29 ⟨by decide, by decide⟩ rfl (Nat.le_of_ble_eq_true rfl) rfl (c_X6_edgeOf (by omega)) ?_
        rw [lcd_led]
        refine z_iload_n dX6_two_32 rfl ?_
        refine z_icmp_eq 40 dX6_two_33 (by decide) (by omega) (by omega) (fun c33 => ?_) (fun c33 => ?_)
        · refine z_aload_n dX6_two_40 rfl ?_
          refine z_getR fX6_7 dX6_two_41 (by decide) rfl rfl ?_
          refine z_iload_n dX6_two_44 rfl ?_
          refine z_iload dX6_two_45 rfl ?_
          refine z_callS_eI (M := mX6_two) [_, _, _] tX6_letter kX6_64 dX6_two_47 ⟨by decide, by decide⟩ rfl (Nat.le_of_ble_eq_true rfl) rfl (c_X6_letter isB48 (by omega) (by omega)) ?_
          rw [(R.2.2.2.2.1 f hf).2.2 k (by omega)]
          rw [show (if ssg σ f k then -(sle σ f k : Int) - 1 else (sle σ f k : Int) + 1) = lcd (sle σ f k) (ssg σ f k) from rfl]
          have l0 := w5 k (by omega)
          have l1 := lcd_r (ssg σ f k) (show sle σ f k < 26 by omega)
          have l2 := lcd_neg (sle σ f k) (ssg σ f k)
          refine z_if_ge 57 dX6_two_50 (by decide) (by omega) (fun c50 => ?_) (fun c50 => ?_)
          · refine z_iconst dX6_two_57 ?_
            refine z_iadd dX6_two_58 ?_
            refine z_istore_n dX6_two_59 (by decide) rfl ?_
            refine z_iinc dX6_two_60 rfl (by decide) rfl ?_
            refine z_goto 5 dX6_two_63 (by decide) ?_
            have e1 : sI k (lsg σ e f) + 1 = sI (k + 1) (lsg σ e f) := by rw [sI_s]; unfold lsg; rw [if_pos (by omega), if_neg (fun q => by have := l2.mpr q; omega)]
            rw [e1]
            exact ih5 (k + 1) (by omega) (by omega)
          · refine z_iconst dX6_two_53 ?_
            refine z_goto 58 dX6_two_54 (by decide) ?_
            refine z_iadd dX6_two_58 ?_
            refine z_istore_n dX6_two_59 (by decide) rfl ?_
            refine z_iinc dX6_two_60 rfl (by decide) rfl ?_
            refine z_goto 5 dX6_two_63 (by decide) ?_
            have e1 : sI k (lsg σ e f) + -1 = sI (k + 1) (lsg σ e f) := by rw [sI_s]; unfold lsg; rw [if_pos (by omega), if_pos (l2.mp (by omega))]
            rw [e1]
            exact ih5 (k + 1) (by omega) (by omega)
        · refine z_iconst dX6_two_36 ?_
          refine z_goto 58 dX6_two_37 (by decide) ?_
          refine z_iadd dX6_two_58 ?_
          refine z_istore_n dX6_two_59 (by decide) rfl ?_
          refine z_iinc dX6_two_60 rfl (by decide) rfl ?_
          refine z_goto 5 dX6_two_63 (by decide) ?_
          have e1 : sI k (lsg σ e f) + 0 = sI (k + 1) (lsg σ e f) := by rw [sI_s]; unfold lsg; rw [if_neg (by omega)]
          rw [e1]
          exact ih5 (k + 1) (by omega) (by omega)
  exact loop5 _ 0 (by omega) (Nat.lt_succ_self _)
set_option maxRecDepth 100000 in
set_option maxHeartbeats 4000000 in
theorem c_X6_rows1 {g : GG} {h : HH} {σ : SG} (R : RM (h 48) σ) : CeI mX6_rows g [vr 47, vi 1] h (sP σ) := by
  refine cn_q (lv := [vr 47, vi 1]) tX6_rows.1 rfl rfl (fun hR Q hQ => ?_)
  refine z_iload_n dX6_rows_0 rfl ?_
  refine z_iconst dX6_rows_1 ?_
  refine z_icmp_ne 14 dX6_rows_2 (by decide) (by omega) (by omega) (fun c2 => ?_) (fun c2 => ?_)
  · omega
  · refine z_aload_n dX6_rows_5 rfl ?_
    refine z_getR fX6_7 dX6_rows_6 (by decide) rfl rfl ?_
    refine z_iconst dX6_rows_9 ?_
    refine z_iaload dX6_rows_10 (by decide) rfl (by omega) (by omega) (by decide) (fun r10 => ?_)
    refine z_goto 20 dX6_rows_11 (by decide) ?_
    exact z_ireturn dX6_rows_20 rfl (hQ _ _ ⟨_, rfl, (rm_P R), rfl⟩)
set_option maxRecDepth 100000 in
set_option maxHeartbeats 4000000 in
theorem c_X6_columns1 {g : GG} {h : HH} {σ : SG} (R : RM (h 48) σ) : CeI mX6_columns g [vr 47, vi 1] h (sE σ) := by
  refine cn_q (lv := [vr 47, vi 1]) tX6_columns.1 rfl rfl (fun hR Q hQ => ?_)
  refine z_iload_n dX6_columns_0 rfl ?_
  refine z_iconst dX6_columns_1 ?_
  refine z_icmp_ne 14 dX6_columns_2 (by decide) (by omega) (by omega) (fun c2 => ?_) (fun c2 => ?_)
  · omega
  · refine z_aload_n dX6_columns_5 rfl ?_
    refine z_getR fX6_7 dX6_columns_6 (by decide) rfl rfl ?_
    refine z_iconst dX6_columns_9 ?_
    refine z_iaload dX6_columns_10 (by decide) rfl (by omega) (by omega) (by decide) (fun r10 => ?_)
    refine z_goto 20 dX6_columns_11 (by decide) ?_
    exact z_ireturn dX6_columns_20 rfl (hQ _ _ ⟨_, rfl, (rm_E R), rfl⟩)
set_option maxRecDepth 100000 in
set_option maxHeartbeats 4000000 in
theorem c_X6_entry1 {g : GG} {h : HH} {σ : SG} (W : WF σ) (R : RM (h 48) σ) {i j : Nat} (hi : i < 6) (hj : j < sE σ) : CeI mX6_entry g [vr 47, vi 1, vi (i : Int), vi (j : Int)] h (ent1 σ i j) := by
  refine cn_q (lv := [vr 47, vi 1, vi (i : Int), vi (j : Int)]) tX6_entry.1 rfl rfl (fun hR Q hQ => ?_)
  refine z_iload_n dX6_entry_0 rfl ?_
  refine z_iconst dX6_entry_1 ?_
  refine z_icmp_ne 14 dX6_entry_2 (by decide) (by omega) (by omega) (fun c2 => ?_) (fun c2 => ?_)
  · omega
  · refine z_aload_n dX6_entry_5 rfl ?_
    refine z_iload_n dX6_entry_6 rfl ?_
    refine z_iload_n dX6_entry_7 rfl ?_
    refine z_callV_eI (M := mX6_entry) [_, _] tX6_one kX6_67 dX6_entry_8 ⟨by decide, rfl, _, _, rfl⟩ ⟨by decide, by decide⟩ rfl (Nat.le_of_ble_eq_true rfl) rfl (c_X6_one W R hi hj) ?_
    refine z_goto 20 dX6_entry_11 (by decide) ?_
    exact z_ireturn dX6_entry_20 rfl (hQ _ _ ⟨_, rfl, rfl, rfl⟩)
set_option maxRecDepth 100000 in
set_option maxHeartbeats 4000000 in
theorem c_X6_rows2 {g : GG} {h : HH} {σ : SG} (R : RM (h 48) σ) : CeI mX6_rows g [vr 47, vi 2] h (sE σ) := by
  refine cn_q (lv := [vr 47, vi 2]) tX6_rows.1 rfl rfl (fun hR Q hQ => ?_)
  refine z_iload_n dX6_rows_0 rfl ?_
  refine z_iconst dX6_rows_1 ?_
  refine z_icmp_ne 14 dX6_rows_2 (by decide) (by omega) (by omega) (fun c2 => ?_) (fun c2 => ?_)
  · refine z_aload_n dX6_rows_14 rfl ?_
    refine z_getR fX6_7 dX6_rows_15 (by decide) rfl rfl ?_
    refine z_iconst dX6_rows_18 ?_
    refine z_iaload dX6_rows_19 (by decide) rfl (by omega) (by omega) (by decide) (fun r19 => ?_)
    exact z_ireturn dX6_rows_20 rfl (hQ _ _ ⟨_, rfl, (rm_E R), rfl⟩)
  · omega
set_option maxRecDepth 100000 in
set_option maxHeartbeats 4000000 in
theorem c_X6_columns2 {g : GG} {h : HH} {σ : SG} (R : RM (h 48) σ) : CeI mX6_columns g [vr 47, vi 2] h (sF σ) := by
  refine cn_q (lv := [vr 47, vi 2]) tX6_columns.1 rfl rfl (fun hR Q hQ => ?_)
  refine z_iload_n dX6_columns_0 rfl ?_
  refine z_iconst dX6_columns_1 ?_
  refine z_icmp_ne 14 dX6_columns_2 (by decide) (by omega) (by omega) (fun c2 => ?_) (fun c2 => ?_)
  · refine z_aload_n dX6_columns_14 rfl ?_
    refine z_getR fX6_7 dX6_columns_15 (by decide) rfl rfl ?_
    refine z_iconst dX6_columns_18 ?_
    refine z_iaload dX6_columns_19 (by decide) rfl (by omega) (by omega) (by decide) (fun r19 => ?_)
    exact z_ireturn dX6_columns_20 rfl (hQ _ _ ⟨_, rfl, (rm_F R), rfl⟩)
  · omega
set_option maxRecDepth 100000 in
set_option maxHeartbeats 4000000 in
theorem c_X6_entry2 {g : GG} {h : HH} {σ : SG} (W : WF σ) (R : RM (h 48) σ) {i j : Nat} (hi : i < 6) (hj : j < sF σ) : CeI mX6_entry g [vr 47, vi 2, vi (i : Int), vi (j : Int)] h (ent2 σ i j) := by
  refine cn_q (lv := [vr 47, vi 2, vi (i : Int), vi (j : Int)]) tX6_entry.1 rfl rfl (fun hR Q hQ => ?_)
  refine z_iload_n dX6_entry_0 rfl ?_
  refine z_iconst dX6_entry_1 ?_
  refine z_icmp_ne 14 dX6_entry_2 (by decide) (by omega) (by omega) (fun c2 => ?_) (fun c2 => ?_)
  · refine z_aload_n dX6_entry_14 rfl ?_
    refine z_iload_n dX6_entry_15 rfl ?_
    refine z_iload_n dX6_entry_16 rfl ?_
    refine z_callV_eI (M := mX6_entry) [_, _] tX6_two kX6_71 dX6_entry_17 ⟨by decide, rfl, _, _, rfl⟩ ⟨by decide, by decide⟩ rfl (Nat.le_of_ble_eq_true rfl) rfl (c_X6_two W R hi hj) ?_
    exact z_ireturn dX6_entry_20 rfl (hQ _ _ ⟨_, rfl, rfl, rfl⟩)
  · omega
set_option maxRecDepth 100000 in
set_option maxHeartbeats 4000000 in
theorem c_X6_near1 {g : GG} {h : HH} {σ : SG} (W : WF σ) (R : RM (h 48) σ) {i j : Nat} (hi : i < sE σ) (hj : j < sE σ) : CeI mX6_nearBy g [vr 47, vi 1, vi (i : Int), vi (j : Int)] h (near1 σ i j) := by
  refine cn_q (lv := [vr 47, vi 1, vi (i : Int), vi (j : Int), vx, vx, vx]) tX6_nearBy.1 rfl rfl (fun hR Q hQ => ?_)
  have w1 := W.1
  have w2 := W.2.1
  have w3 := W.2.2.1
  refine z_iconst dX6_nearBy_0 ?_
  refine z_istore dX6_nearBy_1 (by decide) rfl ?_
  refine z_iload_n dX6_nearBy_3 rfl ?_
  refine z_iconst dX6_nearBy_4 ?_
  refine z_icmp_ne 51 dX6_nearBy_5 (by decide) (by omega) (by omega) (fun c5 => ?_) (fun c5 => ?_)
  · omega
  · refine z_iconst dX6_nearBy_8 ?_
    refine z_istore dX6_nearBy_9 (by decide) rfl ?_
    have loop11 : ∀ (nL9 : Nat) (k : Nat), (k ≤ sP σ) → sP σ - k < nL9 → Z mX6_nearBy g 11 [vr 47, vi 1, vi (i : Int), vi (j : Int), vi (sI k (nr1 σ i j)), vi (k : Int), vx] [] h Q := by
      intro nL9
      induction nL9 with
      | zero => intro k hk hnL9; exact absurd hnL9 (Nat.not_lt_zero _)
      | succ nL9 ih11 =>
        intro k hk hnL9
        refine z_iload dX6_nearBy_11 rfl ?_
        refine z_aload_n dX6_nearBy_13 rfl ?_
        refine z_getR fX6_7 dX6_nearBy_14 (by decide) rfl rfl ?_
        refine z_iconst dX6_nearBy_17 ?_
        refine z_iaload dX6_nearBy_18 (by decide) rfl (by omega) (by omega) (by decide) (fun r18 => ?_)
        rw [show h 48 (Int.toNat 0) = sP σ from rm_P R]
        refine z_icmp_ge 48 dX6_nearBy_19 (by decide) (by omega) (by omega) (fun c19 => ?_) (fun c19 => ?_)
        · refine z_iload dX6_nearBy_48 rfl ?_
          exact z_ireturn dX6_nearBy_50 rfl (hQ _ _ ⟨_, rfl, (by unfold near1; rw [show k = sP σ from by omega]), rfl⟩)
        · refine z_iload dX6_nearBy_22 rfl ?_
          refine z_aload_n dX6_nearBy_24 rfl ?_
          refine z_iload dX6_nearBy_25 rfl ?_
          refine z_iload_n dX6_nearBy_27 rfl ?_
          refine z_callV_eI (M := mX6_nearBy) [_, _] tX6_one kX6_67 dX6_nearBy_28 ⟨by decide, rfl, _, _, rfl⟩ ⟨by decide, by decide⟩ rfl (Nat.le_of_ble_eq_true rfl) rfl (c_X6_one W R (p := k) (e := i) (by omega) (by omega)) ?_
          refine z_aload_n dX6_nearBy_31 rfl ?_
          refine z_iload dX6_nearBy_32 rfl ?_
          refine z_iload_n dX6_nearBy_34 rfl ?_
          refine z_callV_eI (M := mX6_nearBy) [_, _] tX6_one kX6_67 dX6_nearBy_35 ⟨by decide, rfl, _, _, rfl⟩ ⟨by decide, by decide⟩ rfl (Nat.le_of_ble_eq_true rfl) rfl (c_X6_one W R (p := k) (e := j) (by omega) (by omega)) ?_
          refine z_imul dX6_nearBy_38 ?_
          refine z_iadd dX6_nearBy_39 ?_
          refine z_istore dX6_nearBy_40 (by decide) rfl ?_
          refine z_iinc dX6_nearBy_42 rfl (by decide) rfl ?_
          refine z_goto 11 dX6_nearBy_45 (by decide) ?_
          exact ih11 (k + 1) (by omega) (by omega)
    exact loop11 _ 0 (by omega) (Nat.lt_succ_self _)
set_option maxRecDepth 100000 in
set_option maxHeartbeats 4000000 in
theorem c_X6_near0 {g : GG} {h : HH} {σ : SG} (W : WF σ) (R : RM (h 48) σ) {i j : Nat} (hi : i < sP σ) (hj : j < sP σ) : CeI mX6_nearBy g [vr 47, vi 0, vi (i : Int), vi (j : Int)] h (near0 σ i j) := by
  refine cn_q (lv := [vr 47, vi 0, vi (i : Int), vi (j : Int), vx, vx, vx]) tX6_nearBy.1 rfl rfl (fun hR Q hQ => ?_)
  have w1 := W.1
  have w2 := W.2.1
  have w3 := W.2.2.1
  refine z_iconst dX6_nearBy_0 ?_
  refine z_istore dX6_nearBy_1 (by decide) rfl ?_
  refine z_iload_n dX6_nearBy_3 rfl ?_
  refine z_iconst dX6_nearBy_4 ?_
  refine z_icmp_ne 51 dX6_nearBy_5 (by decide) (by omega) (by omega) (fun c5 => ?_) (fun c5 => ?_)
  · refine z_iload_n dX6_nearBy_51 rfl ?_
    refine z_if_ne 59 dX6_nearBy_52 (by decide) (by omega) (fun c52 => ?_) (fun c52 => ?_)
    · omega
    · refine z_iconst dX6_nearBy_55 ?_
      refine z_goto 60 dX6_nearBy_56 (by decide) ?_
      refine z_istore dX6_nearBy_60 (by decide) rfl ?_
      refine z_iconst dX6_nearBy_62 ?_
      refine z_istore dX6_nearBy_63 (by decide) rfl ?_
      have loop65 : ∀ (nL9 : Nat) (k : Nat), (k ≤ sE σ) → sE σ - k < nL9 → Z mX6_nearBy g 65 [vr 47, vi 0, vi (i : Int), vi (j : Int), vi (sI k (nr0 σ i j)), vi 1, vi (k : Int)] [] h Q := by
        intro nL9
        induction nL9 with
        | zero => intro k hk hnL9; exact absurd hnL9 (Nat.not_lt_zero _)
        | succ nL9 ih65 =>
          intro k hk hnL9
          refine z_iload dX6_nearBy_65 rfl ?_
          refine z_aload_n dX6_nearBy_67 rfl ?_
          refine z_iload dX6_nearBy_68 rfl ?_
          refine z_callV_eI (M := mX6_nearBy) [_] tX6_columns kX6_74 dX6_nearBy_70 ⟨by decide, rfl, _, _, rfl⟩ ⟨by decide, by decide⟩ rfl (Nat.le_of_ble_eq_true rfl) rfl (c_X6_columns1 R) ?_
          refine z_icmp_ge 118 dX6_nearBy_73 (by decide) (by omega) (by omega) (fun c73 => ?_) (fun c73 => ?_)
          · refine z_iload dX6_nearBy_118 rfl ?_
            exact z_ireturn dX6_nearBy_120 rfl (hQ _ _ ⟨_, rfl, (by unfold near0; rw [show k = sE σ from by omega]), rfl⟩)
          · refine z_iload dX6_nearBy_76 rfl ?_
            refine z_aload_n dX6_nearBy_78 rfl ?_
            refine z_iload dX6_nearBy_79 rfl ?_
            refine z_iload_n dX6_nearBy_81 rfl ?_
            refine z_iload dX6_nearBy_82 rfl ?_
            refine z_callV_eI (M := mX6_nearBy) [_, _, _] tX6_entry kX6_77 dX6_nearBy_84 ⟨by decide, rfl, _, _, rfl⟩ ⟨by decide, by decide⟩ rfl (Nat.le_of_ble_eq_true rfl) rfl (c_X6_entry1 W R (i := i) (j := k) (by omega) (by omega)) ?_
            refine z_aload_n dX6_nearBy_87 rfl ?_
            refine z_getR fX6_7 dX6_nearBy_88 (by decide) rfl rfl ?_
            refine z_iload dX6_nearBy_91 rfl ?_
            refine z_iload dX6_nearBy_93 rfl ?_
            refine z_callS_eI (M := mX6_nearBy) [_, _, _] tX6_weight kX6_81 dX6_nearBy_95 ⟨by decide, by decide⟩ rfl (Nat.le_of_ble_eq_true rfl) rfl (c_X6_weightE isB48 W.wb R (by omega)) ?_
            refine z_imul dX6_nearBy_98 ?_
            refine z_aload_n dX6_nearBy_99 rfl ?_
            refine z_iload dX6_nearBy_100 rfl ?_
            refine z_iload_n dX6_nearBy_102 rfl ?_
            refine z_iload dX6_nearBy_103 rfl ?_
            refine z_callV_eI (M := mX6_nearBy) [_, _, _] tX6_entry kX6_77 dX6_nearBy_105 ⟨by decide, rfl, _, _, rfl⟩ ⟨by decide, by decide⟩ rfl (Nat.le_of_ble_eq_true rfl) rfl (c_X6_entry1 W R (i := j) (j := k) (by omega) (by omega)) ?_
            refine z_imul dX6_nearBy_108 ?_
            refine z_iadd dX6_nearBy_109 ?_
            refine z_istore dX6_nearBy_110 (by decide) rfl ?_
            refine z_iinc dX6_nearBy_112 rfl (by decide) rfl ?_
            refine z_goto 65 dX6_nearBy_115 (by decide) ?_
            exact ih65 (k + 1) (by omega) (by omega)
      exact loop65 _ 0 (by omega) (Nat.lt_succ_self _)
  · omega
set_option maxRecDepth 100000 in
set_option maxHeartbeats 4000000 in
theorem c_X6_near2 {g : GG} {h : HH} {σ : SG} (W : WF σ) (R : RM (h 48) σ) {i j : Nat} (hi : i < sE σ) (hj : j < sE σ) : CeI mX6_nearBy g [vr 47, vi 2, vi (i : Int), vi (j : Int)] h (near2 σ i j) := by
  refine cn_q (lv := [vr 47, vi 2, vi (i : Int), vi (j : Int), vx, vx, vx]) tX6_nearBy.1 rfl rfl (fun hR Q hQ => ?_)
  have w1 := W.1
  have w2 := W.2.1
  have w3 := W.2.2.1
  refine z_iconst dX6_nearBy_0 ?_
  refine z_istore dX6_nearBy_1 (by decide) rfl ?_
  refine z_iload_n dX6_nearBy_3 rfl ?_
  refine z_iconst dX6_nearBy_4 ?_
  refine z_icmp_ne 51 dX6_nearBy_5 (by decide) (by omega) (by omega) (fun c5 => ?_) (fun c5 => ?_)
  · refine z_iload_n dX6_nearBy_51 rfl ?_
    refine z_if_ne 59 dX6_nearBy_52 (by decide) (by omega) (fun c52 => ?_) (fun c52 => ?_)
    · refine z_iconst dX6_nearBy_59 ?_
      refine z_istore dX6_nearBy_60 (by decide) rfl ?_
      refine z_iconst dX6_nearBy_62 ?_
      refine z_istore dX6_nearBy_63 (by decide) rfl ?_
      have loop65 : ∀ (nL9 : Nat) (k : Nat), (k ≤ sF σ) → sF σ - k < nL9 → Z mX6_nearBy g 65 [vr 47, vi 2, vi (i : Int), vi (j : Int), vi (sI k (nr2 σ i j)), vi 2, vi (k : Int)] [] h Q := by
        intro nL9
        induction nL9 with
        | zero => intro k hk hnL9; exact absurd hnL9 (Nat.not_lt_zero _)
        | succ nL9 ih65 =>
          intro k hk hnL9
          refine z_iload dX6_nearBy_65 rfl ?_
          refine z_aload_n dX6_nearBy_67 rfl ?_
          refine z_iload dX6_nearBy_68 rfl ?_
          refine z_callV_eI (M := mX6_nearBy) [_] tX6_columns kX6_74 dX6_nearBy_70 ⟨by decide, rfl, _, _, rfl⟩ ⟨by decide, by decide⟩ rfl (Nat.le_of_ble_eq_true rfl) rfl (c_X6_columns2 R) ?_
          refine z_icmp_ge 118 dX6_nearBy_73 (by decide) (by omega) (by omega) (fun c73 => ?_) (fun c73 => ?_)
          · refine z_iload dX6_nearBy_118 rfl ?_
            exact z_ireturn dX6_nearBy_120 rfl (hQ _ _ ⟨_, rfl, (by unfold near2; rw [show k = sF σ from by omega]), rfl⟩)
          · refine z_iload dX6_nearBy_76 rfl ?_
            refine z_aload_n dX6_nearBy_78 rfl ?_
            refine z_iload dX6_nearBy_79 rfl ?_
            refine z_iload_n dX6_nearBy_81 rfl ?_
            refine z_iload dX6_nearBy_82 rfl ?_
            refine z_callV_eI (M := mX6_nearBy) [_, _, _] tX6_entry kX6_77 dX6_nearBy_84 ⟨by decide, rfl, _, _, rfl⟩ ⟨by decide, by decide⟩ rfl (Nat.le_of_ble_eq_true rfl) rfl (c_X6_entry2 W R (i := i) (j := k) (by omega) (by omega)) ?_
            refine z_aload_n dX6_nearBy_87 rfl ?_
            refine z_getR fX6_7 dX6_nearBy_88 (by decide) rfl rfl ?_
            refine z_iload dX6_nearBy_91 rfl ?_
            refine z_iload dX6_nearBy_93 rfl ?_
            refine z_callS_eI (M := mX6_nearBy) [_, _, _] tX6_weight kX6_81 dX6_nearBy_95 ⟨by decide, by decide⟩ rfl (Nat.le_of_ble_eq_true rfl) rfl (c_X6_weightF isB48 W.wb R (by omega)) ?_
            refine z_imul dX6_nearBy_98 ?_
            refine z_aload_n dX6_nearBy_99 rfl ?_
            refine z_iload dX6_nearBy_100 rfl ?_
            refine z_iload_n dX6_nearBy_102 rfl ?_
            refine z_iload dX6_nearBy_103 rfl ?_
            refine z_callV_eI (M := mX6_nearBy) [_, _, _] tX6_entry kX6_77 dX6_nearBy_105 ⟨by decide, rfl, _, _, rfl⟩ ⟨by decide, by decide⟩ rfl (Nat.le_of_ble_eq_true rfl) rfl (c_X6_entry2 W R (i := j) (j := k) (by omega) (by omega)) ?_
            refine z_imul dX6_nearBy_108 ?_
            refine z_iadd dX6_nearBy_109 ?_
            refine z_istore dX6_nearBy_110 (by decide) rfl ?_
            refine z_iinc dX6_nearBy_112 rfl (by decide) rfl ?_
            refine z_goto 65 dX6_nearBy_115 (by decide) ?_
            exact ih65 (k + 1) (by omega) (by omega)
      exact loop65 _ 0 (by omega) (Nat.lt_succ_self _)
    · omega
  · omega
set_option maxRecDepth 100000 in
set_option maxHeartbeats 4000000 in
theorem c_X6_isCell0 {g : GG} {h : HH} {σ : SG} (W : WB σ) (R : RM (h 48) σ) {c : Int} (hc : R32 c) : CeI mX6_isCell g [vr 47, vi 0, vi c] h (bi (0 ≤ c ∧ c < sP σ)) := by
  refine cn_q (lv := [vr 47, vi 0, vi c]) tX6_isCell.1 rfl rfl (fun hR Q hQ => ?_)
  have w1 := W.1
  have w2 := W.2.1
  have w3 := W.2.2.1
  refine z_iload_n dX6_isCell_0 rfl ?_
  refine z_i2l dX6_isCell_1 (by omega) ?_
  refine z_lconst (z := 0) dX6_isCell_2 rfl ?_
  refine z_ldc2 (2) dX6_isCell_3 qX6_242 rfl ?_
  refine z_callS_eI (M := mX6_isCell) [_, _, _] tX6_in kX6_150 dX6_isCell_6 ⟨by decide, by decide⟩ rfl (Nat.le_of_ble_eq_true rfl) rfl (c_X6_in (by omega) (by omega) (by omega)) ?_
  refine z_if_eq 34 dX6_isCell_9 (by decide) (bi_r _) (fun c9 => ?_) (fun c9 => ?_)
  · have c9 := bi_eq.mp c9
    exact absurd ⟨by decide, by decide⟩ c9
  · have c9 := bi_ne.mp c9
    refine z_iload_n dX6_isCell_12 rfl ?_
    refine z_i2l dX6_isCell_13 (by omega) ?_
    refine z_lconst (z := 0) dX6_isCell_14 rfl ?_
    refine z_aload_n dX6_isCell_15 rfl ?_
    refine z_getR fX6_7 dX6_isCell_16 (by decide) rfl rfl ?_
    refine z_iload_n dX6_isCell_19 rfl ?_
    refine z_iaload dX6_isCell_20 (by decide) rfl (by omega) (by omega) (by decide) (fun r20 => ?_)
    rw [show h 48 (Int.toNat 0) = sP σ from rm_P R]
    refine z_iconst dX6_isCell_21 ?_
    refine z_isub dX6_isCell_22 ?_
    refine z_i2l dX6_isCell_23 (by omega) ?_
    refine z_callS_eI (M := mX6_isCell) [_, _, _] tX6_in kX6_150 dX6_isCell_24 ⟨by decide, by decide⟩ rfl (Nat.le_of_ble_eq_true rfl) rfl (c_X6_in (by omega) (by omega) (by omega)) ?_
    refine z_if_eq 34 dX6_isCell_27 (by decide) (bi_r _) (fun c27 => ?_) (fun c27 => ?_)
    · have c27 := bi_eq.mp c27
      refine z_iconst dX6_isCell_34 ?_
      exact z_zreturn dX6_isCell_35 rfl (by first | exact Or.inl rfl | exact Or.inr rfl | exact bi_01 _ | omega) (hQ _ _ ⟨_, rfl, (bi_f (fun q => c27 ⟨by omega, by omega⟩)), rfl⟩)
    · have c27 := bi_ne.mp c27
      refine z_iconst dX6_isCell_30 ?_
      refine z_goto 35 dX6_isCell_31 (by decide) ?_
      exact z_zreturn dX6_isCell_35 rfl (by first | exact Or.inl rfl | exact Or.inr rfl | exact bi_01 _ | omega) (hQ _ _ ⟨_, rfl, (bi_t (by omega)), rfl⟩)
set_option maxRecDepth 100000 in
set_option maxHeartbeats 4000000 in
theorem c_X6_isCell1 {g : GG} {h : HH} {σ : SG} (W : WB σ) (R : RM (h 48) σ) {c : Int} (hc : R32 c) : CeI mX6_isCell g [vr 47, vi 1, vi c] h (bi (0 ≤ c ∧ c < sE σ)) := by
  refine cn_q (lv := [vr 47, vi 1, vi c]) tX6_isCell.1 rfl rfl (fun hR Q hQ => ?_)
  have w1 := W.1
  have w2 := W.2.1
  have w3 := W.2.2.1
  refine z_iload_n dX6_isCell_0 rfl ?_
  refine z_i2l dX6_isCell_1 (by omega) ?_
  refine z_lconst (z := 0) dX6_isCell_2 rfl ?_
  refine z_ldc2 (2) dX6_isCell_3 qX6_242 rfl ?_
  refine z_callS_eI (M := mX6_isCell) [_, _, _] tX6_in kX6_150 dX6_isCell_6 ⟨by decide, by decide⟩ rfl (Nat.le_of_ble_eq_true rfl) rfl (c_X6_in (by omega) (by omega) (by omega)) ?_
  refine z_if_eq 34 dX6_isCell_9 (by decide) (bi_r _) (fun c9 => ?_) (fun c9 => ?_)
  · have c9 := bi_eq.mp c9
    exact absurd ⟨by decide, by decide⟩ c9
  · have c9 := bi_ne.mp c9
    refine z_iload_n dX6_isCell_12 rfl ?_
    refine z_i2l dX6_isCell_13 (by omega) ?_
    refine z_lconst (z := 0) dX6_isCell_14 rfl ?_
    refine z_aload_n dX6_isCell_15 rfl ?_
    refine z_getR fX6_7 dX6_isCell_16 (by decide) rfl rfl ?_
    refine z_iload_n dX6_isCell_19 rfl ?_
    refine z_iaload dX6_isCell_20 (by decide) rfl (by omega) (by omega) (by decide) (fun r20 => ?_)
    rw [show h 48 (Int.toNat 1) = sE σ from rm_E R]
    refine z_iconst dX6_isCell_21 ?_
    refine z_isub dX6_isCell_22 ?_
    refine z_i2l dX6_isCell_23 (by omega) ?_
    refine z_callS_eI (M := mX6_isCell) [_, _, _] tX6_in kX6_150 dX6_isCell_24 ⟨by decide, by decide⟩ rfl (Nat.le_of_ble_eq_true rfl) rfl (c_X6_in (by omega) (by omega) (by omega)) ?_
    refine z_if_eq 34 dX6_isCell_27 (by decide) (bi_r _) (fun c27 => ?_) (fun c27 => ?_)
    · have c27 := bi_eq.mp c27
      refine z_iconst dX6_isCell_34 ?_
      exact z_zreturn dX6_isCell_35 rfl (by first | exact Or.inl rfl | exact Or.inr rfl | exact bi_01 _ | omega) (hQ _ _ ⟨_, rfl, (bi_f (fun q => c27 ⟨by omega, by omega⟩)), rfl⟩)
    · have c27 := bi_ne.mp c27
      refine z_iconst dX6_isCell_30 ?_
      refine z_goto 35 dX6_isCell_31 (by decide) ?_
      exact z_zreturn dX6_isCell_35 rfl (by first | exact Or.inl rfl | exact Or.inr rfl | exact bi_01 _ | omega) (hQ _ _ ⟨_, rfl, (bi_t (by omega)), rfl⟩)
set_option maxRecDepth 100000 in
set_option maxHeartbeats 4000000 in
theorem c_X6_isCell2 {g : GG} {h : HH} {σ : SG} (W : WB σ) (R : RM (h 48) σ) {c : Int} (hc : R32 c) : CeI mX6_isCell g [vr 47, vi 2, vi c] h (bi (0 ≤ c ∧ c < sF σ)) := by
  refine cn_q (lv := [vr 47, vi 2, vi c]) tX6_isCell.1 rfl rfl (fun hR Q hQ => ?_)
  have w1 := W.1
  have w2 := W.2.1
  have w3 := W.2.2.1
  refine z_iload_n dX6_isCell_0 rfl ?_
  refine z_i2l dX6_isCell_1 (by omega) ?_
  refine z_lconst (z := 0) dX6_isCell_2 rfl ?_
  refine z_ldc2 (2) dX6_isCell_3 qX6_242 rfl ?_
  refine z_callS_eI (M := mX6_isCell) [_, _, _] tX6_in kX6_150 dX6_isCell_6 ⟨by decide, by decide⟩ rfl (Nat.le_of_ble_eq_true rfl) rfl (c_X6_in (by omega) (by omega) (by omega)) ?_
  refine z_if_eq 34 dX6_isCell_9 (by decide) (bi_r _) (fun c9 => ?_) (fun c9 => ?_)
  · have c9 := bi_eq.mp c9
    exact absurd ⟨by decide, by decide⟩ c9
  · have c9 := bi_ne.mp c9
    refine z_iload_n dX6_isCell_12 rfl ?_
    refine z_i2l dX6_isCell_13 (by omega) ?_
    refine z_lconst (z := 0) dX6_isCell_14 rfl ?_
    refine z_aload_n dX6_isCell_15 rfl ?_
    refine z_getR fX6_7 dX6_isCell_16 (by decide) rfl rfl ?_
    refine z_iload_n dX6_isCell_19 rfl ?_
    refine z_iaload dX6_isCell_20 (by decide) rfl (by omega) (by omega) (by decide) (fun r20 => ?_)
    rw [show h 48 (Int.toNat 2) = sF σ from rm_F R]
    refine z_iconst dX6_isCell_21 ?_
    refine z_isub dX6_isCell_22 ?_
    refine z_i2l dX6_isCell_23 (by omega) ?_
    refine z_callS_eI (M := mX6_isCell) [_, _, _] tX6_in kX6_150 dX6_isCell_24 ⟨by decide, by decide⟩ rfl (Nat.le_of_ble_eq_true rfl) rfl (c_X6_in (by omega) (by omega) (by omega)) ?_
    refine z_if_eq 34 dX6_isCell_27 (by decide) (bi_r _) (fun c27 => ?_) (fun c27 => ?_)
    · have c27 := bi_eq.mp c27
      refine z_iconst dX6_isCell_34 ?_
      exact z_zreturn dX6_isCell_35 rfl (by first | exact Or.inl rfl | exact Or.inr rfl | exact bi_01 _ | omega) (hQ _ _ ⟨_, rfl, (bi_f (fun q => c27 ⟨by omega, by omega⟩)), rfl⟩)
    · have c27 := bi_ne.mp c27
      refine z_iconst dX6_isCell_30 ?_
      refine z_goto 35 dX6_isCell_31 (by decide) ?_
      exact z_zreturn dX6_isCell_35 rfl (by first | exact Or.inl rfl | exact Or.inr rfl | exact bi_01 _ | omega) (hQ _ _ ⟨_, rfl, (bi_t (by omega)), rfl⟩)
set_option maxRecDepth 100000 in
set_option maxHeartbeats 4000000 in
theorem c_X6_isCellN {g : GG} {h : HH} {σ : SG} (W : WB σ) (R : RM (h 48) σ) {d : Int} (hd : R32 d) (hn : ¬ (0 ≤ d ∧ d ≤ 2)) {c : Int} (hc : R32 c) : CeI mX6_isCell g [vr 47, vi d, vi c] h (bi False) := by
  refine cn_q (lv := [vr 47, vi d, vi c]) tX6_isCell.1 rfl rfl (fun hR Q hQ => ?_)
  refine z_iload_n dX6_isCell_0 rfl ?_
  refine z_i2l dX6_isCell_1 (by omega) ?_
  refine z_lconst (z := 0) dX6_isCell_2 rfl ?_
  refine z_ldc2 (2) dX6_isCell_3 qX6_242 rfl ?_
  refine z_callS_eI (M := mX6_isCell) [_, _, _] tX6_in kX6_150 dX6_isCell_6 ⟨by decide, by decide⟩ rfl (Nat.le_of_ble_eq_true rfl) rfl (c_X6_in (by omega) (by omega) (by omega)) ?_
  refine z_if_eq 34 dX6_isCell_9 (by decide) (bi_r _) (fun c9 => ?_) (fun c9 => ?_)
  · have c9 := bi_eq.mp c9
    refine z_iconst dX6_isCell_34 ?_
    exact z_zreturn dX6_isCell_35 rfl (by first | exact Or.inl rfl | exact Or.inr rfl | exact bi_01 _ | omega) (hQ _ _ ⟨_, rfl, (bi_f (fun q => q)), rfl⟩)
  · have c9 := bi_ne.mp c9
    exact absurd c9 hn
set_option maxRecDepth 100000 in
set_option maxHeartbeats 4000000 in
theorem c_X6_isChain {g : GG} {h : HH} {σ : SG} (W : WB σ) (R : RM (h 48) σ) {c : Int} (hc : R32 c) : CeI mX6_isChain g [vr 47, vi c] h (bi (0 < sP σ ∧ 0 ≤ c ∧ c < 3)) := by
  refine cn_q (lv := [vr 47, vi c]) tX6_isChain.1 rfl rfl (fun hR Q hQ => ?_)
  refine z_aload_n dX6_isChain_0 rfl ?_
  refine z_callV_eI (M := mX6_isChain) [] tX6_isComplex kX6_244 dX6_isChain_1 ⟨by decide, rfl, _, _, rfl⟩ ⟨by decide, by decide⟩ rfl (Nat.le_of_ble_eq_true rfl) rfl (c_X6_isComplex W R) ?_
  refine z_if_eq 23 dX6_isChain_4 (by decide) (bi_r _) (fun c4 => ?_) (fun c4 => ?_)
  · have c4 := bi_eq.mp c4
    refine z_iconst dX6_isChain_23 ?_
    exact z_zreturn dX6_isChain_24 rfl (by first | exact Or.inl rfl | exact Or.inr rfl | exact bi_01 _ | omega) (hQ _ _ ⟨_, rfl, (bi_f (fun q => c4 q.1)), rfl⟩)
  · have c4 := bi_ne.mp c4
    refine z_iload_n dX6_isChain_7 rfl ?_
    refine z_i2l dX6_isChain_8 (by omega) ?_
    refine z_lconst (z := 0) dX6_isChain_9 rfl ?_
    refine z_ldc2 (2) dX6_isChain_10 qX6_242 rfl ?_
    refine z_callS_eI (M := mX6_isChain) [_, _, _] tX6_in kX6_150 dX6_isChain_13 ⟨by decide, by decide⟩ rfl (Nat.le_of_ble_eq_true rfl) rfl (c_X6_in (by omega) (by omega) (by omega)) ?_
    refine z_if_eq 23 dX6_isChain_16 (by decide) (bi_r _) (fun c16 => ?_) (fun c16 => ?_)
    · have c16 := bi_eq.mp c16
      refine z_iconst dX6_isChain_23 ?_
      exact z_zreturn dX6_isChain_24 rfl (by first | exact Or.inl rfl | exact Or.inr rfl | exact bi_01 _ | omega) (hQ _ _ ⟨_, rfl, (bi_f (fun q => c16 (by omega))), rfl⟩)
    · have c16 := bi_ne.mp c16
      refine z_iconst dX6_isChain_19 ?_
      refine z_goto 24 dX6_isChain_20 (by decide) ?_
      exact z_zreturn dX6_isChain_24 rfl (by first | exact Or.inl rfl | exact Or.inr rfl | exact bi_01 _ | omega) (hQ _ _ ⟨_, rfl, (bi_t ⟨c4, by omega⟩), rfl⟩)
set_option maxRecDepth 100000 in
set_option maxHeartbeats 4000000 in
theorem c_X6_others {g : GG} {h : HH} {σ : SG} (W : WF σ) (R : RM (h 48) σ) {c : Nat} (hc : c < 3) : CeI mX6_others g [vr 47, vi (c : Int)] h (nnz σ c) := by
  refine cn_q (lv := [vr 47, vi (c : Int), vx, vx]) tX6_others.1 rfl rfl (fun hR Q hQ => ?_)
  have w1 := W.1
  have w2 := W.2.1
  have w3 := W.2.2.1
  refine z_iconst dX6_others_0 ?_
  refine z_istore_n dX6_others_1 (by decide) rfl ?_
  refine z_iconst dX6_others_2 ?_
  refine z_istore_n dX6_others_3 (by decide) rfl ?_
  have loop4 : ∀ (nL9 : Nat) (k : Nat), (k ≤ sE σ) → sE σ - k < nL9 → Z mX6_others g 4 [vr 47, vi (c : Int), vi (sI k (nz σ c)), vi (k : Int)] [] h Q := by
    intro nL9
    induction nL9 with
    | zero => intro k hk hnL9; exact absurd hnL9 (Nat.not_lt_zero _)
    | succ nL9 ih4 =>
      intro k hk hnL9
      refine z_iload_n dX6_others_4 rfl ?_
      refine z_aload_n dX6_others_5 rfl ?_
      refine z_getR fX6_7 dX6_others_6 (by decide) rfl rfl ?_
      refine z_iconst dX6_others_9 ?_
      refine z_iaload dX6_others_10 (by decide) rfl (by omega) (by omega) (by decide) (fun r10 => ?_)
      rw [show h 48 (Int.toNat 1) = sE σ from rm_E R]
      refine z_icmp_ge 45 dX6_others_11 (by decide) (by omega) (by omega) (fun c11 => ?_) (fun c11 => ?_)
      · refine z_iload_n dX6_others_45 rfl ?_
        exact z_ireturn dX6_others_46 rfl (hQ _ _ ⟨_, rfl, (by unfold nnz; rw [show k = sE σ from by omega]), rfl⟩)
      · refine z_iload_n dX6_others_14 rfl ?_
        refine z_aload_n dX6_others_15 rfl ?_
        refine z_getR fX6_7 dX6_others_16 (by decide) rfl rfl ?_
        refine z_bipush dX6_others_19 (by decide) ?_
        refine z_bipush dX6_others_21 (by decide) ?_
        refine z_iload_n dX6_others_23 rfl ?_
        refine z_imul dX6_others_24 ?_
        refine z_iadd dX6_others_25 ?_
        refine z_iload_n dX6_others_26 rfl ?_
        refine z_iadd dX6_others_27 ?_
        refine z_iaload dX6_others_28 (by decide) rfl (by omega) (by omega) (by decide) (fun r28 => ?_)
        rw [rm_ch R hc (e := k) (by omega) (z := 45 + 6 * (c : Int) + (k : Int)) (by omega)]
        have w5 := W.2.2.2.2.2 c k hc (by omega)
        refine z_if_ne 36 dX6_others_29 (by decide) (by omega) (fun c29 => ?_) (fun c29 => ?_)
        · refine z_iconst dX6_others_36 ?_
          refine z_iadd dX6_others_37 ?_
          refine z_istore_n dX6_others_38 (by decide) rfl ?_
          refine z_iinc dX6_others_39 rfl (by decide) rfl ?_
          refine z_goto 4 dX6_others_42 (by decide) ?_
          have e1 : sI k (nz σ c) + 1 = sI (k + 1) (nz σ c) := by rw [sI_s]; unfold nz; rw [if_neg c29]
          rw [e1]
          exact ih4 (k + 1) (by omega) (by omega)
        · refine z_iconst dX6_others_32 ?_
          refine z_goto 37 dX6_others_33 (by decide) ?_
          refine z_iadd dX6_others_37 ?_
          refine z_istore_n dX6_others_38 (by decide) rfl ?_
          refine z_iinc dX6_others_39 rfl (by decide) rfl ?_
          refine z_goto 4 dX6_others_42 (by decide) ?_
          have e1 : sI k (nz σ c) + 0 = sI (k + 1) (nz σ c) := by rw [sI_s]; unfold nz; rw [if_pos c29]
          rw [e1]
          exact ih4 (k + 1) (by omega) (by omega)
  exact loop4 _ 0 (by omega) (Nat.lt_succ_self _)
set_option maxRecDepth 100000 in
set_option maxHeartbeats 4000000 in
theorem c_X6_endsAt {g : GG} {h : HH} {σ : SG} (W : WF σ) (R : RM (h 48) σ) {c p : Nat} (hc : c < 3) (hp : p < sP σ) : CeI mX6_endsAt g [vr 47, vi (c : Int), vi (p : Int)] h (ends σ c p) := by
  refine cn_q (lv := [vr 47, vi (c : Int), vi (p : Int), vx, vx]) tX6_endsAt.1 rfl rfl (fun hR Q hQ => ?_)
  have w1 := W.1
  have w2 := W.2.1
  have w3 := W.2.2.1
  refine z_iconst dX6_endsAt_0 ?_
  refine z_istore_n dX6_endsAt_1 (by decide) rfl ?_
  refine z_iconst dX6_endsAt_2 ?_
  refine z_istore dX6_endsAt_3 (by decide) rfl ?_
  have loop5 : ∀ (nL9 : Nat) (k : Nat), (k ≤ sE σ) → sE σ - k < nL9 → Z mX6_endsAt g 5 [vr 47, vi (c : Int), vi (p : Int), vi (sI k (bd σ c p)), vi (k : Int)] [] h Q := by
    intro nL9
    induction nL9 with
    | zero => intro k hk hnL9; exact absurd hnL9 (Nat.not_lt_zero _)
    | succ nL9 ih5 =>
      intro k hk hnL9
      refine z_iload dX6_endsAt_5 rfl ?_
      refine z_aload_n dX6_endsAt_7 rfl ?_
      refine z_getR fX6_7 dX6_endsAt_8 (by decide) rfl rfl ?_
      refine z_iconst dX6_endsAt_11 ?_
      refine z_iaload dX6_endsAt_12 (by decide) rfl (by omega) (by omega) (by decide) (fun r12 => ?_)
      rw [show h 48 (Int.toNat 1) = sE σ from rm_E R]
      refine z_icmp_ge 48 dX6_endsAt_13 (by decide) (by omega) (by omega) (fun c13 => ?_) (fun c13 => ?_)
      · refine z_iload_n dX6_endsAt_48 rfl ?_
        exact z_ireturn dX6_endsAt_49 rfl (hQ _ _ ⟨_, rfl, (by unfold ends; rw [show k = sE σ from by omega]), rfl⟩)
      · refine z_iload_n dX6_endsAt_16 rfl ?_
        refine z_aload_n dX6_endsAt_17 rfl ?_
        refine z_getR fX6_7 dX6_endsAt_18 (by decide) rfl rfl ?_
        refine z_bipush dX6_endsAt_21 (by decide) ?_
        refine z_bipush dX6_endsAt_23 (by decide) ?_
        refine z_iload_n dX6_endsAt_25 rfl ?_
        refine z_imul dX6_endsAt_26 ?_
        refine z_iadd dX6_endsAt_27 ?_
        refine z_iload dX6_endsAt_28 rfl ?_
        refine z_iadd dX6_endsAt_30 ?_
        refine z_iaload dX6_endsAt_31 (by decide) rfl (by omega) (by omega) (by decide) (fun r31 => ?_)
        rw [rm_ch R hc (e := k) (by omega) (z := 45 + 6 * (c : Int) + (k : Int)) (by omega)]
        refine z_aload_n dX6_endsAt_32 rfl ?_
        refine z_iload_n dX6_endsAt_33 rfl ?_
        refine z_iload dX6_endsAt_34 rfl ?_
        refine z_callV_eI (M := mX6_endsAt) [_, _] tX6_one kX6_67 dX6_endsAt_36 ⟨by decide, rfl, _, _, rfl⟩ ⟨by decide, by decide⟩ rfl (Nat.le_of_ble_eq_true rfl) rfl (c_X6_one W R (p := p) (e := k) (by omega) (by omega)) ?_
        refine z_imul dX6_endsAt_39 ?_
        refine z_iadd dX6_endsAt_40 ?_
        refine z_istore_n dX6_endsAt_41 (by decide) rfl ?_
        refine z_iinc dX6_endsAt_42 rfl (by decide) rfl ?_
        refine z_goto 5 dX6_endsAt_45 (by decide) ?_
        exact ih5 (k + 1) (by omega) (by omega)
  exact loop5 _ 0 (by omega) (Nat.lt_succ_self _)
set_option maxRecDepth 100000 in
set_option maxHeartbeats 4000000 in
theorem c_X6_isCycle {g : GG} {h : HH} {σ : SG} (W : WF σ) (R : RM (h 48) σ) {c : Nat} (hc : c < 3) : CeI mX6_isCycle g [vr 47, vi (c : Int)] h (bi (cyc σ c)) := by
  refine cn_q (lv := [vr 47, vi (c : Int), vx, vx]) tX6_isCycle.1 rfl rfl (fun hR Q hQ => ?_)
  have w1 := W.1
  have w2 := W.2.1
  have w3 := W.2.2.1
  refine z_iconst dX6_isCycle_0 ?_
  refine z_istore_n dX6_isCycle_1 (by decide) rfl ?_
  refine z_iconst dX6_isCycle_2 ?_
  refine z_istore_n dX6_isCycle_3 (by decide) rfl ?_
  have loop4 : ∀ (nL9 : Nat) (k : Nat), (k ≤ sP σ) → sP σ - k < nL9 → Z mX6_isCycle g 4 [vr 47, vi (c : Int), vi (bi (∀ p, p < k → ends σ c p = 0)), vi (k : Int)] [] h Q := by
    intro nL9
    induction nL9 with
    | zero => intro k hk hnL9; exact absurd hnL9 (Nat.not_lt_zero _)
    | succ nL9 ih4 =>
      intro k hk hnL9
      refine z_iload_n dX6_isCycle_4 rfl ?_
      refine z_aload_n dX6_isCycle_5 rfl ?_
      refine z_getR fX6_7 dX6_isCycle_6 (by decide) rfl rfl ?_
      refine z_iconst dX6_isCycle_9 ?_
      refine z_iaload dX6_isCycle_10 (by decide) rfl (by omega) (by omega) (by decide) (fun r10 => ?_)
      rw [show h 48 (Int.toNat 0) = sP σ from rm_P R]
      refine z_icmp_ge 39 dX6_isCycle_11 (by decide) (by omega) (by omega) (fun c11 => ?_) (fun c11 => ?_)
      · refine z_iload_n dX6_isCycle_39 rfl ?_
        exact z_zreturn dX6_isCycle_40 rfl (bi_01 _) (hQ _ _ ⟨_, rfl, (by unfold cyc; rw [show k = sP σ from by omega]), rfl⟩)
      · refine z_iload_n dX6_isCycle_14 rfl ?_
        refine z_if_eq 31 dX6_isCycle_15 (by decide) (bi_r _) (fun c15 => ?_) (fun c15 => ?_)
        · have c14 := bi_eq.mp c15
          refine z_iconst dX6_isCycle_31 ?_
          refine z_istore_n dX6_isCycle_32 (by decide) rfl ?_
          refine z_iinc dX6_isCycle_33 rfl (by decide) rfl ?_
          refine z_goto 4 dX6_isCycle_36 (by decide) ?_
          have x0 := ih4 (k + 1) (by omega) (by omega)
          rw [show bi (∀ p, p < k + 1 → ends σ c p = 0) = 0 from (bi_f (fun q => c14 (fun p hp => q p (by omega)))).symm] at x0
          exact x0
        · have c14 := bi_ne.mp c15
          refine z_aload_n dX6_isCycle_18 rfl ?_
          refine z_iload_n dX6_isCycle_19 rfl ?_
          refine z_iload_n dX6_isCycle_20 rfl ?_
          refine z_callV_eI (M := mX6_isCycle) [_, _] tX6_endsAt kX6_318 dX6_isCycle_21 ⟨by decide, rfl, _, _, rfl⟩ ⟨by decide, by decide⟩ rfl (Nat.le_of_ble_eq_true rfl) rfl (c_X6_endsAt W R hc (by omega)) ?_
          have w5 := ends_r W hc (p := k)
          refine z_if_ne 31 dX6_isCycle_24 (by decide) (by omega) (fun c24 => ?_) (fun c24 => ?_)
          · refine z_iconst dX6_isCycle_31 ?_
            refine z_istore_n dX6_isCycle_32 (by decide) rfl ?_
            refine z_iinc dX6_isCycle_33 rfl (by decide) rfl ?_
            refine z_goto 4 dX6_isCycle_36 (by decide) ?_
            have x0 := ih4 (k + 1) (by omega) (by omega)
            rw [show bi (∀ p, p < k + 1 → ends σ c p = 0) = 0 from (bi_f (fun q => c24 (q k (by omega)))).symm] at x0
            exact x0
          · refine z_iconst dX6_isCycle_27 ?_
            refine z_goto 32 dX6_isCycle_28 (by decide) ?_
            refine z_istore_n dX6_isCycle_32 (by decide) rfl ?_
            refine z_iinc dX6_isCycle_33 rfl (by decide) rfl ?_
            refine z_goto 4 dX6_isCycle_36 (by decide) ?_
            have x0 := ih4 (k + 1) (by omega) (by omega)
            rw [show bi (∀ p, p < k + 1 → ends σ c p = 0) = 1 from (bi_t (lt_s c14 c24)).symm] at x0
            exact x0
  have x0 := loop4 _ 0 (by omega) (Nat.lt_succ_self _)
  rw [show bi (∀ p, p < 0 → ends σ c p = 0) = 1 from (bi_t (fun p hp => absurd hp (Nat.not_lt_zero _))).symm] at x0
  exact x0
set_option maxRecDepth 100000 in
set_option maxHeartbeats 4000000 in
theorem c_X6_isSealed {g : GG} {h : HH} {σ : SG} (W : WF σ) (R : RM (h 48) σ) {f : Nat} (hf : f < sF σ) : CeI mX6_isSealed g [vr 47, vi (f : Int)] h (bi (sld σ f)) := by
  refine cn_q (lv := [vr 47, vi (f : Int), vx, vx]) tX6_isSealed.1 rfl rfl (fun hR Q hQ => ?_)
  have w1 := W.1
  have w2 := W.2.1
  have w3 := W.2.2.1
  refine z_iconst dX6_isSealed_0 ?_
  refine z_istore_n dX6_isSealed_1 (by decide) rfl ?_
  refine z_iconst dX6_isSealed_2 ?_
  refine z_istore_n dX6_isSealed_3 (by decide) rfl ?_
  have loop4 : ∀ (nL9 : Nat) (k : Nat), (k ≤ sE σ) → sE σ - k < nL9 → Z mX6_isSealed g 4 [vr 47, vi (f : Int), vi (bi (∀ p, p < k → ent2 σ p f = 0)), vi (k : Int)] [] h Q := by
    intro nL9
    induction nL9 with
    | zero => intro k hk hnL9; exact absurd hnL9 (Nat.not_lt_zero _)
    | succ nL9 ih4 =>
      intro k hk hnL9
      refine z_iload_n dX6_isSealed_4 rfl ?_
      refine z_aload_n dX6_isSealed_5 rfl ?_
      refine z_getR fX6_7 dX6_isSealed_6 (by decide) rfl rfl ?_
      refine z_iconst dX6_isSealed_9 ?_
      refine z_iaload dX6_isSealed_10 (by decide) rfl (by omega) (by omega) (by decide) (fun r10 => ?_)
      rw [show h 48 (Int.toNat 1) = sE σ from rm_E R]
      refine z_icmp_ge 39 dX6_isSealed_11 (by decide) (by omega) (by omega) (fun c11 => ?_) (fun c11 => ?_)
      · refine z_iload_n dX6_isSealed_39 rfl ?_
        exact z_zreturn dX6_isSealed_40 rfl (bi_01 _) (hQ _ _ ⟨_, rfl, (by unfold sld; rw [show k = sE σ from by omega]), rfl⟩)
      · refine z_iload_n dX6_isSealed_14 rfl ?_
        refine z_if_eq 31 dX6_isSealed_15 (by decide) (bi_r _) (fun c15 => ?_) (fun c15 => ?_)
        · have c14 := bi_eq.mp c15
          refine z_iconst dX6_isSealed_31 ?_
          refine z_istore_n dX6_isSealed_32 (by decide) rfl ?_
          refine z_iinc dX6_isSealed_33 rfl (by decide) rfl ?_
          refine z_goto 4 dX6_isSealed_36 (by decide) ?_
          have x0 := ih4 (k + 1) (by omega) (by omega)
          rw [show bi (∀ p, p < k + 1 → ent2 σ p f = 0) = 0 from (bi_f (fun q => c14 (fun p hp => q p (by omega)))).symm] at x0
          exact x0
        · have c14 := bi_ne.mp c15
          refine z_aload_n dX6_isSealed_18 rfl ?_
          refine z_iload_n dX6_isSealed_19 rfl ?_
          refine z_iload_n dX6_isSealed_20 rfl ?_
          refine z_callV_eI (M := mX6_isSealed) [_, _] tX6_two kX6_71 dX6_isSealed_21 ⟨by decide, rfl, _, _, rfl⟩ ⟨by decide, by decide⟩ rfl (Nat.le_of_ble_eq_true rfl) rfl (c_X6_two W R (e := k) (f := f) (by omega) hf) ?_
          have w5 := ent2_r W hf (i := k)
          refine z_if_ne 31 dX6_isSealed_24 (by decide) (by omega) (fun c24 => ?_) (fun c24 => ?_)
          · refine z_iconst dX6_isSealed_31 ?_
            refine z_istore_n dX6_isSealed_32 (by decide) rfl ?_
            refine z_iinc dX6_isSealed_33 rfl (by decide) rfl ?_
            refine z_goto 4 dX6_isSealed_36 (by decide) ?_
            have x0 := ih4 (k + 1) (by omega) (by omega)
            rw [show bi (∀ p, p < k + 1 → ent2 σ p f = 0) = 0 from (bi_f (fun q => c24 (q k (by omega)))).symm] at x0
            exact x0
          · refine z_iconst dX6_isSealed_27 ?_
            refine z_goto 32 dX6_isSealed_28 (by decide) ?_
            refine z_istore_n dX6_isSealed_32 (by decide) rfl ?_
            refine z_iinc dX6_isSealed_33 rfl (by decide) rfl ?_
            refine z_goto 4 dX6_isSealed_36 (by decide) ?_
            have x0 := ih4 (k + 1) (by omega) (by omega)
            rw [show bi (∀ p, p < k + 1 → ent2 σ p f = 0) = 1 from (bi_t (lt_s c14 c24)).symm] at x0
            exact x0
  have x0 := loop4 _ 0 (by omega) (Nat.lt_succ_self _)
  rw [show bi (∀ p, p < 0 → ent2 σ p f = 0) = 1 from (bi_t (fun p hp => absurd hp (Nat.not_lt_zero _))).symm] at x0
  exact x0
set_option maxRecDepth 100000 in
set_option maxHeartbeats 4000000 in
theorem c_X6_code {g : GG} {h : HH} {e : Nat} (y : Bool) (he : e < 26) : CeI mX6_code g [vr 47, vi (lcd e y)] h (cod e y) := by
  refine cn_q (lv := [vr 47, vi (lcd e y)]) tX6_code.1 rfl rfl (fun hR Q hQ => ?_)
  have l1 := lcd_r y he
  have l2 := lcd_neg e y
  refine z_iload_n dX6_code_0 rfl ?_
  refine z_if_ge 13 dX6_code_1 (by decide) (by omega) (fun c1 => ?_) (fun c1 => ?_)
  · refine z_bipush dX6_code_13 (by decide) ?_
    refine z_iload_n dX6_code_15 rfl ?_
    refine z_iadd dX6_code_16 ?_
    refine z_iconst dX6_code_17 ?_
    refine z_isub dX6_code_18 ?_
    exact z_ireturn dX6_code_19 rfl (hQ _ _ ⟨_, rfl, (cod_l0 c1), rfl⟩)
  · refine z_bipush dX6_code_4 (by decide) ?_
    refine z_iload_n dX6_code_6 rfl ?_
    refine z_isub dX6_code_7 ?_
    refine z_iconst dX6_code_8 ?_
    refine z_isub dX6_code_9 ?_
    refine z_goto 19 dX6_code_10 (by decide) ?_
    exact z_ireturn dX6_code_19 rfl (hQ _ _ ⟨_, rfl, (cod_l1 c1), rfl⟩)

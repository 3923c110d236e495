theorem z_RR {M : MD} {g : GG} {pc : Nat} {lv st : List AV} {h : HH} {Q : Option AV → HH → Prop} (k : RR h → Z M g pc lv st h Q) : Z M g pc lv st h Q := by
  intro p l e s m args below meth c F H locs ls X L
  exact k X.2.2.2 p l e s m args below meth c F H locs ls X L
theorem cn_q {M : MD} {g : GG} {av lv : List AV} {h : HH} {Q : Option AV → HH → Prop} {n : Nat} (hT : TgB M n) (hlv : lvOf (mn M) av = lv) (hlen : lv.length = mn M) (K : RR h → ∀ Q' : Option AV → HH → Prop, (∀ r h', Q r h' → Q' r h') → Z M g 0 lv [] h Q') : Cn M g av h Q := cn_of_z hT hlv hlen (z_RR fun hR => K hR Q fun _ _ h => h)
def CeR (M : MD) (g : GG) (av : List AV) (h : HH) (k : Nat) : Prop := Cn M g av h (fun r h' => ∃ z, r = some (vr z) ∧ z = k ∧ h' = h)
theorem z_callV_eR {M M' : MD} {g : GG} {pc idx : Nat} {lv st : List AV} {h : HH} {Q : Option AV → HH → Prop} {n : Nat} {z : Nat} {b : Nat} (As : List AV) (hT : TgV M' n) (hl : Cond.methodLink (mo M) idx (my M') ∈ lw_ok) (d : decode (mb M) pc = .ok (.invokevirtual idx, 3)) (hb : rcv b (mo M')) (hR : mf M' + 1 ≤ mf M ∧ 8 + (mn M' + 11) + ml M' ≤ ml M) (hn : As.length = n) (hst : (st.map avc).sum ≤ 8) {st0 : List AV} (hs0 : st0 = As.reverse ++ vr b :: st) (C : CeR M' g (vr b :: As) h z) (k : Z M g (pc + 3) lv (vr z :: st) h Q) : Z M g pc lv st0 h Q := by
  refine z_callV As hT hl d hb hR hn hst hs0 C (fun r h' q => ?_)
  obtain ⟨z, rfl, rfl, rfl⟩ := q
  exact k
/-- a boolean as the machine's int -/
noncomputable def bi (p : Prop) : Int := @ite Int p (Classical.propDecidable p) 1 0
theorem bi_ne {p : Prop} : bi p ≠ 0 ↔ p := by unfold bi; split <;> simp_all
theorem bi_eq {p : Prop} : bi p = 0 ↔ ¬ p := by unfold bi; split <;> simp_all
theorem bi_r (p : Prop) : R32 (bi p) := by unfold bi; split <;> decide
theorem bi_01 (p : Prop) : bi p = 0 ∨ bi p = 1 := by unfold bi; split <;> simp
theorem bi_t {p : Prop} (h : p) : 1 = bi p := by unfold bi; rw [if_pos h]
theorem bi_f {p : Prop} (h : ¬ p) : 0 = bi p := by unfold bi; rw [if_neg h]
theorem bi_c {p q : Prop} (h : p ↔ q) : bi p = bi q := by rw [propext h]
/-- the numbers of one cell told anew -/
def setc (h : HH) (k : Nat) (f : Nat → Int) : HH := fun a => if a = k then f else h a
theorem setc_at (h : HH) (k : Nat) (f : Nat → Int) : setc h k f k = f := by simp [setc]
theorem setc_ne (h : HH) {k a : Nat} (f : Nat → Int) (n : a ≠ k) : setc h k f a = h a := by simp [setc, n]
theorem up_setc (h : HH) (k j : Nat) (f : Nat → Int) (v : Int) : up (setc h k f) k j v = setc h k (fun b => if b = j then v else f b) := by
  funext a; by_cases e : a = k
  · subst e; simp [up, setc]
  · simp [up, setc, e]
theorem up_eq (h : HH) (k j : Nat) (v : Int) : up h k j v = setc h k (fun b => if b = j then v else h k b) := by
  funext a; by_cases e : a = k
  · subst e; simp [up, setc]
  · simp [up, setc, e]
theorem setc_self (h : HH) (k : Nat) : setc h k (h k) = h := by
  funext a; by_cases e : a = k
  · subst e; simp [setc]
  · simp [setc, e]
theorem setc_setc (h : HH) (k : Nat) (f f' : Nat → Int) : setc (setc h k f) k f' = setc h k f' := by
  funext a; by_cases e : a = k
  · subst e; simp [setc]
  · simp [setc, e]
theorem cpy_eq (h : HH) (a b n : Nat) : cpy h a b n = setc h b (fun j => if j < n then h a j else h b j) := by
  funext k; by_cases e : k = b
  · subst e; simp [cpy, setc]
  · simp [cpy, setc, e]
/-- the two objects of class Cells -/
def isC (o : Nat) : Prop := o = 1 ∨ o = 3
theorem isC1 : isC 1 := Or.inl rfl
theorem isC3 : isC 3 := Or.inr rfl
theorem shpC {o : Nat} (h : isC o) : shp o = (0, 0, [(2, o + 1)]) := by rcases h with rfl | rfl <;> rfl
theorem shpS {o : Nat} (h : isC o) : shp (o + 1) = (1, 63, []) := by rcases h with rfl | rfl <;> rfl
theorem ltC {o : Nat} (h : isC o) : o < 50 := by rcases h with rfl | rfl <;> decide
theorem ltS {o : Nat} (h : isC o) : o + 1 < 50 := by rcases h with rfl | rfl <;> decide
theorem rcvC {o : Nat} (h : isC o) : rcv o RX0 := by rcases h with rfl | rfl <;> exact ⟨by decide, rfl, _, _, rfl⟩
/-- a slot, 0 where there is none -/
def sl (h : HH) (o : Nat) (i : Int) : Int := if 0 ≤ i ∧ i < 63 then h (o + 1) i.toNat else 0
/-- a slot told anew -/
def ss (h : HH) (o : Nat) (i v : Int) : HH := if 0 ≤ i ∧ i < 63 then up h (o + 1) i.toNat v else h
theorem sl_r {h : HH} {o : Nat} (hR : RR h) (ho : isC o) (i : Int) : R32 (sl h o i) := by
  unfold sl; split
  · exact hR.2.1 (o + 1) (by rw [shpS ho]; exact Or.inl rfl) _
  · decide
abbrev SB (z : Int) : Prop := -100000 ≤ z ∧ z ≤ 100000
/-- the edge that a code means, -1 for none -/
def edg (c : Int) : Int := if 65 ≤ c ∧ c ≤ 90 then c - 65 else if 97 ≤ c ∧ c ≤ 122 then c - 97 else -1
theorem clr_step (f : Nat → Int) (k : Nat) : (fun b => if b = ((k : Nat) : Int).toNat then (0 : Int) else if b < k then 0 else f b) = (fun j => if j < k + 1 then 0 else f j) := by
  funext b
  rw [show ((k : Nat) : Int).toNat = k by omega]
  by_cases e1 : b = k
  · simp [e1]
  · by_cases e2 : b < k
    · simp [e1, e2, show b < k + 1 by omega]
    · simp [e1, e2, show ¬ b < k + 1 by omega]
set_option maxRecDepth 100000 in
set_option maxHeartbeats 4000000 in
theorem c_X4_isBackward {g : GG} {h : HH} {z : Int} (hz : R32 z) : CeI mX4_isBackward g [vi z] h (bi (65 ≤ z ∧ z ≤ 90)) := by
  refine cn_q (lv := [vi z]) tX4_isBackward.1 rfl rfl (fun hR Q hQ => ?_)
  refine z_iload_n dX4_isBackward_0 rfl ?_
  refine z_bipush dX4_isBackward_1 (by decide) ?_
  refine z_icmp_lt 16 dX4_isBackward_3 (by decide) (by omega) (by omega) (fun c3 => ?_) (fun c3 => ?_)
  · refine z_iconst dX4_isBackward_16 ?_
    exact z_zreturn dX4_isBackward_17 rfl (by first | exact Or.inl rfl | exact Or.inr rfl | exact bi_01 _ | omega) (hQ _ _ ⟨_, rfl, (by first | (exfalso; omega) | exact bi_t (by omega) | exact bi_f (by omega)), rfl⟩)
  · refine z_iload_n dX4_isBackward_6 rfl ?_
    refine z_bipush dX4_isBackward_7 (by decide) ?_
    refine z_icmp_gt 16 dX4_isBackward_9 (by decide) (by omega) (by omega) (fun c9 => ?_) (fun c9 => ?_)
    · refine z_iconst dX4_isBackward_16 ?_
      exact z_zreturn dX4_isBackward_17 rfl (by first | exact Or.inl rfl | exact Or.inr rfl | exact bi_01 _ | omega) (hQ _ _ ⟨_, rfl, (by first | (exfalso; omega) | exact bi_t (by omega) | exact bi_f (by omega)), rfl⟩)
    · refine z_iconst dX4_isBackward_12 ?_
      refine z_goto 17 dX4_isBackward_13 (by decide) ?_
      exact z_zreturn dX4_isBackward_17 rfl (by first | exact Or.inl rfl | exact Or.inr rfl | exact bi_01 _ | omega) (hQ _ _ ⟨_, rfl, (by first | (exfalso; omega) | exact bi_t (by omega) | exact bi_f (by omega)), rfl⟩)
set_option maxRecDepth 100000 in
set_option maxHeartbeats 4000000 in
theorem c_X4_edgeOf {g : GG} {h : HH} {z : Int} (hz : R32 z) : CeI mX4_edgeOf g [vi z] h (edg z) := by
  refine cn_q (lv := [vi z]) tX4_edgeOf.1 rfl rfl (fun hR Q hQ => ?_)
  refine z_iload_n dX4_edgeOf_0 rfl ?_
  refine z_bipush dX4_edgeOf_1 (by decide) ?_
  refine z_icmp_lt 17 dX4_edgeOf_3 (by decide) (by omega) (by omega) (fun c3 => ?_) (fun c3 => ?_)
  · refine z_iload_n dX4_edgeOf_17 rfl ?_
    refine z_bipush dX4_edgeOf_18 (by decide) ?_
    refine z_icmp_lt 36 dX4_edgeOf_20 (by decide) (by omega) (by omega) (fun c20 => ?_) (fun c20 => ?_)
    · refine z_iconst dX4_edgeOf_36 ?_
      exact z_ireturn dX4_edgeOf_37 rfl (hQ _ _ ⟨_, rfl, (by unfold edg; first | (exfalso; omega) | rw [if_pos (by omega)] | (rw [if_neg (by omega), if_pos (by omega)]) | (rw [if_neg (by omega), if_neg (by omega)])), rfl⟩)
    · refine z_iload_n dX4_edgeOf_23 rfl ?_
      refine z_bipush dX4_edgeOf_24 (by decide) ?_
      refine z_icmp_gt 36 dX4_edgeOf_26 (by decide) (by omega) (by omega) (fun c26 => ?_) (fun c26 => ?_)
      · refine z_iconst dX4_edgeOf_36 ?_
        exact z_ireturn dX4_edgeOf_37 rfl (hQ _ _ ⟨_, rfl, (by unfold edg; first | (exfalso; omega) | rw [if_pos (by omega)] | (rw [if_neg (by omega), if_pos (by omega)]) | (rw [if_neg (by omega), if_neg (by omega)])), rfl⟩)
      · refine z_iload_n dX4_edgeOf_29 rfl ?_
        refine z_bipush dX4_edgeOf_30 (by decide) ?_
        refine z_isub dX4_edgeOf_32 ?_
        refine z_goto 37 dX4_edgeOf_33 (by decide) ?_
        exact z_ireturn dX4_edgeOf_37 rfl (hQ _ _ ⟨_, rfl, (by unfold edg; first | (exfalso; omega) | rw [if_pos (by omega)] | (rw [if_neg (by omega), if_pos (by omega)]) | (rw [if_neg (by omega), if_neg (by omega)])), rfl⟩)
  · refine z_iload_n dX4_edgeOf_6 rfl ?_
    refine z_bipush dX4_edgeOf_7 (by decide) ?_
    refine z_icmp_gt 17 dX4_edgeOf_9 (by decide) (by omega) (by omega) (fun c9 => ?_) (fun c9 => ?_)
    · refine z_iload_n dX4_edgeOf_17 rfl ?_
      refine z_bipush dX4_edgeOf_18 (by decide) ?_
      refine z_icmp_lt 36 dX4_edgeOf_20 (by decide) (by omega) (by omega) (fun c20 => ?_) (fun c20 => ?_)
      · refine z_iconst dX4_edgeOf_36 ?_
        exact z_ireturn dX4_edgeOf_37 rfl (hQ _ _ ⟨_, rfl, (by unfold edg; first | (exfalso; omega) | rw [if_pos (by omega)] | (rw [if_neg (by omega), if_pos (by omega)]) | (rw [if_neg (by omega), if_neg (by omega)])), rfl⟩)
      · refine z_iload_n dX4_edgeOf_23 rfl ?_
        refine z_bipush dX4_edgeOf_24 (by decide) ?_
        refine z_icmp_gt 36 dX4_edgeOf_26 (by decide) (by omega) (by omega) (fun c26 => ?_) (fun c26 => ?_)
        · refine z_iconst dX4_edgeOf_36 ?_
          exact z_ireturn dX4_edgeOf_37 rfl (hQ _ _ ⟨_, rfl, (by unfold edg; first | (exfalso; omega) | rw [if_pos (by omega)] | (rw [if_neg (by omega), if_pos (by omega)]) | (rw [if_neg (by omega), if_neg (by omega)])), rfl⟩)
        · refine z_iload_n dX4_edgeOf_29 rfl ?_
          refine z_bipush dX4_edgeOf_30 (by decide) ?_
          refine z_isub dX4_edgeOf_32 ?_
          refine z_goto 37 dX4_edgeOf_33 (by decide) ?_
          exact z_ireturn dX4_edgeOf_37 rfl (hQ _ _ ⟨_, rfl, (by unfold edg; first | (exfalso; omega) | rw [if_pos (by omega)] | (rw [if_neg (by omega), if_pos (by omega)]) | (rw [if_neg (by omega), if_neg (by omega)])), rfl⟩)
    · refine z_iload_n dX4_edgeOf_12 rfl ?_
      refine z_bipush dX4_edgeOf_13 (by decide) ?_
      refine z_isub dX4_edgeOf_15 ?_
      exact z_ireturn dX4_edgeOf_16 rfl (hQ _ _ ⟨_, rfl, (by unfold edg; first | (exfalso; omega) | rw [if_pos (by omega)] | (rw [if_neg (by omega), if_pos (by omega)]) | (rw [if_neg (by omega), if_neg (by omega)])), rfl⟩)
set_option maxRecDepth 100000 in
set_option maxHeartbeats 4000000 in
theorem c_X5_isWithin {g : GG} {h : HH} {i n : Int} (hi : R32 i) (hn : R32 n) : CeI mX5_isWithin g [vi i, vi n] h (bi (0 ≤ i ∧ i < n)) := by
  refine cn_q (lv := [vi i, vi n]) tX5_isWithin.1 rfl rfl (fun hR Q hQ => ?_)
  refine z_iload_n dX5_isWithin_0 rfl ?_
  refine z_if_lt 13 dX5_isWithin_1 (by decide) (by omega) (fun c1 => ?_) (fun c1 => ?_)
  · refine z_iconst dX5_isWithin_13 ?_
    exact z_zreturn dX5_isWithin_14 rfl (by first | exact Or.inl rfl | exact Or.inr rfl | exact bi_01 _ | omega) (hQ _ _ ⟨_, rfl, (by first | (exfalso; omega) | exact bi_t (by omega) | exact bi_f (by omega)), rfl⟩)
  · refine z_iload_n dX5_isWithin_4 rfl ?_
    refine z_iload_n dX5_isWithin_5 rfl ?_
    refine z_icmp_ge 13 dX5_isWithin_6 (by decide) (by omega) (by omega) (fun c6 => ?_) (fun c6 => ?_)
    · refine z_iconst dX5_isWithin_13 ?_
      exact z_zreturn dX5_isWithin_14 rfl (by first | exact Or.inl rfl | exact Or.inr rfl | exact bi_01 _ | omega) (hQ _ _ ⟨_, rfl, (by first | (exfalso; omega) | exact bi_t (by omega) | exact bi_f (by omega)), rfl⟩)
    · refine z_iconst dX5_isWithin_9 ?_
      refine z_goto 14 dX5_isWithin_10 (by decide) ?_
      exact z_zreturn dX5_isWithin_14 rfl (by first | exact Or.inl rfl | exact Or.inr rfl | exact bi_01 _ | omega) (hQ _ _ ⟨_, rfl, (by first | (exfalso; omega) | exact bi_t (by omega) | exact bi_f (by omega)), rfl⟩)
set_option maxRecDepth 100000 in
set_option maxHeartbeats 4000000 in
theorem c_X0_row {g : GG} {h : HH} {o : Nat} (ho : isC o) : CeR mX0_row g [vr o] h (o + 1) := by
  refine cn_q (lv := [vr o]) tX0_row.1 rfl rfl (fun hR Q hQ => ?_)
  refine z_aload_n dX0_row_0 rfl ?_
  refine z_getR fX0_11 dX0_row_1 (ltC ho) (shpC ho) rfl ?_
  exact z_areturn dX0_row_4 rfl (hQ _ _ ⟨_, rfl, rfl, rfl⟩)
set_option maxRecDepth 100000 in
set_option maxHeartbeats 4000000 in
theorem c_X0_slot {g : GG} {h : HH} {o : Nat} (ho : isC o) {i : Int} (hi : R32 i) : CeI mX0_slot g [vr o, vi i] h (sl h o i) := by
  refine cn_q (lv := [vr o, vi i]) tX0_slot.1 rfl rfl (fun hR Q hQ => ?_)
  refine z_iload_n dX0_slot_0 rfl ?_
  refine z_if_lt 22 dX0_slot_1 (by decide) (by omega) (fun c1 => ?_) (fun c1 => ?_)
  · refine z_iconst dX0_slot_22 ?_
    exact z_ireturn dX0_slot_23 rfl (hQ _ _ ⟨_, rfl, (by unfold sl; first | rw [if_pos (by omega)] | rw [if_neg (by omega)]), rfl⟩)
  · refine z_iload_n dX0_slot_4 rfl ?_
    refine z_aload_n dX0_slot_5 rfl ?_
    refine z_getR fX0_11 dX0_slot_6 (ltC ho) (shpC ho) rfl ?_
    refine z_alen dX0_slot_9 (ltS ho) (shpS ho) (by decide) ?_
    refine z_icmp_ge 22 dX0_slot_10 (by decide) (by omega) (by omega) (fun c10 => ?_) (fun c10 => ?_)
    · refine z_iconst dX0_slot_22 ?_
      exact z_ireturn dX0_slot_23 rfl (hQ _ _ ⟨_, rfl, (by unfold sl; first | rw [if_pos (by omega)] | rw [if_neg (by omega)]), rfl⟩)
    · refine z_aload_n dX0_slot_13 rfl ?_
      refine z_getR fX0_11 dX0_slot_14 (ltC ho) (shpC ho) rfl ?_
      refine z_iload_n dX0_slot_17 rfl ?_
      refine z_iaload dX0_slot_18 (ltS ho) (shpS ho) (by omega) (by omega) (by decide) (fun r18 => ?_)
      refine z_goto 23 dX0_slot_19 (by decide) ?_
      exact z_ireturn dX0_slot_23 rfl (hQ _ _ ⟨_, rfl, (by unfold sl; first | rw [if_pos (by omega)] | rw [if_neg (by omega)]), rfl⟩)
set_option maxRecDepth 100000 in
set_option maxHeartbeats 4000000 in
theorem c_X0_setSlot {g : GG} {h : HH} {o : Nat} (ho : isC o) {i v : Int} (hi : R32 i) (hv : R32 v) : CnV mX0_setSlot g [vr o, vi i, vi v] h (fun h' => h' = ss h o i v) := by
  refine cn_q (lv := [vr o, vi i, vi v]) tX0_setSlot.1 rfl rfl (fun hR Q hQ => ?_)
  refine z_iload_n dX0_setSlot_0 rfl ?_
  refine z_if_lt 20 dX0_setSlot_1 (by decide) (by omega) (fun c1 => ?_) (fun c1 => ?_)
  · exact z_return dX0_setSlot_20 rfl (hQ _ _ ⟨rfl, (by unfold ss; first | rw [if_pos (by omega)] | rw [if_neg (by omega)])⟩)
  · refine z_iload_n dX0_setSlot_4 rfl ?_
    refine z_aload_n dX0_setSlot_5 rfl ?_
    refine z_getR fX0_11 dX0_setSlot_6 (ltC ho) (shpC ho) rfl ?_
    refine z_alen dX0_setSlot_9 (ltS ho) (shpS ho) (by decide) ?_
    refine z_icmp_ge 20 dX0_setSlot_10 (by decide) (by omega) (by omega) (fun c10 => ?_) (fun c10 => ?_)
    · exact z_return dX0_setSlot_20 rfl (hQ _ _ ⟨rfl, (by unfold ss; first | rw [if_pos (by omega)] | rw [if_neg (by omega)])⟩)
    · refine z_aload_n dX0_setSlot_13 rfl ?_
      refine z_getR fX0_11 dX0_setSlot_14 (ltC ho) (shpC ho) rfl ?_
      refine z_iload_n dX0_setSlot_17 rfl ?_
      refine z_iload_n dX0_setSlot_18 rfl ?_
      refine z_iastore dX0_setSlot_19 (ltS ho) (shpS ho) (by omega) (by omega) (by decide) (by omega) ?_
      exact z_return dX0_setSlot_20 rfl (hQ _ _ ⟨rfl, (by unfold ss; first | rw [if_pos (by omega)] | rw [if_neg (by omega)])⟩)
set_option maxRecDepth 100000 in
set_option maxHeartbeats 4000000 in
theorem c_X0_clear {g : GG} {h : HH} {o : Nat} (ho : isC o) : CnV mX0_clear g [vr o] h (fun h' => h' = setc h (o + 1) (fun j => if j < 63 then 0 else h (o + 1) j)) := by
  refine cn_q (lv := [vr o, vx]) tX0_clear.1 rfl rfl (fun hR Q hQ => ?_)
  refine z_iconst dX0_clear_0 ?_
  refine z_istore_n dX0_clear_1 (by decide) rfl ?_
  have loop2 : ∀ (n : Nat) (k : Nat), (k ≤ 63) → 63 - k < n → Z mX0_clear g 2 [vr o, vi (k : Int)] [] (setc h (o + 1) (fun j => if j < k then 0 else h (o + 1) j)) Q := by
    intro n
    induction n with
    | zero => intro k hk hn; exact absurd hn (Nat.not_lt_zero _)
    | succ n ih2 =>
      intro k hk hn
      refine z_iload_n dX0_clear_2 rfl ?_
      refine z_aload_n dX0_clear_3 rfl ?_
      refine z_getR fX0_11 dX0_clear_4 (ltC ho) (shpC ho) rfl ?_
      refine z_alen dX0_clear_7 (ltS ho) (shpS ho) (by decide) ?_
      refine z_icmp_ge 24 dX0_clear_8 (by decide) (by omega) (by omega) (fun c8 => ?_) (fun c8 => ?_)
      · exact z_return dX0_clear_24 rfl (hQ _ _ ⟨rfl, (by rw [show k = 63 from by omega])⟩)
      · refine z_aload_n dX0_clear_11 rfl ?_
        refine z_getR fX0_11 dX0_clear_12 (ltC ho) (shpC ho) rfl ?_
        refine z_iload_n dX0_clear_15 rfl ?_
        refine z_iconst dX0_clear_16 ?_
        refine z_iastore dX0_clear_17 (ltS ho) (shpS ho) (by omega) (by omega) (by decide) (by omega) ?_
        rw [up_setc, clr_step]
        refine z_iinc dX0_clear_18 rfl (by decide) rfl ?_
        refine z_goto 2 dX0_clear_21 (by decide) ?_
        exact ih2 (k + 1) (by omega) (by omega)
  have e0 : setc h (o + 1) (fun j => if j < 0 then 0 else h (o + 1) j) = h := by simp [setc_self]
  have := loop2 _ 0 (by omega) (Nat.lt_succ_self _)
  rw [e0] at this
  exact this
set_option maxRecDepth 100000 in
set_option maxHeartbeats 4000000 in
theorem c_X0_saveTo {g : GG} {h : HH} {o : Nat} (ho : isC o) {b : Nat} (hbl : b < 50) (hb : shp b = (1, 63, [])) : CnV mX0_saveTo g [vr o, vr b] h (fun h' => h' = cpy h (o + 1) b 63) := by
  refine cn_q (lv := [vr o, vr b]) tX0_saveTo.1 rfl rfl (fun hR Q hQ => ?_)
  refine z_aload_n dX0_saveTo_0 rfl ?_
  refine z_ifnull dX0_saveTo_1 ?_
  refine z_aload_n dX0_saveTo_4 rfl ?_
  refine z_alen dX0_saveTo_5 hbl hb (by decide) ?_
  refine z_aload_n dX0_saveTo_6 rfl ?_
  refine z_getR fX0_11 dX0_saveTo_7 (ltC ho) (shpC ho) rfl ?_
  refine z_alen dX0_saveTo_10 (ltS ho) (shpS ho) (by decide) ?_
  refine z_icmp_ne 29 dX0_saveTo_11 (by decide) (by omega) (by omega) (fun c11 => ?_) (fun c11 => ?_)
  · omega
  · refine z_aload_n dX0_saveTo_14 rfl ?_
    refine z_getR fX0_11 dX0_saveTo_15 (ltC ho) (shpC ho) rfl ?_
    refine z_iconst dX0_saveTo_18 ?_
    refine z_aload_n dX0_saveTo_19 rfl ?_
    refine z_iconst dX0_saveTo_20 ?_
    refine z_aload_n dX0_saveTo_21 rfl ?_
    refine z_getR fX0_11 dX0_saveTo_22 (ltC ho) (shpC ho) rfl ?_
    refine z_alen dX0_saveTo_25 (ltS ho) (shpS ho) (by decide) ?_
    refine z_copy kX0_15 dX0_saveTo_26 (ltS ho) hbl (shpS ho) hb (by decide) (by decide) (by decide) ⟨by decide, by decide⟩ (Nat.le_of_ble_eq_true rfl) ?_
    exact z_return dX0_saveTo_29 rfl (hQ _ _ ⟨rfl, rfl⟩)
set_option maxRecDepth 100000 in
set_option maxHeartbeats 4000000 in
theorem c_X0_loadFrom {g : GG} {h : HH} {o : Nat} (ho : isC o) {b : Nat} (hbl : b < 50) (hb : shp b = (1, 63, [])) : CnV mX0_loadFrom g [vr o, vr b] h (fun h' => h' = cpy h b (o + 1) 63) := by
  refine cn_q (lv := [vr o, vr b]) tX0_loadFrom.1 rfl rfl (fun hR Q hQ => ?_)
  refine z_aload_n dX0_loadFrom_0 rfl ?_
  refine z_ifnull dX0_loadFrom_1 ?_
  refine z_aload_n dX0_loadFrom_4 rfl ?_
  refine z_alen dX0_loadFrom_5 hbl hb (by decide) ?_
  refine z_aload_n dX0_loadFrom_6 rfl ?_
  refine z_getR fX0_11 dX0_loadFrom_7 (ltC ho) (shpC ho) rfl ?_
  refine z_alen dX0_loadFrom_10 (ltS ho) (shpS ho) (by decide) ?_
  refine z_icmp_ne 29 dX0_loadFrom_11 (by decide) (by omega) (by omega) (fun c11 => ?_) (fun c11 => ?_)
  · omega
  · refine z_aload_n dX0_loadFrom_14 rfl ?_
    refine z_iconst dX0_loadFrom_15 ?_
    refine z_aload_n dX0_loadFrom_16 rfl ?_
    refine z_getR fX0_11 dX0_loadFrom_17 (ltC ho) (shpC ho) rfl ?_
    refine z_iconst dX0_loadFrom_20 ?_
    refine z_aload_n dX0_loadFrom_21 rfl ?_
    refine z_getR fX0_11 dX0_loadFrom_22 (ltC ho) (shpC ho) rfl ?_
    refine z_alen dX0_loadFrom_25 (ltS ho) (shpS ho) (by decide) ?_
    refine z_copy kX0_15 dX0_loadFrom_26 hbl (ltS ho) hb (shpS ho) (by decide) (by decide) (by decide) ⟨by decide, by decide⟩ (Nat.le_of_ble_eq_true rfl) ?_
    exact z_return dX0_loadFrom_29 rfl (hQ _ _ ⟨rfl, rfl⟩)
set_option maxRecDepth 100000 in
set_option maxHeartbeats 4000000 in
theorem c_X0_sizeOf {g : GG} {h : HH} {o : Nat} (ho : isC o) {d : Int} (hd : R32 d) : CeI mX0_sizeOf g [vr o, vi d] h (if 0 ≤ d ∧ d ≤ 2 then sl h o d else 0) := by
  refine cn_q (lv := [vr o, vi d]) tX0_sizeOf.1 rfl rfl (fun hR Q hQ => ?_)
  refine z_iload_n dX0_sizeOf_0 rfl ?_
  refine z_if_lt 17 dX0_sizeOf_1 (by decide) (by omega) (fun c1 => ?_) (fun c1 => ?_)
  · refine z_iconst dX0_sizeOf_17 ?_
    exact z_ireturn dX0_sizeOf_18 rfl (hQ _ _ ⟨_, rfl, (by first | (exfalso; omega) | rw [if_pos (by omega)] | rw [if_neg (by omega)]), rfl⟩)
  · refine z_iload_n dX0_sizeOf_4 rfl ?_
    refine z_iconst dX0_sizeOf_5 ?_
    refine z_icmp_gt 17 dX0_sizeOf_6 (by decide) (by omega) (by omega) (fun c6 => ?_) (fun c6 => ?_)
    · refine z_iconst dX0_sizeOf_17 ?_
      exact z_ireturn dX0_sizeOf_18 rfl (hQ _ _ ⟨_, rfl, (by first | (exfalso; omega) | rw [if_pos (by omega)] | rw [if_neg (by omega)]), rfl⟩)
    · refine z_aload_n dX0_sizeOf_9 rfl ?_
      refine z_iload_n dX0_sizeOf_10 rfl ?_
      refine z_callV_eI (M := mX0_sizeOf) [_] tX0_slot kX0_25 dX0_sizeOf_11 (rcvC ho) ⟨by decide, by decide⟩ rfl (Nat.le_of_ble_eq_true rfl) rfl (c_X0_slot ho (by omega)) ?_
      refine z_goto 18 dX0_sizeOf_14 (by decide) ?_
      exact z_ireturn dX0_sizeOf_18 rfl (hQ _ _ ⟨_, rfl, (by first | (exfalso; omega) | rw [if_pos (by omega)] | rw [if_neg (by omega)]), rfl⟩)
set_option maxRecDepth 100000 in
set_option maxHeartbeats 4000000 in
theorem c_X0_isThere {g : GG} {h : HH} {o : Nat} (ho : isC o) : CeI mX0_isThere g [vr o] h (bi (0 < sl h o 0)) := by
  refine cn_q (lv := [vr o]) tX0_isThere.1 rfl rfl (fun hR Q hQ => ?_)
  refine z_aload_n dX0_isThere_0 rfl ?_
  refine z_iconst dX0_isThere_1 ?_
  refine z_callV_eI (M := mX0_isThere) [_] tX0_sizeOf kX0_21 dX0_isThere_2 (rcvC ho) ⟨by decide, by decide⟩ rfl (Nat.le_of_ble_eq_true rfl) rfl (c_X0_sizeOf ho (by omega)) ?_
  have e4 : (if (0 : Int) ≤ 0 ∧ (0 : Int) ≤ 2 then sl h o 0 else 0) = sl h o 0 := by rw [if_pos (by omega)]
  have r4 := sl_r hR ho 0
  rw [e4]
  refine z_if_le 12 dX0_isThere_5 (by decide) (by omega) (fun c5 => ?_) (fun c5 => ?_)
  · refine z_iconst dX0_isThere_12 ?_
    exact z_zreturn dX0_isThere_13 rfl (by first | exact Or.inl rfl | exact Or.inr rfl | exact bi_01 _ | omega) (hQ _ _ ⟨_, rfl, (by first | (exfalso; omega) | exact bi_t (by omega) | exact bi_f (by omega)), rfl⟩)
  · refine z_iconst dX0_isThere_8 ?_
    refine z_goto 13 dX0_isThere_9 (by decide) ?_
    exact z_zreturn dX0_isThere_13 rfl (by first | exact Or.inl rfl | exact Or.inr rfl | exact bi_01 _ | omega) (hQ _ _ ⟨_, rfl, (by first | (exfalso; omega) | exact bi_t (by omega) | exact bi_f (by omega)), rfl⟩)
set_option maxRecDepth 100000 in
set_option maxHeartbeats 4000000 in
theorem c_X0_hasCell {g : GG} {h : HH} {o : Nat} (ho : isC o) {d c : Int} (hd : R32 d) (hc : R32 c) : CeI mX0_hasCell g [vr o, vi d, vi c] h (bi (0 ≤ c ∧ c < if 0 ≤ d ∧ d ≤ 2 then sl h o d else 0)) := by
  refine cn_q (lv := [vr o, vi d, vi c]) tX0_hasCell.1 rfl rfl (fun hR Q hQ => ?_)
  refine z_iload_n dX0_hasCell_0 rfl ?_
  refine z_aload_n dX0_hasCell_1 rfl ?_
  refine z_iload_n dX0_hasCell_2 rfl ?_
  refine z_callV_eI (M := mX0_hasCell) [_] tX0_sizeOf kX0_21 dX0_hasCell_3 (rcvC ho) ⟨by decide, by decide⟩ rfl (Nat.le_of_ble_eq_true rfl) rfl (c_X0_sizeOf ho (by omega)) ?_
  refine z_callN_eI (M := mX0_hasCell) [_, _] tX5_isWithin (by decide) dX0_hasCell_6 ⟨by decide, by decide⟩ rfl (Nat.le_of_ble_eq_true rfl) rfl (c_X5_isWithin (by omega) (by have := sl_r hR ho d; split <;> omega)) ?_
  exact z_zreturn dX0_hasCell_9 rfl (by first | exact Or.inl rfl | exact Or.inr rfl | exact bi_01 _ | omega) (hQ _ _ ⟨_, rfl, rfl, rfl⟩)
set_option maxRecDepth 100000 in
set_option maxHeartbeats 4000000 in
theorem c_X0_setPoints {g : GG} {h : HH} {o : Nat} (ho : isC o) {v : Int} (hv : R32 v) : CnV mX0_setPoints g [vr o, vi v] h (fun h' => h' = ss h o 0 v) := by
  refine cn_q (lv := [vr o, vi v]) tX0_setPoints.1 rfl rfl (fun hR Q hQ => ?_)
  refine z_aload_n dX0_setPoints_0 rfl ?_
  refine z_iconst dX0_setPoints_1 ?_
  refine z_iload_n dX0_setPoints_2 rfl ?_
  refine z_callV_V (M := mX0_setPoints) [_, _] tX0_setSlot kX0_32 dX0_setPoints_3 (rcvC ho) ⟨by decide, by decide⟩ rfl (Nat.le_of_ble_eq_true rfl) rfl (c_X0_setSlot ho (by omega) (by omega)) (fun h3 q3 => ?_)
  subst q3
  exact z_return dX0_setPoints_6 rfl (hQ _ _ ⟨rfl, rfl⟩)
set_option maxRecDepth 100000 in
set_option maxHeartbeats 4000000 in
theorem c_X0_fromOf {g : GG} {h : HH} {o : Nat} (ho : isC o) {e : Int} (he : SB e) : CeI mX0_fromOf g [vr o, vi e] h (sl h o (3 + e)) := by
  refine cn_q (lv := [vr o, vi e]) tX0_fromOf.1 rfl rfl (fun hR Q hQ => ?_)
  refine z_aload_n dX0_fromOf_0 rfl ?_
  refine z_iconst dX0_fromOf_1 ?_
  refine z_iload_n dX0_fromOf_2 rfl ?_
  refine z_iadd dX0_fromOf_3 ?_
  refine z_callV_eI (M := mX0_fromOf) [_] tX0_slot kX0_25 dX0_fromOf_4 (rcvC ho) ⟨by decide, by decide⟩ rfl (Nat.le_of_ble_eq_true rfl) rfl (c_X0_slot ho (by omega)) ?_
  exact z_ireturn dX0_fromOf_7 rfl (hQ _ _ ⟨_, rfl, rfl, rfl⟩)
set_option maxRecDepth 100000 in
set_option maxHeartbeats 4000000 in
theorem c_X0_toOf {g : GG} {h : HH} {o : Nat} (ho : isC o) {e : Int} (he : SB e) : CeI mX0_toOf g [vr o, vi e] h (sl h o (9 + e)) := by
  refine cn_q (lv := [vr o, vi e]) tX0_toOf.1 rfl rfl (fun hR Q hQ => ?_)
  refine z_aload_n dX0_toOf_0 rfl ?_
  refine z_bipush dX0_toOf_1 (by decide) ?_
  refine z_iload_n dX0_toOf_3 rfl ?_
  refine z_iadd dX0_toOf_4 ?_
  refine z_callV_eI (M := mX0_toOf) [_] tX0_slot kX0_25 dX0_toOf_5 (rcvC ho) ⟨by decide, by decide⟩ rfl (Nat.le_of_ble_eq_true rfl) rfl (c_X0_slot ho (by omega)) ?_
  exact z_ireturn dX0_toOf_8 rfl (hQ _ _ ⟨_, rfl, rfl, rfl⟩)
set_option maxRecDepth 100000 in
set_option maxHeartbeats 4000000 in
theorem c_X0_wordSize {g : GG} {h : HH} {o : Nat} (ho : isC o) {e : Int} (he : SB e) : CeI mX0_wordSize g [vr o, vi e] h (sl h o (25 + e)) := by
  refine cn_q (lv := [vr o, vi e]) tX0_wordSize.1 rfl rfl (fun hR Q hQ => ?_)
  refine z_aload_n dX0_wordSize_0 rfl ?_
  refine z_bipush dX0_wordSize_1 (by decide) ?_
  refine z_iload_n dX0_wordSize_3 rfl ?_
  refine z_iadd dX0_wordSize_4 ?_
  refine z_callV_eI (M := mX0_wordSize) [_] tX0_slot kX0_25 dX0_wordSize_5 (rcvC ho) ⟨by decide, by decide⟩ rfl (Nat.le_of_ble_eq_true rfl) rfl (c_X0_slot ho (by omega)) ?_
  exact z_ireturn dX0_wordSize_8 rfl (hQ _ _ ⟨_, rfl, rfl, rfl⟩)
set_option maxRecDepth 100000 in
set_option maxHeartbeats 4000000 in
theorem c_X0_weightOf {g : GG} {h : HH} {o : Nat} (ho : isC o) {d e : Int} (hd : R32 d) (he : SB e) : CeI mX0_weightOf g [vr o, vi d, vi e] h (sl h o ((if d = 1 then 15 else 21) + e)) := by
  refine cn_q (lv := [vr o, vi d, vi e]) tX0_weightOf.1 rfl rfl (fun hR Q hQ => ?_)
  refine z_aload_n dX0_weightOf_0 rfl ?_
  refine z_iload_n dX0_weightOf_1 rfl ?_
  refine z_iconst dX0_weightOf_2 ?_
  refine z_icmp_ne 11 dX0_weightOf_3 (by decide) (by omega) (by omega) (fun c3 => ?_) (fun c3 => ?_)
  · refine z_bipush dX0_weightOf_11 (by decide) ?_
    refine z_iload_n dX0_weightOf_13 rfl ?_
    refine z_iadd dX0_weightOf_14 ?_
    refine z_callV_eI (M := mX0_weightOf) [_] tX0_slot kX0_25 dX0_weightOf_15 (rcvC ho) ⟨by decide, by decide⟩ rfl (Nat.le_of_ble_eq_true rfl) rfl (c_X0_slot ho (by omega)) ?_
    exact z_ireturn dX0_weightOf_18 rfl (hQ _ _ ⟨_, rfl, (by first | (exfalso; omega) | rw [if_pos (by omega)] | rw [if_neg (by omega)]), rfl⟩)
  · refine z_bipush dX0_weightOf_6 (by decide) ?_
    refine z_goto 13 dX0_weightOf_8 (by decide) ?_
    refine z_iload_n dX0_weightOf_13 rfl ?_
    refine z_iadd dX0_weightOf_14 ?_
    refine z_callV_eI (M := mX0_weightOf) [_] tX0_slot kX0_25 dX0_weightOf_15 (rcvC ho) ⟨by decide, by decide⟩ rfl (Nat.le_of_ble_eq_true rfl) rfl (c_X0_slot ho (by omega)) ?_
    exact z_ireturn dX0_weightOf_18 rfl (hQ _ _ ⟨_, rfl, (by first | (exfalso; omega) | rw [if_pos (by omega)] | rw [if_neg (by omega)]), rfl⟩)
set_option maxRecDepth 100000 in
set_option maxHeartbeats 4000000 in
theorem c_X0_setWeight {g : GG} {h : HH} {o : Nat} (ho : isC o) {d e v : Int} (hd : R32 d) (he : SB e) (hv : R32 v) : CnV mX0_setWeight g [vr o, vi d, vi e, vi v] h (fun h' => h' = ss h o ((if d = 1 then 15 else 21) + e) v) := by
  refine cn_q (lv := [vr o, vi d, vi e, vi v]) tX0_setWeight.1 rfl rfl (fun hR Q hQ => ?_)
  refine z_aload_n dX0_setWeight_0 rfl ?_
  refine z_iload_n dX0_setWeight_1 rfl ?_
  refine z_iconst dX0_setWeight_2 ?_
  refine z_icmp_ne 11 dX0_setWeight_3 (by decide) (by omega) (by omega) (fun c3 => ?_) (fun c3 => ?_)
  · refine z_bipush dX0_setWeight_11 (by decide) ?_
    refine z_iload_n dX0_setWeight_13 rfl ?_
    refine z_iadd dX0_setWeight_14 ?_
    refine z_iload_n dX0_setWeight_15 rfl ?_
    refine z_callV_V (M := mX0_setWeight) [_, _] tX0_setSlot kX0_32 dX0_setWeight_16 (rcvC ho) ⟨by decide, by decide⟩ rfl (Nat.le_of_ble_eq_true rfl) rfl (c_X0_setSlot ho (by omega) (by omega)) (fun h16 q16 => ?_)
    subst q16
    exact z_return dX0_setWeight_19 rfl (hQ _ _ ⟨rfl, (by first | (exfalso; omega) | rw [if_pos (by omega)] | rw [if_neg (by omega)])⟩)
  · refine z_bipush dX0_setWeight_6 (by decide) ?_
    refine z_goto 13 dX0_setWeight_8 (by decide) ?_
    refine z_iload_n dX0_setWeight_13 rfl ?_
    refine z_iadd dX0_setWeight_14 ?_
    refine z_iload_n dX0_setWeight_15 rfl ?_
    refine z_callV_V (M := mX0_setWeight) [_, _] tX0_setSlot kX0_32 dX0_setWeight_16 (rcvC ho) ⟨by decide, by decide⟩ rfl (Nat.le_of_ble_eq_true rfl) rfl (c_X0_setSlot ho (by omega) (by omega)) (fun h16 q16 => ?_)
    subst q16
    exact z_return dX0_setWeight_19 rfl (hQ _ _ ⟨rfl, (by first | (exfalso; omega) | rw [if_pos (by omega)] | rw [if_neg (by omega)])⟩)
set_option maxRecDepth 100000 in
set_option maxHeartbeats 4000000 in
theorem c_X0_letterAt {g : GG} {h : HH} {o : Nat} (ho : isC o) {f k : Int} (hf : SB f) (hk : SB k) : CeI mX0_letterAt g [vr o, vi f, vi k] h (sl h o (29 + f * 4 + k)) := by
  refine cn_q (lv := [vr o, vi f, vi k]) tX0_letterAt.1 rfl rfl (fun hR Q hQ => ?_)
  refine z_aload_n dX0_letterAt_0 rfl ?_
  refine z_bipush dX0_letterAt_1 (by decide) ?_
  refine z_iload_n dX0_letterAt_3 rfl ?_
  refine z_iconst dX0_letterAt_4 ?_
  refine z_imul dX0_letterAt_5 ?_
  refine z_iadd dX0_letterAt_6 ?_
  refine z_iload_n dX0_letterAt_7 rfl ?_
  refine z_iadd dX0_letterAt_8 ?_
  refine z_callV_eI (M := mX0_letterAt) [_] tX0_slot kX0_25 dX0_letterAt_9 (rcvC ho) ⟨by decide, by decide⟩ rfl (Nat.le_of_ble_eq_true rfl) rfl (c_X0_slot ho (by omega)) ?_
  exact z_ireturn dX0_letterAt_12 rfl (hQ _ _ ⟨_, rfl, rfl, rfl⟩)
set_option maxRecDepth 100000 in
set_option maxHeartbeats 4000000 in
theorem c_X0_numberAt {g : GG} {h : HH} {o : Nat} (ho : isC o) {c e : Int} (hc : SB c) (he : SB e) : CeI mX0_numberAt g [vr o, vi c, vi e] h (sl h o (45 + c * 6 + e)) := by
  refine cn_q (lv := [vr o, vi c, vi e]) tX0_numberAt.1 rfl rfl (fun hR Q hQ => ?_)
  refine z_aload_n dX0_numberAt_0 rfl ?_
  refine z_bipush dX0_numberAt_1 (by decide) ?_
  refine z_iload_n dX0_numberAt_3 rfl ?_
  refine z_bipush dX0_numberAt_4 (by decide) ?_
  refine z_imul dX0_numberAt_6 ?_
  refine z_iadd dX0_numberAt_7 ?_
  refine z_iload_n dX0_numberAt_8 rfl ?_
  refine z_iadd dX0_numberAt_9 ?_
  refine z_callV_eI (M := mX0_numberAt) [_] tX0_slot kX0_25 dX0_numberAt_10 (rcvC ho) ⟨by decide, by decide⟩ rfl (Nat.le_of_ble_eq_true rfl) rfl (c_X0_slot ho (by omega)) ?_
  exact z_ireturn dX0_numberAt_13 rfl (hQ _ _ ⟨_, rfl, rfl, rfl⟩)
set_option maxRecDepth 100000 in
set_option maxHeartbeats 4000000 in
theorem c_X0_setNumber {g : GG} {h : HH} {o : Nat} (ho : isC o) {c e v : Int} (hc : SB c) (he : SB e) (hv : R32 v) : CnV mX0_setNumber g [vr o, vi c, vi e, vi v] h (fun h' => h' = ss h o (45 + c * 6 + e) v) := by
  refine cn_q (lv := [vr o, vi c, vi e, vi v]) tX0_setNumber.1 rfl rfl (fun hR Q hQ => ?_)
  refine z_aload_n dX0_setNumber_0 rfl ?_
  refine z_bipush dX0_setNumber_1 (by decide) ?_
  refine z_iload_n dX0_setNumber_3 rfl ?_
  refine z_bipush dX0_setNumber_4 (by decide) ?_
  refine z_imul dX0_setNumber_6 ?_
  refine z_iadd dX0_setNumber_7 ?_
  refine z_iload_n dX0_setNumber_8 rfl ?_
  refine z_iadd dX0_setNumber_9 ?_
  refine z_iload_n dX0_setNumber_10 rfl ?_
  refine z_callV_V (M := mX0_setNumber) [_, _] tX0_setSlot kX0_32 dX0_setNumber_11 (rcvC ho) ⟨by decide, by decide⟩ rfl (Nat.le_of_ble_eq_true rfl) rfl (c_X0_setSlot ho (by omega) (by omega)) (fun h11 q11 => ?_)
  subst q11
  exact z_return dX0_setNumber_14 rfl (hQ _ _ ⟨rfl, rfl⟩)

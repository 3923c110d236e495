theorem setPF_52 (h : HH) (s : PF) : setPF h s 5 2 = s.1 := by rw [setPF_5]; rfl
theorem setPF_53 (h : HH) (s : PF) : setPF h s 5 3 = s.2 := by rw [setPF_5]; rfl
theorem setPF_51 (h : HH) (s : PF) : setPF h s 5 1 = h 5 1 := by rw [setPF_5]; rfl
theorem TB_setPF {h : HH} (hB : TB h) (s : PF) : TB (setPF h s) := fun i hi => by rw [setPF_ne h s (by decide)]; exact hB i hi
/-- what reading leaves as it was -/
def FR5 (h h' : HH) : Prop := (∀ k, k ≠ 4 → k ≠ 5 → k ≠ 7 → k ≠ 8 → h' k = h k) ∧ h' 5 1 = h 5 1
theorem FR5_refl (h : HH) : FR5 h h := ⟨fun _ _ _ _ _ => rfl, rfl⟩
theorem FR5_trans {a b c : HH} (h1 : FR5 a b) (h2 : FR5 b c) : FR5 a c := ⟨fun k k1 k2 k3 k4 => (h2.1 k k1 k2 k3 k4).trans (h1.1 k k1 k2 k3 k4), h2.2.trans h1.2⟩
theorem FR5_PF (h : HH) (s : PF) : FR5 h (setPF h s) := ⟨fun k _ k2 _ _ => setPF_ne h s k2, setPF_51 h s⟩
theorem FR5_setc (h : HH) (f : Nat → Int) : FR5 h (setc h 4 f) := ⟨fun k k1 _ _ _ => setc_ne h f k1, by rw [setc_ne h f (by decide)]⟩
theorem FR5_tk {h h' : HH} (F : FR5 h h') : tkT h' = tkT h := by
  funext i; unfold tkT tkI; rw [F.2, F.1 6 (by decide) (by decide) (by decide) (by decide)]
theorem FR5_TB {h h' : HH} (F : FR5 h h') (hB : TB h) : TB h' := fun i hi => by
  rw [F.1 6 (by decide) (by decide) (by decide) (by decide)]; exact hB i hi
theorem tkT_ge {h : HH} {n i : Nat} (hn : h 5 1 = n) (hi : n ≤ i) : tkT h i = -1 := by
  unfold tkT tkI; rw [if_neg (by omega)]
theorem tkS_le {h : HH} {n : Nat} (hn : h 5 1 = n) {c : Int} (hc : 0 ≤ c) {s : PF} (hs : s.1 ≤ n) : (tkS (tkT h) c s).1 ≤ n := by
  unfold tkS; split
  · exact hs
  · split
    · rename_i e
      rcases Nat.lt_or_ge s.1 n with q | q
      · exact q
      · rw [tkT_ge hn q] at e; omega
    · exact hs
theorem tkD_lep {h : HH} {n : Nat} (hn : h 5 1 = n) {lo hi : Int} {s : PF} (hs : s.1 ≤ n) : (tkD (tkT h) lo hi s).2.1 ≤ n := by
  unfold tkD; split
  · exact hs
  · split
    · exact hs
    · rename_i e
      split
      · exact hs
      · rcases Nat.lt_or_ge s.1 n with q | q
        · exact q
        · rw [tkT_ge hn q] at e; omega
theorem WB_add {σ : SG} (W : WB σ) (hE : sE σ < 6) (a b w : Nat) : WB (addE σ a b w) := ⟨W.1, hE, W.2.2.1, W.2.2.2⟩
theorem WB_addF {σ : SG} (W : WB σ) (hF : sF σ < 4) (w n : Nat) (hn : n ≤ 4) (le : Nat → Nat) (sg : Nat → Bool) : WB (addF σ w n le sg) := ⟨W.1, W.2.1, hF, fun f hf => by
  show (if f = sF σ then n else swl σ f) ≤ 4
  split
  · exact hn
  · have hf : f < sF σ + 1 := hf
    exact W.2.2.2 f (by omega)⟩
theorem edg_bk {e : Nat} {b : Bool} (he : e < 26) : decide (cod e b ≤ 90) = b := by
  unfold cod; cases b <;> simp <;> omega
theorem RW_push {h : HH} {n : Nat} {le : Nat → Nat} {sg : Nat → Bool} (w : RW h n le sg) (hn : n < 4) {e : Nat} {b : Bool} (he : e < 26) : RW (up (up h 8 n (cod e b)) 7 1 ((n : Int) + 1)) (n + 1) (fun k => if k = n then (edg (cod e b)).toNat else le k) (fun k => if k = n then decide (cod e b ≤ 90) else sg k) := by
  obtain ⟨w1, w2, w3⟩ := w
  refine ⟨by rw [up_same]; omega, by omega, fun k hk => ?_⟩
  rw [up_ne _ _ _ (by decide), up_at]
  by_cases q : k = n
  · subst q
    simp only [if_pos]
    rw [edg_bk he, cod_edg b he]
    simp
  · simp only [if_neg q]
    exact w3 k (by omega)
theorem pLets_stop {σ : SG} {tk : Nat → Int} {L : PW} (h : ¬ (L.1.2 = 0 ∧ 0 ≤ edg (tk L.1.1))) (n : Nat) : pLets σ tk n L = L := by
  cases n with
  | zero => rfl
  | succ n => unfold pLets; rw [if_neg h]
theorem pLets_go {σ : SG} {tk : Nat → Int} {L : PW} (h : L.1.2 = 0 ∧ 0 ≤ edg (tk L.1.1)) (n : Nat) : pLets σ tk (n + 1) L = pLets σ tk n (pLet σ tk L) := by
  show (if _ then _ else _) = _
  rw [if_pos h]
theorem pLet_t {σ : SG} {tk : Nat → Int} {s : PW} (h : apOK σ s.2.1 s.2.2.1 s.2.2.2 (tk s.1.1)) : pLet σ tk s = ((s.1.1 + 1, 0), s.2.1 + 1, (fun k => if k = s.2.1 then (edg (tk s.1.1)).toNat else s.2.2.1 k), (fun k => if k = s.2.1 then decide (tk s.1.1 ≤ 90) else s.2.2.2 k)) := if_pos h
theorem pLet_f {σ : SG} {tk : Nat → Int} {s : PW} (h : ¬ apOK σ s.2.1 s.2.2.1 s.2.2.2 (tk s.1.1)) : pLet σ tk s = ((s.1.1, 2), s.2) := if_neg h
/-- what sewing leaves as it was -/
def FRw (h h' : HH) : Prop := (∀ k, k ≠ 5 → k ≠ 7 → k ≠ 8 → h' k = h k) ∧ h' 5 1 = h 5 1
theorem FRw_5 {h h' : HH} (F : FRw h h') : FR5 h h' := ⟨fun k _ k2 k3 k4 => F.1 k k2 k3 k4, F.2⟩
theorem FRw_refl (h : HH) : FRw h h := ⟨fun _ _ _ _ => rfl, rfl⟩
theorem FRw_trans {a b c : HH} (h1 : FRw a b) (h2 : FRw b c) : FRw a c := ⟨fun k k2 k3 k4 => (h2.1 k k2 k3 k4).trans (h1.1 k k2 k3 k4), h2.2.trans h1.2⟩
theorem FRw_PF (h : HH) (s : PF) : FRw h (setPF h s) := ⟨fun k k2 _ _ => setPF_ne h s k2, setPF_51 h s⟩
theorem FRw_push (h : HH) (n : Nat) (c v : Int) : FRw h (up (up h 8 n c) 7 1 v) := ⟨fun k k2 k3 k4 => by rw [up_ne _ _ _ k3, up_ne _ _ _ k4], by rw [up_ne _ _ _ (by decide), up_ne _ _ _ (by decide)]⟩
theorem FRw_up5 (h : HH) {j : Nat} (hj : j ≠ 1) (v : Int) : FRw h (up h 5 j v) := ⟨fun k k2 _ _ => up_ne _ _ _ k2, by rw [up_at]; simp [Ne.symm hj]⟩
theorem FRw_clr (h : HH) : FRw h (up h 7 1 0) := ⟨fun k _ k3 _ => up_ne _ _ _ k3, by rw [up_ne _ _ _ (by decide)]⟩
theorem RW_keep {h h' : HH} {n : Nat} {le : Nat → Nat} {sg : Nat → Bool} (w : RW h n le sg) (h7 : h' 7 = h 7) (h8 : h' 8 = h 8) : RW h' n le sg := by
  obtain ⟨w1, w2, w3⟩ := w
  exact ⟨by rw [h7]; exact w1, w2, fun k hk => by rw [h8]; exact w3 k hk⟩
theorem tkD_pt (tk : Nat → Int) {lo hi : Int} (s : PF) : (tkD tk lo hi s).1 = 0 ∨ ((tkD tk lo hi s).1 : Int) ≤ hi := by
  unfold tkD; split
  · exact Or.inl rfl
  · split
    · exact Or.inl rfl
    · split
      · exact Or.inl rfl
      · right; simp; omega
set_option maxRecDepth 100000 in
set_option maxHeartbeats 4000000 in
theorem c_X3_readEdge {g : GG} {h : HH} {s : PF} {n : Nat} (hn : h 5 1 = n) (hn9 : n ≤ 90) (hp : h 5 2 = s.1) (hf : h 5 3 = s.2) (hs : s.1 ≤ n) (hB : TB h) (h0 : s.2 = 0) {σ : SG} (W : WB σ) (C : RC (h 4) σ) : CnV mX3_readEdge g [vr 5, vr 3] h (fun h' => FR5 h h' ∧ h' 5 2 = (pEdge (tkT h) (s, σ)).1.1 ∧ h' 5 3 = (pEdge (tkT h) (s, σ)).1.2 ∧ RC (h' 4) (pEdge (tkT h) (s, σ)).2) := by
  refine cn_q (lv := [vr 5, vr 3, vx, vx, vx]) tX3_readEdge.1 rfl rfl (fun hR Q hQ => ?_)
  have w1 := W.1
  have w2 := W.2.1
  have w3 := W.2.2.1
  have C4 : ∀ t, RC ((setPF h t) (3 + 1)) σ := fun t => by rw [show 3 + 1 = 4 from rfl, setPF_ne h t (by decide)]; exact C
  refine z_aload_n dX3_readEdge_0 rfl ?_
  refine z_iconst dX3_readEdge_1 ?_
  refine z_callV_eI (M := mX3_readEdge) [_] tX0_sizeOf kX3_68 dX3_readEdge_2 ⟨by decide, rfl, _, _, rfl⟩ ⟨by decide, by decide⟩ rfl (Nat.le_of_ble_eq_true rfl) rfl (s_X0_sizeE isC3 C) ?_
  refine z_bipush dX3_readEdge_5 (by decide) ?_
  refine z_icmp_lt 16 dX3_readEdge_7 (by decide) (by omega) (by omega) (fun c7 => ?_) (fun c7 => ?_)
  · refine z_aload_n dX3_readEdge_16 rfl ?_
    refine z_bipush dX3_readEdge_17 (by decide) ?_
    refine z_callV_V (M := mX3_readEdge) [_] tX3_takeSign kX3_49 dX3_readEdge_19 ⟨by decide, rfl, _, _, rfl⟩ ⟨by decide, by decide⟩ rfl (Nat.le_of_ble_eq_true rfl) rfl (c_X3_takeSign hp hf (by omega) (by decide)) (fun h19 q19 => ?_)
    subst q19
    have bs1 := tkS_le hn (c := 101) (by decide) (s := s) (by omega)
    obtain ⟨s1, es1⟩ : ∃ x, x = tkS (tkT h) 101 s := ⟨_, rfl⟩
    rw [← es1] at bs1 ⊢
    refine z_aload_n dX3_readEdge_22 rfl ?_
    refine z_iconst dX3_readEdge_23 ?_
    refine z_aload_n dX3_readEdge_24 rfl ?_
    refine z_iconst dX3_readEdge_25 ?_
    refine z_callV_eI (M := mX3_readEdge) [_] tX0_sizeOf kX3_68 dX3_readEdge_26 ⟨by decide, rfl, _, _, rfl⟩ ⟨by decide, by decide⟩ rfl (Nat.le_of_ble_eq_true rfl) rfl (s_X0_sizeP isC3 (C4 _)) ?_
    refine z_iconst dX3_readEdge_29 ?_
    refine z_isub dX3_readEdge_30 ?_
    refine z_callV_I (M := mX3_readEdge) [_, _] tX3_takeDigit kX3_53 dX3_readEdge_31 ⟨by decide, rfl, _, _, rfl⟩ ⟨by decide, by decide⟩ rfl (Nat.le_of_ble_eq_true rfl) rfl (c_X3_takeDigit (setPF_52 _ s1) (setPF_53 _ s1) (by omega) (TB_setPF hB _) (by omega) (by omega)) (fun z31 h31 q31 => ?_)
    obtain ⟨q1, q2⟩ := q31
    subst q1 q2
    rw [tkT_setPF, setPF_set]
    have ba := tkD_lep hn (lo := 0) (hi := ((sP σ : Int) - 1)) (s := s1) (by omega)
    have da := tkD_n (tkT h) (lo := 0) (hi := ((sP σ : Int) - 1)) s1
    obtain ⟨a, ea⟩ : ∃ x, x = tkD (tkT h) 0 ((sP σ : Int) - 1) s1 := ⟨_, rfl⟩
    rw [← ea] at ba da ⊢
    refine z_istore_n dX3_readEdge_34 (by decide) rfl ?_
    refine z_aload_n dX3_readEdge_35 rfl ?_
    refine z_iconst dX3_readEdge_36 ?_
    refine z_aload_n dX3_readEdge_37 rfl ?_
    refine z_iconst dX3_readEdge_38 ?_
    refine z_callV_eI (M := mX3_readEdge) [_] tX0_sizeOf kX3_68 dX3_readEdge_39 ⟨by decide, rfl, _, _, rfl⟩ ⟨by decide, by decide⟩ rfl (Nat.le_of_ble_eq_true rfl) rfl (s_X0_sizeP isC3 (C4 _)) ?_
    refine z_iconst dX3_readEdge_42 ?_
    refine z_isub dX3_readEdge_43 ?_
    refine z_callV_I (M := mX3_readEdge) [_, _] tX3_takeDigit kX3_53 dX3_readEdge_44 ⟨by decide, rfl, _, _, rfl⟩ ⟨by decide, by decide⟩ rfl (Nat.le_of_ble_eq_true rfl) rfl (c_X3_takeDigit (setPF_52 _ a.2) (setPF_53 _ a.2) (by omega) (TB_setPF hB _) (by omega) (by omega)) (fun z44 h44 q44 => ?_)
    obtain ⟨q1, q2⟩ := q44
    subst q1 q2
    rw [tkT_setPF, setPF_set]
    have bb := tkD_lep hn (lo := 0) (hi := ((sP σ : Int) - 1)) (s := a.2) (by omega)
    have db := tkD_n (tkT h) (lo := 0) (hi := ((sP σ : Int) - 1)) a.2
    obtain ⟨b, eb⟩ : ∃ x, x = tkD (tkT h) 0 ((sP σ : Int) - 1) a.2 := ⟨_, rfl⟩
    rw [← eb] at bb db ⊢
    refine z_istore_n dX3_readEdge_47 (by decide) rfl ?_
    refine z_aload_n dX3_readEdge_48 rfl ?_
    refine z_iconst dX3_readEdge_49 ?_
    refine z_iconst dX3_readEdge_50 ?_
    refine z_callV_I (M := mX3_readEdge) [_, _] tX3_takeDigit kX3_53 dX3_readEdge_51 ⟨by decide, rfl, _, _, rfl⟩ ⟨by decide, by decide⟩ rfl (Nat.le_of_ble_eq_true rfl) rfl (c_X3_takeDigit (setPF_52 _ b.2) (setPF_53 _ b.2) (by omega) (TB_setPF hB _) (by omega) (by omega)) (fun z51 h51 q51 => ?_)
    obtain ⟨q1, q2⟩ := q51
    subst q1 q2
    rw [tkT_setPF, setPF_set]
    have bw := tkD_lep hn (lo := 1) (hi := 3) (s := b.2) (by omega)
    have dw := tkD_n (tkT h) (lo := 1) (hi := 3) b.2
    have kw := tkD_le (tkT h) (lo := 1) (hi := 3) b.2 (by decide)
    obtain ⟨w, ew⟩ : ∃ x, x = tkD (tkT h) 1 3 b.2 := ⟨_, rfl⟩
    rw [← ew] at bw dw kw ⊢
    refine z_istore dX3_readEdge_54 (by decide) rfl ?_
    refine z_aload_n dX3_readEdge_56 rfl ?_
    refine z_bipush dX3_readEdge_57 (by decide) ?_
    refine z_callV_V (M := mX3_readEdge) [_] tX3_takeSign kX3_49 dX3_readEdge_59 ⟨by decide, rfl, _, _, rfl⟩ ⟨by decide, by decide⟩ rfl (Nat.le_of_ble_eq_true rfl) rfl (c_X3_takeSign (setPF_52 _ w.2) (setPF_53 _ w.2) (by omega) (by decide)) (fun h59 q59 => ?_)
    subst q59
    rw [tkT_setPF, setPF_set]
    have bt := tkS_le hn (c := 59) (by decide) (s := w.2) (by omega)
    obtain ⟨t, et⟩ : ∃ x, x = tkS (tkT h) 59 w.2 := ⟨_, rfl⟩
    rw [← et] at bt ⊢
    refine z_aload_n dX3_readEdge_62 rfl ?_
    refine z_getI fX3_22 dX3_readEdge_63 (by decide) rfl rfl (fun r63 => ?_)
    refine z_if_ne 77 dX3_readEdge_66 (by decide) (by omega) (fun c66 => ?_) (fun c66 => ?_)
    · rw [setPF_53] at c66
      exact z_return dX3_readEdge_77 rfl (hQ _ _ ⟨rfl, (by
  have e1 : pEdge (tkT h) (s, σ) = (t, σ) := by unfold pEdge; rw [if_neg (show ¬ 6 ≤ sE σ by omega)]; dsimp only; rw [← es1, ← ea, ← eb, ← ew, ← et, if_neg (by omega)]
  rw [e1]
  exact ⟨FR5_PF h t, setPF_52 h t, setPF_53 h t, C4 t⟩)⟩)
    · rw [setPF_53] at c66
      have a5 : a.1 < 6 := by have q1 := tkD_pt (tkT h) (lo := 0) (hi := (sP σ : Int) - 1) s1; rw [← ea] at q1; omega
      have b5 : b.1 < 6 := by have q1 := tkD_pt (tkT h) (lo := 0) (hi := (sP σ : Int) - 1) a.2; rw [← eb] at q1; omega
      refine z_aload_n dX3_readEdge_69 rfl ?_
      refine z_iload_n dX3_readEdge_70 rfl ?_
      refine z_iload_n dX3_readEdge_71 rfl ?_
      refine z_iload dX3_readEdge_72 rfl ?_
      refine z_callV_V (M := mX3_readEdge) [_, _, _] tX0_addEdge kX3_71 dX3_readEdge_74 ⟨by decide, rfl, _, _, rfl⟩ ⟨by decide, by decide⟩ rfl (Nat.le_of_ble_eq_true rfl) rfl (c_X0_addEdge isC3 W (C4 _) (a := a.1) (b := b.1) (w := w.1) (by omega) (by omega) (by omega) (by omega)) (fun h74 q74 => ?_)
      exact z_return dX3_readEdge_77 rfl (hQ _ _ ⟨rfl, (by
  obtain ⟨f', q1, q2⟩ := q74
  have e1 : pEdge (tkT h) (s, σ) = (t, addE σ a.1 b.1 w.1) := by unfold pEdge; rw [if_neg (show ¬ 6 ≤ sE σ by omega)]; dsimp only; rw [← es1, ← ea, ← eb, ← ew, ← et, if_pos (by omega)]
  rw [e1, q1]
  exact ⟨FR5_trans (FR5_PF h t) (FR5_setc _ f'), by rw [setc_ne _ _ (by decide)]; exact setPF_52 h t, by rw [setc_ne _ _ (by decide)]; exact setPF_53 h t, by rw [setc_at]; exact q2⟩)⟩)
  · refine z_aload_n dX3_readEdge_10 rfl ?_
    refine z_iconst dX3_readEdge_11 ?_
    refine z_putI pX3_22 dX3_readEdge_12 (by decide) rfl rfl (by omega) ?_
    exact z_return dX3_readEdge_15 rfl (hQ _ _ ⟨rfl, ⟨FRw_5 (FRw_up5 h (by decide) 3), by rw [up_at]; show h 5 2 = _; rw [hp]; unfold pEdge; rw [if_pos (show 6 ≤ sE σ by omega)], by rw [up_same]; unfold pEdge; rw [if_pos (show 6 ≤ sE σ by omega)]; rfl, by rw [up_ne _ _ _ (by decide)]; unfold pEdge; rw [if_pos (show 6 ≤ sE σ by omega)]; exact C⟩⟩)

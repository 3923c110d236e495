theorem setPF_52 (h : HH) (s : PF) : setPF h s 5 2 = s.1 := by rw [setPF_5]; rfl
theorem setPF_53 (h : HH) (s : PF) : setPF h s 5 3 = s.2 := by rw [setPF_5]; rfl
theorem setPF_51 (h : HH) (s : PF) : setPF h s 5 1 = h 5 1 := by rw [setPF_5]; rfl
theorem TB_setPF {h : HH} (hB : TB h) (s : PF) : TB (setPF h s) := fun i hi => by rw [setPF_ne h s (by decide)]; exact hB i hi
/-- what reading leaves as it was -/
def FR5 (h h' : HH) : Prop := (∀ k, k ≠ 4 → k ≠ 5 → k ≠ 7 → k ≠ 8 → h' k = h k) ∧ h' 5 1 = h 5 1
theorem FR5_refl (h : HH) : FR5 h h := ⟨fun _ _ _ _ _ => rfl, rfl⟩
theorem FR5_trans {a b c : HH} (h1 : FR5 a b) (h2 : FR5 b c) : FR5 a c := ⟨fun k k1 k2 k3 k4 => (h2.1 k k1 k2 k3 k4).trans (h1.1 k k1 k2 k3 k4), h2.2.trans h1.2⟩
theorem FR5_PF (h : HH) (s : PF) : FR5 h (setPF h s) := ⟨fun k _ k2 _ _ => setPF_ne h s k2, setPF_51 h s⟩
theorem FR5_setc (h : HH) (f : Nat → Int) : FR5 h (setc h 4 f) := ⟨fun k k1 _ _ _ => setc_ne h f k1, by rw [setc_ne h f (by decide)]⟩
theorem FR5_tk {h h' : HH} (F : FR5 h h') : tkT h' = tkT h := by
  funext i; unfold tkT tkI; rw [F.2, F.1 6 (by decide) (by decide) (by decide) (by decide)]
theorem FR5_TB {h h' : HH} (F : FR5 h h') (hB : TB h) : TB h' := fun i hi => by
  rw [F.1 6 (by decide) (by decide) (by decide) (by decide)]; exact hB i hi
theorem tkT_ge {h : HH} {n i : Nat} (hn : h 5 1 = n) (hi : n ≤ i) : tkT h i = -1 := by
  unfold tkT tkI; rw [if_neg (by omega)]
theorem tkS_le {h : HH} {n : Nat} (hn : h 5 1 = n) {c : Int} (hc : 0 ≤ c) {s : PF} (hs : s.1 ≤ n) : (tkS (tkT h) c s).1 ≤ n := by
  unfold tkS; split
  · exact hs
  · split
    · rename_i e
      rcases Nat.lt_or_ge s.1 n with q | q
      · exact q
      · rw [tkT_ge hn q] at e; omega
    · exact hs
theorem tkD_lep {h : HH} {n : Nat} (hn : h 5 1 = n) {lo hi : Int} {s : PF} (hs : s.1 ≤ n) : (tkD (tkT h) lo hi s).2.1 ≤ n := by
  unfold tkD; split
  · exact hs
  · split
    · exact hs
    · rename_i e
      split
      · exact hs
      · rcases Nat.lt_or_ge s.1 n with q | q
        · exact q
        · rw [tkT_ge hn q] at e; omega
theorem WB_add {σ : SG} (W : WB σ) (hE : sE σ < 6) (a b w : Nat) : WB (addE σ a b w) := ⟨W.1, hE, W.2.2.1, W.2.2.2⟩
theorem WB_addF {σ : SG} (W : WB σ) (hF : sF σ < 4) (w n : Nat) (hn : n ≤ 4) (le : Nat → Nat) (sg : Nat → Bool) : WB (addF σ w n le sg) := ⟨W.1, W.2.1, hF, fun f hf => by
  show (if f = sF σ then n else swl σ f) ≤ 4
  split
  · exact hn
  · have hf : f < sF σ + 1 := hf
    exact W.2.2.2 f (by omega)⟩
theorem edg_bk {e : Nat} {b : Bool} (he : e < 26) : decide (cod e b ≤ 90) = b := by
  unfold cod; cases b <;> simp <;> omega
theorem RW_push {h : HH} {n : Nat} {le : Nat → Nat} {sg : Nat → Bool} (w : RW h n le sg) (hn : n < 4) {e : Nat} {b : Bool} (he : e < 26) : RW (up (up h 8 n (cod e b)) 7 1 ((n : Int) + 1)) (n + 1) (fun k => if k = n then (edg (cod e b)).toNat else le k) (fun k => if k = n then decide (cod e b ≤ 90) else sg k) := by
  obtain ⟨w1, w2, w3⟩ := w
  refine ⟨by rw [up_same]; omega, by omega, fun k hk => ?_⟩
  rw [up_ne _ _ _ (by decide), up_at]
  by_cases q : k = n
  · subst q
    simp only [if_pos]
    rw [edg_bk he, cod_edg b he]
    simp
  · simp only [if_neg q]
    exact w3 k (by omega)
theorem pLets_stop {σ : SG} {tk : Nat → Int} {L : PW} (h : ¬ (L.1.2 = 0 ∧ 0 ≤ edg (tk L.1.1))) (n : Nat) : pLets σ tk n L = L := by
  cases n with
  | zero => rfl
  | succ n => unfold pLets; rw [if_neg h]
theorem pLets_go {σ : SG} {tk : Nat → Int} {L : PW} (h : L.1.2 = 0 ∧ 0 ≤ edg (tk L.1.1)) (n : Nat) : pLets σ tk (n + 1) L = pLets σ tk n (pLet σ tk L) := by
  show (if _ then _ else _) = _
  rw [if_pos h]
theorem pLet_t {σ : SG} {tk : Nat → Int} {s : PW} (h : apOK σ s.2.1 s.2.2.1 s.2.2.2 (tk s.1.1)) : pLet σ tk s = ((s.1.1 + 1, 0), s.2.1 + 1, (fun k => if k = s.2.1 then (edg (tk s.1.1)).toNat else s.2.2.1 k), (fun k => if k = s.2.1 then decide (tk s.1.1 ≤ 90) else s.2.2.2 k)) := if_pos h
theorem pLet_f {σ : SG} {tk : Nat → Int} {s : PW} (h : ¬ apOK σ s.2.1 s.2.2.1 s.2.2.2 (tk s.1.1)) : pLet σ tk s = ((s.1.1, 2), s.2) := if_neg h
/-- what sewing leaves as it was -/
def FRw (h h' : HH) : Prop := (∀ k, k ≠ 5 → k ≠ 7 → k ≠ 8 → h' k = h k) ∧ h' 5 1 = h 5 1
theorem FRw_5 {h h' : HH} (F : FRw h h') : FR5 h h' := ⟨fun k _ k2 k3 k4 => F.1 k k2 k3 k4, F.2⟩
theorem FRw_refl (h : HH) : FRw h h := ⟨fun _ _ _ _ => rfl, rfl⟩
theorem FRw_trans {a b c : HH} (h1 : FRw a b) (h2 : FRw b c) : FRw a c := ⟨fun k k2 k3 k4 => (h2.1 k k2 k3 k4).trans (h1.1 k k2 k3 k4), h2.2.trans h1.2⟩
theorem FRw_PF (h : HH) (s : PF) : FRw h (setPF h s) := ⟨fun k k2 _ _ => setPF_ne h s k2, setPF_51 h s⟩
theorem FRw_push (h : HH) (n : Nat) (c v : Int) : FRw h (up (up h 8 n c) 7 1 v) := ⟨fun k k2 k3 k4 => by rw [up_ne _ _ _ k3, up_ne _ _ _ k4], by rw [up_ne _ _ _ (by decide), up_ne _ _ _ (by decide)]⟩
theorem FRw_up5 (h : HH) {j : Nat} (hj : j ≠ 1) (v : Int) : FRw h (up h 5 j v) := ⟨fun k k2 _ _ => up_ne _ _ _ k2, by rw [up_at]; simp [Ne.symm hj]⟩
theorem FRw_clr (h : HH) : FRw h (up h 7 1 0) := ⟨fun k _ k3 _ => up_ne _ _ _ k3, by rw [up_ne _ _ _ (by decide)]⟩
theorem RW_keep {h h' : HH} {n : Nat} {le : Nat → Nat} {sg : Nat → Bool} (w : RW h n le sg) (h7 : h' 7 = h 7) (h8 : h' 8 = h 8) : RW h' n le sg := by
  obtain ⟨w1, w2, w3⟩ := w
  exact ⟨by rw [h7]; exact w1, w2, fun k hk => by rw [h8]; exact w3 k hk⟩
theorem tkD_pt (tk : Nat → Int) {lo hi : Int} (s : PF) : (tkD tk lo hi s).1 = 0 ∨ ((tkD tk lo hi s).1 : Int) ≤ hi := by
  unfold tkD; split
  · exact Or.inl rfl
  · split
    · exact Or.inl rfl
    · split
      · exact Or.inl rfl
      · right; simp; omega
theorem edg_b (c : Int) : -1 ≤ edg c ∧ edg c ≤ 25 := by unfold edg; split <;> (try split) <;> omega
set_option maxRecDepth 100000 in
set_option maxHeartbeats 4000000 in
theorem c_X3_readEdge {g : GG} {h : HH} {s : PF} {n : Nat} (hn : h 5 1 = n) (hn9 : n ≤ 90) (hp : h 5 2 = s.1) (hf : h 5 3 = s.2) (hs : s.1 ≤ n) (hB : TB h) (h0 : s.2 = 0) {σ : SG} (W : WB σ) (C : RC (h 4) σ) : CnV mX3_readEdge g [vr 5, vr 3] h (fun h' => FR5 h h' ∧ h' 5 2 = (pEdge (tkT h) (s, σ)).1.1 ∧ h' 5 3 = (pEdge (tkT h) (s, σ)).1.2 ∧ RC (h' 4) (pEdge (tkT h) (s, σ)).2) := by
  refine cn_q (lv := [vr 5, vr 3, vx, vx, vx]) tX3_readEdge.1 rfl rfl (fun hR Q hQ => ?_)
  have w1 := W.1
  have w2 := W.2.1
  have w3 := W.2.2.1
  have C4 : ∀ t, RC ((setPF h t) (3 + 1)) σ := fun t => by rw [show 3 + 1 = 4 from rfl, setPF_ne h t (by decide)]; exact C
  refine z_aload_n dX3_readEdge_0 rfl ?_
  refine z_iconst dX3_readEdge_1 ?_
  refine z_callV_eI (M := mX3_readEdge) [_] tX0_sizeOf kX3_68 dX3_readEdge_2 ⟨by decide, rfl, _, _, rfl⟩ ⟨by decide, by decide⟩ rfl (Nat.le_of_ble_eq_true rfl) rfl (s_X0_sizeE isC3 C) ?_
  refine z_bipush dX3_readEdge_5 (by decide) ?_
  refine z_icmp_lt 16 dX3_readEdge_7 (by decide) (by omega) (by omega) (fun c7 => ?_) (fun c7 => ?_)
  · refine z_aload_n dX3_readEdge_16 rfl ?_
    refine z_bipush dX3_readEdge_17 (by decide) ?_
    refine z_callV_V (M := mX3_readEdge) [_] tX3_takeSign kX3_49 dX3_readEdge_19 ⟨by decide, rfl, _, _, rfl⟩ ⟨by decide, by decide⟩ rfl (Nat.le_of_ble_eq_true rfl) rfl (c_X3_takeSign hp hf (by omega) (by decide)) (fun h19 q19 => ?_)
    subst q19
    have bs1 := tkS_le hn (c := 101) (by decide) (s := s) (by omega)
    obtain ⟨s1, es1⟩ : ∃ x, x = tkS (tkT h) 101 s := ⟨_, rfl⟩
    rw [← es1] at bs1 ⊢
    refine z_aload_n dX3_readEdge_22 rfl ?_
    refine z_iconst dX3_readEdge_23 ?_
    refine z_aload_n dX3_readEdge_24 rfl ?_
    refine z_iconst dX3_readEdge_25 ?_
    refine z_callV_eI (M := mX3_readEdge) [_] tX0_sizeOf kX3_68 dX3_readEdge_26 ⟨by decide, rfl, _, _, rfl⟩ ⟨by decide, by decide⟩ rfl (Nat.le_of_ble_eq_true rfl) rfl (s_X0_sizeP isC3 (C4 _)) ?_
    refine z_iconst dX3_readEdge_29 ?_
    refine z_isub dX3_readEdge_30 ?_
    refine z_callV_I (M := mX3_readEdge) [_, _] tX3_takeDigit kX3_53 dX3_readEdge_31 ⟨by decide, rfl, _, _, rfl⟩ ⟨by decide, by decide⟩ rfl (Nat.le_of_ble_eq_true rfl) rfl (c_X3_takeDigit (setPF_52 _ s1) (setPF_53 _ s1) (by omega) (TB_setPF hB _) (by omega) (by omega)) (fun z31 h31 q31 => ?_)
    obtain ⟨q1, q2⟩ := q31
    subst q1 q2
    rw [tkT_setPF, setPF_set]
    have ba := tkD_lep hn (lo := 0) (hi := ((sP σ : Int) - 1)) (s := s1) (by omega)
    have da := tkD_n (tkT h) (lo := 0) (hi := ((sP σ : Int) - 1)) s1
    obtain ⟨a, ea⟩ : ∃ x, x = tkD (tkT h) 0 ((sP σ : Int) - 1) s1 := ⟨_, rfl⟩
    rw [← ea] at ba da ⊢
    refine z_istore_n dX3_readEdge_34 (by decide) rfl ?_
    refine z_aload_n dX3_readEdge_35 rfl ?_
    refine z_iconst dX3_readEdge_36 ?_
    refine z_aload_n dX3_readEdge_37 rfl ?_
    refine z_iconst dX3_readEdge_38 ?_
    refine z_callV_eI (M := mX3_readEdge) [_] tX0_sizeOf kX3_68 dX3_readEdge_39 ⟨by decide, rfl, _, _, rfl⟩ ⟨by decide, by decide⟩ rfl (Nat.le_of_ble_eq_true rfl) rfl (s_X0_sizeP isC3 (C4 _)) ?_
    refine z_iconst dX3_readEdge_42 ?_
    refine z_isub dX3_readEdge_43 ?_
    refine z_callV_I (M := mX3_readEdge) [_, _] tX3_takeDigit kX3_53 dX3_readEdge_44 ⟨by decide, rfl, _, _, rfl⟩ ⟨by decide, by decide⟩ rfl (Nat.le_of_ble_eq_true rfl) rfl (c_X3_takeDigit (setPF_52 _ a.2) (setPF_53 _ a.2) (by omega) (TB_setPF hB _) (by omega) (by omega)) (fun z44 h44 q44 => ?_)
    obtain ⟨q1, q2⟩ := q44
    subst q1 q2
    rw [tkT_setPF, setPF_set]
    have bb := tkD_lep hn (lo := 0) (hi := ((sP σ : Int) - 1)) (s := a.2) (by omega)
    have db := tkD_n (tkT h) (lo := 0) (hi := ((sP σ : Int) - 1)) a.2
    obtain ⟨b, eb⟩ : ∃ x, x = tkD (tkT h) 0 ((sP σ : Int) - 1) a.2 := ⟨_, rfl⟩
    rw [← eb] at bb db ⊢
    refine z_istore_n dX3_readEdge_47 (by decide) rfl ?_
    refine z_aload_n dX3_readEdge_48 rfl ?_
    refine z_iconst dX3_readEdge_49 ?_
    refine z_iconst dX3_readEdge_50 ?_
    refine z_callV_I (M := mX3_readEdge) [_, _] tX3_takeDigit kX3_53 dX3_readEdge_51 ⟨by decide, rfl, _, _, rfl⟩ ⟨by decide, by decide⟩ rfl (Nat.le_of_ble_eq_true rfl) rfl (c_X3_takeDigit (setPF_52 _ b.2) (setPF_53 _ b.2) (by omega) (TB_setPF hB _) (by omega) (by omega)) (fun z51 h51 q51 => ?_)
    obtain ⟨q1, q2⟩ := q51
    subst q1 q2
    rw [tkT_setPF, setPF_set]
    have bw := tkD_lep hn (lo := 1) (hi := 3) (s := b.2) (by omega)
    have dw := tkD_n (tkT h) (lo := 1) (hi := 3) b.2
    have kw := tkD_le (tkT h) (lo := 1) (hi := 3) b.2 (by decide)
    obtain ⟨w, ew⟩ : ∃ x, x = tkD (tkT h) 1 3 b.2 := ⟨_, rfl⟩
    rw [← ew] at bw dw kw ⊢
    refine z_istore dX3_readEdge_54 (by decide) rfl ?_
    refine z_aload_n dX3_readEdge_56 rfl ?_
    refine z_bipush dX3_readEdge_57 (by decide) ?_
    refine z_callV_V (M := mX3_readEdge) [_] tX3_takeSign kX3_49 dX3_readEdge_59 ⟨by decide, rfl, _, _, rfl⟩ ⟨by decide, by decide⟩ rfl (Nat.le_of_ble_eq_true rfl) rfl (c_X3_takeSign (setPF_52 _ w.2) (setPF_53 _ w.2) (by omega) (by decide)) (fun h59 q59 => ?_)
    subst q59
    rw [tkT_setPF, setPF_set]
    have bt := tkS_le hn (c := 59) (by decide) (s := w.2) (by omega)
    obtain ⟨t, et⟩ : ∃ x, x = tkS (tkT h) 59 w.2 := ⟨_, rfl⟩
    rw [← et] at bt ⊢
    refine z_aload_n dX3_readEdge_62 rfl ?_
    refine z_getI fX3_22 dX3_readEdge_63 (by decide) rfl rfl (fun r63 => ?_)
    refine z_if_ne 77 dX3_readEdge_66 (by decide) (by omega) (fun c66 => ?_) (fun c66 => ?_)
    · rw [setPF_53] at c66
      exact z_return dX3_readEdge_77 rfl (hQ _ _ ⟨rfl, (by
  have e1 : pEdge (tkT h) (s, σ) = (t, σ) := by unfold pEdge; rw [if_neg (show ¬ 6 ≤ sE σ by omega)]; dsimp only; rw [← es1, ← ea, ← eb, ← ew, ← et, if_neg (by omega)]
  rw [e1]
  exact ⟨FR5_PF h t, setPF_52 h t, setPF_53 h t, C4 t⟩)⟩)
    · rw [setPF_53] at c66
      have a5 : a.1 < 6 := by have q1 := tkD_pt (tkT h) (lo := 0) (hi := (sP σ : Int) - 1) s1; rw [← ea] at q1; omega
      have b5 : b.1 < 6 := by have q1 := tkD_pt (tkT h) (lo := 0) (hi := (sP σ : Int) - 1) a.2; rw [← eb] at q1; omega
      refine z_aload_n dX3_readEdge_69 rfl ?_
      refine z_iload_n dX3_readEdge_70 rfl ?_
      refine z_iload_n dX3_readEdge_71 rfl ?_
      refine z_iload dX3_readEdge_72 rfl ?_
      refine z_callV_V (M := mX3_readEdge) [_, _, _] tX0_addEdge kX3_71 dX3_readEdge_74 ⟨by decide, rfl, _, _, rfl⟩ ⟨by decide, by decide⟩ rfl (Nat.le_of_ble_eq_true rfl) rfl (c_X0_addEdge isC3 W (C4 _) (a := a.1) (b := b.1) (w := w.1) (by omega) (by omega) (by omega) (by omega)) (fun h74 q74 => ?_)
      exact z_return dX3_readEdge_77 rfl (hQ _ _ ⟨rfl, (by
  obtain ⟨f', q1, q2⟩ := q74
  have e1 : pEdge (tkT h) (s, σ) = (t, addE σ a.1 b.1 w.1) := by unfold pEdge; rw [if_neg (show ¬ 6 ≤ sE σ by omega)]; dsimp only; rw [← es1, ← ea, ← eb, ← ew, ← et, if_pos (by omega)]
  rw [e1, q1]
  exact ⟨FR5_trans (FR5_PF h t) (FR5_setc _ f'), by rw [setc_ne _ _ (by decide)]; exact setPF_52 h t, by rw [setc_ne _ _ (by decide)]; exact setPF_53 h t, by rw [setc_at]; exact q2⟩)⟩)
  · refine z_aload_n dX3_readEdge_10 rfl ?_
    refine z_iconst dX3_readEdge_11 ?_
    refine z_putI pX3_22 dX3_readEdge_12 (by decide) rfl rfl (by omega) ?_
    exact z_return dX3_readEdge_15 rfl (hQ _ _ ⟨rfl, ⟨FRw_5 (FRw_up5 h (by decide) 3), by rw [up_at]; show h 5 2 = _; rw [hp]; unfold pEdge; rw [if_pos (show 6 ≤ sE σ by omega)], by rw [up_same]; unfold pEdge; rw [if_pos (show 6 ≤ sE σ by omega)]; rfl, by rw [up_ne _ _ _ (by decide)]; unfold pEdge; rw [if_pos (show 6 ≤ sE σ by omega)]; exact C⟩⟩)
set_option maxRecDepth 100000 in
set_option maxHeartbeats 4000000 in
theorem c_X3_readFace {g : GG} {h : HH} {s : PF} {n : Nat} (hn : h 5 1 = n) (hn9 : n ≤ 90) (hp : h 5 2 = s.1) (hf : h 5 3 = s.2) (hs : s.1 ≤ n) (hB : TB h) (h0 : s.2 = 0) {σ : SG} (W : WB σ) (C : RC (h 4) σ) : CnV mX3_readFace g [vr 5, vr 3, vr 7] h (fun h' => FR5 h h' ∧ h' 5 2 = (pFace (tkT h) (s, σ)).1.1 ∧ h' 5 3 = (pFace (tkT h) (s, σ)).1.2 ∧ RC (h' 4) (pFace (tkT h) (s, σ)).2) := by
  refine cn_q (lv := [vr 5, vr 3, vr 7, vx, vx]) tX3_readFace.1 rfl rfl (fun hR Q hQ => ?_)
  have w1 := W.1
  have w2 := W.2.1
  have w3 := W.2.2.1
  have C4 : ∀ t, RC ((setPF h t) (3 + 1)) σ := fun t => by rw [show 3 + 1 = 4 from rfl, setPF_ne h t (by decide)]; exact C
  refine z_aload_n dX3_readFace_0 rfl ?_
  refine z_iconst dX3_readFace_1 ?_
  refine z_callV_eI (M := mX3_readFace) [_] tX0_sizeOf kX3_68 dX3_readFace_2 ⟨by decide, rfl, _, _, rfl⟩ ⟨by decide, by decide⟩ rfl (Nat.le_of_ble_eq_true rfl) rfl (s_X0_sizeF isC3 C) ?_
  refine z_iconst dX3_readFace_5 ?_
  refine z_icmp_lt 15 dX3_readFace_6 (by decide) (by omega) (by omega) (fun c6 => ?_) (fun c6 => ?_)
  · refine z_aload_n dX3_readFace_15 rfl ?_
    refine z_bipush dX3_readFace_16 (by decide) ?_
    refine z_callV_V (M := mX3_readFace) [_] tX3_takeSign kX3_49 dX3_readFace_18 ⟨by decide, rfl, _, _, rfl⟩ ⟨by decide, by decide⟩ rfl (Nat.le_of_ble_eq_true rfl) rfl (c_X3_takeSign hp hf (by omega) (by decide)) (fun h18 q18 => ?_)
    subst q18
    have bs1 := tkS_le hn (c := 102) (by decide) (s := s) (by omega)
    obtain ⟨s1, es1⟩ : ∃ x, x = tkS (tkT h) 102 s := ⟨_, rfl⟩
    rw [← es1] at bs1 ⊢
    refine z_aload_n dX3_readFace_21 rfl ?_
    refine z_iconst dX3_readFace_22 ?_
    refine z_iconst dX3_readFace_23 ?_
    refine z_callV_I (M := mX3_readFace) [_, _] tX3_takeDigit kX3_53 dX3_readFace_24 ⟨by decide, rfl, _, _, rfl⟩ ⟨by decide, by decide⟩ rfl (Nat.le_of_ble_eq_true rfl) rfl (c_X3_takeDigit (setPF_52 _ s1) (setPF_53 _ s1) (by omega) (TB_setPF hB _) (by omega) (by omega)) (fun z24 h24 q24 => ?_)
    obtain ⟨q1, q2⟩ := q24
    subst q1 q2
    rw [tkT_setPF, setPF_set]
    have bw := tkD_lep hn (lo := 1) (hi := 3) (s := s1) (by omega)
    have dw := tkD_n (tkT h) (lo := 1) (hi := 3) s1
    obtain ⟨w, ew⟩ : ∃ x, x = tkD (tkT h) 1 3 s1 := ⟨_, rfl⟩
    rw [← ew] at bw dw ⊢
    refine z_istore_n dX3_readFace_27 (by decide) rfl ?_
    refine z_aload_n dX3_readFace_28 rfl ?_
    refine z_callV_V (M := mX3_readFace) [] tX4_clear kX3_29 dX3_readFace_29 ⟨by decide, rfl, _, _, rfl⟩ ⟨by decide, by decide⟩ rfl (Nat.le_of_ble_eq_true rfl) rfl c_X4_clear (fun h29 q29 => ?_)
    subst q29
    have kw6 : w.1 < 6 := by have q1 := tkD_pt (tkT h) (lo := 1) (hi := 3) s1; rw [← ew] at q1; omega
    have eF : pFace (tkT h) (s, σ) = (tkS (tkT h) 59 (pEndW σ (tkT h) (pLets σ (tkT h) 90 (w.2, 0, (fun _ => 0), (fun _ => false)))), if (tkS (tkT h) 59 (pEndW σ (tkT h) (pLets σ (tkT h) 90 (w.2, 0, (fun _ => 0), (fun _ => false))))).2 = 0 then addF σ w.1 (pLets σ (tkT h) 90 (w.2, 0, (fun _ => 0), (fun _ => false))).2.1 (pLets σ (tkT h) 90 (w.2, 0, (fun _ => 0), (fun _ => false))).2.2.1 (pLets σ (tkT h) 90 (w.2, 0, (fun _ => 0), (fun _ => false))).2.2.2 else σ) := by
      unfold pFace; rw [if_neg (show ¬ 4 ≤ sF σ by omega)]; dsimp only; rw [← es1, ← ew]
    have K103 : ∀ (h1 : HH) (L : PW) (F : FRw h h1) (q1 : h1 5 2 = L.1.1) (q2 : h1 5 3 = L.1.2) (qw : RW h1 L.2.1 L.2.2.1 L.2.2.2) (wl : ∀ k, k < L.2.1 → L.2.2.1 k < sE σ) (hb : L.1.1 ≤ n) (hL : pLets σ (tkT h) 90 (w.2, 0, (fun _ => 0), (fun _ => false)) = L), Z mX3_readFace g 103 [vr 5, vr 3, vr 7, vi (w.1 : Int), vx] [] h1 Q := by
      intro h1 L F q1 q2 qw wl hb hL
      rw [hL] at eF
      have K143 : ∀ s2, s2 = pA σ (tkT h) L → Z mX3_readFace g 143 [vr 5, vr 3, vr 7, vi (w.1 : Int), vx] [] (setPF h1 s2) Q := by
        intro s2 e2
        have K162 : ∀ s3, s3 = pEndW σ (tkT h) L → Z mX3_readFace g 162 [vr 5, vr 3, vr 7, vi (w.1 : Int), vx] [] (setPF h1 s3) Q := by
          intro s3 e3
          refine z_aload_n dX3_readFace_162 rfl ?_
          refine z_bipush dX3_readFace_163 (by decide) ?_
          refine z_callV_V (M := mX3_readFace) [_] tX3_takeSign kX3_49 dX3_readFace_165 ⟨by decide, rfl, _, _, rfl⟩ ⟨by decide, by decide⟩ rfl (Nat.le_of_ble_eq_true rfl) rfl (c_X3_takeSign (setPF_52 _ s3) (setPF_53 _ s3) (by rw [e3, pEndW_1]; omega) (by decide)) (fun h165 q165 => ?_)
          subst q165
          rw [tkT_setPF, setPF_set, FR5_tk (FRw_5 F)]
          obtain ⟨t, et⟩ : ∃ x, x = tkS (tkT h) 59 s3 := ⟨_, rfl⟩
          rw [← et]
          refine z_aload_n dX3_readFace_168 rfl ?_
          refine z_getI fX3_22 dX3_readFace_169 (by decide) rfl rfl (fun r169 => ?_)
          refine z_if_ne 181 dX3_readFace_172 (by decide) (by omega) (fun c172 => ?_) (fun c172 => ?_)
          · rw [setPF_53] at c172
            exact z_return dX3_readFace_181 rfl (hQ _ _ ⟨rfl, (by
  have e1 : pFace (tkT h) (s, σ) = (t, σ) := by rw [eF, ← e3, ← et, if_neg (by omega)]
  rw [e1]
  exact ⟨FRw_5 (FRw_trans F (FRw_PF h1 t)), setPF_52 h1 t, setPF_53 h1 t, by rw [setPF_ne h1 t (by decide), F.1 4 (by decide) (by decide) (by decide)]; exact C⟩)⟩)
          · rw [setPF_53] at c172
            refine z_aload_n dX3_readFace_175 rfl ?_
            refine z_aload_n dX3_readFace_176 rfl ?_
            refine z_iload_n dX3_readFace_177 rfl ?_
            refine z_callV_V (M := mX3_readFace) [_, _] tX0_addFace kX3_81 dX3_readFace_178 ⟨by decide, rfl, _, _, rfl⟩ ⟨by decide, by decide⟩ rfl (Nat.le_of_ble_eq_true rfl) rfl (c_X0_addFace isC3 W (by rw [show 3 + 1 = 4 from rfl, setPF_ne h1 t (by decide), F.1 4 (by decide) (by decide) (by decide)]; exact C) (RW_keep qw (setPF_ne h1 t (by decide)) (setPF_ne h1 t (by decide))) (v := w.1) kw6 (by omega)) (fun h178 q178 => ?_)
            exact z_return dX3_readFace_181 rfl (hQ _ _ ⟨rfl, (by
  obtain ⟨f', g1, g2⟩ := q178
  have e1 : pFace (tkT h) (s, σ) = (t, addF σ w.1 L.2.1 L.2.2.1 L.2.2.2) := by rw [eF, ← e3, ← et, if_pos (by omega)]
  rw [e1, g1]
  exact ⟨FR5_trans (FRw_5 (FRw_trans F (FRw_PF h1 t))) (FR5_setc _ f'), by rw [setc_ne _ _ (by decide)]; exact setPF_52 h1 t, by rw [setc_ne _ _ (by decide)]; exact setPF_53 h1 t, by rw [setc_at]; exact g2⟩)⟩)
        refine z_aload_n dX3_readFace_143 rfl ?_
        refine z_getI fX3_22 dX3_readFace_144 (by decide) rfl rfl (fun r144 => ?_)
        refine z_if_ne 162 dX3_readFace_147 (by decide) (by omega) (fun c147 => ?_) (fun c147 => ?_)
        · rw [setPF_53] at c147
          exact K162 s2 (by rw [pEndW_f (fun q => by rw [← e2] at q; omega)]; exact e2)
        · rw [setPF_53] at c147
          refine z_aload_n dX3_readFace_150 rfl ?_
          refine z_callV_eI (M := mX3_readFace) [] tX4_size kX3_78 dX3_readFace_151 ⟨by decide, rfl, _, _, rfl⟩ ⟨by decide, by decide⟩ rfl (Nat.le_of_ble_eq_true rfl) rfl c_X4_size ?_
          rw [setPF_ne h1 s2 (by decide)]
          have qw1 := qw.1
          have qw2 := qw.2.1
          refine z_if_ne 162 dX3_readFace_154 (by decide) (by omega) (fun c154 => ?_) (fun c154 => ?_)
          · exact K162 s2 (by rw [pEndW_f (fun q => by omega)]; exact e2)
          · refine z_aload_n dX3_readFace_157 rfl ?_
            refine z_iconst dX3_readFace_158 ?_
            refine z_putI pX3_22 dX3_readFace_159 (by decide) rfl rfl (by omega) ?_
            have x := K162 (s2.1, 1) (by rw [pEndW_t ⟨by rw [← e2]; omega, by omega⟩, e2])
            rw [setPF_up3 (setPF_52 h1 s2) 1 (z := 1) rfl, setPF_set]
            exact x
      refine z_aload_n dX3_readFace_103 rfl ?_
      refine z_getI fX3_22 dX3_readFace_104 (by decide) rfl rfl (fun r104 => ?_)
      refine z_if_ne 143 dX3_readFace_107 (by decide) (by omega) (fun c107 => ?_) (fun c107 => ?_)
      · have x := K143 L.1 (pA_f (fun q => by omega)).symm
        rw [setPF_self q1 q2] at x
        exact x
      · refine z_aload_n dX3_readFace_110 rfl ?_
        refine z_aload_n dX3_readFace_111 rfl ?_
        refine z_getI fX3_19 dX3_readFace_112 (by decide) rfl rfl (fun r112 => ?_)
        refine z_callV_eI (M := mX3_readFace) [_] tX3_token kX3_34 dX3_readFace_115 ⟨by decide, rfl, _, _, rfl⟩ ⟨by decide, by decide⟩ rfl (Nat.le_of_ble_eq_true rfl) rfl (c_X3_token (by omega)) ?_
        have t1 : tkI h1 (h1 5 2) = tkT h L.1.1 := by rw [← FR5_tk (FRw_5 F)]; unfold tkT; rw [q1]
        rw [t1]
        have tb := tk_b hB L.1.1
        refine z_bipush dX3_readFace_118 (by decide) ?_
        refine z_icmp_ne 143 dX3_readFace_120 (by decide) (by omega) (by omega) (fun c120 => ?_) (fun c120 => ?_)
        · have x := K143 L.1 (pA_f (fun q => by omega)).symm
          rw [setPF_self q1 q2] at x
          exact x
        · refine z_aload_n dX3_readFace_123 rfl ?_
          refine z_callV_eI (M := mX3_readFace) [] tX4_size kX3_78 dX3_readFace_124 ⟨by decide, rfl, _, _, rfl⟩ ⟨by decide, by decide⟩ rfl (Nat.le_of_ble_eq_true rfl) rfl c_X4_size ?_
          have qw1 := qw.1
          have qw2 := qw.2.1
          refine z_if_le 143 dX3_readFace_127 (by decide) (by omega) (fun c127 => ?_) (fun c127 => ?_)
          · have x := K143 L.1 (pA_f (fun q => by omega)).symm
            rw [setPF_self q1 q2] at x
            exact x
          · refine z_aload_n dX3_readFace_130 rfl ?_
            refine z_aload_n dX3_readFace_131 rfl ?_
            refine z_callV_eI (M := mX3_readFace) [_] tX4_isClosed kX3_42 dX3_readFace_132 ⟨by decide, rfl, _, _, rfl⟩ ⟨by decide, by decide⟩ rfl (Nat.le_of_ble_eq_true rfl) rfl (c_X4_isClosed isC3 W (by rw [show 3 + 1 = 4 from rfl, F.1 4 (by decide) (by decide) (by decide)]; exact C) qw wl) ?_
            refine z_if_ne 143 dX3_readFace_135 (by decide) (bi_r _) (fun c135 => ?_) (fun c135 => ?_)
            · have c135 := bi_ne.mp c135
              have x := K143 L.1 (pA_f (fun q => q.2.2.2 c135)).symm
              rw [setPF_self q1 q2] at x
              exact x
            · have c135 := bi_eq.mp c135
              refine z_aload_n dX3_readFace_138 rfl ?_
              refine z_iconst dX3_readFace_139 ?_
              refine z_putI pX3_22 dX3_readFace_140 (by decide) rfl rfl (by omega) ?_
              have x := K143 (L.1.1, 2) (pA_t ⟨by omega, by omega, by omega, c135⟩).symm
              rw [setPF_up3 q1 2 (z := 2) rfl]
              exact x
    refine z_iconst dX3_readFace_32 ?_
    refine z_istore dX3_readFace_33 (by decide) rfl ?_
    have loop35 : ∀ (nw : Nat) (i : Nat) (h1 : HH) (L : PW), (i ≤ 90) → (FRw h h1) → (h1 5 2 = L.1.1) → (h1 5 3 = L.1.2) → (RW h1 L.2.1 L.2.2.1 L.2.2.2) → (∀ k, k < L.2.1 → L.2.2.1 k < sE σ) → (L.1.1 ≤ n) → (pLets σ (tkT h) 90 (w.2, 0, (fun _ => 0), (fun _ => false)) = pLets σ (tkT h) (90 - i) L) → 90 - i < nw → Z mX3_readFace g 35 [vr 5, vr 3, vr 7, vi (w.1 : Int), vi (i : Int)] [] h1 Q := by
      intro nw
      induction nw with
      | zero => intro i h1 L hi F q1 q2 qw wl hb hL hnw; exact absurd hnw (Nat.not_lt_zero _)
      | succ nw ih35 =>
        intro i h1 L hi F q1 q2 qw wl hb hL hnw
        refine z_iload dX3_readFace_35 rfl ?_
        refine z_bipush dX3_readFace_37 (by decide) ?_
        refine z_icmp_ge 103 dX3_readFace_39 (by decide) (by omega) (by omega) (fun c39 => ?_) (fun c39 => ?_)
        · refine z_forget 4 ?_
          exact K103 h1 L F q1 q2 qw wl hb (by rw [hL]; rw [show 90 - i = 0 by omega]; rfl)
        · refine z_aload_n dX3_readFace_42 rfl ?_
          refine z_getI fX3_22 dX3_readFace_43 (by decide) rfl rfl (fun r43 => ?_)
          refine z_if_ne 103 dX3_readFace_46 (by decide) (by omega) (fun c46 => ?_) (fun c46 => ?_)
          · refine z_forget 4 ?_
            exact K103 h1 L F q1 q2 qw wl hb (by rw [hL]; exact pLets_stop (fun q => by omega) _)
          · refine z_aload_n dX3_readFace_49 rfl ?_
            refine z_aload_n dX3_readFace_50 rfl ?_
            refine z_getI fX3_19 dX3_readFace_51 (by decide) rfl rfl (fun r51 => ?_)
            refine z_callV_eI (M := mX3_readFace) [_] tX3_token kX3_34 dX3_readFace_54 ⟨by decide, rfl, _, _, rfl⟩ ⟨by decide, by decide⟩ rfl (Nat.le_of_ble_eq_true rfl) rfl (c_X3_token (by omega)) ?_
            have t1 : tkI h1 (h1 5 2) = tkT h L.1.1 := by rw [← FR5_tk (FRw_5 F)]; unfold tkT; rw [q1]
            rw [t1]
            have tb := tk_b hB L.1.1
            refine z_callS_eI (M := mX3_readFace) [_] tX4_edgeOf kX3_75 dX3_readFace_57 ⟨by decide, by decide⟩ rfl (Nat.le_of_ble_eq_true rfl) rfl (c_X4_edgeOf (by omega)) ?_
            have te := edg_b (tkT h L.1.1)
            refine z_if_lt 103 dX3_readFace_60 (by decide) (by omega) (fun c60 => ?_) (fun c60 => ?_)
            · refine z_forget 4 ?_
              exact K103 h1 L F q1 q2 qw wl hb (by rw [hL]; exact pLets_stop (fun q => by omega) _)
            · refine z_aload_n dX3_readFace_63 rfl ?_
              refine z_aload_n dX3_readFace_64 rfl ?_
              refine z_aload_n dX3_readFace_65 rfl ?_
              refine z_aload_n dX3_readFace_66 rfl ?_
              refine z_getI fX3_19 dX3_readFace_67 (by decide) rfl rfl (fun r67 => ?_)
              refine z_callV_eI (M := mX3_readFace) [_] tX3_token kX3_34 dX3_readFace_70 ⟨by decide, rfl, _, _, rfl⟩ ⟨by decide, by decide⟩ rfl (Nat.le_of_ble_eq_true rfl) rfl (c_X3_token (by omega)) ?_
              rw [t1]
              refine z_callV_I (M := mX3_readFace) [_, _] tX4_append kX3_38 dX3_readFace_73 ⟨by decide, rfl, _, _, rfl⟩ ⟨by decide, by decide⟩ rfl (Nat.le_of_ble_eq_true rfl) rfl (c_X4_append isC3 W (by rw [show 3 + 1 = 4 from rfl, F.1 4 (by decide) (by decide) (by decide)]; exact C) qw wl (by omega)) (fun z73 h73 q73 => ?_)
              have b73 : R32 z73 := by rcases q73 with ⟨-, rfl, -⟩ | ⟨-, rfl, -⟩ <;> decide
              refine z_if_eq 92 dX3_readFace_76 (by decide) (by omega) (fun c76 => ?_) (fun c76 => ?_)
              · obtain ⟨k1, k2, k3⟩ : ¬ apOK σ L.2.1 L.2.2.1 L.2.2.2 (tkT h L.1.1) ∧ z73 = 0 ∧ h73 = h1 := by
                  rcases q73 with ⟨-, r, -⟩ | r
                  · omega
                  · exact r
                rw [k3]
                refine z_aload_n dX3_readFace_92 rfl ?_
                refine z_iconst dX3_readFace_93 ?_
                refine z_putI pX3_22 dX3_readFace_94 (by decide) rfl rfl (by omega) ?_
                refine z_iinc dX3_readFace_97 rfl (by decide) rfl ?_
                refine z_goto 35 dX3_readFace_100 (by decide) ?_
                have hc := pLets_go (σ := σ) (tk := tkT h) (L := L) ⟨by omega, by omega⟩ (90 - (i + 1))
                rw [show 90 - (i + 1) + 1 = 90 - i by omega, pLet_f k1] at hc
                exact ih35 (i + 1) (up h1 5 3 2) ((L.1.1, 2), L.2) (by omega) (FRw_trans F (FRw_up5 h1 (by decide) 2)) (by rw [up_at]; exact q1) (by rw [up_same]; rfl) (RW_keep qw (up_ne _ _ _ (by decide)) (up_ne _ _ _ (by decide))) wl hb (hL.trans hc) (by omega)
              · obtain ⟨k1, k2, k3⟩ : apOK σ L.2.1 L.2.2.1 L.2.2.2 (tkT h L.1.1) ∧ z73 = 1 ∧ h73 = up (up h1 8 L.2.1 (tkT h L.1.1)) 7 1 ((L.2.1 : Int) + 1) := by
                  rcases q73 with r | ⟨-, r, -⟩
                  · exact r
                  · omega
                rw [k3]
                have k4 := k1.1
                obtain ⟨x, y, x1, x2, x3⟩ := k1.2
                refine z_aload_n dX3_readFace_79 rfl ?_
                refine z_dup dX3_readFace_80 rfl ?_
                refine z_getI fX3_19 dX3_readFace_81 (by decide) rfl rfl (fun r81 => ?_)
                refine z_iconst dX3_readFace_84 ?_
                refine z_iadd dX3_readFace_85 ?_
                rw [up_ne (up h1 8 L.2.1 (tkT h L.1.1)) 1 _ (show (5 : Nat) ≠ 7 by decide), up_ne h1 _ _ (show (5 : Nat) ≠ 8 by decide)]
                refine z_putI pX3_19 dX3_readFace_86 (by decide) rfl rfl (by omega) ?_
                refine z_goto 97 dX3_readFace_89 (by decide) ?_
                refine z_iinc dX3_readFace_97 rfl (by decide) rfl ?_
                refine z_goto 35 dX3_readFace_100 (by decide) ?_
                have hc := pLets_go (σ := σ) (tk := tkT h) (L := L) ⟨by omega, by omega⟩ (90 - (i + 1))
                rw [show 90 - (i + 1) + 1 = 90 - i by omega, pLet_t k1] at hc
                have qp := RW_push qw k4 (e := x) (b := y) (by omega)
                rw [← x1] at qp
                have e9 : (edg (tkT h L.1.1)).toNat = x := by rw [x1, cod_edg y (by omega)]; omega
                exact ih35 (i + 1) _ _ (by omega) (FRw_trans (FRw_trans F (FRw_push h1 L.2.1 _ _)) (FRw_up5 _ (by decide) _)) (by rw [up_same, q1]; rfl) (by rw [up_at, up_ne (up h1 8 L.2.1 (tkT h L.1.1)) 1 _ (show (5 : Nat) ≠ 7 by decide), up_ne h1 _ _ (show (5 : Nat) ≠ 8 by decide)]; show h1 5 3 = 0; omega) (RW_keep qp (up_ne _ _ _ (by decide)) (up_ne _ _ _ (by decide))) (fun k hk => by
                  show (if k = L.2.1 then (edg (tkT h L.1.1)).toNat else L.2.2.1 k) < sE σ
                  split
                  · omega
                  · have hk : k < L.2.1 + 1 := hk
                    exact wl k (by omega)) (by show L.1.1 + 1 ≤ n; rcases Nat.lt_or_ge L.1.1 n with r | r; exact r; rw [tkT_ge hn r] at x1; have := cod_r y (show x < 26 by omega); omega) (hL.trans hc) (by omega)
    exact loop35 _ 0 (up (setPF h w.2) 7 1 0) (w.2, 0, (fun _ => 0), (fun _ => false)) (by omega) (FRw_trans (FRw_PF h w.2) (FRw_clr _)) (by rw [up_ne _ _ _ (by decide)]; exact setPF_52 h w.2) (by rw [up_ne _ _ _ (by decide)]; exact setPF_53 h w.2) ⟨up_same _ _ _ _, by show (0 : Nat) ≤ 4; decide, fun k hk => absurd hk (Nat.not_lt_zero _)⟩ (fun k hk => absurd hk (Nat.not_lt_zero _)) bw rfl (Nat.lt_succ_self _)
  · refine z_aload_n dX3_readFace_9 rfl ?_
    refine z_iconst dX3_readFace_10 ?_
    refine z_putI pX3_22 dX3_readFace_11 (by decide) rfl rfl (by omega) ?_
    exact z_return dX3_readFace_14 rfl (hQ _ _ ⟨rfl, ⟨FRw_5 (FRw_up5 h (by decide) 3), by rw [up_at]; show h 5 2 = _; rw [hp]; unfold pFace; rw [if_pos (show 4 ≤ sF σ by omega)], by rw [up_same]; unfold pFace; rw [if_pos (show 4 ≤ sF σ by omega)]; rfl, by rw [up_ne _ _ _ (by decide)]; unfold pFace; rw [if_pos (show 4 ≤ sF σ by omega)]; exact C⟩⟩)

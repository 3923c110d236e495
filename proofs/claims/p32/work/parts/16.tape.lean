/-! THE TAPE'S READING, as it is told: a place and a fault (0: none yet); the tokens by place. -/
def tkI (h : HH) (i : Int) : Int := if i < h 5 1 ∧ 0 ≤ i ∧ i < 90 then h 6 i.toNat else -1
def tkT (h : HH) (i : Nat) : Int := tkI h (i : Int)
abbrev PF : Type := Nat × Nat
def tkS (tk : Nat → Int) (c : Int) (s : PF) : PF := if s.2 ≠ 0 then s else if tk s.1 = c then (s.1 + 1, 0) else (s.1, 1)
def tkD (tk : Nat → Int) (lo hi : Int) (s : PF) : Nat × PF := if s.2 ≠ 0 then (0, s) else if ¬ (0 ≤ tk s.1 - 48 ∧ tk s.1 - 48 < 10) then (0, (s.1, 1)) else if tk s.1 - 48 < lo ∨ hi < tk s.1 - 48 then (0, (s.1, 2)) else ((tk s.1 - 48).toNat, (s.1 + 1, 0))
def pEdge (tk : Nat → Int) (s : PF × SG) : PF × SG :=
  if 6 ≤ sE s.2 then ((s.1.1, 3), s.2) else
    let s1 := tkS tk 101 s.1
    let a := tkD tk 0 ((sP s.2 : Int) - 1) s1
    let b := tkD tk 0 ((sP s.2 : Int) - 1) a.2
    let w := tkD tk 1 3 b.2
    let e := tkS tk 59 w.2
    (e, if e.2 = 0 then addE s.2 a.1 b.1 w.1 else s.2)
def pEdges (tk : Nat → Int) : Nat → PF × SG → PF × SG
  | 0, s => s
  | n + 1, s => if s.1.2 = 0 ∧ tk s.1.1 = 101 then pEdges tk n (pEdge tk s) else s
abbrev PW : Type := PF × Nat × (Nat → Nat) × (Nat → Bool)
noncomputable def pLet (σ : SG) (tk : Nat → Int) (s : PW) : PW :=
  @ite _ (apOK σ s.2.1 s.2.2.1 s.2.2.2 (tk s.1.1)) (Classical.propDecidable _) ((s.1.1 + 1, 0), s.2.1 + 1, (fun k => if k = s.2.1 then (edg (tk s.1.1)).toNat else s.2.2.1 k), (fun k => if k = s.2.1 then decide (tk s.1.1 ≤ 90) else s.2.2.2 k)) ((s.1.1, 2), s.2)
noncomputable def pLets (σ : SG) (tk : Nat → Int) : Nat → PW → PW
  | 0, s => s
  | n + 1, s => if s.1.2 = 0 ∧ 0 ≤ edg (tk s.1.1) then pLets σ tk n (pLet σ tk s) else s
noncomputable def pA (σ : SG) (tk : Nat → Int) (L : PW) : PF := @ite _ (L.1.2 = 0 ∧ tk L.1.1 = 59 ∧ 0 < L.2.1 ∧ ¬ wcl σ L.2.1 L.2.2.1 L.2.2.2) (Classical.propDecidable _) (L.1.1, 2) L.1
noncomputable def pEndW (σ : SG) (tk : Nat → Int) (L : PW) : PF := if (pA σ tk L).2 = 0 ∧ L.2.1 = 0 then ((pA σ tk L).1, 1) else pA σ tk L
theorem pA_t {σ : SG} {tk : Nat → Int} {L : PW} (h : L.1.2 = 0 ∧ tk L.1.1 = 59 ∧ 0 < L.2.1 ∧ ¬ wcl σ L.2.1 L.2.2.1 L.2.2.2) : pA σ tk L = (L.1.1, 2) := if_pos h
theorem pA_f {σ : SG} {tk : Nat → Int} {L : PW} (h : ¬ (L.1.2 = 0 ∧ tk L.1.1 = 59 ∧ 0 < L.2.1 ∧ ¬ wcl σ L.2.1 L.2.2.1 L.2.2.2)) : pA σ tk L = L.1 := if_neg h
theorem pEndW_t {σ : SG} {tk : Nat → Int} {L : PW} (h : (pA σ tk L).2 = 0 ∧ L.2.1 = 0) : pEndW σ tk L = ((pA σ tk L).1, 1) := if_pos h
theorem pEndW_f {σ : SG} {tk : Nat → Int} {L : PW} (h : ¬ ((pA σ tk L).2 = 0 ∧ L.2.1 = 0)) : pEndW σ tk L = pA σ tk L := if_neg h
theorem pA_1 (σ : SG) (tk : Nat → Int) (L : PW) : (pA σ tk L).1 = L.1.1 := by unfold pA; split <;> rfl
theorem pEndW_1 (σ : SG) (tk : Nat → Int) (L : PW) : (pEndW σ tk L).1 = L.1.1 := by unfold pEndW; split <;> exact pA_1 σ tk L
noncomputable def pFace (tk : Nat → Int) (s : PF × SG) : PF × SG :=
  if 4 ≤ sF s.2 then ((s.1.1, 3), s.2) else
    let s1 := tkS tk 102 s.1
    let w := tkD tk 1 3 s1
    let L := pLets s.2 tk 90 (w.2, 0, (fun _ => 0), (fun _ => false))
    let e := tkS tk 59 (pEndW s.2 tk L)
    (e, if e.2 = 0 then addF s.2 w.1 L.2.1 L.2.2.1 L.2.2.2 else s.2)
noncomputable def pFaces (tk : Nat → Int) : Nat → PF × SG → PF × SG
  | 0, s => s
  | n + 1, s => if s.1.2 = 0 ∧ tk s.1.1 = 102 then pFaces tk n (pFace tk s) else s
def sg0 (P : Nat) : SG := ((P, 0, 0), (fun _ => 0), (fun _ => 0), (fun _ => 0), (fun _ => 0), (fun _ => 0), (fun _ _ => 0), (fun _ _ => false), (fun _ _ => 0))
noncomputable def pAll (tk : Nat → Int) (n : Nat) : PF × SG :=
  let s0 := tkS tk 99 (0, 0)
  let P := tkD tk 1 5 s0
  let s1 := tkS tk 59 P.2
  let F := pFaces tk 90 (pEdges tk 90 (s1, sg0 P.1))
  (if F.1.2 = 0 ∧ F.1.1 < n then (F.1.1, 1) else F.1, F.2)
/-- place and fault told anew -/
def setPF (h : HH) (s : PF) : HH := up (up h 5 2 s.1) 5 3 s.2
theorem setPF_5 (h : HH) (s : PF) : setPF h s 5 = fun b => if b = 3 then (s.2 : Int) else if b = 2 then (s.1 : Int) else h 5 b := by unfold setPF; rw [up_at, up_at]
theorem setPF_ne (h : HH) (s : PF) {k : Nat} (hk : k ≠ 5) : setPF h s k = h k := by unfold setPF; rw [up_ne _ _ _ hk, up_ne _ _ _ hk]
theorem setPF_of {h h' : HH} {s : PF} (h1 : h' 5 2 = s.1) (h2 : h' 5 3 = s.2) (h3 : ∀ b, b ≠ 2 → b ≠ 3 → h' 5 b = h 5 b) (h4 : ∀ k, k ≠ 5 → h' k = h k) : h' = setPF h s := by
  funext k
  by_cases e : k = 5
  · subst e
    rw [setPF_5]
    funext b
    by_cases e3 : b = 3
    · subst e3; simp [h2]
    · by_cases e2 : b = 2
      · subst e2; simp [h1]
      · simp [e2, e3, h3 b e2 e3]
  · rw [setPF_ne h s e, h4 k e]
theorem setPF_set (h : HH) (s t : PF) : setPF (setPF h s) t = setPF h t := by
  refine setPF_of ?_ ?_ (fun b h2 h3 => ?_) (fun k hk => ?_)
  · rw [setPF_5]; rfl
  · rw [setPF_5]; rfl
  · rw [setPF_5, setPF_5]; simp [h2, h3]
  · rw [setPF_ne _ _ hk, setPF_ne _ _ hk]
theorem setPF_self {h : HH} {s : PF} (hp : h 5 2 = s.1) (hf : h 5 3 = s.2) : setPF h s = h := (setPF_of hp hf (fun _ _ _ => rfl) (fun _ _ => rfl)).symm
theorem tkT_setPF (h : HH) (s : PF) : tkT (setPF h s) = tkT h := by
  funext i; unfold tkT tkI; rw [setPF_5, setPF_ne h s (by decide)]; rfl
theorem tkI_r {h : HH} (hR : RR h) (i : Int) : R32 (tkI h i) := by
  unfold tkI; split
  · exact hR.2.1 6 (Or.inl rfl) _
  · decide
theorem setPF_up2 {h : HH} {s : PF} (hf : h 5 3 = s.2) (v : Nat) {z : Int} (hz : z = (v : Int)) : up h 5 2 z = setPF h (v, s.2) := by
  subst hz
  refine setPF_of ?_ ?_ (fun b h2 h3 => ?_) (fun k hk => ?_)
  · rw [up_at]; rfl
  · rw [up_at]; exact hf
  · rw [up_at]; simp [h2]
  · rw [up_ne _ _ _ hk]
theorem setPF_up3 {h : HH} {s : PF} (hp : h 5 2 = s.1) (v : Nat) {z : Int} (hz : z = (v : Int)) : up h 5 3 z = setPF h (s.1, v) := by
  subst hz
  refine setPF_of ?_ ?_ (fun b h2 h3 => ?_) (fun k hk => ?_)
  · rw [up_at]; exact hp
  · rw [up_at]; rfl
  · rw [up_at]; simp [h3]
  · rw [up_ne _ _ _ hk]
theorem tkD_le (tk : Nat → Int) {lo hi : Int} (s : PF) (h : 0 ≤ hi) : ((tkD tk lo hi s).1 : Int) ≤ hi := by
  unfold tkD; split
  · exact h
  · split
    · exact h
    · split
      · exact h
      · simp; omega
theorem tkD_n (tk : Nat → Int) {lo hi : Int} (s : PF) : (tkD tk lo hi s).1 < 10 := by
  unfold tkD; split
  · exact (show 0 < 10 by decide)
  · split
    · exact (show 0 < 10 by decide)
    · split
      · exact (show 0 < 10 by decide)
      · simp; omega
/-- bytes on the tape -/
def TB (h : HH) : Prop := ∀ i, i < 90 → 0 ≤ h 6 i ∧ h 6 i ≤ 255
theorem tk_b {h : HH} (hB : TB h) (i : Nat) : -1 ≤ tkT h i ∧ tkT h i ≤ 255 := by
  unfold tkT tkI; split
  · have := hB (i : Int).toNat (by omega); omega
  · omega
set_option maxRecDepth 100000 in
set_option maxHeartbeats 4000000 in
theorem c_X3_clear {g : GG} {h : HH}  : CnV mX3_clear g [vr 5] h (fun h' => h' = up h 5 1 0) := by
  refine cn_q (lv := [vr 5]) tX3_clear.1 rfl rfl (fun hR Q hQ => ?_)
  refine z_aload_n dX3_clear_0 rfl ?_
  refine z_iconst dX3_clear_1 ?_
  refine z_putI pX3_15 dX3_clear_2 (by decide) rfl rfl (by omega) ?_
  exact z_return dX3_clear_5 rfl (hQ _ _ ⟨rfl, rfl⟩)
set_option maxRecDepth 100000 in
set_option maxHeartbeats 4000000 in
theorem c_X3_size {g : GG} {h : HH}  : CeI mX3_size g [vr 5] h (h 5 1) := by
  refine cn_q (lv := [vr 5]) tX3_size.1 rfl rfl (fun hR Q hQ => ?_)
  refine z_aload_n dX3_size_0 rfl ?_
  refine z_getI fX3_15 dX3_size_1 (by decide) rfl rfl (fun r1 => ?_)
  exact z_ireturn dX3_size_4 rfl (hQ _ _ ⟨_, rfl, rfl, rfl⟩)
set_option maxRecDepth 100000 in
set_option maxHeartbeats 4000000 in
theorem c_X3_place {g : GG} {h : HH}  : CeI mX3_place g [vr 5] h (h 5 2) := by
  refine cn_q (lv := [vr 5]) tX3_place.1 rfl rfl (fun hR Q hQ => ?_)
  refine z_aload_n dX3_place_0 rfl ?_
  refine z_getI fX3_19 dX3_place_1 (by decide) rfl rfl (fun r1 => ?_)
  exact z_ireturn dX3_place_4 rfl (hQ _ _ ⟨_, rfl, rfl, rfl⟩)
set_option maxRecDepth 100000 in
set_option maxHeartbeats 4000000 in
theorem c_X3_faultRead {g : GG} {h : HH}  : CeI mX3_faultRead g [vr 5] h (h 5 3) := by
  refine cn_q (lv := [vr 5]) tX3_faultRead.1 rfl rfl (fun hR Q hQ => ?_)
  refine z_aload_n dX3_faultRead_0 rfl ?_
  refine z_getI fX3_22 dX3_faultRead_1 (by decide) rfl rfl (fun r1 => ?_)
  exact z_ireturn dX3_faultRead_4 rfl (hQ _ _ ⟨_, rfl, rfl, rfl⟩)
set_option maxRecDepth 100000 in
set_option maxHeartbeats 4000000 in
theorem c_X3_token {g : GG} {h : HH} {i : Int} (hi : R32 i) : CeI mX3_token g [vr 5, vi i] h (tkI h i) := by
  refine cn_q (lv := [vr 5, vi i]) tX3_token.1 rfl rfl (fun hR Q hQ => ?_)
  refine z_iload_n dX3_token_0 rfl ?_
  refine z_aload_n dX3_token_1 rfl ?_
  refine z_getI fX3_15 dX3_token_2 (by decide) rfl rfl (fun r2 => ?_)
  refine z_icmp_ge 29 dX3_token_5 (by decide) (by omega) (by omega) (fun c5 => ?_) (fun c5 => ?_)
  · refine z_iconst dX3_token_29 ?_
    exact z_ireturn dX3_token_30 rfl (hQ _ _ ⟨_, rfl, (by unfold tkI; first | (exfalso; omega) | rw [if_pos (by omega)] | rw [if_neg (by omega)]), rfl⟩)
  · refine z_iload_n dX3_token_8 rfl ?_
    refine z_aload_n dX3_token_9 rfl ?_
    refine z_getR fX3_9 dX3_token_10 (by decide) rfl rfl ?_
    refine z_alen dX3_token_13 (by decide) rfl (by decide) ?_
    refine z_callN_eI (M := mX3_token) [_, _] tX5_isWithin (by decide) dX3_token_14 ⟨by decide, by decide⟩ rfl (Nat.le_of_ble_eq_true rfl) rfl (c_X5_isWithin (by omega) (by omega)) ?_
    refine z_if_eq 29 dX3_token_17 (by decide) (bi_r _) (fun c17 => ?_) (fun c17 => ?_)
    · have c17 := bi_eq.mp c17
      refine z_iconst dX3_token_29 ?_
      exact z_ireturn dX3_token_30 rfl (hQ _ _ ⟨_, rfl, (by unfold tkI; first | (exfalso; omega) | rw [if_pos (by omega)] | rw [if_neg (by omega)]), rfl⟩)
    · have c17 := bi_ne.mp c17
      refine z_aload_n dX3_token_20 rfl ?_
      refine z_getR fX3_9 dX3_token_21 (by decide) rfl rfl ?_
      refine z_iload_n dX3_token_24 rfl ?_
      refine z_iaload dX3_token_25 (by decide) rfl (by omega) (by omega) (by decide) (fun r25 => ?_)
      refine z_goto 30 dX3_token_26 (by decide) ?_
      exact z_ireturn dX3_token_30 rfl (hQ _ _ ⟨_, rfl, (by unfold tkI; first | (exfalso; omega) | rw [if_pos (by omega)] | rw [if_neg (by omega)]), rfl⟩)
set_option maxRecDepth 100000 in
set_option maxHeartbeats 4000000 in
theorem c_X3_append {g : GG} {h : HH} {n : Nat} (hn : h 5 1 = n) {b : Int} (hb : R32 b) : CnI mX3_append g [vr 5, vi b] h (fun z h' => (n < 90 ∧ z = 1 ∧ h' = up (up h 6 n b) 5 1 ((n : Int) + 1)) ∨ (90 ≤ n ∧ z = 0 ∧ h' = h)) := by
  refine cn_q (lv := [vr 5, vi b]) tX3_append.1 rfl rfl (fun hR Q hQ => ?_)
  refine z_aload_n dX3_append_0 rfl ?_
  refine z_getI fX3_15 dX3_append_1 (by decide) rfl rfl (fun r1 => ?_)
  refine z_aload_n dX3_append_4 rfl ?_
  refine z_getR fX3_9 dX3_append_5 (by decide) rfl rfl ?_
  refine z_alen dX3_append_8 (by decide) rfl (by decide) ?_
  refine z_callN_eI (M := mX3_append) [_, _] tX5_isWithin (by decide) dX3_append_9 ⟨by decide, by decide⟩ rfl (Nat.le_of_ble_eq_true rfl) rfl (c_X5_isWithin (by omega) (by omega)) ?_
  refine z_if_ne 17 dX3_append_12 (by decide) (bi_r _) (fun c12 => ?_) (fun c12 => ?_)
  · have c12 := bi_ne.mp c12
    refine z_aload_n dX3_append_17 rfl ?_
    refine z_getR fX3_9 dX3_append_18 (by decide) rfl rfl ?_
    refine z_aload_n dX3_append_21 rfl ?_
    refine z_getI fX3_15 dX3_append_22 (by decide) rfl rfl (fun r22 => ?_)
    refine z_iload_n dX3_append_25 rfl ?_
    refine z_iastore dX3_append_26 (by decide) rfl (by omega) (by omega) (by decide) (by omega) ?_
    refine z_aload_n dX3_append_27 rfl ?_
    refine z_dup dX3_append_28 rfl ?_
    refine z_getI fX3_15 dX3_append_29 (by decide) rfl rfl (fun r29 => ?_)
    refine z_iconst dX3_append_32 ?_
    refine z_iadd dX3_append_33 ?_
    rw [up_ne h _ _ (show (5 : Nat) ≠ 6 by decide)]
    refine z_putI pX3_15 dX3_append_34 (by decide) rfl rfl (by omega) ?_
    refine z_iconst dX3_append_37 ?_
    exact z_zreturn dX3_append_38 rfl (by first | exact Or.inl rfl | exact Or.inr rfl | exact bi_01 _ | omega) (hQ _ _ ⟨_, rfl, (Or.inl ⟨by omega, rfl, by rw [hn]; rfl⟩)⟩)
  · have c12 := bi_eq.mp c12
    refine z_iconst dX3_append_15 ?_
    exact z_zreturn dX3_append_16 rfl (by first | exact Or.inl rfl | exact Or.inr rfl | exact bi_01 _ | omega) (hQ _ _ ⟨_, rfl, (Or.inr ⟨by omega, rfl, rfl⟩)⟩)
set_option maxRecDepth 100000 in
set_option maxHeartbeats 4000000 in
theorem c_X3_takeSign {g : GG} {h : HH} {s : PF} (hp : h 5 2 = s.1) (hf : h 5 3 = s.2) (hs : s.1 ≤ 90) {c : Int} (hc : R32 c) : CnV mX3_takeSign g [vr 5, vi c] h (fun h' => h' = setPF h (tkS (tkT h) c s)) := by
  refine cn_q (lv := [vr 5, vi c]) tX3_takeSign.1 rfl rfl (fun hR Q hQ => ?_)
  refine z_aload_n dX3_takeSign_0 rfl ?_
  refine z_getI fX3_22 dX3_takeSign_1 (by decide) rfl rfl (fun r1 => ?_)
  refine z_if_eq 8 dX3_takeSign_4 (by decide) (by omega) (fun c4 => ?_) (fun c4 => ?_)
  · refine z_aload_n dX3_takeSign_8 rfl ?_
    refine z_aload_n dX3_takeSign_9 rfl ?_
    refine z_getI fX3_19 dX3_takeSign_10 (by decide) rfl rfl (fun r10 => ?_)
    refine z_callV_eI (M := mX3_takeSign) [_] tX3_token kX3_34 dX3_takeSign_13 ⟨by decide, rfl, _, _, rfl⟩ ⟨by decide, by decide⟩ rfl (Nat.le_of_ble_eq_true rfl) rfl (c_X3_token (by omega)) ?_
    have r13 := tkI_r hR (h 5 2)
    refine z_iload_n dX3_takeSign_16 rfl ?_
    refine z_icmp_ne 33 dX3_takeSign_17 (by decide) (by omega) (by omega) (fun c17 => ?_) (fun c17 => ?_)
    · refine z_aload_n dX3_takeSign_33 rfl ?_
      refine z_iconst dX3_takeSign_34 ?_
      refine z_putI pX3_22 dX3_takeSign_35 (by decide) rfl rfl (by omega) ?_
      exact z_return dX3_takeSign_38 rfl (hQ _ _ ⟨rfl, (by unfold tkS tkT; rw [if_neg (by omega), ← hp, if_neg (by omega)]; exact setPF_up3 hp 1 rfl)⟩)
    · refine z_aload_n dX3_takeSign_20 rfl ?_
      refine z_dup dX3_takeSign_21 rfl ?_
      refine z_getI fX3_19 dX3_takeSign_22 (by decide) rfl rfl (fun r22 => ?_)
      refine z_iconst dX3_takeSign_25 ?_
      refine z_iadd dX3_takeSign_26 ?_
      refine z_putI pX3_19 dX3_takeSign_27 (by decide) rfl rfl (by omega) ?_
      refine z_goto 38 dX3_takeSign_30 (by decide) ?_
      exact z_return dX3_takeSign_38 rfl (hQ _ _ ⟨rfl, (by unfold tkS tkT; rw [if_neg (by omega), ← hp, if_pos (by omega)]; rw [setPF_up2 hf (s.1 + 1) (by omega), show s.2 = 0 from by omega])⟩)
  · exact z_return dX3_takeSign_7 rfl (hQ _ _ ⟨rfl, (by unfold tkS; rw [if_pos (by omega), setPF_self hp hf])⟩)
set_option maxRecDepth 100000 in
set_option maxHeartbeats 4000000 in
theorem c_X3_takeDigit {g : GG} {h : HH} {s : PF} (hp : h 5 2 = s.1) (hf : h 5 3 = s.2) (hs : s.1 ≤ 90) (hB : TB h) {lo hi : Int} (hl : R32 lo) (hh : R32 hi) : CnI mX3_takeDigit g [vr 5, vi lo, vi hi] h (fun z h' => z = (tkD (tkT h) lo hi s).1 ∧ h' = setPF h (tkD (tkT h) lo hi s).2) := by
  refine cn_q (lv := [vr 5, vi lo, vi hi, vx]) tX3_takeDigit.1 rfl rfl (fun hR Q hQ => ?_)
  have tb := tk_b hB s.1
  refine z_aload_n dX3_takeDigit_0 rfl ?_
  refine z_getI fX3_22 dX3_takeDigit_1 (by decide) rfl rfl (fun r1 => ?_)
  refine z_if_eq 9 dX3_takeDigit_4 (by decide) (by omega) (fun c4 => ?_) (fun c4 => ?_)
  · refine z_aload_n dX3_takeDigit_9 rfl ?_
    refine z_aload_n dX3_takeDigit_10 rfl ?_
    refine z_getI fX3_19 dX3_takeDigit_11 (by decide) rfl rfl (fun r11 => ?_)
    refine z_callV_eI (M := mX3_takeDigit) [_] tX3_token kX3_34 dX3_takeDigit_14 ⟨by decide, rfl, _, _, rfl⟩ ⟨by decide, by decide⟩ rfl (Nat.le_of_ble_eq_true rfl) rfl (c_X3_token (by omega)) ?_
    have r13 := tkI_r hR (h 5 2)
    rw [show tkI h (h 5 2) = tkT h s.1 from by unfold tkT; rw [hp]] at r13 ⊢
    refine z_bipush dX3_takeDigit_17 (by decide) ?_
    refine z_isub dX3_takeDigit_19 ?_
    refine z_istore_n dX3_takeDigit_20 (by decide) rfl ?_
    refine z_iload_n dX3_takeDigit_21 rfl ?_
    refine z_bipush dX3_takeDigit_22 (by decide) ?_
    refine z_callN_eI (M := mX3_takeDigit) [_, _] tX5_isWithin (by decide) dX3_takeDigit_24 ⟨by decide, by decide⟩ rfl (Nat.le_of_ble_eq_true rfl) rfl (c_X5_isWithin (by omega) (by omega)) ?_
    refine z_if_ne 37 dX3_takeDigit_27 (by decide) (bi_r _) (fun c27 => ?_) (fun c27 => ?_)
    · have c27 := bi_ne.mp c27
      refine z_iload_n dX3_takeDigit_37 rfl ?_
      refine z_iload_n dX3_takeDigit_38 rfl ?_
      refine z_icmp_lt 47 dX3_takeDigit_39 (by decide) (by omega) (by omega) (fun c39 => ?_) (fun c39 => ?_)
      · refine z_aload_n dX3_takeDigit_47 rfl ?_
        refine z_iconst dX3_takeDigit_48 ?_
        refine z_putI pX3_22 dX3_takeDigit_49 (by decide) rfl rfl (by omega) ?_
        refine z_iconst dX3_takeDigit_52 ?_
        exact z_ireturn dX3_takeDigit_53 rfl (hQ _ _ ⟨_, rfl, (by unfold tkD; rw [if_neg (by omega), if_neg (fun q => q c27), if_pos (by omega)]; exact ⟨rfl, setPF_up3 hp 2 rfl⟩)⟩)
      · refine z_iload_n dX3_takeDigit_42 rfl ?_
        refine z_iload_n dX3_takeDigit_43 rfl ?_
        refine z_icmp_le 54 dX3_takeDigit_44 (by decide) (by omega) (by omega) (fun c44 => ?_) (fun c44 => ?_)
        · refine z_aload_n dX3_takeDigit_54 rfl ?_
          refine z_dup dX3_takeDigit_55 rfl ?_
          refine z_getI fX3_19 dX3_takeDigit_56 (by decide) rfl rfl (fun r56 => ?_)
          refine z_iconst dX3_takeDigit_59 ?_
          refine z_iadd dX3_takeDigit_60 ?_
          refine z_putI pX3_19 dX3_takeDigit_61 (by decide) rfl rfl (by omega) ?_
          refine z_iload_n dX3_takeDigit_64 rfl ?_
          exact z_ireturn dX3_takeDigit_65 rfl (hQ _ _ ⟨_, rfl, (by unfold tkD; rw [if_neg (by omega), if_neg (fun q => q c27), if_neg (by omega)]; exact ⟨by show tkT h s.1 - 48 = ((tkT h s.1 - 48).toNat : Int); omega, by rw [setPF_up2 hf (s.1 + 1) (by omega), show s.2 = 0 from by omega]⟩)⟩)
        · refine z_aload_n dX3_takeDigit_47 rfl ?_
          refine z_iconst dX3_takeDigit_48 ?_
          refine z_putI pX3_22 dX3_takeDigit_49 (by decide) rfl rfl (by omega) ?_
          refine z_iconst dX3_takeDigit_52 ?_
          exact z_ireturn dX3_takeDigit_53 rfl (hQ _ _ ⟨_, rfl, (by unfold tkD; rw [if_neg (by omega), if_neg (fun q => q c27), if_pos (by omega)]; exact ⟨rfl, setPF_up3 hp 2 rfl⟩)⟩)
    · have c27 := bi_eq.mp c27
      refine z_aload_n dX3_takeDigit_30 rfl ?_
      refine z_iconst dX3_takeDigit_31 ?_
      refine z_putI pX3_22 dX3_takeDigit_32 (by decide) rfl rfl (by omega) ?_
      refine z_iconst dX3_takeDigit_35 ?_
      exact z_ireturn dX3_takeDigit_36 rfl (hQ _ _ ⟨_, rfl, (by unfold tkD; rw [if_neg (by omega), if_pos c27]; exact ⟨rfl, setPF_up3 hp 1 rfl⟩)⟩)
  · refine z_iconst dX3_takeDigit_7 ?_
    exact z_ireturn dX3_takeDigit_8 rfl (hQ _ _ ⟨_, rfl, (by unfold tkD; rw [if_pos (by omega)]; exact ⟨rfl, (setPF_self hp hf).symm⟩)⟩)

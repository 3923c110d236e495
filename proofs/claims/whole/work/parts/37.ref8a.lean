/-- what the reference's reading leaves as it was -/
def FM (h h' : HH) : Prop := (∀ k, k ≠ 47 → k ≠ 49 → h' k = h k) ∧ FRf (h 47) (h' 47)
theorem FM.refl (h : HH) : FM h h := ⟨fun _ _ _ => rfl, fun _ _ => rfl⟩
theorem FM.tr {a b c : HH} (h1 : FM a b) (h2 : FM b c) : FM a c := ⟨fun k k1 k2 => (h2.1 k k1 k2).trans (h1.1 k k1 k2), fun j hj => (h2.2 j hj).trans (h1.2 j hj)⟩
theorem Pt.fm {h : HH} {tk : Nat → Int} {s : PF} {h' : HH} (P : Pt h tk s h') : FM h h' := ⟨fun _ k1 _ => P.ne k1, P.fr⟩
theorem FM.tp {h h' : HH} (F : FM h h') {tk : Nat → Int} {n : Nat} (T : TP h tk n) : TP h' tk n := TP_of T (F.2 7 (Or.inl (by decide))) (F.1 53 (by decide) (by decide))
theorem FM.set (h : HH) (f : Nat → Int) : FM h (setc h 49 f) := ⟨fun _ _ k2 => setc_ne _ _ k2, fun j _ => by rw [setc_ne _ _ (by decide)]⟩
theorem la_set {h : HH} {tk : Nat → Int} {s : PF} {f : Nat → Int} (L : LAf tk (h 47) s) : LAf tk ((setc h 49 f) 47) s := by rw [setc_ne _ _ (by decide)]; exact L
theorem goS_tkS {tk : Nat → Int} {c : Int} {s : PF} (h : s.2 = 0 → tk s.1 = c) : goS s = tkS tk c s := by
  unfold goS tkS
  by_cases q : s.2 ≠ 0
  · rw [if_pos q, if_pos q]
  · rw [if_neg q, if_neg q, if_pos (h (by omega))]
theorem tkS_flt {tk : Nat → Int} {c : Int} {s : PF} (h : s.2 ≠ 0) : tkS tk c s = s := if_pos h
theorem tkD_flt {tk : Nat → Int} {lo hi : Int} {s : PF} (h : s.2 ≠ 0) : tkD tk lo hi s = (0, s) := if_pos h
/-- an edge's reading, from its letter on -/
def pE1 (tk : Nat → Int) (σ : SG) (s : PF) : PF × SG :=
  let s1 := tkS tk 101 s
  let a := tkD tk 0 ((sP σ : Int) - 1) s1
  let b := tkD tk 0 ((sP σ : Int) - 1) a.2
  let w := tkD tk 1 3 b.2
  let e := tkS tk 59 w.2
  (e, if e.2 = 0 then addE σ a.1 b.1 w.1 else σ)
theorem pE1_0 {tk : Nat → Int} {σ : SG} {s : PF} (h : sE σ < 6) : pEdge tk (s, σ) = pE1 tk σ s := by
  unfold pEdge; rw [if_neg (show ¬ 6 ≤ sE σ by omega)]; rfl
theorem pE1_6 {tk : Nat → Int} {σ : SG} {s : PF} (h : 6 ≤ sE σ) (h0 : s.2 = 0) : pEdge tk (s, σ) = pE1 tk σ (bdS s 3) := by
  have e : bdS s 3 = (s.1, 3) := if_neg (fun q => q h0)
  unfold pEdge; rw [if_pos (show 6 ≤ sE σ from h), e]
  have n3 : ((s.1, 3) : PF).2 ≠ 0 := show (3 : Nat) ≠ 0 by decide
  unfold pE1
  simp only [tkS_flt n3, tkD_flt n3]
  rfl
noncomputable def pF1 (tk : Nat → Int) (σ : SG) (s : PF) : PF × SG :=
  let s1 := tkS tk 102 s
  let w := tkD tk 1 3 s1
  let L := pLets σ tk 90 (w.2, 0, (fun _ => 0), (fun _ => false))
  let e := tkS tk 59 (pEndW σ tk L)
  (e, if e.2 = 0 then addF σ w.1 L.2.1 L.2.2.1 L.2.2.2 else σ)
theorem pF1_0 {tk : Nat → Int} {σ : SG} {s : PF} (h : sF σ < 4) : pFace tk (s, σ) = pF1 tk σ s := by
  unfold pFace; rw [if_neg (show ¬ 4 ≤ sF σ by omega)]; rfl
theorem pEndW_flt {σ : SG} {tk : Nat → Int} {L : PW} (h : L.1.2 ≠ 0) : pEndW σ tk L = L.1 := by
  have e : pA σ tk L = L.1 := pA_f (fun q => h q.1)
  rw [pEndW_f (fun q => h (by rw [e] at q; exact q.1)), e]
theorem pF1_flt {tk : Nat → Int} {σ : SG} {s : PF} (h : (tkD tk 1 3 (tkS tk 102 s)).2.2 ≠ 0) : pF1 tk σ s = ((tkD tk 1 3 (tkS tk 102 s)).2, σ) := by
  unfold pF1
  dsimp only
  rw [pLets_stop (fun q => h q.1), pEndW_flt h, tkS_flt h, if_neg h]
theorem pF1_4 {tk : Nat → Int} {σ : SG} {s : PF} (h : 4 ≤ sF σ) (h0 : s.2 = 0) : pFace tk (s, σ) = pF1 tk σ (bdS s 3) := by
  have e : bdS s 3 = (s.1, 3) := if_neg (fun q => q h0)
  unfold pFace; rw [if_pos (show 4 ≤ sF σ from h), e]
  have n3 : ((s.1, 3) : PF).2 ≠ 0 := show (3 : Nat) ≠ 0 by decide
  have n4 : (tkD tk 1 3 (tkS tk 102 ((s.1, 3) : PF))).2.2 ≠ 0 := by rw [tkS_flt n3, tkD_flt n3]; exact n3
  rw [pF1_flt n4, tkS_flt n3, tkD_flt n3]
theorem rm_low {f f' : Nat → Int} {σ : SG} (W : WB σ) (R : RM f σ) (h : ∀ j, j < 21 + 6 * sF σ ∨ 45 ≤ j → f' j = f j) : RM f' σ := by
  obtain ⟨c1, c2, c3, c4, c5, c6⟩ := R
  have w2 := W.2.1
  refine ⟨?_, ?_, ?_, fun e he => ?_, fun k hk => ?_, fun c e hc he => ?_⟩
  · rw [h 0 (by omega)]; exact c1
  · rw [h 1 (by omega)]; exact c2
  · rw [h 2 (by omega)]; exact c3
  · rw [h _ (by omega), h _ (by omega), h _ (by omega)]; exact c4 e he
  · have w4 := W.2.2.2 k hk
    obtain ⟨d1, d2, d3⟩ := c5 k hk
    exact ⟨by rw [h _ (by omega)]; exact d1, by rw [h _ (by omega)]; exact d2, fun j hj => by rw [h _ (by omega)]; exact d3 j hj⟩
  · rw [h _ (by omega)]; exact c6 c e hc he
theorem rm_addF {f : Nat → Int} {σ : SG} (W : WB σ) (R : RM f σ) {w n : Nat} {le : Nat → Nat} {sg : Nat → Bool} (wl : WL f σ (sF σ) n le sg) (hw : f (21 + 6 * sF σ) = w) : RM (upn f 2 ((sF σ : Int) + 1)) (addF σ w n le sg) := by
  obtain ⟨c1, c2, c3, c4, c5, c6⟩ := R
  obtain ⟨l1, l2, l3, l4⟩ := wl
  have w2 := W.2.1
  refine ⟨?_, ?_, ?_, fun e he => ?_, fun k hk => ?_, fun c e hc he => ?_⟩
  · rw [upn_ne (by omega)]; exact c1
  · rw [upn_ne (by omega)]; exact c2
  · rw [upn_eq rfl]; rfl
  · rw [upn_ne (by omega), upn_ne (by omega), upn_ne (by omega)]; exact c4 e he
  · have hk : k < sF σ + 1 := hk
    by_cases q : k = sF σ
    · subst q
      have e1 : sfw (addF σ w n le sg) (sF σ) = w := if_pos rfl
      have e2 : swl (addF σ w n le sg) (sF σ) = n := if_pos rfl
      rw [upn_ne (by omega), upn_ne (by omega), hw, l3, e1, e2]
      refine ⟨rfl, rfl, fun j hj => ?_⟩
      have e3 : sle (addF σ w n le sg) (sF σ) j = le j := if_pos rfl
      have e4 : ssg (addF σ w n le sg) (sF σ) j = sg j := if_pos rfl
      rw [upn_ne (by omega), (l4 j hj).1, e3, e4]; rfl
    · obtain ⟨d1, d2, d3⟩ := c5 k (by omega)
      have e1 : sfw (addF σ w n le sg) k = sfw σ k := if_neg q
      have e2 : swl (addF σ w n le sg) k = swl σ k := if_neg q
      rw [upn_ne (by omega), upn_ne (by omega), d1, d2, e1, e2]
      refine ⟨rfl, rfl, fun j hj => ?_⟩
      have e3 : sle (addF σ w n le sg) k j = sle σ k j := if_neg q
      have e4 : ssg (addF σ w n le sg) k j = ssg σ k j := if_neg q
      rw [upn_ne (by omega), d3 j hj, e3, e4]
  · rw [upn_ne (by omega)]; exact c6 c e hc he
theorem WL_push {f : Nat → Int} {σ : SG} {F n : Nat} {le : Nat → Nat} {sg : Nat → Bool} (wl : WL f σ F n le sg) (hE : sE σ ≤ 6) {z : Int} (ha : apOK σ n le sg z) : WL (upn (upn f (21 + 6 * F + 2 + n) (tld σ z)) (21 + 6 * F + 1) ((n : Int) + 1)) σ F (n + 1) (fun k => if k = n then (edg z).toNat else le k) (fun k => if k = n then decide (z ≤ 90) else sg k) := by
  obtain ⟨l1, l2, l3, l4⟩ := wl
  obtain ⟨a1, e, y, rfl, he, -⟩ := ha
  refine ⟨l1, by omega, by rw [upn_eq rfl]; omega, fun k hk => ?_⟩
  rw [upn_ne (by omega)]
  have e0 : tld σ (cod e y) = lcd (edg (cod e y)).toNat (decide (cod e y ≤ 90)) := by
    unfold tld; rw [if_pos]; rw [cod_edg y (by omega)]; omega
  by_cases q : k = n
  · subst q
    rw [upn_eq rfl, e0]
    simp only [if_true]
    refine ⟨by trivial, ?_⟩
    rw [cod_edg y (by omega)]; simpa using he
  · rw [upn_ne (by omega)]
    simp only [if_neg q]
    exact l4 k (by omega)
theorem WL_low {f f' : Nat → Int} {σ : SG} {F n : Nat} {le : Nat → Nat} {sg : Nat → Bool} (wl : WL f σ F n le sg) (h : ∀ j, 21 ≤ j → j < 45 → f' j = f j) : WL f' σ F n le sg := by
  obtain ⟨l1, l2, l3, l4⟩ := wl
  exact ⟨l1, l2, by rw [h _ (by omega) (by omega)]; exact l3, fun k hk => by rw [h _ (by omega) (by omega)]; exact l4 k hk⟩

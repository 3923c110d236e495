/-! THE DEEDS' OWN STEPS. -/
theorem up_e {h h1 : HH} {k j : Nat} {v : Int} (e : up h k j v = h1) : (h1 k = fun i => if i = j then v else h k i) ∧ ∀ a, a ≠ k → h1 a = h a := by
  subst e; exact ⟨up_at _ _ _ _, fun a ha => up_ne _ _ _ ha⟩
theorem up_id {h : HH} {k j : Nat} {v : Int} (e : h k j = v) : up h k j v = h := by
  funext a
  by_cases q : a = k
  · subst q
    rw [up_at]
    funext b
    by_cases r : b = j
    · subst r; rw [if_pos rfl, e]
    · rw [if_neg r]
  · rw [up_ne _ _ _ q]
theorem zc_lo {f f' : Nat → Int} {σ : SG} (W : WF σ) (Zc : ZC f σ) (n : ∀ j, j < 22 + 6 * sF σ → f' j = f j) : ZC f' σ := by
  have w2 := W.2.1
  obtain ⟨z1, z2, z3, z4, z5⟩ := Zc
  refine ⟨by rw [n 0 (by omega)]; exact z1, by rw [n 1 (by omega)]; exact z2, by rw [n 2 (by omega)]; exact z3, fun i hi => ?_, fun k hk => ?_⟩
  · rw [n _ (by omega), n _ (by omega), n _ (by omega)]; exact z4 i hi
  · have x4 := (W.2.2.2.2.1 k hk).2.2.2.1
    rw [n _ (by omega), n _ (by omega)]
    exact ⟨(z5 k hk).1, (z5 k hk).2.1, fun j hj => by rw [n _ (by omega)]; exact (z5 k hk).2.2 j hj⟩
theorem LJ.put {h h1 : HH} {σ σ' : SG} {n j : Nat} {v : Int} (L : LJ h σ n) (e : up h 47 j v = h1) (hj : j ≠ 3) (hv : -100 ≤ v ∧ v ≤ 100) (Z1 : ZC (fun i => if i = j then v else h 47 i) σ') (cc : CC (h 48) σ') : LJ h1 σ' n := by
  obtain ⟨u1, u2⟩ := up_e e
  refine ⟨by rw [u1]; exact Z1, ?_, by rw [u1]; exact ZB_up L.2.2.1 hv, by rw [u2 48 (by decide)]; exact cc⟩
  rw [u1]
  show (if 3 = j then v else h 47 3) = _
  rw [if_neg (Ne.symm hj)]; exact L.2.1
theorem LJ.putc {h h1 : HH} {σ σ' : SG} {n j : Nat} {v : Int} (L : LJ h σ n) (e : up h 48 j v = h1) (Z1 : ZC (h 47) σ') (cc : CC (fun i => if i = j then v else h 48 i) σ') : LJ h1 σ' n := by
  obtain ⟨u1, u2⟩ := up_e e
  exact ⟨by rw [u2 47 (by decide)]; exact Z1, by rw [u2 47 (by decide)]; exact L.2.1, by rw [u2 47 (by decide)]; exact L.2.2.1, by rw [u1]; exact cc⟩
theorem JP.up47 {h h1 : HH} {σ : SG} {as : List SG} {j : Nat} {v : Int} (P : JP h σ as) (e : up h 47 j v = h1) : JP h1 σ as := by rw [← e]; exact P.lw (LW.refl.up47 j v)
theorem JP.up48 {h h1 : HH} {σ : SG} {as : List SG} {j : Nat} {v : Int} (P : JP h σ as) (e : up h 48 j v = h1) : JP h1 σ as := by rw [← e]; exact P.lw (LW.refl.up48 j v)
theorem JL.clr {h h1 h2 : HH} {σ : SG} {as : List SG} (J : JL h σ as) (D : FD h h1) (B : TB h1) (T : TapeClr h1 h2) : JL h2 σ as := by
  obtain ⟨W, ⟨p1, p2, p3, p4⟩, ⟨l1, l2, l3, l4⟩, h0⟩ := J
  have n : ∀ k, k ≠ 5 → k ≠ 6 → k ≠ 7 → k ≠ 8 → h2 k = h k := fun k k5 k6 k7 k8 => (T.2 k k5 k7 k8).trans (D k k5 k6)
  refine ⟨W, ⟨by rw [n 2 (by decide) (by decide) (by decide) (by decide)]; exact p1, RA_keep p2 (fun j _ => by rw [n 0 (by decide) (by decide) (by decide) (by decide)]) (fun k k1 k2 => n k (by omega) (by omega) (by omega) (by omega)), T.1, ?_⟩, ⟨?_, ?_, ?_, ?_⟩, h0⟩
  · unfold TB; rw [T.2 6 (by decide) (by decide) (by decide)]; exact B
  · rw [n 47 (by decide) (by decide) (by decide) (by decide)]; exact l1
  · rw [n 47 (by decide) (by decide) (by decide) (by decide)]; exact l2
  · rw [n 47 (by decide) (by decide) (by decide) (by decide)]; exact l3
  · rw [n 48 (by decide) (by decide) (by decide) (by decide)]; exact l4
theorem TL.tk2 {h : HH} {l : List Int} (T : TL h l) : tkT h = tl l := T.tk
theorem face_none {h : HH} {σ : SG} (h0 : sE σ = 0) {n : Nat} : pWord σ (tkT h) (n + 1) 0 (fun _ => 0) (fun _ => false) 0 = none := pWord_f (fun ⟨_, e, _, _, he, _⟩ => by omega)
theorem face_aA {h : HH} {σ : SG} (w2 : sE σ ≤ 6) (h0 : 0 < sE σ) (T : TL h (([] ++ [97]) ++ [65])) : ∃ le sg, pWord σ (tkT h) 2 0 (fun _ => 0) (fun _ => false) 0 = some (2, le, sg) := by
  obtain ⟨le, sg, e, -⟩ := pWord_tape w2 (wv_aA h0).1 (wv_aA h0).2
  rw [wls_aA] at e
  refine ⟨le, sg, ?_⟩
  rw [T.tk]
  exact e
/-- a face told in z, then fed, then counted -/
theorem face_z {h h1 hw hs h3 : HH} {σ : SG} (W : WF σ) (Zc : ZC (h 47) σ) (hF : sF σ < 4) {w n : Nat} {le : Nat → Nat} {sg : Nat → Bool} (e1 : up h 47 (22 + 6 * sF σ) (w : Int) = h1) (K : WK h1 hw (24 + 6 * sF σ)) (e23 : hw 47 (23 + 6 * sF σ) = n) (L : WL (hw 47) (24 + 6 * sF σ) n le sg) (hn : n ≤ 4) (D : FD hw hs) (e3 : up hs 47 2 ((sF σ : Int) + 1) = h3) :
    ZC (h3 47) (addF σ w n le sg) ∧ ZB (h3 47) ∧ h3 47 3 = h 47 3 ∧ h3 48 = h 48 ∧ (∀ k, k ≠ 47 → k ≠ 5 → k ≠ 6 → h3 k = h k) ∧ h3 5 = hs 5 ∧ h3 6 = hs 6 ∧ h3 47 2 = (sF σ : Int) + 1 ∧ h3 47 (22 + 6 * sF σ) = w := by
  obtain ⟨u1, u2⟩ := up_e e1
  obtain ⟨v1, v2⟩ := up_e e3
  have d47 : hs 47 = hw 47 := D 47 (by decide) (by decide)
  have g : ∀ j, j ≠ 2 → h3 47 j = hw 47 j := fun j hj => by
    rw [v1, d47]; exact if_neg hj
  have g1 : ∀ j, j ≠ 2 → j ≠ 22 + 6 * sF σ → j + 1 < 24 + 6 * sF σ → h3 47 j = h 47 j := fun j h2 h22 hj => by
    rw [g j h2, K.2.1 j (Or.inl hj), u1]; exact if_neg h22
  have g2 : h3 47 2 = (sF σ : Int) + 1 := by rw [v1]; exact if_pos rfl
  have g22 : h3 47 (22 + 6 * sF σ) = w := by
    rw [g _ (by omega), K.2.1 _ (Or.inl (by omega)), u1]; exact if_pos rfl
  refine ⟨zc_addF W Zc (fun j h2 hj => g1 j h2 (by omega) (by omega)) g2 g22 (by rw [g _ (by omega)]; exact e23) (fun k hk => by rw [g _ (by omega)]; exact L k hk), ?_, g1 3 (by decide) (by omega) (by omega), ?_, fun k k47 k5 k6 => ?_, v2 5 (by decide), v2 6 (by decide), g2, g22⟩
  · rw [v1, d47]; exact ZB_up K.2.2 (by omega)
  · rw [v2 48 (by decide), D 48 (by decide) (by decide), K.1 48 (by decide), u2 48 (by decide)]
  · rw [v2 k k47, D k k5 k6, K.1 k k47, u2 k k47]
theorem face_fin {h h3 hs hx h4 : HH} {σ : SG} {as : List SG} (J : JL h σ as) (hF : sF σ < 4) {w n : Nat} {le : Nat → Nat} {sg : Nat → Bool} (hw : 1 ≤ w ∧ w ≤ 3) (V : WV σ n le sg) (hc : wcl σ n le sg)
    (Z3 : ZC (h3 47) (addF σ w n le sg) ∧ ZB (h3 47) ∧ h3 47 3 = h 47 3 ∧ h3 48 = h 48 ∧ (∀ k, k ≠ 47 → k ≠ 5 → k ≠ 6 → h3 k = h k) ∧ h3 5 = hs 5 ∧ h3 6 = hs 6 ∧ h3 47 2 = (sF σ : Int) + 1 ∧ h3 47 (22 + 6 * sF σ) = w) (B : TB hs) (T : TapeClr h3 hx) (A : ActP hx h4 σ as (addF σ w n le sg)) : JL (up h4 47 3 ((min (as.length + 1) 8 : Nat) : Int)) (addF σ w n le sg) ((σ :: as).take 8) := by
  obtain ⟨W, ⟨p1, p2, p3, p4⟩, ⟨l1, l2, l3, l4⟩, h0⟩ := J
  obtain ⟨a1, a2, a3, a4, a5, a6, a7, a8, a9⟩ := Z3
  have n3 : ∀ k, k ≠ 5 → k ≠ 7 → k ≠ 8 → hx k = h3 k := T.2
  refine JL.fin (h1 := hx) (WF_addF W hF hw V hc) ⟨?_, RA_keep p2 (fun j _ => ?_) (fun k k1 k2 => ?_), T.1, ?_⟩ ⟨?_, ?_, ?_, ?_⟩ A h0
  · rw [n3 2 (by decide) (by decide) (by decide), a5 2 (by decide) (by decide) (by decide)]; exact p1
  · rw [n3 0 (by decide) (by decide) (by decide), a5 0 (by decide) (by decide) (by decide)]
  · rw [n3 k (by omega) (by omega) (by omega), a5 k (by omega) (by omega) (by omega)]
  · unfold TB; rw [n3 6 (by decide) (by decide) (by decide), a7]; exact B
  · rw [n3 47 (by decide) (by decide) (by decide)]; exact a1
  · rw [n3 47 (by decide) (by decide) (by decide), a3]; exact l2
  · rw [n3 47 (by decide) (by decide) (by decide)]; exact a2
  · rw [n3 48 (by decide) (by decide) (by decide), a4]; exact l4
theorem nnz_r {σ : SG} (W : WF σ) {c : Nat} (hc : c < 3) : -6 ≤ nnz σ c ∧ nnz σ c ≤ 6 := by
  have w2 := W.2.1
  have := sI_bound (n := sE σ) (f := nz σ c) (c := 1) (fun k _ => by unfold nz; split <;> omega)
  unfold nnz
  omega
theorem bnd_m {a b : Int} (ha : -3 ≤ a ∧ a ≤ 3) (hb : -4 ≤ b ∧ b ≤ 4) : -12 ≤ a * b ∧ a * b ≤ 12 := by
  rcases (show a = -3 ∨ a = -2 ∨ a = -1 ∨ a = 0 ∨ a = 1 ∨ a = 2 ∨ a = 3 by omega) with q | q | q | q | q | q | q <;> rw [q] <;> omega
theorem RC.fd {h h1 : HH} {σ : SG} (C : RC (h 2) σ) (D : FD h h1) : RC (h1 2) σ := by rw [D 2 (by decide) (by decide)]; exact C
theorem tkT_fr2 {h h' : HH} (f5 : h' 5 = h 5) (f6 : h' 6 = h 6) : tkT h' = tkT h := by
  funext i; unfold tkT tkI; rw [f5, f6]

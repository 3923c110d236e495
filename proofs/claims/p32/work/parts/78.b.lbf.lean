/-! THE BEGINNING, told and in z. -/
/-- so far: the text l tells σ, as z and c do; the class's cells but the tape stay -/
def BG (h h1 : HH) (σ : SG) (l : List Int) : Prop := WF σ ∧ 0 < sP σ ∧ ZC (h1 47) σ ∧ ZB (h1 47) ∧ h1 47 3 = 0 ∧ (∀ j, j < 18 → h1 48 j = 0) ∧ (∀ c e, sch σ c e = 0) ∧ TL h1 l ∧ ∀ k, k ≠ 5 → k ≠ 6 → k ≠ 47 → k ≠ 48 → h1 k = h k
theorem BG.fed {h h1 h2 : HH} {σ : SG} {l l2 : List Int} (B : BG h h1 σ l) (T : TL h2 l2) (D : FD h1 h2) : BG h h2 σ l2 := by
  obtain ⟨b1, b2, b3, b4, b5, b6, b7, b8, b9⟩ := B
  have e47 := D 47 (by decide) (by decide)
  exact ⟨b1, b2, by rw [e47]; exact b3, by rw [e47]; exact b4, by rw [e47]; exact b5, by rw [D 48 (by decide) (by decide)]; exact b6, b7, T, fun k k5 k6 k47 k48 => by rw [D k k5 k6]; exact b9 k k5 k6 k47 k48⟩
theorem BG.cc {h h1 : HH} {σ : SG} {l : List Int} (B : BG h h1 σ l) : CC (h1 48) σ := fun c e hc he => by
  have w2 := B.1.2.1
  rw [B.2.2.2.2.2.2.1, B.2.2.2.2.2.1 _ (by omega)]
/-- z alone told anew -/
theorem BG.z {h h1 h2 : HH} {σ σ' : SG} {l : List Int} (B : BG h h1 σ l) (n : ∀ k, k ≠ 47 → h2 k = h1 k) (W' : WF σ') (h0 : 0 < sP σ') (Z : ZC (h2 47) σ') (zb : ZB (h2 47)) (h3 : h2 47 3 = 0) (hc : ∀ c e, sch σ' c e = 0) : BG h h2 σ' l := by
  obtain ⟨b1, b2, b3, b4, b5, b6, b7, b8, b9⟩ := B
  refine ⟨W', h0, Z, zb, h3, by rw [n 48 (by decide)]; exact b6, hc, ⟨by rw [n 5 (by decide)]; exact b8.1, b8.2.1, b8.2.2.1, ?_, fun i hi => by rw [n 6 (by decide)]; exact b8.2.2.2.2 i hi⟩, fun k k5 k6 k47 k48 => by rw [n k k47]; exact b9 k k5 k6 k47 k48⟩
  unfold TB; rw [n 6 (by decide)]; exact b8.2.2.2.1
/-- an edge more -/
theorem BG.edge {h h1 h5 : HH} {σ : SG} {l : List Int} (B : BG h h1 σ l) (hE : sE σ < 6) {a b w : Nat} (ha : a < sP σ) (hb : b < sP σ) (hw : 1 ≤ w ∧ w ≤ 3) (n : ∀ k, k ≠ 47 → h5 k = h1 k) (u : ∀ j, h5 47 j = if j = 1 then (sE σ : Int) + 1 else if j = 6 + 3 * sE σ then (w : Int) else if j = 5 + 3 * sE σ then (b : Int) else if j = 4 + 3 * sE σ then (a : Int) else h1 47 j) : BG h h5 (addE σ a b w) l := by
  have W := B.1
  have w1 := W.1
  refine B.z n (WF_addE W hE ha hb hw) B.2.1 (zc_addE W B.2.2.1 hE (fun j j1 j4 j5 j6 => by rw [u, if_neg j1, if_neg j6, if_neg j5, if_neg j4]) (by rw [u, if_pos rfl]) (by rw [u, if_neg (by omega), if_neg (by omega), if_neg (by omega), if_pos rfl]) (by rw [u, if_neg (by omega), if_neg (by omega), if_pos rfl]) (by rw [u, if_neg (by omega), if_pos rfl])) (fun j hj => ?_) (by rw [u, if_neg (by decide), if_neg (by omega), if_neg (by omega), if_neg (by omega)]; exact B.2.2.2.2.1) (fun c e => ?_)
  · rw [u]
    have := B.2.2.2.1 j hj
    split
    · omega
    · split
      · omega
      · split
        · omega
        · split
          · omega
          · exact this
  · show (if e = sE σ then (0 : Int) else sch σ c e) = 0
    split
    · rfl
    · exact B.2.2.2.2.2.2.1 c e
theorem BG.start {h h1 h2 : HH} {P : Nat} (hP : 1 ≤ P ∧ P ≤ 5) (z : ∀ j, j < 52 → h1 47 j = 0) (c : ∀ j, j < 18 → h1 48 j = 0) (f : ∀ k, k ≠ 47 → k ≠ 48 → h1 k = h k) (e : up h1 47 0 (P : Int) = h2) (h51 : h 5 1 = 0) (hB : TB h) : BG h h2 (sg0 P) [] := by
  obtain ⟨u1, n1⟩ := up_e e
  have u : ∀ j, h2 47 j = if j = 0 then (P : Int) else h1 47 j := fun j => by rw [u1]
  refine ⟨WF_sg0 hP.2, hP.1, ⟨by rw [u]; rfl, by rw [u, if_neg (by decide), z 1 (by decide)]; rfl, by rw [u, if_neg (by decide), z 2 (by decide)]; rfl, fun e he => absurd he (Nat.not_lt_zero e), fun k hk => absurd hk (Nat.not_lt_zero k)⟩, fun j hj => ?_, by rw [u, if_neg (by decide)]; exact z 3 (by decide), by rw [n1 48 (by decide)]; exact c, fun _ _ => rfl, ⟨?_, by decide, fun x hx => by simp at hx, ?_, fun i hi => absurd hi (Nat.not_lt_zero i)⟩, fun k k5 k6 k47 k48 => by rw [n1 k k47]; exact f k k47 k48⟩
  · rw [u]
    split
    · omega
    · rw [z j hj]; omega
  · rw [n1 5 (by decide), f 5 (by decide) (by decide)]; exact h51
  · unfold TB; rw [n1 6 (by decide), f 6 (by decide) (by decide)]; exact hB
theorem len5 (l : List Int) (a b c d e : Int) : (((((l ++ [a]) ++ [b]) ++ [c]) ++ [d]) ++ [e]).length = l.length + 5 := by simp
theorem TL.n47 {h h1 : HH} {l : List Int} (T : TL h l) (n : ∀ k, k ≠ 47 → h1 k = h k) : TL h1 l := by
  obtain ⟨t1, t2, t3, t4, t5⟩ := T
  refine ⟨by rw [n 5 (by decide)]; exact t1, t2, t3, ?_, fun i hi => by rw [n 6 (by decide)]; exact t5 i hi⟩
  unfold TB; rw [n 6 (by decide)]; exact t4
theorem BG.face {h h1 h2 h3 hs h6 : HH} {σ : SG} {l l2 : List Int} (B : BG h h1 σ l) (hF : sF σ < 4) {w n : Nat} {le : Nat → Nat} {sg : Nat → Bool} (hw : 1 ≤ w ∧ w ≤ 3) (V : WV σ n le sg) (hc : wcl σ n le sg) (e1 : up h1 47 (22 + 6 * sF σ) (w : Int) = h2) (K : WK h2 h3 (24 + 6 * sF σ)) (e23 : h3 47 (23 + 6 * sF σ) = n) (L : WL (h3 47) (24 + 6 * sF σ) n le sg) (D : FD h3 hs) (T : TL hs l2) (e6 : up hs 47 2 ((sF σ : Int) + 1) = h6) : BG h h6 (addF σ w n (cl le n) (cs sg n)) l2 := by
  obtain ⟨a1, a2, a3, a4, a5, a6, a7, a8, a9⟩ := face_z B.1 B.2.2.1 hF (le := cl le n) (sg := cs sg n) e1 K e23 (fun k hk => by rw [cl_at hk, cs_at hk]; exact L k hk) V.1 D e6
  obtain ⟨b1, b2, b3, b4, b5, b6, b7, b8, b9⟩ := B
  obtain ⟨u1, n1⟩ := up_e e6
  exact ⟨WF_addF b1 hF hw (wv_cut V) (wcl_cut hc), b2, a1, a2, by rw [a3]; exact b5, by rw [a4]; exact b6, b7, T.n47 n1, fun k k5 k6 k47 k48 => by rw [a5 k k47 k5 k6]; exact b9 k k5 k6 k47 k48⟩

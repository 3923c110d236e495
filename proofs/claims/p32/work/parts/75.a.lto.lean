/-! WHAT THE LAW IS TOLD: the readers, one by one. -/
theorem hc_0 {g : GG} {h : HH} {σ : SG} (C : RC (h 2) σ) {c : Int} (hc : R32 c) : CeI mX0_hasCell g [vr 1, vi 0, vi c] h (bi (0 ≤ c ∧ c < (sP σ : Int))) := by
  have := c_X0_hasCell (g := g) (h := h) isC1 r32_0 hc
  rw [if_pos (by decide), show sl h 1 0 = _ from (sl_n (h := h) (o := 1) (i := 0) (by decide) rfl).trans C.1] at this
  exact this
theorem hc_1 {g : GG} {h : HH} {σ : SG} (C : RC (h 2) σ) {c : Int} (hc : R32 c) : CeI mX0_hasCell g [vr 1, vi 1, vi c] h (bi (0 ≤ c ∧ c < (sE σ : Int))) := by
  have := c_X0_hasCell (g := g) (h := h) isC1 (d := 1) (by decide) hc
  rw [if_pos (by decide), show sl h 1 1 = _ from (sl_n (h := h) (o := 1) (i := 1) (by decide) rfl).trans C.2.1] at this
  exact this
theorem hc_2 {g : GG} {h : HH} {σ : SG} (C : RC (h 2) σ) {c : Int} (hc : R32 c) : CeI mX0_hasCell g [vr 1, vi 2, vi c] h (bi (0 ≤ c ∧ c < (sF σ : Int))) := by
  have := c_X0_hasCell (g := g) (h := h) isC1 (d := 2) (by decide) hc
  rw [if_pos (by decide), show sl h 1 2 = _ from (sl_n (h := h) (o := 1) (i := 2) (by decide) rfl).trans C.2.2.1] at this
  exact this
theorem c_cnt {g : GG} {h : HH} {σ : SG} (W : WF σ) (C : RC (h 2) σ) {as : List SG} (R : RA h as) {n : Nat} (hn : h 5 1 = n) : CeI mX5_count g [vr 0, vi 0] h (sP σ) ∧ CeI mX5_count g [vr 0, vi 1] h (sE σ) ∧ CeI mX5_count g [vr 0, vi 2] h (sF σ) ∧ CeI mX5_count g [vr 0, vi 3] h (as.length : Int) ∧ CeI mX5_count g [vr 0, vi 4] h (n : Int) := by
  have c := fun (w : Int) (hw : R32 w) => c_X5_count (g := g) W C hn (a := as.length) R.2.1 hw
  refine ⟨?_, ?_, ?_, ?_, ?_⟩
  · have := c 0 (by decide)
    rw [if_pos rfl] at this; exact this
  · have := c 1 (by decide)
    rw [if_neg (by decide), if_pos rfl] at this; exact this
  · have := c 2 (by decide)
    rw [if_neg (by decide), if_neg (by decide), if_pos rfl] at this; exact this
  · have := c 3 (by decide)
    rw [if_neg (by decide), if_neg (by decide), if_neg (by decide), if_pos rfl] at this; exact this
  · have := c 4 (by decide)
    rw [if_neg (by decide), if_neg (by decide), if_neg (by decide), if_neg (by decide), if_pos rfl] at this; exact this
theorem c_cel1 {g : GG} {h : HH} {σ : SG} (W : WF σ) (C : RC (h 2) σ) {c : Nat} (hc : c < sE σ) : CeI mX5_cell g [vr 0, vi 1, vi (c : Int), vi 0] h (sew σ c) ∧ CeI mX5_cell g [vr 0, vi 1, vi (c : Int), vi 1] h (sfr σ c) ∧ CeI mX5_cell g [vr 0, vi 1, vi (c : Int), vi 2] h (sto σ c) ∧ CeI mX5_cell g [vr 0, vi 1, vi (c : Int), vi 10] h kBAD := by
  have k := fun (w : Int) (hw : R32 w) => c_X5_cell1 (g := g) W C hc hw
  refine ⟨?_, ?_, ?_, ?_⟩
  · have := k 0 (by decide)
    rw [if_pos rfl] at this; exact this
  · have := k 1 (by decide)
    rw [if_neg (by decide), if_pos rfl] at this; exact this
  · have := k 2 (by decide)
    rw [if_neg (by decide), if_neg (by decide), if_pos rfl] at this; exact this
  · have := k 10 (by decide)
    rw [if_neg (by decide), if_neg (by decide), if_neg (by decide)] at this; exact this
theorem c_cel2 {g : GG} {h : HH} {σ : SG} (W : WF σ) (C : RC (h 2) σ) {c : Nat} (hc : c < sF σ) : CeI mX5_cell g [vr 0, vi 2, vi (c : Int), vi 0] h (sfw σ c) ∧ CeI mX5_cell g [vr 0, vi 2, vi (c : Int), vi 1] h (swl σ c) ∧ CeI mX5_cell g [vr 0, vi 2, vi (c : Int), vi 2] h (bgn σ c 0) ∧ CeI mX5_cell g [vr 0, vi 2, vi (c : Int), vi 14] h kBAD := by
  have k := fun (w : Int) (hw : R32 w) => c_X5_cell2 (g := g) W C hc hw
  refine ⟨?_, ?_, ?_, ?_⟩
  · have := k 0 (by decide)
    rw [if_pos rfl] at this; exact this
  · have := k 1 (by decide)
    rw [if_neg (by decide), if_pos rfl] at this; exact this
  · have := k 2 (by decide)
    rw [if_neg (by decide), if_neg (by decide), if_pos rfl] at this; exact this
  · have := k 14 (by decide)
    rw [if_neg (by decide), if_neg (by decide), if_neg (by decide), if_pos (by decide)] at this; exact this
theorem c_celL {g : GG} {h : HH} {σ : SG} (W : WF σ) (C : RC (h 2) σ) {c k : Nat} (hc : c < sF σ) (hk : k < 4) : CeI mX5_cell g [vr 0, vi 2, vi (c : Int), vi (10 + (k : Int))] h (if k < swl σ c then cod (sle σ c k) (ssg σ c k) else kNONE) := by
  have := c_X5_cell2 (g := g) W C hc (w := 10 + (k : Int)) (by omega)
  rw [if_neg (by omega), if_neg (by omega), if_neg (by omega), if_neg (by omega), show (10 + (k : Int) - 10).toNat = k by omega] at this
  by_cases q : k < swl σ c
  · rw [if_pos q]; rw [if_pos (by omega)] at this; exact this
  · rw [if_neg q]; rw [if_neg (by omega)] at this; exact this
theorem c_as_w {g : GG} {h : HH} {d : Int} {c : Nat} {k : Int} {r : Prop} {P : Int → Prop} (hP : ∀ z : Int, ((r ∧ z = c) ∨ (¬ r ∧ z = kNONE)) → P z) (q : CpI mX5_as g [vr 0, vi d, vi (c : Int), vi k] h (fun z => (r ∧ z = c) ∨ (¬ r ∧ z = kNONE))) : CpI mX5_as g [vr 0, vi d, vi (c : Int), vi k] h P :=
  cn_weak q (fun _ _ h => by
    obtain ⟨z, e, p, e2⟩ := h
    exact ⟨z, e, hP z p, e2⟩)
theorem c_as0 {g : GG} {h : HH} {σ : SG} (W : WF σ) (C : RC (h 2) σ) {c : Nat} (hc : c < sP σ) : CpI mX5_as g [vr 0, vi 0, vi (c : Int), vi 0] h (fun z => z = c) ∧ CpI mX5_as g [vr 0, vi 0, vi (c : Int), vi 1] h (fun z => z = c) ∧ CpI mX5_as g [vr 0, vi 0, vi (c : Int), vi 2] h (fun z => z = kNONE) := by
  have w1 := W.1
  have r : 0 ≤ (c : Int) ∧ (c : Int) < sP σ := by omega
  refine ⟨c_as_w ?_ (c_X5_as1 W C (by decide) (by omega) (by decide) (hc_0 C (by omega)) r (c_X0_kind0 isC1 W C (by decide) (by omega))), c_as_w ?_ (c_X5_as1 W C (by decide) (by omega) (by decide) (hc_0 C (by omega)) r (c_X0_kind1 isC1 W C (by decide) (by omega))), c_as_w ?_ (c_X5_as1 W C (by decide) (by omega) (by decide) (hc_0 C (by omega)) r (c_X0_kind2 isC1 W C (by decide) (by omega)))⟩
  · rintro z (⟨-, q⟩ | ⟨q, -⟩)
    · exact q
    · exact absurd trivial q
  · rintro z (⟨-, q⟩ | ⟨q, -⟩)
    · exact q
    · exact absurd rfl q
  · rintro z (⟨q, -⟩ | ⟨-, q⟩)
    · exact absurd q (by decide)
    · exact q
theorem c_as1 {g : GG} {h : HH} {σ : SG} (W : WF σ) (C : RC (h 2) σ) {c k : Nat} (hc : c < sE σ) (hk : k < 6) : CpI mX5_as g [vr 0, vi 1, vi (c : Int), vi (k : Int)] h (fun z => (z = c ∧ (k = 0 ∨ k = 2 ∨ (k = 3 ∧ sfr σ c = sto σ c))) ∨ (z = kNONE ∧ ¬ (k = 0 ∨ k = 2 ∨ (k = 3 ∧ sfr σ c = sto σ c)))) := by
  have w2 := W.2.1
  have r : 0 ≤ (c : Int) ∧ (c : Int) < sE σ := by omega
  have r1 : R32 (1 : Int) := by decide
  have rc : R32 (c : Int) := by omega
  rcases (show k = 0 ∨ k = 1 ∨ k = 2 ∨ k = 3 ∨ k = 4 ∨ k = 5 by omega) with rfl | rfl | rfl | rfl | rfl | rfl
  · refine c_as_w ?_ (c_X5_as1 W C r1 (by omega) (by decide) (hc_1 C rc) r (c_X0_kind0 isC1 W C r1 (by omega)))
    rintro z (⟨-, q⟩ | ⟨q, -⟩)
    · exact Or.inl ⟨q, Or.inl rfl⟩
    · exact absurd trivial q
  · refine c_as_w ?_ (c_X5_as1 W C r1 (by omega) (by decide) (hc_1 C rc) r (c_X0_kind1 isC1 W C r1 (by omega)))
    rintro z (⟨q, -⟩ | ⟨-, q⟩)
    · omega
    · exact Or.inr ⟨q, by omega⟩
  · refine c_as_w ?_ (c_X5_as1 W C r1 (by omega) (by decide) (hc_1 C rc) r (c_X0_kind2 isC1 W C r1 (by omega)))
    rintro z (⟨-, q⟩ | ⟨q, -⟩)
    · exact Or.inl ⟨q, by omega⟩
    · exact absurd rfl q
  · refine c_as_w ?_ (c_X5_as1 W C r1 (by omega) (by decide) (hc_1 C rc) r (c_X0_kind3 isC1 W C r1 (by omega) (fun _ => hc)))
    rintro z (⟨q, q2⟩ | ⟨q, q2⟩)
    · exact Or.inl ⟨q2, by omega⟩
    · exact Or.inr ⟨q2, by omega⟩
  · refine c_as_w ?_ (c_X5_as1 W C r1 (by omega) (by decide) (hc_1 C rc) r (c_X0_kind4 isC1 W C r1 (by omega)))
    rintro z (⟨q, -⟩ | ⟨-, q⟩)
    · omega
    · exact Or.inr ⟨q, by omega⟩
  · refine c_as_w ?_ (c_X5_as1 W C r1 (by omega) (by decide) (hc_1 C rc) r (c_X0_kind5 isC1 W C r1 (by omega) (fun q => by omega)))
    rintro z (⟨q, -⟩ | ⟨-, q⟩)
    · exact absurd q.1 (by decide)
    · exact Or.inr ⟨q, by omega⟩
theorem c_as2 {g : GG} {h : HH} {σ : SG} (W : WF σ) (C : RC (h 2) σ) {c k : Nat} (hc : c < sF σ) (hk : k < 6) : CpI mX5_as g [vr 0, vi 2, vi (c : Int), vi (k : Int)] h (fun z => (z = c ∧ (k = 0 ∨ k = 4 ∨ (k = 5 ∧ bi (sld σ c) = 1))) ∨ (z = kNONE ∧ ¬ (k = 0 ∨ k = 4 ∨ (k = 5 ∧ bi (sld σ c) = 1)))) := by
  have w3 := W.2.2.1
  have r : 0 ≤ (c : Int) ∧ (c : Int) < sF σ := by omega
  have r1 : R32 (2 : Int) := by decide
  have rc : R32 (c : Int) := by omega
  rcases (show k = 0 ∨ k = 1 ∨ k = 2 ∨ k = 3 ∨ k = 4 ∨ k = 5 by omega) with rfl | rfl | rfl | rfl | rfl | rfl
  · refine c_as_w ?_ (c_X5_as1 W C r1 (by omega) (by decide) (hc_2 C rc) r (c_X0_kind0 isC1 W C r1 (by omega)))
    rintro z (⟨-, q⟩ | ⟨q, -⟩)
    · exact Or.inl ⟨q, Or.inl rfl⟩
    · exact absurd trivial q
  · refine c_as_w ?_ (c_X5_as1 W C r1 (by omega) (by decide) (hc_2 C rc) r (c_X0_kind1 isC1 W C r1 (by omega)))
    rintro z (⟨q, -⟩ | ⟨-, q⟩)
    · omega
    · exact Or.inr ⟨q, by omega⟩
  · refine c_as_w ?_ (c_X5_as1 W C r1 (by omega) (by decide) (hc_2 C rc) r (c_X0_kind2 isC1 W C r1 (by omega)))
    rintro z (⟨q, -⟩ | ⟨-, q⟩)
    · omega
    · exact Or.inr ⟨q, by omega⟩
  · refine c_as_w ?_ (c_X5_as1 W C r1 (by omega) (by decide) (hc_2 C rc) r (c_X0_kind3 isC1 W C r1 (by omega) (fun q => by omega)))
    rintro z (⟨q, -⟩ | ⟨-, q⟩)
    · exact absurd q.1 (by decide)
    · exact Or.inr ⟨q, by omega⟩
  · refine c_as_w ?_ (c_X5_as1 W C r1 (by omega) (by decide) (hc_2 C rc) r (c_X0_kind4 isC1 W C r1 (by omega)))
    rintro z (⟨-, q⟩ | ⟨q, -⟩)
    · exact Or.inl ⟨q, by omega⟩
    · exact absurd rfl q
  · refine c_as_w ?_ (c_X5_as1 W C r1 (by omega) (by decide) (hc_2 C rc) r (c_X0_kind5 isC1 W C r1 (by omega) (fun _ => hc)))
    rintro z (⟨q, q2⟩ | ⟨q, q2⟩)
    · exact Or.inl ⟨q2, Or.inr (Or.inr ⟨rfl, (bi_t q.2).symm⟩)⟩
    · have : bi (sld σ c) = 0 := (bi_f fun z => q ⟨rfl, z⟩).symm
      exact Or.inr ⟨q2, by omega⟩
theorem cod_b {e : Nat} (b : Bool) (he : e < 26) : R32 (cod e b) := by have := cod_r b he; omega

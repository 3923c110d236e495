theorem pEndW_sp {σ : SG} {tk : Nat → Int} {L : PW} (h0 : L.1.2 = 0) (hn : L.2.1 = 0) : pEndW σ tk L = (L.1.1, 1) := by
  have e : pA σ tk L = L.1 := pA_f (fun q => by omega)
  rw [pEndW_t (by rw [e]; exact ⟨h0, hn⟩), e]
theorem pEndW_id {σ : SG} {tk : Nat → Int} {L : PW} (hn : 0 < L.2.1) (h : tk L.1.1 ≠ 59 ∨ wcl σ L.2.1 L.2.2.1 L.2.2.2) : pEndW σ tk L = L.1 := by
  have e : pA σ tk L = L.1 := pA_f (fun q => h.elim (fun r => r q.2.1) (fun r => q.2.2.2 r))
  rw [pEndW_f (fun q => by omega), e]
theorem pEndW_op {σ : SG} {tk : Nat → Int} {L : PW} (h0 : L.1.2 = 0) (hn : 0 < L.2.1) (h59 : tk L.1.1 = 59) (hc : ¬ wcl σ L.2.1 L.2.2.1 L.2.2.2) : pEndW σ tk L = (L.1.1, 2) := by
  have e : pA σ tk L = (L.1.1, 2) := pA_t ⟨h0, h59, hn, hc⟩
  rw [pEndW_f (fun q => by omega), e]
theorem tld_r {σ : SG} (z : Int) : -27 ≤ tld σ z ∧ tld σ z ≤ 27 := by
  unfold tld; split
  · rename_i q
    have := edg_b z
    exact lcd_r _ (by omega)
  · omega
theorem pWord_long {σ : SG} {tk : Nat → Int} : ∀ (m n : Nat) (le : Nat → Nat) (sg : Nat → Bool) (i : Nat), n ≤ 4 → 4 < n + m → pWord σ tk m n le sg i = none
  | 0, n, le, sg, i, h1, h2 => by omega
  | m + 1, n, le, sg, i, h1, h2 => by
    by_cases q : apOK σ n le sg (tk i)
    · rw [pWord_t q]; exact pWord_long m (n + 1) _ _ _ q.1 (by omega)
    · exact pWord_f q
theorem pWord_0t {σ : SG} {tk : Nat → Int} {n : Nat} {le : Nat → Nat} {sg : Nat → Bool} {i : Nat} (h : wcl σ n le sg) : pWord σ tk 0 n le sg i = some (n, le, sg) := if_pos h
theorem pWord_0f {σ : SG} {tk : Nat → Int} {n : Nat} {le : Nat → Nat} {sg : Nat → Bool} {i : Nat} (h : ¬ wcl σ n le sg) : pWord σ tk 0 n le sg i = none := if_neg h
/-- the letters of a word are its own; the rest of the row is as it was -/
def WFr (F : Nat) (f f' : Nat → Int) : Prop := ∀ j, j ≤ 21 + 6 * F ∨ 21 + 6 * F + 5 < j → f' j = f j
theorem WFr.rm {F : Nat} {f f' : Nat → Int} (w : WFr F f f') {σ : SG} (W : WB σ) (R : RM f σ) (hF : sF σ ≤ F) (h4 : F < 4) : RM f' σ := rm_low W R (fun j hj => w j (by omega))
theorem WFr.push {F : Nat} {f f' : Nat → Int} (w : WFr F f f') {n : Nat} (hn : n < 4) (v x : Int) : WFr F f (upn (upn f' (21 + 6 * F + 2 + n) v) (21 + 6 * F + 1) x) := fun j hj => by
  rw [upn_ne (by omega), upn_ne (by omega)]; exact w j hj
def setW (σ : SG) (F n : Nat) (le : Nat → Nat) (sg : Nat → Bool) : SG := ((sP σ, sE σ, sF σ), sfr σ, sto σ, sew σ, sfw σ, (fun k => if k = F then n else swl σ k), (fun k j => if k = F then le j else sle σ k j), (fun k j => if k = F then sg j else ssg σ k j), sch σ)
theorem WB_setW {σ : SG} (W : WB σ) {F n : Nat} (hn : n ≤ 4) (le : Nat → Nat) (sg : Nat → Bool) : WB (setW σ F n le sg) := ⟨W.1, W.2.1, W.2.2.1, fun f hf => by
  show (if f = F then n else swl σ f) ≤ 4
  split
  · exact hn
  · exact W.2.2.2 f hf⟩
theorem rm_setW {f f' : Nat → Int} {σ : SG} {F n : Nat} {le : Nat → Nat} {sg : Nat → Bool} (W : WB σ) (R : RM f σ) (w : WFr F f f') (wl : WL f' σ F n le sg) : RM f' (setW σ F n le sg) := by
  obtain ⟨c1, c2, c3, c4, c5, c6⟩ := R
  obtain ⟨l1, l2, l3, l4⟩ := wl
  have w2 := W.2.1
  have w3 := W.2.2.1
  refine ⟨?_, ?_, ?_, fun e he => ?_, fun k hk => ?_, fun c e hc he => ?_⟩
  · rw [w 0 (by omega)]; exact c1
  · rw [w 1 (by omega)]; exact c2
  · rw [w 2 (by omega)]; exact c3
  · have he : e < sE σ := he
    rw [w _ (by omega), w _ (by omega), w _ (by omega)]; exact c4 e he
  · have hk : k < sF σ := hk
    obtain ⟨d1, d2, d3⟩ := c5 k hk
    have w4 := W.2.2.2 k hk
    by_cases q : k = F
    · subst q
      have e2 : swl (setW σ k n le sg) k = n := if_pos rfl
      refine ⟨by rw [w _ (by omega)]; exact d1, by rw [e2]; exact l3, fun j hj => ?_⟩
      rw [e2] at hj
      have e3 : sle (setW σ k n le sg) k j = le j := if_pos rfl
      have e4 : ssg (setW σ k n le sg) k j = sg j := if_pos rfl
      rw [(l4 j hj).1, e3, e4]; rfl
    · have e2 : swl (setW σ F n le sg) k = swl σ k := if_neg q
      refine ⟨by rw [w _ (by omega)]; exact d1, by rw [e2, w _ (by omega)]; exact d2, fun j hj => ?_⟩
      rw [e2] at hj
      have e3 : sle (setW σ F n le sg) k j = sle σ k j := if_neg q
      have e4 : ssg (setW σ F n le sg) k j = ssg σ k j := if_neg q
      rw [w _ (by omega), d3 j hj, e3, e4]
  · have he : e < sE σ := he
    rw [w _ (by omega)]; exact c6 c e hc he

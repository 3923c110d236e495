theorem pEndW_sp {σ : SG} {tk : Nat → Int} {L : PW} (h0 : L.1.2 = 0) (hn : L.2.1 = 0) : pEndW σ tk L = (L.1.1, 1) := by
  have e : pA σ tk L = L.1 := pA_f (fun q => by omega)
  rw [pEndW_t (by rw [e]; exact ⟨h0, hn⟩), e]
theorem pEndW_id {σ : SG} {tk : Nat → Int} {L : PW} (hn : 0 < L.2.1) (h : tk L.1.1 ≠ 59 ∨ wcl σ L.2.1 L.2.2.1 L.2.2.2) : pEndW σ tk L = L.1 := by
  have e : pA σ tk L = L.1 := pA_f (fun q => h.elim (fun r => r q.2.1) (fun r => q.2.2.2 r))
  rw [pEndW_f (fun q => by omega), e]
theorem pEndW_op {σ : SG} {tk : Nat → Int} {L : PW} (h0 : L.1.2 = 0) (hn : 0 < L.2.1) (h59 : tk L.1.1 = 59) (hc : ¬ wcl σ L.2.1 L.2.2.1 L.2.2.2) : pEndW σ tk L = (L.1.1, 2) := by
  have e : pA σ tk L = (L.1.1, 2) := pA_t ⟨h0, h59, hn, hc⟩
  rw [pEndW_f (fun q => by omega), e]
theorem tld_r {σ : SG} (z : Int) : -27 ≤ tld σ z ∧ tld σ z ≤ 27 := by
  unfold tld; split
  · rename_i q
    have := edg_b z
    exact lcd_r _ (by omega)
  · omega
theorem pWord_long {σ : SG} {tk : Nat → Int} : ∀ (m n : Nat) (le : Nat → Nat) (sg : Nat → Bool) (i : Nat), n ≤ 4 → 4 < n + m → pWord σ tk m n le sg i = none
  | 0, n, le, sg, i, h1, h2 => by omega
  | m + 1, n, le, sg, i, h1, h2 => by
    by_cases q : apOK σ n le sg (tk i)
    · rw [pWord_t q]; exact pWord_long m (n + 1) _ _ _ q.1 (by omega)
    · exact pWord_f q
theorem pWord_0t {σ : SG} {tk : Nat → Int} {n : Nat} {le : Nat → Nat} {sg : Nat → Bool} {i : Nat} (h : wcl σ n le sg) : pWord σ tk 0 n le sg i = some (n, le, sg) := if_pos h
theorem pWord_0f {σ : SG} {tk : Nat → Int} {n : Nat} {le : Nat → Nat} {sg : Nat → Bool} {i : Nat} (h : ¬ wcl σ n le sg) : pWord σ tk 0 n le sg i = none := if_neg h
/-- the letters of a word are its own; the rest of the row is as it was -/
def WFr (F : Nat) (f f' : Nat → Int) : Prop := ∀ j, j ≤ 21 + 6 * F ∨ 21 + 6 * F + 5 < j → f' j = f j
theorem WFr.rm {F : Nat} {f f' : Nat → Int} (w : WFr F f f') {σ : SG} (W : WB σ) (R : RM f σ) (hF : sF σ ≤ F) (h4 : F < 4) : RM f' σ := rm_low W R (fun j hj => w j (by omega))
theorem WFr.push {F : Nat} {f f' : Nat → Int} (w : WFr F f f') {n : Nat} (hn : n < 4) (v x : Int) : WFr F f (upn (upn f' (21 + 6 * F + 2 + n) v) (21 + 6 * F + 1) x) := fun j hj => by
  rw [upn_ne (by omega), upn_ne (by omega)]; exact w j hj

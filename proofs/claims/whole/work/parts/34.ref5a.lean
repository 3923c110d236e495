theorem shA_0 (f : Nat → Int) (d : Nat) : shA f d (3 + 3 * d) = f := by
  funext j; unfold shA; rw [if_neg (by omega)]
theorem shB_0 (f : Nat → Int) (d : Nat) : shB f d 0 = f := by
  funext j; unfold shB; rw [if_neg (by omega)]
theorem shAB_1 {f : Nat → Int} {d : Nat} : shB (shA f d 18) d 18 1 = f 1 := by
  unfold shB; rw [if_neg (by omega)]; unfold shA; rw [if_neg (by omega)]
theorem lowN_at {f : Nat → Int} {x : Int} {σ : SG} {d k : Nat} (hD : RM (upn f 1 x) (lowN (cutE σ d) d k)) (h1 : k / 4 < sF σ) (h2 : k % 4 < swl σ (k / 4)) : f (21 + 6 * (k / 4) + 2 + k % 4) = lcd (sle σ (k / 4) (k % 4)) (ssg σ (k / 4) (k % 4)) := by
  have := (hD.2.2.2.2.1 (k / 4) h1).2.2 (k % 4) h2
  rw [upn_ne (by omega), show sle (lowN (cutE σ d) d k) (k / 4) (k % 4) = sle σ (k / 4) (k % 4) from if_neg (by omega)] at this
  exact this
theorem lowN_wl {f : Nat → Int} {x : Int} {σ : SG} {d k : Nat} (hD : RM (upn f 1 x) (lowN (cutE σ d) d k)) (h1 : k / 4 < sF σ) : f (21 + 6 * (k / 4) + 1) = swl σ (k / 4) := by
  have := (hD.2.2.2.2.1 (k / 4) h1).2.1
  rw [upn_ne (by omega)] at this
  exact this
theorem lowN_F {f : Nat → Int} {x : Int} {σ : SG} {d k : Nat} (hD : RM (upn f 1 x) (lowN (cutE σ d) d k)) : f 2 = sF σ := by
  have := hD.2.2.1
  rw [upn_ne (by decide)] at this
  exact this
theorem lowN_skipU {f : Nat → Int} {x : Int} {σ : SG} {d k p : Nat} (W : WB σ) (hk : swl σ (k / 4) ≤ k % 4 ∨ ¬ d < sle σ (k / 4) (k % 4)) (hD : RM (upn f 1 x) (lowN (cutE σ d) d k)) : RM (upn (upn f p (f p + 0)) 1 x) (lowN (cutE σ d) d (k + 1)) := by
  rw [upn_self (Int.add_zero _)]
  exact lowN_skip (WB_cut W d) hk hD
theorem lowN_putU {f : Nat → Int} {x : Int} {σ : SG} {d k p : Nat} {v : Int} (W : WB σ) (hn : k < 4 * sF σ) (hk : k % 4 < swl σ (k / 4)) (hd : d < sle σ (k / 4) (k % 4)) (hp : p = 21 + 6 * (k / 4) + 2 + k % 4) (hD : RM (upn f 1 x) (lowN (cutE σ d) d k)) (hv : v = if lcd (sle σ (k / 4) (k % 4)) (ssg σ (k / 4) (k % 4)) < 0 then 1 else -1) : RM (upn (upn f p (f p + v)) 1 x) (lowN (cutE σ d) d (k + 1)) := by
  rw [upn_comm (by omega)]
  refine lowN_put (WB_cut W d) hn hk hd hp ?_ hD
  show _ = lcd (sle σ (k / 4) (k % 4) - 1) (ssg σ (k / 4) (k % 4))
  rw [lcd_down _ (by omega), hp, lowN_at hD (by omega) hk, hv]
theorem shD_0 (f : Nat → Int) (d : Nat) : shD f d (21 + 6 * d) = f := by
  funext j; unfold shD; rw [if_neg (by omega)]

theorem RC_congr {f f' : Nat → Int} {σ : SG} (W : WB σ) (C : RC f σ) (h : ∀ j, j < 63 → f' j = f j) : RC f' σ := by
  obtain ⟨c1, c2, c3, c4, c5, c6⟩ := C
  have w2 := W.2.1
  have w3 := W.2.2.1
  refine ⟨?_, ?_, ?_, fun e he => ?_, fun k hk => ?_, fun c e hc he => ?_⟩
  · rw [h 0 (by decide)]; exact c1
  · rw [h 1 (by decide)]; exact c2
  · rw [h 2 (by decide)]; exact c3
  · rw [h _ (by omega), h _ (by omega), h _ (by omega)]; exact c4 e he
  · have w4 := W.2.2.2 k hk
    obtain ⟨d1, d2, d3⟩ := c5 k hk
    exact ⟨by rw [h _ (by omega)]; exact d1, by rw [h _ (by omega)]; exact d2, fun j hj => by rw [h _ (by omega)]; exact d3 j hj⟩
  · rw [h _ (by omega)]; exact c6 c e hc he
theorem shpK {q : Nat} (h : q < 8) : shp (36 + q) = (1, 63, []) := by
  rcases (show q = 0 ∨ q = 1 ∨ q = 2 ∨ q = 3 ∨ q = 4 ∨ q = 5 ∨ q = 6 ∨ q = 7 by omega) with rfl | rfl | rfl | rfl | rfl | rfl | rfl | rfl <;> rfl
theorem shpI {q : Nat} (h : q < 2) : shp (45 + q) = (1, 63, []) := by
  rcases (show q = 0 ∨ q = 1 by omega) with rfl | rfl <;> rfl
/-- the class's acts, latest first -/
def RA (h : HH) (as : List SG) : Prop := as.length ≤ 8 ∧ h 0 9 = as.length ∧ ∃ nw : Nat, nw < 8 ∧ h 0 8 = nw ∧ ∀ k σ', as[k]? = some σ' → RC (h (36 + (nw + 8 - k) % 8)) σ' ∧ WF σ'
def keepH (h : HH) (q a : Nat) : HH := up (cpy (up h 0 8 q) 2 (36 + q) 63) 0 9 (min ((a : Int) + 1) 8)
theorem keepH_ne (h : HH) {q a k : Nat} (h0 : k ≠ 0) (hq : k ≠ 36 + q) : keepH h q a k = h k := by
  unfold keepH; rw [up_ne _ _ _ h0, cpy_ne _ hq, up_ne _ _ _ h0]
theorem keepH_0 (h : HH) {q a j : Nat} (h8 : j ≠ 8) (h9 : j ≠ 9) : keepH h q a 0 j = h 0 j := by
  unfold keepH; rw [up_at, cpy_ne _ (by omega), up_at]; simp [h8, h9]
theorem ra_keep {h : HH} {σ : SG} {as : List SG} {nw : Nat} (W : WF σ) (C : RC (h 2) σ) (hl : as.length ≤ 8) (hn : nw < 8) (hR : ∀ k σ', as[k]? = some σ' → RC (h (36 + (nw + 8 - k) % 8)) σ' ∧ WF σ') : RA (keepH h ((nw + 1) % 8) as.length) ((σ :: as).take 8) := by
  have hq : (nw + 1) % 8 < 8 := Nat.mod_lt _ (by decide)
  refine ⟨by rw [List.length_take]; omega, ?_, (nw + 1) % 8, hq, ?_, fun k σ' hk => ?_⟩
  · unfold keepH; rw [up_same, List.length_take, List.length_cons]; omega
  · unfold keepH; rw [up_at, cpy_ne _ (by omega), up_at]; rfl
  · rw [List.getElem?_take] at hk
    split at hk
    · rename_i hk8
      match k, hk with
      | 0, hk =>
        cases hk
        refine ⟨RC_congr W.wb C fun j hj => ?_, W⟩
        rw [show (nw + 1) % 8 + 8 - 0 = (nw + 1) % 8 + 8 by omega, Nat.add_mod_right, Nat.mod_mod]
        unfold keepH
        rw [up_ne _ _ _ (by omega), cpy_at]
        simp only [if_pos hj]
        rw [up_ne _ _ _ (by decide)]
      | k + 1, hk =>
        have := hR k σ' hk
        have e : ((nw + 1) % 8 + 8 - (k + 1)) % 8 = (nw + 8 - k) % 8 := by omega
        rw [e, keepH_ne h (by omega) (by omega)]
        exact this
    · cases hk
set_option maxRecDepth 100000 in
set_option maxHeartbeats 4000000 in
theorem c_X5_keepAct {g : GG} {h : HH} {nw a : Nat} (hn : nw < 8) (ha8 : a ≤ 8) (h8 : h 0 8 = nw) (h9 : h 0 9 = a) : CnV mX5_keepAct g [vr 0] h (fun h' => h' = keepH h ((nw + 1) % 8) a) := by
  refine cn_q (lv := [vr 0]) tX5_keepAct.1 rfl rfl (fun hR Q hQ => ?_)
  refine z_aload_n dX5_keepAct_0 rfl ?_
  refine z_aload_n dX5_keepAct_1 rfl ?_
  refine z_getI fX5_55 dX5_keepAct_2 (by decide) rfl rfl (fun r2 => ?_)
  refine z_iconst dX5_keepAct_5 ?_
  refine z_iadd dX5_keepAct_6 ?_
  refine z_bipush dX5_keepAct_7 (by decide) ?_
  refine z_irem dX5_keepAct_9 (by omega) (by decide) (by decide) ?_
  rw [h8, show ((nw : Int) + 1).tmod 8 = (((nw + 1) % 8 : Nat) : Int) from rfl]
  obtain ⟨q, eq, hq⟩ : ∃ q, q = (nw + 1) % 8 ∧ q < 8 := ⟨_, rfl, Nat.mod_lt _ (by decide)⟩
  rw [← eq] at hQ ⊢
  refine z_putI pX5_55 dX5_keepAct_10 (by decide) rfl rfl (by omega) ?_
  refine z_aload_n dX5_keepAct_13 rfl ?_
  refine z_getI fX5_55 dX5_keepAct_14 (by decide) rfl rfl (fun r14 => ?_)
  refine z_aload_n dX5_keepAct_17 rfl ?_
  refine z_getR fX5_49 dX5_keepAct_18 (by decide) rfl rfl ?_
  refine z_alen dX5_keepAct_21 (by decide) rfl (by decide) ?_
  rw [up_same]
  refine z_callS_eI (M := mX5_keepAct) [_, _] tX5_isWithin kX5_101 dX5_keepAct_22 ⟨by decide, by decide⟩ rfl (Nat.le_of_ble_eq_true rfl) rfl (c_X5_isWithin (by omega) (by decide)) ?_
  refine z_if_eq 44 dX5_keepAct_25 (by decide) (bi_r _) (fun c25 => ?_) (fun c25 => ?_)
  · have c25 := bi_eq.mp c25
    exact absurd ⟨by omega, by omega⟩ c25
  · have c25 := bi_ne.mp c25
    refine z_aload_n dX5_keepAct_28 rfl ?_
    refine z_getR fX5_10 dX5_keepAct_29 (by decide) rfl rfl ?_
    refine z_aload_n dX5_keepAct_32 rfl ?_
    refine z_getR fX5_49 dX5_keepAct_33 (by decide) rfl rfl ?_
    refine z_aload_n dX5_keepAct_36 rfl ?_
    refine z_getI fX5_55 dX5_keepAct_37 (by decide) rfl rfl (fun r37 => ?_)
    rw [up_same]
    refine z_aaloadI dX5_keepAct_40 (by decide) rfl (by omega) (by omega) (by decide) ?_
    rw [show 36 + ((q : Nat) : Int).toNat = 36 + q from rfl]
    refine z_callV_V (M := mX5_keepAct) [_] tX0_saveTo kX5_275 dX5_keepAct_41 ⟨by decide, rfl, _, _, rfl⟩ ⟨by decide, by decide⟩ rfl (Nat.le_of_ble_eq_true rfl) rfl (c_X0_saveTo isC1 (by omega) (shpK hq)) (fun h41 q41 => ?_)
    rw [q41, show 1 + 1 = 2 from rfl]
    refine z_aload_n dX5_keepAct_44 rfl ?_
    refine z_aload_n dX5_keepAct_45 rfl ?_
    refine z_getI fX5_59 dX5_keepAct_46 (by decide) rfl rfl (fun r46 => ?_)
    rw [cpy_ne _ (show (0 : Nat) ≠ 36 + q by omega), show up h 0 8 q 0 9 = h 0 9 from by rw [up_at]; rfl, h9]
    refine z_iconst dX5_keepAct_49 ?_
    refine z_iadd dX5_keepAct_50 ?_
    refine z_bipush dX5_keepAct_51 (by decide) ?_
    refine z_min kMin5 dX5_keepAct_53 (by omega) (by omega) ⟨by decide, by decide⟩ (Nat.le_of_ble_eq_true rfl) ?_
    refine z_putI pX5_59 dX5_keepAct_56 (by decide) rfl rfl (by omega) ?_
    exact z_return dX5_keepAct_59 rfl (hQ _ _ ⟨rfl, rfl⟩)

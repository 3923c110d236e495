/-! TAKE, in one go. -/
theorem tk_3 {σ : SG} {c : Nat} {h h1 : HH} (L : LCh h h1 σ c (sE σ)) : TKh σ c 3 h h1 :=
  ⟨L.gs, L.2.1, fun e he => ⟨(L.2.2.2 e he).2.1, (L.2.2.2 e he).2.2⟩, 1, sch σ c, pv3.mpr ⟨rfl, fun _ _ => rfl⟩, by decide, by decide, L.2.2.1, fun e he => (L.2.2.2 e he).1⟩
/-- the shadow itself is the part -/
theorem tk_01 {σ : SG} {c p : Nat} {h h1 : HH} {d : Int} {y : Nat → Int} (G : GS h h1) (M : MC h1 σ c) (hV : PartV σ c p d y) (d0 : 0 < d) (hd : d.natAbs ≤ 2 ^ 50) (hy : ∀ e, e < sE σ → h1 34 e = y e) : TKh σ c p h (up (setc h1 19 (shf (h1 19) (h1 34) (sE σ))) 18 1 d) := by
  refine ⟨fun k hk => ?_, ?_, fun e he => ?_, d, y, hV, d0, hd, up_same _ _ _ _, fun e he => ?_⟩
  · rw [up_ne _ _ _ (by omega), setc_ne _ _ (by omega)]; exact G k hk
  · rw [up_o _ _ (by decide), setc_ne _ _ (by decide)]; exact M.1
  · rw [up_ne _ _ _ (by decide), up_ne _ _ _ (by decide), setc_ne _ _ (by decide), setc_ne _ _ (by decide)]; exact M.2 e he
  · rw [up_ne _ _ _ (by decide), setc_at]
    unfold shf
    rw [if_pos he]; exact hy e he
theorem tk_2 {σ : SG} {c : Nat} {h h1 : HH} {d0 d1 : Int} {y0 y1 : Nat → Int} (G : GS h h1) (M : MC h1 σ c) (hV0 : PartV σ c 0 d0 y0) (hV1 : PartV σ c 1 d1 y1) (p0 : 0 < d0) (p1 : 0 < d1) (hd : (d0 * d1).natAbs ≤ 2 ^ 50) (ha : ∀ e, e < sE σ → h1 19 e = sch σ c e * d0 - y0 e * 1) (hy : ∀ e, e < sE σ → h1 34 e = y1 e) :
    TKh σ c 2 h (up (setc h1 19 (tkf (h1 19) (h1 34) d1 (1 * d0) (sE σ))) 18 1 (1 * d0 * d1)) := by
  refine ⟨fun k hk => ?_, ?_, fun e he => ?_, d0 * d1, fun e => (sch σ c e * d0 - y0 e) * d1 - y1 e * d0, pv2.mpr ⟨d0, y0, d1, y1, hV0, hV1, rfl, fun _ _ => rfl⟩, Int.mul_pos p0 p1, hd, by rw [up_same, Int.one_mul], fun e he => ?_⟩
  · rw [up_ne _ _ _ (by omega), setc_ne _ _ (by omega)]; exact G k hk
  · rw [up_o _ _ (by decide), setc_ne _ _ (by decide)]; exact M.1
  · rw [up_ne _ _ _ (by decide), up_ne _ _ _ (by decide), setc_ne _ _ (by decide), setc_ne _ _ (by decide)]; exact M.2 e he
  · rw [up_ne _ _ _ (by decide), setc_at]
    unfold tkf
    rw [if_pos he, ha e he, hy e he, Int.mul_one, Int.one_mul]
theorem tw_b {σ : SG} (W : WF σ) {c : Nat} {S T : Nat → Bool} {d0 d1 : Int} (hF : dT (sF σ) (KS S (GMF σ c)) ≠ 0) (hD : dT (sP σ) (KS T (GMD σ c)) ≠ 0) (b0 : d0.natAbs ≤ 384 ^ cnS (sF σ) S) (b1 : d1.natAbs ≤ 216 ^ cnS (sP σ) T) : (d0 * d1).natAbs ≤ 2 ^ 50 := by
  have rs := rank_sum W hF hD
  have w1 := W.1
  have w2 := W.2.1
  have w3 := W.2.2.1
  rw [Int.natAbs_mul]
  exact Nat.le_trans (Nat.mul_le_mul b0 b1) (pw_pr (by have := cnS_le (sF σ) S; omega) (by have := cnS_le (sP σ) T; omega) (by omega))
theorem tk_q0 {σ : SG} (W : WF σ) {c : Nat} (hc : c < 3) {d : Int} {y : Nat → Int} (hV : PartV σ c 0 d y) (hd : d.natAbs ≤ 2 ^ 40) : ∀ e, e < sE σ → R64 (sch σ c e * d - y e * 1) := fun e he => by
  have yb := (pv_b W hc (by decide) hV).2.2 e he
  have s := W.2.2.2.2.2 c e hc he
  have h1 : (sch σ c e * d).natAbs ≤ 9 * 2 ^ 40 := by
    rw [Int.natAbs_mul]
    exact Nat.mul_le_mul (by omega) hd
  omega
theorem tk_q1 {σ : SG} (W : WF σ) {c : Nat} (hc : c < 3) {d0 d1 : Int} {y0 y1 : Nat → Int} (hV0 : PartV σ c 0 d0 y0) (hV1 : PartV σ c 1 d1 y1) (hd : (d0 * d1).natAbs ≤ 2 ^ 50) : (∀ e, e < sE σ → R64 ((sch σ c e * d0 - y0 e * 1) * d1 - y1 e * (1 * d0))) ∧ R64 (1 * d0 * d1) := by
  have hV : PartV σ c 2 (d0 * d1) (fun e => (sch σ c e * d0 - y0 e) * d1 - y1 e * d0) := pv2.mpr ⟨d0, y0, d1, y1, hV0, hV1, rfl, fun _ _ => rfl⟩
  refine ⟨fun e he => ?_, ?_⟩
  · have yb := (pv_b W hc (by decide) hV).2.2 e he
    rw [Int.mul_one, Int.one_mul]
    omega
  · rw [Int.one_mul]; omega

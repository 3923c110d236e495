def setWE (σ : SG) (c w : Nat) : SG := ((sP σ, sE σ, sF σ), sfr σ, sto σ, (fun e => if e = c then w else sew σ e), sfw σ, swl σ, sle σ, ssg σ, sch σ)
def setWF (σ : SG) (c w : Nat) : SG := ((sP σ, sE σ, sF σ), sfr σ, sto σ, sew σ, (fun f => if f = c then w else sfw σ f), swl σ, sle σ, ssg σ, sch σ)
def setCh (σ : SG) (c e : Nat) (v : Int) : SG := ((sP σ, sE σ, sF σ), sfr σ, sto σ, sew σ, sfw σ, swl σ, sle σ, ssg σ, fun c' e' => if c' = c ∧ e' = e then v else sch σ c' e')
theorem rc_setWE {f : Nat → Int} {σ : SG} (W : WB σ) (C : RC f σ) {c w : Nat} (hc : c < sE σ) : RC (upn f (15 + c) w) (setWE σ c w) := by
  obtain ⟨c1, c2, c3, c4, c5, c6⟩ := C
  have w2 := W.2.1
  have w3 := W.2.2.1
  refine ⟨by rw [upn_ne (by omega)]; exact c1, by rw [upn_ne (by omega)]; exact c2, by rw [upn_ne (by omega)]; exact c3, fun e he => ?_, fun k hk => ?_, fun c' e hc' he => ?_⟩
  · have he : e < sE σ := he
    obtain ⟨d1, d2, d3⟩ := c4 e he
    refine ⟨by rw [upn_ne (by omega)]; exact d1, by rw [upn_ne (by omega)]; exact d2, ?_⟩
    by_cases q : e = c
    · subst q; rw [upn_eq rfl]; simp [setWE, sew]
    · rw [upn_ne (by omega), d3]; simp [setWE, sew, q]
  · have hk : k < sF σ := hk
    have w4 := W.2.2.2 k hk
    obtain ⟨d1, d2, d3⟩ := c5 k hk
    exact ⟨by rw [upn_ne (by omega)]; exact d1, by rw [upn_ne (by omega)]; exact d2, fun j hj => by have hj : j < swl σ k := hj; rw [upn_ne (by omega)]; exact d3 j hj⟩
  · rw [upn_ne (by omega)]; exact c6 c' e hc' he
theorem rc_setWF {f : Nat → Int} {σ : SG} (W : WB σ) (C : RC f σ) {c w : Nat} (hc : c < sF σ) : RC (upn f (21 + c) w) (setWF σ c w) := by
  obtain ⟨c1, c2, c3, c4, c5, c6⟩ := C
  have w2 := W.2.1
  have w3 := W.2.2.1
  refine ⟨by rw [upn_ne (by omega)]; exact c1, by rw [upn_ne (by omega)]; exact c2, by rw [upn_ne (by omega)]; exact c3, fun e he => ?_, fun k hk => ?_, fun c' e hc' he => ?_⟩
  · have he : e < sE σ := he
    obtain ⟨d1, d2, d3⟩ := c4 e he
    exact ⟨by rw [upn_ne (by omega)]; exact d1, by rw [upn_ne (by omega)]; exact d2, by rw [upn_ne (by omega)]; exact d3⟩
  · have hk : k < sF σ := hk
    have w4 := W.2.2.2 k hk
    obtain ⟨d1, d2, d3⟩ := c5 k hk
    refine ⟨?_, by rw [upn_ne (by omega)]; exact d2, fun j hj => by have hj : j < swl σ k := hj; rw [upn_ne (by omega)]; exact d3 j hj⟩
    by_cases q : k = c
    · subst q; rw [upn_eq rfl]; simp [setWF, sfw]
    · rw [upn_ne (by omega), d1]; simp [setWF, sfw, q]
  · rw [upn_ne (by omega)]; exact c6 c' e hc' he
theorem rc_setCh {f : Nat → Int} {σ : SG} (W : WB σ) (C : RC f σ) {c e : Nat} (v : Int) (hc : c < 3) (he : e < sE σ) : RC (upn f (45 + c * 6 + e) v) (setCh σ c e v) := by
  obtain ⟨c1, c2, c3, c4, c5, c6⟩ := C
  have w2 := W.2.1
  have w3 := W.2.2.1
  refine ⟨by rw [upn_ne (by omega)]; exact c1, by rw [upn_ne (by omega)]; exact c2, by rw [upn_ne (by omega)]; exact c3, fun e' he' => ?_, fun k hk => ?_, fun c' e' hc' he' => ?_⟩
  · have he' : e' < sE σ := he'
    obtain ⟨d1, d2, d3⟩ := c4 e' he'
    exact ⟨by rw [upn_ne (by omega)]; exact d1, by rw [upn_ne (by omega)]; exact d2, by rw [upn_ne (by omega)]; exact d3⟩
  · have hk : k < sF σ := hk
    have w4 := W.2.2.2 k hk
    obtain ⟨d1, d2, d3⟩ := c5 k hk
    exact ⟨by rw [upn_ne (by omega)]; exact d1, by rw [upn_ne (by omega)]; exact d2, fun j hj => by have hj : j < swl σ k := hj; rw [upn_ne (by omega)]; exact d3 j hj⟩
  · have he' : e' < sE σ := he'
    by_cases q : c' = c ∧ e' = e
    · obtain ⟨rfl, rfl⟩ := q; rw [upn_eq rfl]; simp [setCh, sch]
    · rw [upn_ne (by omega), c6 c' e' hc' he']; simp [setCh, sch, q]
/-- an act was done: the complex is the new one, the old one is kept -/
def ActP (h h' : HH) (σ : SG) (as : List SG) (σ' : SG) : Prop := RC (h' 2) σ' ∧ RA h' ((σ :: as).take 8) ∧ (∀ k, k ≠ 0 → k ≠ 2 → (k < 36 ∨ 44 ≤ k) → h' k = h k) ∧ ∀ j, j ≠ 8 → j ≠ 9 → h' 0 j = h 0 j
theorem RA_keep {h h' : HH} {as : List SG} (R : RA h as) (h0 : ∀ j, j = 8 ∨ j = 9 → h' 0 j = h 0 j) (hk : ∀ k, 36 ≤ k → k < 44 → h' k = h k) : RA h' as := by
  obtain ⟨r1, r2, nw, r3, r4, r5⟩ := R
  refine ⟨r1, by rw [h0 9 (Or.inr rfl)]; exact r2, nw, r3, by rw [h0 8 (Or.inl rfl)]; exact r4, fun k σ' e => ?_⟩
  have := Nat.mod_lt (nw + 8 - k) (show 0 < 8 by decide)
  rw [hk _ (by omega) (by omega)]
  exact r5 k σ' e
theorem act_of {h : HH} {σ : SG} {as : List SG} {nw : Nat} (W : WF σ) (C : RC (h 2) σ) (hl : as.length ≤ 8) (hn : nw < 8) (hR : ∀ k σ', as[k]? = some σ' → RC (h (36 + (nw + 8 - k) % 8)) σ' ∧ WF σ') {f' : Nat → Int} {σ' : SG} (C' : RC f' σ') : ActP h (setc (keepH h ((nw + 1) % 8) as.length) 2 f') σ as σ' := by
  have hq : (nw + 1) % 8 < 8 := Nat.mod_lt _ (by decide)
  refine ⟨by rw [setc_at]; exact C', RA_keep (ra_keep W C hl hn hR) (fun j _ => by rw [setc_ne _ _ (by decide)]) (fun k k1 k2 => by rw [setc_ne _ _ (by omega)]), fun k k0 k2 k3 => ?_, fun j j8 j9 => ?_⟩
  · rw [setc_ne _ _ k2, keepH_ne h k0 (by omega)]
  · rw [setc_ne _ _ (by decide), keepH_0 h j8 j9]
/-- the numbers of a chain from a list: drawn, bounded -/
def chS (σ : SG) (c k : Nat) (v : Nat → Int) : SG := ((sP σ, sE σ, sF σ), sfr σ, sto σ, sew σ, sfw σ, swl σ, sle σ, ssg σ, fun c' e' => if c' = c ∧ e' < k then v e' else sch σ c' e')
theorem chS_0 {f : Nat → Int} {σ : SG} (c : Nat) (v : Nat → Int) (C : RC f σ) : RC f (chS σ c 0 v) := by
  obtain ⟨c1, c2, c3, c4, c5, c6⟩ := C
  refine ⟨c1, c2, c3, c4, c5, fun c' e hc he => ?_⟩
  show _ = if c' = c ∧ e < 0 then v e else sch σ c' e
  rw [if_neg (by omega)]; exact c6 c' e hc he
theorem chS_s {f : Nat → Int} {σ : SG} (W : WB σ) {c k : Nat} {v : Nat → Int} (hc : c < 3) (hk : k < sE σ) (C : RC f (chS σ c k v)) {z : Int} (hz : z = v k) : RC (upn f (45 + c * 6 + k) z) (chS σ c (k + 1) v) := by
  have := rc_setCh (σ := chS σ c k v) W C z hc hk
  obtain ⟨c1, c2, c3, c4, c5, c6⟩ := this
  refine ⟨c1, c2, c3, c4, c5, fun c' e hc' he => ?_⟩
  rw [c6 c' e hc' he]
  show (if c' = c ∧ e = k then z else if c' = c ∧ e < k then v e else sch σ c' e) = if c' = c ∧ e < k + 1 then v e else sch σ c' e
  by_cases q : c' = c ∧ e = k
  · rw [if_pos q, if_pos (by omega), hz, q.2]
  · rw [if_neg q]
    by_cases q2 : c' = c ∧ e < k
    · rw [if_pos q2, if_pos (by omega)]
    · rw [if_neg q2, if_neg (by omega)]
theorem WF_chS {σ : SG} (W : WF σ) {c k : Nat} {v : Nat → Int} (hv : ∀ e, e < k → -9 ≤ v e ∧ v e ≤ 9) : WF (chS σ c k v) := by
  obtain ⟨w1, w2, w3, w4, w5, w6⟩ := W
  refine ⟨w1, w2, w3, w4, w5, fun c' e hc he => ?_⟩
  show -9 ≤ (if c' = c ∧ e < k then v e else sch σ c' e) ∧ (if c' = c ∧ e < k then v e else sch σ c' e) ≤ 9
  split
  · rename_i q; exact hv e q.2
  · exact w6 c' e hc he
def bndV (σ : SG) (c f : Nat) (t : Int) (e : Nat) : Int := sch σ c e + t * ent2 σ e f
def dX (s : Int) : Nat → Int
  | 0 => s
  | k + 1 => (dX s k * 16807).tmod 2147483647
def drV (s : Int) (e : Nat) : Int := (dX s (e + 1)).tmod 19 - 9
theorem dX_r {s : Int} (h : 0 ≤ s ∧ s < 2147483647) : ∀ k, 0 ≤ dX s k ∧ dX s k < 2147483647
  | 0 => h
  | k + 1 => by
    have ih := dX_r h k
    have h1 : 0 ≤ dX s k * 16807 := by omega
    refine ⟨Int.tmod_nonneg _ h1, Int.tmod_lt_of_pos _ (by decide)⟩
theorem drV_r {s : Int} (h : 0 ≤ s ∧ s < 2147483647) (e : Nat) : -9 ≤ drV s e ∧ drV s e ≤ 9 := by
  have h1 := dX_r h (e + 1)
  have h2 := Int.tmod_nonneg 19 h1.1
  have h3 := Int.tmod_lt_of_pos (dX s (e + 1)) (show (0 : Int) < 19 by decide)
  unfold drV
  omega
theorem mul_b {t x : Int} (ht : -9 ≤ t ∧ t ≤ 9) (hx : -4 ≤ x ∧ x ≤ 4) : -36 ≤ t * x ∧ t * x ≤ 36 := by
  have : x = -4 ∨ x = -3 ∨ x = -2 ∨ x = -1 ∨ x = 0 ∨ x = 1 ∨ x = 2 ∨ x = 3 ∨ x = 4 := by omega
  rcases this with rfl | rfl | rfl | rfl | rfl | rfl | rfl | rfl | rfl <;> omega
set_option maxRecDepth 100000 in
set_option maxHeartbeats 4000000 in
theorem c_X5_weighN {g : GG} {h : HH} {σ : SG} (W : WF σ) (C : RC (h 2) σ) {d : Int} (hd : R32 d) (hn : d ≠ 1 ∧ d ≠ 2) {c : Int} (hc : R32 c) {w : Int} (hw : R32 w) : CeI mX5_weigh g [vr 0, vi d, vi c, vi w] h kBAD := by
  refine cn_q (lv := [vr 0, vi d, vi c, vi w, vx]) tX5_weigh.1 rfl rfl (fun hR Q hQ => ?_)
  refine z_aload_n dX5_weigh_0 rfl ?_
  refine z_iload_n dX5_weigh_1 rfl ?_
  refine z_iload_n dX5_weigh_2 rfl ?_
  refine z_callV_eI (M := mX5_weigh) [_, _] tX5_isUpperCell kX5_106 dX5_weigh_3 ⟨by decide, rfl, _, _, rfl⟩ ⟨by decide, by decide⟩ rfl (Nat.le_of_ble_eq_true rfl) rfl (c_X5_upperN W C (by omega) hn (by omega)) ?_
  refine z_if_eq 16 dX5_weigh_6 (by decide) (bi_r _) (fun c6 => ?_) (fun c6 => ?_)
  · have c6 := bi_eq.mp c6
    refine z_ldc (-1000001) dX5_weigh_16 qX5_65 rfl ?_
    exact z_ireturn dX5_weigh_18 rfl (hQ _ _ ⟨_, rfl, rfl, rfl⟩)
  · have c6 := bi_ne.mp c6
    exact c6.elim
set_option maxRecDepth 100000 in
set_option maxHeartbeats 4000000 in
theorem c_X5_weighO1 {g : GG} {h : HH} {σ : SG} (W : WF σ) (C : RC (h 2) σ) {c : Int} (hc : R32 c) {w : Int} (hw : R32 w) (ho : ¬ (0 ≤ c ∧ c < sE σ ∧ 1 ≤ w ∧ w ≤ 3)) : CeI mX5_weigh g [vr 0, vi 1, vi c, vi w] h kBAD := by
  refine cn_q (lv := [vr 0, vi 1, vi c, vi w, vx]) tX5_weigh.1 rfl rfl (fun hR Q hQ => ?_)
  refine z_aload_n dX5_weigh_0 rfl ?_
  refine z_iload_n dX5_weigh_1 rfl ?_
  refine z_iload_n dX5_weigh_2 rfl ?_
  refine z_callV_eI (M := mX5_weigh) [_, _] tX5_isUpperCell kX5_106 dX5_weigh_3 ⟨by decide, rfl, _, _, rfl⟩ ⟨by decide, by decide⟩ rfl (Nat.le_of_ble_eq_true rfl) rfl (c_X5_upper1 W C (by omega)) ?_
  refine z_if_eq 16 dX5_weigh_6 (by decide) (bi_r _) (fun c6 => ?_) (fun c6 => ?_)
  · have c6 := bi_eq.mp c6
    refine z_ldc (-1000001) dX5_weigh_16 qX5_65 rfl ?_
    exact z_ireturn dX5_weigh_18 rfl (hQ _ _ ⟨_, rfl, rfl, rfl⟩)
  · have c6 := bi_ne.mp c6
    refine z_iload_n dX5_weigh_9 rfl ?_
    refine z_callS_eI (M := mX5_weigh) [_] tX5_isWeight kX5_109 dX5_weigh_10 ⟨by decide, by decide⟩ rfl (Nat.le_of_ble_eq_true rfl) rfl (c_X5_isWeight (by omega)) ?_
    refine z_if_ne 19 dX5_weigh_13 (by decide) (bi_r _) (fun c13 => ?_) (fun c13 => ?_)
    · have c13 := bi_ne.mp c13
      omega
    · have c13 := bi_eq.mp c13
      refine z_ldc (-1000001) dX5_weigh_16 qX5_65 rfl ?_
      exact z_ireturn dX5_weigh_18 rfl (hQ _ _ ⟨_, rfl, rfl, rfl⟩)
set_option maxRecDepth 100000 in
set_option maxHeartbeats 4000000 in
theorem c_X5_weigh1 {g : GG} {h : HH} {σ : SG} (W : WF σ) (C : RC (h 2) σ) {as : List SG} (R : RA h as) {c w : Nat} (hc : c < sE σ) (hw : 1 ≤ w ∧ w ≤ 3) : CnI mX5_weigh g [vr 0, vi 1, vi (c : Int), vi (w : Int)] h (fun z h' => z = sew σ c ∧ ActP h h' σ as (setWE σ c w)) := by
  refine cn_q (lv := [vr 0, vi 1, vi (c : Int), vi (w : Int), vx]) tX5_weigh.1 rfl rfl (fun hR Q hQ => ?_)
  have w1 := W.1
  have w2 := W.2.1
  have w3 := W.2.2.1
  obtain ⟨ra1, ra9, nw, hnw, ra8, raR⟩ := id R
  have C2 : RC ((keepH h ((nw + 1) % 8) as.length) 2) σ := by rw [keepH_ne h (by decide) (by omega)]; exact C
  refine z_aload_n dX5_weigh_0 rfl ?_
  refine z_iload_n dX5_weigh_1 rfl ?_
  refine z_iload_n dX5_weigh_2 rfl ?_
  refine z_callV_eI (M := mX5_weigh) [_, _] tX5_isUpperCell kX5_106 dX5_weigh_3 ⟨by decide, rfl, _, _, rfl⟩ ⟨by decide, by decide⟩ rfl (Nat.le_of_ble_eq_true rfl) rfl (c_X5_upper1 W C (by omega)) ?_
  refine z_if_eq 16 dX5_weigh_6 (by decide) (bi_r _) (fun c6 => ?_) (fun c6 => ?_)
  · have c6 := bi_eq.mp c6
    omega
  · have c6 := bi_ne.mp c6
    refine z_iload_n dX5_weigh_9 rfl ?_
    refine z_callS_eI (M := mX5_weigh) [_] tX5_isWeight kX5_109 dX5_weigh_10 ⟨by decide, by decide⟩ rfl (Nat.le_of_ble_eq_true rfl) rfl (c_X5_isWeight (by omega)) ?_
    refine z_if_ne 19 dX5_weigh_13 (by decide) (bi_r _) (fun c13 => ?_) (fun c13 => ?_)
    · have c13 := bi_ne.mp c13
      refine z_aload_n dX5_weigh_19 rfl ?_
      refine z_getR fX5_10 dX5_weigh_20 (by decide) rfl rfl ?_
      refine z_iload_n dX5_weigh_23 rfl ?_
      refine z_iload_n dX5_weigh_24 rfl ?_
      refine z_callV_eI (M := mX5_weigh) [_, _] tX0_weightOf kX5_112 dX5_weigh_25 ⟨by decide, rfl, _, _, rfl⟩ ⟨by decide, by decide⟩ rfl (Nat.le_of_ble_eq_true rfl) rfl (s_X0_weightE isC1 W.wb C hc) ?_
      refine z_istore dX5_weigh_28 (by decide) rfl ?_
      refine z_aload_n dX5_weigh_30 rfl ?_
      refine z_callV_V (M := mX5_weigh) [] tX5_keepAct kX5_116 dX5_weigh_31 ⟨by decide, rfl, _, _, rfl⟩ ⟨by decide, by decide⟩ rfl (Nat.le_of_ble_eq_true rfl) rfl (c_X5_keepAct hnw ra1 ra8 ra9) (fun h31 q31 => ?_)
      rw [q31]
      refine z_aload_n dX5_weigh_34 rfl ?_
      refine z_getR fX5_10 dX5_weigh_35 (by decide) rfl rfl ?_
      refine z_iload_n dX5_weigh_38 rfl ?_
      refine z_iload_n dX5_weigh_39 rfl ?_
      refine z_iload_n dX5_weigh_40 rfl ?_
      refine z_callV_V (M := mX5_weigh) [_, _, _] tX0_setWeight kX5_119 dX5_weigh_41 ⟨by decide, rfl, _, _, rfl⟩ ⟨by decide, by decide⟩ rfl (Nat.le_of_ble_eq_true rfl) rfl (c_X0_setWeight isC1 (by omega) (by omega) (by omega)) (fun h41 q41 => ?_)
      rw [if_pos rfl] at q41
      rw [q41, ss_n (i := 15 + c) (by omega) (by omega), show 1 + 1 = 2 from rfl]
      refine z_iload dX5_weigh_44 rfl ?_
      exact z_ireturn dX5_weigh_46 rfl (hQ _ _ ⟨_, rfl, ⟨rfl, act_of W C ra1 hnw raR (rc_setWE W.wb C2 hc)⟩⟩)
    · have c13 := bi_eq.mp c13
      omega
set_option maxRecDepth 100000 in
set_option maxHeartbeats 4000000 in
theorem c_X5_weighO2 {g : GG} {h : HH} {σ : SG} (W : WF σ) (C : RC (h 2) σ) {c : Int} (hc : R32 c) {w : Int} (hw : R32 w) (ho : ¬ (0 ≤ c ∧ c < sF σ ∧ 1 ≤ w ∧ w ≤ 3)) : CeI mX5_weigh g [vr 0, vi 2, vi c, vi w] h kBAD := by
  refine cn_q (lv := [vr 0, vi 2, vi c, vi w, vx]) tX5_weigh.1 rfl rfl (fun hR Q hQ => ?_)
  refine z_aload_n dX5_weigh_0 rfl ?_
  refine z_iload_n dX5_weigh_1 rfl ?_
  refine z_iload_n dX5_weigh_2 rfl ?_
  refine z_callV_eI (M := mX5_weigh) [_, _] tX5_isUpperCell kX5_106 dX5_weigh_3 ⟨by decide, rfl, _, _, rfl⟩ ⟨by decide, by decide⟩ rfl (Nat.le_of_ble_eq_true rfl) rfl (c_X5_upper2 W C (by omega)) ?_
  refine z_if_eq 16 dX5_weigh_6 (by decide) (bi_r _) (fun c6 => ?_) (fun c6 => ?_)
  · have c6 := bi_eq.mp c6
    refine z_ldc (-1000001) dX5_weigh_16 qX5_65 rfl ?_
    exact z_ireturn dX5_weigh_18 rfl (hQ _ _ ⟨_, rfl, rfl, rfl⟩)
  · have c6 := bi_ne.mp c6
    refine z_iload_n dX5_weigh_9 rfl ?_
    refine z_callS_eI (M := mX5_weigh) [_] tX5_isWeight kX5_109 dX5_weigh_10 ⟨by decide, by decide⟩ rfl (Nat.le_of_ble_eq_true rfl) rfl (c_X5_isWeight (by omega)) ?_
    refine z_if_ne 19 dX5_weigh_13 (by decide) (bi_r _) (fun c13 => ?_) (fun c13 => ?_)
    · have c13 := bi_ne.mp c13
      omega
    · have c13 := bi_eq.mp c13
      refine z_ldc (-1000001) dX5_weigh_16 qX5_65 rfl ?_
      exact z_ireturn dX5_weigh_18 rfl (hQ _ _ ⟨_, rfl, rfl, rfl⟩)
set_option maxRecDepth 100000 in
set_option maxHeartbeats 4000000 in
theorem c_X5_weigh2 {g : GG} {h : HH} {σ : SG} (W : WF σ) (C : RC (h 2) σ) {as : List SG} (R : RA h as) {c w : Nat} (hc : c < sF σ) (hw : 1 ≤ w ∧ w ≤ 3) : CnI mX5_weigh g [vr 0, vi 2, vi (c : Int), vi (w : Int)] h (fun z h' => z = sfw σ c ∧ ActP h h' σ as (setWF σ c w)) := by
  refine cn_q (lv := [vr 0, vi 2, vi (c : Int), vi (w : Int), vx]) tX5_weigh.1 rfl rfl (fun hR Q hQ => ?_)
  have w1 := W.1
  have w2 := W.2.1
  have w3 := W.2.2.1
  obtain ⟨ra1, ra9, nw, hnw, ra8, raR⟩ := id R
  have C2 : RC ((keepH h ((nw + 1) % 8) as.length) 2) σ := by rw [keepH_ne h (by decide) (by omega)]; exact C
  refine z_aload_n dX5_weigh_0 rfl ?_
  refine z_iload_n dX5_weigh_1 rfl ?_
  refine z_iload_n dX5_weigh_2 rfl ?_
  refine z_callV_eI (M := mX5_weigh) [_, _] tX5_isUpperCell kX5_106 dX5_weigh_3 ⟨by decide, rfl, _, _, rfl⟩ ⟨by decide, by decide⟩ rfl (Nat.le_of_ble_eq_true rfl) rfl (c_X5_upper2 W C (by omega)) ?_
  refine z_if_eq 16 dX5_weigh_6 (by decide) (bi_r _) (fun c6 => ?_) (fun c6 => ?_)
  · have c6 := bi_eq.mp c6
    omega
  · have c6 := bi_ne.mp c6
    refine z_iload_n dX5_weigh_9 rfl ?_
    refine z_callS_eI (M := mX5_weigh) [_] tX5_isWeight kX5_109 dX5_weigh_10 ⟨by decide, by decide⟩ rfl (Nat.le_of_ble_eq_true rfl) rfl (c_X5_isWeight (by omega)) ?_
    refine z_if_ne 19 dX5_weigh_13 (by decide) (bi_r _) (fun c13 => ?_) (fun c13 => ?_)
    · have c13 := bi_ne.mp c13
      refine z_aload_n dX5_weigh_19 rfl ?_
      refine z_getR fX5_10 dX5_weigh_20 (by decide) rfl rfl ?_
      refine z_iload_n dX5_weigh_23 rfl ?_
      refine z_iload_n dX5_weigh_24 rfl ?_
      refine z_callV_eI (M := mX5_weigh) [_, _] tX0_weightOf kX5_112 dX5_weigh_25 ⟨by decide, rfl, _, _, rfl⟩ ⟨by decide, by decide⟩ rfl (Nat.le_of_ble_eq_true rfl) rfl (s_X0_weightF isC1 W.wb C hc) ?_
      refine z_istore dX5_weigh_28 (by decide) rfl ?_
      refine z_aload_n dX5_weigh_30 rfl ?_
      refine z_callV_V (M := mX5_weigh) [] tX5_keepAct kX5_116 dX5_weigh_31 ⟨by decide, rfl, _, _, rfl⟩ ⟨by decide, by decide⟩ rfl (Nat.le_of_ble_eq_true rfl) rfl (c_X5_keepAct hnw ra1 ra8 ra9) (fun h31 q31 => ?_)
      rw [q31]
      refine z_aload_n dX5_weigh_34 rfl ?_
      refine z_getR fX5_10 dX5_weigh_35 (by decide) rfl rfl ?_
      refine z_iload_n dX5_weigh_38 rfl ?_
      refine z_iload_n dX5_weigh_39 rfl ?_
      refine z_iload_n dX5_weigh_40 rfl ?_
      refine z_callV_V (M := mX5_weigh) [_, _, _] tX0_setWeight kX5_119 dX5_weigh_41 ⟨by decide, rfl, _, _, rfl⟩ ⟨by decide, by decide⟩ rfl (Nat.le_of_ble_eq_true rfl) rfl (c_X0_setWeight isC1 (by omega) (by omega) (by omega)) (fun h41 q41 => ?_)
      rw [if_neg (by decide)] at q41
      rw [q41, ss_n (i := 21 + c) (by omega) (by omega), show 1 + 1 = 2 from rfl]
      refine z_iload dX5_weigh_44 rfl ?_
      exact z_ireturn dX5_weigh_46 rfl (hQ _ _ ⟨_, rfl, ⟨rfl, act_of W C ra1 hnw raR (rc_setWF W.wb C2 hc)⟩⟩)
    · have c13 := bi_eq.mp c13
      omega
set_option maxRecDepth 100000 in
set_option maxHeartbeats 4000000 in
theorem c_X5_edgeS {g : GG} {h : HH} {σ : SG} (W : WF σ) (C : RC (h 2) σ) {a b w : Int} (ha : R32 a) (hb : R32 b) (hw : R32 w) (h0 : sP σ = 0) : CeI mX5_edge g [vr 0, vi a, vi b, vi w] h kSTATE := by
  refine cn_q (lv := [vr 0, vi a, vi b, vi w]) tX5_edge.1 rfl rfl (fun hR Q hQ => ?_)
  refine z_aload_n dX5_edge_0 rfl ?_
  refine z_getR fX5_10 dX5_edge_1 (by decide) rfl rfl ?_
  refine z_callV_eI (M := mX5_edge) [] tX0_isThere kX5_123 dX5_edge_4 ⟨by decide, rfl, _, _, rfl⟩ ⟨by decide, by decide⟩ rfl (Nat.le_of_ble_eq_true rfl) rfl (s_X0_isThere isC1 C) ?_
  refine z_if_ne 13 dX5_edge_7 (by decide) (bi_r _) (fun c7 => ?_) (fun c7 => ?_)
  · have c7 := bi_ne.mp c7
    omega
  · have c7 := bi_eq.mp c7
    refine z_ldc (-1000002) dX5_edge_10 qX5_105 rfl ?_
    exact z_ireturn dX5_edge_12 rfl (hQ _ _ ⟨_, rfl, rfl, rfl⟩)
set_option maxRecDepth 100000 in
set_option maxHeartbeats 4000000 in
theorem c_X5_edgeO {g : GG} {h : HH} {σ : SG} (W : WF σ) (C : RC (h 2) σ) {a b w : Int} (ha : R32 a) (hb : R32 b) (hw : R32 w) (h0 : 0 < sP σ) (ho : ¬ (0 ≤ a ∧ a < sP σ ∧ 0 ≤ b ∧ b < sP σ ∧ 1 ≤ w ∧ w ≤ 3)) : CeI mX5_edge g [vr 0, vi a, vi b, vi w] h kBAD := by
  refine cn_q (lv := [vr 0, vi a, vi b, vi w]) tX5_edge.1 rfl rfl (fun hR Q hQ => ?_)
  refine z_aload_n dX5_edge_0 rfl ?_
  refine z_getR fX5_10 dX5_edge_1 (by decide) rfl rfl ?_
  refine z_callV_eI (M := mX5_edge) [] tX0_isThere kX5_123 dX5_edge_4 ⟨by decide, rfl, _, _, rfl⟩ ⟨by decide, by decide⟩ rfl (Nat.le_of_ble_eq_true rfl) rfl (s_X0_isThere isC1 C) ?_
  refine z_if_ne 13 dX5_edge_7 (by decide) (bi_r _) (fun c7 => ?_) (fun c7 => ?_)
  · have c7 := bi_ne.mp c7
    refine z_aload_n dX5_edge_13 rfl ?_
    refine z_getR fX5_10 dX5_edge_14 (by decide) rfl rfl ?_
    refine z_iconst dX5_edge_17 ?_
    refine z_iload_n dX5_edge_18 rfl ?_
    refine z_callV_eI (M := mX5_edge) [_, _] tX0_hasCell kX5_127 dX5_edge_19 ⟨by decide, rfl, _, _, rfl⟩ ⟨by decide, by decide⟩ rfl (Nat.le_of_ble_eq_true rfl) rfl (s_X0_has0 isC1 C (by omega)) ?_
    refine z_if_eq 44 dX5_edge_22 (by decide) (bi_r _) (fun c22 => ?_) (fun c22 => ?_)
    · have c22 := bi_eq.mp c22
      refine z_ldc (-1000001) dX5_edge_44 qX5_65 rfl ?_
      exact z_ireturn dX5_edge_46 rfl (hQ _ _ ⟨_, rfl, rfl, rfl⟩)
    · have c22 := bi_ne.mp c22
      refine z_aload_n dX5_edge_25 rfl ?_
      refine z_getR fX5_10 dX5_edge_26 (by decide) rfl rfl ?_
      refine z_iconst dX5_edge_29 ?_
      refine z_iload_n dX5_edge_30 rfl ?_
      refine z_callV_eI (M := mX5_edge) [_, _] tX0_hasCell kX5_127 dX5_edge_31 ⟨by decide, rfl, _, _, rfl⟩ ⟨by decide, by decide⟩ rfl (Nat.le_of_ble_eq_true rfl) rfl (s_X0_has0 isC1 C (by omega)) ?_
      refine z_if_eq 44 dX5_edge_34 (by decide) (bi_r _) (fun c34 => ?_) (fun c34 => ?_)
      · have c34 := bi_eq.mp c34
        refine z_ldc (-1000001) dX5_edge_44 qX5_65 rfl ?_
        exact z_ireturn dX5_edge_46 rfl (hQ _ _ ⟨_, rfl, rfl, rfl⟩)
      · have c34 := bi_ne.mp c34
        refine z_iload_n dX5_edge_37 rfl ?_
        refine z_callS_eI (M := mX5_edge) [_] tX5_isWeight kX5_109 dX5_edge_38 ⟨by decide, by decide⟩ rfl (Nat.le_of_ble_eq_true rfl) rfl (c_X5_isWeight (by omega)) ?_
        refine z_if_ne 47 dX5_edge_41 (by decide) (bi_r _) (fun c41 => ?_) (fun c41 => ?_)
        · have c41 := bi_ne.mp c41
          omega
        · have c41 := bi_eq.mp c41
          refine z_ldc (-1000001) dX5_edge_44 qX5_65 rfl ?_
          exact z_ireturn dX5_edge_46 rfl (hQ _ _ ⟨_, rfl, rfl, rfl⟩)
  · have c7 := bi_eq.mp c7
    omega
set_option maxRecDepth 100000 in
set_option maxHeartbeats 4000000 in
theorem c_X5_edgeF {g : GG} {h : HH} {σ : SG} (W : WF σ) (C : RC (h 2) σ) {a b w : Nat} (ha : a < sP σ) (hb : b < sP σ) (hw : 1 ≤ w ∧ w ≤ 3) (hE : sE σ = 6) : CeI mX5_edge g [vr 0, vi (a : Int), vi (b : Int), vi (w : Int)] h kFULL := by
  refine cn_q (lv := [vr 0, vi (a : Int), vi (b : Int), vi (w : Int)]) tX5_edge.1 rfl rfl (fun hR Q hQ => ?_)
  have w1 := W.1
  have w2 := W.2.1
  have w3 := W.2.2.1
  refine z_aload_n dX5_edge_0 rfl ?_
  refine z_getR fX5_10 dX5_edge_1 (by decide) rfl rfl ?_
  refine z_callV_eI (M := mX5_edge) [] tX0_isThere kX5_123 dX5_edge_4 ⟨by decide, rfl, _, _, rfl⟩ ⟨by decide, by decide⟩ rfl (Nat.le_of_ble_eq_true rfl) rfl (s_X0_isThere isC1 C) ?_
  refine z_if_ne 13 dX5_edge_7 (by decide) (bi_r _) (fun c7 => ?_) (fun c7 => ?_)
  · have c7 := bi_ne.mp c7
    refine z_aload_n dX5_edge_13 rfl ?_
    refine z_getR fX5_10 dX5_edge_14 (by decide) rfl rfl ?_
    refine z_iconst dX5_edge_17 ?_
    refine z_iload_n dX5_edge_18 rfl ?_
    refine z_callV_eI (M := mX5_edge) [_, _] tX0_hasCell kX5_127 dX5_edge_19 ⟨by decide, rfl, _, _, rfl⟩ ⟨by decide, by decide⟩ rfl (Nat.le_of_ble_eq_true rfl) rfl (s_X0_has0 isC1 C (by omega)) ?_
    refine z_if_eq 44 dX5_edge_22 (by decide) (bi_r _) (fun c22 => ?_) (fun c22 => ?_)
    · have c22 := bi_eq.mp c22
      omega
    · have c22 := bi_ne.mp c22
      refine z_aload_n dX5_edge_25 rfl ?_
      refine z_getR fX5_10 dX5_edge_26 (by decide) rfl rfl ?_
      refine z_iconst dX5_edge_29 ?_
      refine z_iload_n dX5_edge_30 rfl ?_
      refine z_callV_eI (M := mX5_edge) [_, _] tX0_hasCell kX5_127 dX5_edge_31 ⟨by decide, rfl, _, _, rfl⟩ ⟨by decide, by decide⟩ rfl (Nat.le_of_ble_eq_true rfl) rfl (s_X0_has0 isC1 C (by omega)) ?_
      refine z_if_eq 44 dX5_edge_34 (by decide) (bi_r _) (fun c34 => ?_) (fun c34 => ?_)
      · have c34 := bi_eq.mp c34
        omega
      · have c34 := bi_ne.mp c34
        refine z_iload_n dX5_edge_37 rfl ?_
        refine z_callS_eI (M := mX5_edge) [_] tX5_isWeight kX5_109 dX5_edge_38 ⟨by decide, by decide⟩ rfl (Nat.le_of_ble_eq_true rfl) rfl (c_X5_isWeight (by omega)) ?_
        refine z_if_ne 47 dX5_edge_41 (by decide) (bi_r _) (fun c41 => ?_) (fun c41 => ?_)
        · have c41 := bi_ne.mp c41
          refine z_aload_n dX5_edge_47 rfl ?_
          refine z_getR fX5_10 dX5_edge_48 (by decide) rfl rfl ?_
          refine z_iconst dX5_edge_51 ?_
          refine z_callV_eI (M := mX5_edge) [_] tX0_sizeOf kX5_97 dX5_edge_52 ⟨by decide, rfl, _, _, rfl⟩ ⟨by decide, by decide⟩ rfl (Nat.le_of_ble_eq_true rfl) rfl (s_X0_sizeE isC1 C) ?_
          refine z_bipush dX5_edge_55 (by decide) ?_
          refine z_icmp_lt 63 dX5_edge_57 (by decide) (by omega) (by omega) (fun c57 => ?_) (fun c57 => ?_)
          · omega
          · refine z_ldc (-1000003) dX5_edge_60 qX5_74 rfl ?_
            exact z_ireturn dX5_edge_62 rfl (hQ _ _ ⟨_, rfl, rfl, rfl⟩)
        · have c41 := bi_eq.mp c41
          omega
  · have c7 := bi_eq.mp c7
    omega
set_option maxRecDepth 100000 in
set_option maxHeartbeats 4000000 in
theorem c_X5_edge1 {g : GG} {h : HH} {σ : SG} (W : WF σ) (C : RC (h 2) σ) {as : List SG} (R : RA h as) {a b w : Nat} (ha : a < sP σ) (hb : b < sP σ) (hw : 1 ≤ w ∧ w ≤ 3) (hE : sE σ < 6) : CnI mX5_edge g [vr 0, vi (a : Int), vi (b : Int), vi (w : Int)] h (fun z h' => z = sE σ ∧ ActP h h' σ as (addE σ a b w)) := by
  refine cn_q (lv := [vr 0, vi (a : Int), vi (b : Int), vi (w : Int)]) tX5_edge.1 rfl rfl (fun hR Q hQ => ?_)
  have w1 := W.1
  have w2 := W.2.1
  have w3 := W.2.2.1
  obtain ⟨ra1, ra9, nw, hnw, ra8, raR⟩ := id R
  have C2 : RC ((keepH h ((nw + 1) % 8) as.length) 2) σ := by rw [keepH_ne h (by decide) (by omega)]; exact C
  refine z_aload_n dX5_edge_0 rfl ?_
  refine z_getR fX5_10 dX5_edge_1 (by decide) rfl rfl ?_
  refine z_callV_eI (M := mX5_edge) [] tX0_isThere kX5_123 dX5_edge_4 ⟨by decide, rfl, _, _, rfl⟩ ⟨by decide, by decide⟩ rfl (Nat.le_of_ble_eq_true rfl) rfl (s_X0_isThere isC1 C) ?_
  refine z_if_ne 13 dX5_edge_7 (by decide) (bi_r _) (fun c7 => ?_) (fun c7 => ?_)
  · have c7 := bi_ne.mp c7
    refine z_aload_n dX5_edge_13 rfl ?_
    refine z_getR fX5_10 dX5_edge_14 (by decide) rfl rfl ?_
    refine z_iconst dX5_edge_17 ?_
    refine z_iload_n dX5_edge_18 rfl ?_
    refine z_callV_eI (M := mX5_edge) [_, _] tX0_hasCell kX5_127 dX5_edge_19 ⟨by decide, rfl, _, _, rfl⟩ ⟨by decide, by decide⟩ rfl (Nat.le_of_ble_eq_true rfl) rfl (s_X0_has0 isC1 C (by omega)) ?_
    refine z_if_eq 44 dX5_edge_22 (by decide) (bi_r _) (fun c22 => ?_) (fun c22 => ?_)
    · have c22 := bi_eq.mp c22
      omega
    · have c22 := bi_ne.mp c22
      refine z_aload_n dX5_edge_25 rfl ?_
      refine z_getR fX5_10 dX5_edge_26 (by decide) rfl rfl ?_
      refine z_iconst dX5_edge_29 ?_
      refine z_iload_n dX5_edge_30 rfl ?_
      refine z_callV_eI (M := mX5_edge) [_, _] tX0_hasCell kX5_127 dX5_edge_31 ⟨by decide, rfl, _, _, rfl⟩ ⟨by decide, by decide⟩ rfl (Nat.le_of_ble_eq_true rfl) rfl (s_X0_has0 isC1 C (by omega)) ?_
      refine z_if_eq 44 dX5_edge_34 (by decide) (bi_r _) (fun c34 => ?_) (fun c34 => ?_)
      · have c34 := bi_eq.mp c34
        omega
      · have c34 := bi_ne.mp c34
        refine z_iload_n dX5_edge_37 rfl ?_
        refine z_callS_eI (M := mX5_edge) [_] tX5_isWeight kX5_109 dX5_edge_38 ⟨by decide, by decide⟩ rfl (Nat.le_of_ble_eq_true rfl) rfl (c_X5_isWeight (by omega)) ?_
        refine z_if_ne 47 dX5_edge_41 (by decide) (bi_r _) (fun c41 => ?_) (fun c41 => ?_)
        · have c41 := bi_ne.mp c41
          refine z_aload_n dX5_edge_47 rfl ?_
          refine z_getR fX5_10 dX5_edge_48 (by decide) rfl rfl ?_
          refine z_iconst dX5_edge_51 ?_
          refine z_callV_eI (M := mX5_edge) [_] tX0_sizeOf kX5_97 dX5_edge_52 ⟨by decide, rfl, _, _, rfl⟩ ⟨by decide, by decide⟩ rfl (Nat.le_of_ble_eq_true rfl) rfl (s_X0_sizeE isC1 C) ?_
          refine z_bipush dX5_edge_55 (by decide) ?_
          refine z_icmp_lt 63 dX5_edge_57 (by decide) (by omega) (by omega) (fun c57 => ?_) (fun c57 => ?_)
          · refine z_aload_n dX5_edge_63 rfl ?_
            refine z_callV_V (M := mX5_edge) [] tX5_keepAct kX5_116 dX5_edge_64 ⟨by decide, rfl, _, _, rfl⟩ ⟨by decide, by decide⟩ rfl (Nat.le_of_ble_eq_true rfl) rfl (c_X5_keepAct hnw ra1 ra8 ra9) (fun h64 q64 => ?_)
            rw [q64]
            refine z_aload_n dX5_edge_67 rfl ?_
            refine z_getR fX5_10 dX5_edge_68 (by decide) rfl rfl ?_
            refine z_iload_n dX5_edge_71 rfl ?_
            refine z_iload_n dX5_edge_72 rfl ?_
            refine z_iload_n dX5_edge_73 rfl ?_
            refine z_callV_V (M := mX5_edge) [_, _, _] tX0_addEdge kX5_130 dX5_edge_74 ⟨by decide, rfl, _, _, rfl⟩ ⟨by decide, by decide⟩ rfl (Nat.le_of_ble_eq_true rfl) rfl (c_X0_addEdge isC1 W.wb C2 (by omega) (by omega) (by omega) hE) (fun h74 q74 => ?_)
            obtain ⟨f', g1, g2⟩ := q74
            rw [g1, show 1 + 1 = 2 from rfl]
            refine z_aload_n dX5_edge_77 rfl ?_
            refine z_getR fX5_10 dX5_edge_78 (by decide) rfl rfl ?_
            refine z_iconst dX5_edge_81 ?_
            refine z_callV_eI (M := mX5_edge) [_] tX0_sizeOf kX5_97 dX5_edge_82 ⟨by decide, rfl, _, _, rfl⟩ ⟨by decide, by decide⟩ rfl (Nat.le_of_ble_eq_true rfl) rfl (s_X0_sizeE (σ := addE σ a b w) isC1 (by rw [show 1 + 1 = 2 from rfl, setc_at]; exact g2)) ?_
            refine z_iconst dX5_edge_85 ?_
            refine z_isub dX5_edge_86 ?_
            exact z_ireturn dX5_edge_87 rfl (hQ _ _ ⟨_, rfl, ⟨by show ((sE σ + 1 : Nat) : Int) - 1 = _; omega, act_of W C ra1 hnw raR g2⟩⟩)
          · omega
        · have c41 := bi_eq.mp c41
          omega
  · have c7 := bi_eq.mp c7
    omega
set_option maxRecDepth 100000 in
set_option maxHeartbeats 4000000 in
theorem c_X5_dropN {g : GG} {h : HH} {σ : SG} (W : WF σ) (C : RC (h 2) σ) {d : Int} (hd : R32 d) (hn : d ≠ 1 ∧ d ≠ 2) {c : Int} (hc : R32 c) : CeI mX5_drop g [vr 0, vi d, vi c] h kBAD := by
  refine cn_q (lv := [vr 0, vi d, vi c]) tX5_drop.1 rfl rfl (fun hR Q hQ => ?_)
  refine z_aload_n dX5_drop_0 rfl ?_
  refine z_iload_n dX5_drop_1 rfl ?_
  refine z_iload_n dX5_drop_2 rfl ?_
  refine z_callV_eI (M := mX5_drop) [_, _] tX5_isUpperCell kX5_106 dX5_drop_3 ⟨by decide, rfl, _, _, rfl⟩ ⟨by decide, by decide⟩ rfl (Nat.le_of_ble_eq_true rfl) rfl (c_X5_upperN W C (by omega) hn (by omega)) ?_
  refine z_if_ne 12 dX5_drop_6 (by decide) (bi_r _) (fun c6 => ?_) (fun c6 => ?_)
  · have c6 := bi_ne.mp c6
    exact c6.elim
  · have c6 := bi_eq.mp c6
    refine z_ldc (-1000001) dX5_drop_9 qX5_65 rfl ?_
    exact z_ireturn dX5_drop_11 rfl (hQ _ _ ⟨_, rfl, rfl, rfl⟩)
set_option maxRecDepth 100000 in
set_option maxHeartbeats 4000000 in
theorem c_X5_dropO1 {g : GG} {h : HH} {σ : SG} (W : WF σ) (C : RC (h 2) σ) {c : Int} (hc : R32 c) (ho : ¬ (0 ≤ c ∧ c < sE σ)) : CeI mX5_drop g [vr 0, vi 1, vi c] h kBAD := by
  refine cn_q (lv := [vr 0, vi 1, vi c]) tX5_drop.1 rfl rfl (fun hR Q hQ => ?_)
  refine z_aload_n dX5_drop_0 rfl ?_
  refine z_iload_n dX5_drop_1 rfl ?_
  refine z_iload_n dX5_drop_2 rfl ?_
  refine z_callV_eI (M := mX5_drop) [_, _] tX5_isUpperCell kX5_106 dX5_drop_3 ⟨by decide, rfl, _, _, rfl⟩ ⟨by decide, by decide⟩ rfl (Nat.le_of_ble_eq_true rfl) rfl (c_X5_upper1 W C (by omega)) ?_
  refine z_if_ne 12 dX5_drop_6 (by decide) (bi_r _) (fun c6 => ?_) (fun c6 => ?_)
  · have c6 := bi_ne.mp c6
    exact absurd c6 ho
  · have c6 := bi_eq.mp c6
    refine z_ldc (-1000001) dX5_drop_9 qX5_65 rfl ?_
    exact z_ireturn dX5_drop_11 rfl (hQ _ _ ⟨_, rfl, rfl, rfl⟩)
set_option maxRecDepth 100000 in
set_option maxHeartbeats 4000000 in
theorem c_X5_dropO2 {g : GG} {h : HH} {σ : SG} (W : WF σ) (C : RC (h 2) σ) {c : Int} (hc : R32 c) (ho : ¬ (0 ≤ c ∧ c < sF σ)) : CeI mX5_drop g [vr 0, vi 2, vi c] h kBAD := by
  refine cn_q (lv := [vr 0, vi 2, vi c]) tX5_drop.1 rfl rfl (fun hR Q hQ => ?_)
  refine z_aload_n dX5_drop_0 rfl ?_
  refine z_iload_n dX5_drop_1 rfl ?_
  refine z_iload_n dX5_drop_2 rfl ?_
  refine z_callV_eI (M := mX5_drop) [_, _] tX5_isUpperCell kX5_106 dX5_drop_3 ⟨by decide, rfl, _, _, rfl⟩ ⟨by decide, by decide⟩ rfl (Nat.le_of_ble_eq_true rfl) rfl (c_X5_upper2 W C (by omega)) ?_
  refine z_if_ne 12 dX5_drop_6 (by decide) (bi_r _) (fun c6 => ?_) (fun c6 => ?_)
  · have c6 := bi_ne.mp c6
    exact absurd c6 ho
  · have c6 := bi_eq.mp c6
    refine z_ldc (-1000001) dX5_drop_9 qX5_65 rfl ?_
    exact z_ireturn dX5_drop_11 rfl (hQ _ _ ⟨_, rfl, rfl, rfl⟩)
set_option maxRecDepth 100000 in
set_option maxHeartbeats 4000000 in
theorem c_X5_dropS {g : GG} {h : HH} {σ : SG} (W : WF σ) (C : RC (h 2) σ) {c : Nat} (hc : c < sE σ) (hs : sewn σ c) : CeI mX5_drop g [vr 0, vi 1, vi (c : Int)] h kSTATE := by
  refine cn_q (lv := [vr 0, vi 1, vi (c : Int)]) tX5_drop.1 rfl rfl (fun hR Q hQ => ?_)
  have w1 := W.1
  have w2 := W.2.1
  have w3 := W.2.2.1
  refine z_aload_n dX5_drop_0 rfl ?_
  refine z_iload_n dX5_drop_1 rfl ?_
  refine z_iload_n dX5_drop_2 rfl ?_
  refine z_callV_eI (M := mX5_drop) [_, _] tX5_isUpperCell kX5_106 dX5_drop_3 ⟨by decide, rfl, _, _, rfl⟩ ⟨by decide, by decide⟩ rfl (Nat.le_of_ble_eq_true rfl) rfl (c_X5_upper1 W C (by omega)) ?_
  refine z_if_ne 12 dX5_drop_6 (by decide) (bi_r _) (fun c6 => ?_) (fun c6 => ?_)
  · have c6 := bi_ne.mp c6
    refine z_iload_n dX5_drop_12 rfl ?_
    refine z_iconst dX5_drop_13 ?_
    refine z_icmp_ne 31 dX5_drop_14 (by decide) (by omega) (by omega) (fun c14 => ?_) (fun c14 => ?_)
    · omega
    · refine z_aload_n dX5_drop_17 rfl ?_
      refine z_getR fX5_10 dX5_drop_18 (by decide) rfl rfl ?_
      refine z_iload_n dX5_drop_21 rfl ?_
      refine z_callV_eI (M := mX5_drop) [_] tX0_isSewn kX5_140 dX5_drop_22 ⟨by decide, rfl, _, _, rfl⟩ ⟨by decide, by decide⟩ rfl (Nat.le_of_ble_eq_true rfl) rfl (c_X0_isSewn isC1 W C hc) ?_
      refine z_if_eq 31 dX5_drop_25 (by decide) (bi_r _) (fun c25 => ?_) (fun c25 => ?_)
      · have c25 := bi_eq.mp c25
        exact absurd hs c25
      · have c25 := bi_ne.mp c25
        refine z_ldc (-1000002) dX5_drop_28 qX5_105 rfl ?_
        exact z_ireturn dX5_drop_30 rfl (hQ _ _ ⟨_, rfl, rfl, rfl⟩)
  · have c6 := bi_eq.mp c6
    omega
set_option maxRecDepth 100000 in
set_option maxHeartbeats 4000000 in
theorem c_X5_drop1 {g : GG} {h : HH} {σ : SG} (W : WF σ) (C : RC (h 2) σ) {as : List SG} (R : RA h as) {c : Nat} (hc : c < sE σ) (hs : ¬ sewn σ c) : CnI mX5_drop g [vr 0, vi 1, vi (c : Int)] h (fun z h' => z = sE σ - 1 ∧ ActP h h' σ as (dropE σ c)) := by
  refine cn_q (lv := [vr 0, vi 1, vi (c : Int)]) tX5_drop.1 rfl rfl (fun hR Q hQ => ?_)
  have w1 := W.1
  have w2 := W.2.1
  have w3 := W.2.2.1
  obtain ⟨ra1, ra9, nw, hnw, ra8, raR⟩ := id R
  have C2 : RC ((keepH h ((nw + 1) % 8) as.length) 2) σ := by rw [keepH_ne h (by decide) (by omega)]; exact C
  have hl : ∀ f k, f < sF σ → k < swl σ f → sle σ f k < 26 := fun f k h1 h2 => by have := (W.2.2.2.2.1 f h1).2.2.2.2.1 k h2; omega
  refine z_aload_n dX5_drop_0 rfl ?_
  refine z_iload_n dX5_drop_1 rfl ?_
  refine z_iload_n dX5_drop_2 rfl ?_
  refine z_callV_eI (M := mX5_drop) [_, _] tX5_isUpperCell kX5_106 dX5_drop_3 ⟨by decide, rfl, _, _, rfl⟩ ⟨by decide, by decide⟩ rfl (Nat.le_of_ble_eq_true rfl) rfl (c_X5_upper1 W C (by omega)) ?_
  refine z_if_ne 12 dX5_drop_6 (by decide) (bi_r _) (fun c6 => ?_) (fun c6 => ?_)
  · have c6 := bi_ne.mp c6
    refine z_iload_n dX5_drop_12 rfl ?_
    refine z_iconst dX5_drop_13 ?_
    refine z_icmp_ne 31 dX5_drop_14 (by decide) (by omega) (by omega) (fun c14 => ?_) (fun c14 => ?_)
    · omega
    · refine z_aload_n dX5_drop_17 rfl ?_
      refine z_getR fX5_10 dX5_drop_18 (by decide) rfl rfl ?_
      refine z_iload_n dX5_drop_21 rfl ?_
      refine z_callV_eI (M := mX5_drop) [_] tX0_isSewn kX5_140 dX5_drop_22 ⟨by decide, rfl, _, _, rfl⟩ ⟨by decide, by decide⟩ rfl (Nat.le_of_ble_eq_true rfl) rfl (c_X0_isSewn isC1 W C hc) ?_
      refine z_if_eq 31 dX5_drop_25 (by decide) (bi_r _) (fun c25 => ?_) (fun c25 => ?_)
      · have c25 := bi_eq.mp c25
        refine z_aload_n dX5_drop_31 rfl ?_
        refine z_callV_V (M := mX5_drop) [] tX5_keepAct kX5_116 dX5_drop_32 ⟨by decide, rfl, _, _, rfl⟩ ⟨by decide, by decide⟩ rfl (Nat.le_of_ble_eq_true rfl) rfl (c_X5_keepAct hnw ra1 ra8 ra9) (fun h32 q32 => ?_)
        rw [q32]
        refine z_iload_n dX5_drop_35 rfl ?_
        refine z_iconst dX5_drop_36 ?_
        refine z_icmp_ne 51 dX5_drop_37 (by decide) (by omega) (by omega) (fun c37 => ?_) (fun c37 => ?_)
        · omega
        · refine z_aload_n dX5_drop_40 rfl ?_
          refine z_getR fX5_10 dX5_drop_41 (by decide) rfl rfl ?_
          refine z_iload_n dX5_drop_44 rfl ?_
          refine z_callV_V (M := mX5_drop) [_] tX0_removeEdge kX5_143 dX5_drop_45 ⟨by decide, rfl, _, _, rfl⟩ ⟨by decide, by decide⟩ rfl (Nat.le_of_ble_eq_true rfl) rfl (c_X0_removeEdge isC1 W.wb C2 hl hc) (fun h45 q45 => ?_)
          obtain ⟨f', g1, g2⟩ := q45
          rw [g1, show 1 + 1 = 2 from rfl]
          refine z_goto 59 dX5_drop_48 (by decide) ?_
          refine z_aload_n dX5_drop_59 rfl ?_
          refine z_getR fX5_10 dX5_drop_60 (by decide) rfl rfl ?_
          refine z_iload_n dX5_drop_63 rfl ?_
          refine z_callV_eI (M := mX5_drop) [_] tX0_sizeOf kX5_97 dX5_drop_64 ⟨by decide, rfl, _, _, rfl⟩ ⟨by decide, by decide⟩ rfl (Nat.le_of_ble_eq_true rfl) rfl (s_X0_sizeE (σ := dropE σ c) isC1 (by rw [show 1 + 1 = 2 from rfl, setc_at]; exact g2)) ?_
          exact z_ireturn dX5_drop_67 rfl (hQ _ _ ⟨_, rfl, ⟨by show ((sE σ - 1 : Nat) : Int) = _; omega, act_of W C ra1 hnw raR g2⟩⟩)
      · have c25 := bi_ne.mp c25
        exact absurd c25 hs
  · have c6 := bi_eq.mp c6
    omega
set_option maxRecDepth 100000 in
set_option maxHeartbeats 4000000 in
theorem c_X5_drop2 {g : GG} {h : HH} {σ : SG} (W : WF σ) (C : RC (h 2) σ) {as : List SG} (R : RA h as) {c : Nat} (hc : c < sF σ) : CnI mX5_drop g [vr 0, vi 2, vi (c : Int)] h (fun z h' => z = sF σ - 1 ∧ ActP h h' σ as (dropF σ c)) := by
  refine cn_q (lv := [vr 0, vi 2, vi (c : Int)]) tX5_drop.1 rfl rfl (fun hR Q hQ => ?_)
  have w1 := W.1
  have w2 := W.2.1
  have w3 := W.2.2.1
  obtain ⟨ra1, ra9, nw, hnw, ra8, raR⟩ := id R
  have C2 : RC ((keepH h ((nw + 1) % 8) as.length) 2) σ := by rw [keepH_ne h (by decide) (by omega)]; exact C
  refine z_aload_n dX5_drop_0 rfl ?_
  refine z_iload_n dX5_drop_1 rfl ?_
  refine z_iload_n dX5_drop_2 rfl ?_
  refine z_callV_eI (M := mX5_drop) [_, _] tX5_isUpperCell kX5_106 dX5_drop_3 ⟨by decide, rfl, _, _, rfl⟩ ⟨by decide, by decide⟩ rfl (Nat.le_of_ble_eq_true rfl) rfl (c_X5_upper2 W C (by omega)) ?_
  refine z_if_ne 12 dX5_drop_6 (by decide) (bi_r _) (fun c6 => ?_) (fun c6 => ?_)
  · have c6 := bi_ne.mp c6
    refine z_iload_n dX5_drop_12 rfl ?_
    refine z_iconst dX5_drop_13 ?_
    refine z_icmp_ne 31 dX5_drop_14 (by decide) (by omega) (by omega) (fun c14 => ?_) (fun c14 => ?_)
    · refine z_aload_n dX5_drop_31 rfl ?_
      refine z_callV_V (M := mX5_drop) [] tX5_keepAct kX5_116 dX5_drop_32 ⟨by decide, rfl, _, _, rfl⟩ ⟨by decide, by decide⟩ rfl (Nat.le_of_ble_eq_true rfl) rfl (c_X5_keepAct hnw ra1 ra8 ra9) (fun h32 q32 => ?_)
      rw [q32]
      refine z_iload_n dX5_drop_35 rfl ?_
      refine z_iconst dX5_drop_36 ?_
      refine z_icmp_ne 51 dX5_drop_37 (by decide) (by omega) (by omega) (fun c37 => ?_) (fun c37 => ?_)
      · refine z_aload_n dX5_drop_51 rfl ?_
        refine z_getR fX5_10 dX5_drop_52 (by decide) rfl rfl ?_
        refine z_iload_n dX5_drop_55 rfl ?_
        refine z_callV_V (M := mX5_drop) [_] tX0_removeFace kX5_147 dX5_drop_56 ⟨by decide, rfl, _, _, rfl⟩ ⟨by decide, by decide⟩ rfl (Nat.le_of_ble_eq_true rfl) rfl (c_X0_removeFace isC1 W.wb C2 hc) (fun h56 q56 => ?_)
        obtain ⟨f', g1, g2⟩ := q56
        rw [g1, show 1 + 1 = 2 from rfl]
        refine z_aload_n dX5_drop_59 rfl ?_
        refine z_getR fX5_10 dX5_drop_60 (by decide) rfl rfl ?_
        refine z_iload_n dX5_drop_63 rfl ?_
        refine z_callV_eI (M := mX5_drop) [_] tX0_sizeOf kX5_97 dX5_drop_64 ⟨by decide, rfl, _, _, rfl⟩ ⟨by decide, by decide⟩ rfl (Nat.le_of_ble_eq_true rfl) rfl (s_X0_sizeF (σ := dropF σ c) isC1 (by rw [show 1 + 1 = 2 from rfl, setc_at]; exact g2)) ?_
        exact z_ireturn dX5_drop_67 rfl (hQ _ _ ⟨_, rfl, ⟨by show ((sF σ - 1 : Nat) : Int) = _; omega, act_of W C ra1 hnw raR g2⟩⟩)
      · omega
    · omega
  · have c6 := bi_eq.mp c6
    omega
set_option maxRecDepth 100000 in
set_option maxHeartbeats 4000000 in
theorem c_X5_putO {g : GG} {h : HH} {σ : SG} (W : WF σ) (C : RC (h 2) σ) {c e v : Int} (hc : R32 c) (he : R32 e) (hv : R32 v) (ho : ¬ (0 ≤ c ∧ c < 3 ∧ 0 ≤ e ∧ e < sE σ ∧ -9 ≤ v ∧ v ≤ 9)) : CeI mX5_put g [vr 0, vi c, vi e, vi v] h kBAD := by
  refine cn_q (lv := [vr 0, vi c, vi e, vi v, vx]) tX5_put.1 rfl rfl (fun hR Q hQ => ?_)
  refine z_iload_n dX5_put_0 rfl ?_
  refine z_callS_eI (M := mX5_put) [_] tX5_isChain kX5_150 dX5_put_1 ⟨by decide, by decide⟩ rfl (Nat.le_of_ble_eq_true rfl) rfl (c_X5_isChain (by omega)) ?_
  refine z_if_eq 26 dX5_put_4 (by decide) (bi_r _) (fun c4 => ?_) (fun c4 => ?_)
  · have c4 := bi_eq.mp c4
    refine z_ldc (-1000001) dX5_put_26 qX5_65 rfl ?_
    exact z_ireturn dX5_put_28 rfl (hQ _ _ ⟨_, rfl, rfl, rfl⟩)
  · have c4 := bi_ne.mp c4
    refine z_aload_n dX5_put_7 rfl ?_
    refine z_getR fX5_10 dX5_put_8 (by decide) rfl rfl ?_
    refine z_iconst dX5_put_11 ?_
    refine z_iload_n dX5_put_12 rfl ?_
    refine z_callV_eI (M := mX5_put) [_, _] tX0_hasCell kX5_127 dX5_put_13 ⟨by decide, rfl, _, _, rfl⟩ ⟨by decide, by decide⟩ rfl (Nat.le_of_ble_eq_true rfl) rfl (s_X0_has1 isC1 C (by omega)) ?_
    refine z_if_eq 26 dX5_put_16 (by decide) (bi_r _) (fun c16 => ?_) (fun c16 => ?_)
    · have c16 := bi_eq.mp c16
      refine z_ldc (-1000001) dX5_put_26 qX5_65 rfl ?_
      exact z_ireturn dX5_put_28 rfl (hQ _ _ ⟨_, rfl, rfl, rfl⟩)
    · have c16 := bi_ne.mp c16
      refine z_iload_n dX5_put_19 rfl ?_
      refine z_callS_eI (M := mX5_put) [_] tX5_isNumber kX5_153 dX5_put_20 ⟨by decide, by decide⟩ rfl (Nat.le_of_ble_eq_true rfl) rfl (c_X5_isNumber (by omega)) ?_
      refine z_if_ne 29 dX5_put_23 (by decide) (bi_r _) (fun c23 => ?_) (fun c23 => ?_)
      · have c23 := bi_ne.mp c23
        omega
      · have c23 := bi_eq.mp c23
        refine z_ldc (-1000001) dX5_put_26 qX5_65 rfl ?_
        exact z_ireturn dX5_put_28 rfl (hQ _ _ ⟨_, rfl, rfl, rfl⟩)
set_option maxRecDepth 100000 in
set_option maxHeartbeats 4000000 in
theorem c_X5_put1 {g : GG} {h : HH} {σ : SG} (W : WF σ) (C : RC (h 2) σ) {as : List SG} (R : RA h as) {c e : Nat} {v : Int} (hc : c < 3) (he : e < sE σ) (hv : -9 ≤ v ∧ v ≤ 9) : CnI mX5_put g [vr 0, vi (c : Int), vi (e : Int), vi v] h (fun z h' => z = sch σ c e ∧ ActP h h' σ as (setCh σ c e v)) := by
  refine cn_q (lv := [vr 0, vi (c : Int), vi (e : Int), vi v, vx]) tX5_put.1 rfl rfl (fun hR Q hQ => ?_)
  have w1 := W.1
  have w2 := W.2.1
  have w3 := W.2.2.1
  obtain ⟨ra1, ra9, nw, hnw, ra8, raR⟩ := id R
  have C2 : RC ((keepH h ((nw + 1) % 8) as.length) 2) σ := by rw [keepH_ne h (by decide) (by omega)]; exact C
  refine z_iload_n dX5_put_0 rfl ?_
  refine z_callS_eI (M := mX5_put) [_] tX5_isChain kX5_150 dX5_put_1 ⟨by decide, by decide⟩ rfl (Nat.le_of_ble_eq_true rfl) rfl (c_X5_isChain (by omega)) ?_
  refine z_if_eq 26 dX5_put_4 (by decide) (bi_r _) (fun c4 => ?_) (fun c4 => ?_)
  · have c4 := bi_eq.mp c4
    omega
  · have c4 := bi_ne.mp c4
    refine z_aload_n dX5_put_7 rfl ?_
    refine z_getR fX5_10 dX5_put_8 (by decide) rfl rfl ?_
    refine z_iconst dX5_put_11 ?_
    refine z_iload_n dX5_put_12 rfl ?_
    refine z_callV_eI (M := mX5_put) [_, _] tX0_hasCell kX5_127 dX5_put_13 ⟨by decide, rfl, _, _, rfl⟩ ⟨by decide, by decide⟩ rfl (Nat.le_of_ble_eq_true rfl) rfl (s_X0_has1 isC1 C (by omega)) ?_
    refine z_if_eq 26 dX5_put_16 (by decide) (bi_r _) (fun c16 => ?_) (fun c16 => ?_)
    · have c16 := bi_eq.mp c16
      omega
    · have c16 := bi_ne.mp c16
      refine z_iload_n dX5_put_19 rfl ?_
      refine z_callS_eI (M := mX5_put) [_] tX5_isNumber kX5_153 dX5_put_20 ⟨by decide, by decide⟩ rfl (Nat.le_of_ble_eq_true rfl) rfl (c_X5_isNumber (by omega)) ?_
      refine z_if_ne 29 dX5_put_23 (by decide) (bi_r _) (fun c23 => ?_) (fun c23 => ?_)
      · have c23 := bi_ne.mp c23
        refine z_aload_n dX5_put_29 rfl ?_
        refine z_getR fX5_10 dX5_put_30 (by decide) rfl rfl ?_
        refine z_iload_n dX5_put_33 rfl ?_
        refine z_iload_n dX5_put_34 rfl ?_
        refine z_callV_eI (M := mX5_put) [_, _] tX0_numberAt kX5_156 dX5_put_35 ⟨by decide, rfl, _, _, rfl⟩ ⟨by decide, by decide⟩ rfl (Nat.le_of_ble_eq_true rfl) rfl (s_X0_numberAt isC1 W.wb C hc he) ?_
        refine z_istore dX5_put_38 (by decide) rfl ?_
        refine z_aload_n dX5_put_40 rfl ?_
        refine z_callV_V (M := mX5_put) [] tX5_keepAct kX5_116 dX5_put_41 ⟨by decide, rfl, _, _, rfl⟩ ⟨by decide, by decide⟩ rfl (Nat.le_of_ble_eq_true rfl) rfl (c_X5_keepAct hnw ra1 ra8 ra9) (fun h41 q41 => ?_)
        rw [q41]
        refine z_aload_n dX5_put_44 rfl ?_
        refine z_getR fX5_10 dX5_put_45 (by decide) rfl rfl ?_
        refine z_iload_n dX5_put_48 rfl ?_
        refine z_iload_n dX5_put_49 rfl ?_
        refine z_iload_n dX5_put_50 rfl ?_
        refine z_callV_V (M := mX5_put) [_, _, _] tX0_setNumber kX5_159 dX5_put_51 ⟨by decide, rfl, _, _, rfl⟩ ⟨by decide, by decide⟩ rfl (Nat.le_of_ble_eq_true rfl) rfl (c_X0_setNumber isC1 (by omega) (by omega) (by omega)) (fun h51 q51 => ?_)
        rw [q51, ss_n (i := 45 + c * 6 + e) (by omega) (by omega), show 1 + 1 = 2 from rfl]
        refine z_iload dX5_put_54 rfl ?_
        exact z_ireturn dX5_put_56 rfl (hQ _ _ ⟨_, rfl, ⟨rfl, act_of W C ra1 hnw raR (rc_setCh W.wb C2 v hc he)⟩⟩)
      · have c23 := bi_eq.mp c23
        omega
set_option maxRecDepth 100000 in
set_option maxHeartbeats 4000000 in
theorem c_X5_boundO {g : GG} {h : HH} {σ : SG} (W : WF σ) (C : RC (h 2) σ) {c e v : Int} (hc : R32 c) (he : R32 e) (hv : R32 v) (ho : ¬ (0 ≤ c ∧ c < 3 ∧ 0 ≤ e ∧ e < sF σ ∧ -9 ≤ v ∧ v ≤ 9)) : CeI mX5_bound g [vr 0, vi c, vi e, vi v] h kBAD := by
  refine cn_q (lv := [vr 0, vi c, vi e, vi v, vx]) tX5_bound.1 rfl rfl (fun hR Q hQ => ?_)
  refine z_iload_n dX5_bound_0 rfl ?_
  refine z_callS_eI (M := mX5_bound) [_] tX5_isChain kX5_150 dX5_bound_1 ⟨by decide, by decide⟩ rfl (Nat.le_of_ble_eq_true rfl) rfl (c_X5_isChain (by omega)) ?_
  refine z_if_eq 26 dX5_bound_4 (by decide) (bi_r _) (fun c4 => ?_) (fun c4 => ?_)
  · have c4 := bi_eq.mp c4
    refine z_ldc (-1000001) dX5_bound_26 qX5_65 rfl ?_
    exact z_ireturn dX5_bound_28 rfl (hQ _ _ ⟨_, rfl, rfl, rfl⟩)
  · have c4 := bi_ne.mp c4
    refine z_aload_n dX5_bound_7 rfl ?_
    refine z_getR fX5_10 dX5_bound_8 (by decide) rfl rfl ?_
    refine z_iconst dX5_bound_11 ?_
    refine z_iload_n dX5_bound_12 rfl ?_
    refine z_callV_eI (M := mX5_bound) [_, _] tX0_hasCell kX5_127 dX5_bound_13 ⟨by decide, rfl, _, _, rfl⟩ ⟨by decide, by decide⟩ rfl (Nat.le_of_ble_eq_true rfl) rfl (s_X0_has2 isC1 C (by omega)) ?_
    refine z_if_eq 26 dX5_bound_16 (by decide) (bi_r _) (fun c16 => ?_) (fun c16 => ?_)
    · have c16 := bi_eq.mp c16
      refine z_ldc (-1000001) dX5_bound_26 qX5_65 rfl ?_
      exact z_ireturn dX5_bound_28 rfl (hQ _ _ ⟨_, rfl, rfl, rfl⟩)
    · have c16 := bi_ne.mp c16
      refine z_iload_n dX5_bound_19 rfl ?_
      refine z_callS_eI (M := mX5_bound) [_] tX5_isNumber kX5_153 dX5_bound_20 ⟨by decide, by decide⟩ rfl (Nat.le_of_ble_eq_true rfl) rfl (c_X5_isNumber (by omega)) ?_
      refine z_if_ne 29 dX5_bound_23 (by decide) (bi_r _) (fun c23 => ?_) (fun c23 => ?_)
      · have c23 := bi_ne.mp c23
        omega
      · have c23 := bi_eq.mp c23
        refine z_ldc (-1000001) dX5_bound_26 qX5_65 rfl ?_
        exact z_ireturn dX5_bound_28 rfl (hQ _ _ ⟨_, rfl, rfl, rfl⟩)
set_option maxRecDepth 100000 in
set_option maxHeartbeats 4000000 in
theorem c_X5_boundF {g : GG} {h : HH} {σ : SG} (W : WF σ) (C : RC (h 2) σ) {c f : Nat} {t : Int} (hc : c < 3) (hf : f < sF σ) (ht : -9 ≤ t ∧ t ≤ 9) (ho : ¬ ∀ e, e < sE σ → -9 ≤ bndV σ c f t e ∧ bndV σ c f t e ≤ 9) : CeI mX5_bound g [vr 0, vi (c : Int), vi (f : Int), vi t] h kFULL := by
  refine cn_q (lv := [vr 0, vi (c : Int), vi (f : Int), vi t, vx]) tX5_bound.1 rfl rfl (fun hR Q hQ => ?_)
  have w1 := W.1
  have w2 := W.2.1
  have w3 := W.2.2.1
  refine z_iload_n dX5_bound_0 rfl ?_
  refine z_callS_eI (M := mX5_bound) [_] tX5_isChain kX5_150 dX5_bound_1 ⟨by decide, by decide⟩ rfl (Nat.le_of_ble_eq_true rfl) rfl (c_X5_isChain (by omega)) ?_
  refine z_if_eq 26 dX5_bound_4 (by decide) (bi_r _) (fun c4 => ?_) (fun c4 => ?_)
  · have c4 := bi_eq.mp c4
    omega
  · have c4 := bi_ne.mp c4
    refine z_aload_n dX5_bound_7 rfl ?_
    refine z_getR fX5_10 dX5_bound_8 (by decide) rfl rfl ?_
    refine z_iconst dX5_bound_11 ?_
    refine z_iload_n dX5_bound_12 rfl ?_
    refine z_callV_eI (M := mX5_bound) [_, _] tX0_hasCell kX5_127 dX5_bound_13 ⟨by decide, rfl, _, _, rfl⟩ ⟨by decide, by decide⟩ rfl (Nat.le_of_ble_eq_true rfl) rfl (s_X0_has2 isC1 C (by omega)) ?_
    refine z_if_eq 26 dX5_bound_16 (by decide) (bi_r _) (fun c16 => ?_) (fun c16 => ?_)
    · have c16 := bi_eq.mp c16
      omega
    · have c16 := bi_ne.mp c16
      refine z_iload_n dX5_bound_19 rfl ?_
      refine z_callS_eI (M := mX5_bound) [_] tX5_isNumber kX5_153 dX5_bound_20 ⟨by decide, by decide⟩ rfl (Nat.le_of_ble_eq_true rfl) rfl (c_X5_isNumber (by omega)) ?_
      refine z_if_ne 29 dX5_bound_23 (by decide) (bi_r _) (fun c23 => ?_) (fun c23 => ?_)
      · have c23 := bi_ne.mp c23
        refine z_iconst dX5_bound_29 ?_
        refine z_istore dX5_bound_30 (by decide) rfl ?_
        have loop32 : ∀ (nL9 : Nat) (k : Nat), (k ≤ sE σ) → (∀ e, e < k → -9 ≤ bndV σ c f t e ∧ bndV σ c f t e ≤ 9) → sE σ - k < nL9 → Z mX5_bound g 32 [vr 0, vi (c : Int), vi (f : Int), vi t, vi (k : Int)] [] h Q := by
          intro nL9
          induction nL9 with
          | zero => intro k hk hz hnL9; exact absurd hnL9 (Nat.not_lt_zero _)
          | succ nL9 ih32 =>
            intro k hk hz hnL9
            refine z_iload dX5_bound_32 rfl ?_
            refine z_aload_n dX5_bound_34 rfl ?_
            refine z_getR fX5_10 dX5_bound_35 (by decide) rfl rfl ?_
            refine z_iconst dX5_bound_38 ?_
            refine z_callV_eI (M := mX5_bound) [_] tX0_sizeOf kX5_97 dX5_bound_39 ⟨by decide, rfl, _, _, rfl⟩ ⟨by decide, by decide⟩ rfl (Nat.le_of_ble_eq_true rfl) rfl (s_X0_sizeE isC1 C) ?_
            refine z_icmp_ge 84 dX5_bound_42 (by decide) (by omega) (by omega) (fun c42 => ?_) (fun c42 => ?_)
            · exact absurd (fun e he => hz e (by omega)) ho
            · refine z_aload_n dX5_bound_45 rfl ?_
              refine z_getR fX5_10 dX5_bound_46 (by decide) rfl rfl ?_
              refine z_iload_n dX5_bound_49 rfl ?_
              refine z_iload dX5_bound_50 rfl ?_
              refine z_callV_eI (M := mX5_bound) [_, _] tX0_numberAt kX5_156 dX5_bound_52 ⟨by decide, rfl, _, _, rfl⟩ ⟨by decide, by decide⟩ rfl (Nat.le_of_ble_eq_true rfl) rfl (s_X0_numberAt isC1 W.wb C hc (by omega)) ?_
              refine z_iload_n dX5_bound_55 rfl ?_
              refine z_aload_n dX5_bound_56 rfl ?_
              refine z_getR fX5_10 dX5_bound_57 (by decide) rfl rfl ?_
              refine z_iconst dX5_bound_60 ?_
              refine z_iload dX5_bound_61 rfl ?_
              refine z_iload_n dX5_bound_63 rfl ?_
              refine z_callV_eI (M := mX5_bound) [_, _, _] tX0_entryOf kX5_162 dX5_bound_64 ⟨by decide, rfl, _, _, rfl⟩ ⟨by decide, by decide⟩ rfl (Nat.le_of_ble_eq_true rfl) rfl (c_X0_entry2 isC1 W C (by omega) hf) ?_
              have b1 := ent2_r W hf (i := k)
              have b2 := W.2.2.2.2.2 c k hc (by omega)
              have b3 : -36 ≤ t * ent2 σ k f ∧ t * ent2 σ k f ≤ 36 := mul_b ht b1
              refine z_imul dX5_bound_67 ?_
              refine z_iadd dX5_bound_68 ?_
              refine z_callS_eI (M := mX5_bound) [_] tX5_isNumber kX5_153 dX5_bound_69 ⟨by decide, by decide⟩ rfl (Nat.le_of_ble_eq_true rfl) rfl (c_X5_isNumber (by omega)) ?_
              refine z_if_ne 78 dX5_bound_72 (by decide) (bi_r _) (fun c72 => ?_) (fun c72 => ?_)
              · have c72 := bi_ne.mp c72
                refine z_iinc dX5_bound_78 rfl (by decide) rfl ?_
                refine z_goto 32 dX5_bound_81 (by decide) ?_
                exact ih32 (k + 1) (by omega) (lt_s hz c72) (by omega)
              · have c72 := bi_eq.mp c72
                refine z_ldc (-1000003) dX5_bound_75 qX5_74 rfl ?_
                exact z_ireturn dX5_bound_77 rfl (hQ _ _ ⟨_, rfl, rfl, rfl⟩)
        exact loop32 _ 0 (by omega) (fun e he => absurd he (Nat.not_lt_zero _)) (Nat.lt_succ_self _)
      · have c23 := bi_eq.mp c23
        omega
set_option maxRecDepth 100000 in
set_option maxHeartbeats 4000000 in
theorem c_X5_bound1 {g : GG} {h : HH} {σ : SG} (W : WF σ) (C : RC (h 2) σ) {as : List SG} (R : RA h as) {c f : Nat} {t : Int} (hc : c < 3) (hf : f < sF σ) (ht : -9 ≤ t ∧ t ≤ 9) (ho : ∀ e, e < sE σ → -9 ≤ bndV σ c f t e ∧ bndV σ c f t e ≤ 9) : CnI mX5_bound g [vr 0, vi (c : Int), vi (f : Int), vi t] h (fun z h' => z = nnz (chS σ c (sE σ) (bndV σ c f t)) c ∧ ActP h h' σ as (chS σ c (sE σ) (bndV σ c f t))) := by
  refine cn_q (lv := [vr 0, vi (c : Int), vi (f : Int), vi t, vx]) tX5_bound.1 rfl rfl (fun hR Q hQ => ?_)
  have w1 := W.1
  have w2 := W.2.1
  have w3 := W.2.2.1
  obtain ⟨ra1, ra9, nw, hnw, ra8, raR⟩ := id R
  have C2 : RC ((keepH h ((nw + 1) % 8) as.length) 2) σ := by rw [keepH_ne h (by decide) (by omega)]; exact C
  refine z_iload_n dX5_bound_0 rfl ?_
  refine z_callS_eI (M := mX5_bound) [_] tX5_isChain kX5_150 dX5_bound_1 ⟨by decide, by decide⟩ rfl (Nat.le_of_ble_eq_true rfl) rfl (c_X5_isChain (by omega)) ?_
  refine z_if_eq 26 dX5_bound_4 (by decide) (bi_r _) (fun c4 => ?_) (fun c4 => ?_)
  · have c4 := bi_eq.mp c4
    omega
  · have c4 := bi_ne.mp c4
    refine z_aload_n dX5_bound_7 rfl ?_
    refine z_getR fX5_10 dX5_bound_8 (by decide) rfl rfl ?_
    refine z_iconst dX5_bound_11 ?_
    refine z_iload_n dX5_bound_12 rfl ?_
    refine z_callV_eI (M := mX5_bound) [_, _] tX0_hasCell kX5_127 dX5_bound_13 ⟨by decide, rfl, _, _, rfl⟩ ⟨by decide, by decide⟩ rfl (Nat.le_of_ble_eq_true rfl) rfl (s_X0_has2 isC1 C (by omega)) ?_
    refine z_if_eq 26 dX5_bound_16 (by decide) (bi_r _) (fun c16 => ?_) (fun c16 => ?_)
    · have c16 := bi_eq.mp c16
      omega
    · have c16 := bi_ne.mp c16
      refine z_iload_n dX5_bound_19 rfl ?_
      refine z_callS_eI (M := mX5_bound) [_] tX5_isNumber kX5_153 dX5_bound_20 ⟨by decide, by decide⟩ rfl (Nat.le_of_ble_eq_true rfl) rfl (c_X5_isNumber (by omega)) ?_
      refine z_if_ne 29 dX5_bound_23 (by decide) (bi_r _) (fun c23 => ?_) (fun c23 => ?_)
      · have c23 := bi_ne.mp c23
        refine z_iconst dX5_bound_29 ?_
        refine z_istore dX5_bound_30 (by decide) rfl ?_
        have loop32 : ∀ (nL9 : Nat) (k : Nat), (k ≤ sE σ) → (∀ e, e < k → -9 ≤ bndV σ c f t e ∧ bndV σ c f t e ≤ 9) → sE σ - k < nL9 → Z mX5_bound g 32 [vr 0, vi (c : Int), vi (f : Int), vi t, vi (k : Int)] [] h Q := by
          intro nL9
          induction nL9 with
          | zero => intro k hk hz hnL9; exact absurd hnL9 (Nat.not_lt_zero _)
          | succ nL9 ih32 =>
            intro k hk hz hnL9
            refine z_iload dX5_bound_32 rfl ?_
            refine z_aload_n dX5_bound_34 rfl ?_
            refine z_getR fX5_10 dX5_bound_35 (by decide) rfl rfl ?_
            refine z_iconst dX5_bound_38 ?_
            refine z_callV_eI (M := mX5_bound) [_] tX0_sizeOf kX5_97 dX5_bound_39 ⟨by decide, rfl, _, _, rfl⟩ ⟨by decide, by decide⟩ rfl (Nat.le_of_ble_eq_true rfl) rfl (s_X0_sizeE isC1 C) ?_
            refine z_icmp_ge 84 dX5_bound_42 (by decide) (by omega) (by omega) (fun c42 => ?_) (fun c42 => ?_)
            · refine z_aload_n dX5_bound_84 rfl ?_
              refine z_callV_V (M := mX5_bound) [] tX5_keepAct kX5_116 dX5_bound_85 ⟨by decide, rfl, _, _, rfl⟩ ⟨by decide, by decide⟩ rfl (Nat.le_of_ble_eq_true rfl) rfl (c_X5_keepAct hnw ra1 ra8 ra9) (fun h85 q85 => ?_)
              rw [q85]
              refine z_iconst dX5_bound_88 ?_
              refine z_istore dX5_bound_89 (by decide) rfl ?_
              have loop91 : ∀ (nL9 : Nat) (k : Nat) (f' : Nat → Int), (k ≤ sE σ) → (RC f' (chS σ c k (bndV σ c f t))) → sE σ - k < nL9 → Z mX5_bound g 91 [vr 0, vi (c : Int), vi (f : Int), vi t, vi (k : Int)] [] (setc (keepH h ((nw + 1) % 8) as.length) 2 f') Q := by
                intro nL9
                induction nL9 with
                | zero => intro k f' hk2 hD hnL9; exact absurd hnL9 (Nat.not_lt_zero _)
                | succ nL9 ih91 =>
                  intro k f' hk2 hD hnL9
                  refine z_iload dX5_bound_91 rfl ?_
                  refine z_aload_n dX5_bound_93 rfl ?_
                  refine z_getR fX5_10 dX5_bound_94 (by decide) rfl rfl ?_
                  refine z_iconst dX5_bound_97 ?_
                  refine z_callV_eI (M := mX5_bound) [_] tX0_sizeOf kX5_97 dX5_bound_98 ⟨by decide, rfl, _, _, rfl⟩ ⟨by decide, by decide⟩ rfl (Nat.le_of_ble_eq_true rfl) rfl (s_X0_sizeE (σ := chS σ c k (bndV σ c f t)) isC1 (by rw [show 1 + 1 = 2 from rfl, setc_at]; exact hD)) ?_
                  rw [show sE (chS σ c k (bndV σ c f t)) = sE σ from rfl]
                  refine z_icmp_ge 144 dX5_bound_101 (by decide) (by omega) (by omega) (fun c101 => ?_) (fun c101 => ?_)
                  · refine z_aload_n dX5_bound_144 rfl ?_
                    refine z_getR fX5_10 dX5_bound_145 (by decide) rfl rfl ?_
                    refine z_iload_n dX5_bound_148 rfl ?_
                    refine z_callV_eI (M := mX5_bound) [_] tX0_numbersNotZero kX5_166 dX5_bound_149 ⟨by decide, rfl, _, _, rfl⟩ ⟨by decide, by decide⟩ rfl (Nat.le_of_ble_eq_true rfl) rfl (c_X0_numbersNotZero (σ := chS σ c (sE σ) (bndV σ c f t)) isC1 (WF_chS W ho) (by rw [show 1 + 1 = 2 from rfl, setc_at, show sE σ = k from by omega]; exact hD) hc) ?_
                    exact z_ireturn dX5_bound_152 rfl (hQ _ _ ⟨_, rfl, ⟨rfl, act_of W C ra1 hnw raR (by rw [show sE σ = k from by omega]; exact hD)⟩⟩)
                  · refine z_aload_n dX5_bound_104 rfl ?_
                    refine z_getR fX5_10 dX5_bound_105 (by decide) rfl rfl ?_
                    refine z_iload_n dX5_bound_108 rfl ?_
                    refine z_iload dX5_bound_109 rfl ?_
                    refine z_aload_n dX5_bound_111 rfl ?_
                    refine z_getR fX5_10 dX5_bound_112 (by decide) rfl rfl ?_
                    refine z_iload_n dX5_bound_115 rfl ?_
                    refine z_iload dX5_bound_116 rfl ?_
                    refine z_callV_eI (M := mX5_bound) [_, _] tX0_numberAt kX5_156 dX5_bound_118 ⟨by decide, rfl, _, _, rfl⟩ ⟨by decide, by decide⟩ rfl (Nat.le_of_ble_eq_true rfl) rfl (s_X0_numberAt (σ := chS σ c k (bndV σ c f t)) isC1 (W := W.wb) (by rw [show 1 + 1 = 2 from rfl, setc_at]; exact hD) hc (e := k) (by show k < sE σ; omega)) ?_
                    rw [show sch (chS σ c k (bndV σ c f t)) c k = sch σ c k from if_neg (by omega)]
                    refine z_iload_n dX5_bound_121 rfl ?_
                    refine z_aload_n dX5_bound_122 rfl ?_
                    refine z_getR fX5_10 dX5_bound_123 (by decide) rfl rfl ?_
                    refine z_iconst dX5_bound_126 ?_
                    refine z_iload dX5_bound_127 rfl ?_
                    refine z_iload_n dX5_bound_129 rfl ?_
                    refine z_callV_eI (M := mX5_bound) [_, _, _] tX0_entryOf kX5_162 dX5_bound_130 ⟨by decide, rfl, _, _, rfl⟩ ⟨by decide, by decide⟩ rfl (Nat.le_of_ble_eq_true rfl) rfl (c_X0_entry2 (σ := chS σ c k (bndV σ c f t)) isC1 (WF_chS W (fun e he => ho e (by omega))) (by rw [show 1 + 1 = 2 from rfl, setc_at]; exact hD) (i := k) (j := f) (by omega) hf) ?_
                    rw [show ent2 (chS σ c k (bndV σ c f t)) k f = ent2 σ k f from rfl]
                    have b4 : -9 ≤ sch σ c k + t * ent2 σ k f ∧ sch σ c k + t * ent2 σ k f ≤ 9 := ho k (by omega)
                    refine z_imul dX5_bound_133 ?_
                    refine z_iadd dX5_bound_134 ?_
                    refine z_callV_V (M := mX5_bound) [_, _, _] tX0_setNumber kX5_159 dX5_bound_135 ⟨by decide, rfl, _, _, rfl⟩ ⟨by decide, by decide⟩ rfl (Nat.le_of_ble_eq_true rfl) rfl (c_X0_setNumber isC1 (by omega) (by omega) (by omega)) (fun h135 q135 => ?_)
                    rw [q135, ss_s (i := 45 + c * 6 + k) (by omega) (by omega), show 1 + 1 = 2 from rfl]
                    refine z_iinc dX5_bound_138 rfl (by decide) rfl ?_
                    refine z_goto 91 dX5_bound_141 (by decide) ?_
                    exact ih91 (k + 1) (upn f' (45 + c * 6 + k) (sch σ c k + t * ent2 σ k f)) (by omega) (chS_s W.wb hc (by omega) hD rfl) (by omega)
              have e0 := setc_self (keepH h ((nw + 1) % 8) as.length) 2
              have x0 := loop91 _ 0 (keepH h ((nw + 1) % 8) as.length 2) (by omega) (chS_0 c _ C2) (Nat.lt_succ_self _)
              rw [e0] at x0
              exact x0
            · refine z_aload_n dX5_bound_45 rfl ?_
              refine z_getR fX5_10 dX5_bound_46 (by decide) rfl rfl ?_
              refine z_iload_n dX5_bound_49 rfl ?_
              refine z_iload dX5_bound_50 rfl ?_
              refine z_callV_eI (M := mX5_bound) [_, _] tX0_numberAt kX5_156 dX5_bound_52 ⟨by decide, rfl, _, _, rfl⟩ ⟨by decide, by decide⟩ rfl (Nat.le_of_ble_eq_true rfl) rfl (s_X0_numberAt isC1 W.wb C hc (by omega)) ?_
              refine z_iload_n dX5_bound_55 rfl ?_
              refine z_aload_n dX5_bound_56 rfl ?_
              refine z_getR fX5_10 dX5_bound_57 (by decide) rfl rfl ?_
              refine z_iconst dX5_bound_60 ?_
              refine z_iload dX5_bound_61 rfl ?_
              refine z_iload_n dX5_bound_63 rfl ?_
              refine z_callV_eI (M := mX5_bound) [_, _, _] tX0_entryOf kX5_162 dX5_bound_64 ⟨by decide, rfl, _, _, rfl⟩ ⟨by decide, by decide⟩ rfl (Nat.le_of_ble_eq_true rfl) rfl (c_X0_entry2 isC1 W C (by omega) hf) ?_
              have b1 := ent2_r W hf (i := k)
              have b2 := W.2.2.2.2.2 c k hc (by omega)
              have b3 : -36 ≤ t * ent2 σ k f ∧ t * ent2 σ k f ≤ 36 := mul_b ht b1
              refine z_imul dX5_bound_67 ?_
              refine z_iadd dX5_bound_68 ?_
              refine z_callS_eI (M := mX5_bound) [_] tX5_isNumber kX5_153 dX5_bound_69 ⟨by decide, by decide⟩ rfl (Nat.le_of_ble_eq_true rfl) rfl (c_X5_isNumber (by omega)) ?_
              refine z_if_ne 78 dX5_bound_72 (by decide) (bi_r _) (fun c72 => ?_) (fun c72 => ?_)
              · have c72 := bi_ne.mp c72
                refine z_iinc dX5_bound_78 rfl (by decide) rfl ?_
                refine z_goto 32 dX5_bound_81 (by decide) ?_
                exact ih32 (k + 1) (by omega) (lt_s hz c72) (by omega)
              · have c72 := bi_eq.mp c72
                exact absurd (ho k (by omega)) c72
        exact loop32 _ 0 (by omega) (fun e he => absurd he (Nat.not_lt_zero _)) (Nat.lt_succ_self _)
      · have c23 := bi_eq.mp c23
        omega
set_option maxRecDepth 100000 in
set_option maxHeartbeats 4000000 in
theorem c_X5_drawnS {g : GG} {h : HH} {σ : SG} (W : WF σ) (C : RC (h 2) σ) {c s : Int} (hc : R32 c) (hs : R32 s) (h0 : sP σ = 0) : CeI mX5_drawn g [vr 0, vi c, vi s] h kSTATE := by
  refine cn_q (lv := [vr 0, vi c, vi s, vx, vx, vx]) tX5_drawn.1 rfl rfl (fun hR Q hQ => ?_)
  refine z_aload_n dX5_drawn_0 rfl ?_
  refine z_getR fX5_10 dX5_drawn_1 (by decide) rfl rfl ?_
  refine z_callV_eI (M := mX5_drawn) [] tX0_isThere kX5_123 dX5_drawn_4 ⟨by decide, rfl, _, _, rfl⟩ ⟨by decide, by decide⟩ rfl (Nat.le_of_ble_eq_true rfl) rfl (s_X0_isThere isC1 C) ?_
  refine z_if_ne 13 dX5_drawn_7 (by decide) (bi_r _) (fun c7 => ?_) (fun c7 => ?_)
  · have c7 := bi_ne.mp c7
    omega
  · have c7 := bi_eq.mp c7
    refine z_ldc (-1000002) dX5_drawn_10 qX5_105 rfl ?_
    exact z_ireturn dX5_drawn_12 rfl (hQ _ _ ⟨_, rfl, rfl, rfl⟩)
set_option maxRecDepth 100000 in
set_option maxHeartbeats 4000000 in
theorem c_X5_drawnO {g : GG} {h : HH} {σ : SG} (W : WF σ) (C : RC (h 2) σ) {c s : Int} (hc : R32 c) (hs : R32 s) (h0 : 0 < sP σ) (ho : ¬ (0 ≤ c ∧ c < 3 ∧ 1 ≤ s ∧ s ≤ 999999)) : CeI mX5_drawn g [vr 0, vi c, vi s] h kBAD := by
  refine cn_q (lv := [vr 0, vi c, vi s, vx, vx, vx]) tX5_drawn.1 rfl rfl (fun hR Q hQ => ?_)
  refine z_aload_n dX5_drawn_0 rfl ?_
  refine z_getR fX5_10 dX5_drawn_1 (by decide) rfl rfl ?_
  refine z_callV_eI (M := mX5_drawn) [] tX0_isThere kX5_123 dX5_drawn_4 ⟨by decide, rfl, _, _, rfl⟩ ⟨by decide, by decide⟩ rfl (Nat.le_of_ble_eq_true rfl) rfl (s_X0_isThere isC1 C) ?_
  refine z_if_ne 13 dX5_drawn_7 (by decide) (bi_r _) (fun c7 => ?_) (fun c7 => ?_)
  · have c7 := bi_ne.mp c7
    refine z_iload_n dX5_drawn_13 rfl ?_
    refine z_callS_eI (M := mX5_drawn) [_] tX5_isChain kX5_150 dX5_drawn_14 ⟨by decide, by decide⟩ rfl (Nat.le_of_ble_eq_true rfl) rfl (c_X5_isChain (by omega)) ?_
    refine z_if_eq 31 dX5_drawn_17 (by decide) (bi_r _) (fun c17 => ?_) (fun c17 => ?_)
    · have c17 := bi_eq.mp c17
      refine z_ldc (-1000001) dX5_drawn_31 qX5_65 rfl ?_
      exact z_ireturn dX5_drawn_33 rfl (hQ _ _ ⟨_, rfl, rfl, rfl⟩)
    · have c17 := bi_ne.mp c17
      refine z_iload_n dX5_drawn_20 rfl ?_
      refine z_iconst dX5_drawn_21 ?_
      refine z_icmp_lt 31 dX5_drawn_22 (by decide) (by omega) (by omega) (fun c22 => ?_) (fun c22 => ?_)
      · refine z_ldc (-1000001) dX5_drawn_31 qX5_65 rfl ?_
        exact z_ireturn dX5_drawn_33 rfl (hQ _ _ ⟨_, rfl, rfl, rfl⟩)
      · refine z_iload_n dX5_drawn_25 rfl ?_
        refine z_ldc (999999) dX5_drawn_26 qX5_169 rfl ?_
        refine z_icmp_le 34 dX5_drawn_28 (by decide) (by omega) (by omega) (fun c28 => ?_) (fun c28 => ?_)
        · omega
        · refine z_ldc (-1000001) dX5_drawn_31 qX5_65 rfl ?_
          exact z_ireturn dX5_drawn_33 rfl (hQ _ _ ⟨_, rfl, rfl, rfl⟩)
  · have c7 := bi_eq.mp c7
    omega
set_option maxRecDepth 100000 in
set_option maxHeartbeats 4000000 in
theorem c_X5_drawn1 {g : GG} {h : HH} {σ : SG} (W : WF σ) (C : RC (h 2) σ) {as : List SG} (R : RA h as) {c : Nat} {s : Int} (hc : c < 3) (hs : 1 ≤ s ∧ s ≤ 999999) (h0 : 0 < sP σ) : CnI mX5_drawn g [vr 0, vi (c : Int), vi s] h (fun z h' => z = nnz (chS σ c (sE σ) (drV s)) c ∧ ActP h h' σ as (chS σ c (sE σ) (drV s))) := by
  refine cn_q (lv := [vr 0, vi (c : Int), vi s, vx, vx, vx]) tX5_drawn.1 rfl rfl (fun hR Q hQ => ?_)
  have w1 := W.1
  have w2 := W.2.1
  have w3 := W.2.2.1
  obtain ⟨ra1, ra9, nw, hnw, ra8, raR⟩ := id R
  have C2 : RC ((keepH h ((nw + 1) % 8) as.length) 2) σ := by rw [keepH_ne h (by decide) (by omega)]; exact C
  have hs0 : 0 ≤ s ∧ s < 2147483647 := by omega
  refine z_aload_n dX5_drawn_0 rfl ?_
  refine z_getR fX5_10 dX5_drawn_1 (by decide) rfl rfl ?_
  refine z_callV_eI (M := mX5_drawn) [] tX0_isThere kX5_123 dX5_drawn_4 ⟨by decide, rfl, _, _, rfl⟩ ⟨by decide, by decide⟩ rfl (Nat.le_of_ble_eq_true rfl) rfl (s_X0_isThere isC1 C) ?_
  refine z_if_ne 13 dX5_drawn_7 (by decide) (bi_r _) (fun c7 => ?_) (fun c7 => ?_)
  · have c7 := bi_ne.mp c7
    refine z_iload_n dX5_drawn_13 rfl ?_
    refine z_callS_eI (M := mX5_drawn) [_] tX5_isChain kX5_150 dX5_drawn_14 ⟨by decide, by decide⟩ rfl (Nat.le_of_ble_eq_true rfl) rfl (c_X5_isChain (by omega)) ?_
    refine z_if_eq 31 dX5_drawn_17 (by decide) (bi_r _) (fun c17 => ?_) (fun c17 => ?_)
    · have c17 := bi_eq.mp c17
      omega
    · have c17 := bi_ne.mp c17
      refine z_iload_n dX5_drawn_20 rfl ?_
      refine z_iconst dX5_drawn_21 ?_
      refine z_icmp_lt 31 dX5_drawn_22 (by decide) (by omega) (by omega) (fun c22 => ?_) (fun c22 => ?_)
      · omega
      · refine z_iload_n dX5_drawn_25 rfl ?_
        refine z_ldc (999999) dX5_drawn_26 qX5_169 rfl ?_
        refine z_icmp_le 34 dX5_drawn_28 (by decide) (by omega) (by omega) (fun c28 => ?_) (fun c28 => ?_)
        · refine z_aload_n dX5_drawn_34 rfl ?_
          refine z_callV_V (M := mX5_drawn) [] tX5_keepAct kX5_116 dX5_drawn_35 ⟨by decide, rfl, _, _, rfl⟩ ⟨by decide, by decide⟩ rfl (Nat.le_of_ble_eq_true rfl) rfl (c_X5_keepAct hnw ra1 ra8 ra9) (fun h35 q35 => ?_)
          rw [q35]
          refine z_iload_n dX5_drawn_38 rfl ?_
          refine z_i2l dX5_drawn_39 (by omega) ?_
          refine z_lstore_n dX5_drawn_40 (by decide) rfl ?_
          refine z_iconst dX5_drawn_41 ?_
          refine z_istore dX5_drawn_42 (by decide) rfl ?_
          have loop44 : ∀ (nL9 : Nat) (k : Nat) (f' : Nat → Int), (k ≤ sE σ) → (RC f' (chS σ c k (drV s))) → sE σ - k < nL9 → Z mX5_drawn g 44 [vr 0, vi (c : Int), vi s, vl (dX s k), vx, vi (k : Int)] [] (setc (keepH h ((nw + 1) % 8) as.length) 2 f') Q := by
            intro nL9
            induction nL9 with
            | zero => intro k f' hk2 hD hnL9; exact absurd hnL9 (Nat.not_lt_zero _)
            | succ nL9 ih44 =>
              intro k f' hk2 hD hnL9
              refine z_iload dX5_drawn_44 rfl ?_
              refine z_aload_n dX5_drawn_46 rfl ?_
              refine z_getR fX5_10 dX5_drawn_47 (by decide) rfl rfl ?_
              refine z_iconst dX5_drawn_50 ?_
              refine z_callV_eI (M := mX5_drawn) [_] tX0_sizeOf kX5_97 dX5_drawn_51 ⟨by decide, rfl, _, _, rfl⟩ ⟨by decide, by decide⟩ rfl (Nat.le_of_ble_eq_true rfl) rfl (s_X0_sizeE (σ := chS σ c k (drV s)) isC1 (by rw [show 1 + 1 = 2 from rfl, setc_at]; exact hD)) ?_
              rw [show sE (chS σ c k (drV s)) = sE σ from rfl]
              have b1 := dX_r hs0 k
              have b2 := dX_r hs0 (k + 1)
              have b3 := drV_r hs0 k
              have b4 : dX s (k + 1) = (dX s k * 16807).tmod 2147483647 := rfl
              have b5 : drV s k = (dX s (k + 1)).tmod 19 - 9 := rfl
              refine z_icmp_ge 92 dX5_drawn_54 (by decide) (by omega) (by omega) (fun c54 => ?_) (fun c54 => ?_)
              · refine z_aload_n dX5_drawn_92 rfl ?_
                refine z_getR fX5_10 dX5_drawn_93 (by decide) rfl rfl ?_
                refine z_iload_n dX5_drawn_96 rfl ?_
                refine z_callV_eI (M := mX5_drawn) [_] tX0_numbersNotZero kX5_166 dX5_drawn_97 ⟨by decide, rfl, _, _, rfl⟩ ⟨by decide, by decide⟩ rfl (Nat.le_of_ble_eq_true rfl) rfl (c_X0_numbersNotZero (σ := chS σ c (sE σ) (drV s)) isC1 (WF_chS W (fun e _ => drV_r hs0 e)) (by rw [show 1 + 1 = 2 from rfl, setc_at, show sE σ = k from by omega]; exact hD) hc) ?_
                exact z_ireturn dX5_drawn_100 rfl (hQ _ _ ⟨_, rfl, ⟨rfl, act_of W C ra1 hnw raR (by rw [show sE σ = k from by omega]; exact hD)⟩⟩)
              · refine z_lload_n dX5_drawn_57 rfl ?_
                refine z_ldc2 (16807) dX5_drawn_58 qX5_170 rfl ?_
                refine z_lmul dX5_drawn_61 ?_
                refine z_ldc2 (2147483647) dX5_drawn_62 qX5_172 rfl ?_
                refine z_lrem dX5_drawn_65 (by omega) (by decide) (by decide) ?_
                rw [← b4]
                refine z_lstore_n dX5_drawn_66 (by decide) rfl ?_
                refine z_aload_n dX5_drawn_67 rfl ?_
                refine z_getR fX5_10 dX5_drawn_68 (by decide) rfl rfl ?_
                refine z_iload_n dX5_drawn_71 rfl ?_
                refine z_iload dX5_drawn_72 rfl ?_
                refine z_lload_n dX5_drawn_74 rfl ?_
                refine z_ldc2 (19) dX5_drawn_75 qX5_174 rfl ?_
                refine z_lrem dX5_drawn_78 (by omega) (by decide) (by decide) ?_
                refine z_l2i dX5_drawn_79 ?_
                refine z_bipush dX5_drawn_80 (by decide) ?_
                refine z_isub dX5_drawn_82 ?_
                rw [← b5]
                refine z_callV_V (M := mX5_drawn) [_, _, _] tX0_setNumber kX5_159 dX5_drawn_83 ⟨by decide, rfl, _, _, rfl⟩ ⟨by decide, by decide⟩ rfl (Nat.le_of_ble_eq_true rfl) rfl (c_X0_setNumber isC1 (by omega) (by omega) (by omega)) (fun h83 q83 => ?_)
                rw [q83, ss_s (i := 45 + c * 6 + k) (by omega) (by omega), show 1 + 1 = 2 from rfl]
                refine z_iinc dX5_drawn_86 rfl (by decide) rfl ?_
                refine z_goto 44 dX5_drawn_89 (by decide) ?_
                exact ih44 (k + 1) (upn f' (45 + c * 6 + k) (drV s k)) (by omega) (chS_s W.wb hc (by omega) hD rfl) (by omega)
          have e0 := setc_self (keepH h ((nw + 1) % 8) as.length) 2
          have x0 := loop44 _ 0 (keepH h ((nw + 1) % 8) as.length 2) (by omega) (chS_0 c _ C2) (Nat.lt_succ_self _)
          rw [e0] at x0
          exact x0
        · omega
  · have c7 := bi_eq.mp c7
    omega

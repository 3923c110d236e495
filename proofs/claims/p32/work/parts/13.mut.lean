/-- a row with one number told anew -/
def upn (f : Nat → Int) (i : Nat) (v : Int) : Nat → Int := fun b => if b = i then v else f b
theorem upn_ne {f : Nat → Int} {i j : Nat} {v : Int} (h : j ≠ i) : upn f i v j = f j := if_neg h
theorem upn_eq {f : Nat → Int} {i j : Nat} {v : Int} (h : j = i) : upn f i v j = v := if_pos h
theorem ss_n {h : HH} {o : Nat} {i : Nat} (hi : i < 63) {z v : Int} (hz : z = (i : Int)) : ss h o z v = setc h (o + 1) (upn (h (o + 1)) i v) := by
  subst hz
  unfold ss
  rw [if_pos (by omega), up_eq]
  rfl
theorem ss_s {h : HH} {o : Nat} {f : Nat → Int} {i : Nat} (hi : i < 63) {z v : Int} (hz : z = (i : Int)) : ss (setc h (o + 1) f) o z v = setc h (o + 1) (upn f i v) := by
  rw [ss_n hi hz, setc_at, setc_setc]
theorem sl_s {h : HH} {o : Nat} {f : Nat → Int} {i : Nat} (hi : i < 63) {z : Int} (hz : z = (i : Int)) : sl (setc h (o + 1) f) o z = f i := by
  rw [sl_n hi hz, setc_at]
def bgE (σ : SG) (e : Nat) (b : Bool) : Nat := if b then sto σ e else sfr σ e
def enE (σ : SG) (e : Nat) (b : Bool) : Nat := if b then sfr σ e else sto σ e
theorem cod_of {c : Int} (h : 0 ≤ edg c) : ∃ (e : Nat) (b : Bool), e < 26 ∧ c = cod e b ∧ edg c = (e : Int) := by
  unfold edg at h
  by_cases h1 : 65 ≤ c ∧ c ≤ 90
  · have e1 : c = cod (c - 65).toNat true := by unfold cod; simp; omega
    exact ⟨(c - 65).toNat, true, by omega, e1, by have := cod_edg (e := (c - 65).toNat) true (by omega); rw [← e1] at this; exact this⟩
  · rw [if_neg h1] at h
    by_cases h2 : 97 ≤ c ∧ c ≤ 122
    · have e1 : c = cod (c - 97).toNat false := by unfold cod; simp; omega
      exact ⟨(c - 97).toNat, false, by omega, e1, by have := cod_edg (e := (c - 97).toNat) false (by omega); rw [← e1] at this; exact this⟩
    · rw [if_neg h2] at h
      omega
/-- the word that is being sewn: how many letters, their edges, backward or not -/
def RW (h : HH) (n : Nat) (le : Nat → Nat) (sg : Nat → Bool) : Prop := h 7 1 = n ∧ n ≤ 4 ∧ ∀ k, k < n → h 8 k = cod (le k) (sg k)
/-- an edge more -/
def addE (σ : SG) (a b w : Nat) : SG := ((sP σ, sE σ + 1, sF σ), (fun e => if e = sE σ then a else sfr σ e), (fun e => if e = sE σ then b else sto σ e), (fun e => if e = sE σ then w else sew σ e), sfw σ, swl σ, sle σ, ssg σ, fun c e => if e = sE σ then 0 else sch σ c e)
/-- a face more -/
def addF (σ : SG) (w n : Nat) (le : Nat → Nat) (sg : Nat → Bool) : SG := ((sP σ, sE σ, sF σ + 1), sfr σ, sto σ, sew σ, (fun f => if f = sF σ then w else sfw σ f), (fun f => if f = sF σ then n else swl σ f), (fun f k => if f = sF σ then le k else sle σ f k), (fun f k => if f = sF σ then sg k else ssg σ f k), sch σ)
/-- letters of edges behind d lowered, of the faces ahead of f and of the first k letters of f -/
def lowS (σ : SG) (d f k : Nat) : SG := ((sP σ, sE σ, sF σ), sfr σ, sto σ, sew σ, sfw σ, swl σ, (fun a j => if (a < f ∨ (a = f ∧ j < k)) ∧ d < sle σ a j then sle σ a j - 1 else sle σ a j), ssg σ, sch σ)
/-- an edge gone (its letters yet) -/
def cutE (σ : SG) (d : Nat) : SG := ((sP σ, sE σ - 1, sF σ), (fun e => if e < d then sfr σ e else sfr σ (e + 1)), (fun e => if e < d then sto σ e else sto σ (e + 1)), (fun e => if e < d then sew σ e else sew σ (e + 1)), sfw σ, swl σ, sle σ, ssg σ, fun c e => if e < d then sch σ c e else sch σ c (e + 1))
def dropE (σ : SG) (d : Nat) : SG := lowS (cutE σ d) d (sF σ) 0
def dropF (σ : SG) (d : Nat) : SG := ((sP σ, sE σ, sF σ - 1), sfr σ, sto σ, sew σ, (fun f => if f < d then sfw σ f else sfw σ (f + 1)), (fun f => if f < d then swl σ f else swl σ (f + 1)), (fun f k => if f < d then sle σ f k else sle σ (f + 1) k), (fun f k => if f < d then ssg σ f k else ssg σ (f + 1) k), sch σ)
def shE (f : Nat → Int) (d e : Nat) : Nat → Int := fun j => if (3 + d ≤ j ∧ j < 3 + e) ∨ (9 + d ≤ j ∧ j < 9 + e) ∨ (15 + d ≤ j ∧ j < 15 + e) ∨ (45 + d ≤ j ∧ j < 45 + e) ∨ (51 + d ≤ j ∧ j < 51 + e) ∨ (57 + d ≤ j ∧ j < 57 + e) then f (j + 1) else f j
def shF (f : Nat → Int) (d e : Nat) : Nat → Int := fun j => if (21 + d ≤ j ∧ j < 21 + e) ∨ (25 + d ≤ j ∧ j < 25 + e) then f (j + 1) else if 29 + 4 * d ≤ j ∧ j < 29 + 4 * e then f (j + 4) else f j
theorem shE_0 (f : Nat → Int) (d : Nat) : shE f d d = f := by
  funext j; unfold shE; rw [if_neg (by omega)]
theorem shF_0 (f : Nat → Int) (d : Nat) : shF f d d = f := by
  funext j; unfold shF; rw [if_neg (by omega), if_neg (by omega)]
theorem rc_addE {f : Nat → Int} {σ : SG} (W : WB σ) (C : RC f σ) (hE : sE σ < 6) (a b w : Nat) : RC (upn (upn (upn (upn (upn (upn (upn f (3 + sE σ) a) (9 + sE σ) b) (15 + sE σ) w) (45 + sE σ) 0) (51 + sE σ) 0) (57 + sE σ) 0) 1 (sE σ + 1)) (addE σ a b w) := by
  obtain ⟨c1, c2, c3, c4, c5, c6⟩ := C
  have w3 := W.2.2.1
  refine ⟨?_, ?_, ?_, fun e he => ?_, fun k hk => ?_, fun c e hc he => ?_⟩
  · simp (disch := omega) only [upn_ne, upn_eq]; exact c1
  · simp (disch := omega) only [upn_ne, upn_eq]; rfl
  · simp (disch := omega) only [upn_ne, upn_eq]; exact c3
  · have he : e < sE σ + 1 := he
    by_cases q : e = sE σ
    · subst q
      refine ⟨?_, ?_, ?_⟩ <;> simp (disch := omega) only [upn_ne, upn_eq] <;> simp [addE, sfr, sto, sew]
    · obtain ⟨d1, d2, d3⟩ := c4 e (by omega)
      refine ⟨?_, ?_, ?_⟩ <;> simp (disch := omega) only [upn_ne, upn_eq]
      · rw [d1]; simp [addE, sfr, q]
      · rw [d2]; simp [addE, sto, q]
      · rw [d3]; simp [addE, sew, q]
  · have hk : k < sF σ := hk
    obtain ⟨d1, d2, d3⟩ := c5 k hk
    have w4 := W.2.2.2 k hk
    refine ⟨?_, ?_, fun j hj => ?_⟩
    · simp (disch := omega) only [upn_ne, upn_eq]; exact d1
    · simp (disch := omega) only [upn_ne, upn_eq]; exact d2
    · have hj : j < swl σ k := hj
      simp (disch := omega) only [upn_ne, upn_eq]; exact d3 j hj
  · have he : e < sE σ + 1 := he
    by_cases q : e = sE σ
    · have : c = 0 ∨ c = 1 ∨ c = 2 := by omega
      rcases this with rfl | rfl | rfl <;> simp (disch := omega) only [upn_ne, upn_eq] <;> simp [addE, sch, q]
    · have : c = 0 ∨ c = 1 ∨ c = 2 := by omega
      have d1 := c6 c e hc (by omega)
      rcases this with rfl | rfl | rfl <;> simp (disch := omega) only [upn_ne, upn_eq] <;> (rw [d1]; simp [addE, sch, q])
set_option maxRecDepth 100000 in
set_option maxHeartbeats 4000000 in
theorem c_X0_beginOf {g : GG} {h : HH} {o : Nat} {σ : SG} (ho : isC o) (W : WB σ) (C : RC (h (o + 1)) σ) {e : Nat} (b : Bool) (he : e < sE σ) : CeI mX0_beginOf g [vr o, vi (cod e b)] h (bgE σ e b) := by
  refine cn_q (lv := [vr o, vi (cod e b), vx]) tX0_beginOf.1 rfl rfl (fun hR Q hQ => ?_)
  have w1 := W.1
  have w2 := W.2.1
  have w3 := W.2.2.1
  refine z_iload_n dX0_beginOf_0 rfl ?_
  refine z_callS_eI (M := mX0_beginOf) [_] tX4_edgeOf kX0_36 dX0_beginOf_1 ⟨by decide, by decide⟩ rfl (Nat.le_of_ble_eq_true rfl) rfl (s_X4_edgeOf b (by omega)) ?_
  refine z_istore_n dX0_beginOf_4 (by decide) rfl ?_
  refine z_iload_n dX0_beginOf_5 rfl ?_
  refine z_callS_eI (M := mX0_beginOf) [_] tX4_isBackward kX0_41 dX0_beginOf_6 ⟨by decide, by decide⟩ rfl (Nat.le_of_ble_eq_true rfl) rfl (s_X4_isBackward b (by omega)) ?_
  refine z_if_eq 20 dX0_beginOf_9 (by decide) (bi_r _) (fun c9 => ?_) (fun c9 => ?_)
  · have c9 := bi_eq.mp c9
    refine z_aload_n dX0_beginOf_20 rfl ?_
    refine z_iload_n dX0_beginOf_21 rfl ?_
    refine z_callV_eI (M := mX0_beginOf) [_] tX0_fromOf kX0_48 dX0_beginOf_22 (rcvC ho) ⟨by decide, by decide⟩ rfl (Nat.le_of_ble_eq_true rfl) rfl (s_X0_fromOf ho W C he) ?_
    exact z_ireturn dX0_beginOf_25 rfl (hQ _ _ ⟨_, rfl, (by unfold bgE; rw [if_neg c9]), rfl⟩)
  · have c9 := bi_ne.mp c9
    refine z_aload_n dX0_beginOf_12 rfl ?_
    refine z_iload_n dX0_beginOf_13 rfl ?_
    refine z_callV_eI (M := mX0_beginOf) [_] tX0_toOf kX0_45 dX0_beginOf_14 (rcvC ho) ⟨by decide, by decide⟩ rfl (Nat.le_of_ble_eq_true rfl) rfl (s_X0_toOf ho W C he) ?_
    refine z_goto 25 dX0_beginOf_17 (by decide) ?_
    exact z_ireturn dX0_beginOf_25 rfl (hQ _ _ ⟨_, rfl, (by unfold bgE; rw [if_pos c9]), rfl⟩)
set_option maxRecDepth 100000 in
set_option maxHeartbeats 4000000 in
theorem c_X0_endOf {g : GG} {h : HH} {o : Nat} {σ : SG} (ho : isC o) (W : WB σ) (C : RC (h (o + 1)) σ) {e : Nat} (b : Bool) (he : e < sE σ) : CeI mX0_endOf g [vr o, vi (cod e b)] h (enE σ e b) := by
  refine cn_q (lv := [vr o, vi (cod e b), vx]) tX0_endOf.1 rfl rfl (fun hR Q hQ => ?_)
  have w1 := W.1
  have w2 := W.2.1
  have w3 := W.2.2.1
  refine z_iload_n dX0_endOf_0 rfl ?_
  refine z_callS_eI (M := mX0_endOf) [_] tX4_edgeOf kX0_36 dX0_endOf_1 ⟨by decide, by decide⟩ rfl (Nat.le_of_ble_eq_true rfl) rfl (s_X4_edgeOf b (by omega)) ?_
  refine z_istore_n dX0_endOf_4 (by decide) rfl ?_
  refine z_iload_n dX0_endOf_5 rfl ?_
  refine z_callS_eI (M := mX0_endOf) [_] tX4_isBackward kX0_41 dX0_endOf_6 ⟨by decide, by decide⟩ rfl (Nat.le_of_ble_eq_true rfl) rfl (s_X4_isBackward b (by omega)) ?_
  refine z_if_eq 20 dX0_endOf_9 (by decide) (bi_r _) (fun c9 => ?_) (fun c9 => ?_)
  · have c9 := bi_eq.mp c9
    refine z_aload_n dX0_endOf_20 rfl ?_
    refine z_iload_n dX0_endOf_21 rfl ?_
    refine z_callV_eI (M := mX0_endOf) [_] tX0_toOf kX0_45 dX0_endOf_22 (rcvC ho) ⟨by decide, by decide⟩ rfl (Nat.le_of_ble_eq_true rfl) rfl (s_X0_toOf ho W C he) ?_
    exact z_ireturn dX0_endOf_25 rfl (hQ _ _ ⟨_, rfl, (by unfold enE; rw [if_neg c9]), rfl⟩)
  · have c9 := bi_ne.mp c9
    refine z_aload_n dX0_endOf_12 rfl ?_
    refine z_iload_n dX0_endOf_13 rfl ?_
    refine z_callV_eI (M := mX0_endOf) [_] tX0_fromOf kX0_48 dX0_endOf_14 (rcvC ho) ⟨by decide, by decide⟩ rfl (Nat.le_of_ble_eq_true rfl) rfl (s_X0_fromOf ho W C he) ?_
    refine z_goto 25 dX0_endOf_17 (by decide) ?_
    exact z_ireturn dX0_endOf_25 rfl (hQ _ _ ⟨_, rfl, (by unfold enE; rw [if_pos c9]), rfl⟩)
set_option maxRecDepth 100000 in
set_option maxHeartbeats 4000000 in
theorem c_X0_addEdge {g : GG} {h : HH} {o : Nat} {σ : SG} (ho : isC o) (W : WB σ) (C : RC (h (o + 1)) σ) {a b w : Nat} (ha : a < 6) (hb : b < 6) (hw : w < 6) (hE : sE σ < 6) : CnV mX0_addEdge g [vr o, vi (a : Int), vi (b : Int), vi (w : Int)] h (fun h' => ∃ f', h' = setc h (o + 1) f' ∧ RC f' (addE σ a b w)) := by
  refine cn_q (lv := [vr o, vi (a : Int), vi (b : Int), vi (w : Int), vx, vx]) tX0_addEdge.1 rfl rfl (fun hR Q hQ => ?_)
  have w1 := W.1
  have w2 := W.2.1
  have w3 := W.2.2.1
  refine z_aload_n dX0_addEdge_0 rfl ?_
  refine z_iconst dX0_addEdge_1 ?_
  refine z_callV_eI (M := mX0_addEdge) [_] tX0_sizeOf kX0_21 dX0_addEdge_2 (rcvC ho) ⟨by decide, by decide⟩ rfl (Nat.le_of_ble_eq_true rfl) rfl (s_X0_sizeE ho C) ?_
  refine z_istore dX0_addEdge_5 (by decide) rfl ?_
  refine z_iload dX0_addEdge_7 rfl ?_
  refine z_bipush dX0_addEdge_9 (by decide) ?_
  refine z_icmp_lt 15 dX0_addEdge_11 (by decide) (by omega) (by omega) (fun c11 => ?_) (fun c11 => ?_)
  · refine z_aload_n dX0_addEdge_15 rfl ?_
    refine z_iconst dX0_addEdge_16 ?_
    refine z_iload dX0_addEdge_17 rfl ?_
    refine z_iadd dX0_addEdge_19 ?_
    refine z_iload_n dX0_addEdge_20 rfl ?_
    refine z_callV_V (M := mX0_addEdge) [_, _] tX0_setSlot kX0_32 dX0_addEdge_21 (rcvC ho) ⟨by decide, by decide⟩ rfl (Nat.le_of_ble_eq_true rfl) rfl (c_X0_setSlot ho (by omega) (by omega)) (fun h21 q21 => ?_)
    subst q21
    rw [ss_n (i := 3 + sE σ) (by omega) (by omega)]
    refine z_aload_n dX0_addEdge_24 rfl ?_
    refine z_bipush dX0_addEdge_25 (by decide) ?_
    refine z_iload dX0_addEdge_27 rfl ?_
    refine z_iadd dX0_addEdge_29 ?_
    refine z_iload_n dX0_addEdge_30 rfl ?_
    refine z_callV_V (M := mX0_addEdge) [_, _] tX0_setSlot kX0_32 dX0_addEdge_31 (rcvC ho) ⟨by decide, by decide⟩ rfl (Nat.le_of_ble_eq_true rfl) rfl (c_X0_setSlot ho (by omega) (by omega)) (fun h31 q31 => ?_)
    subst q31
    rw [ss_s (i := 9 + sE σ) (by omega) (by omega)]
    refine z_aload_n dX0_addEdge_34 rfl ?_
    refine z_iconst dX0_addEdge_35 ?_
    refine z_iload dX0_addEdge_36 rfl ?_
    refine z_iload_n dX0_addEdge_38 rfl ?_
    refine z_callV_V (M := mX0_addEdge) [_, _, _] tX0_setWeight kX0_51 dX0_addEdge_39 (rcvC ho) ⟨by decide, by decide⟩ rfl (Nat.le_of_ble_eq_true rfl) rfl (c_X0_setWeight ho (by omega) (by omega) (by omega)) (fun h39 q39 => ?_)
    rw [if_pos rfl] at q39
    subst q39
    rw [ss_s (i := 15 + sE σ) (by omega) (by omega)]
    refine z_iconst dX0_addEdge_42 ?_
    refine z_istore dX0_addEdge_43 (by decide) rfl ?_
    refine z_iload dX0_addEdge_45 rfl ?_
    refine z_iconst dX0_addEdge_47 ?_
    refine z_icmp_ge 66 dX0_addEdge_48 (by decide) (by omega) (by omega) (fun c48 => ?_) (fun c48 => ?_)
    · omega
    · refine z_aload_n dX0_addEdge_51 rfl ?_
      refine z_iload dX0_addEdge_52 rfl ?_
      refine z_iload dX0_addEdge_54 rfl ?_
      refine z_iconst dX0_addEdge_56 ?_
      refine z_callV_V (M := mX0_addEdge) [_, _, _] tX0_setNumber kX0_55 dX0_addEdge_57 (rcvC ho) ⟨by decide, by decide⟩ rfl (Nat.le_of_ble_eq_true rfl) rfl (c_X0_setNumber ho (by omega) (by omega) (by omega)) (fun h57 q57 => ?_)
      subst q57
      rw [ss_s (i := 45 + sE σ) (by omega) (by omega)]
      refine z_iinc dX0_addEdge_60 rfl (by decide) rfl ?_
      refine z_goto 45 dX0_addEdge_63 (by decide) ?_
      refine z_iload dX0_addEdge_45 rfl ?_
      refine z_iconst dX0_addEdge_47 ?_
      refine z_icmp_ge 66 dX0_addEdge_48 (by decide) (by omega) (by omega) (fun c48 => ?_) (fun c48 => ?_)
      · omega
      · refine z_aload_n dX0_addEdge_51 rfl ?_
        refine z_iload dX0_addEdge_52 rfl ?_
        refine z_iload dX0_addEdge_54 rfl ?_
        refine z_iconst dX0_addEdge_56 ?_
        refine z_callV_V (M := mX0_addEdge) [_, _, _] tX0_setNumber kX0_55 dX0_addEdge_57 (rcvC ho) ⟨by decide, by decide⟩ rfl (Nat.le_of_ble_eq_true rfl) rfl (c_X0_setNumber ho (by omega) (by omega) (by omega)) (fun h57 q57 => ?_)
        subst q57
        rw [ss_s (i := 51 + sE σ) (by omega) (by omega)]
        refine z_iinc dX0_addEdge_60 rfl (by decide) rfl ?_
        refine z_goto 45 dX0_addEdge_63 (by decide) ?_
        refine z_iload dX0_addEdge_45 rfl ?_
        refine z_iconst dX0_addEdge_47 ?_
        refine z_icmp_ge 66 dX0_addEdge_48 (by decide) (by omega) (by omega) (fun c48 => ?_) (fun c48 => ?_)
        · omega
        · refine z_aload_n dX0_addEdge_51 rfl ?_
          refine z_iload dX0_addEdge_52 rfl ?_
          refine z_iload dX0_addEdge_54 rfl ?_
          refine z_iconst dX0_addEdge_56 ?_
          refine z_callV_V (M := mX0_addEdge) [_, _, _] tX0_setNumber kX0_55 dX0_addEdge_57 (rcvC ho) ⟨by decide, by decide⟩ rfl (Nat.le_of_ble_eq_true rfl) rfl (c_X0_setNumber ho (by omega) (by omega) (by omega)) (fun h57 q57 => ?_)
          subst q57
          rw [ss_s (i := 57 + sE σ) (by omega) (by omega)]
          refine z_iinc dX0_addEdge_60 rfl (by decide) rfl ?_
          refine z_goto 45 dX0_addEdge_63 (by decide) ?_
          refine z_iload dX0_addEdge_45 rfl ?_
          refine z_iconst dX0_addEdge_47 ?_
          refine z_icmp_ge 66 dX0_addEdge_48 (by decide) (by omega) (by omega) (fun c48 => ?_) (fun c48 => ?_)
          · refine z_aload_n dX0_addEdge_66 rfl ?_
            refine z_iconst dX0_addEdge_67 ?_
            refine z_iload dX0_addEdge_68 rfl ?_
            refine z_iconst dX0_addEdge_70 ?_
            refine z_iadd dX0_addEdge_71 ?_
            refine z_callV_V (M := mX0_addEdge) [_, _] tX0_setSlot kX0_32 dX0_addEdge_72 (rcvC ho) ⟨by decide, by decide⟩ rfl (Nat.le_of_ble_eq_true rfl) rfl (c_X0_setSlot ho (by omega) (by omega)) (fun h72 q72 => ?_)
            subst q72
            rw [ss_s (i := 1) (by omega) (by omega)]
            exact z_return dX0_addEdge_75 rfl (hQ _ _ ⟨rfl, ⟨_, rfl, rc_addE W C hE a b w⟩⟩)
          · omega
  · omega

set_option maxRecDepth 100000 in
set_option maxHeartbeats 4000000 in
theorem c_X6_rankBy {g : GG} {h : HH} {p : Nat} (hp : p = 2 ∨ p = 3 ∨ p = 5 ∨ p = 7) {R C : Nat} (hR6 : R ≤ 6) (hC6 : C ≤ 6) {A : Nat → Nat → Int} (hA : ∀ i j, i < R → j < C → MM (h 54) i j = A i j) : CnI mX6_rankBy g [vr 47, vi (R : Int), vi (C : Int), vi (p : Int)] h (fun z h' => (∃ y : Nat, z = y ∧ y ≤ 6 ∧ Rk A R (2 ^ C - 1) p y) ∧ F54 h h') := by
  refine cn_q (lv := [vr 47, vi (R : Int), vi (C : Int), vi (p : Int), vx, vx, vx]) tX6_rankBy.1 rfl rfl (fun hR Q hQ => ?_)
  have p0 : (0 : Int) < p := by omega
  refine z_iconst dX6_rankBy_0 ?_
  refine z_istore dX6_rankBy_1 (by decide) rfl ?_
  have loop3 : ∀ (nL9 : Nat) (k : Nat) (f : Nat → Int), (k ≤ 36) → (PK p k (h 54) f) → 36 - k < nL9 → Z mX6_rankBy g 3 [vr 47, vi (R : Int), vi (C : Int), vi (p : Int), vi (k : Int), vx, vx] [] (setc h 54 f) Q := by
    intro nL9
    induction nL9 with
    | zero => intro k f hk hP hnL9; exact absurd hnL9 (Nat.not_lt_zero _)
    | succ nL9 ih3 =>
      intro k f hk hP hnL9
      refine z_iload dX6_rankBy_3 rfl ?_
      refine z_bipush dX6_rankBy_5 (by decide) ?_
      refine z_icmp_ge 39 dX6_rankBy_7 (by decide) (by omega) (by omega) (fun c7 => ?_) (fun c7 => ?_)
      · refine z_iconst dX6_rankBy_39 ?_
        refine z_istore dX6_rankBy_40 (by decide) rfl ?_
        refine z_iconst dX6_rankBy_42 ?_
        refine z_istore dX6_rankBy_43 (by decide) rfl ?_
        have loop45 : ∀ (nL9 : Nat) (j : Nat) (c : Nat) (f : Nat → Int), (j ≤ C) → (EC f p R j c) → (KE p R C A f) → (PB p f) → C - j < nL9 → Z mX6_rankBy g 45 [vr 47, vi (R : Int), vi (C : Int), vi (p : Int), vi (pc6 c : Int), vi (j : Int), vx] [] (setc h 54 f) Q := by
          intro nL9
          induction nL9 with
          | zero => intro j c f hj hE hK hB hnL9; exact absurd hnL9 (Nat.not_lt_zero _)
          | succ nL9 ih45 =>
            intro j c f hj hE hK hB hnL9
            refine z_iload dX6_rankBy_45 rfl ?_
            refine z_iload_n dX6_rankBy_47 rfl ?_
            refine z_icmp_ge 118 dX6_rankBy_48 (by decide) (by omega) (by omega) (fun c48 => ?_) (fun c48 => ?_)
            · refine z_iload dX6_rankBy_118 rfl ?_
              exact z_ireturn dX6_rankBy_120 rfl (hQ _ _ ⟨_, rfl, ⟨⟨pc6 c, rfl, by have := hE.2.1; omega, by rw [show j = C from by omega] at hE; exact rk_ec (pr4 hp) hR6 hC6 hK hE⟩, f, rfl⟩⟩)
            · have cut85 : ∀ (q : Nat), (pc6 c ≤ q ∧ q ≤ R) → (∀ i, pc6 c ≤ i → i < q → MM f i j = 0) → (q < R → MM f q j ≠ 0) → Z mX6_rankBy g 85 [vr 47, vi (R : Int), vi (C : Int), vi (p : Int), vi (pc6 c : Int), vi (j : Int), vi (q : Int)] [] (setc h 54 f) Q := by
                intro q hq hz hnz
                refine z_iload dX6_rankBy_85 rfl ?_
                refine z_iload_n dX6_rankBy_87 rfl ?_
                refine z_icmp_ge 112 dX6_rankBy_88 (by decide) (by omega) (by omega) (fun c88 => ?_) (fun c88 => ?_)
                · refine z_iinc dX6_rankBy_112 rfl (by decide) rfl ?_
                  refine z_goto 45 dX6_rankBy_115 (by decide) ?_
                  refine z_forget 6 ?_
                  exact ih45 (j + 1) c f (by omega) (hE.skip (fun i i1 i2 => hz i i1 (by omega))) hK hB (by omega)
                · have hnz := hnz (by omega)
                  have ecR := hE.2.1
                  have swv : MM (swf q (pc6 c) 6 f) (pc6 c) j ≠ 0 := by
                    rw [MM_sw f (by omega)]
                    split
                    · rename_i e; rw [e]; exact hnz
                    · rw [if_pos rfl]; exact hnz
                  have swPB : PB p (swf q (pc6 c) 6 f) := fun a b ha hb => by
                    rw [MM_sw f hb]
                    split
                    · exact hB _ _ (by omega) hb
                    · split
                      · exact hB _ _ (by omega) hb
                      · exact hB _ _ ha hb
                  refine z_aload_n dX6_rankBy_91 rfl ?_
                  refine z_iload dX6_rankBy_92 rfl ?_
                  refine z_iload dX6_rankBy_94 rfl ?_
                  refine z_callV_V (M := mX6_rankBy) [_, _] tX6_swaps kX6_84 dX6_rankBy_96 ⟨by decide, rfl, _, _, rfl⟩ ⟨by decide, by decide⟩ rfl (Nat.le_of_ble_eq_true rfl) rfl (c_X6_swaps (a := q) (b := pc6 c) (by omega) (by omega)) (fun h96 q96 => ?_)
                  have hb : RR (setc (setc h 54 f) 54 (swf q (pc6 c) 6 f)) → True := fun _ => trivial
                  rw [q96, setc_at, setc_setc]
                  refine z_aload_n dX6_rankBy_99 rfl ?_
                  refine z_iload dX6_rankBy_100 rfl ?_
                  refine z_iload dX6_rankBy_102 rfl ?_
                  refine z_iload_n dX6_rankBy_104 rfl ?_
                  refine z_iload_n dX6_rankBy_105 rfl ?_
                  refine z_callV_V (M := mX6_rankBy) [_, _, _, _] tX6_clears kX6_88 dX6_rankBy_106 ⟨by decide, rfl, _, _, rfl⟩ ⟨by decide, by decide⟩ rfl (Nat.le_of_ble_eq_true rfl) rfl (c_X6_clears (h := setc h 54 (swf q (pc6 c) 6 f)) hp (r := pc6 c) (j := j) (R := R) (by omega) hR6 (by omega) (by rw [setc_at]; exact swPB) (by rw [setc_at]; exact swv)) (fun h106 q106 => ?_)
                  obtain ⟨f3, g1, g2, g3, g4⟩ := q106
                  rw [setc_at] at g2
                  rw [g1, setc_setc]
                  refine z_iinc dX6_rankBy_109 rfl (by decide) rfl ?_
                  refine z_iinc dX6_rankBy_112 rfl (by decide) rfl ?_
                  refine z_goto 45 dX6_rankBy_115 (by decide) ?_
                  refine z_forget 6 ?_
                  have tp : pc6 (c + 2 ^ j) = pc6 c + 1 := (top0 ⟨c, by have := hE.1; have := b_shl (j := j) (by omega); omega⟩ ⟨j, by omega⟩ hE.1).1
                  have x0 := ih45 (j + 1) (c + 2 ^ j) f3 (by omega) (hE.step hR6 (by omega) hq.1 (by omega) (pnz hB (by omega) (by omega) hnz) g2 g4) ((hK.sw hC6 (by omega) (by omega)).cq hR6 hC6 (by omega) g2) g3 (by omega)
                  rw [tp] at x0
                  exact x0
              refine z_iload dX6_rankBy_51 rfl ?_
              refine z_istore dX6_rankBy_53 (by decide) rfl ?_
              have loop55 : ∀ (nL9 : Nat) (q : Nat), (pc6 c ≤ q ∧ q ≤ R) → (∀ i, pc6 c ≤ i → i < q → MM f i j = 0) → R - q < nL9 → Z mX6_rankBy g 55 [vr 47, vi (R : Int), vi (C : Int), vi (p : Int), vi (pc6 c : Int), vi (j : Int), vi (q : Int)] [] (setc h 54 f) Q := by
                intro nL9
                induction nL9 with
                | zero => intro q hq hz hnL9; exact absurd hnL9 (Nat.not_lt_zero _)
                | succ nL9 ih55 =>
                  intro q hq hz hnL9
                  refine z_iload dX6_rankBy_55 rfl ?_
                  refine z_iload_n dX6_rankBy_57 rfl ?_
                  refine z_icmp_ge 85 dX6_rankBy_58 (by decide) (by omega) (by omega) (fun c58 => ?_) (fun c58 => ?_)
                  · exact cut85 q hq hz (fun q => by omega)
                  · refine z_aload_n dX6_rankBy_61 rfl ?_
                    refine z_getR fX6_29 dX6_rankBy_62 (by decide) rfl rfl ?_
                    refine z_bipush dX6_rankBy_65 (by decide) ?_
                    refine z_iload dX6_rankBy_67 rfl ?_
                    refine z_imul dX6_rankBy_69 ?_
                    refine z_iload dX6_rankBy_70 rfl ?_
                    refine z_iadd dX6_rankBy_72 ?_
                    refine z_laload dX6_rankBy_73 (by decide) rfl (by omega) (by omega) (by first | decide | omega) (fun r73 => ?_)
                    rw [rd54 (i := q) (j := j) (z := 6 * (q : Int) + (j : Int)) rfl] at r73 ⊢
                    refine z_lconst (z := 0) dX6_rankBy_74 rfl ?_
                    refine z_lcmp dX6_rankBy_75 (by omega) (by decide) ?_
                    refine z_if_ne 85 dX6_rankBy_76 (by decide) (icmp_r _ _) (fun c76 => ?_) (fun c76 => ?_)
                    · have c76 := icmp_ne.mp c76
                      exact cut85 q hq hz (fun _ => c76)
                    · have c76 := icmp_eq.mp c76
                      refine z_iinc dX6_rankBy_79 rfl (by decide) rfl ?_
                      refine z_goto 55 dX6_rankBy_82 (by decide) ?_
                      exact ih55 (q + 1) (by omega) (fun i i1 i2 => by
                        rcases (show i < q ∨ i = q by omega) with e | e
                        · exact hz i i1 e
                        · rw [e]; exact c76) (by omega)
              exact loop55 _ (pc6 c) ⟨Nat.le_refl _, hE.2.1⟩ (fun i i1 i2 => by omega) (Nat.lt_succ_self _)
        have hk36 : k = 36 := by omega
        subst hk36
        exact loop45 _ 0 0 f (by omega) (EC.init f p R) (hP.ke hR6 hC6 hA) (hP.pb p0) (Nat.lt_succ_self _)
      · refine z_aload_n dX6_rankBy_10 rfl ?_
        refine z_getR fX6_29 dX6_rankBy_11 (by decide) rfl rfl ?_
        refine z_iload dX6_rankBy_14 rfl ?_
        refine z_aload_n dX6_rankBy_16 rfl ?_
        refine z_getR fX6_29 dX6_rankBy_17 (by decide) rfl rfl ?_
        refine z_iload dX6_rankBy_20 rfl ?_
        refine z_laload dX6_rankBy_22 (by decide) rfl (by omega) (by omega) (by first | decide | omega) (fun r22 => ?_)
        refine z_iload_n dX6_rankBy_23 rfl ?_
        refine z_i2l dX6_rankBy_24 (by omega) ?_
        rw [setc_at, ix (f := f) (z := (k : Int)) (i := k) rfl] at r22 ⊢
        refine z_lrem dX6_rankBy_25 (by omega) (by omega) (by omega) ?_
        refine z_iload_n dX6_rankBy_26 rfl ?_
        refine z_i2l dX6_rankBy_27 (by omega) ?_
        have t2 := tmod_rg (v := f k) p0
        have t3 := pn_r (v := f k) p0
        unfold pn at t3
        refine z_ladd dX6_rankBy_28 ?_
        refine z_iload_n dX6_rankBy_29 rfl ?_
        refine z_i2l dX6_rankBy_30 (by omega) ?_
        refine z_lrem dX6_rankBy_31 (by omega) (by omega) (by omega) ?_
        refine z_lastore dX6_rankBy_32 (by decide) rfl (by omega) (by omega) (by first | decide | omega) (by omega) ?_
        rw [up_s (i := k) rfl]
        refine z_iinc dX6_rankBy_33 rfl (by decide) rfl ?_
        refine z_goto 3 dX6_rankBy_36 (by decide) ?_
        exact ih3 (k + 1) _ (by omega) (hP.put (by have := hP k; rw [if_neg (Nat.lt_irrefl k)] at this; rw [this]; rfl)) (by omega)
  have x0 := loop3 _ 0 (h 54) (by omega) (fun t => by rw [if_neg (Nat.not_lt_zero t)]) (Nat.lt_succ_self _)
  rw [setc_self] at x0
  exact x0
set_option maxRecDepth 100000 in
set_option maxHeartbeats 4000000 in
theorem c_X6_rankFor10 {g : GG} {h : HH} {σ : SG} (W : WF σ) (R : RM (h 48) σ) : CnI mX6_rankFor g [vr 47, vi 1, vi 0] h (fun z h' => (∃ y : Nat, z = y ∧ y ≤ 6 ∧ Rk (ent1 σ) (sP σ) (2 ^ sE σ - 1) 0 y) ∧ F54 h h') := by
  refine cn_q (lv := [vr 47, vi 1, vi 0]) tX6_rankFor.1 rfl rfl (fun hR Q hQ => ?_)
  have w1 := W.1
  have w2 := W.2.1
  have w3 := W.2.2.1
  refine z_iload_n dX6_rankFor_0 rfl ?_
  refine z_if_ne 10 dX6_rankFor_1 (by decide) (by omega) (fun c1 => ?_) (fun c1 => ?_)
  · omega
  · refine z_aload_n dX6_rankFor_4 rfl ?_
    refine z_iload_n dX6_rankFor_5 rfl ?_
    refine z_callV_I (M := mX6_rankFor) [_] tX6_rankAll kX6_303 dX6_rankFor_6 ⟨by decide, rfl, _, _, rfl⟩ ⟨by decide, by decide⟩ rfl (Nat.le_of_ble_eq_true rfl) rfl (c_X6_rankAll1 W R) (fun z6 h6 q6 => ?_)
    exact z_ireturn dX6_rankFor_9 rfl (hQ _ _ ⟨_, rfl, q6⟩)
set_option maxRecDepth 100000 in
set_option maxHeartbeats 4000000 in
theorem c_X6_rankFor1p {g : GG} {h : HH} {σ : SG} (W : WF σ) (R : RM (h 48) σ) {p : Nat} (hp : p = 2 ∨ p = 3 ∨ p = 5 ∨ p = 7) : CnI mX6_rankFor g [vr 47, vi 1, vi (p : Int)] h (fun z h' => (∃ y : Nat, z = y ∧ y ≤ 6 ∧ Rk (ent1 σ) (sP σ) (2 ^ sE σ - 1) p y) ∧ F54 h h') := by
  refine cn_q (lv := [vr 47, vi 1, vi (p : Int)]) tX6_rankFor.1 rfl rfl (fun hR Q hQ => ?_)
  have w1 := W.1
  have w2 := W.2.1
  have w3 := W.2.2.1
  refine z_iload_n dX6_rankFor_0 rfl ?_
  refine z_if_ne 10 dX6_rankFor_1 (by decide) (by omega) (fun c1 => ?_) (fun c1 => ?_)
  · refine z_aload_n dX6_rankFor_10 rfl ?_
    refine z_iload_n dX6_rankFor_11 rfl ?_
    refine z_callV_V (M := mX6_rankFor) [_] tX6_lays kX6_306 dX6_rankFor_12 ⟨by decide, rfl, _, _, rfl⟩ ⟨by decide, by decide⟩ rfl (Nat.le_of_ble_eq_true rfl) rfl (c_X6_lays1 W R) (fun h12 q12 => ?_)
    obtain ⟨f, f1, f2⟩ := q12
    rw [f1]
    refine z_aload_n dX6_rankFor_15 rfl ?_
    refine z_aload_n dX6_rankFor_16 rfl ?_
    refine z_iload_n dX6_rankFor_17 rfl ?_
    refine z_callV_eI (M := mX6_rankFor) [_] tX6_rows kX6_96 dX6_rankFor_18 ⟨by decide, rfl, _, _, rfl⟩ ⟨by decide, by decide⟩ rfl (Nat.le_of_ble_eq_true rfl) rfl (c_X6_rows1 (rm54 R f)) ?_
    refine z_aload_n dX6_rankFor_21 rfl ?_
    refine z_iload_n dX6_rankFor_22 rfl ?_
    refine z_callV_eI (M := mX6_rankFor) [_] tX6_columns kX6_74 dX6_rankFor_23 ⟨by decide, rfl, _, _, rfl⟩ ⟨by decide, by decide⟩ rfl (Nat.le_of_ble_eq_true rfl) rfl (c_X6_columns1 (rm54 R f)) ?_
    refine z_iload_n dX6_rankFor_26 rfl ?_
    refine z_callV_I (M := mX6_rankFor) [_, _, _] tX6_rankBy kX6_309 dX6_rankFor_27 ⟨by decide, rfl, _, _, rfl⟩ ⟨by decide, by decide⟩ rfl (Nat.le_of_ble_eq_true rfl) rfl (c_X6_rankBy (h := setc h 54 f) hp (by omega) (by omega) (A := ent1 σ) (fun i j hi hj => by rw [setc_at]; exact f2 i j hi hj)) (fun z27 h27 q27 => ?_)
    obtain ⟨y, f3, f4⟩ := q27
    exact z_ireturn dX6_rankFor_30 rfl (hQ _ _ ⟨_, rfl, ⟨y, f3, by rw [f4, setc_setc]⟩⟩)
  · omega
set_option maxRecDepth 100000 in
set_option maxHeartbeats 4000000 in
theorem c_X6_rankFor20 {g : GG} {h : HH} {σ : SG} (W : WF σ) (R : RM (h 48) σ) : CnI mX6_rankFor g [vr 47, vi 2, vi 0] h (fun z h' => (∃ y : Nat, z = y ∧ y ≤ 6 ∧ Rk (ent2 σ) (sE σ) (2 ^ sF σ - 1) 0 y) ∧ F54 h h') := by
  refine cn_q (lv := [vr 47, vi 2, vi 0]) tX6_rankFor.1 rfl rfl (fun hR Q hQ => ?_)
  have w1 := W.1
  have w2 := W.2.1
  have w3 := W.2.2.1
  refine z_iload_n dX6_rankFor_0 rfl ?_
  refine z_if_ne 10 dX6_rankFor_1 (by decide) (by omega) (fun c1 => ?_) (fun c1 => ?_)
  · omega
  · refine z_aload_n dX6_rankFor_4 rfl ?_
    refine z_iload_n dX6_rankFor_5 rfl ?_
    refine z_callV_I (M := mX6_rankFor) [_] tX6_rankAll kX6_303 dX6_rankFor_6 ⟨by decide, rfl, _, _, rfl⟩ ⟨by decide, by decide⟩ rfl (Nat.le_of_ble_eq_true rfl) rfl (c_X6_rankAll2 W R) (fun z6 h6 q6 => ?_)
    exact z_ireturn dX6_rankFor_9 rfl (hQ _ _ ⟨_, rfl, q6⟩)
set_option maxRecDepth 100000 in
set_option maxHeartbeats 4000000 in
theorem c_X6_rankFor2p {g : GG} {h : HH} {σ : SG} (W : WF σ) (R : RM (h 48) σ) {p : Nat} (hp : p = 2 ∨ p = 3 ∨ p = 5 ∨ p = 7) : CnI mX6_rankFor g [vr 47, vi 2, vi (p : Int)] h (fun z h' => (∃ y : Nat, z = y ∧ y ≤ 6 ∧ Rk (ent2 σ) (sE σ) (2 ^ sF σ - 1) p y) ∧ F54 h h') := by
  refine cn_q (lv := [vr 47, vi 2, vi (p : Int)]) tX6_rankFor.1 rfl rfl (fun hR Q hQ => ?_)
  have w1 := W.1
  have w2 := W.2.1
  have w3 := W.2.2.1
  refine z_iload_n dX6_rankFor_0 rfl ?_
  refine z_if_ne 10 dX6_rankFor_1 (by decide) (by omega) (fun c1 => ?_) (fun c1 => ?_)
  · refine z_aload_n dX6_rankFor_10 rfl ?_
    refine z_iload_n dX6_rankFor_11 rfl ?_
    refine z_callV_V (M := mX6_rankFor) [_] tX6_lays kX6_306 dX6_rankFor_12 ⟨by decide, rfl, _, _, rfl⟩ ⟨by decide, by decide⟩ rfl (Nat.le_of_ble_eq_true rfl) rfl (c_X6_lays2 W R) (fun h12 q12 => ?_)
    obtain ⟨f, f1, f2⟩ := q12
    rw [f1]
    refine z_aload_n dX6_rankFor_15 rfl ?_
    refine z_aload_n dX6_rankFor_16 rfl ?_
    refine z_iload_n dX6_rankFor_17 rfl ?_
    refine z_callV_eI (M := mX6_rankFor) [_] tX6_rows kX6_96 dX6_rankFor_18 ⟨by decide, rfl, _, _, rfl⟩ ⟨by decide, by decide⟩ rfl (Nat.le_of_ble_eq_true rfl) rfl (c_X6_rows2 (rm54 R f)) ?_
    refine z_aload_n dX6_rankFor_21 rfl ?_
    refine z_iload_n dX6_rankFor_22 rfl ?_
    refine z_callV_eI (M := mX6_rankFor) [_] tX6_columns kX6_74 dX6_rankFor_23 ⟨by decide, rfl, _, _, rfl⟩ ⟨by decide, by decide⟩ rfl (Nat.le_of_ble_eq_true rfl) rfl (c_X6_columns2 (rm54 R f)) ?_
    refine z_iload_n dX6_rankFor_26 rfl ?_
    refine z_callV_I (M := mX6_rankFor) [_, _, _] tX6_rankBy kX6_309 dX6_rankFor_27 ⟨by decide, rfl, _, _, rfl⟩ ⟨by decide, by decide⟩ rfl (Nat.le_of_ble_eq_true rfl) rfl (c_X6_rankBy (h := setc h 54 f) hp (by omega) (by omega) (A := ent2 σ) (fun i j hi hj => by rw [setc_at]; exact f2 i j hi hj)) (fun z27 h27 q27 => ?_)
    obtain ⟨y, f3, f4⟩ := q27
    exact z_ireturn dX6_rankFor_30 rfl (hQ _ _ ⟨_, rfl, ⟨y, f3, by rw [f4, setc_setc]⟩⟩)
  · omega

set_option maxRecDepth 100000 in
set_option maxHeartbeats 4000000 in
theorem c_X6_solves1 {g : GG} {h : HH} {σ : SG} (W : WF σ) (R : RM (h 48) σ) {I c : Nat} (hI : I < 2 ^ sP σ) (hc : c < 3) : CnV mX6_solves g [vr 47, vi 1, vi (I : Int), vi (c : Int)] h (fun h' => SVh h h' (pc6 I) (fun i j => prd σ 1 (nt I i) (nt I j)) (fun i => agn σ 1 c (nt I i)) (pc6 I)) := by
  refine cn_q (lv := [vr 47, vi 1, vi (I : Int), vi (c : Int), vx, vx, vx]) tX6_solves.1 rfl rfl (fun hR Q hQ => ?_)
  have w1 := W.1
  have w2 := W.2.1
  have w3 := W.2.2.1
  have b6 := b_shl (j := sP σ) (by omega)
  have I64 : I < 64 := by omega
  have p6 := (pc6_r I64).1
  have p4 := ind_P5 W hI
  have hBb : ∀ i j, i < pc6 I → j < pc6 I → (prd σ 1 (nt I i) (nt I j)).natAbs ≤ 54 := fun i j hi hj => (by have := prd1_r W (nt I i) (nt I j); omega)
  have hbb : ∀ i, i < pc6 I → (agn σ 1 c (nt I i)).natAbs ≤ 54 := fun i hi => agn1_r W hc
  have dB : (dT (pc6 I) (fun i j => prd σ 1 (nt I i) (nt I j))).natAbs < 2 ^ 50 := Nat.lt_of_le_of_lt (dT_b (pc6 I) 54 _ hBb) (fcb_54n _ p4)
  have dU : ∀ j, (dT (pc6 I) (uc j (fun i => agn σ 1 c (nt I i)) (fun i j => prd σ 1 (nt I i) (nt I j)))).natAbs < 2 ^ 50 := fun j => Nat.lt_of_le_of_lt (dT_b (pc6 I) 54 _ (uc_b hBb hbb)) (fcb_54n _ p4)
  refine z_iload_n dX6_solves_0 rfl ?_
  refine z_callS_eI (M := mX6_solves) [_] tX6_ones kX6_99 dX6_solves_1 ⟨by decide, by decide⟩ rfl (Nat.le_of_ble_eq_true rfl) rfl (c_X6_ones (by omega)) ?_
  refine z_istore dX6_solves_4 (by decide) rfl ?_
  refine z_aload_n dX6_solves_6 rfl ?_
  refine z_iload_n dX6_solves_7 rfl ?_
  refine z_iload_n dX6_solves_8 rfl ?_
  refine z_callV_V (M := mX6_solves) [_, _] tX6_laysProducts kX6_334 dX6_solves_9 ⟨by decide, rfl, _, _, rfl⟩ ⟨by decide, by decide⟩ rfl (Nat.le_of_ble_eq_true rfl) rfl (c_X6_laysProducts1 W R hI) (fun h9 q9 => ?_)
  obtain ⟨f, f1, f2⟩ := q9
  rw [f1]
  refine z_aload_n dX6_solves_12 rfl ?_
  refine z_aload_n dX6_solves_13 rfl ?_
  refine z_iload dX6_solves_14 rfl ?_
  refine z_callV_L (M := mX6_solves) [_] tX6_determinant kX6_109 dX6_solves_16 ⟨by decide, rfl, _, _, rfl⟩ ⟨by decide, by decide⟩ rfl (Nat.le_of_ble_eq_true rfl) rfl (c_X6_determinant (n := pc6 I) (b := 54) (by omega) (fun i j hi hj => by rw [setc_at, f2 i j hi hj]; exact hBb i j hi hj) (fun k hk => fcb_54 _ k p4 hk)) (fun z16 h16 q16 => ?_)
  obtain ⟨e1, f', e2⟩ := q16
  rw [e1, e2, setc_setc, setc_at, dT_congr (pc6 I) (B := (fun i j => prd σ 1 (nt I i) (nt I j))) f2]
  refine z_putJ pX6_337 dX6_solves_19 (by decide) rfl rfl (by omega) ?_
  refine z_iconst dX6_solves_22 ?_
  refine z_istore dX6_solves_23 (by decide) rfl ?_
  have loop25 : ∀ (nL9 : Nat) (j : Nat) (h1 : HH), (j ≤ pc6 I) → (SVh h h1 (pc6 I) (fun i j => prd σ 1 (nt I i) (nt I j)) (fun i => agn σ 1 c (nt I i)) j) → pc6 I - j < nL9 → Z mX6_solves g 25 [vr 47, vi 1, vi (I : Int), vi (c : Int), vi (pc6 I : Int), vi (j : Int), vx] [] h1 Q := by
    intro nL9
    induction nL9 with
    | zero => intro j h1 hj L hnL9; exact absurd hnL9 (Nat.not_lt_zero _)
    | succ nL9 ih25 =>
      intro j h1 hj L hnL9
      refine z_iload dX6_solves_25 rfl ?_
      refine z_iload dX6_solves_27 rfl ?_
      refine z_icmp_ge 98 dX6_solves_29 (by decide) (by omega) (by omega) (fun c29 => ?_) (fun c29 => ?_)
      · exact z_return dX6_solves_98 rfl (hQ _ _ ⟨rfl, (by rw [show j = pc6 I from by omega] at L; exact L)⟩)
      · refine z_aload_n dX6_solves_32 rfl ?_
        refine z_iload_n dX6_solves_33 rfl ?_
        refine z_iload_n dX6_solves_34 rfl ?_
        refine z_callV_V (M := mX6_solves) [_, _] tX6_laysProducts kX6_334 dX6_solves_35 ⟨by decide, rfl, _, _, rfl⟩ ⟨by decide, by decide⟩ rfl (Nat.le_of_ble_eq_true rfl) rfl (c_X6_laysProducts1 W (L.rm R) hI) (fun h35 q35 => ?_)
        obtain ⟨f, f1, f2⟩ := q35
        rw [f1]
        refine z_iconst dX6_solves_38 ?_
        refine z_istore dX6_solves_39 (by decide) rfl ?_
        have loop41 : ∀ (nL9 : Nat) (i : Nat) (f : Nat → Int), (i ≤ pc6 I) → (UC (pc6 I) j i (fun i j => prd σ 1 (nt I i) (nt I j)) (fun i => agn σ 1 c (nt I i)) f) → pc6 I - i < nL9 → Z mX6_solves g 41 [vr 47, vi 1, vi (I : Int), vi (c : Int), vi (pc6 I : Int), vi (j : Int), vi (i : Int)] [] (setc h1 54 f) Q := by
          intro nL9
          induction nL9 with
          | zero => intro i f hi hU hnL9; exact absurd hnL9 (Nat.not_lt_zero _)
          | succ nL9 ih41 =>
            intro i f hi hU hnL9
            refine z_iload dX6_solves_41 rfl ?_
            refine z_iload dX6_solves_43 rfl ?_
            refine z_icmp_ge 79 dX6_solves_45 (by decide) (by omega) (by omega) (fun c45 => ?_) (fun c45 => ?_)
            · refine z_aload_n dX6_solves_79 rfl ?_
              refine z_getR fX6_33 dX6_solves_80 (by decide) rfl rfl ?_
              refine z_iload dX6_solves_83 rfl ?_
              refine z_aload_n dX6_solves_85 rfl ?_
              refine z_iload dX6_solves_86 rfl ?_
              refine z_callV_L (M := mX6_solves) [_] tX6_determinant kX6_109 dX6_solves_88 ⟨by decide, rfl, _, _, rfl⟩ ⟨by decide, by decide⟩ rfl (Nat.le_of_ble_eq_true rfl) rfl (c_X6_determinant (n := pc6 I) (b := 54) (by omega) (fun i k hi hk => by rw [setc_at, hU.end (by omega) i k hi hk]; exact uc_b hBb hbb i k hi hk) (fun k hk => fcb_54 _ k p4 hk)) (fun z88 h88 q88 => ?_)
              obtain ⟨e1, f', e2⟩ := q88
              rw [e1, e2, setc_setc, setc_at, dT_congr (pc6 I) (B := uc j (fun i => agn σ 1 c (nt I i)) (fun i j => prd σ 1 (nt I i) (nt I j))) (hU.end (by omega))]
              have dj := dU j
              refine z_lastore dX6_solves_91 (by decide) rfl (by omega) (by omega) (by first | decide | omega) (by omega) ?_
              refine z_iinc dX6_solves_92 rfl (by decide) rfl ?_
              refine z_goto 25 dX6_solves_95 (by decide) ?_
              refine z_forget 6 ?_
              exact ih25 (j + 1) _ (by omega) (L.put rfl rfl) (by omega)
            · refine z_aload_n dX6_solves_48 rfl ?_
              refine z_getR fX6_29 dX6_solves_49 (by decide) rfl rfl ?_
              refine z_bipush dX6_solves_52 (by decide) ?_
              refine z_iload dX6_solves_54 rfl ?_
              refine z_imul dX6_solves_56 ?_
              refine z_iload dX6_solves_57 rfl ?_
              refine z_iadd dX6_solves_59 ?_
              refine z_aload_n dX6_solves_60 rfl ?_
              refine z_iload_n dX6_solves_61 rfl ?_
              refine z_iload_n dX6_solves_62 rfl ?_
              refine z_iload dX6_solves_63 rfl ?_
              refine z_callS_eI (M := mX6_solves) [_, _] tX6_nth kX6_102 dX6_solves_65 ⟨by decide, by decide⟩ rfl (Nat.le_of_ble_eq_true rfl) rfl (c_X6_nth (c := I) (k := i) I64 (by omega)) ?_
              refine z_iload_n dX6_solves_68 rfl ?_
              refine z_callV_eL (M := mX6_solves) [_, _, _] tX6_against kX6_341 dX6_solves_69 ⟨by decide, rfl, _, _, rfl⟩ ⟨by decide, by decide⟩ rfl (Nat.le_of_ble_eq_true rfl) rfl (c_X6_against1 W (rm54 (L.rm R) f) (nt_C (by omega) hI (by omega)) hc) ?_
              have a9 := hbb i (by omega)
              refine z_lastore dX6_solves_72 (by decide) rfl (by omega) (by omega) (by first | decide | omega) (by omega) ?_
              rw [up_s (i := 6 * i + j) (by omega)]
              refine z_iinc dX6_solves_73 rfl (by decide) rfl ?_
              refine z_goto 41 dX6_solves_76 (by decide) ?_
              exact ih41 (i + 1) _ (by omega) (hU.put (by omega) (by omega) rfl) (by omega)
        exact loop41 _ 0 f (by omega) (fun i' j' h1 h2 => by rw [if_neg (by omega)]; exact f2 i' j' h1 h2) (Nat.lt_succ_self _)
  exact loop25 _ 0 _ (by omega) ⟨fun k k1 k2 k3 => by rw [up_ne _ _ _ k3, setc_ne _ _ k1], fun q hq => by rw [up_o _ _ hq, setc_ne _ _ (by decide)], up_same _ _ _ _, fun j' hj => absurd hj (Nat.not_lt_zero _)⟩ (Nat.lt_succ_self _)
set_option maxRecDepth 100000 in
set_option maxHeartbeats 4000000 in
theorem c_X6_spans1 {g : GG} {h : HH} {σ : SG} (W : WF σ) (R : RM (h 48) σ) {c : Nat} (hc : c < 3) : CnV mX6_spans g [vr 47, vi 1, vi (c : Int)] h (fun h' => SPN σ 1 c h h') := by
  refine cn_q (lv := [vr 47, vi 1, vi (c : Int), vx, vx, vx, vx, vx, vx, vx]) tX6_spans.1 rfl rfl (fun hR Q hQ => ?_)
  have w1 := W.1
  have w2 := W.2.1
  have w3 := W.2.2.1
  refine z_aload_n dX6_spans_0 rfl ?_
  refine z_iload_n dX6_spans_1 rfl ?_
  refine z_callV_I (M := mX6_spans) [_] tX6_independent kX6_344 dX6_spans_2 ⟨by decide, rfl, _, _, rfl⟩ ⟨by decide, by decide⟩ rfl (Nat.le_of_ble_eq_true rfl) rfl (c_X6_independent1 W R) (fun z2 h2 q2 => ?_)
  obtain ⟨⟨I, i1, iI⟩, iF⟩ := q2
  rw [i1]
  have R2 := F54.rm iF R
  have hI := iI.1
  have b6 := b_shl (j := sP σ) (by omega)
  have I64 : I < 64 := by omega
  have p6 := (pc6_r I64).1
  have p4 := ind_P5 W hI
  have hBb : ∀ i j, i < pc6 I → j < pc6 I → (prd σ 1 (nt I i) (nt I j)).natAbs ≤ 54 := fun i j hi hj => (by have := prd1_r W (nt I i) (nt I j); omega)
  have hbb : ∀ i, i < pc6 I → (agn σ 1 c (nt I i)).natAbs ≤ 54 := fun i hi => agn1_r W hc
  have dU : ∀ j, (dT (pc6 I) (uc j (fun i => agn σ 1 c (nt I i)) (fun i j => prd σ 1 (nt I i) (nt I j)))).natAbs < 2 ^ 50 := fun j => Nat.lt_of_le_of_lt (dT_b (pc6 I) 54 _ (uc_b hBb hbb)) (fcb_54n _ p4)
  have dB : (dT (pc6 I) (fun i j => prd σ 1 (nt I i) (nt I j))).natAbs < 2 ^ 50 := Nat.lt_of_le_of_lt (dT_b (pc6 I) 54 _ hBb) (fcb_54n _ p4)
  have pj : Prj (sE σ) (msr σ) (nX σ 1) (ryX σ 1) (sch σ c) (dT (pc6 I) (fun i j => prd σ 1 (nt I i) (nt I j))) (fun e => sI (pc6 I) (fun j => dT (pc6 I) (uc j (fun i => agn σ 1 c (nt I i)) (fun i j => prd σ 1 (nt I i) (nt I j))) * ryX σ 1 (nt I j) e)) := cr_prj (msr_p W) (show sP σ ≤ 6 by omega) iI (kap_0 1) (fun i j => prd_k W 1 _ _) (fun i => agn_k W 1 c _)
  have sy : ∀ e, e < sE σ → (sI (pc6 I) (fun j => ryX σ 1 (nt I j) e * dT (pc6 I) (uc j (fun i => agn σ 1 c (nt I i)) (fun i j => prd σ 1 (nt I i) (nt I j))))).natAbs < 2 ^ 63 := fun e he => sum_y (x := fun j => dT (pc6 I) (uc j (fun i => agn σ 1 c (nt I i)) (fun i j => prd σ 1 (nt I i) (nt I j)))) (v := fun j => ryX σ 1 (nt I j) e) (fun r hr => Nat.le_of_lt (dU r)) (fun r hr => ryX_r W (show nt I r < sP σ from nt_C (by omega) hI hr) he) (by omega)
  refine z_istore_n dX6_spans_5 (by decide) rfl ?_
  refine z_aload_n dX6_spans_6 rfl ?_
  refine z_iload_n dX6_spans_7 rfl ?_
  refine z_iload_n dX6_spans_8 rfl ?_
  refine z_iload_n dX6_spans_9 rfl ?_
  refine z_callV_V (M := mX6_spans) [_, _, _] tX6_solves kX6_347 dX6_spans_10 ⟨by decide, rfl, _, _, rfl⟩ ⟨by decide, by decide⟩ rfl (Nat.le_of_ble_eq_true rfl) rfl (c_X6_solves1 W R2 hI hc) (fun h10 q10 => ?_)
  have Ls := q10
  refine z_iconst dX6_spans_13 ?_
  refine z_istore dX6_spans_14 (by decide) rfl ?_
  have loop16 : ∀ (nL9 : Nat) (e : Nat) (h1 : HH), (e ≤ sE σ) → (SPh h h1 (fun e => sI (pc6 I) (fun j => dT (pc6 I) (uc j (fun i => agn σ 1 c (nt I i)) (fun i j => prd σ 1 (nt I i) (nt I j))) * ryX σ 1 (nt I j) e)) (dT (pc6 I) (fun i j => prd σ 1 (nt I i) (nt I j))) e) → (∀ j, j < pc6 I → h1 55 j = dT (pc6 I) (uc j (fun i => agn σ 1 c (nt I i)) (fun i j => prd σ 1 (nt I i) (nt I j)))) → (h1 47 17 = (dT (pc6 I) (fun i j => prd σ 1 (nt I i) (nt I j)))) → sE σ - e < nL9 → Z mX6_spans g 16 [vr 47, vi 1, vi (c : Int), vi (I : Int), vi (e : Int), vx, vx, vx, vx, vx] [] h1 Q := by
    intro nL9
    induction nL9 with
    | zero => intro e h1 he P hS hU hnL9; exact absurd hnL9 (Nat.not_lt_zero _)
    | succ nL9 ih16 =>
      intro e h1 he P hS hU hnL9
      refine z_iload dX6_spans_16 rfl ?_
      refine z_aload_n dX6_spans_18 rfl ?_
      refine z_getR fX6_7 dX6_spans_19 (by decide) rfl rfl ?_
      refine z_iconst dX6_spans_22 ?_
      refine z_iaload dX6_spans_23 (by decide) rfl (by omega) (by omega) (by first | decide | omega) (fun r23 => ?_)
      rw [show h1 48 (Int.toNat 1) = sE σ from rm_E (P.rm R)]
      refine z_icmp_ge 129 dX6_spans_24 (by decide) (by omega) (by omega) (fun c24 => ?_) (fun c24 => ?_)
      · exact z_return dX6_spans_129 rfl (hQ _ _ ⟨rfl, ⟨I, (dT (pc6 I) (fun i j => prd σ 1 (nt I i) (nt I j))), (fun e => sI (pc6 I) (fun j => dT (pc6 I) (uc j (fun i => agn σ 1 c (nt I i)) (fun i j => prd σ 1 (nt I i) (nt I j))) * ryX σ 1 (nt I j) e)), iI, pj, dT_b (pc6 I) 18 _ (fun i j hi hj => prd1_r W _ _), by rw [show sE σ = e from by omega]; exact P⟩⟩)
      · refine z_lconst (z := 0) dX6_spans_27 rfl ?_
        refine z_lstore dX6_spans_28 (by decide) rfl ?_
        refine z_iconst dX6_spans_30 ?_
        refine z_istore dX6_spans_31 (by decide) rfl ?_
        have loop33 : ∀ (nL9 : Nat) (j : Nat), (j ≤ pc6 I) → pc6 I - j < nL9 → Z mX6_spans g 33 [vr 47, vi 1, vi (c : Int), vi (I : Int), vi (e : Int), vl (sI j (fun j => ryX σ 1 (nt I j) e * dT (pc6 I) (uc j (fun i => agn σ 1 c (nt I i)) (fun i j => prd σ 1 (nt I i) (nt I j))))), vx, vi (j : Int), vx, vx] [] h1 Q := by
          intro nL9
          induction nL9 with
          | zero => intro j hj hnL9; exact absurd hnL9 (Nat.not_lt_zero _)
          | succ nL9 ih33 =>
            intro j hj hnL9
            refine z_iload dX6_spans_33 rfl ?_
            refine z_iload_n dX6_spans_35 rfl ?_
            refine z_callS_eI (M := mX6_spans) [_] tX6_ones kX6_99 dX6_spans_36 ⟨by decide, by decide⟩ rfl (Nat.le_of_ble_eq_true rfl) rfl (c_X6_ones (by omega)) ?_
            refine z_icmp_ge 111 dX6_spans_39 (by decide) (by omega) (by omega) (fun c39 => ?_) (fun c39 => ?_)
            · rw [show j = pc6 I from by omega]
              refine z_aload_n dX6_spans_111 rfl ?_
              refine z_iload dX6_spans_112 rfl ?_
              refine z_lload dX6_spans_114 rfl ?_
              refine z_aload_n dX6_spans_116 rfl ?_
              refine z_getJ fX6_337 dX6_spans_117 (by decide) rfl rfl (fun r117 => ?_)
              rw [hU]
              refine z_callV_V (M := mX6_spans) [_, _, _] tX6_tells kX6_351 dX6_spans_120 ⟨by decide, rfl, _, _, rfl⟩ ⟨by decide, by decide⟩ rfl (Nat.le_of_ble_eq_true rfl) rfl (c_X6_tells (e := e) (by omega) (sy e (by omega)) (b := (dT (pc6 I) (fun i j => prd σ 1 (nt I i) (nt I j)))) (by omega) pj.1) (fun h120 q120 => ?_)
              obtain ⟨p, q, t1, t2⟩ := q120
              rw [t2]
              refine z_iinc dX6_spans_123 rfl (by decide) rfl ?_
              refine z_goto 16 dX6_spans_126 (by decide) ?_
              refine z_forget 5 ?_
              refine z_forget 7 ?_
              exact ih16 (e + 1) _ (by omega) (P.put (by rw [y_comm] at t1; exact t1)) (fun j hj => by rw [up_ne _ _ _ (by decide), up_ne _ _ _ (by decide)]; exact hS j hj) (by rw [up_ne _ _ _ (by decide), up_ne _ _ _ (by decide)]; exact hU) (by omega)
            · refine z_iload_n dX6_spans_42 rfl ?_
              refine z_iconst dX6_spans_43 ?_
              refine z_icmp_ne 75 dX6_spans_44 (by decide) (by omega) (by omega) (fun c44 => ?_) (fun c44 => ?_)
              · omega
              · refine z_aload_n dX6_spans_47 rfl ?_
                refine z_getR fX6_7 dX6_spans_48 (by decide) rfl rfl ?_
                refine z_iconst dX6_spans_51 ?_
                refine z_iload dX6_spans_52 rfl ?_
                refine z_callS_eI (M := mX6_spans) [_, _, _] tX6_weight kX6_81 dX6_spans_54 ⟨by decide, by decide⟩ rfl (Nat.le_of_ble_eq_true rfl) rfl (c_X6_weightE isB48 W.wb (P.rm R) (e := e) (by omega)) ?_
                have w9 := W.2.2.2.1 e (by omega)
                refine z_i2l dX6_spans_57 (by omega) ?_
                refine z_aload_n dX6_spans_58 rfl ?_
                refine z_iload_n dX6_spans_59 rfl ?_
                refine z_iload dX6_spans_60 rfl ?_
                refine z_callS_eI (M := mX6_spans) [_, _] tX6_nth kX6_102 dX6_spans_62 ⟨by decide, by decide⟩ rfl (Nat.le_of_ble_eq_true rfl) rfl (c_X6_nth (c := I) (k := j) I64 (by omega)) ?_
                refine z_iload dX6_spans_65 rfl ?_
                refine z_callV_eI (M := mX6_spans) [_, _] tX6_one kX6_67 dX6_spans_67 ⟨by decide, rfl, _, _, rfl⟩ ⟨by decide, by decide⟩ rfl (Nat.le_of_ble_eq_true rfl) rfl (c_X6_one W (P.rm R) (p := nt I j) (e := e) (by have := nt_C (by omega) hI (show j < pc6 I by omega); omega) (by omega)) ?_
                have o9 := ent1_r σ (nt I j) e
                refine z_i2l dX6_spans_70 (by omega) ?_
                refine z_lmul dX6_spans_71 ?_
                refine z_goto 88 dX6_spans_72 (by decide) ?_
                refine z_lstore dX6_spans_88 (by decide) rfl ?_
                refine z_lload dX6_spans_90 rfl ?_
                refine z_lload dX6_spans_92 rfl ?_
                refine z_aload_n dX6_spans_94 rfl ?_
                refine z_getR fX6_33 dX6_spans_95 (by decide) rfl rfl ?_
                refine z_iload dX6_spans_98 rfl ?_
                refine z_laload dX6_spans_100 (by decide) rfl (by omega) (by omega) (by first | decide | omega) (fun r100 => ?_)
                rw [ix (f := h1 55) (z := (j : Int)) (i := j) rfl, hS j (by omega)]
                refine z_lmul dX6_spans_101 ?_
                refine z_ladd dX6_spans_102 ?_
                refine z_lstore dX6_spans_103 (by decide) rfl ?_
                refine z_iinc dX6_spans_105 rfl (by decide) rfl ?_
                refine z_goto 33 dX6_spans_108 (by decide) ?_
                refine z_forget 8 ?_
                have x0 := ih33 (j + 1) (by omega) (by omega)
                rw [show sI (j + 1) (fun j => ryX σ 1 (nt I j) e * dT (pc6 I) (uc j (fun i => agn σ 1 c (nt I i)) (fun i j => prd σ 1 (nt I i) (nt I j)))) = sI j (fun j => ryX σ 1 (nt I j) e * dT (pc6 I) (uc j (fun i => agn σ 1 c (nt I i)) (fun i j => prd σ 1 (nt I i) (nt I j)))) + (sew σ e : Int) * ent1 σ (nt I j) e * dT (pc6 I) (uc j (fun i => agn σ 1 c (nt I i)) (fun i j => prd σ 1 (nt I i) (nt I j))) from by rw [sI_s, show ryX σ 1 (nt I j) e = (sew σ e : Int) * ent1 σ (nt I j) e from Int.mul_comm _ _]] at x0
                exact x0
        exact loop33 _ 0 (by omega) (Nat.lt_succ_self _)
  exact loop16 _ 0 _ (by omega) (SPh.init iF Ls) (fun j hj => Ls.2.2.2 j hj) Ls.2.2.1 (Nat.lt_succ_self _)
set_option maxRecDepth 100000 in
set_option maxHeartbeats 4000000 in
theorem c_X6_solves2 {g : GG} {h : HH} {σ : SG} (W : WF σ) (R : RM (h 48) σ) {I c : Nat} (hI : I < 2 ^ sF σ) (hc : c < 3) : CnV mX6_solves g [vr 47, vi 2, vi (I : Int), vi (c : Int)] h (fun h' => SVh h h' (pc6 I) (fun i j => prd σ 2 (nt I i) (nt I j)) (fun i => agn σ 2 c (nt I i)) (pc6 I)) := by
  refine cn_q (lv := [vr 47, vi 2, vi (I : Int), vi (c : Int), vx, vx, vx]) tX6_solves.1 rfl rfl (fun hR Q hQ => ?_)
  have w1 := W.1
  have w2 := W.2.1
  have w3 := W.2.2.1
  have b6 := b_shl (j := sF σ) (by omega)
  have I64 : I < 64 := by omega
  have p6 := (pc6_r I64).1
  have p4 := ind_F4 W hI
  have hBb : ∀ i j, i < pc6 I → j < pc6 I → (prd σ 2 (nt I i) (nt I j)).natAbs ≤ 216 := fun i j hi hj => (by have := prd2_96 W (nt_C (by omega) hI hi) (nt_C (by omega) hI hj); omega)
  have hbb : ∀ i, i < pc6 I → (agn σ 2 c (nt I i)).natAbs ≤ 216 := fun i hi => agn2_216 W (nt_C (by omega) hI hi) hc
  have dB : (dT (pc6 I) (fun i j => prd σ 2 (nt I i) (nt I j))).natAbs < 2 ^ 50 := Nat.lt_of_le_of_lt (dT_b (pc6 I) 216 _ hBb) (fcb_216n _ p4)
  have dU : ∀ j, (dT (pc6 I) (uc j (fun i => agn σ 2 c (nt I i)) (fun i j => prd σ 2 (nt I i) (nt I j)))).natAbs < 2 ^ 50 := fun j => Nat.lt_of_le_of_lt (dT_b (pc6 I) 216 _ (uc_b hBb hbb)) (fcb_216n _ p4)
  refine z_iload_n dX6_solves_0 rfl ?_
  refine z_callS_eI (M := mX6_solves) [_] tX6_ones kX6_99 dX6_solves_1 ⟨by decide, by decide⟩ rfl (Nat.le_of_ble_eq_true rfl) rfl (c_X6_ones (by omega)) ?_
  refine z_istore dX6_solves_4 (by decide) rfl ?_
  refine z_aload_n dX6_solves_6 rfl ?_
  refine z_iload_n dX6_solves_7 rfl ?_
  refine z_iload_n dX6_solves_8 rfl ?_
  refine z_callV_V (M := mX6_solves) [_, _] tX6_laysProducts kX6_334 dX6_solves_9 ⟨by decide, rfl, _, _, rfl⟩ ⟨by decide, by decide⟩ rfl (Nat.le_of_ble_eq_true rfl) rfl (c_X6_laysProducts2 W R hI) (fun h9 q9 => ?_)
  obtain ⟨f, f1, f2⟩ := q9
  rw [f1]
  refine z_aload_n dX6_solves_12 rfl ?_
  refine z_aload_n dX6_solves_13 rfl ?_
  refine z_iload dX6_solves_14 rfl ?_
  refine z_callV_L (M := mX6_solves) [_] tX6_determinant kX6_109 dX6_solves_16 ⟨by decide, rfl, _, _, rfl⟩ ⟨by decide, by decide⟩ rfl (Nat.le_of_ble_eq_true rfl) rfl (c_X6_determinant (n := pc6 I) (b := 216) (by omega) (fun i j hi hj => by rw [setc_at, f2 i j hi hj]; exact hBb i j hi hj) (fun k hk => fcb_216 _ k p4 hk)) (fun z16 h16 q16 => ?_)
  obtain ⟨e1, f', e2⟩ := q16
  rw [e1, e2, setc_setc, setc_at, dT_congr (pc6 I) (B := (fun i j => prd σ 2 (nt I i) (nt I j))) f2]
  refine z_putJ pX6_337 dX6_solves_19 (by decide) rfl rfl (by omega) ?_
  refine z_iconst dX6_solves_22 ?_
  refine z_istore dX6_solves_23 (by decide) rfl ?_
  have loop25 : ∀ (nL9 : Nat) (j : Nat) (h1 : HH), (j ≤ pc6 I) → (SVh h h1 (pc6 I) (fun i j => prd σ 2 (nt I i) (nt I j)) (fun i => agn σ 2 c (nt I i)) j) → pc6 I - j < nL9 → Z mX6_solves g 25 [vr 47, vi 2, vi (I : Int), vi (c : Int), vi (pc6 I : Int), vi (j : Int), vx] [] h1 Q := by
    intro nL9
    induction nL9 with
    | zero => intro j h1 hj L hnL9; exact absurd hnL9 (Nat.not_lt_zero _)
    | succ nL9 ih25 =>
      intro j h1 hj L hnL9
      refine z_iload dX6_solves_25 rfl ?_
      refine z_iload dX6_solves_27 rfl ?_
      refine z_icmp_ge 98 dX6_solves_29 (by decide) (by omega) (by omega) (fun c29 => ?_) (fun c29 => ?_)
      · exact z_return dX6_solves_98 rfl (hQ _ _ ⟨rfl, (by rw [show j = pc6 I from by omega] at L; exact L)⟩)
      · refine z_aload_n dX6_solves_32 rfl ?_
        refine z_iload_n dX6_solves_33 rfl ?_
        refine z_iload_n dX6_solves_34 rfl ?_
        refine z_callV_V (M := mX6_solves) [_, _] tX6_laysProducts kX6_334 dX6_solves_35 ⟨by decide, rfl, _, _, rfl⟩ ⟨by decide, by decide⟩ rfl (Nat.le_of_ble_eq_true rfl) rfl (c_X6_laysProducts2 W (L.rm R) hI) (fun h35 q35 => ?_)
        obtain ⟨f, f1, f2⟩ := q35
        rw [f1]
        refine z_iconst dX6_solves_38 ?_
        refine z_istore dX6_solves_39 (by decide) rfl ?_
        have loop41 : ∀ (nL9 : Nat) (i : Nat) (f : Nat → Int), (i ≤ pc6 I) → (UC (pc6 I) j i (fun i j => prd σ 2 (nt I i) (nt I j)) (fun i => agn σ 2 c (nt I i)) f) → pc6 I - i < nL9 → Z mX6_solves g 41 [vr 47, vi 2, vi (I : Int), vi (c : Int), vi (pc6 I : Int), vi (j : Int), vi (i : Int)] [] (setc h1 54 f) Q := by
          intro nL9
          induction nL9 with
          | zero => intro i f hi hU hnL9; exact absurd hnL9 (Nat.not_lt_zero _)
          | succ nL9 ih41 =>
            intro i f hi hU hnL9
            refine z_iload dX6_solves_41 rfl ?_
            refine z_iload dX6_solves_43 rfl ?_
            refine z_icmp_ge 79 dX6_solves_45 (by decide) (by omega) (by omega) (fun c45 => ?_) (fun c45 => ?_)
            · refine z_aload_n dX6_solves_79 rfl ?_
              refine z_getR fX6_33 dX6_solves_80 (by decide) rfl rfl ?_
              refine z_iload dX6_solves_83 rfl ?_
              refine z_aload_n dX6_solves_85 rfl ?_
              refine z_iload dX6_solves_86 rfl ?_
              refine z_callV_L (M := mX6_solves) [_] tX6_determinant kX6_109 dX6_solves_88 ⟨by decide, rfl, _, _, rfl⟩ ⟨by decide, by decide⟩ rfl (Nat.le_of_ble_eq_true rfl) rfl (c_X6_determinant (n := pc6 I) (b := 216) (by omega) (fun i k hi hk => by rw [setc_at, hU.end (by omega) i k hi hk]; exact uc_b hBb hbb i k hi hk) (fun k hk => fcb_216 _ k p4 hk)) (fun z88 h88 q88 => ?_)
              obtain ⟨e1, f', e2⟩ := q88
              rw [e1, e2, setc_setc, setc_at, dT_congr (pc6 I) (B := uc j (fun i => agn σ 2 c (nt I i)) (fun i j => prd σ 2 (nt I i) (nt I j))) (hU.end (by omega))]
              have dj := dU j
              refine z_lastore dX6_solves_91 (by decide) rfl (by omega) (by omega) (by first | decide | omega) (by omega) ?_
              refine z_iinc dX6_solves_92 rfl (by decide) rfl ?_
              refine z_goto 25 dX6_solves_95 (by decide) ?_
              refine z_forget 6 ?_
              exact ih25 (j + 1) _ (by omega) (L.put rfl rfl) (by omega)
            · refine z_aload_n dX6_solves_48 rfl ?_
              refine z_getR fX6_29 dX6_solves_49 (by decide) rfl rfl ?_
              refine z_bipush dX6_solves_52 (by decide) ?_
              refine z_iload dX6_solves_54 rfl ?_
              refine z_imul dX6_solves_56 ?_
              refine z_iload dX6_solves_57 rfl ?_
              refine z_iadd dX6_solves_59 ?_
              refine z_aload_n dX6_solves_60 rfl ?_
              refine z_iload_n dX6_solves_61 rfl ?_
              refine z_iload_n dX6_solves_62 rfl ?_
              refine z_iload dX6_solves_63 rfl ?_
              refine z_callS_eI (M := mX6_solves) [_, _] tX6_nth kX6_102 dX6_solves_65 ⟨by decide, by decide⟩ rfl (Nat.le_of_ble_eq_true rfl) rfl (c_X6_nth (c := I) (k := i) I64 (by omega)) ?_
              refine z_iload_n dX6_solves_68 rfl ?_
              refine z_callV_eL (M := mX6_solves) [_, _, _] tX6_against kX6_341 dX6_solves_69 ⟨by decide, rfl, _, _, rfl⟩ ⟨by decide, by decide⟩ rfl (Nat.le_of_ble_eq_true rfl) rfl (c_X6_against2 W (rm54 (L.rm R) f) (nt_C (by omega) hI (by omega)) hc) ?_
              have a9 := hbb i (by omega)
              refine z_lastore dX6_solves_72 (by decide) rfl (by omega) (by omega) (by first | decide | omega) (by omega) ?_
              rw [up_s (i := 6 * i + j) (by omega)]
              refine z_iinc dX6_solves_73 rfl (by decide) rfl ?_
              refine z_goto 41 dX6_solves_76 (by decide) ?_
              exact ih41 (i + 1) _ (by omega) (hU.put (by omega) (by omega) rfl) (by omega)
        exact loop41 _ 0 f (by omega) (fun i' j' h1 h2 => by rw [if_neg (by omega)]; exact f2 i' j' h1 h2) (Nat.lt_succ_self _)
  exact loop25 _ 0 _ (by omega) ⟨fun k k1 k2 k3 => by rw [up_ne _ _ _ k3, setc_ne _ _ k1], fun q hq => by rw [up_o _ _ hq, setc_ne _ _ (by decide)], up_same _ _ _ _, fun j' hj => absurd hj (Nat.not_lt_zero _)⟩ (Nat.lt_succ_self _)
set_option maxRecDepth 100000 in
set_option maxHeartbeats 4000000 in
theorem c_X6_spans2 {g : GG} {h : HH} {σ : SG} (W : WF σ) (R : RM (h 48) σ) {c : Nat} (hc : c < 3) : CnV mX6_spans g [vr 47, vi 2, vi (c : Int)] h (fun h' => SPN σ 2 c h h') := by
  refine cn_q (lv := [vr 47, vi 2, vi (c : Int), vx, vx, vx, vx, vx, vx, vx]) tX6_spans.1 rfl rfl (fun hR Q hQ => ?_)
  have w1 := W.1
  have w2 := W.2.1
  have w3 := W.2.2.1
  refine z_aload_n dX6_spans_0 rfl ?_
  refine z_iload_n dX6_spans_1 rfl ?_
  refine z_callV_I (M := mX6_spans) [_] tX6_independent kX6_344 dX6_spans_2 ⟨by decide, rfl, _, _, rfl⟩ ⟨by decide, by decide⟩ rfl (Nat.le_of_ble_eq_true rfl) rfl (c_X6_independent2 W R) (fun z2 h2 q2 => ?_)
  obtain ⟨⟨I, i1, iI⟩, iF⟩ := q2
  rw [i1]
  have R2 := F54.rm iF R
  have hI := iI.1
  have b6 := b_shl (j := sF σ) (by omega)
  have I64 : I < 64 := by omega
  have p6 := (pc6_r I64).1
  have p4 := ind_F4 W hI
  have hBb : ∀ i j, i < pc6 I → j < pc6 I → (prd σ 2 (nt I i) (nt I j)).natAbs ≤ 216 := fun i j hi hj => (by have := prd2_96 W (nt_C (by omega) hI hi) (nt_C (by omega) hI hj); omega)
  have hbb : ∀ i, i < pc6 I → (agn σ 2 c (nt I i)).natAbs ≤ 216 := fun i hi => agn2_216 W (nt_C (by omega) hI hi) hc
  have dU : ∀ j, (dT (pc6 I) (uc j (fun i => agn σ 2 c (nt I i)) (fun i j => prd σ 2 (nt I i) (nt I j)))).natAbs < 2 ^ 50 := fun j => Nat.lt_of_le_of_lt (dT_b (pc6 I) 216 _ (uc_b hBb hbb)) (fcb_216n _ p4)
  have dB : (dT (pc6 I) (fun i j => prd σ 2 (nt I i) (nt I j))).natAbs < 2 ^ 50 := Nat.lt_of_le_of_lt (dT_b (pc6 I) 216 _ hBb) (fcb_216n _ p4)
  have pj : Prj (sE σ) (msr σ) (nX σ 2) (ryX σ 2) (sch σ c) (dT (pc6 I) (fun i j => prd σ 2 (nt I i) (nt I j))) (fun e => sI (pc6 I) (fun j => dT (pc6 I) (uc j (fun i => agn σ 2 c (nt I i)) (fun i j => prd σ 2 (nt I i) (nt I j))) * ryX σ 2 (nt I j) e)) := cr_prj (msr_p W) (show sF σ ≤ 6 by omega) iI (kap_0 2) (fun i j => prd_k W 2 _ _) (fun i => agn_k W 2 c _)
  have sy : ∀ e, e < sE σ → (sI (pc6 I) (fun j => ryX σ 2 (nt I j) e * dT (pc6 I) (uc j (fun i => agn σ 2 c (nt I i)) (fun i j => prd σ 2 (nt I i) (nt I j))))).natAbs < 2 ^ 63 := fun e he => sum_y (x := fun j => dT (pc6 I) (uc j (fun i => agn σ 2 c (nt I i)) (fun i j => prd σ 2 (nt I i) (nt I j)))) (v := fun j => ryX σ 2 (nt I j) e) (fun r hr => Nat.le_of_lt (dU r)) (fun r hr => ryX_r W (show nt I r < sF σ from nt_C (by omega) hI hr) he) (by omega)
  refine z_istore_n dX6_spans_5 (by decide) rfl ?_
  refine z_aload_n dX6_spans_6 rfl ?_
  refine z_iload_n dX6_spans_7 rfl ?_
  refine z_iload_n dX6_spans_8 rfl ?_
  refine z_iload_n dX6_spans_9 rfl ?_
  refine z_callV_V (M := mX6_spans) [_, _, _] tX6_solves kX6_347 dX6_spans_10 ⟨by decide, rfl, _, _, rfl⟩ ⟨by decide, by decide⟩ rfl (Nat.le_of_ble_eq_true rfl) rfl (c_X6_solves2 W R2 hI hc) (fun h10 q10 => ?_)
  have Ls := q10
  refine z_iconst dX6_spans_13 ?_
  refine z_istore dX6_spans_14 (by decide) rfl ?_
  have loop16 : ∀ (nL9 : Nat) (e : Nat) (h1 : HH), (e ≤ sE σ) → (SPh h h1 (fun e => sI (pc6 I) (fun j => dT (pc6 I) (uc j (fun i => agn σ 2 c (nt I i)) (fun i j => prd σ 2 (nt I i) (nt I j))) * ryX σ 2 (nt I j) e)) (dT (pc6 I) (fun i j => prd σ 2 (nt I i) (nt I j))) e) → (∀ j, j < pc6 I → h1 55 j = dT (pc6 I) (uc j (fun i => agn σ 2 c (nt I i)) (fun i j => prd σ 2 (nt I i) (nt I j)))) → (h1 47 17 = (dT (pc6 I) (fun i j => prd σ 2 (nt I i) (nt I j)))) → sE σ - e < nL9 → Z mX6_spans g 16 [vr 47, vi 2, vi (c : Int), vi (I : Int), vi (e : Int), vx, vx, vx, vx, vx] [] h1 Q := by
    intro nL9
    induction nL9 with
    | zero => intro e h1 he P hS hU hnL9; exact absurd hnL9 (Nat.not_lt_zero _)
    | succ nL9 ih16 =>
      intro e h1 he P hS hU hnL9
      refine z_iload dX6_spans_16 rfl ?_
      refine z_aload_n dX6_spans_18 rfl ?_
      refine z_getR fX6_7 dX6_spans_19 (by decide) rfl rfl ?_
      refine z_iconst dX6_spans_22 ?_
      refine z_iaload dX6_spans_23 (by decide) rfl (by omega) (by omega) (by first | decide | omega) (fun r23 => ?_)
      rw [show h1 48 (Int.toNat 1) = sE σ from rm_E (P.rm R)]
      refine z_icmp_ge 129 dX6_spans_24 (by decide) (by omega) (by omega) (fun c24 => ?_) (fun c24 => ?_)
      · exact z_return dX6_spans_129 rfl (hQ _ _ ⟨rfl, ⟨I, (dT (pc6 I) (fun i j => prd σ 2 (nt I i) (nt I j))), (fun e => sI (pc6 I) (fun j => dT (pc6 I) (uc j (fun i => agn σ 2 c (nt I i)) (fun i j => prd σ 2 (nt I i) (nt I j))) * ryX σ 2 (nt I j) e)), iI, pj, dT_b (pc6 I) 96 _ (fun i j hi hj => prd2_96 W (nt_C (by omega) hI hi) (nt_C (by omega) hI hj)), by rw [show sE σ = e from by omega]; exact P⟩⟩)
      · refine z_lconst (z := 0) dX6_spans_27 rfl ?_
        refine z_lstore dX6_spans_28 (by decide) rfl ?_
        refine z_iconst dX6_spans_30 ?_
        refine z_istore dX6_spans_31 (by decide) rfl ?_
        have loop33 : ∀ (nL9 : Nat) (j : Nat), (j ≤ pc6 I) → pc6 I - j < nL9 → Z mX6_spans g 33 [vr 47, vi 2, vi (c : Int), vi (I : Int), vi (e : Int), vl (sI j (fun j => ryX σ 2 (nt I j) e * dT (pc6 I) (uc j (fun i => agn σ 2 c (nt I i)) (fun i j => prd σ 2 (nt I i) (nt I j))))), vx, vi (j : Int), vx, vx] [] h1 Q := by
          intro nL9
          induction nL9 with
          | zero => intro j hj hnL9; exact absurd hnL9 (Nat.not_lt_zero _)
          | succ nL9 ih33 =>
            intro j hj hnL9
            refine z_iload dX6_spans_33 rfl ?_
            refine z_iload_n dX6_spans_35 rfl ?_
            refine z_callS_eI (M := mX6_spans) [_] tX6_ones kX6_99 dX6_spans_36 ⟨by decide, by decide⟩ rfl (Nat.le_of_ble_eq_true rfl) rfl (c_X6_ones (by omega)) ?_
            refine z_icmp_ge 111 dX6_spans_39 (by decide) (by omega) (by omega) (fun c39 => ?_) (fun c39 => ?_)
            · rw [show j = pc6 I from by omega]
              refine z_aload_n dX6_spans_111 rfl ?_
              refine z_iload dX6_spans_112 rfl ?_
              refine z_lload dX6_spans_114 rfl ?_
              refine z_aload_n dX6_spans_116 rfl ?_
              refine z_getJ fX6_337 dX6_spans_117 (by decide) rfl rfl (fun r117 => ?_)
              rw [hU]
              refine z_callV_V (M := mX6_spans) [_, _, _] tX6_tells kX6_351 dX6_spans_120 ⟨by decide, rfl, _, _, rfl⟩ ⟨by decide, by decide⟩ rfl (Nat.le_of_ble_eq_true rfl) rfl (c_X6_tells (e := e) (by omega) (sy e (by omega)) (b := (dT (pc6 I) (fun i j => prd σ 2 (nt I i) (nt I j)))) (by omega) pj.1) (fun h120 q120 => ?_)
              obtain ⟨p, q, t1, t2⟩ := q120
              rw [t2]
              refine z_iinc dX6_spans_123 rfl (by decide) rfl ?_
              refine z_goto 16 dX6_spans_126 (by decide) ?_
              refine z_forget 5 ?_
              refine z_forget 7 ?_
              exact ih16 (e + 1) _ (by omega) (P.put (by rw [y_comm] at t1; exact t1)) (fun j hj => by rw [up_ne _ _ _ (by decide), up_ne _ _ _ (by decide)]; exact hS j hj) (by rw [up_ne _ _ _ (by decide), up_ne _ _ _ (by decide)]; exact hU) (by omega)
            · refine z_iload_n dX6_spans_42 rfl ?_
              refine z_iconst dX6_spans_43 ?_
              refine z_icmp_ne 75 dX6_spans_44 (by decide) (by omega) (by omega) (fun c44 => ?_) (fun c44 => ?_)
              · refine z_aload_n dX6_spans_75 rfl ?_
                refine z_iload dX6_spans_76 rfl ?_
                refine z_iload_n dX6_spans_78 rfl ?_
                refine z_iload dX6_spans_79 rfl ?_
                refine z_callS_eI (M := mX6_spans) [_, _] tX6_nth kX6_102 dX6_spans_81 ⟨by decide, by decide⟩ rfl (Nat.le_of_ble_eq_true rfl) rfl (c_X6_nth (c := I) (k := j) I64 (by omega)) ?_
                refine z_callV_eI (M := mX6_spans) [_, _] tX6_two kX6_71 dX6_spans_84 ⟨by decide, rfl, _, _, rfl⟩ ⟨by decide, by decide⟩ rfl (Nat.le_of_ble_eq_true rfl) rfl (c_X6_two W (P.rm R) (e := e) (f := nt I j) (by omega) (nt_C (by omega) hI (by omega))) ?_
                have o9 := ent2_r W (f := nt I j) (i := e) (nt_C (by omega) hI (by omega))
                refine z_i2l dX6_spans_87 (by omega) ?_
                refine z_lstore dX6_spans_88 (by decide) rfl ?_
                refine z_lload dX6_spans_90 rfl ?_
                refine z_lload dX6_spans_92 rfl ?_
                refine z_aload_n dX6_spans_94 rfl ?_
                refine z_getR fX6_33 dX6_spans_95 (by decide) rfl rfl ?_
                refine z_iload dX6_spans_98 rfl ?_
                refine z_laload dX6_spans_100 (by decide) rfl (by omega) (by omega) (by first | decide | omega) (fun r100 => ?_)
                rw [ix (f := h1 55) (z := (j : Int)) (i := j) rfl, hS j (by omega)]
                refine z_lmul dX6_spans_101 ?_
                refine z_ladd dX6_spans_102 ?_
                refine z_lstore dX6_spans_103 (by decide) rfl ?_
                refine z_iinc dX6_spans_105 rfl (by decide) rfl ?_
                refine z_goto 33 dX6_spans_108 (by decide) ?_
                refine z_forget 8 ?_
                have x0 := ih33 (j + 1) (by omega) (by omega)
                exact x0
              · omega
        exact loop33 _ 0 (by omega) (Nat.lt_succ_self _)
  exact loop16 _ 0 _ (by omega) (SPh.init iF Ls) (fun j hj => Ls.2.2.2 j hj) Ls.2.2.1 (Nat.lt_succ_self _)

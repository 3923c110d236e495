set_option maxRecDepth 100000 in
set_option maxHeartbeats 4000000 in
theorem c_X6_laysPart0 {g : GG} {h : HH} {σ : SG} (W : WF σ) (R : RM (h 48) σ) {c : Nat} (hc : c < 3) : CnV mX6_laysPart g [vr 47, vi (c : Int), vi 0] h (fun h' => PRh σ c 0 h h') := by
  refine cn_q (lv := [vr 47, vi (c : Int), vi 0, vx, vx, vx]) tX6_laysPart.1 rfl rfl (fun hR Q hQ => ?_)
  have w1 := W.1
  have w2 := W.2.1
  have w3 := W.2.2.1
  refine z_aload_n dX6_laysPart_0 rfl ?_
  refine z_iload_n dX6_laysPart_1 rfl ?_
  refine z_iconst dX6_laysPart_2 ?_
  refine z_icmp_ne 10 dX6_laysPart_3 (by decide) (by omega) (by omega) (fun c3 => ?_) (fun c3 => ?_)
  · refine z_iconst dX6_laysPart_10 ?_
    refine z_iload_n dX6_laysPart_11 rfl ?_
    refine z_callV_V (M := mX6_laysPart) [_, _] tX6_spans kX6_355 dX6_laysPart_12 ⟨by decide, rfl, _, _, rfl⟩ ⟨by decide, by decide⟩ rfl (Nat.le_of_ble_eq_true rfl) rfl (c_X6_spans2 W R hc) (fun h12 q12 => ?_)
    refine z_iload_n dX6_laysPart_15 rfl ?_
    refine z_iconst dX6_laysPart_16 ?_
    refine z_icmp_ge 21 dX6_laysPart_17 (by decide) (by omega) (by omega) (fun c17 => ?_) (fun c17 => ?_)
    · omega
    · exact z_return dX6_laysPart_20 rfl (hQ _ _ ⟨rfl, (q12.pr0 W)⟩)
  · omega
set_option maxRecDepth 100000 in
set_option maxHeartbeats 4000000 in
theorem c_X6_laysPart1 {g : GG} {h : HH} {σ : SG} (W : WF σ) (R : RM (h 48) σ) {c : Nat} (hc : c < 3) : CnV mX6_laysPart g [vr 47, vi (c : Int), vi 1] h (fun h' => PRh σ c 1 h h') := by
  refine cn_q (lv := [vr 47, vi (c : Int), vi 1, vx, vx, vx]) tX6_laysPart.1 rfl rfl (fun hR Q hQ => ?_)
  have w1 := W.1
  have w2 := W.2.1
  have w3 := W.2.2.1
  refine z_aload_n dX6_laysPart_0 rfl ?_
  refine z_iload_n dX6_laysPart_1 rfl ?_
  refine z_iconst dX6_laysPart_2 ?_
  refine z_icmp_ne 10 dX6_laysPart_3 (by decide) (by omega) (by omega) (fun c3 => ?_) (fun c3 => ?_)
  · omega
  · refine z_iconst dX6_laysPart_6 ?_
    refine z_goto 11 dX6_laysPart_7 (by decide) ?_
    refine z_iload_n dX6_laysPart_11 rfl ?_
    refine z_callV_V (M := mX6_laysPart) [_, _] tX6_spans kX6_355 dX6_laysPart_12 ⟨by decide, rfl, _, _, rfl⟩ ⟨by decide, by decide⟩ rfl (Nat.le_of_ble_eq_true rfl) rfl (c_X6_spans1 W R hc) (fun h12 q12 => ?_)
    refine z_iload_n dX6_laysPart_15 rfl ?_
    refine z_iconst dX6_laysPart_16 ?_
    refine z_icmp_ge 21 dX6_laysPart_17 (by decide) (by omega) (by omega) (fun c17 => ?_) (fun c17 => ?_)
    · omega
    · exact z_return dX6_laysPart_20 rfl (hQ _ _ ⟨rfl, (q12.pr1 W)⟩)
set_option maxRecDepth 100000 in
set_option maxHeartbeats 4000000 in
theorem c_X6_laysPart2 {g : GG} {h : HH} {σ : SG} (W : WF σ) (R : RM (h 48) σ) {c : Nat} (hc : c < 3) : CnV mX6_laysPart g [vr 47, vi (c : Int), vi 2] h (fun h' => PRh σ c 2 h h') := by
  refine cn_q (lv := [vr 47, vi (c : Int), vi 2, vx, vx, vx]) tX6_laysPart.1 rfl rfl (fun hR Q hQ => ?_)
  have w1 := W.1
  have w2 := W.2.1
  have w3 := W.2.2.1
  refine z_aload_n dX6_laysPart_0 rfl ?_
  refine z_iload_n dX6_laysPart_1 rfl ?_
  refine z_iconst dX6_laysPart_2 ?_
  refine z_icmp_ne 10 dX6_laysPart_3 (by decide) (by omega) (by omega) (fun c3 => ?_) (fun c3 => ?_)
  · refine z_iconst dX6_laysPart_10 ?_
    refine z_iload_n dX6_laysPart_11 rfl ?_
    refine z_callV_V (M := mX6_laysPart) [_, _] tX6_spans kX6_355 dX6_laysPart_12 ⟨by decide, rfl, _, _, rfl⟩ ⟨by decide, by decide⟩ rfl (Nat.le_of_ble_eq_true rfl) rfl (c_X6_spans2 W R hc) (fun h12 q12 => ?_)
    have R1 : RM (h12 48) σ := by
      obtain ⟨I, D, y, i, p, b, s⟩ := q12
      exact s.rm R
    refine z_iload_n dX6_laysPart_15 rfl ?_
    refine z_iconst dX6_laysPart_16 ?_
    refine z_icmp_ge 21 dX6_laysPart_17 (by decide) (by omega) (by omega) (fun c17 => ?_) (fun c17 => ?_)
    · refine z_iconst dX6_laysPart_21 ?_
      refine z_istore_n dX6_laysPart_22 (by decide) rfl ?_
      have loop23 : ∀ (nL9 : Nat) (e : Nat) (h1 : HH), (e ≤ sE σ) → (CPh h12 h1 e) → sE σ - e < nL9 → Z mX6_laysPart g 23 [vr 47, vi (c : Int), vi 2, vi (e : Int), vx, vx] [] h1 Q := by
        intro nL9
        induction nL9 with
        | zero => intro e h1 he C hnL9; exact absurd hnL9 (Nat.not_lt_zero _)
        | succ nL9 ih23 =>
          intro e h1 he C hnL9
          refine z_iload_n dX6_laysPart_23 rfl ?_
          refine z_aload_n dX6_laysPart_24 rfl ?_
          refine z_getR fX6_7 dX6_laysPart_25 (by decide) rfl rfl ?_
          refine z_iconst dX6_laysPart_28 ?_
          refine z_iaload dX6_laysPart_29 (by decide) rfl (by omega) (by omega) (by first | decide | omega) (fun r29 => ?_)
          rw [show h1 48 (Int.toNat 1) = sE σ from rm_E (by rw [C.1 48 (by decide) (by decide)]; exact R1)]
          refine z_icmp_ge 63 dX6_laysPart_30 (by decide) (by omega) (by omega) (fun c30 => ?_) (fun c30 => ?_)
          · refine z_aload_n dX6_laysPart_63 rfl ?_
            refine z_iconst dX6_laysPart_64 ?_
            refine z_iload_n dX6_laysPart_65 rfl ?_
            refine z_callV_V (M := mX6_laysPart) [_, _] tX6_spans kX6_355 dX6_laysPart_66 ⟨by decide, rfl, _, _, rfl⟩ ⟨by decide, by decide⟩ rfl (Nat.le_of_ble_eq_true rfl) rfl (c_X6_spans1 W (h := h1) (by rw [C.1 48 (by decide) (by decide)]; exact R1) hc) (fun h66 q66 => ?_)
            obtain ⟨d0, y0, d1, y1, hV, hB, z0, z1, s0, s1⟩ := har_of W q12 q66
            have R6 : RM (h66 48) σ := s1.rm (by rw [C.1 48 (by decide) (by decide)]; exact R1)
            have f0 : ∀ e, e < sE σ → LW (y0 e) d0 (h66 58 e) (h66 59 e) := fun e he => by
              rw [s1.1 58 (by decide) (by decide), s1.1 59 (by decide) (by decide), (C.2 e (by omega)).1, (C.2 e (by omega)).2]
              exact s0.2.2 e he
            have pb := pv_b W hc (by decide) hV
            refine z_iconst dX6_laysPart_69 ?_
            refine z_istore_n dX6_laysPart_70 (by decide) rfl ?_
            have C9 := C
            have e9 := e
            have loop71 : ∀ (nL9 : Nat) (e : Nat) (h1 : HH), (e ≤ sE σ) → (HPh h66 h1 (fun e => (sch σ c e * d0 - y0 e) * d1 - y1 e * d0) (d0 * d1) e) → sE σ - e < nL9 → Z mX6_laysPart g 71 [vr 47, vi (c : Int), vi 2, vi (e : Int), vx, vx] [] h1 Q := by
              intro nL9
              induction nL9 with
              | zero => intro e h1 he P hnL9; exact absurd hnL9 (Nat.not_lt_zero _)
              | succ nL9 ih71 =>
                intro e h1 he P hnL9
                refine z_iload_n dX6_laysPart_71 rfl ?_
                refine z_aload_n dX6_laysPart_72 rfl ?_
                refine z_getR fX6_7 dX6_laysPart_73 (by decide) rfl rfl ?_
                refine z_iconst dX6_laysPart_76 ?_
                refine z_iaload dX6_laysPart_77 (by decide) rfl (by omega) (by omega) (by first | decide | omega) (fun r77 => ?_)
                rw [show h1 48 (Int.toNat 1) = sE σ from rm_E (by rw [P.1 48 (by decide) (by decide)]; exact R6)]
                refine z_icmp_ge 155 dX6_laysPart_78 (by decide) (by omega) (by omega) (fun c78 => ?_) (fun c78 => ?_)
                · exact z_return dX6_laysPart_155 rfl (hQ _ _ ⟨rfl, ⟨d0 * d1, (fun e => (sch σ c e * d0 - y0 e) * d1 - y1 e * d0), hV, hB, ⟨fun k k1 k2 => by rw [P.1 k (by omega) (by omega), s1.1 k (Or.inl k1) k2, C9.1 k (by omega) (by omega), s0.1 k (Or.inl k1) k2], fun q q1 _ _ => by rw [P.1 47 (by decide) (by decide), s1.2.1 q q1, C9.1 47 (by decide) (by decide), s0.2.1 q q1]⟩, fun i hi => P.2.1 i (by omega)⟩⟩)
                · refine z_aload_n dX6_laysPart_81 rfl ?_
                  refine z_getR fX6_45 dX6_laysPart_82 (by decide) rfl rfl ?_
                  refine z_iload_n dX6_laysPart_85 rfl ?_
                  refine z_laload dX6_laysPart_86 (by decide) rfl (by omega) (by omega) (by first | decide | omega) (fun r86 => ?_)
                  refine z_aload_n dX6_laysPart_87 rfl ?_
                  refine z_getR fX6_39 dX6_laysPart_88 (by decide) rfl rfl ?_
                  refine z_iload_n dX6_laysPart_91 rfl ?_
                  refine z_laload dX6_laysPart_92 (by decide) rfl (by omega) (by omega) (by first | decide | omega) (fun r92 => ?_)
                  refine z_lmul dX6_laysPart_93 ?_
                  rw [show h1 59 (e : Int).toNat = h66 59 e from by rw [P.1 59 (by decide) (by decide)]; rfl, show h1 57 (e : Int).toNat = h66 57 e from (P.2.2 e (Nat.le_refl e)).2]
                  refine z_lstore dX6_laysPart_94 (by decide) rfl ?_
                  refine z_aload_n dX6_laysPart_96 rfl ?_
                  refine z_iload_n dX6_laysPart_97 rfl ?_
                  refine z_aload_n dX6_laysPart_98 rfl ?_
                  refine z_getR fX6_7 dX6_laysPart_99 (by decide) rfl rfl ?_
                  refine z_bipush dX6_laysPart_102 (by decide) ?_
                  refine z_bipush dX6_laysPart_104 (by decide) ?_
                  refine z_iload_n dX6_laysPart_106 rfl ?_
                  refine z_imul dX6_laysPart_107 ?_
                  refine z_iadd dX6_laysPart_108 ?_
                  refine z_iload_n dX6_laysPart_109 rfl ?_
                  refine z_iadd dX6_laysPart_110 ?_
                  refine z_iaload dX6_laysPart_111 (by decide) rfl (by omega) (by omega) (by first | decide | omega) (fun r111 => ?_)
                  rw [rm_ch (show RM (h1 48) σ from by rw [P.1 48 (by decide) (by decide)]; exact R6) hc (e := e) (by omega) (z := 45 + 6 * (c : Int) + (e : Int)) (by omega)]
                  have c9 := W.2.2.2.2.2 c e hc (by omega)
                  refine z_i2l dX6_laysPart_112 (by omega) ?_
                  refine z_lload dX6_laysPart_113 rfl ?_
                  refine z_lmul dX6_laysPart_115 ?_
                  refine z_aload_n dX6_laysPart_116 rfl ?_
                  refine z_getR fX6_42 dX6_laysPart_117 (by decide) rfl rfl ?_
                  refine z_iload_n dX6_laysPart_120 rfl ?_
                  refine z_laload dX6_laysPart_121 (by decide) rfl (by omega) (by omega) (by first | decide | omega) (fun r121 => ?_)
                  refine z_aload_n dX6_laysPart_122 rfl ?_
                  refine z_getR fX6_39 dX6_laysPart_123 (by decide) rfl rfl ?_
                  refine z_iload_n dX6_laysPart_126 rfl ?_
                  refine z_laload dX6_laysPart_127 (by decide) rfl (by omega) (by omega) (by first | decide | omega) (fun r127 => ?_)
                  refine z_lmul dX6_laysPart_128 ?_
                  refine z_lsub dX6_laysPart_129 ?_
                  refine z_aload_n dX6_laysPart_130 rfl ?_
                  refine z_getR fX6_36 dX6_laysPart_131 (by decide) rfl rfl ?_
                  refine z_iload_n dX6_laysPart_134 rfl ?_
                  refine z_laload dX6_laysPart_135 (by decide) rfl (by omega) (by omega) (by first | decide | omega) (fun r135 => ?_)
                  refine z_aload_n dX6_laysPart_136 rfl ?_
                  refine z_getR fX6_45 dX6_laysPart_137 (by decide) rfl rfl ?_
                  refine z_iload_n dX6_laysPart_140 rfl ?_
                  refine z_laload dX6_laysPart_141 (by decide) rfl (by omega) (by omega) (by first | decide | omega) (fun r141 => ?_)
                  refine z_lmul dX6_laysPart_142 ?_
                  refine z_lsub dX6_laysPart_143 ?_
                  refine z_lload dX6_laysPart_144 rfl ?_
                  rw [show h1 58 (e : Int).toNat = h66 58 e from by rw [P.1 58 (by decide) (by decide)]; rfl, show h1 57 (e : Int).toNat = h66 57 e from (P.2.2 e (Nat.le_refl e)).2, show h1 59 (e : Int).toNat = h66 59 e from by rw [P.1 59 (by decide) (by decide)]; rfl, show h1 56 (e : Int).toNat = h66 56 e from (P.2.2 e (Nat.le_refl e)).1]
                  have l0 := f0 e (by omega)
                  have l1 := s1.2.2 e (by omega)
                  have hl := har_lw (c := sch σ c e) l0 l1
                  have hb1 := har_b hl (Int.mul_ne_zero z0 z1) (pb.2.2 e (by omega))
                  have bd0 := l0.bd z0
                  have bd1 := l1.bd z1
                  have hb2 : (h66 59 e * h66 57 e).natAbs ≤ 2 ^ 41 := by
                    rw [Int.natAbs_mul]
                    rw [Int.natAbs_mul] at hB
                    exact Nat.le_trans (Nat.mul_le_mul bd0.1 bd1.1) hB
                  refine z_callV_V (M := mX6_laysPart) [_, _, _] tX6_tells kX6_351 dX6_laysPart_146 ⟨by decide, rfl, _, _, rfl⟩ ⟨by decide, by decide⟩ rfl (Nat.le_of_ble_eq_true rfl) rfl (c_X6_tells (e := e) (by omega) (a := sch σ c e * (h66 59 e * h66 57 e) - h66 58 e * h66 57 e - h66 56 e * h66 59 e) (b := h66 59 e * h66 57 e) (by omega) (by omega) (by have := l0.1; have := l1.1; exact Int.mul_ne_zero (by omega) (by omega))) (fun h146 q146 => ?_)
                  obtain ⟨p, q, t1, t2⟩ := q146
                  rw [t2]
                  refine z_iinc dX6_laysPart_149 rfl (by decide) rfl ?_
                  refine z_goto 71 dX6_laysPart_152 (by decide) ?_
                  refine z_forget 4 ?_
                  exact ih71 (e + 1) _ (by omega) (P.put (t1.eq (by have := l0.1; have := l1.1; exact Int.mul_ne_zero (by omega) (by omega)) hl)) (by omega)
            exact loop71 _ 0 h66 (by omega) ⟨fun _ _ _ => rfl, fun i hi => absurd hi (Nat.not_lt_zero _), fun i _ => ⟨rfl, rfl⟩⟩ (Nat.lt_succ_self _)
          · refine z_aload_n dX6_laysPart_33 rfl ?_
            refine z_getR fX6_42 dX6_laysPart_34 (by decide) rfl rfl ?_
            refine z_iload_n dX6_laysPart_37 rfl ?_
            refine z_aload_n dX6_laysPart_38 rfl ?_
            refine z_getR fX6_36 dX6_laysPart_39 (by decide) rfl rfl ?_
            refine z_iload_n dX6_laysPart_42 rfl ?_
            refine z_laload dX6_laysPart_43 (by decide) rfl (by omega) (by omega) (by first | decide | omega) (fun r43 => ?_)
            refine z_lastore dX6_laysPart_44 (by decide) rfl (by omega) (by omega) (by first | decide | omega) (by omega) ?_
            refine z_aload_n dX6_laysPart_45 rfl ?_
            refine z_getR fX6_45 dX6_laysPart_46 (by decide) rfl rfl ?_
            refine z_iload_n dX6_laysPart_49 rfl ?_
            refine z_aload_n dX6_laysPart_50 rfl ?_
            refine z_getR fX6_39 dX6_laysPart_51 (by decide) rfl rfl ?_
            refine z_iload_n dX6_laysPart_54 rfl ?_
            refine z_laload dX6_laysPart_55 (by decide) rfl (by omega) (by omega) (by first | decide | omega) (fun r55 => ?_)
            refine z_lastore dX6_laysPart_56 (by decide) rfl (by omega) (by omega) (by first | decide | omega) (by omega) ?_
            refine z_iinc dX6_laysPart_57 rfl (by decide) rfl ?_
            refine z_goto 23 dX6_laysPart_60 (by decide) ?_
            exact ih23 (e + 1) _ (by omega) (C.put rfl) (by omega)
      exact loop23 _ 0 h12 (by omega) ⟨fun _ _ _ => rfl, fun i hi => absurd hi (Nat.not_lt_zero _)⟩ (Nat.lt_succ_self _)
    · omega
  · omega

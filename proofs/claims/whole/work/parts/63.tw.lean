set_option maxRecDepth 100000 in
set_option maxHeartbeats 4000000 in
theorem c_X5_twistS {g : GG} {h : HH} {σ : SG} (W : WF σ) (C : RC (h 2) σ) {d p : Int} (hd : R32 d) (hp : R32 p) (h0 : sP σ = 0) : CeI mX5_twist g [vr 0, vi d, vi p] h kSTATE := by
  refine cn_q (lv := [vr 0, vi d, vi p, vx, vx, vx, vx]) tX5_twist.1 rfl rfl (fun hR Q hQ => ?_)
  refine z_aload_n dX5_twist_0 rfl ?_
  refine z_getR fX5_10 dX5_twist_1 (by decide) rfl rfl ?_
  refine z_callV_eI (M := mX5_twist) [] tX0_isThere kX5_123 dX5_twist_4 ⟨by decide, rfl, _, _, rfl⟩ ⟨by decide, by decide⟩ rfl (Nat.le_of_ble_eq_true rfl) rfl (s_X0_isThere isC1 C) ?_
  refine z_if_ne 13 dX5_twist_7 (by decide) (bi_r _) (fun c7 => ?_) (fun c7 => ?_)
  · have c7 := bi_ne.mp c7
    omega
  · have c7 := bi_eq.mp c7
    refine z_ldc (-1000002) dX5_twist_10 qX5_105 rfl ?_
    exact z_ireturn dX5_twist_12 rfl (hQ _ _ ⟨_, rfl, rfl, rfl⟩)
set_option maxRecDepth 100000 in
set_option maxHeartbeats 4000000 in
theorem c_X5_twistO {g : GG} {h : HH} {σ : SG} (W : WF σ) (C : RC (h 2) σ) {d p : Int} (hd : R32 d) (hp : R32 p) (h0 : 0 < sP σ) (ho : ¬ (0 ≤ d ∧ d < ((2 ^ sF σ : Nat) : Int) ∧ 0 ≤ p)) : CeI mX5_twist g [vr 0, vi d, vi p] h kBAD := by
  refine cn_q (lv := [vr 0, vi d, vi p, vx, vx, vx, vx]) tX5_twist.1 rfl rfl (fun hR Q hQ => ?_)
  have w1 := W.1
  have w2 := W.2.1
  have w3 := W.2.2.1
  have b1 := b_shl (j := sF σ) (by omega)
  have b2 := b_pos (sF σ)
  refine z_aload_n dX5_twist_0 rfl ?_
  refine z_getR fX5_10 dX5_twist_1 (by decide) rfl rfl ?_
  refine z_callV_eI (M := mX5_twist) [] tX0_isThere kX5_123 dX5_twist_4 ⟨by decide, rfl, _, _, rfl⟩ ⟨by decide, by decide⟩ rfl (Nat.le_of_ble_eq_true rfl) rfl (s_X0_isThere isC1 C) ?_
  refine z_if_ne 13 dX5_twist_7 (by decide) (bi_r _) (fun c7 => ?_) (fun c7 => ?_)
  · have c7 := bi_ne.mp c7
    refine z_iload_n dX5_twist_13 rfl ?_
    refine z_if_lt 35 dX5_twist_14 (by decide) (by omega) (fun c14 => ?_) (fun c14 => ?_)
    · refine z_ldc (-1000001) dX5_twist_35 qX5_65 rfl ?_
      exact z_ireturn dX5_twist_37 rfl (hQ _ _ ⟨_, rfl, rfl, rfl⟩)
    · refine z_iload_n dX5_twist_17 rfl ?_
      refine z_iconst dX5_twist_18 ?_
      refine z_aload_n dX5_twist_19 rfl ?_
      refine z_getR fX5_10 dX5_twist_20 (by decide) rfl rfl ?_
      refine z_iconst dX5_twist_23 ?_
      refine z_callV_eI (M := mX5_twist) [_] tX0_sizeOf kX5_97 dX5_twist_24 ⟨by decide, rfl, _, _, rfl⟩ ⟨by decide, by decide⟩ rfl (Nat.le_of_ble_eq_true rfl) rfl (s_X0_sizeF isC1 C) ?_
      refine z_ishl dX5_twist_27 ?_
      rw [b1.1]
      refine z_icmp_ge 35 dX5_twist_28 (by decide) (by omega) (by omega) (fun c28 => ?_) (fun c28 => ?_)
      · refine z_ldc (-1000001) dX5_twist_35 qX5_65 rfl ?_
        exact z_ireturn dX5_twist_37 rfl (hQ _ _ ⟨_, rfl, rfl, rfl⟩)
      · refine z_iload_n dX5_twist_31 rfl ?_
        refine z_if_ge 38 dX5_twist_32 (by decide) (by omega) (fun c32 => ?_) (fun c32 => ?_)
        · omega
        · refine z_ldc (-1000001) dX5_twist_35 qX5_65 rfl ?_
          exact z_ireturn dX5_twist_37 rfl (hQ _ _ ⟨_, rfl, rfl, rfl⟩)
  · have c7 := bi_eq.mp c7
    omega
set_option maxRecDepth 100000 in
set_option maxHeartbeats 4000000 in
theorem c_X5_twist0 {g : GG} {h : HH} {σ : SG} (W : WF σ) (C : RC (h 2) σ) (h0 : 0 < sP σ) {a : Nat} (ha : a < 2 ^ sF σ) : CnI mX5_twist g [vr 0, vi (a : Int), vi 0] h (fun z h' => GF h h' ∧ ∃ k d : Nat, z = (d : Int) ∧ Rk (ent2 σ) (sE σ) a 0 k ∧ Dv (ent2 σ) (sE σ) a k d) := by
  refine cn_q (lv := [vr 0, vi (a : Int), vi 0, vx, vx, vx, vx]) tX5_twist.1 rfl rfl (fun hR Q hQ => ?_)
  have w1 := W.1
  have w2 := W.2.1
  have w3 := W.2.2.1
  have b1 := b_shl (j := sF σ) (by omega)
  have b2 := b_pos (sF σ)
  refine z_aload_n dX5_twist_0 rfl ?_
  refine z_getR fX5_10 dX5_twist_1 (by decide) rfl rfl ?_
  refine z_callV_eI (M := mX5_twist) [] tX0_isThere kX5_123 dX5_twist_4 ⟨by decide, rfl, _, _, rfl⟩ ⟨by decide, by decide⟩ rfl (Nat.le_of_ble_eq_true rfl) rfl (s_X0_isThere isC1 C) ?_
  refine z_if_ne 13 dX5_twist_7 (by decide) (bi_r _) (fun c7 => ?_) (fun c7 => ?_)
  · have c7 := bi_ne.mp c7
    refine z_iload_n dX5_twist_13 rfl ?_
    refine z_if_lt 35 dX5_twist_14 (by decide) (by omega) (fun c14 => ?_) (fun c14 => ?_)
    · omega
    · refine z_iload_n dX5_twist_17 rfl ?_
      refine z_iconst dX5_twist_18 ?_
      refine z_aload_n dX5_twist_19 rfl ?_
      refine z_getR fX5_10 dX5_twist_20 (by decide) rfl rfl ?_
      refine z_iconst dX5_twist_23 ?_
      refine z_callV_eI (M := mX5_twist) [_] tX0_sizeOf kX5_97 dX5_twist_24 ⟨by decide, rfl, _, _, rfl⟩ ⟨by decide, by decide⟩ rfl (Nat.le_of_ble_eq_true rfl) rfl (s_X0_sizeF isC1 C) ?_
      refine z_ishl dX5_twist_27 ?_
      rw [b1.1]
      refine z_icmp_ge 35 dX5_twist_28 (by decide) (by omega) (by omega) (fun c28 => ?_) (fun c28 => ?_)
      · omega
      · refine z_iload_n dX5_twist_31 rfl ?_
        refine z_if_ge 38 dX5_twist_32 (by decide) (by omega) (fun c32 => ?_) (fun c32 => ?_)
        · refine z_aload_n dX5_twist_38 rfl ?_
          refine z_getR fX5_36 dX5_twist_39 (by decide) rfl rfl ?_
          refine z_aload_n dX5_twist_42 rfl ?_
          refine z_getR fX5_10 dX5_twist_43 (by decide) rfl rfl ?_
          refine z_iconst dX5_twist_46 ?_
          refine z_callV_V (M := mX5_twist) [_, _] tX1_loadTable kX5_205 dX5_twist_47 ⟨by decide, rfl, _, _, rfl⟩ ⟨by decide, by decide⟩ rfl (Nat.le_of_ble_eq_true rfl) rfl (c_X1_loadTable2 W C) (fun h47 q47 => ?_)
          refine z_aload_n dX5_twist_50 rfl ?_
          refine z_getR fX5_36 dX5_twist_51 (by decide) rfl rfl ?_
          refine z_callV_V (M := mX5_twist) [] tX1_fillMinors kX5_209 dX5_twist_54 ⟨by decide, rfl, _, _, rfl⟩ ⟨by decide, by decide⟩ rfl (Nat.le_of_ble_eq_true rfl) rfl (c_X1_fillMinors q47.2.1 (by omega) q47.2.2.1 (by omega) (lg_64 q47 (by omega) (by omega) (ent2_64 W))) (fun h54 q54 => ?_)
          obtain ⟨f, g1, g2⟩ := q54
          have E2 : h54 9 2 = sE σ := by rw [g1, setc_ne _ _ (by decide)]; exact q47.2.1
          have E3 : h54 9 3 = sF σ := by rw [g1, setc_ne _ _ (by decide)]; exact q47.2.2.1
          have F54 : GF h h54 := by rw [g1]; exact lg_gf q47 f
          have m54 : MT (h54 17) (GA h47) (sE σ) (sF σ) := by rw [g1, setc_at]; exact g2
          have b64 := lg_64 q47 (by omega) (by omega) (ent2_64 W)
          refine z_iload_n dX5_twist_57 rfl ?_
          refine z_if_ne 80 dX5_twist_58 (by decide) (by omega) (fun c58 => ?_) (fun c58 => ?_)
          · omega
          · refine z_aload_n dX5_twist_61 rfl ?_
            refine z_getR fX5_36 dX5_twist_62 (by decide) rfl rfl ?_
            refine z_aload_n dX5_twist_65 rfl ?_
            refine z_getR fX5_36 dX5_twist_66 (by decide) rfl rfl ?_
            refine z_iconst dX5_twist_69 ?_
            refine z_iload_n dX5_twist_70 rfl ?_
            refine z_callV_pI (M := mX5_twist) [_, _] tX1_rankBy kX5_212 dX5_twist_71 ⟨by decide, rfl, _, _, rfl⟩ ⟨by decide, by decide⟩ rfl (Nat.le_of_ble_eq_true rfl) rfl (c_X1_rankBy E2 (by omega) E3 (by omega) m54 (p := 0) (by decide) (a := a) ha) (fun z71 q71 => ?_)
            obtain ⟨k, k1, k2, k3⟩ := q71
            rw [k1]
            refine z_iload_n dX5_twist_74 rfl ?_
            refine z_callV_pL (M := mX5_twist) [_, _] tX1_divisorOfMinors kX5_215 dX5_twist_75 ⟨by decide, rfl, _, _, rfl⟩ ⟨by decide, by decide⟩ rfl (Nat.le_of_ble_eq_true rfl) rfl (c_X1_divisorOfMinors E2 (by omega) (by omega) m54 b64 ha (k := k) (by omega)) (fun z75 q75 => ?_)
            obtain ⟨d, d1, d2, d3⟩ := q75
            rw [d1]
            refine z_l2i dX5_twist_78 ?_
            exact z_ireturn dX5_twist_79 rfl (hQ _ _ ⟨_, rfl, ⟨F54, k, d, rfl, rk_grid (by omega) (by omega) (lg_ga q47) ha k3, dv_grid (by omega) (by omega) (lg_ga q47) ha d3⟩⟩)
        · omega
  · have c7 := bi_eq.mp c7
    omega
set_option maxRecDepth 100000 in
set_option maxHeartbeats 4000000 in
theorem c_X5_twist1 {g : GG} {h : HH} {σ : SG} (W : WF σ) (C : RC (h 2) σ) (h0 : 0 < sP σ) {a : Nat} (ha : a < 2 ^ sF σ) {k : Nat} (hk : 1 ≤ k ∧ (k : Int) < 2147483648) : CnI mX5_twist g [vr 0, vi (a : Int), vi (k : Int)] h (fun z h' => GF h h' ∧ ∃ d e : Nat, z = (if d = 0 ∨ e = 0 then kNONE else (d : Int).tdiv e) ∧ Dv (ent2 σ) (sE σ) a k d ∧ Dv (ent2 σ) (sE σ) a (k - 1) e) := by
  refine cn_q (lv := [vr 0, vi (a : Int), vi (k : Int), vx, vx, vx, vx]) tX5_twist.1 rfl rfl (fun hR Q hQ => ?_)
  have w1 := W.1
  have w2 := W.2.1
  have w3 := W.2.2.1
  have b1 := b_shl (j := sF σ) (by omega)
  have b2 := b_pos (sF σ)
  refine z_aload_n dX5_twist_0 rfl ?_
  refine z_getR fX5_10 dX5_twist_1 (by decide) rfl rfl ?_
  refine z_callV_eI (M := mX5_twist) [] tX0_isThere kX5_123 dX5_twist_4 ⟨by decide, rfl, _, _, rfl⟩ ⟨by decide, by decide⟩ rfl (Nat.le_of_ble_eq_true rfl) rfl (s_X0_isThere isC1 C) ?_
  refine z_if_ne 13 dX5_twist_7 (by decide) (bi_r _) (fun c7 => ?_) (fun c7 => ?_)
  · have c7 := bi_ne.mp c7
    refine z_iload_n dX5_twist_13 rfl ?_
    refine z_if_lt 35 dX5_twist_14 (by decide) (by omega) (fun c14 => ?_) (fun c14 => ?_)
    · omega
    · refine z_iload_n dX5_twist_17 rfl ?_
      refine z_iconst dX5_twist_18 ?_
      refine z_aload_n dX5_twist_19 rfl ?_
      refine z_getR fX5_10 dX5_twist_20 (by decide) rfl rfl ?_
      refine z_iconst dX5_twist_23 ?_
      refine z_callV_eI (M := mX5_twist) [_] tX0_sizeOf kX5_97 dX5_twist_24 ⟨by decide, rfl, _, _, rfl⟩ ⟨by decide, by decide⟩ rfl (Nat.le_of_ble_eq_true rfl) rfl (s_X0_sizeF isC1 C) ?_
      refine z_ishl dX5_twist_27 ?_
      rw [b1.1]
      refine z_icmp_ge 35 dX5_twist_28 (by decide) (by omega) (by omega) (fun c28 => ?_) (fun c28 => ?_)
      · omega
      · refine z_iload_n dX5_twist_31 rfl ?_
        refine z_if_ge 38 dX5_twist_32 (by decide) (by omega) (fun c32 => ?_) (fun c32 => ?_)
        · refine z_aload_n dX5_twist_38 rfl ?_
          refine z_getR fX5_36 dX5_twist_39 (by decide) rfl rfl ?_
          refine z_aload_n dX5_twist_42 rfl ?_
          refine z_getR fX5_10 dX5_twist_43 (by decide) rfl rfl ?_
          refine z_iconst dX5_twist_46 ?_
          refine z_callV_V (M := mX5_twist) [_, _] tX1_loadTable kX5_205 dX5_twist_47 ⟨by decide, rfl, _, _, rfl⟩ ⟨by decide, by decide⟩ rfl (Nat.le_of_ble_eq_true rfl) rfl (c_X1_loadTable2 W C) (fun h47 q47 => ?_)
          refine z_aload_n dX5_twist_50 rfl ?_
          refine z_getR fX5_36 dX5_twist_51 (by decide) rfl rfl ?_
          refine z_callV_V (M := mX5_twist) [] tX1_fillMinors kX5_209 dX5_twist_54 ⟨by decide, rfl, _, _, rfl⟩ ⟨by decide, by decide⟩ rfl (Nat.le_of_ble_eq_true rfl) rfl (c_X1_fillMinors q47.2.1 (by omega) q47.2.2.1 (by omega) (lg_64 q47 (by omega) (by omega) (ent2_64 W))) (fun h54 q54 => ?_)
          obtain ⟨f, g1, g2⟩ := q54
          have E2 : h54 9 2 = sE σ := by rw [g1, setc_ne _ _ (by decide)]; exact q47.2.1
          have E3 : h54 9 3 = sF σ := by rw [g1, setc_ne _ _ (by decide)]; exact q47.2.2.1
          have F54 : GF h h54 := by rw [g1]; exact lg_gf q47 f
          have m54 : MT (h54 17) (GA h47) (sE σ) (sF σ) := by rw [g1, setc_at]; exact g2
          have b64 := lg_64 q47 (by omega) (by omega) (ent2_64 W)
          refine z_iload_n dX5_twist_57 rfl ?_
          refine z_if_ne 80 dX5_twist_58 (by decide) (by omega) (fun c58 => ?_) (fun c58 => ?_)
          · refine z_aload_n dX5_twist_80 rfl ?_
            refine z_getR fX5_36 dX5_twist_81 (by decide) rfl rfl ?_
            refine z_iload_n dX5_twist_84 rfl ?_
            refine z_iload_n dX5_twist_85 rfl ?_
            refine z_callV_pL (M := mX5_twist) [_, _] tX1_divisorOfMinors kX5_215 dX5_twist_86 ⟨by decide, rfl, _, _, rfl⟩ ⟨by decide, by decide⟩ rfl (Nat.le_of_ble_eq_true rfl) rfl (c_X1_divisorOfMinors E2 (by omega) (by omega) m54 b64 ha (k := k) (by omega)) (fun z86 q86 => ?_)
            obtain ⟨d, d1, d2, d3⟩ := q86
            rw [d1]
            refine z_lstore_n dX5_twist_89 (by decide) rfl ?_
            refine z_aload_n dX5_twist_90 rfl ?_
            refine z_getR fX5_36 dX5_twist_91 (by decide) rfl rfl ?_
            refine z_iload_n dX5_twist_94 rfl ?_
            refine z_iconst dX5_twist_95 ?_
            refine z_isub dX5_twist_96 ?_
            refine z_iload_n dX5_twist_97 rfl ?_
            rw [show (k : Int) - 1 = ((k - 1 : Nat) : Int) from by omega]
            refine z_callV_pL (M := mX5_twist) [_, _] tX1_divisorOfMinors kX5_215 dX5_twist_98 ⟨by decide, rfl, _, _, rfl⟩ ⟨by decide, by decide⟩ rfl (Nat.le_of_ble_eq_true rfl) rfl (c_X1_divisorOfMinors E2 (by omega) (by omega) m54 b64 ha (k := k - 1) (by omega)) (fun z98 q98 => ?_)
            obtain ⟨e, e1, e2, e3⟩ := q98
            rw [e1]
            refine z_lstore dX5_twist_101 (by decide) rfl ?_
            refine z_lload_n dX5_twist_103 rfl ?_
            refine z_lconst (z := 0) dX5_twist_104 rfl ?_
            refine z_lcmp dX5_twist_105 (by omega) (by decide) ?_
            refine z_if_eq 116 dX5_twist_106 (by decide) (icmp_r _ _) (fun c106 => ?_) (fun c106 => ?_)
            · have c106 := icmp_eq.mp c106
              refine z_ldc (-1000000) dX5_twist_116 qX5_191 rfl ?_
              refine z_goto 126 dX5_twist_118 (by decide) ?_
              exact z_ireturn dX5_twist_126 rfl (hQ _ _ ⟨_, rfl, ⟨F54, d, e, (if_pos (show d = 0 ∨ e = 0 by omega)).symm, dv_grid (by omega) (by omega) (lg_ga q47) ha d3, dv_grid (by omega) (by omega) (lg_ga q47) ha e3⟩⟩)
            · have c106 := icmp_ne.mp c106
              refine z_lload dX5_twist_109 rfl ?_
              refine z_lconst (z := 0) dX5_twist_111 rfl ?_
              refine z_lcmp dX5_twist_112 (by omega) (by decide) ?_
              refine z_if_ne 121 dX5_twist_113 (by decide) (icmp_r _ _) (fun c113 => ?_) (fun c113 => ?_)
              · have c113 := icmp_ne.mp c113
                refine z_lload_n dX5_twist_121 rfl ?_
                refine z_lload dX5_twist_122 rfl ?_
                refine z_ldiv dX5_twist_124 (by omega) (by omega) (by omega) ?_
                refine z_l2i dX5_twist_125 ?_
                exact z_ireturn dX5_twist_126 rfl (hQ _ _ ⟨_, rfl, ⟨F54, d, e, (if_neg (show ¬ (d = 0 ∨ e = 0) by omega)).symm, dv_grid (by omega) (by omega) (lg_ga q47) ha d3, dv_grid (by omega) (by omega) (lg_ga q47) ha e3⟩⟩)
              · have c113 := icmp_eq.mp c113
                refine z_ldc (-1000000) dX5_twist_116 qX5_191 rfl ?_
                refine z_goto 126 dX5_twist_118 (by decide) ?_
                exact z_ireturn dX5_twist_126 rfl (hQ _ _ ⟨_, rfl, ⟨F54, d, e, (if_pos (show d = 0 ∨ e = 0 by omega)).symm, dv_grid (by omega) (by omega) (lg_ga q47) ha d3, dv_grid (by omega) (by omega) (lg_ga q47) ha e3⟩⟩)
          · omega
        · omega
  · have c7 := bi_eq.mp c7
    omega

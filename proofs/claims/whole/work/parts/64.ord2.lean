set_option maxRecDepth 100000 in
set_option maxHeartbeats 4000000 in
theorem c_X5_orderOf {g : GG} {h : HH} {σ : SG} (W : WF σ) (C : RC (h 2) σ) {c : Nat} (hc : c < 3) : CnL mX5_orderOf g [vr 0, vi (c : Int)] h (fun z h' => GF h h' ∧ R64 z ∧ ∃ k l : Nat, Rk (entc σ c) (sE σ) (2 ^ sF σ - 1) 0 k ∧ Rk (entc σ c) (sE σ) (2 ^ (sF σ + 1) - 1) 0 l ∧ (l ≠ k → z = 0) ∧ (l = k → ∃ d : Nat, Dv (entc σ c) (sE σ) (2 ^ (sF σ + 1) - 1) k d ∧ (d = 0 → z = 0) ∧ (d ≠ 0 → ∃ e : Nat, Dv (entc σ c) (sE σ) (2 ^ sF σ - 1) k e ∧ z = (e : Int).tdiv d))) := by
  refine cn_q (lv := [vr 0, vi (c : Int), vx, vx, vx, vx, vx]) tX5_orderOf.1 rfl rfl (fun hR Q hQ => ?_)
  have w1 := W.1
  have w2 := W.2.1
  have w3 := W.2.2.1
  have b1 := b_shl (j := sF σ) (by omega)
  have b2 := b_pos (sF σ)
  have b3 := b_shl (j := sF σ + 1) (by omega)
  have b4 : 2 ^ (sF σ + 1) = 2 ^ sF σ * 2 := Nat.pow_succ ..
  refine z_aload_n dX5_orderOf_0 rfl ?_
  refine z_getR fX5_36 dX5_orderOf_1 (by decide) rfl rfl ?_
  refine z_aload_n dX5_orderOf_4 rfl ?_
  refine z_getR fX5_10 dX5_orderOf_5 (by decide) rfl rfl ?_
  refine z_iconst dX5_orderOf_8 ?_
  refine z_callV_V (M := mX5_orderOf) [_, _] tX1_loadTable kX5_205 dX5_orderOf_9 ⟨by decide, rfl, _, _, rfl⟩ ⟨by decide, by decide⟩ rfl (Nat.le_of_ble_eq_true rfl) rfl (c_X1_loadTable2 W C) (fun h9 q9 => ?_)
  refine z_aload_n dX5_orderOf_12 rfl ?_
  refine z_getR fX5_36 dX5_orderOf_13 (by decide) rfl rfl ?_
  refine z_callV_eI (M := mX5_orderOf) [] tX1_allColumns kX5_257 dX5_orderOf_16 ⟨by decide, rfl, _, _, rfl⟩ ⟨by decide, by decide⟩ rfl (Nat.le_of_ble_eq_true rfl) rfl (c_X1_allColumns q9.2.2.1 (by omega)) ?_
  refine z_istore_n dX5_orderOf_19 (by decide) rfl ?_
  refine z_aload_n dX5_orderOf_20 rfl ?_
  refine z_getR fX5_36 dX5_orderOf_21 (by decide) rfl rfl ?_
  refine z_aload_n dX5_orderOf_24 rfl ?_
  refine z_getR fX5_10 dX5_orderOf_25 (by decide) rfl rfl ?_
  refine z_iload_n dX5_orderOf_28 rfl ?_
  refine z_callV_V (M := mX5_orderOf) [_, _] tX1_addChain kX5_287 dX5_orderOf_29 ⟨by decide, rfl, _, _, rfl⟩ ⟨by decide, by decide⟩ rfl (Nat.le_of_ble_eq_true rfl) rfl (c_X1_addChain W (by rw [q9.1 2 (by decide) (Or.inl (by decide))]; exact C) hc q9.2.1 q9.2.2.1) (fun h29 q29 => ?_)
  obtain ⟨h1, aA, e29⟩ := q29
  have ga := ac_ga (v := (sF σ : Int) + 1) q9 aA
  rw [← e29] at ga
  have E22 : h29 9 2 = sE σ := by rw [e29, up_o _ _ (by decide), aA.2.1]; exact q9.2.1
  have E23 : h29 9 3 = ((sF σ + 1 : Nat) : Int) := by rw [e29, up_same]; rfl
  have b64 := ga_64 (by omega) (by omega) ga (entc_64 W hc)
  refine z_aload_n dX5_orderOf_32 rfl ?_
  refine z_getR fX5_36 dX5_orderOf_33 (by decide) rfl rfl ?_
  refine z_callV_V (M := mX5_orderOf) [] tX1_fillMinors kX5_209 dX5_orderOf_36 ⟨by decide, rfl, _, _, rfl⟩ ⟨by decide, by decide⟩ rfl (Nat.le_of_ble_eq_true rfl) rfl (c_X1_fillMinors E22 (by omega) E23 (by omega) b64) (fun h36 q36 => ?_)
  obtain ⟨f, g1, g2⟩ := q36
  have E2 : h36 9 2 = sE σ := by rw [g1, setc_ne _ _ (by decide)]; exact E22
  have E3 : h36 9 3 = ((sF σ + 1 : Nat) : Int) := by rw [g1, setc_ne _ _ (by decide)]; exact E23
  have F36 : GF h h36 := fun k k1 k2 => by rw [g1, setc_ne _ _ (by omega), e29, up_ne _ _ _ k1, aA.1 k k1 (by omega)]; exact q9.1 k k1 (by omega)
  have m36 : MT (h36 17) (GA h29) (sE σ) (sF σ + 1) := by rw [g1, setc_at]; exact g2
  refine z_aload_n dX5_orderOf_39 rfl ?_
  refine z_getR fX5_36 dX5_orderOf_40 (by decide) rfl rfl ?_
  refine z_callV_eI (M := mX5_orderOf) [] tX1_allColumns kX5_257 dX5_orderOf_43 ⟨by decide, rfl, _, _, rfl⟩ ⟨by decide, by decide⟩ rfl (Nat.le_of_ble_eq_true rfl) rfl (c_X1_allColumns E3 (by omega)) ?_
  refine z_istore_n dX5_orderOf_46 (by decide) rfl ?_
  refine z_aload_n dX5_orderOf_47 rfl ?_
  refine z_getR fX5_36 dX5_orderOf_48 (by decide) rfl rfl ?_
  refine z_iconst dX5_orderOf_51 ?_
  refine z_iload_n dX5_orderOf_52 rfl ?_
  refine z_callV_pI (M := mX5_orderOf) [_, _] tX1_rankBy kX5_212 dX5_orderOf_53 ⟨by decide, rfl, _, _, rfl⟩ ⟨by decide, by decide⟩ rfl (Nat.le_of_ble_eq_true rfl) rfl (c_X1_rankBy E2 (by omega) E3 (by omega) m36 (p := 0) (by decide) (a := (2 ^ sF σ - 1)) (by omega)) (fun z53 q53 => ?_)
  obtain ⟨k, k1, k2, k3⟩ := q53
  rw [k1]
  refine z_istore dX5_orderOf_56 (by decide) rfl ?_
  refine z_aload_n dX5_orderOf_58 rfl ?_
  refine z_getR fX5_36 dX5_orderOf_59 (by decide) rfl rfl ?_
  refine z_iconst dX5_orderOf_62 ?_
  refine z_iload_n dX5_orderOf_63 rfl ?_
  refine z_callV_pI (M := mX5_orderOf) [_, _] tX1_rankBy kX5_212 dX5_orderOf_64 ⟨by decide, rfl, _, _, rfl⟩ ⟨by decide, by decide⟩ rfl (Nat.le_of_ble_eq_true rfl) rfl (c_X1_rankBy E2 (by omega) E3 (by omega) m36 (p := 0) (by decide) (a := (2 ^ (sF σ + 1) - 1)) (by omega)) (fun z64 q64 => ?_)
  obtain ⟨l, l1, l2, l3⟩ := q64
  rw [l1]
  refine z_iload dX5_orderOf_67 rfl ?_
  refine z_icmp_eq 74 dX5_orderOf_69 (by decide) (by omega) (by omega) (fun c69 => ?_) (fun c69 => ?_)
  · refine z_aload_n dX5_orderOf_74 rfl ?_
    refine z_getR fX5_36 dX5_orderOf_75 (by decide) rfl rfl ?_
    refine z_iload dX5_orderOf_78 rfl ?_
    refine z_iload_n dX5_orderOf_80 rfl ?_
    refine z_callV_pL (M := mX5_orderOf) [_, _] tX1_divisorOfMinors kX5_215 dX5_orderOf_81 ⟨by decide, rfl, _, _, rfl⟩ ⟨by decide, by decide⟩ rfl (Nat.le_of_ble_eq_true rfl) rfl (c_X1_divisorOfMinors E2 (by omega) (by omega) m36 b64 (a := (2 ^ (sF σ + 1) - 1)) (by omega) (k := k) (by omega)) (fun z81 q81 => ?_)
    obtain ⟨d, d1, d2, d3⟩ := q81
    rw [d1]
    refine z_lstore dX5_orderOf_84 (by decide) rfl ?_
    refine z_lload dX5_orderOf_86 rfl ?_
    refine z_lconst (z := 0) dX5_orderOf_88 rfl ?_
    refine z_lcmp dX5_orderOf_89 (by omega) (by decide) ?_
    refine z_if_ne 97 dX5_orderOf_90 (by decide) (icmp_r _ _) (fun c90 => ?_) (fun c90 => ?_)
    · have c90 := icmp_ne.mp c90
      refine z_aload_n dX5_orderOf_97 rfl ?_
      refine z_getR fX5_36 dX5_orderOf_98 (by decide) rfl rfl ?_
      refine z_iload dX5_orderOf_101 rfl ?_
      refine z_iload_n dX5_orderOf_103 rfl ?_
      refine z_callV_pL (M := mX5_orderOf) [_, _] tX1_divisorOfMinors kX5_215 dX5_orderOf_104 ⟨by decide, rfl, _, _, rfl⟩ ⟨by decide, by decide⟩ rfl (Nat.le_of_ble_eq_true rfl) rfl (c_X1_divisorOfMinors E2 (by omega) (by omega) m36 b64 (a := (2 ^ sF σ - 1)) (by omega) (k := k) (by omega)) (fun z104 q104 => ?_)
      obtain ⟨e, e1, e2, e3⟩ := q104
      rw [e1]
      refine z_lload dX5_orderOf_107 rfl ?_
      refine z_ldiv dX5_orderOf_109 (by omega) (by omega) (by omega) ?_
      exact z_lreturn dX5_orderOf_110 rfl (hQ _ _ ⟨_, rfl, ⟨F36, tdiv_r e2 d, k, l, rk_grid (by omega) (by omega) ga (by omega) k3, rk_grid (by omega) (by omega) ga (by omega) l3, fun q => absurd q (by omega), fun _ => ⟨d, dv_grid (by omega) (by omega) ga (by omega) d3, fun q => absurd q (by omega), fun _ => ⟨e, dv_grid (by omega) (by omega) ga (by omega) e3, rfl⟩⟩⟩⟩)
    · have c90 := icmp_eq.mp c90
      refine z_lconst (z := 0) dX5_orderOf_93 rfl ?_
      refine z_goto 110 dX5_orderOf_94 (by decide) ?_
      exact z_lreturn dX5_orderOf_110 rfl (hQ _ _ ⟨_, rfl, ⟨F36, by decide, k, l, rk_grid (by omega) (by omega) ga (by omega) k3, rk_grid (by omega) (by omega) ga (by omega) l3, fun q => absurd q (by omega), fun _ => ⟨d, dv_grid (by omega) (by omega) ga (by omega) d3, fun _ => rfl, fun q => absurd q (by omega)⟩⟩⟩)
  · refine z_lconst (z := 0) dX5_orderOf_72 rfl ?_
    exact z_lreturn dX5_orderOf_73 rfl (hQ _ _ ⟨_, rfl, ⟨F36, by decide, k, l, rk_grid (by omega) (by omega) ga (by omega) k3, rk_grid (by omega) (by omega) ga (by omega) l3, fun _ => rfl, fun q => absurd q (by omega)⟩⟩)

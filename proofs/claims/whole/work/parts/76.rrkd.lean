set_option maxRecDepth 100000 in
set_option maxHeartbeats 4000000 in
theorem c_X6_rankAll1 {g : GG} {h : HH} {σ : SG} (W : WF σ) (R : RM (h 48) σ) : CnI mX6_rankAll g [vr 47, vi 1] h (fun z h' => (∃ y : Nat, z = y ∧ y ≤ 6 ∧ Rk (ent1 σ) (sP σ) (2 ^ sE σ - 1) 0 y) ∧ F54 h h') := by
  refine cn_q (lv := [vr 47, vi 1]) tX6_rankAll.1 rfl rfl (fun hR Q hQ => ?_)
  have w1 := W.1
  have w2 := W.2.1
  have w3 := W.2.2.1
  have mk := mask1 (C := sE σ) (by omega)
  refine z_aload_n dX6_rankAll_0 rfl ?_
  refine z_iload_n dX6_rankAll_1 rfl ?_
  refine z_aload_n dX6_rankAll_2 rfl ?_
  refine z_iload_n dX6_rankAll_3 rfl ?_
  refine z_callV_eI (M := mX6_rankAll) [_] tX6_allColumns kX6_124 dX6_rankAll_4 ⟨by decide, rfl, _, _, rfl⟩ ⟨by decide, by decide⟩ rfl (Nat.le_of_ble_eq_true rfl) rfl (c_X6_allColumns1 W R) ?_
  refine z_iconst dX6_rankAll_7 ?_
  refine z_callV_I (M := mX6_rankAll) [_, _, _] tX6_rankOf kX6_127 dX6_rankAll_8 ⟨by decide, rfl, _, _, rfl⟩ ⟨by decide, by decide⟩ rfl (Nat.le_of_ble_eq_true rfl) rfl (c_X6_rankOf (ch := 0) (a := 2 ^ sE σ - 1) (by omega) mk.2 (wd_1 W R (by decide) mk.1)) (fun z8 h8 q8 => ?_)
  obtain ⟨⟨y, y1, y2, y3⟩, yf⟩ := q8
  exact z_ireturn dX6_rankAll_11 rfl (hQ _ _ ⟨_, rfl, ⟨⟨y, y1, y2, y3⟩, yf⟩⟩)
set_option maxRecDepth 100000 in
set_option maxHeartbeats 4000000 in
theorem c_X6_rankAll2 {g : GG} {h : HH} {σ : SG} (W : WF σ) (R : RM (h 48) σ) : CnI mX6_rankAll g [vr 47, vi 2] h (fun z h' => (∃ y : Nat, z = y ∧ y ≤ 6 ∧ Rk (ent2 σ) (sE σ) (2 ^ sF σ - 1) 0 y) ∧ F54 h h') := by
  refine cn_q (lv := [vr 47, vi 2]) tX6_rankAll.1 rfl rfl (fun hR Q hQ => ?_)
  have w1 := W.1
  have w2 := W.2.1
  have w3 := W.2.2.1
  have mk := mask1 (C := sF σ) (by omega)
  refine z_aload_n dX6_rankAll_0 rfl ?_
  refine z_iload_n dX6_rankAll_1 rfl ?_
  refine z_aload_n dX6_rankAll_2 rfl ?_
  refine z_iload_n dX6_rankAll_3 rfl ?_
  refine z_callV_eI (M := mX6_rankAll) [_] tX6_allColumns kX6_124 dX6_rankAll_4 ⟨by decide, rfl, _, _, rfl⟩ ⟨by decide, by decide⟩ rfl (Nat.le_of_ble_eq_true rfl) rfl (c_X6_allColumns2 W R) ?_
  refine z_iconst dX6_rankAll_7 ?_
  refine z_callV_I (M := mX6_rankAll) [_, _, _] tX6_rankOf kX6_127 dX6_rankAll_8 ⟨by decide, rfl, _, _, rfl⟩ ⟨by decide, by decide⟩ rfl (Nat.le_of_ble_eq_true rfl) rfl (c_X6_rankOf (ch := ((0 : Nat) : Int)) (a := 2 ^ sF σ - 1) (by omega) mk.2 (wd_2 W R (by decide) (okc_f W mk.1))) (fun z8 h8 q8 => ?_)
  obtain ⟨⟨y, y1, y2, y3⟩, yf⟩ := q8
  exact z_ireturn dX6_rankAll_11 rfl (hQ _ _ ⟨_, rfl, ⟨⟨y, y1, y2, rk_cols (by omega) mk.2 (wd2_bit W mk.1) y3⟩, yf⟩⟩)
set_option maxRecDepth 100000 in
set_option maxHeartbeats 4000000 in
theorem c_X6_isPrime {g : GG} {h : HH} {p : Int} (hp : R32 p) : CeI mX6_isPrime g [vi p] h (bi (p = 0 ∨ p = 2 ∨ p = 3 ∨ p = 5 ∨ p = 7)) := by
  refine cn_q (lv := [vi p]) tX6_isPrime.1 rfl rfl (fun hR Q hQ => ?_)
  refine z_iload_n dX6_isPrime_0 rfl ?_
  refine z_if_eq 25 dX6_isPrime_1 (by decide) (by omega) (fun c1 => ?_) (fun c1 => ?_)
  · refine z_iconst dX6_isPrime_25 ?_
    refine z_goto 30 dX6_isPrime_26 (by decide) ?_
    exact z_zreturn dX6_isPrime_30 rfl (by first | exact Or.inl rfl | exact Or.inr rfl | exact bi_01 _ | omega) (hQ _ _ ⟨_, rfl, (by first | exact bi_f (by omega) | exact bi_t (by omega)), rfl⟩)
  · refine z_iload_n dX6_isPrime_4 rfl ?_
    refine z_iconst dX6_isPrime_5 ?_
    refine z_icmp_eq 25 dX6_isPrime_6 (by decide) (by omega) (by omega) (fun c6 => ?_) (fun c6 => ?_)
    · refine z_iconst dX6_isPrime_25 ?_
      refine z_goto 30 dX6_isPrime_26 (by decide) ?_
      exact z_zreturn dX6_isPrime_30 rfl (by first | exact Or.inl rfl | exact Or.inr rfl | exact bi_01 _ | omega) (hQ _ _ ⟨_, rfl, (by first | exact bi_f (by omega) | exact bi_t (by omega)), rfl⟩)
    · refine z_iload_n dX6_isPrime_9 rfl ?_
      refine z_iconst dX6_isPrime_10 ?_
      refine z_icmp_eq 25 dX6_isPrime_11 (by decide) (by omega) (by omega) (fun c11 => ?_) (fun c11 => ?_)
      · refine z_iconst dX6_isPrime_25 ?_
        refine z_goto 30 dX6_isPrime_26 (by decide) ?_
        exact z_zreturn dX6_isPrime_30 rfl (by first | exact Or.inl rfl | exact Or.inr rfl | exact bi_01 _ | omega) (hQ _ _ ⟨_, rfl, (by first | exact bi_f (by omega) | exact bi_t (by omega)), rfl⟩)
      · refine z_iload_n dX6_isPrime_14 rfl ?_
        refine z_iconst dX6_isPrime_15 ?_
        refine z_icmp_eq 25 dX6_isPrime_16 (by decide) (by omega) (by omega) (fun c16 => ?_) (fun c16 => ?_)
        · refine z_iconst dX6_isPrime_25 ?_
          refine z_goto 30 dX6_isPrime_26 (by decide) ?_
          exact z_zreturn dX6_isPrime_30 rfl (by first | exact Or.inl rfl | exact Or.inr rfl | exact bi_01 _ | omega) (hQ _ _ ⟨_, rfl, (by first | exact bi_f (by omega) | exact bi_t (by omega)), rfl⟩)
        · refine z_iload_n dX6_isPrime_19 rfl ?_
          refine z_bipush dX6_isPrime_20 (by decide) ?_
          refine z_icmp_ne 29 dX6_isPrime_22 (by decide) (by omega) (by omega) (fun c22 => ?_) (fun c22 => ?_)
          · refine z_iconst dX6_isPrime_29 ?_
            exact z_zreturn dX6_isPrime_30 rfl (by first | exact Or.inl rfl | exact Or.inr rfl | exact bi_01 _ | omega) (hQ _ _ ⟨_, rfl, (by first | exact bi_f (by omega) | exact bi_t (by omega)), rfl⟩)
          · refine z_iconst dX6_isPrime_25 ?_
            refine z_goto 30 dX6_isPrime_26 (by decide) ?_
            exact z_zreturn dX6_isPrime_30 rfl (by first | exact Or.inl rfl | exact Or.inr rfl | exact bi_01 _ | omega) (hQ _ _ ⟨_, rfl, (by first | exact bi_f (by omega) | exact bi_t (by omega)), rfl⟩)

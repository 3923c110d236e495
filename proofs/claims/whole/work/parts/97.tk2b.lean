set_option maxRecDepth 100000 in
set_option maxHeartbeats 4000000 in
theorem c_X2_take3 {g : GG} {h : HH} {σ : SG} (W : WF σ) (C : RC (h 2) σ) {c : Nat} (hc : c < 3) : CnV mX2_take g [vr 18, vr 1, vi (c : Int), vi 3] h (fun h' => TKh σ c 3 h h') := by
  refine cn_q (lv := [vr 18, vr 1, vi (c : Int), vi 3, vx]) tX2_take.1 rfl rfl (fun hR Q hQ => ?_)
  have w1 := W.1
  have w2 := W.2.1
  have w3 := W.2.2.1
  refine z_aload_n dX2_take_0 rfl ?_
  refine z_aload_n dX2_take_1 rfl ?_
  refine z_iload_n dX2_take_2 rfl ?_
  refine z_callV_V (M := mX2_take) [_, _] tX2_loadChain kX2_50 dX2_take_3 ⟨by decide, rfl, _, _, rfl⟩ ⟨by decide, by decide⟩ rfl (Nat.le_of_ble_eq_true rfl) rfl (c_X2_loadChain W C hc) (fun h3 q3 => ?_)
  have Mc : MC h3 σ c := ⟨q3.2.1, fun e he => ⟨(q3.2.2.2 e he).2.1, (q3.2.2.2 e he).2.2⟩⟩
  have G3 := q3.gs
  have C3 := G3.rc C
  refine z_iload_n dX2_take_6 rfl ?_
  refine z_if_eq 15 dX2_take_7 (by decide) (by omega) (fun c7 => ?_) (fun c7 => ?_)
  · omega
  · refine z_iload_n dX2_take_10 rfl ?_
    refine z_iconst dX2_take_11 ?_
    refine z_icmp_ne 65 dX2_take_12 (by decide) (by omega) (by omega) (fun c12 => ?_) (fun c12 => ?_)
    · refine z_iload_n dX2_take_65 rfl ?_
      refine z_iconst dX2_take_66 ?_
      refine z_icmp_ne 98 dX2_take_67 (by decide) (by omega) (by omega) (fun c67 => ?_) (fun c67 => ?_)
      · exact z_return dX2_take_98 rfl (hQ _ _ ⟨rfl, (tk_3 q3)⟩)
      · omega
    · omega
set_option maxRecDepth 100000 in
set_option maxHeartbeats 4000000 in
theorem c_X2_take0 {g : GG} {h : HH} {σ : SG} (W : WF σ) (C : RC (h 2) σ) {c : Nat} (hc : c < 3) : CnV mX2_take g [vr 18, vr 1, vi (c : Int), vi 0] h (fun h' => TKh σ c 0 h h') := by
  refine cn_q (lv := [vr 18, vr 1, vi (c : Int), vi 0, vx]) tX2_take.1 rfl rfl (fun hR Q hQ => ?_)
  have w1 := W.1
  have w2 := W.2.1
  have w3 := W.2.2.1
  refine z_aload_n dX2_take_0 rfl ?_
  refine z_aload_n dX2_take_1 rfl ?_
  refine z_iload_n dX2_take_2 rfl ?_
  refine z_callV_V (M := mX2_take) [_, _] tX2_loadChain kX2_50 dX2_take_3 ⟨by decide, rfl, _, _, rfl⟩ ⟨by decide, by decide⟩ rfl (Nat.le_of_ble_eq_true rfl) rfl (c_X2_loadChain W C hc) (fun h3 q3 => ?_)
  have Mc : MC h3 σ c := ⟨q3.2.1, fun e he => ⟨(q3.2.2.2 e he).2.1, (q3.2.2.2 e he).2.2⟩⟩
  have G3 := q3.gs
  have C3 := G3.rc C
  refine z_iload_n dX2_take_6 rfl ?_
  refine z_if_eq 15 dX2_take_7 (by decide) (by omega) (fun c7 => ?_) (fun c7 => ?_)
  · refine z_aload_n dX2_take_15 rfl ?_
    refine z_aload_n dX2_take_16 rfl ?_
    refine z_iload_n dX2_take_17 rfl ?_
    refine z_callV_V (M := mX2_take) [_, _] tX2_loadRays kX2_54 dX2_take_18 ⟨by decide, rfl, _, _, rfl⟩ ⟨by decide, by decide⟩ rfl (Nat.le_of_ble_eq_true rfl) rfl (c_X2_loadRays0 W C3 Mc.1) (fun h18 q18 => ?_)
    have M18 := Mc.ry q18
    have G18 := G3.tr q18.gs
    have L18 := Mc.ld q18
    refine z_aload_n dX2_take_21 rfl ?_
    refine z_callV_V (M := mX2_take) [] tX2_castShadow kX2_57 dX2_take_22 ⟨by decide, rfl, _, _, rfl⟩ ⟨by decide, by decide⟩ rfl (Nat.le_of_ble_eq_true rfl) rfl (c_X2_castShadow L18 (by omega) w2 (msr_p W) (hn_F W hc) (hx_F W hc) (hg_F W hc) (hd_F63 W c) (fun r e hr he => by have := ent2_r W hr (i := e); show (ent2 σ e r).natAbs ≤ 4; omega)) (fun h22 q22 => ?_)
    obtain ⟨S, d, y, a1, a2, a3, a4, a5, a6⟩ := cst_0 W q22
    have M22 := M18.cs q22
    have G22 := G18.tr q22.gs
    have dp := pw_F W S
    refine z_iconst dX2_take_25 ?_
    refine z_istore dX2_take_26 (by decide) rfl ?_
    have loop28 : ∀ (nL9 : Nat) (i : Nat), (i ≤ sE σ) → sE σ - i < nL9 → Z mX2_take g 28 [vr 18, vr 1, vi (c : Int), vi 0, vi (i : Int)] [] (setc h22 19 (shf (h22 19) (h22 34) i)) Q := by
      intro nL9
      induction nL9 with
      | zero => intro i hi hnL9; exact absurd hnL9 (Nat.not_lt_zero _)
      | succ nL9 ih28 =>
        intro i hi hnL9
        refine z_iload dX2_take_28 rfl ?_
        refine z_aload_n dX2_take_30 rfl ?_
        refine z_getI fX2_19 dX2_take_31 (by decide) rfl rfl (fun r31 => ?_)
        rw [show (setc h22 19 (shf (h22 19) (h22 34) i)) 18 2 = sE σ from by rw [setc_ne _ _ (by decide)]; exact M22.1]
        refine z_icmp_ge 57 dX2_take_34 (by decide) (by omega) (by omega) (fun c34 => ?_) (fun c34 => ?_)
        · refine z_aload_n dX2_take_57 rfl ?_
          refine z_aload_n dX2_take_58 rfl ?_
          refine z_getJ fX2_43 dX2_take_59 (by decide) rfl rfl (fun r59 => ?_)
          rw [show (setc h22 19 (shf (h22 19) (h22 34) i)) 18 9 = d from by rw [setc_ne _ _ (by decide)]; exact a5]
          refine z_putJ pX2_15 dX2_take_62 (by decide) rfl rfl (by omega) ?_
          refine z_iload_n dX2_take_65 rfl ?_
          refine z_iconst dX2_take_66 ?_
          refine z_icmp_ne 98 dX2_take_67 (by decide) (by omega) (by omega) (fun c67 => ?_) (fun c67 => ?_)
          · exact z_return dX2_take_98 rfl (hQ _ _ ⟨rfl, (by rw [show i = sE σ from by omega]; exact tk_01 G22 M22 a4 a1 (by omega) a6)⟩)
          · omega
        · refine z_aload_n dX2_take_37 rfl ?_
          refine z_getR fX2_9 dX2_take_38 (by decide) rfl rfl ?_
          refine z_iload dX2_take_41 rfl ?_
          refine z_aload_n dX2_take_43 rfl ?_
          refine z_getR fX2_40 dX2_take_44 (by decide) rfl rfl ?_
          refine z_iload dX2_take_47 rfl ?_
          refine z_laload dX2_take_49 (by decide) rfl (by omega) (by omega) (by first | decide | omega) (fun r49 => ?_)
          rw [show (setc h22 19 (shf (h22 19) (h22 34) i)) 34 (i : Int).toNat = h22 34 i from by rw [setc_ne _ _ (by decide)]; rfl]
          have r49 : R64 (h22 34 i) := by
            rw [show (setc h22 19 (shf (h22 19) (h22 34) i)) 34 (i : Int).toNat = h22 34 i from by rw [setc_ne _ _ (by decide)]; rfl] at r49
            exact r49
          refine z_lastore dX2_take_50 (by decide) rfl (by omega) (by omega) (by first | decide | omega) (by omega) ?_
          refine z_iinc dX2_take_51 rfl (by decide) rfl ?_
          refine z_goto 28 dX2_take_54 (by decide) ?_
          rw [cpf _ _ (by omega)]
          exact ih28 (i + 1) (by omega) (by omega)
    have x0 := loop28 _ 0 (by omega) (Nat.lt_succ_self _)
    rw [shf_0, setc_self] at x0
    exact x0
  · omega
set_option maxRecDepth 100000 in
set_option maxHeartbeats 4000000 in
theorem c_X2_take1 {g : GG} {h : HH} {σ : SG} (W : WF σ) (C : RC (h 2) σ) {c : Nat} (hc : c < 3) : CnV mX2_take g [vr 18, vr 1, vi (c : Int), vi 1] h (fun h' => TKh σ c 1 h h') := by
  refine cn_q (lv := [vr 18, vr 1, vi (c : Int), vi 1, vx]) tX2_take.1 rfl rfl (fun hR Q hQ => ?_)
  have w1 := W.1
  have w2 := W.2.1
  have w3 := W.2.2.1
  refine z_aload_n dX2_take_0 rfl ?_
  refine z_aload_n dX2_take_1 rfl ?_
  refine z_iload_n dX2_take_2 rfl ?_
  refine z_callV_V (M := mX2_take) [_, _] tX2_loadChain kX2_50 dX2_take_3 ⟨by decide, rfl, _, _, rfl⟩ ⟨by decide, by decide⟩ rfl (Nat.le_of_ble_eq_true rfl) rfl (c_X2_loadChain W C hc) (fun h3 q3 => ?_)
  have Mc : MC h3 σ c := ⟨q3.2.1, fun e he => ⟨(q3.2.2.2 e he).2.1, (q3.2.2.2 e he).2.2⟩⟩
  have G3 := q3.gs
  have C3 := G3.rc C
  refine z_iload_n dX2_take_6 rfl ?_
  refine z_if_eq 15 dX2_take_7 (by decide) (by omega) (fun c7 => ?_) (fun c7 => ?_)
  · omega
  · refine z_iload_n dX2_take_10 rfl ?_
    refine z_iconst dX2_take_11 ?_
    refine z_icmp_ne 65 dX2_take_12 (by decide) (by omega) (by omega) (fun c12 => ?_) (fun c12 => ?_)
    · omega
    · refine z_aload_n dX2_take_15 rfl ?_
      refine z_aload_n dX2_take_16 rfl ?_
      refine z_iload_n dX2_take_17 rfl ?_
      refine z_callV_V (M := mX2_take) [_, _] tX2_loadRays kX2_54 dX2_take_18 ⟨by decide, rfl, _, _, rfl⟩ ⟨by decide, by decide⟩ rfl (Nat.le_of_ble_eq_true rfl) rfl (c_X2_loadRays1 W C3 Mc.1) (fun h18 q18 => ?_)
      have M18 := Mc.ry q18
      have G18 := G3.tr q18.gs
      have L18 := Mc.ld q18
      refine z_aload_n dX2_take_21 rfl ?_
      refine z_callV_V (M := mX2_take) [] tX2_castShadow kX2_57 dX2_take_22 ⟨by decide, rfl, _, _, rfl⟩ ⟨by decide, by decide⟩ rfl (Nat.le_of_ble_eq_true rfl) rfl (c_X2_castShadow L18 (by omega) w2 (msr_p W) (hn_D W hc) (hx_D W hc) (hg_D W hc) (hd_D63 W c) (fun r e hr he => by have := ryD_r W he r; omega)) (fun h22 q22 => ?_)
      obtain ⟨S, d, y, a1, a2, a3, a4, a5, a6⟩ := cst_1 W q22
      have M22 := M18.cs q22
      have G22 := G18.tr q22.gs
      have dp := pw_D W S
      refine z_iconst dX2_take_25 ?_
      refine z_istore dX2_take_26 (by decide) rfl ?_
      have loop28 : ∀ (nL9 : Nat) (i : Nat), (i ≤ sE σ) → sE σ - i < nL9 → Z mX2_take g 28 [vr 18, vr 1, vi (c : Int), vi 1, vi (i : Int)] [] (setc h22 19 (shf (h22 19) (h22 34) i)) Q := by
        intro nL9
        induction nL9 with
        | zero => intro i hi hnL9; exact absurd hnL9 (Nat.not_lt_zero _)
        | succ nL9 ih28 =>
          intro i hi hnL9
          refine z_iload dX2_take_28 rfl ?_
          refine z_aload_n dX2_take_30 rfl ?_
          refine z_getI fX2_19 dX2_take_31 (by decide) rfl rfl (fun r31 => ?_)
          rw [show (setc h22 19 (shf (h22 19) (h22 34) i)) 18 2 = sE σ from by rw [setc_ne _ _ (by decide)]; exact M22.1]
          refine z_icmp_ge 57 dX2_take_34 (by decide) (by omega) (by omega) (fun c34 => ?_) (fun c34 => ?_)
          · refine z_aload_n dX2_take_57 rfl ?_
            refine z_aload_n dX2_take_58 rfl ?_
            refine z_getJ fX2_43 dX2_take_59 (by decide) rfl rfl (fun r59 => ?_)
            rw [show (setc h22 19 (shf (h22 19) (h22 34) i)) 18 9 = d from by rw [setc_ne _ _ (by decide)]; exact a5]
            refine z_putJ pX2_15 dX2_take_62 (by decide) rfl rfl (by omega) ?_
            refine z_iload_n dX2_take_65 rfl ?_
            refine z_iconst dX2_take_66 ?_
            refine z_icmp_ne 98 dX2_take_67 (by decide) (by omega) (by omega) (fun c67 => ?_) (fun c67 => ?_)
            · exact z_return dX2_take_98 rfl (hQ _ _ ⟨rfl, (by rw [show i = sE σ from by omega]; exact tk_01 G22 M22 a4 a1 (by omega) a6)⟩)
            · omega
          · refine z_aload_n dX2_take_37 rfl ?_
            refine z_getR fX2_9 dX2_take_38 (by decide) rfl rfl ?_
            refine z_iload dX2_take_41 rfl ?_
            refine z_aload_n dX2_take_43 rfl ?_
            refine z_getR fX2_40 dX2_take_44 (by decide) rfl rfl ?_
            refine z_iload dX2_take_47 rfl ?_
            refine z_laload dX2_take_49 (by decide) rfl (by omega) (by omega) (by first | decide | omega) (fun r49 => ?_)
            rw [show (setc h22 19 (shf (h22 19) (h22 34) i)) 34 (i : Int).toNat = h22 34 i from by rw [setc_ne _ _ (by decide)]; rfl]
            have r49 : R64 (h22 34 i) := by
              rw [show (setc h22 19 (shf (h22 19) (h22 34) i)) 34 (i : Int).toNat = h22 34 i from by rw [setc_ne _ _ (by decide)]; rfl] at r49
              exact r49
            refine z_lastore dX2_take_50 (by decide) rfl (by omega) (by omega) (by first | decide | omega) (by omega) ?_
            refine z_iinc dX2_take_51 rfl (by decide) rfl ?_
            refine z_goto 28 dX2_take_54 (by decide) ?_
            rw [cpf _ _ (by omega)]
            exact ih28 (i + 1) (by omega) (by omega)
      have x0 := loop28 _ 0 (by omega) (Nat.lt_succ_self _)
      rw [shf_0, setc_self] at x0
      exact x0
set_option maxRecDepth 100000 in
set_option maxHeartbeats 4000000 in
theorem c_X2_take2 {g : GG} {h : HH} {σ : SG} (W : WF σ) (C : RC (h 2) σ) {c : Nat} (hc : c < 3) : CnV mX2_take g [vr 18, vr 1, vi (c : Int), vi 2] h (fun h' => TKh σ c 2 h h') := by
  refine cn_q (lv := [vr 18, vr 1, vi (c : Int), vi 2, vx]) tX2_take.1 rfl rfl (fun hR Q hQ => ?_)
  have w1 := W.1
  have w2 := W.2.1
  have w3 := W.2.2.1
  refine z_aload_n dX2_take_0 rfl ?_
  refine z_aload_n dX2_take_1 rfl ?_
  refine z_iload_n dX2_take_2 rfl ?_
  refine z_callV_V (M := mX2_take) [_, _] tX2_loadChain kX2_50 dX2_take_3 ⟨by decide, rfl, _, _, rfl⟩ ⟨by decide, by decide⟩ rfl (Nat.le_of_ble_eq_true rfl) rfl (c_X2_loadChain W C hc) (fun h3 q3 => ?_)
  have Mc : MC h3 σ c := ⟨q3.2.1, fun e he => ⟨(q3.2.2.2 e he).2.1, (q3.2.2.2 e he).2.2⟩⟩
  have G3 := q3.gs
  have C3 := G3.rc C
  refine z_iload_n dX2_take_6 rfl ?_
  refine z_if_eq 15 dX2_take_7 (by decide) (by omega) (fun c7 => ?_) (fun c7 => ?_)
  · omega
  · refine z_iload_n dX2_take_10 rfl ?_
    refine z_iconst dX2_take_11 ?_
    refine z_icmp_ne 65 dX2_take_12 (by decide) (by omega) (by omega) (fun c12 => ?_) (fun c12 => ?_)
    · refine z_iload_n dX2_take_65 rfl ?_
      refine z_iconst dX2_take_66 ?_
      refine z_icmp_ne 98 dX2_take_67 (by decide) (by omega) (by omega) (fun c67 => ?_) (fun c67 => ?_)
      · omega
      · refine z_aload_n dX2_take_70 rfl ?_
        refine z_aload_n dX2_take_71 rfl ?_
        refine z_iconst dX2_take_72 ?_
        refine z_callV_V (M := mX2_take) [_, _] tX2_loadRays kX2_54 dX2_take_73 ⟨by decide, rfl, _, _, rfl⟩ ⟨by decide, by decide⟩ rfl (Nat.le_of_ble_eq_true rfl) rfl (c_X2_loadRays0 W C3 Mc.1) (fun h73 q73 => ?_)
        have M73 := Mc.ry q73
        have G73 := G3.tr q73.gs
        have L73 := Mc.ld q73
        refine z_aload_n dX2_take_76 rfl ?_
        refine z_callV_V (M := mX2_take) [] tX2_castShadow kX2_57 dX2_take_77 ⟨by decide, rfl, _, _, rfl⟩ ⟨by decide, by decide⟩ rfl (Nat.le_of_ble_eq_true rfl) rfl (c_X2_castShadow L73 (by omega) w2 (msr_p W) (hn_F W hc) (hx_F W hc) (hg_F W hc) (hd_F63 W c) (fun r e hr he => by have := ent2_r W hr (i := e); show (ent2 σ e r).natAbs ≤ 4; omega)) (fun h77 q77 => ?_)
        obtain ⟨S, d0, y0, a1, a2, a3, a4, a5, a6⟩ := cst_0 W q77
        have M77 := M73.cs q77
        have G77 := G73.tr q77.gs
        have dp := pw_F40 W S
        have b77 : h77 18 1 = 1 := by rw [q77.1.2 1 (by decide), q73.2.1 1 (by decide)]; exact q3.2.2.1
        have t77 : ∀ e, e < sE σ → h77 19 e = sch σ c e := fun e he => by rw [q77.1.1 19 (by decide) (by decide), q73.1 19 (by decide) (by decide)]; exact (q3.2.2.2 e he).1
        have tq := tk_q0 W hc a4 (by omega)
        refine z_aload_n dX2_take_80 rfl ?_
        refine z_callV_V (M := mX2_take) [] tX2_takeShadowAway kX2_60 dX2_take_81 ⟨by decide, rfl, _, _, rfl⟩ ⟨by decide, by decide⟩ rfl (Nat.le_of_ble_eq_true rfl) rfl (c_X2_takeShadowAway (E := sE σ) M77.1 w2 (d := d0) (b := 1) a5 b77 (fun e he => by rw [t77 e he, a6 e he]; exact tq e he) (by omega)) (fun h81 q81 => ?_)
        have e2 : h81 2 = h77 2 := by rw [q81, up_ne _ _ _ (by decide), setc_ne _ _ (by decide)]
        have C81 : RC (h81 2) σ := by rw [e2]; exact G77.rc C
        have M81 : MC h81 σ c := M77.fr (by rw [q81, up_o _ _ (by decide), setc_ne _ _ (by decide)]) (by rw [q81, up_ne _ _ _ (by decide), setc_ne _ _ (by decide)]) (by rw [q81, up_ne _ _ _ (by decide), setc_ne _ _ (by decide)])
        have G81 : GS h h81 := fun k hk => by rw [q81, up_ne _ _ _ (by omega), setc_ne _ _ (by omega)]; exact G77 k hk
        have b81 : h81 18 1 = 1 * d0 := by rw [q81, up_same]
        have t81 : ∀ e, e < sE σ → h81 19 e = sch σ c e * d0 - y0 e * 1 := fun e he => by
          rw [q81, up_ne _ _ _ (by decide), setc_at]
          unfold tkf
          rw [if_pos he, t77 e he, a6 e he]
        refine z_aload_n dX2_take_84 rfl ?_
        refine z_aload_n dX2_take_85 rfl ?_
        refine z_iconst dX2_take_86 ?_
        refine z_callV_V (M := mX2_take) [_, _] tX2_loadRays kX2_54 dX2_take_87 ⟨by decide, rfl, _, _, rfl⟩ ⟨by decide, by decide⟩ rfl (Nat.le_of_ble_eq_true rfl) rfl (c_X2_loadRays1 W C81 M81.1) (fun h87 q87 => ?_)
        have M87 := M81.ry q87
        have G87 := G81.tr q87.gs
        have L87 := M81.ld q87
        refine z_aload_n dX2_take_90 rfl ?_
        refine z_callV_V (M := mX2_take) [] tX2_castShadow kX2_57 dX2_take_91 ⟨by decide, rfl, _, _, rfl⟩ ⟨by decide, by decide⟩ rfl (Nat.le_of_ble_eq_true rfl) rfl (c_X2_castShadow L87 (by omega) w2 (msr_p W) (hn_D W hc) (hx_D W hc) (hg_D W hc) (hd_D63 W c) (fun r e hr he => by have := ryD_r W he r; omega)) (fun h91 q91 => ?_)
        obtain ⟨T, d1, y1, z1, z2, z3, z4, z5, z6⟩ := cst_1 W q91
        have M91 := M87.cs q91
        have G91 := G87.tr q91.gs
        have dd := tw_b W a2 z2 a3 z3
        have b91 : h91 18 1 = 1 * d0 := by rw [q91.1.2 1 (by decide), q87.2.1 1 (by decide)]; exact b81
        have t91 : ∀ e, e < sE σ → h91 19 e = sch σ c e * d0 - y0 e * 1 := fun e he => by rw [q91.1.1 19 (by decide) (by decide), q87.1 19 (by decide) (by decide)]; exact t81 e he
        have tq2 := tk_q1 W hc a4 z4 dd
        refine z_aload_n dX2_take_94 rfl ?_
        refine z_callV_V (M := mX2_take) [] tX2_takeShadowAway kX2_60 dX2_take_95 ⟨by decide, rfl, _, _, rfl⟩ ⟨by decide, by decide⟩ rfl (Nat.le_of_ble_eq_true rfl) rfl (c_X2_takeShadowAway (E := sE σ) M91.1 w2 (d := d1) (b := 1 * d0) z5 b91 (fun e he => by rw [t91 e he, z6 e he]; exact tq2.1 e he) tq2.2) (fun h95 q95 => ?_)
        exact z_return dX2_take_98 rfl (hQ _ _ ⟨rfl, (by rw [q95]; exact tk_2 G91 M91 a4 z4 a1 z1 dd t91 z6)⟩)
    · omega

set_option maxRecDepth 100000 in
set_option maxHeartbeats 4000000 in
theorem c_L_spelled {g : GG} {h : HH} {σ : SG} (W : WF σ) (Zc : ZC (h 47) σ) {e : Nat} (he : e < 6) : CeI mL_spelled g [vr 47, vi (e : Int)] h (bi (sewn σ e)) := by
  refine cn_q (lv := [vr 47, vi (e : Int), vx, vx, vx]) tL_spelled.1 rfl rfl (fun hR Q hQ => ?_)
  have w1 := W.1
  have w2 := W.2.1
  have w3 := W.2.2.1
  refine z_iconst dL_spelled_0 ?_
  refine z_istore_n dL_spelled_1 (by decide) rfl ?_
  refine z_iconst dL_spelled_2 ?_
  refine z_istore_n dL_spelled_3 (by decide) rfl ?_
  have loop4 : ∀ (nL9 : Nat) (i : Nat), (i ≤ 4 * sF σ) → 4 * sF σ - i < nL9 → Z mL_spelled g 4 [vr 47, vi (e : Int), vi (bi (spq σ e i)), vi (i : Int), vx] [] h Q := by
    intro nL9
    induction nL9 with
    | zero => intro i hi hnL9; exact absurd hnL9 (Nat.not_lt_zero _)
    | succ nL9 ih4 =>
      intro i hi hnL9
      refine z_iload_n dL_spelled_4 rfl ?_
      refine z_iconst dL_spelled_5 ?_
      refine z_aload_n dL_spelled_6 rfl ?_
      refine z_iconst dL_spelled_7 ?_
      refine z_iaload dL_spelled_8 (by decide) rfl (by omega) (by omega) (by first | decide | omega) (fun r8 => ?_)
      rw [show h 47 (Int.toNat 2) = sF σ from Zc.2.2.1]
      refine z_imul dL_spelled_9 ?_
      refine z_icmp_ge 80 dL_spelled_10 (by decide) (by omega) (by omega) (fun c10 => ?_) (fun c10 => ?_)
      · refine z_iload_n dL_spelled_80 rfl ?_
        exact z_zreturn dL_spelled_81 rfl (by first | exact Or.inl rfl | exact Or.inr rfl | exact bi_01 _ | omega) (hQ _ _ ⟨_, rfl, (by rw [show i = 4 * sF σ by omega]; exact bi_c (spq_all W e)), rfl⟩)
      · have hk4 : i / 4 < sF σ := by omega
        have kz : (0 : Int) ≤ ((i / 4 : Nat) : Int) := Int.natCast_nonneg _
        have k73 : ∀ b : Int, b = bi (spq σ e (i + 1)) → Z mL_spelled g 73 [vr 47, vi (e : Int), vi (bi (spq σ e i)), vi (i : Int), vx] [vi b] h Q := by
          intro b hb
          rw [hb]
          refine z_istore_n dL_spelled_73 (by decide) rfl ?_
          refine z_iinc dL_spelled_74 rfl (by decide) rfl ?_
          refine z_goto 4 dL_spelled_77 (by decide) ?_
          refine z_forget 4 ?_
          rw [show (i : Int) + 1 = ((i + 1 : Nat) : Int) by omega]
          exact ih4 (i + 1) (by omega) (by omega)
        refine z_aload_n dL_spelled_13 rfl ?_
        refine z_bipush dL_spelled_14 (by decide) ?_
        refine z_bipush dL_spelled_16 (by decide) ?_
        refine z_iload_n dL_spelled_18 rfl ?_
        refine z_iconst dL_spelled_19 ?_
        refine z_idiv dL_spelled_20 (by omega) (by omega) (by omega) ?_
        rw [show (i : Int).tdiv 4 = ((i / 4 : Nat) : Int) from rfl]
        refine z_imul dL_spelled_21 ?_
        refine z_iadd dL_spelled_22 ?_
        refine z_iload_n dL_spelled_23 rfl ?_
        refine z_iconst dL_spelled_24 ?_
        refine z_irem dL_spelled_25 (by omega) (by omega) (by omega) ?_
        rw [show (i : Int).tmod 4 = ((i % 4 : Nat) : Int) from rfl]
        refine z_iadd dL_spelled_26 ?_
        refine z_iaload dL_spelled_27 (by decide) rfl (by omega) (by omega) (by first | decide | omega) (fun r27 => ?_)
        refine z_istore dL_spelled_28 (by decide) rfl ?_
        refine z_iload_n dL_spelled_30 rfl ?_
        refine z_if_ne 68 dL_spelled_31 (by decide) (bi_r _) (fun c31 => ?_) (fun c31 => ?_)
        · have c31 := bi_ne.mp c31
          refine z_iconst dL_spelled_68 ?_
          refine z_goto 73 dL_spelled_69 (by decide) ?_
          refine z_forget 4 ?_
          exact k73 1 (bi_t (spq_t c31))
        · have c31 := bi_eq.mp c31
          refine z_iload_n dL_spelled_34 rfl ?_
          refine z_iconst dL_spelled_35 ?_
          refine z_irem dL_spelled_36 (by omega) (by omega) (by omega) ?_
          rw [show (i : Int).tmod 4 = ((i % 4 : Nat) : Int) from rfl]
          refine z_aload_n dL_spelled_37 rfl ?_
          refine z_bipush dL_spelled_38 (by decide) ?_
          refine z_bipush dL_spelled_40 (by decide) ?_
          refine z_iload_n dL_spelled_42 rfl ?_
          refine z_iconst dL_spelled_43 ?_
          refine z_idiv dL_spelled_44 (by omega) (by omega) (by omega) ?_
          rw [show (i : Int).tdiv 4 = ((i / 4 : Nat) : Int) from rfl]
          refine z_imul dL_spelled_45 ?_
          refine z_iadd dL_spelled_46 ?_
          refine z_iaload dL_spelled_47 (by decide) rfl (by omega) (by omega) (by first | decide | omega) (fun r47 => ?_)
          rw [zc_wl Zc hk4 (z := 23 + 6 * ((i / 4 : Nat) : Int)) rfl]
          have x4 := (W.2.2.2.2.1 (i / 4) hk4).2.2.2.1
          have x5 := (W.2.2.2.2.1 (i / 4) hk4).2.2.2.2.1
          refine z_icmp_ge 72 dL_spelled_48 (by decide) (by omega) (by omega) (fun c48 => ?_) (fun c48 => ?_)
          · have hx : ¬ i % 4 < swl σ (i / 4) := by omega
            refine z_iconst dL_spelled_72 ?_
            refine z_forget 4 ?_
            exact k73 0 (bi_f (spq_n c31 (fun q => hx q.1)))
          · have hx : i % 4 < swl σ (i / 4) := by omega
            rw [zc_lt Zc hk4 hx (z := 24 + 6 * ((i / 4 : Nat) : Int) + ((i % 4 : Nat) : Int)) rfl]
            have l0 := ltr_r (ssg σ (i / 4) (i % 4)) (show sle σ (i / 4) (i % 4) < 6 by have := x5 _ hx; omega)
            refine z_iload dL_spelled_51 rfl ?_
            refine z_iload_n dL_spelled_53 rfl ?_
            refine z_iconst dL_spelled_54 ?_
            refine z_iadd dL_spelled_55 ?_
            refine z_icmp_eq 68 dL_spelled_56 (by decide) (by omega) (by omega) (fun c56 => ?_) (fun c56 => ?_)
            · refine z_iconst dL_spelled_68 ?_
              refine z_goto 73 dL_spelled_69 (by decide) ?_
              refine z_forget 4 ?_
              exact k73 1 (bi_t (spq_y hx (ltr_p.mp c56).1))
            · refine z_iload dL_spelled_59 rfl ?_
              refine z_iload_n dL_spelled_61 rfl ?_
              refine z_ineg dL_spelled_62 ?_
              refine z_iconst dL_spelled_63 ?_
              refine z_isub dL_spelled_64 ?_
              refine z_icmp_ne 72 dL_spelled_65 (by decide) (by omega) (by omega) (fun c65 => ?_) (fun c65 => ?_)
              · refine z_iconst dL_spelled_72 ?_
                refine z_forget 4 ?_
                exact k73 0 (bi_f (spq_n c31 (fun q => by
                  cases hb : ssg σ (i / 4) (i % 4) with
                  | true => exact c65 (ltr_n.mpr ⟨q.2, hb⟩)
                  | false => exact c56 (ltr_p.mpr ⟨q.2, hb⟩))))
              · refine z_iconst dL_spelled_68 ?_
                refine z_goto 73 dL_spelled_69 (by decide) ?_
                refine z_forget 4 ?_
                exact k73 1 (bi_t (spq_y hx (ltr_n.mp c65).1))
  have e9 := loop4 _ 0 (Nat.zero_le _) (Nat.lt_succ_self _)
  rw [show bi (spq σ e 0) = 0 from (bi_f fun ⟨q, hq, _⟩ => absurd hq (Nat.not_lt_zero q)).symm] at e9
  exact e9
set_option maxRecDepth 100000 in
set_option maxHeartbeats 4000000 in
theorem c_L_goneF {g : GG} {h : HH} {σ : SG} (W : WF σ) (Zc : ZC (h 47) σ) (hz : ZB (h 47)) {d : Nat} (hd : d < sF σ) : CnI mL_gone g [vr 47, vr 48, vi 2, vi (d : Int)] h (fun z h' => z = ((sF σ - 1 : Nat) : Int) ∧ ZC (h' 47) (dropF σ d) ∧ ZB (h' 47) ∧ h' 47 3 = h 47 3 ∧ ∀ a, a ≠ 47 → h' a = h a) := by
  refine cn_q (lv := [vr 47, vr 48, vi 2, vi (d : Int), vx, vx]) tL_gone.1 rfl rfl (fun hR Q hQ => ?_)
  have w1 := W.1
  have w2 := W.2.1
  have w3 := W.2.2.1
  refine z_iload_n dL_gone_0 rfl ?_
  refine z_iconst dL_gone_1 ?_
  refine z_icmp_ne 49 dL_gone_2 (by decide) (by omega) (by omega) (fun c2 => ?_) (fun c2 => ?_)
  · omega
  · refine z_bipush dL_gone_5 (by decide) ?_
    refine z_bipush dL_gone_7 (by decide) ?_
    refine z_iload_n dL_gone_9 rfl ?_
    refine z_imul dL_gone_10 ?_
    refine z_iadd dL_gone_11 ?_
    refine z_istore dL_gone_12 (by decide) rfl ?_
    have loop14 : ∀ (nL9 : Nat) (h1 : HH) (i : Nat), (22 + 6 * d ≤ i) → (i ≤ 40) → (h1 47 = gF d i (h 47)) → (∀ a, a ≠ 47 → h1 a = h a) → 40 - i < nL9 → Z mL_gone g 14 [vr 47, vr 48, vi 2, vi (d : Int), vi (i : Int), vx] [] h1 Q := by
      intro nL9
      induction nL9 with
      | zero => intro h1 i hi1 hi2 E1 F1 hnL9; exact absurd hnL9 (Nat.not_lt_zero _)
      | succ nL9 ih14 =>
        intro h1 i hi1 hi2 E1 F1 hnL9
        refine z_iload dL_gone_14 rfl ?_
        refine z_bipush dL_gone_16 (by decide) ?_
        refine z_icmp_ge 38 dL_gone_18 (by decide) (by omega) (by omega) (fun c18 => ?_) (fun c18 => ?_)
        · refine z_aload_n dL_gone_38 rfl ?_
          refine z_iconst dL_gone_39 ?_
          refine z_dup2 dL_gone_40 rfl rfl ?_
          refine z_iaload dL_gone_41 (by decide) rfl (by omega) (by omega) (by first | decide | omega) (fun r41 => ?_)
          rw [show h1 47 (Int.toNat 2) = sF σ by rw [show h1 47 (Int.toNat 2) = gF d i (h 47) 2 from congrFun E1 2, gF_lo _ (by omega)]; exact Zc.2.2.1]
          refine z_iconst dL_gone_42 ?_
          refine z_isub dL_gone_43 ?_
          refine z_iastore dL_gone_44 (by decide) rfl (by omega) (by omega) (by first | decide | omega) (by omega) ?_
          refine z_aload_n dL_gone_45 rfl ?_
          refine z_iconst dL_gone_46 ?_
          refine z_iaload dL_gone_47 (by decide) rfl (by omega) (by omega) (by first | decide | omega) (fun r47 => ?_)
          exact z_ireturn dL_gone_48 rfl (hQ _ _ ⟨_, rfl, (by
    have e4 : up h1 47 (Int.toNat 2) ((sF σ : Int) - 1) 47 = fun j => if j = 2 then (sF σ : Int) - 1 else gF d 40 (h 47) j := by
      rw [up_at, E1, show i = 40 by omega]; rfl
    refine ⟨?_, ?_, ?_, ?_, fun a ha => by rw [up_ne _ _ _ ha]; exact F1 a ha⟩
    · rw [e4]; show (if 2 = 2 then (sF σ : Int) - 1 else _) = _; rw [if_pos rfl]; omega
    · rw [e4]; exact zc_dropF W Zc hd
    · rw [e4]; exact ZB_up (gF_b hz (by decide)) (by omega)
    · rw [e4]; show (if 3 = 2 then (sF σ : Int) - 1 else gF d 40 (h 47) 3) = _; rw [if_neg (by decide), gF_lo _ (by omega)])⟩)
        · refine z_aload_n dL_gone_21 rfl ?_
          refine z_iload dL_gone_22 rfl ?_
          refine z_aload_n dL_gone_24 rfl ?_
          refine z_iload dL_gone_25 rfl ?_
          refine z_bipush dL_gone_27 (by decide) ?_
          refine z_iadd dL_gone_29 ?_
          refine z_iaload dL_gone_30 (by decide) rfl (by omega) (by omega) (by first | decide | omega) (fun r30 => ?_)
          rw [show ((i : Int) + 6).toNat = i + 6 by omega]
          have zb := gF_b (d := d) (i := i) hz hi2 (i + 6) (by omega)
          rw [show h1 47 (i + 6) = gF d i (h 47) (i + 6) by rw [E1]]
          refine z_iastore dL_gone_31 (by decide) rfl (by omega) (by omega) (by first | decide | omega) (by omega) ?_
          rw [show ((i : Int)).toNat = i by omega]
          refine z_iinc dL_gone_32 rfl (by decide) rfl ?_
          refine z_goto 14 dL_gone_35 (by decide) ?_
          rw [show (i : Int) + 1 = ((i + 1 : Nat) : Int) by omega]
          exact ih14 _ (i + 1) (by omega) (by omega) (by rw [up_at, E1, ← gF_s (h 47) hi1]) (fun a ha => by rw [up_ne _ _ _ ha]; exact F1 a ha) (by omega)
    exact loop14 _ h (22 + 6 * d) (Nat.le_refl _) (by omega) (by funext j; exact (if_neg (by omega)).symm) (fun _ _ => rfl) (Nat.lt_succ_self _)
set_option maxRecDepth 100000 in
set_option maxHeartbeats 4000000 in
theorem c_L_goneE {g : GG} {h : HH} {σ : SG} (W : WF σ) (Zc : ZC (h 47) σ) (hz : ZB (h 47)) (Cc : CC (h 48) σ) {d : Nat} (hd : d < sE σ) : CnI mL_gone g [vr 47, vr 48, vi 1, vi (d : Int)] h (fun z h' => z = ((sE σ - 1 : Nat) : Int) ∧ ZC (h' 47) (dropE σ d) ∧ CC (h' 48) (dropE σ d) ∧ ZB (h' 47) ∧ h' 47 3 = h 47 3 ∧ ∀ a, a ≠ 47 → a ≠ 48 → h' a = h a) := by
  refine cn_q (lv := [vr 47, vr 48, vi 1, vi (d : Int), vx, vx]) tL_gone.1 rfl rfl (fun hR Q hQ => ?_)
  have w1 := W.1
  have w2 := W.2.1
  have w3 := W.2.2.1
  refine z_iload_n dL_gone_0 rfl ?_
  refine z_iconst dL_gone_1 ?_
  refine z_icmp_ne 49 dL_gone_2 (by decide) (by omega) (by omega) (fun c2 => ?_) (fun c2 => ?_)
  · refine z_iconst dL_gone_49 ?_
    refine z_iconst dL_gone_50 ?_
    refine z_iload_n dL_gone_51 rfl ?_
    refine z_imul dL_gone_52 ?_
    refine z_iadd dL_gone_53 ?_
    refine z_istore dL_gone_54 (by decide) rfl ?_
    have loop56 : ∀ (nL9 : Nat) (h1 : HH) (i : Nat), (4 + 3 * d ≤ i) → (i ≤ 19) → (h1 47 = gE d i (h 47)) → (∀ a, a ≠ 47 → h1 a = h a) → 19 - i < nL9 → Z mL_gone g 56 [vr 47, vr 48, vi 1, vi (d : Int), vi (i : Int), vx] [] h1 Q := by
      intro nL9
      induction nL9 with
      | zero => intro h1 i hi1 hi2 E1 F1 hnL9; exact absurd hnL9 (Nat.not_lt_zero _)
      | succ nL9 ih56 =>
        intro h1 i hi1 hi2 E1 F1 hnL9
        refine z_iload dL_gone_56 rfl ?_
        refine z_bipush dL_gone_58 (by decide) ?_
        refine z_icmp_ge 79 dL_gone_60 (by decide) (by omega) (by omega) (fun c60 => ?_) (fun c60 => ?_)
        · refine z_iconst dL_gone_79 ?_
          refine z_istore dL_gone_80 (by decide) rfl ?_
          have loop82 : ∀ (nL9 : Nat) (h2 : HH) (i : Nat), (i ≤ 18) → (h2 48 = gC d i (h 48)) → (h2 47 = gE d 19 (h 47)) → (∀ a, a ≠ 47 → a ≠ 48 → h2 a = h a) → 18 - i < nL9 → Z mL_gone g 82 [vr 47, vr 48, vi 1, vi (d : Int), vi (i : Int), vx] [] h2 Q := by
            intro nL9
            induction nL9 with
            | zero => intro h2 i hi3 E2 Z2 F2 hnL9; exact absurd hnL9 (Nat.not_lt_zero _)
            | succ nL9 ih82 =>
              intro h2 i hi3 E2 Z2 F2 hnL9
              refine z_iload dL_gone_82 rfl ?_
              refine z_bipush dL_gone_84 (by decide) ?_
              refine z_icmp_ge 134 dL_gone_86 (by decide) (by omega) (by omega) (fun c86 => ?_) (fun c86 => ?_)
              · refine z_iconst dL_gone_134 ?_
                refine z_istore dL_gone_135 (by decide) rfl ?_
                have loop137 : ∀ (nL9 : Nat) (h3 : HH) (i : Nat), (i ≤ 4 * sF σ) → (h3 47 = gL d i (gE d 19 (h 47))) → (h3 48 = gC d 18 (h 48)) → (∀ a, a ≠ 47 → a ≠ 48 → h3 a = h a) → 4 * sF σ - i < nL9 → Z mL_gone g 137 [vr 47, vr 48, vi 1, vi (d : Int), vi (i : Int), vx] [] h3 Q := by
                  intro nL9
                  induction nL9 with
                  | zero => intro h3 i hi4 E3 C3 F3 hnL9; exact absurd hnL9 (Nat.not_lt_zero _)
                  | succ nL9 ih137 =>
                    intro h3 i hi4 E3 C3 F3 hnL9
                    refine z_iload dL_gone_137 rfl ?_
                    refine z_iconst dL_gone_139 ?_
                    refine z_aload_n dL_gone_140 rfl ?_
                    refine z_iconst dL_gone_141 ?_
                    refine z_iaload dL_gone_142 (by decide) rfl (by omega) (by omega) (by first | decide | omega) (fun r142 => ?_)
                    rw [show h3 47 (Int.toNat 2) = sF σ by rw [show h3 47 (Int.toNat 2) = gL d i (gE d 19 (h 47)) 2 from congrFun E3 2, gL_lo _ (by decide), gE_o _ (by omega)]; exact Zc.2.2.1]
                    refine z_imul dL_gone_143 ?_
                    refine z_icmp_ge 207 dL_gone_144 (by decide) (by omega) (by omega) (fun c144 => ?_) (fun c144 => ?_)
                    · refine z_aload_n dL_gone_207 rfl ?_
                      refine z_iconst dL_gone_208 ?_
                      refine z_dup2 dL_gone_209 rfl rfl ?_
                      refine z_iaload dL_gone_210 (by decide) rfl (by omega) (by omega) (by first | decide | omega) (fun r210 => ?_)
                      rw [show h3 47 (Int.toNat 1) = sE σ by rw [show h3 47 (Int.toNat 1) = gL d i (gE d 19 (h 47)) 1 from congrFun E3 1, gL_lo _ (by decide), gE_o _ (by omega)]; exact Zc.2.1]
                      refine z_iconst dL_gone_211 ?_
                      refine z_isub dL_gone_212 ?_
                      refine z_iastore dL_gone_213 (by decide) rfl (by omega) (by omega) (by first | decide | omega) (by omega) ?_
                      refine z_aload_n dL_gone_214 rfl ?_
                      refine z_iconst dL_gone_215 ?_
                      refine z_iaload dL_gone_216 (by decide) rfl (by omega) (by omega) (by first | decide | omega) (fun r216 => ?_)
                      exact z_ireturn dL_gone_217 rfl (hQ _ _ ⟨_, rfl, (by
    have e4 : up h3 47 (Int.toNat 1) ((sE σ : Int) - 1) 47 = fun j => if j = 1 then (sE σ : Int) - 1 else gL d (4 * sF σ) (gE d 19 (h 47)) j := by
      rw [up_at, E3, show i = 4 * sF σ by omega]; rfl
    refine ⟨?_, ?_, ?_, ?_, ?_, fun a h1 h2 => by rw [up_ne _ _ _ h1]; exact F3 a h1 h2⟩
    · rw [e4]; show (if 1 = 1 then (sE σ : Int) - 1 else _) = _; rw [if_pos rfl]; omega
    · rw [e4]; exact zc_dropE W Zc hd
    · rw [up_ne _ _ _ (by decide), C3]; exact cc_dropE W Cc hd
    · rw [e4]; exact ZB_up (gL_b (gE_b hz (by decide))) (by omega)
    · rw [e4]; show (if 3 = 1 then (sE σ : Int) - 1 else gL d (4 * sF σ) (gE d 19 (h 47)) 3) = _; rw [if_neg (by decide), gL_lo _ (by decide), gE_o _ (by omega)])⟩)
                    · have kz : (0 : Int) ≤ ((i / 4 : Nat) : Int) := Int.natCast_nonneg _
                      have e3v : h3 47 (24 + 6 * (i / 4) + i % 4) = gE d 19 (h 47) (24 + 6 * (i / 4) + i % 4) := by rw [E3, gL_at]
                      have zb := gE_b (d := d) hz (Nat.le_refl 19) (24 + 6 * (i / 4) + i % 4) (by omega)
                      refine z_bipush dL_gone_147 (by decide) ?_
                      refine z_bipush dL_gone_149 (by decide) ?_
                      refine z_iload dL_gone_151 rfl ?_
                      refine z_iconst dL_gone_153 ?_
                      refine z_idiv dL_gone_154 (by omega) (by omega) (by omega) ?_
                      rw [show (i : Int).tdiv 4 = ((i / 4 : Nat) : Int) from rfl]
                      refine z_imul dL_gone_155 ?_
                      refine z_iadd dL_gone_156 ?_
                      refine z_iload dL_gone_157 rfl ?_
                      refine z_iconst dL_gone_159 ?_
                      refine z_irem dL_gone_160 (by omega) (by omega) (by omega) ?_
                      rw [show (i : Int).tmod 4 = ((i % 4 : Nat) : Int) from rfl]
                      refine z_iadd dL_gone_161 ?_
                      refine z_istore dL_gone_162 (by decide) rfl ?_
                      refine z_aload_n dL_gone_164 rfl ?_
                      refine z_iload dL_gone_165 rfl ?_
                      refine z_dup2 dL_gone_167 rfl rfl ?_
                      refine z_iaload dL_gone_168 (by decide) rfl (by omega) (by omega) (by first | decide | omega) (fun r168 => ?_)
                      rw [show (24 + 6 * ((i / 4 : Nat) : Int) + ((i % 4 : Nat) : Int)).toNat = 24 + 6 * (i / 4) + i % 4 by omega, e3v]
                      refine z_aload_n dL_gone_169 rfl ?_
                      refine z_iload dL_gone_170 rfl ?_
                      refine z_iaload dL_gone_172 (by decide) rfl (by omega) (by omega) (by first | decide | omega) (fun r172 => ?_)
                      rw [show (24 + 6 * ((i / 4 : Nat) : Int) + ((i % 4 : Nat) : Int)).toNat = 24 + 6 * (i / 4) + i % 4 by omega, e3v]
                      refine z_iload_n dL_gone_173 rfl ?_
                      refine z_iconst dL_gone_174 ?_
                      refine z_iadd dL_gone_175 ?_
                      refine z_icmp_le 183 dL_gone_176 (by decide) (by omega) (by omega) (fun c176 => ?_) (fun c176 => ?_)
                      · refine z_aload_n dL_gone_183 rfl ?_
                        refine z_iload dL_gone_184 rfl ?_
                        refine z_iaload dL_gone_186 (by decide) rfl (by omega) (by omega) (by first | decide | omega) (fun r186 => ?_)
                        rw [show (24 + 6 * ((i / 4 : Nat) : Int) + ((i % 4 : Nat) : Int)).toNat = 24 + 6 * (i / 4) + i % 4 by omega, e3v]
                        refine z_iload_n dL_gone_187 rfl ?_
                        refine z_ineg dL_gone_188 ?_
                        refine z_iconst dL_gone_189 ?_
                        refine z_isub dL_gone_190 ?_
                        refine z_icmp_ge 198 dL_gone_191 (by decide) (by omega) (by omega) (fun c191 => ?_) (fun c191 => ?_)
                        · refine z_iconst dL_gone_198 ?_
                          refine z_isub dL_gone_199 ?_
                          refine z_iastore dL_gone_200 (by decide) rfl (by omega) (by omega) (by first | decide | omega) (by omega) ?_
                          rw [show (24 + 6 * ((i / 4 : Nat) : Int) + ((i % 4 : Nat) : Int)).toNat = 24 + 6 * (i / 4) + i % 4 by omega]
                          refine z_iinc dL_gone_201 rfl (by decide) rfl ?_
                          refine z_goto 137 dL_gone_204 (by decide) ?_
                          refine z_forget 5 ?_
                          rw [show (i : Int) + 1 = ((i + 1 : Nat) : Int) by omega]
                          exact ih137 _ (i + 1) (by omega) (by rw [up_at, E3]; exact gL_s _ (by unfold low1; rw [if_neg (by omega), if_neg (by omega)])) (by rw [up_ne _ _ _ (by decide)]; exact C3) (fun a h1 h2 => by rw [up_ne _ _ _ h1]; exact F3 a h1 h2) (by omega)
                        · refine z_iconst dL_gone_194 ?_
                          refine z_goto 199 dL_gone_195 (by decide) ?_
                          refine z_isub dL_gone_199 ?_
                          refine z_iastore dL_gone_200 (by decide) rfl (by omega) (by omega) (by first | decide | omega) (by omega) ?_
                          rw [show (24 + 6 * ((i / 4 : Nat) : Int) + ((i % 4 : Nat) : Int)).toNat = 24 + 6 * (i / 4) + i % 4 by omega]
                          refine z_iinc dL_gone_201 rfl (by decide) rfl ?_
                          refine z_goto 137 dL_gone_204 (by decide) ?_
                          refine z_forget 5 ?_
                          rw [show (i : Int) + 1 = ((i + 1 : Nat) : Int) by omega]
                          exact ih137 _ (i + 1) (by omega) (by rw [up_at, E3]; exact gL_s _ (by unfold low1; rw [if_neg (by omega), if_pos (by omega)])) (by rw [up_ne _ _ _ (by decide)]; exact C3) (fun a h1 h2 => by rw [up_ne _ _ _ h1]; exact F3 a h1 h2) (by omega)
                      · refine z_iconst dL_gone_179 ?_
                        refine z_goto 199 dL_gone_180 (by decide) ?_
                        refine z_isub dL_gone_199 ?_
                        refine z_iastore dL_gone_200 (by decide) rfl (by omega) (by omega) (by first | decide | omega) (by omega) ?_
                        rw [show (24 + 6 * ((i / 4 : Nat) : Int) + ((i % 4 : Nat) : Int)).toNat = 24 + 6 * (i / 4) + i % 4 by omega]
                        refine z_iinc dL_gone_201 rfl (by decide) rfl ?_
                        refine z_goto 137 dL_gone_204 (by decide) ?_
                        refine z_forget 5 ?_
                        rw [show (i : Int) + 1 = ((i + 1 : Nat) : Int) by omega]
                        exact ih137 _ (i + 1) (by omega) (by rw [up_at, E3]; exact gL_s _ (by unfold low1; rw [if_pos (by omega)])) (by rw [up_ne _ _ _ (by decide)]; exact C3) (fun a h1 h2 => by rw [up_ne _ _ _ h1]; exact F3 a h1 h2) (by omega)
                exact loop137 _ h2 0 (Nat.zero_le _) (by rw [Z2]; funext j; exact (if_neg (by omega)).symm) (by rw [E2, show i = 18 by omega]) F2 (Nat.lt_succ_self _)
              · refine z_aload_n dL_gone_89 rfl ?_
                refine z_iload dL_gone_90 rfl ?_
                refine z_iload dL_gone_92 rfl ?_
                refine z_bipush dL_gone_94 (by decide) ?_
                refine z_irem dL_gone_96 (by omega) (by omega) (by omega) ?_
                rw [show (i : Int).tmod 6 = ((i % 6 : Nat) : Int) from rfl]
                refine z_iload_n dL_gone_97 rfl ?_
                refine z_icmp_ge 108 dL_gone_98 (by decide) (by omega) (by omega) (fun c98 => ?_) (fun c98 => ?_)
                · refine z_iload dL_gone_108 rfl ?_
                  refine z_bipush dL_gone_110 (by decide) ?_
                  refine z_irem dL_gone_112 (by omega) (by omega) (by omega) ?_
                  rw [show (i : Int).tmod 6 = ((i % 6 : Nat) : Int) from rfl]
                  refine z_iconst dL_gone_113 ?_
                  refine z_icmp_ge 126 dL_gone_114 (by decide) (by omega) (by omega) (fun c114 => ?_) (fun c114 => ?_)
                  · refine z_iconst dL_gone_126 ?_
                    refine z_iastore dL_gone_127 (by decide) rfl (by omega) (by omega) (by first | decide | omega) (by omega) ?_
                    rw [show ((i : Int)).toNat = i by omega]
                    refine z_iinc dL_gone_128 rfl (by decide) rfl ?_
                    refine z_goto 82 dL_gone_131 (by decide) ?_
                    rw [show (i : Int) + 1 = ((i + 1 : Nat) : Int) by omega]
                    exact ih82 _ (i + 1) (by omega) (by rw [up_at, E2]; exact gC_s (h 48) (by rw [if_neg (by omega), if_neg (by omega)])) (by rw [up_ne _ _ _ (by decide)]; exact Z2) (fun a h1 h2 => by rw [up_ne _ _ _ h2]; exact F2 a h1 h2) (by omega)
                  · refine z_aload_n dL_gone_117 rfl ?_
                    refine z_iload dL_gone_118 rfl ?_
                    refine z_iconst dL_gone_120 ?_
                    refine z_iadd dL_gone_121 ?_
                    refine z_iaload dL_gone_122 (by decide) rfl (by omega) (by omega) (by first | decide | omega) (fun r122 => ?_)
                    rw [show h2 48 ((i : Int) + 1).toNat = h 48 (i + 1) by rw [E2, show ((i : Int) + 1).toNat = i + 1 by omega, gC_at _ (by omega)]] at r122 ⊢
                    refine z_goto 127 dL_gone_123 (by decide) ?_
                    refine z_iastore dL_gone_127 (by decide) rfl (by omega) (by omega) (by first | decide | omega) (by omega) ?_
                    rw [show ((i : Int)).toNat = i by omega]
                    refine z_iinc dL_gone_128 rfl (by decide) rfl ?_
                    refine z_goto 82 dL_gone_131 (by decide) ?_
                    rw [show (i : Int) + 1 = ((i + 1 : Nat) : Int) by omega]
                    exact ih82 _ (i + 1) (by omega) (by rw [up_at, E2]; exact gC_s (h 48) (by rw [if_neg (by omega), if_pos (by omega)])) (by rw [up_ne _ _ _ (by decide)]; exact Z2) (fun a h1 h2 => by rw [up_ne _ _ _ h2]; exact F2 a h1 h2) (by omega)
                · refine z_aload_n dL_gone_101 rfl ?_
                  refine z_iload dL_gone_102 rfl ?_
                  refine z_iaload dL_gone_104 (by decide) rfl (by omega) (by omega) (by first | decide | omega) (fun r104 => ?_)
                  rw [show h2 48 (i : Int).toNat = h 48 i by rw [E2, show ((i : Int)).toNat = i by omega, gC_at _ (Nat.le_refl i)]] at r104 ⊢
                  refine z_goto 127 dL_gone_105 (by decide) ?_
                  refine z_iastore dL_gone_127 (by decide) rfl (by omega) (by omega) (by first | decide | omega) (by omega) ?_
                  rw [show ((i : Int)).toNat = i by omega]
                  refine z_iinc dL_gone_128 rfl (by decide) rfl ?_
                  refine z_goto 82 dL_gone_131 (by decide) ?_
                  rw [show (i : Int) + 1 = ((i + 1 : Nat) : Int) by omega]
                  exact ih82 _ (i + 1) (by omega) (by rw [up_at, E2]; exact gC_s (h 48) (by rw [if_pos (by omega)])) (by rw [up_ne _ _ _ (by decide)]; exact Z2) (fun a h1 h2 => by rw [up_ne _ _ _ h2]; exact F2 a h1 h2) (by omega)
          exact loop82 _ h1 0 (by omega) (by rw [F1 48 (by decide)]; funext j; exact (if_neg (Nat.not_lt_zero j)).symm) (by rw [E1, show i = 19 by omega]) (fun a ha _ => F1 a ha) (Nat.lt_succ_self _)
        · refine z_aload_n dL_gone_63 rfl ?_
          refine z_iload dL_gone_64 rfl ?_
          refine z_aload_n dL_gone_66 rfl ?_
          refine z_iload dL_gone_67 rfl ?_
          refine z_iconst dL_gone_69 ?_
          refine z_iadd dL_gone_70 ?_
          refine z_iaload dL_gone_71 (by decide) rfl (by omega) (by omega) (by first | decide | omega) (fun r71 => ?_)
          rw [show ((i : Int) + 3).toNat = i + 3 by omega]
          have zb := gE_b (d := d) (i := i) hz hi2 (i + 3) (by omega)
          rw [show h1 47 (i + 3) = gE d i (h 47) (i + 3) by rw [E1]]
          refine z_iastore dL_gone_72 (by decide) rfl (by omega) (by omega) (by first | decide | omega) (by omega) ?_
          rw [show ((i : Int)).toNat = i by omega]
          refine z_iinc dL_gone_73 rfl (by decide) rfl ?_
          refine z_goto 56 dL_gone_76 (by decide) ?_
          rw [show (i : Int) + 1 = ((i + 1 : Nat) : Int) by omega]
          exact ih56 _ (i + 1) (by omega) (by omega) (by rw [up_at, E1, ← gE_s (h 47) hi1]) (fun a ha => by rw [up_ne _ _ _ ha]; exact F1 a ha) (by omega)
    exact loop56 _ h (4 + 3 * d) (Nat.le_refl _) (by omega) (by funext j; exact (if_neg (by omega)).symm) (fun _ _ => rfl) (Nat.lt_succ_self _)
  · omega

set_option maxRecDepth 100000 in
set_option maxHeartbeats 4000000 in
theorem c_L_act {g : GG} {h : HH} {σ : SG} {as : List SG} (J : JL h σ as) {v : Int} : CnI mL_act g [vr 0, vr 47, vr 48, vi v] h (fun z h' => (0 ≤ z ∧ z ≤ 1) ∧ ∃ σ' as', JL h' σ' as') := by
  have J9 := J
  obtain ⟨W, P, L, h0⟩ := J9
  obtain ⟨Zc, l3, zb, Cc⟩ := id L
  have h8 := P.2.1.1
  have w1 := W.1
  have w2 := W.2.1
  have w3 := W.2.2.1
  refine cn_q (lv := [vr 0, vr 47, vr 48, vi v, vx, vx, vx, vx, vx, vx, vx, vx, vx]) tL_act.1 rfl rfl (fun hR Q hQ => ?_)
  refine z_iload_n dL_act_0 rfl ?_
  refine z_bipush dL_act_1 (by decide) ?_
  refine z_callS_pI (M := mL_act) [_, _] tL_less kL_46 dL_act_3 ⟨by decide, by decide⟩ rfl (Nat.le_of_ble_eq_true rfl) rfl (c_L_less (by first | decide | omega)) (fun z3 q3 => ?_)
  obtain ⟨way, rfl⟩ := Int.eq_ofNat_of_zero_le q3.1
  have hway : way < 16 := by have := q3.2; omega
  refine z_istore dL_act_6 (by decide) rfl ?_
  refine z_iload_n dL_act_8 rfl ?_
  refine z_iconst dL_act_9 ?_
  refine z_ishr dL_act_10 ?_
  refine z_istore dL_act_11 (by decide) rfl ?_
  refine z_iload dL_act_13 rfl ?_
  refine z_iconst dL_act_15 ?_
  refine z_callS_pI (M := mL_act) [_, _] tL_less kL_46 dL_act_16 ⟨by decide, by decide⟩ rfl (Nat.le_of_ble_eq_true rfl) rfl (c_L_less (by first | decide | omega)) (fun z16 q16 => ?_)
  obtain ⟨kc, rfl⟩ := Int.eq_ofNat_of_zero_le q16.1
  have hkc : kc < 3 := by have := q16.2; omega
  refine z_istore dL_act_19 (by decide) rfl ?_
  have k41 : ∀ e : Nat, (0 < sE σ → e < sE σ) → Z mL_act g 41 [vr 0, vr 47, vr 48, vi v, vi (way : Int), vi (ishr v 4), vi (kc : Int), vx, vx, vx, vx, vx, vx] [vi (e : Int)] h Q := by
    intro e he
    refine z_istore dL_act_41 (by decide) rfl ?_
    have k63 : ∀ f : Nat, (0 < sF σ → f < sF σ) → Z mL_act g 63 [vr 0, vr 47, vr 48, vi v, vi (way : Int), vi (ishr v 4), vi (kc : Int), vi (e : Int), vx, vx, vx, vx, vx] [vi (f : Int)] h Q := by
      intro f hf
      refine z_istore dL_act_63 (by decide) rfl ?_
      have k71a : Z mL_act g 71 [vr 0, vr 47, vr 48, vi v, vi 0, vi (ishr v 4), vi (kc : Int), vi (e : Int), vi (f : Int), vx, vx, vx, vx] [] h Q := by
        refine z_iconst dL_act_71 ?_
        refine z_iload dL_act_72 rfl ?_
        refine z_iadd dL_act_74 ?_
        rw [show (1 : Int) + 0 = 1 from rfl]
        refine z_istore dL_act_75 (by decide) rfl ?_
        refine z_iload dL_act_77 rfl ?_
        refine z_if_ne 92 dL_act_79 (by decide) (by omega) (fun c79 => ?_) (fun c79 => ?_)
        · omega
        · refine z_bipush dL_act_82 (by decide) ?_
          refine z_iconst dL_act_84 ?_
          refine z_iload dL_act_85 rfl ?_
          refine z_imul dL_act_87 ?_
          refine z_iadd dL_act_88 ?_
          refine z_goto 100 dL_act_89 (by decide) ?_
          refine z_istore dL_act_100 (by decide) rfl ?_
          refine z_iconst dL_act_102 ?_
          refine z_iload dL_act_103 rfl ?_
          refine z_iconst dL_act_105 ?_
          refine z_ishr dL_act_106 ?_
          refine z_iconst dL_act_107 ?_
          refine z_callS_pI (M := mL_act) [_, _] tL_less kL_46 dL_act_108 ⟨by decide, by decide⟩ rfl (Nat.le_of_ble_eq_true rfl) rfl (c_L_less (by first | decide | omega)) (fun z108 q108 => ?_)
          obtain ⟨w0, rfl⟩ := Int.eq_ofNat_of_zero_le q108.1
          have hw0 : w0 < 3 := by have := q108.2; omega
          refine z_iadd dL_act_111 ?_
          rw [show 1 + (w0 : Int) = ((1 + w0 : Nat) : Int) by omega]
          refine z_istore dL_act_112 (by decide) rfl ?_
          refine z_aload_n dL_act_114 rfl ?_
          refine z_iload dL_act_115 rfl ?_
          refine z_iaload dL_act_117 (by decide) rfl (by omega) (by omega) (by first | decide | omega) (fun r117 => ?_)
          rw [show h 47 (Int.toNat 1) = sE σ from Zc.2.1]
          refine z_if_ne 141 dL_act_118 (by decide) (by omega) (fun c118 => ?_) (fun c118 => ?_)
          · have he1 := he (by omega)
            have w4 := W.2.2.2.1 e he1
            refine z_aload_n dL_act_141 rfl ?_
            refine z_iload dL_act_142 rfl ?_
            refine z_iaload dL_act_144 (by decide) rfl (by omega) (by omega) (by first | decide | omega) (fun r144 => ?_)
            rw [zc_ew Zc he1 (z := 6 + 3 * (e : Int)) rfl]
            refine z_istore dL_act_145 (by decide) rfl ?_
            refine z_aload_n dL_act_147 rfl ?_
            refine z_iload dL_act_148 rfl ?_
            refine z_iload dL_act_150 rfl ?_
            refine z_iastore dL_act_152 (by decide) rfl (by omega) (by omega) (by first | decide | omega) (by omega) ?_
            rw [show (6 + 3 * (e : Int)).toNat = 6 + 3 * e by omega]
            generalize e1 : up h 47 (6 + 3 * e) ((1 + w0 : Nat) : Int) = h1
            have P1 := P.up47 e1
            have L1 : LJ h1 (setWE σ e (1 + w0)) as.length := L.put e1 (by omega) (by omega) (zc_setWE w2 Zc he1) Cc
            refine z_aload_n dL_act_153 rfl ?_
            refine z_aload_n dL_act_154 rfl ?_
            refine z_iload dL_act_155 rfl ?_
            refine z_iload dL_act_157 rfl ?_
            refine z_if_ne 167 dL_act_159 (by decide) (by omega) (fun c159 => ?_) (fun c159 => ?_)
            · omega
            · refine z_iload dL_act_162 rfl ?_
              refine z_goto 169 dL_act_164 (by decide) ?_
              refine z_iload dL_act_169 rfl ?_
              refine z_callV_I (M := mL_act) [_, _, _] tX5_weigh kL_93 dL_act_171 ⟨by decide, rfl, _, _, rfl⟩ ⟨by decide, by decide⟩ rfl (Nat.le_of_ble_eq_true rfl) rfl (c_X5_weigh1 W P1.1 P1.2.1 (c := e) (w := 1 + w0) he1 (by omega)) (fun z171 h171 q171 => ?_)
              obtain ⟨rfl, A171⟩ := q171
              refine z_iload dL_act_174 rfl ?_
              refine z_icmp_ne 183 dL_act_176 (by decide) (by omega) (by omega) (fun c176 => ?_) (fun c176 => ?_)
              · first | exact absurd rfl c176 | omega
              · refine z_iconst dL_act_179 ?_
                refine z_goto 184 dL_act_180 (by decide) ?_
                refine z_callS_I (M := mL_act) [_, _] tL_noted kL_96 dL_act_184 ⟨by decide, by decide⟩ rfl (Nat.le_of_ble_eq_true rfl) rfl (c_L_noted (k := as.length) (L1.n3 A171) h8) (fun z184 h184 q184 => ?_)
                obtain ⟨rfl, rfl⟩ := q184
                refine z_if_eq 194 dL_act_187 (by decide) (by omega) (fun c187 => ?_) (fun c187 => ?_)
                · omega
                · refine z_iconst dL_act_190 ?_
                  refine z_goto 195 dL_act_191 (by decide) ?_
                  exact z_ireturn dL_act_195 rfl (hQ _ _ ⟨_, rfl, ⟨by decide, _, _, JL.fin (WF_setWE W (by omega)) P1 L1 A171 h0⟩⟩)
          · refine z_aload_n dL_act_121 rfl ?_
            refine z_iload dL_act_122 rfl ?_
            refine z_iconst dL_act_124 ?_
            refine z_iload dL_act_125 rfl ?_
            refine z_callV_eI (M := mL_act) [_, _, _] tX5_weigh kL_93 dL_act_127 ⟨by decide, rfl, _, _, rfl⟩ ⟨by decide, by decide⟩ rfl (Nat.le_of_ble_eq_true rfl) rfl (c_X5_weighO1 W P.1 (by decide) (by omega) (by omega)) ?_
            refine z_ldc (-1000001) dL_act_130 qL_80 rfl ?_
            refine z_icmp_ne 139 dL_act_132 (by decide) (by decide) (by decide) (fun c132 => ?_) (fun c132 => ?_)
            · first | exact absurd rfl c132 | omega
            · refine z_iconst dL_act_135 ?_
              refine z_goto 140 dL_act_136 (by decide) ?_
              exact z_ireturn dL_act_140 rfl (hQ _ _ ⟨_, rfl, ⟨by decide, σ, as, J⟩⟩)
      have k71b : Z mL_act g 71 [vr 0, vr 47, vr 48, vi v, vi 1, vi (ishr v 4), vi (kc : Int), vi (e : Int), vi (f : Int), vx, vx, vx, vx] [] h Q := by
        refine z_iconst dL_act_71 ?_
        refine z_iload dL_act_72 rfl ?_
        refine z_iadd dL_act_74 ?_
        rw [show (1 : Int) + 1 = 2 from rfl]
        refine z_istore dL_act_75 (by decide) rfl ?_
        refine z_iload dL_act_77 rfl ?_
        refine z_if_ne 92 dL_act_79 (by decide) (by omega) (fun c79 => ?_) (fun c79 => ?_)
        · refine z_bipush dL_act_92 (by decide) ?_
          refine z_bipush dL_act_94 (by decide) ?_
          refine z_iload dL_act_96 rfl ?_
          refine z_imul dL_act_98 ?_
          refine z_iadd dL_act_99 ?_
          refine z_istore dL_act_100 (by decide) rfl ?_
          refine z_iconst dL_act_102 ?_
          refine z_iload dL_act_103 rfl ?_
          refine z_iconst dL_act_105 ?_
          refine z_ishr dL_act_106 ?_
          refine z_iconst dL_act_107 ?_
          refine z_callS_pI (M := mL_act) [_, _] tL_less kL_46 dL_act_108 ⟨by decide, by decide⟩ rfl (Nat.le_of_ble_eq_true rfl) rfl (c_L_less (by first | decide | omega)) (fun z108 q108 => ?_)
          obtain ⟨w0, rfl⟩ := Int.eq_ofNat_of_zero_le q108.1
          have hw0 : w0 < 3 := by have := q108.2; omega
          refine z_iadd dL_act_111 ?_
          rw [show 1 + (w0 : Int) = ((1 + w0 : Nat) : Int) by omega]
          refine z_istore dL_act_112 (by decide) rfl ?_
          refine z_aload_n dL_act_114 rfl ?_
          refine z_iload dL_act_115 rfl ?_
          refine z_iaload dL_act_117 (by decide) rfl (by omega) (by omega) (by first | decide | omega) (fun r117 => ?_)
          rw [show h 47 (Int.toNat 2) = sF σ from Zc.2.2.1]
          refine z_if_ne 141 dL_act_118 (by decide) (by omega) (fun c118 => ?_) (fun c118 => ?_)
          · have hf1 := hf (by omega)
            obtain ⟨x1, x2, x3⟩ := W.2.2.2.2.1 f hf1
            refine z_aload_n dL_act_141 rfl ?_
            refine z_iload dL_act_142 rfl ?_
            refine z_iaload dL_act_144 (by decide) rfl (by omega) (by omega) (by first | decide | omega) (fun r144 => ?_)
            rw [zc_fw Zc hf1 (z := 22 + 6 * (f : Int)) rfl]
            refine z_istore dL_act_145 (by decide) rfl ?_
            refine z_aload_n dL_act_147 rfl ?_
            refine z_iload dL_act_148 rfl ?_
            refine z_iload dL_act_150 rfl ?_
            refine z_iastore dL_act_152 (by decide) rfl (by omega) (by omega) (by first | decide | omega) (by omega) ?_
            rw [show (22 + 6 * (f : Int)).toNat = 22 + 6 * f by omega]
            generalize e1 : up h 47 (22 + 6 * f) ((1 + w0 : Nat) : Int) = h1
            have P1 := P.up47 e1
            have L1 : LJ h1 (setWF σ f (1 + w0)) as.length := L.put e1 (by omega) (by omega) (zc_setWF W Zc hf1) Cc
            refine z_aload_n dL_act_153 rfl ?_
            refine z_aload_n dL_act_154 rfl ?_
            refine z_iload dL_act_155 rfl ?_
            refine z_iload dL_act_157 rfl ?_
            refine z_if_ne 167 dL_act_159 (by decide) (by omega) (fun c159 => ?_) (fun c159 => ?_)
            · refine z_iload dL_act_167 rfl ?_
              refine z_iload dL_act_169 rfl ?_
              refine z_callV_I (M := mL_act) [_, _, _] tX5_weigh kL_93 dL_act_171 ⟨by decide, rfl, _, _, rfl⟩ ⟨by decide, by decide⟩ rfl (Nat.le_of_ble_eq_true rfl) rfl (c_X5_weigh2 W P1.1 P1.2.1 (c := f) (w := 1 + w0) hf1 (by omega)) (fun z171 h171 q171 => ?_)
              obtain ⟨rfl, A171⟩ := q171
              refine z_iload dL_act_174 rfl ?_
              refine z_icmp_ne 183 dL_act_176 (by decide) (by omega) (by omega) (fun c176 => ?_) (fun c176 => ?_)
              · first | exact absurd rfl c176 | omega
              · refine z_iconst dL_act_179 ?_
                refine z_goto 184 dL_act_180 (by decide) ?_
                refine z_callS_I (M := mL_act) [_, _] tL_noted kL_96 dL_act_184 ⟨by decide, by decide⟩ rfl (Nat.le_of_ble_eq_true rfl) rfl (c_L_noted (k := as.length) (L1.n3 A171) h8) (fun z184 h184 q184 => ?_)
                obtain ⟨rfl, rfl⟩ := q184
                refine z_if_eq 194 dL_act_187 (by decide) (by omega) (fun c187 => ?_) (fun c187 => ?_)
                · omega
                · refine z_iconst dL_act_190 ?_
                  refine z_goto 195 dL_act_191 (by decide) ?_
                  exact z_ireturn dL_act_195 rfl (hQ _ _ ⟨_, rfl, ⟨by decide, _, _, JL.fin (WF_setWF W (by omega)) P1 L1 A171 h0⟩⟩)
            · omega
          · refine z_aload_n dL_act_121 rfl ?_
            refine z_iload dL_act_122 rfl ?_
            refine z_iconst dL_act_124 ?_
            refine z_iload dL_act_125 rfl ?_
            refine z_callV_eI (M := mL_act) [_, _, _] tX5_weigh kL_93 dL_act_127 ⟨by decide, rfl, _, _, rfl⟩ ⟨by decide, by decide⟩ rfl (Nat.le_of_ble_eq_true rfl) rfl (c_X5_weighO2 W P.1 (by decide) (by omega) (by omega)) ?_
            refine z_ldc (-1000001) dL_act_130 qL_80 rfl ?_
            refine z_icmp_ne 139 dL_act_132 (by decide) (by decide) (by decide) (fun c132 => ?_) (fun c132 => ?_)
            · first | exact absurd rfl c132 | omega
            · refine z_iconst dL_act_135 ?_
              refine z_goto 140 dL_act_136 (by decide) ?_
              exact z_ireturn dL_act_140 rfl (hQ _ _ ⟨_, rfl, ⟨by decide, σ, as, J⟩⟩)
        · omega
      refine z_iload dL_act_65 rfl ?_
      refine z_iconst dL_act_67 ?_
      refine z_icmp_ge 196 dL_act_68 (by decide) (by omega) (by omega) (fun c68 => ?_) (fun c68 => ?_)
      · refine z_iload dL_act_196 rfl ?_
        refine z_iconst dL_act_198 ?_
        refine z_icmp_ge 370 dL_act_199 (by decide) (by omega) (by omega) (fun c199 => ?_) (fun c199 => ?_)
        · refine z_iload dL_act_370 rfl ?_
          refine z_bipush dL_act_372 (by decide) ?_
          refine z_icmp_ge 529 dL_act_374 (by decide) (by omega) (by omega) (fun c374 => ?_) (fun c374 => ?_)
          · refine z_iload dL_act_529 rfl ?_
            refine z_bipush dL_act_531 (by decide) ?_
            refine z_icmp_ne 626 dL_act_533 (by decide) (by omega) (by omega) (fun c533 => ?_) (fun c533 => ?_)
            · refine z_iload dL_act_626 rfl ?_
              refine z_bipush dL_act_628 (by decide) ?_
              refine z_icmp_ne 696 dL_act_630 (by decide) (by omega) (by omega) (fun c630 => ?_) (fun c630 => ?_)
              · refine z_iload dL_act_696 rfl ?_
                refine z_bipush dL_act_698 (by decide) ?_
                refine z_icmp_ge 800 dL_act_700 (by decide) (by omega) (by omega) (fun c700 => ?_) (fun c700 => ?_)
                · refine z_iload dL_act_800 rfl ?_
                  refine z_bipush dL_act_802 (by decide) ?_
                  refine z_icmp_ge 1032 dL_act_804 (by decide) (by omega) (by omega) (fun c804 => ?_) (fun c804 => ?_)
                  · refine z_iconst dL_act_1032 ?_
                    refine z_iload dL_act_1033 rfl ?_
                    refine z_iconst dL_act_1035 ?_
                    refine z_ishr dL_act_1036 ?_
                    refine z_ldc (999999) dL_act_1037 qL_129 rfl ?_
                    refine z_callS_pI (M := mL_act) [_, _] tL_less kL_46 dL_act_1039 ⟨by decide, by decide⟩ rfl (Nat.le_of_ble_eq_true rfl) rfl (c_L_less (by first | decide | omega)) (fun z1039 q1039 => ?_)
                    obtain ⟨y0, rfl⟩ := Int.eq_ofNat_of_zero_le q1039.1
                    have hy0 : y0 < 999999 := by have := q1039.2; omega
                    refine z_iadd dL_act_1042 ?_
                    refine z_i2l dL_act_1043 (by omega) ?_
                    refine z_lstore dL_act_1044 (by decide) rfl ?_
                    refine z_lload dL_act_1046 rfl ?_
                    refine z_l2i dL_act_1048 ?_
                    refine z_istore dL_act_1049 (by decide) rfl ?_
                    refine z_iconst dL_act_1051 ?_
                    refine z_istore dL_act_1052 (by decide) rfl ?_
                    have loop1054 : ∀ (nL9 : Nat) (h1 : HH) (i : Nat), (i ≤ sE σ) → (CC (h1 48) (chS σ kc i (drV (1 + (y0 : Int))))) → (∀ a, a ≠ 48 → h1 a = h a) → sE σ - i < nL9 → Z mL_act g 1054 [vr 0, vr 47, vr 48, vi v, vi (way : Int), vi (ishr v 4), vi (kc : Int), vi (e : Int), vi (f : Int), vl (dX (1 + (y0 : Int)) i), vx, vi (1 + (y0 : Int)), vi (i : Int)] [] h1 Q := by
                      intro nL9
                      induction nL9 with
                      | zero => intro h1 i hi C1 F1 hnL9; exact absurd hnL9 (Nat.not_lt_zero _)
                      | succ nL9 ih1054 =>
                        intro h1 i hi C1 F1 hnL9
                        refine z_iload dL_act_1054 rfl ?_
                        refine z_aload_n dL_act_1056 rfl ?_
                        refine z_iconst dL_act_1057 ?_
                        refine z_iaload dL_act_1058 (by decide) rfl (by omega) (by omega) (by first | decide | omega) (fun r1058 => ?_)
                        rw [show h1 47 (Int.toNat 1) = sE σ by rw [F1 47 (by decide)]; exact Zc.2.1]
                        refine z_icmp_ge 1100 dL_act_1059 (by decide) (by omega) (by omega) (fun c1059 => ?_) (fun c1059 => ?_)
                        · rw [show i = sE σ by omega] at C1
                          have P1 : JP h1 σ as := P.lw (fun k _ k2 => F1 k k2)
                          have L1 : LJ h1 (chS σ kc (sE σ) (drV (1 + (y0 : Int)))) as.length := ⟨by rw [F1 47 (by decide)]; exact Zc, by rw [F1 47 (by decide)]; exact l3, by rw [F1 47 (by decide)]; exact zb, C1⟩
                          have Wd : WF (chS σ kc (sE σ) (drV (1 + (y0 : Int)))) := WF_chS W (fun e _ => drV_r (by omega) e)
                          refine z_aload_n dL_act_1100 rfl ?_
                          refine z_aload_n dL_act_1101 rfl ?_
                          refine z_iload dL_act_1102 rfl ?_
                          refine z_iload dL_act_1104 rfl ?_
                          refine z_callV_I (M := mL_act) [_, _] tX5_drawn kL_136 dL_act_1106 ⟨by decide, rfl, _, _, rfl⟩ ⟨by decide, by decide⟩ rfl (Nat.le_of_ble_eq_true rfl) rfl (c_X5_drawn1 W P1.1 P1.2.1 (c := kc) hkc (by omega) h0) (fun z1106 h1106 q1106 => ?_)
                          obtain ⟨rfl, A1106⟩ := q1106
                          refine z_aload_n dL_act_1109 rfl ?_
                          refine z_aload_n dL_act_1110 rfl ?_
                          refine z_iload dL_act_1111 rfl ?_
                          refine z_callS_eI (M := mL_act) [_, _, _] tL_others kL_125 dL_act_1113 ⟨by decide, by decide⟩ rfl (Nat.le_of_ble_eq_true rfl) rfl (c_L_others (σ := chS σ kc (sE σ) (drV (1 + (y0 : Int)))) Wd (by rw [A1106.k (by decide) (by decide) (by decide)]; exact L1.1) (by rw [A1106.k (by decide) (by decide) (by decide)]; exact L1.2.2.2) hkc) ?_
                          have nn := nnz_r Wd hkc
                          refine z_icmp_ne 1123 dL_act_1116 (by decide) (by omega) (by omega) (fun c1116 => ?_) (fun c1116 => ?_)
                          · first | exact absurd rfl c1116 | omega
                          · refine z_iconst dL_act_1119 ?_
                            refine z_goto 1124 dL_act_1120 (by decide) ?_
                            refine z_callS_I (M := mL_act) [_, _] tL_noted kL_96 dL_act_1124 ⟨by decide, by decide⟩ rfl (Nat.le_of_ble_eq_true rfl) rfl (c_L_noted (k := as.length) (L1.n3 A1106) h8) (fun z1124 h1124 q1124 => ?_)
                            obtain ⟨rfl, rfl⟩ := q1124
                            refine z_if_eq 1134 dL_act_1127 (by decide) (by omega) (fun c1127 => ?_) (fun c1127 => ?_)
                            · omega
                            · refine z_iconst dL_act_1130 ?_
                              refine z_goto 1135 dL_act_1131 (by decide) ?_
                              exact z_ireturn dL_act_1135 rfl (hQ _ _ ⟨_, rfl, ⟨by decide, _, _, JL.fin Wd P1 L1 A1106 h0⟩⟩)
                        · have d1 := dX_r (s := (1 + (y0 : Int))) (by omega) i
                          have d2 := dX_r (s := (1 + (y0 : Int))) (by omega) (i + 1)
                          have d3 := drV_r (s := (1 + (y0 : Int))) (by omega) i
                          refine z_lload dL_act_1062 rfl ?_
                          refine z_ldc2 (16807) dL_act_1064 qL_130 rfl ?_
                          refine z_lmul dL_act_1067 ?_
                          refine z_ldc2 (2147483647) dL_act_1068 qL_132 rfl ?_
                          refine z_lrem dL_act_1071 (by omega) (by decide) (by decide) ?_
                          rw [show (dX (1 + (y0 : Int)) i * 16807).tmod 2147483647 = dX (1 + (y0 : Int)) (i + 1) from rfl]
                          refine z_lstore dL_act_1072 (by decide) rfl ?_
                          refine z_aload_n dL_act_1074 rfl ?_
                          refine z_bipush dL_act_1075 (by decide) ?_
                          refine z_iload dL_act_1077 rfl ?_
                          refine z_imul dL_act_1079 ?_
                          refine z_iload dL_act_1080 rfl ?_
                          refine z_iadd dL_act_1082 ?_
                          refine z_lload dL_act_1083 rfl ?_
                          refine z_ldc2 (19) dL_act_1085 qL_134 rfl ?_
                          refine z_lrem dL_act_1088 (by omega) (by decide) (by decide) ?_
                          refine z_l2i dL_act_1089 ?_
                          refine z_bipush dL_act_1090 (by decide) ?_
                          refine z_isub dL_act_1092 ?_
                          rw [show (dX (1 + (y0 : Int)) (i + 1)).tmod 19 - 9 = drV (1 + (y0 : Int)) i from rfl]
                          refine z_iastore dL_act_1093 (by decide) rfl (by omega) (by omega) (by first | decide | omega) (by omega) ?_
                          rw [show (6 * (kc : Int) + (i : Int)).toNat = 6 * kc + i by omega]
                          generalize e2 : up h1 48 (6 * kc + i) (drV (1 + (y0 : Int)) i) = h2
                          refine z_iinc dL_act_1094 rfl (by decide) rfl ?_
                          refine z_goto 1054 dL_act_1097 (by decide) ?_
                          rw [show (i : Int) + 1 = ((i + 1 : Nat) : Int) by omega]
                          obtain ⟨u1, u2⟩ := up_e e2
                          exact ih1054 h2 (i + 1) (by omega) (by rw [u1]; exact cc_chs w2 C1 hkc (by omega)) (fun a ha => by rw [u2 a ha]; exact F1 a ha) (by omega)
                    exact loop1054 _ h 0 (Nat.zero_le _) (cc_ch0 Cc _ _) (fun _ _ => rfl) (Nat.lt_succ_self _)
                  · refine z_iload dL_act_807 rfl ?_
                    refine z_iconst dL_act_809 ?_
                    refine z_ishr dL_act_810 ?_
                    refine z_bipush dL_act_811 (by decide) ?_
                    refine z_callS_pI (M := mL_act) [_, _] tL_less kL_46 dL_act_813 ⟨by decide, by decide⟩ rfl (Nat.le_of_ble_eq_true rfl) rfl (c_L_less (by first | decide | omega)) (fun z813 q813 => ?_)
                    obtain ⟨t0, rfl⟩ := Int.eq_ofNat_of_zero_le q813.1
                    have ht0 : t0 < 7 := by have := q813.2; omega
                    refine z_iconst dL_act_816 ?_
                    refine z_isub dL_act_817 ?_
                    refine z_istore dL_act_818 (by decide) rfl ?_
                    refine z_aload_n dL_act_820 rfl ?_
                    refine z_iconst dL_act_821 ?_
                    refine z_iaload dL_act_822 (by decide) rfl (by omega) (by omega) (by first | decide | omega) (fun r822 => ?_)
                    rw [show h 47 (Int.toNat 2) = sF σ from Zc.2.2.1]
                    refine z_if_ne 846 dL_act_823 (by decide) (by omega) (fun c823 => ?_) (fun c823 => ?_)
                    · have hf1 := hf (by omega)
                      refine z_iconst dL_act_846 ?_
                      refine z_istore dL_act_847 (by decide) rfl ?_
                      refine z_iconst dL_act_849 ?_
                      refine z_istore dL_act_850 (by decide) rfl ?_
                      have loop852 : ∀ (nL9 : Nat) (i : Nat), (i ≤ sE σ) → sE σ - i < nL9 → Z mL_act g 852 [vr 0, vr 47, vr 48, vi v, vi (way : Int), vi (ishr v 4), vi (kc : Int), vi (e : Int), vi (f : Int), vi ((t0 : Int) - 3), vi (bi (∀ x, x < i → -9 ≤ bndV σ kc f ((t0 : Int) - 3) x ∧ bndV σ kc f ((t0 : Int) - 3) x ≤ 9)), vi (i : Int), vx] [] h Q := by
                        intro nL9
                        induction nL9 with
                        | zero => intro i hi hnL9; exact absurd hnL9 (Nat.not_lt_zero _)
                        | succ nL9 ih852 =>
                          intro i hi hnL9
                          refine z_iload dL_act_852 rfl ?_
                          refine z_aload_n dL_act_854 rfl ?_
                          refine z_iconst dL_act_855 ?_
                          refine z_iaload dL_act_856 (by decide) rfl (by omega) (by omega) (by first | decide | omega) (fun r856 => ?_)
                          rw [show h 47 (Int.toNat 1) = sE σ from Zc.2.1]
                          refine z_icmp_ge 916 dL_act_857 (by decide) (by omega) (by omega) (fun c857 => ?_) (fun c857 => ?_)
                          · rw [show i = sE σ by omega]
                            refine z_iconst dL_act_916 ?_
                            refine z_istore dL_act_917 (by decide) rfl ?_
                            have loop919 : ∀ (nL9 : Nat) (h1 : HH) (i : Nat), (i ≤ sE σ) → (CC (h1 48) (chS σ kc i (bndV σ kc f ((t0 : Int) - 3)))) → (∀ a, a ≠ 48 → h1 a = h a) → (¬ (∀ x, x < sE σ → -9 ≤ bndV σ kc f ((t0 : Int) - 3) x ∧ bndV σ kc f ((t0 : Int) - 3) x ≤ 9) → i = 0 ∧ h1 = h) → sE σ - i < nL9 → Z mL_act g 919 [vr 0, vr 47, vr 48, vi v, vi (way : Int), vi (ishr v 4), vi (kc : Int), vi (e : Int), vi (f : Int), vi ((t0 : Int) - 3), vi (bi (∀ x, x < sE σ → -9 ≤ bndV σ kc f ((t0 : Int) - 3) x ∧ bndV σ kc f ((t0 : Int) - 3) x ≤ 9)), vi (i : Int), vx] [] h1 Q := by
                              intro nL9
                              induction nL9 with
                              | zero => intro h1 i hi C1 F1 hnf hnL9; exact absurd hnL9 (Nat.not_lt_zero _)
                              | succ nL9 ih919 =>
                                intro h1 i hi C1 F1 hnf hnL9
                                refine z_iload dL_act_919 rfl ?_
                                refine z_aload_n dL_act_921 rfl ?_
                                refine z_iconst dL_act_922 ?_
                                refine z_iaload dL_act_923 (by decide) rfl (by omega) (by omega) (by first | decide | omega) (fun r923 => ?_)
                                rw [show h1 47 (Int.toNat 1) = sE σ by rw [F1 47 (by decide)]; exact Zc.2.1]
                                refine z_icmp_ge 962 dL_act_924 (by decide) (by omega) (by omega) (fun c924 => ?_) (fun c924 => ?_)
                                · have hfit : (∀ x, x < sE σ → -9 ≤ bndV σ kc f ((t0 : Int) - 3) x ∧ bndV σ kc f ((t0 : Int) - 3) x ≤ 9) := Classical.byContradiction fun q => q (fun x hx => absurd hx (by have := (hnf q).1; omega))
                                  have hb1 : bi (∀ x, x < sE σ → -9 ≤ bndV σ kc f ((t0 : Int) - 3) x ∧ bndV σ kc f ((t0 : Int) - 3) x ≤ 9) = 1 := (bi_t hfit).symm
                                  rw [show i = sE σ by omega] at C1
                                  have Z1 : ZC (h1 47) σ := by rw [F1 47 (by decide)]; exact Zc
                                  have P1 : JP h1 σ as := P.lw (fun k _ k2 => F1 k k2)
                                  have L1 : LJ h1 (chS σ kc (sE σ) (bndV σ kc f ((t0 : Int) - 3))) as.length := ⟨Z1, by rw [F1 47 (by decide)]; exact l3, by rw [F1 47 (by decide)]; exact zb, C1⟩
                                  have Wb : WF (chS σ kc (sE σ) (bndV σ kc f ((t0 : Int) - 3))) := WF_chS W hfit
                                  refine z_aload_n dL_act_962 rfl ?_
                                  refine z_aload_n dL_act_963 rfl ?_
                                  refine z_iload dL_act_964 rfl ?_
                                  refine z_callS_eI (M := mL_act) [_, _, _] tL_others kL_125 dL_act_966 ⟨by decide, by decide⟩ rfl (Nat.le_of_ble_eq_true rfl) rfl (c_L_others (σ := chS σ kc (sE σ) (bndV σ kc f ((t0 : Int) - 3))) Wb Z1 C1 hkc) ?_
                                  have nn := nnz_r Wb hkc
                                  refine z_istore dL_act_969 (by decide) rfl ?_
                                  refine z_iload dL_act_971 rfl ?_
                                  refine z_if_eq 1011 dL_act_973 (by decide) (bi_r _) (fun c973 => ?_) (fun c973 => ?_)
                                  · omega
                                  · refine z_aload_n dL_act_976 rfl ?_
                                    refine z_aload_n dL_act_977 rfl ?_
                                    refine z_iload dL_act_978 rfl ?_
                                    refine z_iload dL_act_980 rfl ?_
                                    refine z_iload dL_act_982 rfl ?_
                                    refine z_callV_I (M := mL_act) [_, _, _] tX5_bound kL_122 dL_act_984 ⟨by decide, rfl, _, _, rfl⟩ ⟨by decide, by decide⟩ rfl (Nat.le_of_ble_eq_true rfl) rfl (c_X5_bound1 W P1.1 P1.2.1 (c := kc) (f := f) hkc hf1 (by omega) hfit) (fun z984 h984 q984 => ?_)
                                    obtain ⟨rfl, A984⟩ := q984
                                    refine z_iload dL_act_987 rfl ?_
                                    refine z_icmp_ne 996 dL_act_989 (by decide) (by omega) (by omega) (fun c989 => ?_) (fun c989 => ?_)
                                    · first | exact absurd rfl c989 | omega
                                    · refine z_iconst dL_act_992 ?_
                                      refine z_goto 997 dL_act_993 (by decide) ?_
                                      refine z_callS_I (M := mL_act) [_, _] tL_noted kL_96 dL_act_997 ⟨by decide, by decide⟩ rfl (Nat.le_of_ble_eq_true rfl) rfl (c_L_noted (k := as.length) (L1.n3 A984) h8) (fun z997 h997 q997 => ?_)
                                      obtain ⟨rfl, rfl⟩ := q997
                                      refine z_if_eq 1007 dL_act_1000 (by decide) (by omega) (fun c1000 => ?_) (fun c1000 => ?_)
                                      · omega
                                      · refine z_iconst dL_act_1003 ?_
                                        refine z_goto 1031 dL_act_1004 (by decide) ?_
                                        exact z_ireturn dL_act_1031 rfl (hQ _ _ ⟨_, rfl, ⟨by decide, _, _, JL.fin Wb P1 L1 A984 h0⟩⟩)
                                · refine z_iload dL_act_927 rfl ?_
                                  refine z_if_eq 962 dL_act_929 (by decide) (bi_r _) (fun c929 => ?_) (fun c929 => ?_)
                                  · have c929 := bi_eq.mp c929
                                    rw [(hnf c929).2]
                                    refine z_aload_n dL_act_962 rfl ?_
                                    refine z_aload_n dL_act_963 rfl ?_
                                    refine z_iload dL_act_964 rfl ?_
                                    refine z_callS_eI (M := mL_act) [_, _, _] tL_others kL_125 dL_act_966 ⟨by decide, by decide⟩ rfl (Nat.le_of_ble_eq_true rfl) rfl (c_L_others W Zc Cc hkc) ?_
                                    have nn := nnz_r W hkc
                                    refine z_istore dL_act_969 (by decide) rfl ?_
                                    refine z_iload dL_act_971 rfl ?_
                                    refine z_if_eq 1011 dL_act_973 (by decide) (bi_r _) (fun c973 => ?_) (fun c973 => ?_)
                                    · refine z_aload_n dL_act_1011 rfl ?_
                                      refine z_iload dL_act_1012 rfl ?_
                                      refine z_iload dL_act_1014 rfl ?_
                                      refine z_iload dL_act_1016 rfl ?_
                                      refine z_callV_eI (M := mL_act) [_, _, _] tX5_bound kL_122 dL_act_1018 ⟨by decide, rfl, _, _, rfl⟩ ⟨by decide, by decide⟩ rfl (Nat.le_of_ble_eq_true rfl) rfl (c_X5_boundF W P.1 (c := kc) (f := f) hkc hf1 (by omega) c929) ?_
                                      refine z_ldc (-1000003) dL_act_1021 qL_103 rfl ?_
                                      refine z_icmp_ne 1030 dL_act_1023 (by decide) (by decide) (by decide) (fun c1023 => ?_) (fun c1023 => ?_)
                                      · first | exact absurd rfl c1023 | omega
                                      · refine z_iconst dL_act_1026 ?_
                                        refine z_goto 1031 dL_act_1027 (by decide) ?_
                                        exact z_ireturn dL_act_1031 rfl (hQ _ _ ⟨_, rfl, ⟨by decide, σ, as, J⟩⟩)
                                    · omega
                                  · have c929 := bi_ne.mp c929
                                    refine z_aload_n dL_act_932 rfl ?_
                                    refine z_bipush dL_act_933 (by decide) ?_
                                    refine z_iload dL_act_935 rfl ?_
                                    refine z_imul dL_act_937 ?_
                                    refine z_iload dL_act_938 rfl ?_
                                    refine z_iadd dL_act_940 ?_
                                    refine z_dup2 dL_act_941 rfl rfl ?_
                                    refine z_iaload dL_act_942 (by decide) rfl (by omega) (by omega) (by first | decide | omega) (fun r942 => ?_)
                                    rw [cc_ch C1 hkc (show i < sE σ by omega) (z := 6 * (kc : Int) + (i : Int)) rfl, chs_at]
                                    have Z1 : ZC (h1 47) σ := by rw [F1 47 (by decide)]; exact Zc
                                    refine z_iload dL_act_943 rfl ?_
                                    refine z_aload_n dL_act_945 rfl ?_
                                    refine z_iload dL_act_946 rfl ?_
                                    refine z_iload dL_act_948 rfl ?_
                                    refine z_callS_eI (M := mL_act) [_, _, _] tL_two kL_15 dL_act_950 ⟨by decide, by decide⟩ rfl (Nat.le_of_ble_eq_true rfl) rfl (c_L_two W Z1 (e := i) (f := f) (by omega) hf1) ?_
                                    refine z_imul dL_act_953 ?_
                                    refine z_iadd dL_act_954 ?_
                                    rw [show sch σ kc i + ((t0 : Int) - 3) * ent2 σ i f = bndV σ kc f ((t0 : Int) - 3) i from rfl]
                                    have bv := c929 i (by omega)
                                    refine z_iastore dL_act_955 (by decide) rfl (by omega) (by omega) (by first | decide | omega) (by omega) ?_
                                    rw [show (6 * (kc : Int) + (i : Int)).toNat = 6 * kc + i by omega]
                                    generalize e2 : up h1 48 (6 * kc + i) (bndV σ kc f ((t0 : Int) - 3) i) = h2
                                    refine z_iinc dL_act_956 rfl (by decide) rfl ?_
                                    refine z_goto 919 dL_act_959 (by decide) ?_
                                    rw [show (i : Int) + 1 = ((i + 1 : Nat) : Int) by omega]
                                    obtain ⟨u1, u2⟩ := up_e e2
                                    exact ih919 h2 (i + 1) (by omega) (by rw [u1]; exact cc_chs w2 C1 hkc (by omega)) (fun a ha => by rw [u2 a ha]; exact F1 a ha) (fun q => absurd c929 q) (by omega)
                            exact loop919 _ h 0 (Nat.zero_le _) (cc_ch0 Cc _ _) (fun _ _ => rfl) (fun _ => ⟨rfl, rfl⟩) (Nat.lt_succ_self _)
                          · have k908 : ∀ b : Int, b = bi (∀ x, x < i + 1 → -9 ≤ bndV σ kc f ((t0 : Int) - 3) x ∧ bndV σ kc f ((t0 : Int) - 3) x ≤ 9) → Z mL_act g 908 [vr 0, vr 47, vr 48, vi v, vi (way : Int), vi (ishr v 4), vi (kc : Int), vi (e : Int), vi (f : Int), vi ((t0 : Int) - 3), vi (bi (∀ x, x < i → -9 ≤ bndV σ kc f ((t0 : Int) - 3) x ∧ bndV σ kc f ((t0 : Int) - 3) x ≤ 9)), vi (i : Int), vi (bndV σ kc f ((t0 : Int) - 3) i)] [vi b] h Q := by
                              intro b hb
                              rw [hb]
                              refine z_istore dL_act_908 (by decide) rfl ?_
                              refine z_iinc dL_act_910 rfl (by decide) rfl ?_
                              refine z_goto 852 dL_act_913 (by decide) ?_
                              refine z_forget 12 ?_
                              rw [show (i : Int) + 1 = ((i + 1 : Nat) : Int) by omega]
                              exact ih852 (i + 1) (by omega) (by omega)
                            refine z_aload_n dL_act_860 rfl ?_
                            refine z_bipush dL_act_861 (by decide) ?_
                            refine z_iload dL_act_863 rfl ?_
                            refine z_imul dL_act_865 ?_
                            refine z_iload dL_act_866 rfl ?_
                            refine z_iadd dL_act_868 ?_
                            refine z_iaload dL_act_869 (by decide) rfl (by omega) (by omega) (by first | decide | omega) (fun r869 => ?_)
                            rw [cc_ch Cc hkc (show i < sE σ by omega) (z := 6 * (kc : Int) + (i : Int)) rfl]
                            have cb := W.2.2.2.2.2 kc i hkc (by omega)
                            refine z_iload dL_act_870 rfl ?_
                            refine z_aload_n dL_act_872 rfl ?_
                            refine z_iload dL_act_873 rfl ?_
                            refine z_iload dL_act_875 rfl ?_
                            refine z_callS_eI (M := mL_act) [_, _, _] tL_two kL_15 dL_act_877 ⟨by decide, by decide⟩ rfl (Nat.le_of_ble_eq_true rfl) rfl (c_L_two W Zc (e := i) (f := f) (by omega) hf1) ?_
                            have t2 := ent2_r W hf1 (i := i)
                            refine z_imul dL_act_880 ?_
                            refine z_iadd dL_act_881 ?_
                            rw [show sch σ kc i + ((t0 : Int) - 3) * ent2 σ i f = bndV σ kc f ((t0 : Int) - 3) i from rfl]
                            have bv : -100 ≤ bndV σ kc f ((t0 : Int) - 3) i ∧ bndV σ kc f ((t0 : Int) - 3) i ≤ 100 := by
                              unfold bndV
                              have := bnd_m (a := ((t0 : Int) - 3)) (b := ent2 σ i f) (by omega) t2
                              omega
                            refine z_istore dL_act_882 (by decide) rfl ?_
                            refine z_iload dL_act_884 rfl ?_
                            refine z_if_eq 907 dL_act_886 (by decide) (bi_r _) (fun c886 => ?_) (fun c886 => ?_)
                            · have c886 := bi_eq.mp c886
                              refine z_iconst dL_act_907 ?_
                              exact k908 0 (bi_f fun q => c886 fun x hx => q x (by omega))
                            · have c886 := bi_ne.mp c886
                              refine z_iload dL_act_889 rfl ?_
                              refine z_bipush dL_act_891 (by decide) ?_
                              refine z_icmp_ge 907 dL_act_893 (by decide) (by omega) (by omega) (fun c893 => ?_) (fun c893 => ?_)
                              · refine z_iconst dL_act_907 ?_
                                exact k908 0 (bi_f fun q => by have := q i (by omega); omega)
                              · refine z_iload dL_act_896 rfl ?_
                                refine z_bipush dL_act_898 (by decide) ?_
                                refine z_icmp_le 907 dL_act_900 (by decide) (by omega) (by omega) (fun c900 => ?_) (fun c900 => ?_)
                                · refine z_iconst dL_act_907 ?_
                                  exact k908 0 (bi_f fun q => by have := q i (by omega); omega)
                                · refine z_iconst dL_act_903 ?_
                                  refine z_goto 908 dL_act_904 (by decide) ?_
                                  exact k908 1 (bi_t fun x hx => by
                                    by_cases z : x = i
                                    · rw [z]; omega
                                    · exact c886 x (by omega))
                      have e9 := loop852 _ 0 (Nat.zero_le _) (Nat.lt_succ_self _)
                      rw [show bi (∀ x, x < 0 → -9 ≤ bndV σ kc f ((t0 : Int) - 3) x ∧ bndV σ kc f ((t0 : Int) - 3) x ≤ 9) = 1 from (bi_t fun x hx => absurd hx (Nat.not_lt_zero x)).symm] at e9
                      exact e9
                    · refine z_aload_n dL_act_826 rfl ?_
                      refine z_iload dL_act_827 rfl ?_
                      refine z_iconst dL_act_829 ?_
                      refine z_iload dL_act_830 rfl ?_
                      refine z_callV_eI (M := mL_act) [_, _, _] tX5_bound kL_122 dL_act_832 ⟨by decide, rfl, _, _, rfl⟩ ⟨by decide, by decide⟩ rfl (Nat.le_of_ble_eq_true rfl) rfl (c_X5_boundO W P.1 (by omega) (by decide) (by omega) (by omega)) ?_
                      refine z_ldc (-1000001) dL_act_835 qL_80 rfl ?_
                      refine z_icmp_ne 844 dL_act_837 (by decide) (by decide) (by decide) (fun c837 => ?_) (fun c837 => ?_)
                      · first | exact absurd rfl c837 | omega
                      · refine z_iconst dL_act_840 ?_
                        refine z_goto 845 dL_act_841 (by decide) ?_
                        exact z_ireturn dL_act_845 rfl (hQ _ _ ⟨_, rfl, ⟨by decide, σ, as, J⟩⟩)
                · refine z_iload dL_act_703 rfl ?_
                  refine z_iconst dL_act_705 ?_
                  refine z_ishr dL_act_706 ?_
                  refine z_bipush dL_act_707 (by decide) ?_
                  refine z_callS_pI (M := mL_act) [_, _] tL_less kL_46 dL_act_709 ⟨by decide, by decide⟩ rfl (Nat.le_of_ble_eq_true rfl) rfl (c_L_less (by first | decide | omega)) (fun z709 q709 => ?_)
                  obtain ⟨t0, rfl⟩ := Int.eq_ofNat_of_zero_le q709.1
                  have ht0 : t0 < 19 := by have := q709.2; omega
                  refine z_bipush dL_act_712 (by decide) ?_
                  refine z_isub dL_act_714 ?_
                  refine z_istore dL_act_715 (by decide) rfl ?_
                  refine z_aload_n dL_act_717 rfl ?_
                  refine z_iconst dL_act_718 ?_
                  refine z_iaload dL_act_719 (by decide) rfl (by omega) (by omega) (by first | decide | omega) (fun r719 => ?_)
                  rw [show h 47 (Int.toNat 1) = sE σ from Zc.2.1]
                  refine z_if_ne 743 dL_act_720 (by decide) (by omega) (fun c720 => ?_) (fun c720 => ?_)
                  · have he1 := he (by omega)
                    have cb := W.2.2.2.2.2 kc e hkc he1
                    refine z_aload_n dL_act_743 rfl ?_
                    refine z_bipush dL_act_744 (by decide) ?_
                    refine z_iload dL_act_746 rfl ?_
                    refine z_imul dL_act_748 ?_
                    refine z_iload dL_act_749 rfl ?_
                    refine z_iadd dL_act_751 ?_
                    refine z_iaload dL_act_752 (by decide) rfl (by omega) (by omega) (by first | decide | omega) (fun r752 => ?_)
                    rw [cc_ch Cc hkc he1 (z := 6 * (kc : Int) + (e : Int)) rfl]
                    refine z_istore dL_act_753 (by decide) rfl ?_
                    refine z_aload_n dL_act_755 rfl ?_
                    refine z_bipush dL_act_756 (by decide) ?_
                    refine z_iload dL_act_758 rfl ?_
                    refine z_imul dL_act_760 ?_
                    refine z_iload dL_act_761 rfl ?_
                    refine z_iadd dL_act_763 ?_
                    refine z_iload dL_act_764 rfl ?_
                    refine z_iastore dL_act_766 (by decide) rfl (by omega) (by omega) (by first | decide | omega) (by omega) ?_
                    rw [show (6 * (kc : Int) + (e : Int)).toNat = 6 * kc + e by omega]
                    generalize e1 : up h 48 (6 * kc + e) ((t0 : Int) - 9) = h1
                    have P1 := P.up48 e1
                    have L1 : LJ h1 (setCh σ kc e ((t0 : Int) - 9)) as.length := L.putc e1 Zc (cc_put w2 Cc hkc he1)
                    refine z_aload_n dL_act_767 rfl ?_
                    refine z_aload_n dL_act_768 rfl ?_
                    refine z_iload dL_act_769 rfl ?_
                    refine z_iload dL_act_771 rfl ?_
                    refine z_iload dL_act_773 rfl ?_
                    refine z_callV_I (M := mL_act) [_, _, _] tX5_put kL_119 dL_act_775 ⟨by decide, rfl, _, _, rfl⟩ ⟨by decide, by decide⟩ rfl (Nat.le_of_ble_eq_true rfl) rfl (c_X5_put1 W P1.1 P1.2.1 (c := kc) (e := e) hkc he1 (by omega)) (fun z775 h775 q775 => ?_)
                    obtain ⟨rfl, A775⟩ := q775
                    refine z_iload dL_act_778 rfl ?_
                    refine z_icmp_ne 787 dL_act_780 (by decide) (by omega) (by omega) (fun c780 => ?_) (fun c780 => ?_)
                    · first | exact absurd rfl c780 | omega
                    · refine z_iconst dL_act_783 ?_
                      refine z_goto 788 dL_act_784 (by decide) ?_
                      refine z_callS_I (M := mL_act) [_, _] tL_noted kL_96 dL_act_788 ⟨by decide, by decide⟩ rfl (Nat.le_of_ble_eq_true rfl) rfl (c_L_noted (k := as.length) (L1.n3 A775) h8) (fun z788 h788 q788 => ?_)
                      obtain ⟨rfl, rfl⟩ := q788
                      refine z_if_eq 798 dL_act_791 (by decide) (by omega) (fun c791 => ?_) (fun c791 => ?_)
                      · omega
                      · refine z_iconst dL_act_794 ?_
                        refine z_goto 799 dL_act_795 (by decide) ?_
                        exact z_ireturn dL_act_799 rfl (hQ _ _ ⟨_, rfl, ⟨by decide, _, _, JL.fin (WF_setCh W (by omega)) P1 L1 A775 h0⟩⟩)
                  · refine z_aload_n dL_act_723 rfl ?_
                    refine z_iload dL_act_724 rfl ?_
                    refine z_iconst dL_act_726 ?_
                    refine z_iload dL_act_727 rfl ?_
                    refine z_callV_eI (M := mL_act) [_, _, _] tX5_put kL_119 dL_act_729 ⟨by decide, rfl, _, _, rfl⟩ ⟨by decide, by decide⟩ rfl (Nat.le_of_ble_eq_true rfl) rfl (c_X5_putO W P.1 (by omega) (by decide) (by omega) (by omega)) ?_
                    refine z_ldc (-1000001) dL_act_732 qL_80 rfl ?_
                    refine z_icmp_ne 741 dL_act_734 (by decide) (by decide) (by decide) (fun c734 => ?_) (fun c734 => ?_)
                    · first | exact absurd rfl c734 | omega
                    · refine z_iconst dL_act_737 ?_
                      refine z_goto 742 dL_act_738 (by decide) ?_
                      exact z_ireturn dL_act_742 rfl (hQ _ _ ⟨_, rfl, ⟨by decide, σ, as, J⟩⟩)
              · refine z_aload_n dL_act_633 rfl ?_
                refine z_iconst dL_act_634 ?_
                refine z_iaload dL_act_635 (by decide) rfl (by omega) (by omega) (by first | decide | omega) (fun r635 => ?_)
                rw [show h 47 (Int.toNat 2) = sF σ from Zc.2.2.1]
                refine z_if_ne 656 dL_act_636 (by decide) (by omega) (fun c636 => ?_) (fun c636 => ?_)
                · refine z_aload_n dL_act_656 rfl ?_
                  refine z_aload_n dL_act_657 rfl ?_
                  refine z_iconst dL_act_658 ?_
                  refine z_iload dL_act_659 rfl ?_
                  refine z_callS_I (M := mL_act) [_, _, _, _] tL_gone kL_115 dL_act_661 ⟨by decide, by decide⟩ rfl (Nat.le_of_ble_eq_true rfl) rfl (c_L_goneF W Zc zb (d := f) (hf (by omega))) (fun z661 h661 q661 => ?_)
                  obtain ⟨rfl, g1, g3, g4, g5⟩ := q661
                  have P1 := P.lw (fun k k1 _ => g5 k k1)
                  have L1 : LJ h661 (dropF σ f) as.length := ⟨g1, g4.trans l3, g3, by rw [g5 48 (by decide)]; exact Cc⟩
                  refine z_istore dL_act_664 (by decide) rfl ?_
                  refine z_aload_n dL_act_666 rfl ?_
                  refine z_aload_n dL_act_667 rfl ?_
                  refine z_iconst dL_act_668 ?_
                  refine z_iload dL_act_669 rfl ?_
                  refine z_callV_I (M := mL_act) [_, _] tX5_drop kL_107 dL_act_671 ⟨by decide, rfl, _, _, rfl⟩ ⟨by decide, by decide⟩ rfl (Nat.le_of_ble_eq_true rfl) rfl (c_X5_drop2 W P1.1 P1.2.1 (c := f) (hf (by omega))) (fun z671 h671 q671 => ?_)
                  obtain ⟨rfl, A671⟩ := q671
                  refine z_iload dL_act_674 rfl ?_
                  refine z_icmp_ne 683 dL_act_676 (by decide) (by omega) (by omega) (fun c676 => ?_) (fun c676 => ?_)
                  · first | exact absurd rfl c676 | omega
                  · refine z_iconst dL_act_679 ?_
                    refine z_goto 684 dL_act_680 (by decide) ?_
                    refine z_callS_I (M := mL_act) [_, _] tL_noted kL_96 dL_act_684 ⟨by decide, by decide⟩ rfl (Nat.le_of_ble_eq_true rfl) rfl (c_L_noted (k := as.length) (L1.n3 A671) h8) (fun z684 h684 q684 => ?_)
                    obtain ⟨rfl, rfl⟩ := q684
                    refine z_if_eq 694 dL_act_687 (by decide) (by omega) (fun c687 => ?_) (fun c687 => ?_)
                    · omega
                    · refine z_iconst dL_act_690 ?_
                      refine z_goto 695 dL_act_691 (by decide) ?_
                      exact z_ireturn dL_act_695 rfl (hQ _ _ ⟨_, rfl, ⟨by decide, _, _, JL.fin (WF_dropF W (hf (by omega))) P1 L1 A671 h0⟩⟩)
                · refine z_aload_n dL_act_639 rfl ?_
                  refine z_iconst dL_act_640 ?_
                  refine z_iconst dL_act_641 ?_
                  refine z_callV_eI (M := mL_act) [_, _] tX5_drop kL_107 dL_act_642 ⟨by decide, rfl, _, _, rfl⟩ ⟨by decide, by decide⟩ rfl (Nat.le_of_ble_eq_true rfl) rfl (c_X5_dropO2 W P.1 (by decide) (by omega)) ?_
                  refine z_ldc (-1000001) dL_act_645 qL_80 rfl ?_
                  refine z_icmp_ne 654 dL_act_647 (by decide) (by decide) (by decide) (fun c647 => ?_) (fun c647 => ?_)
                  · first | exact absurd rfl c647 | omega
                  · refine z_iconst dL_act_650 ?_
                    refine z_goto 655 dL_act_651 (by decide) ?_
                    exact z_ireturn dL_act_655 rfl (hQ _ _ ⟨_, rfl, ⟨by decide, σ, as, J⟩⟩)
            · refine z_aload_n dL_act_536 rfl ?_
              refine z_iconst dL_act_537 ?_
              refine z_iaload dL_act_538 (by decide) rfl (by omega) (by omega) (by first | decide | omega) (fun r538 => ?_)
              rw [show h 47 (Int.toNat 1) = sE σ from Zc.2.1]
              refine z_if_ne 559 dL_act_539 (by decide) (by omega) (fun c539 => ?_) (fun c539 => ?_)
              · refine z_aload_n dL_act_559 rfl ?_
                refine z_iload dL_act_560 rfl ?_
                refine z_callS_eI (M := mL_act) [_, _] tL_spelled kL_110 dL_act_562 ⟨by decide, by decide⟩ rfl (Nat.le_of_ble_eq_true rfl) rfl (c_L_spelled W Zc (e := e) (by omega)) ?_
                refine z_if_eq 586 dL_act_565 (by decide) (bi_r _) (fun c565 => ?_) (fun c565 => ?_)
                · have c565 := bi_eq.mp c565
                  refine z_aload_n dL_act_586 rfl ?_
                  refine z_aload_n dL_act_587 rfl ?_
                  refine z_iconst dL_act_588 ?_
                  refine z_iload dL_act_589 rfl ?_
                  refine z_callS_I (M := mL_act) [_, _, _, _] tL_gone kL_115 dL_act_591 ⟨by decide, by decide⟩ rfl (Nat.le_of_ble_eq_true rfl) rfl (c_L_goneE W Zc zb Cc (d := e) (he (by omega))) (fun z591 h591 q591 => ?_)
                  obtain ⟨rfl, g1, g2, g3, g4, g5⟩ := q591
                  have P1 := P.lw g5
                  have L1 : LJ h591 (dropE σ e) as.length := ⟨g1, g4.trans l3, g3, g2⟩
                  refine z_istore dL_act_594 (by decide) rfl ?_
                  refine z_aload_n dL_act_596 rfl ?_
                  refine z_aload_n dL_act_597 rfl ?_
                  refine z_iconst dL_act_598 ?_
                  refine z_iload dL_act_599 rfl ?_
                  refine z_callV_I (M := mL_act) [_, _] tX5_drop kL_107 dL_act_601 ⟨by decide, rfl, _, _, rfl⟩ ⟨by decide, by decide⟩ rfl (Nat.le_of_ble_eq_true rfl) rfl (c_X5_drop1 W P1.1 P1.2.1 (c := e) (he (by omega)) c565) (fun z601 h601 q601 => ?_)
                  obtain ⟨rfl, A601⟩ := q601
                  refine z_iload dL_act_604 rfl ?_
                  refine z_icmp_ne 613 dL_act_606 (by decide) (by omega) (by omega) (fun c606 => ?_) (fun c606 => ?_)
                  · first | exact absurd rfl c606 | omega
                  · refine z_iconst dL_act_609 ?_
                    refine z_goto 614 dL_act_610 (by decide) ?_
                    refine z_callS_I (M := mL_act) [_, _] tL_noted kL_96 dL_act_614 ⟨by decide, by decide⟩ rfl (Nat.le_of_ble_eq_true rfl) rfl (c_L_noted (k := as.length) (L1.n3 A601) h8) (fun z614 h614 q614 => ?_)
                    obtain ⟨rfl, rfl⟩ := q614
                    refine z_if_eq 624 dL_act_617 (by decide) (by omega) (fun c617 => ?_) (fun c617 => ?_)
                    · omega
                    · refine z_iconst dL_act_620 ?_
                      refine z_goto 625 dL_act_621 (by decide) ?_
                      exact z_ireturn dL_act_625 rfl (hQ _ _ ⟨_, rfl, ⟨by decide, _, _, JL.fin (WF_dropE W (he (by omega)) c565) P1 L1 A601 h0⟩⟩)
                · have c565 := bi_ne.mp c565
                  refine z_aload_n dL_act_568 rfl ?_
                  refine z_iconst dL_act_569 ?_
                  refine z_iload dL_act_570 rfl ?_
                  refine z_callV_eI (M := mL_act) [_, _] tX5_drop kL_107 dL_act_572 ⟨by decide, rfl, _, _, rfl⟩ ⟨by decide, by decide⟩ rfl (Nat.le_of_ble_eq_true rfl) rfl (c_X5_dropS W P.1 (c := e) (he (by omega)) c565) ?_
                  refine z_ldc (-1000002) dL_act_575 qL_114 rfl ?_
                  refine z_icmp_ne 584 dL_act_577 (by decide) (by decide) (by decide) (fun c577 => ?_) (fun c577 => ?_)
                  · first | exact absurd rfl c577 | omega
                  · refine z_iconst dL_act_580 ?_
                    refine z_goto 585 dL_act_581 (by decide) ?_
                    exact z_ireturn dL_act_585 rfl (hQ _ _ ⟨_, rfl, ⟨by decide, σ, as, J⟩⟩)
              · refine z_aload_n dL_act_542 rfl ?_
                refine z_iconst dL_act_543 ?_
                refine z_iconst dL_act_544 ?_
                refine z_callV_eI (M := mL_act) [_, _] tX5_drop kL_107 dL_act_545 ⟨by decide, rfl, _, _, rfl⟩ ⟨by decide, by decide⟩ rfl (Nat.le_of_ble_eq_true rfl) rfl (c_X5_dropO1 W P.1 (by decide) (by omega)) ?_
                refine z_ldc (-1000001) dL_act_548 qL_80 rfl ?_
                refine z_icmp_ne 557 dL_act_550 (by decide) (by decide) (by decide) (fun c550 => ?_) (fun c550 => ?_)
                · first | exact absurd rfl c550 | omega
                · refine z_iconst dL_act_553 ?_
                  refine z_goto 558 dL_act_554 (by decide) ?_
                  exact z_ireturn dL_act_558 rfl (hQ _ _ ⟨_, rfl, ⟨by decide, σ, as, J⟩⟩)
          · refine z_aload_n dL_act_377 rfl ?_
            refine z_iconst dL_act_378 ?_
            refine z_iaload dL_act_379 (by decide) rfl (by omega) (by omega) (by first | decide | omega) (fun r379 => ?_)
            rw [show h 47 (Int.toNat 1) = sE σ from Zc.2.1]
            refine z_if_eq 390 dL_act_380 (by decide) (by omega) (fun c380 => ?_) (fun c380 => ?_)
            · refine z_aload_n dL_act_390 rfl ?_
              refine z_bipush dL_act_391 (by decide) ?_
              refine z_callV_I (M := mL_act) [_] tX5_feed kL_58 dL_act_393 ⟨by decide, rfl, _, _, rfl⟩ ⟨by decide, by decide⟩ rfl (Nat.le_of_ble_eq_true rfl) rfl (c_feed (TL.nil P.2.2.1 P.2.2.2) (by decide) (by decide)) (fun z393 h393 q393 => ?_)
              refine z_pop dL_act_396 rfl ?_
              refine z_aload_n dL_act_397 rfl ?_
              refine z_bipush dL_act_398 (by decide) ?_
              refine z_callV_I (M := mL_act) [_] tX5_feed kL_58 dL_act_400 ⟨by decide, rfl, _, _, rfl⟩ ⟨by decide, by decide⟩ rfl (Nat.le_of_ble_eq_true rfl) rfl (c_feed q393.1 (by decide) (by decide)) (fun z400 h400 q400 => ?_)
              refine z_pop dL_act_403 rfl ?_
              refine z_aload_n dL_act_404 rfl ?_
              refine z_iconst dL_act_405 ?_
              refine z_callV_I (M := mL_act) [_] tX5_face kL_104 dL_act_406 ⟨by decide, rfl, _, _, rfl⟩ ⟨by decide, by decide⟩ rfl (Nat.le_of_ble_eq_true rfl) rfl (c_X5_faceO (n := 2) q400.1.1 (by decide) q400.1.2.2.2.1 W (P.1.fd (q393.2.trans q400.2)) (by decide) h0 (Or.inl (face_none (by omega)))) (fun z406 h406 q406 => ?_)
              have J6 := J.clr (q393.2.trans q400.2) q400.1.2.2.2.1 q406.2
              obtain ⟨rfl, T406⟩ := q406
              refine z_aload_n dL_act_409 rfl ?_
              refine z_iconst dL_act_410 ?_
              refine z_iaload dL_act_411 (by decide) rfl (by omega) (by omega) (by first | decide | omega) (fun r411 => ?_)
              rw [show h406 47 (Int.toNat 1) = sE σ by rw [T406.2 47 (by decide) (by decide) (by decide), (q393.2.trans q400.2) 47 (by decide) (by decide)]; exact Zc.2.1]
              refine z_if_ne 420 dL_act_412 (by decide) (by omega) (fun c412 => ?_) (fun c412 => ?_)
              · omega
              · refine z_ldc (-1000001) dL_act_415 qL_80 rfl ?_
                refine z_goto 422 dL_act_417 (by decide) ?_
                refine z_icmp_ne 429 dL_act_422 (by decide) (by decide) (by decide) (fun c422 => ?_) (fun c422 => ?_)
                · first | exact absurd rfl c422 | omega
                · refine z_iconst dL_act_425 ?_
                  refine z_goto 430 dL_act_426 (by decide) ?_
                  exact z_ireturn dL_act_430 rfl (hQ _ _ ⟨_, rfl, ⟨by decide, σ, as, J6⟩⟩)
            · refine z_aload_n dL_act_383 rfl ?_
              refine z_iconst dL_act_384 ?_
              refine z_iaload dL_act_385 (by decide) rfl (by omega) (by omega) (by first | decide | omega) (fun r385 => ?_)
              refine z_iconst dL_act_386 ?_
              rw [show h 47 (Int.toNat 2) = sF σ from Zc.2.2.1]
              refine z_icmp_ne 431 dL_act_387 (by decide) (by omega) (by omega) (fun c387 => ?_) (fun c387 => ?_)
              · have hF4 : sF σ < 4 := by omega
                have hE0 : 0 < sE σ := by omega
                refine z_aload_n dL_act_431 rfl ?_
                refine z_bipush dL_act_432 (by decide) ?_
                refine z_bipush dL_act_434 (by decide) ?_
                refine z_aload_n dL_act_436 rfl ?_
                refine z_iconst dL_act_437 ?_
                refine z_iaload dL_act_438 (by decide) rfl (by omega) (by omega) (by first | decide | omega) (fun r438 => ?_)
                rw [show h 47 (Int.toNat 2) = sF σ from Zc.2.2.1]
                refine z_imul dL_act_439 ?_
                refine z_iadd dL_act_440 ?_
                refine z_iconst dL_act_441 ?_
                refine z_iload dL_act_442 rfl ?_
                refine z_bipush dL_act_444 (by decide) ?_
                refine z_ishr dL_act_446 ?_
                refine z_iconst dL_act_447 ?_
                refine z_callS_pI (M := mL_act) [_, _] tL_less kL_46 dL_act_448 ⟨by decide, by decide⟩ rfl (Nat.le_of_ble_eq_true rfl) rfl (c_L_less (by first | decide | omega)) (fun z448 q448 => ?_)
                obtain ⟨w0, rfl⟩ := Int.eq_ofNat_of_zero_le q448.1
                have hw0 : w0 < 3 := by have := q448.2; omega
                refine z_iadd dL_act_451 ?_
                rw [show 1 + (w0 : Int) = ((1 + w0 : Nat) : Int) by omega]
                refine z_iastore dL_act_452 (by decide) rfl (by omega) (by omega) (by first | decide | omega) (by omega) ?_
                rw [show (22 + 6 * (sF σ : Int)).toNat = 22 + 6 * sF σ by omega]
                generalize e1 : up h 47 (22 + 6 * sF σ) ((1 + w0 : Nat) : Int) = h1
                obtain ⟨u1, n1⟩ := up_e e1
                have Z1 : ZC (h1 47) σ := zc_lo W Zc (fun j hj => by rw [u1]; exact if_neg (by omega))
                have zb1 : ZB (h1 47) := by rw [u1]; exact ZB_up zb (by omega)
                have f1v : h1 47 (Int.toNat 2) = sF σ := Z1.2.2.1
                refine z_aload_n dL_act_453 rfl ?_
                refine z_bipush dL_act_454 (by decide) ?_
                refine z_bipush dL_act_456 (by decide) ?_
                refine z_aload_n dL_act_458 rfl ?_
                refine z_iconst dL_act_459 ?_
                refine z_iaload dL_act_460 (by decide) rfl (by omega) (by omega) (by first | decide | omega) (fun r460 => ?_)
                rw [f1v]
                refine z_imul dL_act_461 ?_
                refine z_iadd dL_act_462 ?_
                refine z_aload_n dL_act_463 rfl ?_
                refine z_aload_n dL_act_464 rfl ?_
                refine z_iconst dL_act_465 ?_
                refine z_iaload dL_act_466 (by decide) rfl (by omega) (by omega) (by first | decide | omega) (fun r466 => ?_)
                rw [f1v]
                refine z_iload dL_act_467 rfl ?_
                refine z_callS_I (M := mL_act) [_, _, _] tL_word kL_66 dL_act_469 ⟨by decide, by decide⟩ rfl (Nat.le_of_ble_eq_true rfl) rfl (c_L_word W Z1 zb1 hF4 hE0) (fun z469 h469 q469 => ?_)
                obtain ⟨n, le0, sg0, rfl, ⟨V0, cl0, e23, L0⟩, K1⟩ := q469
                obtain ⟨le, sg, ep, ag⟩ := pWord_tape w2 V0 cl0
                have Lw : WL (h469 47) (24 + 6 * sF σ) n le sg := fun k hk => by rw [(ag k hk).1, (ag k hk).2]; exact L0 k hk
                have V : WV σ n le sg ∧ wcl σ n le sg := pWord_wv w2 _ _ _ _ _ (wv_0 σ) _ ep
                have n4 : n ≤ 4 := V.1.1
                have ep0 := ep
                rw [show wls n le0 sg0 = wls n le sg by unfold wls; exact List.map_congr_left fun k hk => by rw [(ag k (List.mem_range.mp hk)).1, (ag k (List.mem_range.mp hk)).2]] at ep
                refine z_iastore dL_act_472 (by decide) rfl (by omega) (by omega) (by first | decide | omega) (by omega) ?_
                rw [show (23 + 6 * (sF σ : Int)).toNat = 23 + 6 * sF σ by omega, up_id e23]
                have T2 : TL h469 [] := TL.nil (by rw [K1.1 5 (by decide), n1 5 (by decide)]; exact P.2.2.1) (by unfold TB; rw [K1.1 6 (by decide), n1 6 (by decide)]; exact P.2.2.2)
                have f2v : h469 47 (Int.toNat 2) = sF σ := (K1.2.1 2 (by omega)).trans f1v
                refine z_aload_n dL_act_473 rfl ?_
                refine z_aload_n dL_act_474 rfl ?_
                refine z_aload_n dL_act_475 rfl ?_
                refine z_iconst dL_act_476 ?_
                refine z_iaload dL_act_477 (by decide) rfl (by omega) (by omega) (by first | decide | omega) (fun r477 => ?_)
                rw [f2v]
                refine z_callS_V (M := mL_act) [_, _, _] tL_spells kL_69 dL_act_478 ⟨by decide, by decide⟩ rfl (Nat.le_of_ble_eq_true rfl) rfl (c_L_spells (l := []) (f := sF σ) (n := n) (le := le) (sg := sg) T2 hF4 V.1.1 (by have := V.1.1; show 0 + n ≤ 90; omega) e23 Lw (fun k hk => by have := V.1.2.1 k hk; show le k < 26; have : le k < sE σ := V.1.2.1 k hk; omega)) (fun h478 q478 => ?_)
                refine z_aload_n dL_act_481 rfl ?_
                refine z_iconst dL_act_482 ?_
                refine z_dup2 dL_act_483 rfl rfl ?_
                refine z_iaload dL_act_484 (by decide) rfl (by omega) (by omega) (by first | decide | omega) (fun r484 => ?_)
                rw [show h478 47 (Int.toNat 2) = sF σ by rw [q478.2 47 (by decide) (by decide)]; exact f2v]
                refine z_iconst dL_act_485 ?_
                refine z_iadd dL_act_486 ?_
                refine z_iastore dL_act_487 (by decide) rfl (by omega) (by omega) (by first | decide | omega) (by omega) ?_
                generalize e3 : up h478 47 (Int.toNat 2) ((sF σ : Int) + 1) = h3
                have Z3 := face_z W Zc hF4 e1 K1 e23 Lw V.1.1 q478.2 e3
                refine z_aload_n dL_act_488 rfl ?_
                refine z_aload_n dL_act_489 rfl ?_
                refine z_aload_n dL_act_490 rfl ?_
                refine z_bipush dL_act_491 (by decide) ?_
                refine z_bipush dL_act_493 (by decide) ?_
                refine z_aload_n dL_act_495 rfl ?_
                refine z_iconst dL_act_496 ?_
                refine z_iaload dL_act_497 (by decide) rfl (by omega) (by omega) (by first | decide | omega) (fun r497 => ?_)
                rw [show h3 47 (Int.toNat 2) = (sF σ : Int) + 1 from Z3.2.2.2.2.2.2.2.1]
                refine z_imul dL_act_498 ?_
                refine z_iadd dL_act_499 ?_
                refine z_iaload dL_act_500 (by decide) rfl (by omega) (by omega) (by first | decide | omega) (fun r500 => ?_)
                rw [show h3 47 (16 + 6 * ((sF σ : Int) + 1)).toNat = ((1 + w0 : Nat) : Int) from (ix (i := 22 + 6 * sF σ) (by omega)).trans Z3.2.2.2.2.2.2.2.2]
                refine z_callV_I (M := mL_act) [_] tX5_face kL_104 dL_act_501 ⟨by decide, rfl, _, _, rfl⟩ ⟨by decide, by decide⟩ rfl (Nat.le_of_ble_eq_true rfl) rfl (c_X5_face1 (n := n) (by rw [Z3.2.2.2.2.2.1]; exact q478.1.1.trans (by rw [List.nil_append, wls_len])) (by have := V.1.1; show n ≤ 90; have : n ≤ 4 := V.1.1; omega) (by unfold TB; rw [Z3.2.2.2.2.2.2.1]; exact q478.1.2.2.2.1) W (by rw [Z3.2.2.2.2.1 2 (by decide) (by decide) (by decide)]; exact P.1) (w := 1 + w0) (by omega) h0 (m := n) (le := le) (sg := sg) (by rw [tkT_fr2 Z3.2.2.2.2.2.1 Z3.2.2.2.2.2.2.1, q478.1.tk]; exact ep) hF4 (RA_keep P.2.1 (fun j _ => by rw [Z3.2.2.2.2.1 0 (by decide) (by decide) (by decide)]) (fun k k1 k2 => Z3.2.2.2.2.1 k (by omega) (by omega) (by omega)))) (fun z501 h501 q501 => ?_)
                obtain ⟨rfl, hx, Tx, A501⟩ := q501
                refine z_aload_n dL_act_504 rfl ?_
                refine z_iconst dL_act_505 ?_
                refine z_iaload dL_act_506 (by decide) rfl (by omega) (by omega) (by first | decide | omega) (fun r506 => ?_)
                rw [show h501 47 (Int.toNat 2) = (sF σ : Int) + 1 by rw [A501.k (by decide) (by decide) (by decide), Tx.2 47 (by decide) (by decide) (by decide)]; exact Z3.2.2.2.2.2.2.2.1]
                refine z_iconst dL_act_507 ?_
                refine z_isub dL_act_508 ?_
                refine z_icmp_ne 516 dL_act_509 (by decide) (by omega) (by omega) (fun c509 => ?_) (fun c509 => ?_)
                · omega
                · refine z_iconst dL_act_512 ?_
                  refine z_goto 517 dL_act_513 (by decide) ?_
                  refine z_callS_I (M := mL_act) [_, _] tL_noted kL_96 dL_act_517 ⟨by decide, by decide⟩ rfl (Nat.le_of_ble_eq_true rfl) rfl (c_L_noted (k := as.length) (by rw [A501.k (by decide) (by decide) (by decide), Tx.2 47 (by decide) (by decide) (by decide), Z3.2.2.1]; exact l3) h8) (fun z517 h517 q517 => ?_)
                  obtain ⟨rfl, rfl⟩ := q517
                  refine z_if_eq 527 dL_act_520 (by decide) (by omega) (fun c520 => ?_) (fun c520 => ?_)
                  · omega
                  · refine z_iconst dL_act_523 ?_
                    refine z_goto 528 dL_act_524 (by decide) ?_
                    exact z_ireturn dL_act_528 rfl (hQ _ _ ⟨_, rfl, ⟨by decide, _, _, face_fin J hF4 (by omega) V.1 V.2 Z3 q478.1.2.2.2.1 Tx A501⟩⟩)
              · refine z_aload_n dL_act_390 rfl ?_
                refine z_bipush dL_act_391 (by decide) ?_
                refine z_callV_I (M := mL_act) [_] tX5_feed kL_58 dL_act_393 ⟨by decide, rfl, _, _, rfl⟩ ⟨by decide, by decide⟩ rfl (Nat.le_of_ble_eq_true rfl) rfl (c_feed (TL.nil P.2.2.1 P.2.2.2) (by decide) (by decide)) (fun z393 h393 q393 => ?_)
                refine z_pop dL_act_396 rfl ?_
                refine z_aload_n dL_act_397 rfl ?_
                refine z_bipush dL_act_398 (by decide) ?_
                refine z_callV_I (M := mL_act) [_] tX5_feed kL_58 dL_act_400 ⟨by decide, rfl, _, _, rfl⟩ ⟨by decide, by decide⟩ rfl (Nat.le_of_ble_eq_true rfl) rfl (c_feed q393.1 (by decide) (by decide)) (fun z400 h400 q400 => ?_)
                refine z_pop dL_act_403 rfl ?_
                refine z_aload_n dL_act_404 rfl ?_
                refine z_iconst dL_act_405 ?_
                refine z_callV_I (M := mL_act) [_] tX5_face kL_104 dL_act_406 ⟨by decide, rfl, _, _, rfl⟩ ⟨by decide, by decide⟩ rfl (Nat.le_of_ble_eq_true rfl) rfl (c_X5_faceF (n := 2) q400.1.1 (by decide) q400.1.2.2.2.1 W (P.1.fd (q393.2.trans q400.2)) (w := 1) (by decide) h0 (face_aA w2 (by omega) q400.1).choose_spec.choose_spec (by omega)) (fun z406 h406 q406 => ?_)
                have J6 := J.clr (q393.2.trans q400.2) q400.1.2.2.2.1 q406.2
                obtain ⟨rfl, T406⟩ := q406
                refine z_aload_n dL_act_409 rfl ?_
                refine z_iconst dL_act_410 ?_
                refine z_iaload dL_act_411 (by decide) rfl (by omega) (by omega) (by first | decide | omega) (fun r411 => ?_)
                rw [show h406 47 (Int.toNat 1) = sE σ by rw [T406.2 47 (by decide) (by decide) (by decide), (q393.2.trans q400.2) 47 (by decide) (by decide)]; exact Zc.2.1]
                refine z_if_ne 420 dL_act_412 (by decide) (by omega) (fun c412 => ?_) (fun c412 => ?_)
                · refine z_ldc (-1000003) dL_act_420 qL_103 rfl ?_
                  refine z_icmp_ne 429 dL_act_422 (by decide) (by decide) (by decide) (fun c422 => ?_) (fun c422 => ?_)
                  · first | exact absurd rfl c422 | omega
                  · refine z_iconst dL_act_425 ?_
                    refine z_goto 430 dL_act_426 (by decide) ?_
                    exact z_ireturn dL_act_430 rfl (hQ _ _ ⟨_, rfl, ⟨by decide, σ, as, J6⟩⟩)
                · omega
        · refine z_iload dL_act_202 rfl ?_
          refine z_aload_n dL_act_204 rfl ?_
          refine z_iconst dL_act_205 ?_
          refine z_iaload dL_act_206 (by decide) rfl (by omega) (by omega) (by first | decide | omega) (fun r206 => ?_)
          rw [show h 47 (Int.toNat 0) = sP σ from Zc.1]
          refine z_callS_pI (M := mL_act) [_, _] tL_less kL_46 dL_act_207 ⟨by decide, by decide⟩ rfl (Nat.le_of_ble_eq_true rfl) rfl (c_L_less (by first | decide | omega)) (fun z207 q207 => ?_)
          obtain ⟨a, rfl⟩ := Int.eq_ofNat_of_zero_le q207.1
          have ha : a < sP σ := by have := q207.2; omega
          refine z_istore dL_act_210 (by decide) rfl ?_
          refine z_iload dL_act_212 rfl ?_
          refine z_iconst dL_act_214 ?_
          refine z_ishr dL_act_215 ?_
          refine z_aload_n dL_act_216 rfl ?_
          refine z_iconst dL_act_217 ?_
          refine z_iaload dL_act_218 (by decide) rfl (by omega) (by omega) (by first | decide | omega) (fun r218 => ?_)
          rw [show h 47 (Int.toNat 0) = sP σ from Zc.1]
          refine z_callS_pI (M := mL_act) [_, _] tL_less kL_46 dL_act_219 ⟨by decide, by decide⟩ rfl (Nat.le_of_ble_eq_true rfl) rfl (c_L_less (by first | decide | omega)) (fun z219 q219 => ?_)
          obtain ⟨b, rfl⟩ := Int.eq_ofNat_of_zero_le q219.1
          have hb : b < sP σ := by have := q219.2; omega
          refine z_istore dL_act_222 (by decide) rfl ?_
          refine z_iconst dL_act_224 ?_
          refine z_iload dL_act_225 rfl ?_
          refine z_bipush dL_act_227 (by decide) ?_
          refine z_ishr dL_act_229 ?_
          refine z_iconst dL_act_230 ?_
          refine z_callS_pI (M := mL_act) [_, _] tL_less kL_46 dL_act_231 ⟨by decide, by decide⟩ rfl (Nat.le_of_ble_eq_true rfl) rfl (c_L_less (by first | decide | omega)) (fun z231 q231 => ?_)
          obtain ⟨w0, rfl⟩ := Int.eq_ofNat_of_zero_le q231.1
          have hw0 : w0 < 3 := by have := q231.2; omega
          refine z_iadd dL_act_234 ?_
          rw [show 1 + (w0 : Int) = ((1 + w0 : Nat) : Int) by omega]
          refine z_istore dL_act_235 (by decide) rfl ?_
          refine z_aload_n dL_act_237 rfl ?_
          refine z_iconst dL_act_238 ?_
          refine z_iaload dL_act_239 (by decide) rfl (by omega) (by omega) (by first | decide | omega) (fun r239 => ?_)
          rw [show h 47 (Int.toNat 1) = sE σ from Zc.2.1]
          refine z_bipush dL_act_240 (by decide) ?_
          refine z_icmp_ne 266 dL_act_242 (by decide) (by omega) (by omega) (fun c242 => ?_) (fun c242 => ?_)
          · refine z_iconst dL_act_266 ?_
            refine z_istore dL_act_267 (by decide) rfl ?_
            have loop269 : ∀ (nL9 : Nat) (h1 : HH) (i : Nat), (i ≤ 3) → (∀ c, c < i → h1 48 (6 * c + sE σ) = 0) → (∀ j, (∀ c, c < 3 → j ≠ 6 * c + sE σ) → h1 48 j = h 48 j) → (∀ a, a ≠ 48 → h1 a = h a) → 3 - i < nL9 → Z mL_act g 269 [vr 0, vr 47, vr 48, vi v, vi (way : Int), vi (ishr v 4), vi (kc : Int), vi (e : Int), vi (f : Int), vi (a : Int), vi (b : Int), vi ((1 + w0 : Nat) : Int), vi (i : Int)] [] h1 Q := by
              intro nL9
              induction nL9 with
              | zero => intro h1 i hi E1 O1 F1 hnL9; exact absurd hnL9 (Nat.not_lt_zero _)
              | succ nL9 ih269 =>
                intro h1 i hi E1 O1 F1 hnL9
                refine z_iload dL_act_269 rfl ?_
                refine z_iconst dL_act_271 ?_
                refine z_icmp_ge 293 dL_act_272 (by decide) (by omega) (by omega) (fun c272 => ?_) (fun c272 => ?_)
                · have z1 : h1 47 = h 47 := F1 47 (by decide)
                  refine z_aload_n dL_act_293 rfl ?_
                  refine z_iconst dL_act_294 ?_
                  refine z_iconst dL_act_295 ?_
                  refine z_aload_n dL_act_296 rfl ?_
                  refine z_iconst dL_act_297 ?_
                  refine z_iaload dL_act_298 (by decide) rfl (by omega) (by omega) (by first | decide | omega) (fun r298 => ?_)
                  rw [show h1 47 (Int.toNat 1) = sE σ by rw [z1]; exact Zc.2.1]
                  refine z_imul dL_act_299 ?_
                  refine z_iadd dL_act_300 ?_
                  refine z_iload dL_act_301 rfl ?_
                  refine z_iastore dL_act_303 (by decide) rfl (by omega) (by omega) (by first | decide | omega) (by omega) ?_
                  rw [show (4 + 3 * (sE σ : Int)).toNat = 4 + 3 * sE σ by omega]
                  generalize e2 : up h1 47 (4 + 3 * sE σ) (a : Int) = h2
                  obtain ⟨u2, n2⟩ := up_e e2
                  refine z_aload_n dL_act_304 rfl ?_
                  refine z_iconst dL_act_305 ?_
                  refine z_iconst dL_act_306 ?_
                  refine z_aload_n dL_act_307 rfl ?_
                  refine z_iconst dL_act_308 ?_
                  refine z_iaload dL_act_309 (by decide) rfl (by omega) (by omega) (by first | decide | omega) (fun r309 => ?_)
                  rw [show h2 47 (Int.toNat 1) = sE σ by rw [u2]; show (if 1 = 4 + 3 * sE σ then (a : Int) else h1 47 1) = _; rw [if_neg (by omega), z1]; exact Zc.2.1]
                  refine z_imul dL_act_310 ?_
                  refine z_iadd dL_act_311 ?_
                  refine z_iload dL_act_312 rfl ?_
                  refine z_iastore dL_act_314 (by decide) rfl (by omega) (by omega) (by first | decide | omega) (by omega) ?_
                  rw [show (5 + 3 * (sE σ : Int)).toNat = 5 + 3 * sE σ by omega]
                  generalize e3 : up h2 47 (5 + 3 * sE σ) (b : Int) = h3
                  obtain ⟨u3, n3⟩ := up_e e3
                  refine z_aload_n dL_act_315 rfl ?_
                  refine z_bipush dL_act_316 (by decide) ?_
                  refine z_iconst dL_act_318 ?_
                  refine z_aload_n dL_act_319 rfl ?_
                  refine z_iconst dL_act_320 ?_
                  refine z_iaload dL_act_321 (by decide) rfl (by omega) (by omega) (by first | decide | omega) (fun r321 => ?_)
                  rw [show h3 47 (Int.toNat 1) = sE σ by rw [u3, u2]; show (if 1 = 5 + 3 * sE σ then (b : Int) else if 1 = 4 + 3 * sE σ then (a : Int) else h1 47 1) = _; rw [if_neg (by omega), if_neg (by omega), z1]; exact Zc.2.1]
                  refine z_imul dL_act_322 ?_
                  refine z_iadd dL_act_323 ?_
                  refine z_iload dL_act_324 rfl ?_
                  refine z_iastore dL_act_326 (by decide) rfl (by omega) (by omega) (by first | decide | omega) (by omega) ?_
                  rw [show (6 + 3 * (sE σ : Int)).toNat = 6 + 3 * sE σ by omega]
                  generalize e4 : up h3 47 (6 + 3 * sE σ) ((1 + w0 : Nat) : Int) = h4
                  obtain ⟨u4, n4⟩ := up_e e4
                  refine z_aload_n dL_act_327 rfl ?_
                  refine z_iconst dL_act_328 ?_
                  refine z_dup2 dL_act_329 rfl rfl ?_
                  refine z_iaload dL_act_330 (by decide) rfl (by omega) (by omega) (by first | decide | omega) (fun r330 => ?_)
                  rw [show h4 47 (Int.toNat 1) = sE σ by rw [u4, u3, u2]; show (if 1 = 6 + 3 * sE σ then ((1 + w0 : Nat) : Int) else if 1 = 5 + 3 * sE σ then (b : Int) else if 1 = 4 + 3 * sE σ then (a : Int) else h1 47 1) = _; rw [if_neg (by omega), if_neg (by omega), if_neg (by omega), z1]; exact Zc.2.1]
                  refine z_iconst dL_act_331 ?_
                  refine z_iadd dL_act_332 ?_
                  refine z_iastore dL_act_333 (by decide) rfl (by omega) (by omega) (by first | decide | omega) (by omega) ?_
                  generalize e5 : up h4 47 (Int.toNat 1) ((sE σ : Int) + 1) = h5
                  obtain ⟨u5, n5⟩ := up_e e5
                  have u9 : ∀ j, h5 47 j = if j = 1 then (sE σ : Int) + 1 else if j = 6 + 3 * sE σ then ((1 + w0 : Nat) : Int) else if j = 5 + 3 * sE σ then (b : Int) else if j = 4 + 3 * sE σ then (a : Int) else h 47 j := fun j => by rw [u5, u4, u3, u2, z1]; rfl
                  have n9 : ∀ k, k ≠ 47 → h5 k = h1 k := fun k hk => by rw [n5 k hk, n4 k hk, n3 k hk, n2 k hk]
                  have P5 := P.lw (h1 := h5) (fun k k1 k2 => by rw [n9 k k1, F1 k k2])
                  have L5 : LJ h5 (addE σ a b (1 + w0)) as.length := ⟨zc_addE W Zc (by omega) (fun j j1 j4 j5 j6 => by rw [u9, if_neg j1, if_neg j6, if_neg j5, if_neg j4]) (by rw [u9, if_pos rfl]) (by rw [u9, if_neg (by omega), if_neg (by omega), if_neg (by omega), if_pos rfl]) (by rw [u9, if_neg (by omega), if_neg (by omega), if_pos rfl]) (by rw [u9, if_neg (by omega), if_pos rfl]), by rw [u9, if_neg (by decide), if_neg (by omega), if_neg (by omega), if_neg (by omega)]; exact l3, fun j hj => by rw [u9]; have := zb j hj; split <;> (try split) <;> (try split) <;> (try split) <;> omega, by rw [n9 48 (by decide)]; exact cc_addE (fun c e hc he => by rw [O1 _ (fun c2 hc2 => by omega)]; exact Cc c e hc he) (fun c hc => E1 c (by omega))⟩
                  refine z_aload_n dL_act_334 rfl ?_
                  refine z_aload_n dL_act_335 rfl ?_
                  refine z_iload dL_act_336 rfl ?_
                  refine z_iload dL_act_338 rfl ?_
                  refine z_iload dL_act_340 rfl ?_
                  refine z_callV_I (M := mL_act) [_, _, _] tX5_edge kL_100 dL_act_342 ⟨by decide, rfl, _, _, rfl⟩ ⟨by decide, by decide⟩ rfl (Nat.le_of_ble_eq_true rfl) rfl (c_X5_edge1 W P5.1 P5.2.1 (a := a) (b := b) (w := 1 + w0) ha hb (by omega) (by omega)) (fun z342 h342 q342 => ?_)
                  obtain ⟨rfl, A342⟩ := q342
                  refine z_aload_n dL_act_345 rfl ?_
                  refine z_iconst dL_act_346 ?_
                  refine z_iaload dL_act_347 (by decide) rfl (by omega) (by omega) (by first | decide | omega) (fun r347 => ?_)
                  rw [show h342 47 (Int.toNat 1) = (sE σ : Int) + 1 by rw [A342.k (by decide) (by decide) (by decide)]; exact (u9 1).trans (if_pos rfl)]
                  refine z_iconst dL_act_348 ?_
                  refine z_isub dL_act_349 ?_
                  refine z_icmp_ne 357 dL_act_350 (by decide) (by omega) (by omega) (fun c350 => ?_) (fun c350 => ?_)
                  · omega
                  · refine z_iconst dL_act_353 ?_
                    refine z_goto 358 dL_act_354 (by decide) ?_
                    refine z_callS_I (M := mL_act) [_, _] tL_noted kL_96 dL_act_358 ⟨by decide, by decide⟩ rfl (Nat.le_of_ble_eq_true rfl) rfl (c_L_noted (k := as.length) (L5.n3 A342) h8) (fun z358 h358 q358 => ?_)
                    obtain ⟨rfl, rfl⟩ := q358
                    refine z_if_eq 368 dL_act_361 (by decide) (by omega) (fun c361 => ?_) (fun c361 => ?_)
                    · omega
                    · refine z_iconst dL_act_364 ?_
                      refine z_goto 369 dL_act_365 (by decide) ?_
                      exact z_ireturn dL_act_369 rfl (hQ _ _ ⟨_, rfl, ⟨by decide, _, _, JL.fin (WF_addE W (by omega) ha hb (by omega)) P5 L5 A342 h0⟩⟩)
                · refine z_aload_n dL_act_275 rfl ?_
                  refine z_bipush dL_act_276 (by decide) ?_
                  refine z_iload dL_act_278 rfl ?_
                  refine z_imul dL_act_280 ?_
                  refine z_aload_n dL_act_281 rfl ?_
                  refine z_iconst dL_act_282 ?_
                  refine z_iaload dL_act_283 (by decide) rfl (by omega) (by omega) (by first | decide | omega) (fun r283 => ?_)
                  rw [show h1 47 (Int.toNat 1) = sE σ by rw [F1 47 (by decide)]; exact Zc.2.1]
                  refine z_iadd dL_act_284 ?_
                  refine z_iconst dL_act_285 ?_
                  refine z_iastore dL_act_286 (by decide) rfl (by omega) (by omega) (by first | decide | omega) (by omega) ?_
                  rw [show (6 * (i : Int) + (sE σ : Int)).toNat = 6 * i + sE σ by omega]
                  generalize e2 : up h1 48 (6 * i + sE σ) 0 = h2
                  refine z_iinc dL_act_287 rfl (by decide) rfl ?_
                  refine z_goto 269 dL_act_290 (by decide) ?_
                  rw [show (i : Int) + 1 = ((i + 1 : Nat) : Int) by omega]
                  obtain ⟨u1, u2⟩ := up_e e2
                  exact ih269 h2 (i + 1) (by omega) (fun c hc => by
                    rw [u1]
                    show (if 6 * c + sE σ = 6 * i + sE σ then (0 : Int) else h1 48 (6 * c + sE σ)) = 0
                    by_cases q : c = i
                    · rw [if_pos (by omega)]
                    · rw [if_neg (by omega)]; exact E1 c (by omega)) (fun j hj => by
                    rw [u1]
                    show (if j = 6 * i + sE σ then (0 : Int) else h1 48 j) = _
                    rw [if_neg (hj i (by omega))]; exact O1 j hj) (fun a ha => by rw [u2 a ha]; exact F1 a ha) (by omega)
            exact loop269 _ h 0 (by omega) (fun c hc => absurd hc (Nat.not_lt_zero c)) (fun _ _ => rfl) (fun _ _ => rfl) (Nat.lt_succ_self _)
          · refine z_aload_n dL_act_245 rfl ?_
            refine z_iload dL_act_246 rfl ?_
            refine z_iload dL_act_248 rfl ?_
            refine z_iload dL_act_250 rfl ?_
            refine z_callV_eI (M := mL_act) [_, _, _] tX5_edge kL_100 dL_act_252 ⟨by decide, rfl, _, _, rfl⟩ ⟨by decide, by decide⟩ rfl (Nat.le_of_ble_eq_true rfl) rfl (c_X5_edgeF W P.1 (a := a) (b := b) (w := 1 + w0) ha hb (by omega) (by omega)) ?_
            refine z_ldc (-1000003) dL_act_255 qL_103 rfl ?_
            refine z_icmp_ne 264 dL_act_257 (by decide) (by decide) (by decide) (fun c257 => ?_) (fun c257 => ?_)
            · first | exact absurd rfl c257 | omega
            · refine z_iconst dL_act_260 ?_
              refine z_goto 265 dL_act_261 (by decide) ?_
              exact z_ireturn dL_act_265 rfl (hQ _ _ ⟨_, rfl, ⟨by decide, σ, as, J⟩⟩)
      · rcases (show way = 0 ∨ way = 1 by omega) with rfl | rfl
        · exact k71a
        · exact k71b
    refine z_aload_n dL_act_43 rfl ?_
    refine z_iconst dL_act_44 ?_
    refine z_iaload dL_act_45 (by decide) rfl (by omega) (by omega) (by first | decide | omega) (fun r45 => ?_)
    rw [show h 47 (Int.toNat 2) = sF σ from Zc.2.2.1]
    refine z_if_ne 53 dL_act_46 (by decide) (by omega) (fun c46 => ?_) (fun c46 => ?_)
    · refine z_iload dL_act_53 rfl ?_
      refine z_iconst dL_act_55 ?_
      refine z_ishr dL_act_56 ?_
      refine z_aload_n dL_act_57 rfl ?_
      refine z_iconst dL_act_58 ?_
      refine z_iaload dL_act_59 (by decide) rfl (by omega) (by omega) (by first | decide | omega) (fun r59 => ?_)
      rw [show h 47 (Int.toNat 2) = sF σ from Zc.2.2.1]
      refine z_callS_pI (M := mL_act) [_, _] tL_less kL_46 dL_act_60 ⟨by decide, by decide⟩ rfl (Nat.le_of_ble_eq_true rfl) rfl (c_L_less (by first | decide | omega)) (fun z60 q60 => ?_)
      obtain ⟨f1, rfl⟩ := Int.eq_ofNat_of_zero_le q60.1
      have hf1 : f1 < sF σ := by have := q60.2; omega
      exact k63 f1 (fun _ => by omega)
    · refine z_iconst dL_act_49 ?_
      refine z_goto 63 dL_act_50 (by decide) ?_
      exact k63 0 (fun q => by omega)
  refine z_aload_n dL_act_21 rfl ?_
  refine z_iconst dL_act_22 ?_
  refine z_iaload dL_act_23 (by decide) rfl (by omega) (by omega) (by first | decide | omega) (fun r23 => ?_)
  rw [show h 47 (Int.toNat 1) = sE σ from Zc.2.1]
  refine z_if_ne 31 dL_act_24 (by decide) (by omega) (fun c24 => ?_) (fun c24 => ?_)
  · refine z_iload dL_act_31 rfl ?_
    refine z_iconst dL_act_33 ?_
    refine z_ishr dL_act_34 ?_
    refine z_aload_n dL_act_35 rfl ?_
    refine z_iconst dL_act_36 ?_
    refine z_iaload dL_act_37 (by decide) rfl (by omega) (by omega) (by first | decide | omega) (fun r37 => ?_)
    rw [show h 47 (Int.toNat 1) = sE σ from Zc.2.1]
    refine z_callS_pI (M := mL_act) [_, _] tL_less kL_46 dL_act_38 ⟨by decide, by decide⟩ rfl (Nat.le_of_ble_eq_true rfl) rfl (c_L_less (by first | decide | omega)) (fun z38 q38 => ?_)
    obtain ⟨e1, rfl⟩ := Int.eq_ofNat_of_zero_le q38.1
    have he1 : e1 < sE σ := by have := q38.2; omega
    exact k41 e1 (fun _ => by omega)
  · refine z_iconst dL_act_27 ?_
    refine z_goto 41 dL_act_28 (by decide) ?_
    exact k41 0 (fun q => by omega)

set_option maxRecDepth 100000 in
set_option maxHeartbeats 4000000 in
theorem c_X6_dropsEdge {g : GG} {h : HH} {σ : SG} (W : WF σ) (R : RM (h 48) σ) {d : Nat} (hd : d < sE σ) : CnV mX6_dropsEdge g [vr 47, vi (d : Int)] h (fun h' => ∃ f', h' = setc h 48 f' ∧ RM f' (dropE σ d)) := by
  refine cn_q (lv := [vr 47, vi (d : Int), vx, vx, vx]) tX6_dropsEdge.1 rfl rfl (fun hR Q hQ => ?_)
  have w1 := W.1
  have w2 := W.2.1
  have w3 := W.2.2.1
  refine z_iconst dX6_dropsEdge_0 ?_
  refine z_iconst dX6_dropsEdge_1 ?_
  refine z_iload_n dX6_dropsEdge_2 rfl ?_
  refine z_imul dX6_dropsEdge_3 ?_
  refine z_iadd dX6_dropsEdge_4 ?_
  refine z_istore_n dX6_dropsEdge_5 (by decide) rfl ?_
  have loop6 : ∀ (nL9 : Nat) (k : Nat), (3 + 3 * d ≤ k ∧ k ≤ 18) → 18 - k < nL9 → Z mX6_dropsEdge g 6 [vr 47, vi (d : Int), vi (k : Int), vx, vx] [] (setc h 48 (shA (h 48) d k)) Q := by
    intro nL9
    induction nL9 with
    | zero => intro k hk hnL9; exact absurd hnL9 (Nat.not_lt_zero _)
    | succ nL9 ih6 =>
      intro k hk hnL9
      refine z_iload_n dX6_dropsEdge_6 rfl ?_
      refine z_bipush dX6_dropsEdge_7 (by decide) ?_
      refine z_icmp_ge 32 dX6_dropsEdge_9 (by decide) (by omega) (by omega) (fun c9 => ?_) (fun c9 => ?_)
      · refine z_iconst dX6_dropsEdge_32 ?_
        refine z_istore_n dX6_dropsEdge_33 (by decide) rfl ?_
        have loop34 : ∀ (nL9 : Nat) (k : Nat), (k ≤ 18) → 18 - k < nL9 → Z mX6_dropsEdge g 34 [vr 47, vi (d : Int), vi (k : Int), vx, vx] [] (setc h 48 (shB (shA (h 48) d 18) d k)) Q := by
          intro nL9
          induction nL9 with
          | zero => intro k hk hnL9; exact absurd hnL9 (Nat.not_lt_zero _)
          | succ nL9 ih34 =>
            intro k hk hnL9
            refine z_iload_n dX6_dropsEdge_34 rfl ?_
            refine z_bipush dX6_dropsEdge_35 (by decide) ?_
            refine z_icmp_ge 100 dX6_dropsEdge_37 (by decide) (by omega) (by omega) (fun c37 => ?_) (fun c37 => ?_)
            · refine z_iconst dX6_dropsEdge_100 ?_
              refine z_istore_n dX6_dropsEdge_101 (by decide) rfl ?_
              have loop102 : ∀ (nL9 : Nat) (k : Nat) (f' : Nat → Int), (k ≤ 4 * sF σ) → (RM (upn f' 1 ((sE σ : Int) - 1)) (lowN (cutE σ d) d k)) → (f' 1 = sE σ) → 4 * sF σ - k < nL9 → Z mX6_dropsEdge g 102 [vr 47, vi (d : Int), vi (k : Int), vx, vx] [] (setc h 48 f') Q := by
                intro nL9
                induction nL9 with
                | zero => intro k f' hk hD h1 hnL9; exact absurd hnL9 (Nat.not_lt_zero _)
                | succ nL9 ih102 =>
                  intro k f' hk hD h1 hnL9
                  have F2 := lowN_F hD
                  refine z_iload_n dX6_dropsEdge_102 rfl ?_
                  refine z_iconst dX6_dropsEdge_103 ?_
                  refine z_aload_n dX6_dropsEdge_104 rfl ?_
                  refine z_getR fX6_7 dX6_dropsEdge_105 (by decide) rfl rfl ?_
                  refine z_iconst dX6_dropsEdge_108 ?_
                  refine z_iaload dX6_dropsEdge_109 (by decide) rfl (by omega) (by omega) (by first | decide | omega) (fun r109 => ?_)
                  rw [show setc h 48 f' 48 (Int.toNat 2) = sF σ from by rw [setc_at]; exact F2]
                  refine z_imul dX6_dropsEdge_110 ?_
                  refine z_icmp_ge 196 dX6_dropsEdge_111 (by decide) (by omega) (by omega) (fun c111 => ?_) (fun c111 => ?_)
                  · refine z_aload_n dX6_dropsEdge_196 rfl ?_
                    refine z_getR fX6_7 dX6_dropsEdge_197 (by decide) rfl rfl ?_
                    refine z_iconst dX6_dropsEdge_200 ?_
                    refine z_dup2 dX6_dropsEdge_201 rfl rfl ?_
                    refine z_iaload dX6_dropsEdge_202 (by decide) rfl (by omega) (by omega) (by first | decide | omega) (fun r202 => ?_)
                    rw [show setc h 48 f' 48 (Int.toNat 1) = sE σ from by rw [setc_at]; exact h1]
                    refine z_iconst dX6_dropsEdge_203 ?_
                    refine z_isub dX6_dropsEdge_204 ?_
                    refine z_iastore dX6_dropsEdge_205 (by decide) rfl (by omega) (by omega) (by first | decide | omega) (by omega) ?_
                    rw [up_s (z := 1) (i := 1) rfl]
                    exact z_return dX6_dropsEdge_206 rfl (hQ _ _ ⟨rfl, ⟨_, rfl, lowN_end (WB_cut W.wb d) (by show k = 4 * sF σ; omega) hD⟩⟩)
                  · refine z_bipush dX6_dropsEdge_114 (by decide) ?_
                    refine z_bipush dX6_dropsEdge_116 (by decide) ?_
                    refine z_iload_n dX6_dropsEdge_118 rfl ?_
                    refine z_iconst dX6_dropsEdge_119 ?_
                    refine z_idiv dX6_dropsEdge_120 (by omega) (by decide) (by decide) ?_
                    rw [show (k : Int).tdiv 4 = ((k / 4 : Nat) : Int) from rfl]
                    refine z_imul dX6_dropsEdge_121 ?_
                    refine z_iadd dX6_dropsEdge_122 ?_
                    refine z_iconst dX6_dropsEdge_123 ?_
                    refine z_iadd dX6_dropsEdge_124 ?_
                    refine z_iload_n dX6_dropsEdge_125 rfl ?_
                    refine z_iconst dX6_dropsEdge_126 ?_
                    refine z_irem dX6_dropsEdge_127 (by omega) (by decide) (by decide) ?_
                    rw [show (k : Int).tmod 4 = ((k % 4 : Nat) : Int) from rfl]
                    refine z_iadd dX6_dropsEdge_128 ?_
                    have k4 : k / 4 < sF σ := by omega
                    have w4 := W.2.2.2.2.1 (k / 4) k4
                    have w5 := w4.2.2.2.1
                    have ep : setc h 48 f' 48 (21 + 6 * ((k / 4 : Nat) : Int) + 2 + ((k % 4 : Nat) : Int)).toNat = f' (21 + 6 * (k / 4) + 2 + k % 4) := by rw [setc_at]; exact ix (by omega)
                    refine z_istore_n dX6_dropsEdge_129 (by decide) rfl ?_
                    refine z_aload_n dX6_dropsEdge_130 rfl ?_
                    refine z_getR fX6_7 dX6_dropsEdge_131 (by decide) rfl rfl ?_
                    refine z_iload_n dX6_dropsEdge_134 rfl ?_
                    refine z_iaload dX6_dropsEdge_135 (by decide) rfl (by omega) (by omega) (by first | decide | omega) (fun r135 => ?_)
                    rw [ep] at r135 ⊢
                    refine z_if_ge 143 dX6_dropsEdge_136 (by decide) (by omega) (fun c136 => ?_) (fun c136 => ?_)
                    · refine z_iconst dX6_dropsEdge_143 ?_
                      refine z_istore dX6_dropsEdge_144 (by decide) rfl ?_
                      refine z_aload_n dX6_dropsEdge_146 rfl ?_
                      refine z_getR fX6_7 dX6_dropsEdge_147 (by decide) rfl rfl ?_
                      refine z_iload_n dX6_dropsEdge_150 rfl ?_
                      refine z_dup2 dX6_dropsEdge_151 rfl rfl ?_
                      refine z_iaload dX6_dropsEdge_152 (by decide) rfl (by omega) (by omega) (by first | decide | omega) (fun r152 => ?_)
                      rw [ep] at r152 ⊢
                      refine z_iload_n dX6_dropsEdge_153 rfl ?_
                      refine z_iconst dX6_dropsEdge_154 ?_
                      refine z_irem dX6_dropsEdge_155 (by omega) (by decide) (by decide) ?_
                      rw [show (k : Int).tmod 4 = ((k % 4 : Nat) : Int) from rfl]
                      refine z_aload_n dX6_dropsEdge_156 rfl ?_
                      refine z_getR fX6_7 dX6_dropsEdge_157 (by decide) rfl rfl ?_
                      refine z_iload_n dX6_dropsEdge_160 rfl ?_
                      refine z_iconst dX6_dropsEdge_161 ?_
                      refine z_idiv dX6_dropsEdge_162 (by omega) (by decide) (by decide) ?_
                      rw [show (k : Int).tdiv 4 = ((k / 4 : Nat) : Int) from rfl]
                      refine z_callS_eI (M := mX6_dropsEdge) [_, _] tX6_many kX6_60 dX6_dropsEdge_163 ⟨by decide, by decide⟩ rfl (Nat.le_of_ble_eq_true rfl) rfl (c_X6_many isB48 (f := k / 4) (by omega)) ?_
                      rw [show setc h 48 f' 48 (21 + 6 * (k / 4) + 1) = swl σ (k / 4) from by rw [setc_at]; exact lowN_wl hD k4]
                      refine z_icmp_ge 187 dX6_dropsEdge_166 (by decide) (by omega) (by omega) (fun c166 => ?_) (fun c166 => ?_)
                      · refine z_iconst dX6_dropsEdge_187 ?_
                        refine z_iadd dX6_dropsEdge_188 ?_
                        refine z_iastore dX6_dropsEdge_189 (by decide) rfl (by omega) (by omega) (by first | decide | omega) (by omega) ?_
                        rw [up_s (i := (21 + 6 * (k / 4) + 2 + k % 4)) (by omega)]
                        refine z_iinc dX6_dropsEdge_190 rfl (by decide) rfl ?_
                        refine z_goto 102 dX6_dropsEdge_193 (by decide) ?_
                        refine z_forget 3 ?_
                        refine z_forget 4 ?_
                        exact ih102 (k + 1) _ (by omega) (lowN_skipU W.wb (Or.inl (by omega)) hD) ((upn_ne (by omega)).trans h1) (by omega)
                      · refine z_aload_n dX6_dropsEdge_169 rfl ?_
                        refine z_getR fX6_7 dX6_dropsEdge_170 (by decide) rfl rfl ?_
                        refine z_iload_n dX6_dropsEdge_173 rfl ?_
                        refine z_iaload dX6_dropsEdge_174 (by decide) rfl (by omega) (by omega) (by first | decide | omega) (fun r174 => ?_)
                        have l7 := lowN_at hD k4 (by omega)
                        rw [ep, l7] at r174 ⊢
                        have l6 := w4.2.2.2.2.1 (k % 4) (by omega)
                        have l5 := lcd_r (ssg σ (k / 4) (k % 4)) (show sle σ (k / 4) (k % 4) < 26 by omega)
                        refine z_callS_eI (M := mX6_dropsEdge) [_] tX6_edgeOf kX6_52 dX6_dropsEdge_175 ⟨by decide, by decide⟩ rfl (Nat.le_of_ble_eq_true rfl) rfl (c_X6_edgeOf (by omega)) ?_
                        rw [lcd_led]
                        refine z_iload_n dX6_dropsEdge_178 rfl ?_
                        refine z_icmp_le 187 dX6_dropsEdge_179 (by decide) (by omega) (by omega) (fun c179 => ?_) (fun c179 => ?_)
                        · refine z_iconst dX6_dropsEdge_187 ?_
                          refine z_iadd dX6_dropsEdge_188 ?_
                          refine z_iastore dX6_dropsEdge_189 (by decide) rfl (by omega) (by omega) (by first | decide | omega) (by omega) ?_
                          rw [up_s (i := (21 + 6 * (k / 4) + 2 + k % 4)) (by omega)]
                          refine z_iinc dX6_dropsEdge_190 rfl (by decide) rfl ?_
                          refine z_goto 102 dX6_dropsEdge_193 (by decide) ?_
                          rw [← l7]
                          refine z_forget 3 ?_
                          refine z_forget 4 ?_
                          exact ih102 (k + 1) _ (by omega) (lowN_skipU W.wb (Or.inr (by omega)) hD) ((upn_ne (by omega)).trans h1) (by omega)
                        · refine z_iload dX6_dropsEdge_182 rfl ?_
                          refine z_goto 188 dX6_dropsEdge_184 (by decide) ?_
                          refine z_iadd dX6_dropsEdge_188 ?_
                          refine z_iastore dX6_dropsEdge_189 (by decide) rfl (by omega) (by omega) (by first | decide | omega) (by omega) ?_
                          rw [up_s (i := (21 + 6 * (k / 4) + 2 + k % 4)) (by omega)]
                          refine z_iinc dX6_dropsEdge_190 rfl (by decide) rfl ?_
                          refine z_goto 102 dX6_dropsEdge_193 (by decide) ?_
                          rw [← l7]
                          refine z_forget 3 ?_
                          refine z_forget 4 ?_
                          exact ih102 (k + 1) _ (by omega) (lowN_putU W.wb (by omega) (by omega) (by omega) rfl hD (by rw [← l7]; exact (if_neg (by omega)).symm)) ((upn_ne (by omega)).trans h1) (by omega)
                    · refine z_iconst dX6_dropsEdge_139 ?_
                      refine z_goto 144 dX6_dropsEdge_140 (by decide) ?_
                      refine z_istore dX6_dropsEdge_144 (by decide) rfl ?_
                      refine z_aload_n dX6_dropsEdge_146 rfl ?_
                      refine z_getR fX6_7 dX6_dropsEdge_147 (by decide) rfl rfl ?_
                      refine z_iload_n dX6_dropsEdge_150 rfl ?_
                      refine z_dup2 dX6_dropsEdge_151 rfl rfl ?_
                      refine z_iaload dX6_dropsEdge_152 (by decide) rfl (by omega) (by omega) (by first | decide | omega) (fun r152 => ?_)
                      rw [ep] at r152 ⊢
                      refine z_iload_n dX6_dropsEdge_153 rfl ?_
                      refine z_iconst dX6_dropsEdge_154 ?_
                      refine z_irem dX6_dropsEdge_155 (by omega) (by decide) (by decide) ?_
                      rw [show (k : Int).tmod 4 = ((k % 4 : Nat) : Int) from rfl]
                      refine z_aload_n dX6_dropsEdge_156 rfl ?_
                      refine z_getR fX6_7 dX6_dropsEdge_157 (by decide) rfl rfl ?_
                      refine z_iload_n dX6_dropsEdge_160 rfl ?_
                      refine z_iconst dX6_dropsEdge_161 ?_
                      refine z_idiv dX6_dropsEdge_162 (by omega) (by decide) (by decide) ?_
                      rw [show (k : Int).tdiv 4 = ((k / 4 : Nat) : Int) from rfl]
                      refine z_callS_eI (M := mX6_dropsEdge) [_, _] tX6_many kX6_60 dX6_dropsEdge_163 ⟨by decide, by decide⟩ rfl (Nat.le_of_ble_eq_true rfl) rfl (c_X6_many isB48 (f := k / 4) (by omega)) ?_
                      rw [show setc h 48 f' 48 (21 + 6 * (k / 4) + 1) = swl σ (k / 4) from by rw [setc_at]; exact lowN_wl hD k4]
                      refine z_icmp_ge 187 dX6_dropsEdge_166 (by decide) (by omega) (by omega) (fun c166 => ?_) (fun c166 => ?_)
                      · refine z_iconst dX6_dropsEdge_187 ?_
                        refine z_iadd dX6_dropsEdge_188 ?_
                        refine z_iastore dX6_dropsEdge_189 (by decide) rfl (by omega) (by omega) (by first | decide | omega) (by omega) ?_
                        rw [up_s (i := (21 + 6 * (k / 4) + 2 + k % 4)) (by omega)]
                        refine z_iinc dX6_dropsEdge_190 rfl (by decide) rfl ?_
                        refine z_goto 102 dX6_dropsEdge_193 (by decide) ?_
                        refine z_forget 3 ?_
                        refine z_forget 4 ?_
                        exact ih102 (k + 1) _ (by omega) (lowN_skipU W.wb (Or.inl (by omega)) hD) ((upn_ne (by omega)).trans h1) (by omega)
                      · refine z_aload_n dX6_dropsEdge_169 rfl ?_
                        refine z_getR fX6_7 dX6_dropsEdge_170 (by decide) rfl rfl ?_
                        refine z_iload_n dX6_dropsEdge_173 rfl ?_
                        refine z_iaload dX6_dropsEdge_174 (by decide) rfl (by omega) (by omega) (by first | decide | omega) (fun r174 => ?_)
                        have l7 := lowN_at hD k4 (by omega)
                        rw [ep, l7] at r174 ⊢
                        have l6 := w4.2.2.2.2.1 (k % 4) (by omega)
                        have l5 := lcd_r (ssg σ (k / 4) (k % 4)) (show sle σ (k / 4) (k % 4) < 26 by omega)
                        refine z_callS_eI (M := mX6_dropsEdge) [_] tX6_edgeOf kX6_52 dX6_dropsEdge_175 ⟨by decide, by decide⟩ rfl (Nat.le_of_ble_eq_true rfl) rfl (c_X6_edgeOf (by omega)) ?_
                        rw [lcd_led]
                        refine z_iload_n dX6_dropsEdge_178 rfl ?_
                        refine z_icmp_le 187 dX6_dropsEdge_179 (by decide) (by omega) (by omega) (fun c179 => ?_) (fun c179 => ?_)
                        · refine z_iconst dX6_dropsEdge_187 ?_
                          refine z_iadd dX6_dropsEdge_188 ?_
                          refine z_iastore dX6_dropsEdge_189 (by decide) rfl (by omega) (by omega) (by first | decide | omega) (by omega) ?_
                          rw [up_s (i := (21 + 6 * (k / 4) + 2 + k % 4)) (by omega)]
                          refine z_iinc dX6_dropsEdge_190 rfl (by decide) rfl ?_
                          refine z_goto 102 dX6_dropsEdge_193 (by decide) ?_
                          rw [← l7]
                          refine z_forget 3 ?_
                          refine z_forget 4 ?_
                          exact ih102 (k + 1) _ (by omega) (lowN_skipU W.wb (Or.inr (by omega)) hD) ((upn_ne (by omega)).trans h1) (by omega)
                        · refine z_iload dX6_dropsEdge_182 rfl ?_
                          refine z_goto 188 dX6_dropsEdge_184 (by decide) ?_
                          refine z_iadd dX6_dropsEdge_188 ?_
                          refine z_iastore dX6_dropsEdge_189 (by decide) rfl (by omega) (by omega) (by first | decide | omega) (by omega) ?_
                          rw [up_s (i := (21 + 6 * (k / 4) + 2 + k % 4)) (by omega)]
                          refine z_iinc dX6_dropsEdge_190 rfl (by decide) rfl ?_
                          refine z_goto 102 dX6_dropsEdge_193 (by decide) ?_
                          rw [← l7]
                          refine z_forget 3 ?_
                          refine z_forget 4 ?_
                          exact ih102 (k + 1) _ (by omega) (lowN_putU W.wb (by omega) (by omega) (by omega) rfl hD (by rw [← l7]; exact (if_pos (by omega)).symm)) ((upn_ne (by omega)).trans h1) (by omega)
              have x0 := loop102 _ 0 (shB (shA (h 48) d 18) d 18) (by omega) (lowN_0 d (rm_cutE W.wb R hd)) (shAB_1.trans (rm_E R)) (Nat.lt_succ_self _)
              rw [show k = 18 from by omega]
              exact x0
            · refine z_iload_n dX6_dropsEdge_40 rfl ?_
              refine z_bipush dX6_dropsEdge_41 (by decide) ?_
              refine z_irem dX6_dropsEdge_43 (by omega) (by decide) (by decide) ?_
              rw [show (k : Int).tmod 6 = ((k % 6 : Nat) : Int) from rfl]
              refine z_iconst dX6_dropsEdge_44 ?_
              refine z_icmp_ge 62 dX6_dropsEdge_45 (by decide) (by omega) (by omega) (fun c45 => ?_) (fun c45 => ?_)
              · refine z_iconst dX6_dropsEdge_62 ?_
                refine z_istore_n dX6_dropsEdge_63 (by decide) rfl ?_
                refine z_aload_n dX6_dropsEdge_64 rfl ?_
                refine z_getR fX6_7 dX6_dropsEdge_65 (by decide) rfl rfl ?_
                refine z_bipush dX6_dropsEdge_68 (by decide) ?_
                refine z_iload_n dX6_dropsEdge_70 rfl ?_
                refine z_iadd dX6_dropsEdge_71 ?_
                refine z_iload_n dX6_dropsEdge_72 rfl ?_
                refine z_bipush dX6_dropsEdge_73 (by decide) ?_
                refine z_irem dX6_dropsEdge_75 (by omega) (by decide) (by decide) ?_
                rw [show (k : Int).tmod 6 = ((k % 6 : Nat) : Int) from rfl]
                refine z_iload_n dX6_dropsEdge_76 rfl ?_
                refine z_icmp_ge 92 dX6_dropsEdge_77 (by decide) (by omega) (by omega) (fun c77 => ?_) (fun c77 => ?_)
                · refine z_iload_n dX6_dropsEdge_92 rfl ?_
                  refine z_iastore dX6_dropsEdge_93 (by decide) rfl (by omega) (by omega) (by first | decide | omega) (by omega) ?_
                  rw [up_s (i := 45 + k) (by omega), shB_s _ (by first | (exfalso; omega) | rw [if_pos (by omega), if_pos (by omega)] | rw [if_pos (by omega), if_neg (by omega)] | rw [if_neg (by omega)])]
                  refine z_iinc dX6_dropsEdge_94 rfl (by decide) rfl ?_
                  refine z_goto 34 dX6_dropsEdge_97 (by decide) ?_
                  refine z_forget 3 ?_
                  exact ih34 (k + 1) (by omega) (by omega)
                · refine z_aload_n dX6_dropsEdge_80 rfl ?_
                  refine z_getR fX6_7 dX6_dropsEdge_81 (by decide) rfl rfl ?_
                  refine z_bipush dX6_dropsEdge_84 (by decide) ?_
                  refine z_iload_n dX6_dropsEdge_86 rfl ?_
                  refine z_iadd dX6_dropsEdge_87 ?_
                  refine z_iaload dX6_dropsEdge_88 (by decide) rfl (by omega) (by omega) (by first | decide | omega) (fun r88 => ?_)
                  have e88 : setc h 48 (shB (shA (h 48) d 18) d k) 48 (45 + (k : Int)).toNat = (shB (shA (h 48) d 18) d k) (45 + k) := by rw [setc_at]; exact ix (by omega)
                  rw [e88] at r88 ⊢
                  refine z_goto 93 dX6_dropsEdge_89 (by decide) ?_
                  refine z_iastore dX6_dropsEdge_93 (by decide) rfl (by omega) (by omega) (by first | decide | omega) (by omega) ?_
                  rw [up_s (i := 45 + k) (by omega), shB_s _ (by first | (exfalso; omega) | rw [if_pos (by omega), if_pos (by omega)] | rw [if_pos (by omega), if_neg (by omega)] | rw [if_neg (by omega)])]
                  refine z_iinc dX6_dropsEdge_94 rfl (by decide) rfl ?_
                  refine z_goto 34 dX6_dropsEdge_97 (by decide) ?_
                  refine z_forget 3 ?_
                  exact ih34 (k + 1) (by omega) (by omega)
              · refine z_aload_n dX6_dropsEdge_48 rfl ?_
                refine z_getR fX6_7 dX6_dropsEdge_49 (by decide) rfl rfl ?_
                refine z_bipush dX6_dropsEdge_52 (by decide) ?_
                refine z_iload_n dX6_dropsEdge_54 rfl ?_
                refine z_iadd dX6_dropsEdge_55 ?_
                refine z_iconst dX6_dropsEdge_56 ?_
                refine z_iadd dX6_dropsEdge_57 ?_
                refine z_iaload dX6_dropsEdge_58 (by decide) rfl (by omega) (by omega) (by first | decide | omega) (fun r58 => ?_)
                have e58 : setc h 48 (shB (shA (h 48) d 18) d k) 48 (45 + (k : Int) + 1).toNat = (shB (shA (h 48) d 18) d k) (45 + k + 1) := by rw [setc_at]; exact ix (by omega)
                rw [e58] at r58 ⊢
                refine z_goto 63 dX6_dropsEdge_59 (by decide) ?_
                refine z_istore_n dX6_dropsEdge_63 (by decide) rfl ?_
                refine z_aload_n dX6_dropsEdge_64 rfl ?_
                refine z_getR fX6_7 dX6_dropsEdge_65 (by decide) rfl rfl ?_
                refine z_bipush dX6_dropsEdge_68 (by decide) ?_
                refine z_iload_n dX6_dropsEdge_70 rfl ?_
                refine z_iadd dX6_dropsEdge_71 ?_
                refine z_iload_n dX6_dropsEdge_72 rfl ?_
                refine z_bipush dX6_dropsEdge_73 (by decide) ?_
                refine z_irem dX6_dropsEdge_75 (by omega) (by decide) (by decide) ?_
                rw [show (k : Int).tmod 6 = ((k % 6 : Nat) : Int) from rfl]
                refine z_iload_n dX6_dropsEdge_76 rfl ?_
                refine z_icmp_ge 92 dX6_dropsEdge_77 (by decide) (by omega) (by omega) (fun c77 => ?_) (fun c77 => ?_)
                · refine z_iload_n dX6_dropsEdge_92 rfl ?_
                  refine z_iastore dX6_dropsEdge_93 (by decide) rfl (by omega) (by omega) (by first | decide | omega) (by omega) ?_
                  rw [up_s (i := 45 + k) (by omega), shB_s _ (by first | (exfalso; omega) | rw [if_pos (by omega), if_pos (by omega)] | rw [if_pos (by omega), if_neg (by omega)] | rw [if_neg (by omega)])]
                  refine z_iinc dX6_dropsEdge_94 rfl (by decide) rfl ?_
                  refine z_goto 34 dX6_dropsEdge_97 (by decide) ?_
                  refine z_forget 3 ?_
                  exact ih34 (k + 1) (by omega) (by omega)
                · refine z_aload_n dX6_dropsEdge_80 rfl ?_
                  refine z_getR fX6_7 dX6_dropsEdge_81 (by decide) rfl rfl ?_
                  refine z_bipush dX6_dropsEdge_84 (by decide) ?_
                  refine z_iload_n dX6_dropsEdge_86 rfl ?_
                  refine z_iadd dX6_dropsEdge_87 ?_
                  refine z_iaload dX6_dropsEdge_88 (by decide) rfl (by omega) (by omega) (by first | decide | omega) (fun r88 => ?_)
                  have e88 : setc h 48 (shB (shA (h 48) d 18) d k) 48 (45 + (k : Int)).toNat = (shB (shA (h 48) d 18) d k) (45 + k) := by rw [setc_at]; exact ix (by omega)
                  rw [e88] at r88 ⊢
                  refine z_goto 93 dX6_dropsEdge_89 (by decide) ?_
                  refine z_iastore dX6_dropsEdge_93 (by decide) rfl (by omega) (by omega) (by first | decide | omega) (by omega) ?_
                  rw [up_s (i := 45 + k) (by omega), shB_s _ (by first | (exfalso; omega) | rw [if_pos (by omega), if_pos (by omega)] | rw [if_pos (by omega), if_neg (by omega)] | rw [if_neg (by omega)])]
                  refine z_iinc dX6_dropsEdge_94 rfl (by decide) rfl ?_
                  refine z_goto 34 dX6_dropsEdge_97 (by decide) ?_
                  refine z_forget 3 ?_
                  exact ih34 (k + 1) (by omega) (by omega)
        have x0 := loop34 _ 0 (by omega) (Nat.lt_succ_self _)
        rw [shB_0] at x0
        rw [show k = 18 from by omega]
        exact x0
      · refine z_aload_n dX6_dropsEdge_12 rfl ?_
        refine z_getR fX6_7 dX6_dropsEdge_13 (by decide) rfl rfl ?_
        refine z_iload_n dX6_dropsEdge_16 rfl ?_
        refine z_aload_n dX6_dropsEdge_17 rfl ?_
        refine z_getR fX6_7 dX6_dropsEdge_18 (by decide) rfl rfl ?_
        refine z_iload_n dX6_dropsEdge_21 rfl ?_
        refine z_iconst dX6_dropsEdge_22 ?_
        refine z_iadd dX6_dropsEdge_23 ?_
        refine z_iaload dX6_dropsEdge_24 (by decide) rfl (by omega) (by omega) (by first | decide | omega) (fun r24 => ?_)
        have e24 : setc h 48 (shA (h 48) d k) 48 ((k : Int) + 3).toNat = (shA (h 48) d k) (k + 3) := by rw [setc_at]; exact ix (by omega)
        rw [e24] at r24 ⊢
        refine z_iastore dX6_dropsEdge_25 (by decide) rfl (by omega) (by omega) (by first | decide | omega) (by omega) ?_
        rw [up_s (i := k) rfl, shA_s _ (by omega)]
        refine z_iinc dX6_dropsEdge_26 rfl (by decide) rfl ?_
        refine z_goto 6 dX6_dropsEdge_29 (by decide) ?_
        exact ih6 (k + 1) (by omega) (by omega)
  have x0 := loop6 _ (3 + 3 * d) (by omega) (Nat.lt_succ_self _)
  rw [shA_0, setc_self] at x0
  rw [show 3 + 3 * (d : Int) = ((3 + 3 * d : Nat) : Int) from by omega]
  exact x0
set_option maxRecDepth 100000 in
set_option maxHeartbeats 4000000 in
theorem c_X6_dropN {g : GG} {h : HH} {σ : SG} (W : WF σ) (R : RM (h 48) σ) {d : Int} (hd : R32 d) (hn : d ≠ 1 ∧ d ≠ 2) {c : Int} (hc : R32 c) : CeI mX6_drop g [vr 47, vi d, vi c] h kBAD := by
  refine cn_q (lv := [vr 47, vi d, vi c, vx]) tX6_drop.1 rfl rfl (fun hR Q hQ => ?_)
  refine z_iload_n dX6_drop_0 rfl ?_
  refine z_if_eq 13 dX6_drop_1 (by decide) (by omega) (fun c1 => ?_) (fun c1 => ?_)
  · refine z_ldc (-1000001) dX6_drop_13 qX6_218 rfl ?_
    exact z_ireturn dX6_drop_15 rfl (hQ _ _ ⟨_, rfl, rfl, rfl⟩)
  · refine z_aload_n dX6_drop_4 rfl ?_
    refine z_iload_n dX6_drop_5 rfl ?_
    refine z_iload_n dX6_drop_6 rfl ?_
    refine z_callV_eI (M := mX6_drop) [_, _] tX6_isCell kX6_247 dX6_drop_7 ⟨by decide, rfl, _, _, rfl⟩ ⟨by decide, by decide⟩ rfl (Nat.le_of_ble_eq_true rfl) rfl (c_X6_isCellN W.wb R (by omega) (by omega) (by omega)) ?_
    refine z_if_ne 16 dX6_drop_10 (by decide) (bi_r _) (fun c10 => ?_) (fun c10 => ?_)
    · have c10 := bi_ne.mp c10
      exact c10.elim
    · have c10 := bi_eq.mp c10
      refine z_ldc (-1000001) dX6_drop_13 qX6_218 rfl ?_
      exact z_ireturn dX6_drop_15 rfl (hQ _ _ ⟨_, rfl, rfl, rfl⟩)
set_option maxRecDepth 100000 in
set_option maxHeartbeats 4000000 in
theorem c_X6_dropO1 {g : GG} {h : HH} {σ : SG} (W : WF σ) (R : RM (h 48) σ) {c : Int} (hc : R32 c) (ho : ¬ (0 ≤ c ∧ c < sE σ)) : CeI mX6_drop g [vr 47, vi 1, vi c] h kBAD := by
  refine cn_q (lv := [vr 47, vi 1, vi c, vx]) tX6_drop.1 rfl rfl (fun hR Q hQ => ?_)
  refine z_iload_n dX6_drop_0 rfl ?_
  refine z_if_eq 13 dX6_drop_1 (by decide) (by omega) (fun c1 => ?_) (fun c1 => ?_)
  · omega
  · refine z_aload_n dX6_drop_4 rfl ?_
    refine z_iload_n dX6_drop_5 rfl ?_
    refine z_iload_n dX6_drop_6 rfl ?_
    refine z_callV_eI (M := mX6_drop) [_, _] tX6_isCell kX6_247 dX6_drop_7 ⟨by decide, rfl, _, _, rfl⟩ ⟨by decide, by decide⟩ rfl (Nat.le_of_ble_eq_true rfl) rfl (c_X6_isCell1 W.wb R (by omega)) ?_
    refine z_if_ne 16 dX6_drop_10 (by decide) (bi_r _) (fun c10 => ?_) (fun c10 => ?_)
    · have c10 := bi_ne.mp c10
      exact absurd c10 ho
    · have c10 := bi_eq.mp c10
      refine z_ldc (-1000001) dX6_drop_13 qX6_218 rfl ?_
      exact z_ireturn dX6_drop_15 rfl (hQ _ _ ⟨_, rfl, rfl, rfl⟩)
set_option maxRecDepth 100000 in
set_option maxHeartbeats 4000000 in
theorem c_X6_dropO2 {g : GG} {h : HH} {σ : SG} (W : WF σ) (R : RM (h 48) σ) {c : Int} (hc : R32 c) (ho : ¬ (0 ≤ c ∧ c < sF σ)) : CeI mX6_drop g [vr 47, vi 2, vi c] h kBAD := by
  refine cn_q (lv := [vr 47, vi 2, vi c, vx]) tX6_drop.1 rfl rfl (fun hR Q hQ => ?_)
  refine z_iload_n dX6_drop_0 rfl ?_
  refine z_if_eq 13 dX6_drop_1 (by decide) (by omega) (fun c1 => ?_) (fun c1 => ?_)
  · omega
  · refine z_aload_n dX6_drop_4 rfl ?_
    refine z_iload_n dX6_drop_5 rfl ?_
    refine z_iload_n dX6_drop_6 rfl ?_
    refine z_callV_eI (M := mX6_drop) [_, _] tX6_isCell kX6_247 dX6_drop_7 ⟨by decide, rfl, _, _, rfl⟩ ⟨by decide, by decide⟩ rfl (Nat.le_of_ble_eq_true rfl) rfl (c_X6_isCell2 W.wb R (by omega)) ?_
    refine z_if_ne 16 dX6_drop_10 (by decide) (bi_r _) (fun c10 => ?_) (fun c10 => ?_)
    · have c10 := bi_ne.mp c10
      exact absurd c10 ho
    · have c10 := bi_eq.mp c10
      refine z_ldc (-1000001) dX6_drop_13 qX6_218 rfl ?_
      exact z_ireturn dX6_drop_15 rfl (hQ _ _ ⟨_, rfl, rfl, rfl⟩)
set_option maxRecDepth 100000 in
set_option maxHeartbeats 4000000 in
theorem c_X6_dropS {g : GG} {h : HH} {σ : SG} (W : WF σ) (R : RM (h 48) σ) {c : Nat} (hc : c < sE σ) (hs : sewn σ c) : CeI mX6_drop g [vr 47, vi 1, vi (c : Int)] h kSTATE := by
  refine cn_q (lv := [vr 47, vi 1, vi (c : Int), vx]) tX6_drop.1 rfl rfl (fun hR Q hQ => ?_)
  have w1 := W.1
  have w2 := W.2.1
  have w3 := W.2.2.1
  refine z_iload_n dX6_drop_0 rfl ?_
  refine z_if_eq 13 dX6_drop_1 (by decide) (by omega) (fun c1 => ?_) (fun c1 => ?_)
  · omega
  · refine z_aload_n dX6_drop_4 rfl ?_
    refine z_iload_n dX6_drop_5 rfl ?_
    refine z_iload_n dX6_drop_6 rfl ?_
    refine z_callV_eI (M := mX6_drop) [_, _] tX6_isCell kX6_247 dX6_drop_7 ⟨by decide, rfl, _, _, rfl⟩ ⟨by decide, by decide⟩ rfl (Nat.le_of_ble_eq_true rfl) rfl (c_X6_isCell1 W.wb R (by omega)) ?_
    refine z_if_ne 16 dX6_drop_10 (by decide) (bi_r _) (fun c10 => ?_) (fun c10 => ?_)
    · have c10 := bi_ne.mp c10
      refine z_iload_n dX6_drop_16 rfl ?_
      refine z_iconst dX6_drop_17 ?_
      refine z_icmp_ne 32 dX6_drop_18 (by decide) (by omega) (by omega) (fun c18 => ?_) (fun c18 => ?_)
      · omega
      · refine z_aload_n dX6_drop_21 rfl ?_
        refine z_iload_n dX6_drop_22 rfl ?_
        refine z_callV_eI (M := mX6_drop) [_] tX6_isSpelled kX6_260 dX6_drop_23 ⟨by decide, rfl, _, _, rfl⟩ ⟨by decide, by decide⟩ rfl (Nat.le_of_ble_eq_true rfl) rfl (c_X6_isSpelled W R (d := c) (by omega)) ?_
        refine z_if_eq 32 dX6_drop_26 (by decide) (bi_r _) (fun c26 => ?_) (fun c26 => ?_)
        · have c26 := bi_eq.mp c26
          exact absurd hs c26
        · have c26 := bi_ne.mp c26
          refine z_ldc (-1000002) dX6_drop_29 qX6_241 rfl ?_
          exact z_ireturn dX6_drop_31 rfl (hQ _ _ ⟨_, rfl, rfl, rfl⟩)
    · have c10 := bi_eq.mp c10
      omega
set_option maxRecDepth 100000 in
set_option maxHeartbeats 4000000 in
theorem c_X6_drop1 {g : GG} {h : HH} {σ : SG} (W : WF σ) (R : RM (h 48) σ) {as : List SG} (P : RPast h as) {c : Nat} (hc : c < sE σ) (hs : ¬ sewn σ c) : CnI mX6_drop g [vr 47, vi 1, vi (c : Int)] h (fun z h' => z = sE σ - 1 ∧ ActM h h' σ as (dropE σ c)) := by
  refine cn_q (lv := [vr 47, vi 1, vi (c : Int), vx]) tX6_drop.1 rfl rfl (fun hR Q hQ => ?_)
  have w1 := W.1
  have w2 := W.2.1
  have w3 := W.2.2.1
  refine z_iload_n dX6_drop_0 rfl ?_
  refine z_if_eq 13 dX6_drop_1 (by decide) (by omega) (fun c1 => ?_) (fun c1 => ?_)
  · omega
  · refine z_aload_n dX6_drop_4 rfl ?_
    refine z_iload_n dX6_drop_5 rfl ?_
    refine z_iload_n dX6_drop_6 rfl ?_
    refine z_callV_eI (M := mX6_drop) [_, _] tX6_isCell kX6_247 dX6_drop_7 ⟨by decide, rfl, _, _, rfl⟩ ⟨by decide, by decide⟩ rfl (Nat.le_of_ble_eq_true rfl) rfl (c_X6_isCell1 W.wb R (by omega)) ?_
    refine z_if_ne 16 dX6_drop_10 (by decide) (bi_r _) (fun c10 => ?_) (fun c10 => ?_)
    · have c10 := bi_ne.mp c10
      refine z_iload_n dX6_drop_16 rfl ?_
      refine z_iconst dX6_drop_17 ?_
      refine z_icmp_ne 32 dX6_drop_18 (by decide) (by omega) (by omega) (fun c18 => ?_) (fun c18 => ?_)
      · omega
      · refine z_aload_n dX6_drop_21 rfl ?_
        refine z_iload_n dX6_drop_22 rfl ?_
        refine z_callV_eI (M := mX6_drop) [_] tX6_isSpelled kX6_260 dX6_drop_23 ⟨by decide, rfl, _, _, rfl⟩ ⟨by decide, by decide⟩ rfl (Nat.le_of_ble_eq_true rfl) rfl (c_X6_isSpelled W R (d := c) (by omega)) ?_
        refine z_if_eq 32 dX6_drop_26 (by decide) (bi_r _) (fun c26 => ?_) (fun c26 => ?_)
        · have c26 := bi_eq.mp c26
          refine z_aload_n dX6_drop_32 rfl ?_
          refine z_callV_V (M := mX6_drop) [] tX6_notes kX6_252 dX6_drop_33 ⟨by decide, rfl, _, _, rfl⟩ ⟨by decide, by decide⟩ rfl (Nat.le_of_ble_eq_true rfl) rfl (c_X6_notes W R P) (fun h33 q33 => ?_)
          have e48 : h33 48 = h 48 := q33.2.1 48 (by decide) (by decide)
          have R2 : RM (h33 48) σ := by rw [e48]; exact R
          refine z_iload_n dX6_drop_36 rfl ?_
          refine z_iconst dX6_drop_37 ?_
          refine z_icmp_ne 53 dX6_drop_38 (by decide) (by omega) (by omega) (fun c38 => ?_) (fun c38 => ?_)
          · omega
          · refine z_aload_n dX6_drop_41 rfl ?_
            refine z_iload_n dX6_drop_42 rfl ?_
            refine z_callV_V (M := mX6_drop) [_] tX6_dropsEdge kX6_263 dX6_drop_43 ⟨by decide, rfl, _, _, rfl⟩ ⟨by decide, by decide⟩ rfl (Nat.le_of_ble_eq_true rfl) rfl (c_X6_dropsEdge W R2 hc) (fun h43 q43 => ?_)
            obtain ⟨f', g1, g2⟩ := q43
            rw [g1]
            refine z_aload_n dX6_drop_46 rfl ?_
            refine z_getR fX6_7 dX6_drop_47 (by decide) rfl rfl ?_
            refine z_iconst dX6_drop_50 ?_
            refine z_iaload dX6_drop_51 (by decide) rfl (by omega) (by omega) (by first | decide | omega) (fun r51 => ?_)
            rw [show setc h33 48 f' 48 (Int.toNat 1) = ((sE σ - 1 : Nat) : Int) from by rw [setc_at]; exact rm_E g2]
            exact z_ireturn dX6_drop_52 rfl (hQ _ _ ⟨_, rfl, ⟨by omega, actM_of q33 g2⟩⟩)
        · have c26 := bi_ne.mp c26
          exact absurd c26 hs
    · have c10 := bi_eq.mp c10
      omega
set_option maxRecDepth 100000 in
set_option maxHeartbeats 4000000 in
theorem c_X6_drop2 {g : GG} {h : HH} {σ : SG} (W : WF σ) (R : RM (h 48) σ) {as : List SG} (P : RPast h as) {c : Nat} (hc : c < sF σ) : CnI mX6_drop g [vr 47, vi 2, vi (c : Int)] h (fun z h' => z = sF σ - 1 ∧ ActM h h' σ as (dropF σ c)) := by
  refine cn_q (lv := [vr 47, vi 2, vi (c : Int), vx]) tX6_drop.1 rfl rfl (fun hR Q hQ => ?_)
  have w1 := W.1
  have w2 := W.2.1
  have w3 := W.2.2.1
  refine z_iload_n dX6_drop_0 rfl ?_
  refine z_if_eq 13 dX6_drop_1 (by decide) (by omega) (fun c1 => ?_) (fun c1 => ?_)
  · omega
  · refine z_aload_n dX6_drop_4 rfl ?_
    refine z_iload_n dX6_drop_5 rfl ?_
    refine z_iload_n dX6_drop_6 rfl ?_
    refine z_callV_eI (M := mX6_drop) [_, _] tX6_isCell kX6_247 dX6_drop_7 ⟨by decide, rfl, _, _, rfl⟩ ⟨by decide, by decide⟩ rfl (Nat.le_of_ble_eq_true rfl) rfl (c_X6_isCell2 W.wb R (by omega)) ?_
    refine z_if_ne 16 dX6_drop_10 (by decide) (bi_r _) (fun c10 => ?_) (fun c10 => ?_)
    · have c10 := bi_ne.mp c10
      refine z_iload_n dX6_drop_16 rfl ?_
      refine z_iconst dX6_drop_17 ?_
      refine z_icmp_ne 32 dX6_drop_18 (by decide) (by omega) (by omega) (fun c18 => ?_) (fun c18 => ?_)
      · refine z_aload_n dX6_drop_32 rfl ?_
        refine z_callV_V (M := mX6_drop) [] tX6_notes kX6_252 dX6_drop_33 ⟨by decide, rfl, _, _, rfl⟩ ⟨by decide, by decide⟩ rfl (Nat.le_of_ble_eq_true rfl) rfl (c_X6_notes W R P) (fun h33 q33 => ?_)
        have e48 : h33 48 = h 48 := q33.2.1 48 (by decide) (by decide)
        have R2 : RM (h33 48) σ := by rw [e48]; exact R
        refine z_iload_n dX6_drop_36 rfl ?_
        refine z_iconst dX6_drop_37 ?_
        refine z_icmp_ne 53 dX6_drop_38 (by decide) (by omega) (by omega) (fun c38 => ?_) (fun c38 => ?_)
        · refine z_bipush dX6_drop_53 (by decide) ?_
          refine z_bipush dX6_drop_55 (by decide) ?_
          refine z_iload_n dX6_drop_57 rfl ?_
          refine z_imul dX6_drop_58 ?_
          refine z_iadd dX6_drop_59 ?_
          refine z_istore_n dX6_drop_60 (by decide) rfl ?_
          have loop61 : ∀ (nL9 : Nat) (k : Nat), (21 + 6 * c ≤ k ∧ k ≤ 39) → 45 - k < nL9 → Z mX6_drop g 61 [vr 47, vi 2, vi (c : Int), vi (k : Int)] [] (setc h33 48 (shD (h33 48) c k)) Q := by
            intro nL9
            induction nL9 with
            | zero => intro k hk hnL9; exact absurd hnL9 (Nat.not_lt_zero _)
            | succ nL9 ih61 =>
              intro k hk hnL9
              refine z_iload_n dX6_drop_61 rfl ?_
              refine z_bipush dX6_drop_62 (by decide) ?_
              refine z_icmp_ge 88 dX6_drop_64 (by decide) (by omega) (by omega) (fun c64 => ?_) (fun c64 => ?_)
              · refine z_aload_n dX6_drop_88 rfl ?_
                refine z_getR fX6_7 dX6_drop_89 (by decide) rfl rfl ?_
                refine z_iconst dX6_drop_92 ?_
                refine z_dup2 dX6_drop_93 rfl rfl ?_
                refine z_iaload dX6_drop_94 (by decide) rfl (by omega) (by omega) (by first | decide | omega) (fun r94 => ?_)
                have E2 : setc h33 48 (shD (h33 48) c k) 48 (Int.toNat 2) = sF σ := by rw [setc_at]; exact (if_neg (by omega)).trans (rm_F R2)
                rw [E2] at r94 ⊢
                refine z_iconst dX6_drop_95 ?_
                refine z_isub dX6_drop_96 ?_
                refine z_iastore dX6_drop_97 (by decide) rfl (by omega) (by omega) (by first | decide | omega) (by omega) ?_
                rw [up_s (z := 2) (i := 2) rfl, show k = 39 from by omega]
                refine z_aload_n dX6_drop_98 rfl ?_
                refine z_getR fX6_7 dX6_drop_99 (by decide) rfl rfl ?_
                refine z_iconst dX6_drop_102 ?_
                refine z_iaload dX6_drop_103 (by decide) rfl (by omega) (by omega) (by first | decide | omega) (fun r103 => ?_)
                rw [show setc h33 48 (upn (shD (h33 48) c 39) 2 ((sF σ : Int) - 1)) 48 (Int.toNat 2) = (sF σ : Int) - 1 from by rw [setc_at]; exact upn_eq rfl]
                exact z_ireturn dX6_drop_104 rfl (hQ _ _ ⟨_, rfl, ⟨rfl, actM_of q33 (rm_dropF W.wb R2 hc)⟩⟩)
              · refine z_aload_n dX6_drop_67 rfl ?_
                refine z_getR fX6_7 dX6_drop_68 (by decide) rfl rfl ?_
                refine z_iload_n dX6_drop_71 rfl ?_
                refine z_aload_n dX6_drop_72 rfl ?_
                refine z_getR fX6_7 dX6_drop_73 (by decide) rfl rfl ?_
                refine z_iload_n dX6_drop_76 rfl ?_
                refine z_bipush dX6_drop_77 (by decide) ?_
                refine z_iadd dX6_drop_79 ?_
                refine z_iaload dX6_drop_80 (by decide) rfl (by omega) (by omega) (by first | decide | omega) (fun r80 => ?_)
                have e80 : setc h33 48 (shD (h33 48) c k) 48 ((k : Int) + 6).toNat = (shD (h33 48) c k) (k + 6) := by rw [setc_at]; exact ix (by omega)
                rw [e80] at r80 ⊢
                refine z_iastore dX6_drop_81 (by decide) rfl (by omega) (by omega) (by first | decide | omega) (by omega) ?_
                rw [up_s (i := k) rfl, shD_s _ (by omega)]
                refine z_iinc dX6_drop_82 rfl (by decide) rfl ?_
                refine z_goto 61 dX6_drop_85 (by decide) ?_
                exact ih61 (k + 1) (by omega) (by omega)
          have x0 := loop61 _ (21 + 6 * c) (by omega) (Nat.lt_succ_self _)
          rw [shD_0, setc_self] at x0
          rw [show 21 + 6 * (c : Int) = ((21 + 6 * c : Nat) : Int) from by omega]
          exact x0
        · omega
      · omega
    · have c10 := bi_eq.mp c10
      omega

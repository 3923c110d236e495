set_option maxRecDepth 100000 in
set_option maxHeartbeats 4000000 in
theorem c_X6_determinant {g : GG} {h : HH} {n b : Nat} (hn : n ≤ 6) (hb : ∀ i j, i < n → j < n → (MM (h 54) i j).natAbs ≤ b) (hB : ∀ k, k + 2 ≤ n → fcb k b * fcb (k + 2) b < 2 ^ 63) : CnL mX6_determinant g [vr 47, vi (n : Int)] h (fun z h' => z = dT n (MM (h 54)) ∧ ∃ f, h' = setc h 54 f) := by
  refine cn_q (lv := [vr 47, vi (n : Int), vx, vx, vx, vx, vx, vx, vx, vx]) tX6_determinant.1 rfl rfl (fun hR Q hQ => ?_)
  refine z_lconst (z := 1) dX6_determinant_0 rfl ?_
  refine z_lstore_n dX6_determinant_1 (by decide) rfl ?_
  refine z_lconst (z := 1) dX6_determinant_2 rfl ?_
  refine z_lstore dX6_determinant_3 (by decide) rfl ?_
  refine z_iconst dX6_determinant_5 ?_
  refine z_istore dX6_determinant_6 (by decide) rfl ?_
  have loop8 : ∀ (nL9 : Nat) (k : Nat) (s : Int) (d : Int) (f : Nat → Int) (B : Nat → Nat → Int), (k ≤ n) → (s * dT n B = dT n (MM (h 54))) → (∀ i j, i < n → j < n → (B i j).natAbs ≤ b) → (R64 d) → (BI n k B (MM f) d) → n - k < nL9 → Z mX6_determinant g 8 [vr 47, vi (n : Int), vl s, vx, vl d, vx, vi (k : Int), vx, vx, vx] [] (setc h 54 f) Q := by
    intro nL9
    induction nL9 with
    | zero => intro k s d f B hk hs hbB hd hI hnL9; exact absurd hnL9 (Nat.not_lt_zero _)
    | succ nL9 ih8 =>
      intro k s d f B hk hs hbB hd hI hnL9
      refine z_iload dX6_determinant_8 rfl ?_
      refine z_iload_n dX6_determinant_10 rfl ?_
      refine z_icmp_ge 202 dX6_determinant_11 (by decide) (by omega) (by omega) (fun c11 => ?_) (fun c11 => ?_)
      · refine z_lload_n dX6_determinant_202 rfl ?_
        refine z_lload dX6_determinant_203 rfl ?_
        refine z_lmul dX6_determinant_205 ?_
        exact z_lreturn dX6_determinant_206 rfl (hQ _ _ ⟨_, rfl, ⟨by rw [← hs, hI.1, show k = n from by omega], f, rfl⟩⟩)
      · have cut48 : ∀ (q : Nat), (k ≤ q ∧ q ≤ n) → (∀ i, k ≤ i → i < q → MM f i k = 0) → (q < n → MM f q k ≠ 0) → Z mX6_determinant g 48 [vr 47, vi (n : Int), vl s, vx, vl d, vx, vi (k : Int), vi (q : Int), vx, vx] [] (setc h 54 f) Q := by
          intro q hq hz hnz
          have hkn : k < n := by omega
          refine z_iload dX6_determinant_48 rfl ?_
          refine z_iload_n dX6_determinant_50 rfl ?_
          refine z_icmp_ne 56 dX6_determinant_51 (by decide) (by omega) (by omega) (fun c51 => ?_) (fun c51 => ?_)
          · have cut74 : ∀ (s1 : Int) (f1 : Nat → Int) (B1 : Nat → Nat → Int), s1 * dT n B1 = dT n (MM (h 54)) → (∀ i j, i < n → j < n → (B1 i j).natAbs ≤ b) → BI n k B1 (MM f1) d → MM f1 k k ≠ 0 → Z mX6_determinant g 74 [vr 47, vi (n : Int), vl s1, vx, vl d, vx, vi (k : Int), vi (q : Int), vx, vx] [] (setc h 54 f1) Q := by
              intro s1 f1 B1 hs1 hbB1 hI1 hpv
              refine z_iload dX6_determinant_74 rfl ?_
              refine z_iconst dX6_determinant_76 ?_
              refine z_iadd dX6_determinant_77 ?_
              refine z_istore dX6_determinant_78 (by decide) rfl ?_
              have loop80 : ∀ (nL9 : Nat) (i : Nat) (f2 : Nat → Int), (k + 1 ≤ i ∧ i ≤ n) → (DI n k i 0 B1 f1 f2) → n - i < nL9 → Z mX6_determinant g 80 [vr 47, vi (n : Int), vl s1, vx, vl d, vx, vi (k : Int), vi (q : Int), vi (i : Int), vx] [] (setc h 54 f2) Q := by
                intro nL9
                induction nL9 with
                | zero => intro i f2 hi hD hnL9; exact absurd hnL9 (Nat.not_lt_zero _)
                | succ nL9 ih80 =>
                  intro i f2 hi hD hnL9
                  refine z_iload dX6_determinant_80 rfl ?_
                  refine z_iload_n dX6_determinant_82 rfl ?_
                  refine z_icmp_ge 181 dX6_determinant_83 (by decide) (by omega) (by omega) (fun c83 => ?_) (fun c83 => ?_)
                  · refine z_aload_n dX6_determinant_181 rfl ?_
                    refine z_getR fX6_29 dX6_determinant_182 (by decide) rfl rfl ?_
                    refine z_bipush dX6_determinant_185 (by decide) ?_
                    refine z_iload dX6_determinant_187 rfl ?_
                    refine z_imul dX6_determinant_189 ?_
                    refine z_iload dX6_determinant_190 rfl ?_
                    refine z_iadd dX6_determinant_192 ?_
                    refine z_laload dX6_determinant_193 (by decide) rfl (by omega) (by omega) (by first | decide | omega) (fun r193 => ?_)
                    rw [rd54 (i := k) (j := k) (z := 6 * (k : Int) + (k : Int)) rfl, hD.old (by omega) (by omega) (by omega)] at r193 ⊢
                    refine z_lstore dX6_determinant_194 (by decide) rfl ?_
                    refine z_iinc dX6_determinant_196 rfl (by decide) rfl ?_
                    refine z_goto 8 dX6_determinant_199 (by decide) ?_
                    refine z_forget 7 ?_
                    refine z_forget 8 ?_
                    exact ih8 (k + 1) s1 _ f2 B1 (by omega) hs1 hbB1 r193 (hD.bi (by omega) hkn hI1 hpv) (by omega)
                  · refine z_iload dX6_determinant_86 rfl ?_
                    refine z_iconst dX6_determinant_88 ?_
                    refine z_iadd dX6_determinant_89 ?_
                    refine z_istore dX6_determinant_90 (by decide) rfl ?_
                    have loop92 : ∀ (nL9 : Nat) (j : Nat) (f2 : Nat → Int), (k + 1 ≤ j ∧ j ≤ n) → (DI n k i j B1 f1 f2) → n - j < nL9 → Z mX6_determinant g 92 [vr 47, vi (n : Int), vl s1, vx, vl d, vx, vi (k : Int), vi (q : Int), vi (i : Int), vi (j : Int)] [] (setc h 54 f2) Q := by
                      intro nL9
                      induction nL9 with
                      | zero => intro j f2 hj hD hnL9; exact absurd hnL9 (Nat.not_lt_zero _)
                      | succ nL9 ih92 =>
                        intro j f2 hj hD hnL9
                        refine z_iload dX6_determinant_92 rfl ?_
                        refine z_iload_n dX6_determinant_94 rfl ?_
                        refine z_icmp_ge 175 dX6_determinant_95 (by decide) (by omega) (by omega) (fun c95 => ?_) (fun c95 => ?_)
                        · refine z_iinc dX6_determinant_175 rfl (by decide) rfl ?_
                          refine z_goto 80 dX6_determinant_178 (by decide) ?_
                          refine z_forget 9 ?_
                          exact ih80 (i + 1) f2 (by omega) (hD.next (by omega)) (by omega)
                        · refine z_aload_n dX6_determinant_98 rfl ?_
                          refine z_getR fX6_29 dX6_determinant_99 (by decide) rfl rfl ?_
                          refine z_bipush dX6_determinant_102 (by decide) ?_
                          refine z_iload dX6_determinant_104 rfl ?_
                          refine z_imul dX6_determinant_106 ?_
                          refine z_iload dX6_determinant_107 rfl ?_
                          refine z_iadd dX6_determinant_109 ?_
                          refine z_aload_n dX6_determinant_110 rfl ?_
                          refine z_getR fX6_29 dX6_determinant_111 (by decide) rfl rfl ?_
                          refine z_bipush dX6_determinant_114 (by decide) ?_
                          refine z_iload dX6_determinant_116 rfl ?_
                          refine z_imul dX6_determinant_118 ?_
                          refine z_iload dX6_determinant_119 rfl ?_
                          refine z_iadd dX6_determinant_121 ?_
                          refine z_laload dX6_determinant_122 (by decide) rfl (by omega) (by omega) (by first | decide | omega) (fun r122 => ?_)
                          refine z_aload_n dX6_determinant_123 rfl ?_
                          refine z_getR fX6_29 dX6_determinant_124 (by decide) rfl rfl ?_
                          refine z_bipush dX6_determinant_127 (by decide) ?_
                          refine z_iload dX6_determinant_129 rfl ?_
                          refine z_imul dX6_determinant_131 ?_
                          refine z_iload dX6_determinant_132 rfl ?_
                          refine z_iadd dX6_determinant_134 ?_
                          refine z_laload dX6_determinant_135 (by decide) rfl (by omega) (by omega) (by first | decide | omega) (fun r135 => ?_)
                          refine z_lmul dX6_determinant_136 ?_
                          refine z_aload_n dX6_determinant_137 rfl ?_
                          refine z_getR fX6_29 dX6_determinant_138 (by decide) rfl rfl ?_
                          refine z_bipush dX6_determinant_141 (by decide) ?_
                          refine z_iload dX6_determinant_143 rfl ?_
                          refine z_imul dX6_determinant_145 ?_
                          refine z_iload dX6_determinant_146 rfl ?_
                          refine z_iadd dX6_determinant_148 ?_
                          refine z_laload dX6_determinant_149 (by decide) rfl (by omega) (by omega) (by first | decide | omega) (fun r149 => ?_)
                          refine z_aload_n dX6_determinant_150 rfl ?_
                          refine z_getR fX6_29 dX6_determinant_151 (by decide) rfl rfl ?_
                          refine z_bipush dX6_determinant_154 (by decide) ?_
                          refine z_iload dX6_determinant_156 rfl ?_
                          refine z_imul dX6_determinant_158 ?_
                          refine z_iload dX6_determinant_159 rfl ?_
                          refine z_iadd dX6_determinant_161 ?_
                          refine z_laload dX6_determinant_162 (by decide) rfl (by omega) (by omega) (by first | decide | omega) (fun r162 => ?_)
                          refine z_lmul dX6_determinant_163 ?_
                          refine z_lsub dX6_determinant_164 ?_
                          rw [rd54 (i := i) (j := j) (z := 6 * (i : Int) + (j : Int)) rfl, rd54 (i := k) (j := k) (z := 6 * (k : Int) + (k : Int)) rfl, rd54 (i := i) (j := k) (z := 6 * (i : Int) + (k : Int)) rfl, rd54 (i := k) (j := j) (z := 6 * (k : Int) + (j : Int)) rfl, hD.old (by omega) (by omega) (by omega), hD.old (by omega) (by omega) (by omega), hD.old (by omega) (by omega) (by omega), hD.old (by omega) (by omega) (by omega)]
                          obtain ⟨dq1, dq2, dq3⟩ := det_q hI1 hbB1 hB (i := i) (j := j) (by omega) hpv (by omega) (by omega) (by omega) (by omega)
                          refine z_lload dX6_determinant_165 rfl ?_
                          refine z_ldiv dX6_determinant_167 dq1 hd hI1.2.1 ?_
                          rw [dq2]
                          refine z_lastore dX6_determinant_168 (by decide) rfl (by omega) (by omega) (by first | decide | omega) dq3 ?_
                          rw [up_s (i := 6 * i + j) (by omega)]
                          refine z_iinc dX6_determinant_169 rfl (by decide) rfl ?_
                          refine z_goto 92 dX6_determinant_172 (by decide) ?_
                          exact ih92 (j + 1) _ (by omega) (hD.put hn (by omega) (by omega) (by omega) rfl) (by omega)
                    exact loop92 _ (k + 1) f2 (by omega) hD.start (Nat.lt_succ_self _)
              exact loop80 _ (k + 1) f1 (by omega) DI.zero (Nat.lt_succ_self _)
            refine z_iload dX6_determinant_56 rfl ?_
            refine z_iload dX6_determinant_58 rfl ?_
            refine z_icmp_le 74 dX6_determinant_60 (by decide) (by omega) (by omega) (fun c60 => ?_) (fun c60 => ?_)
            · exact cut74 s f B hs hbB hI (by have := hnz (by omega); rw [show q = k from by omega] at this; exact this)
            · refine z_aload_n dX6_determinant_63 rfl ?_
              refine z_iload dX6_determinant_64 rfl ?_
              refine z_iload dX6_determinant_66 rfl ?_
              refine z_callV_V (M := mX6_determinant) [_, _] tX6_swaps kX6_84 dX6_determinant_68 ⟨by decide, rfl, _, _, rfl⟩ ⟨by decide, by decide⟩ rfl (Nat.le_of_ble_eq_true rfl) rfl (c_X6_swaps (a := q) (b := k) (by omega) (by omega)) (fun h68 q68 => ?_)
              rw [q68, setc_at, setc_setc]
              refine z_lload_n dX6_determinant_71 rfl ?_
              refine z_lneg dX6_determinant_72 ?_
              refine z_lstore_n dX6_determinant_73 (by decide) rfl ?_
              exact cut74 (-s) (swf q k 6 f) (sw q k B) (by rw [dT_sw (by omega) hkn (by omega), ← hs]; grind) (fun i j hi hj => by
                by_cases e1 : i = q
                · subst e1; rw [sw_i]; exact hbB k j hkn hj
                · by_cases e2 : i = k
                  · subst e2; rw [sw_j e1]; exact hbB q j (by omega) hj
                  · rw [sw_o e1 e2]; exact hbB i j hi hj) (sw_MM f hn (bi_sw hI (by omega) (by omega) (Nat.le_refl k) hkn (by omega))) (by rw [MM_sw f (by omega), if_neg (by omega), if_pos rfl]; exact hnz (by omega))
          · refine z_lconst (z := 0) dX6_determinant_54 rfl ?_
            exact z_lreturn dX6_determinant_55 rfl (hQ _ _ ⟨_, rfl, ⟨by rw [← hs, bi_none hI hkn (fun i i1 i2 => hz i i1 (by omega)), Int.mul_zero], f, rfl⟩⟩)
        refine z_iload dX6_determinant_14 rfl ?_
        refine z_istore dX6_determinant_16 (by decide) rfl ?_
        have loop18 : ∀ (nL9 : Nat) (q : Nat), (k ≤ q ∧ q ≤ n) → (∀ i, k ≤ i → i < q → MM f i k = 0) → n - q < nL9 → Z mX6_determinant g 18 [vr 47, vi (n : Int), vl s, vx, vl d, vx, vi (k : Int), vi (q : Int), vx, vx] [] (setc h 54 f) Q := by
          intro nL9
          induction nL9 with
          | zero => intro q hq hz hnL9; exact absurd hnL9 (Nat.not_lt_zero _)
          | succ nL9 ih18 =>
            intro q hq hz hnL9
            refine z_iload dX6_determinant_18 rfl ?_
            refine z_iload_n dX6_determinant_20 rfl ?_
            refine z_icmp_ge 48 dX6_determinant_21 (by decide) (by omega) (by omega) (fun c21 => ?_) (fun c21 => ?_)
            · exact cut48 q hq hz (fun q => by omega)
            · refine z_aload_n dX6_determinant_24 rfl ?_
              refine z_getR fX6_29 dX6_determinant_25 (by decide) rfl rfl ?_
              refine z_bipush dX6_determinant_28 (by decide) ?_
              refine z_iload dX6_determinant_30 rfl ?_
              refine z_imul dX6_determinant_32 ?_
              refine z_iload dX6_determinant_33 rfl ?_
              refine z_iadd dX6_determinant_35 ?_
              refine z_laload dX6_determinant_36 (by decide) rfl (by omega) (by omega) (by first | decide | omega) (fun r36 => ?_)
              rw [rd54 (i := q) (j := k) (z := 6 * (q : Int) + (k : Int)) rfl] at r36 ⊢
              refine z_lconst (z := 0) dX6_determinant_37 rfl ?_
              refine z_lcmp dX6_determinant_38 (by omega) (by decide) ?_
              refine z_if_ne 48 dX6_determinant_39 (by decide) (icmp_r _ _) (fun c39 => ?_) (fun c39 => ?_)
              · have c39 := icmp_ne.mp c39
                exact cut48 q hq hz (fun _ => c39)
              · have c39 := icmp_eq.mp c39
                refine z_iinc dX6_determinant_42 rfl (by decide) rfl ?_
                refine z_goto 18 dX6_determinant_45 (by decide) ?_
                exact ih18 (q + 1) (by omega) (fun i i1 i2 => by
                  rcases (show i < q ∨ i = q by omega) with e | e
                  · exact hz i i1 e
                  · rw [e]; exact c39) (by omega)
        exact loop18 _ k (by omega) (fun i i1 i2 => by omega) (Nat.lt_succ_self _)
  have x0 := loop8 _ 0 1 1 (h 54) (MM (h 54)) (by omega) (Int.one_mul _) hb (by decide) (bi0 fun _ _ _ _ => rfl) (Nat.lt_succ_self _)
  rw [setc_self] at x0
  exact x0

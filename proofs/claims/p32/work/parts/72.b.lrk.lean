set_option maxRecDepth 100000 in
set_option maxHeartbeats 4000000 in
theorem c_L_rank {g : GG} {h : HH} {A : Nat → Nat → Int} {R C : Nat} (hR6 : R ≤ 6) (hR0 : 0 < R) (hC : C ≤ 6) (hf : ∀ i j, i < R → j < C → h 49 (7 * i + j) = A i j) (hU : ∀ k, k < C → UJ (h 49) 0 R k) (hz : ∀ i k, i < R → C ≤ k → k < 7 → h 49 (7 * i + k) = 0) : CnI mL_rank g [vr 49, vi (R : Int), vi (C : Int)] h (fun z h' => (∃ r : Nat, z = r ∧ r < R ∧ ∀ p, PR p → Rk A R (2 ^ C - 1) p r) ∧ ∀ k, k ≠ 49 → h' k = h k) := by
  refine cn_q (lv := [vr 49, vi (R : Int), vi (C : Int), vx, vx, vx, vx, vx, vx, vx, vx, vx, vx, vx]) tL_rank.1 rfl rfl (fun hR Q hQ => ?_)
  refine z_iconst dL_rank_0 ?_
  refine z_istore_n dL_rank_1 (by decide) rfl ?_
  refine z_lconst (z := 1) dL_rank_2 rfl ?_
  refine z_lstore dL_rank_3 (by decide) rfl ?_
  refine z_iconst dL_rank_5 ?_
  refine z_istore dL_rank_6 (by decide) rfl ?_
  have loop8 : ∀ (nL9 : Nat) (h1 : HH) (j r : Nat) (d : Int), (j ≤ C) → (pm1 d) → (RJ A R C (h1 49) j r) → (∀ k, k ≠ 49 → h1 k = h k) → C - j < nL9 → Z mL_rank g 8 [vr 49, vi (R : Int), vi (C : Int), vi (r : Int), vl d, vx, vi (j : Int), vx, vx, vx, vx, vx, vx, vx] [] h1 Q := by
    intro nL9
    induction nL9 with
    | zero => intro h1 j r d hj hd hJ hk hnL9; exact absurd hnL9 (Nat.not_lt_zero _)
    | succ nL9 ih8 =>
      intro h1 j r d hj hd hJ hk hnL9
      refine z_iload dL_rank_8 rfl ?_
      refine z_iload_n dL_rank_10 rfl ?_
      refine z_icmp_ge 220 dL_rank_11 (by decide) (by omega) (by omega) (fun c11 => ?_) (fun c11 => ?_)
      · refine z_iload_n dL_rank_220 rfl ?_
        exact z_ireturn dL_rank_221 rfl (hQ _ _ ⟨_, rfl, ⟨⟨r, rfl, hJ.1, by rw [show j = C by omega] at hJ; exact hJ.end hR6 hC⟩, hk⟩⟩)
      · have hr := hJ.1
        refine z_iload_n dL_rank_14 rfl ?_
        refine z_iload_n dL_rank_15 rfl ?_
        refine z_icmp_ge 220 dL_rank_16 (by decide) (by omega) (by omega) (fun c16 => ?_) (fun c16 => ?_)
        · have := hJ.1; omega
        · have k49 : ∀ (q : Nat), r ≤ q → q ≤ R → (∀ i, r ≤ i → i < q → h1 49 (7 * i + j) = 0) → (q < R → h1 49 (7 * q + j) ≠ 0) → Z mL_rank g 49 [vr 49, vi (R : Int), vi (C : Int), vi (r : Int), vl d, vx, vi (j : Int), vi (q : Int), vx, vx, vx, vx, vx, vx] [] h1 Q := by
            intro q hq1 hq2 hzq hqn
            refine z_iload dL_rank_49 rfl ?_
            refine z_iload_n dL_rank_51 rfl ?_
            refine z_icmp_ge 214 dL_rank_52 (by decide) (by omega) (by omega) (fun c52 => ?_) (fun c52 => ?_)
            · refine z_iinc dL_rank_214 rfl (by decide) rfl ?_
              refine z_goto 8 dL_rank_217 (by decide) ?_
              refine z_forget 7 ?_
              rw [show (j : Int) + 1 = ((j + 1 : Nat) : Int) by omega]
              exact ih8 h1 (j + 1) r d (by omega) hd (hJ.skip (by omega) (fun i i1 i2 => hzq i i1 (by omega))) hk (by omega)
            · refine z_iconst dL_rank_55 ?_
              refine z_istore dL_rank_56 (by decide) rfl ?_
              have loop58 : ∀ (nL9 : Nat) (h2 : HH) (k : Nat), (k ≤ 7) → (SP7 q r k (h1 49) (h2 49)) → (∀ k, k ≠ 49 → h2 k = h k) → 7 - k < nL9 → Z mL_rank g 58 [vr 49, vi (R : Int), vi (C : Int), vi (r : Int), vl d, vx, vi (j : Int), vi (q : Int), vi (k : Int), vx, vx, vx, vx, vx] [] h2 Q := by
                intro nL9
                induction nL9 with
                | zero => intro h2 k hk7 S2 hk2 hnL9; exact absurd hnL9 (Nat.not_lt_zero _)
                | succ nL9 ih58 =>
                  intro h2 k hk7 S2 hk2 hnL9
                  refine z_iload dL_rank_58 rfl ?_
                  refine z_bipush dL_rank_60 (by decide) ?_
                  refine z_icmp_ge 113 dL_rank_62 (by decide) (by omega) (by omega) (fun c62 => ?_) (fun c62 => ?_)
                  · rw [show k = 7 by omega] at S2
                    have SW := S2.all
                    have Ug : ∀ k, k < C → UJ (h2 49) r R k := fun k hk => SW.uj (by omega) hq1 (by omega) (hJ.2.1 k hk)
                    have gv : h2 49 (7 * r + j) ≠ 0 := by
                      rw [SW r j (by omega)]
                      by_cases e : r = q
                      · rw [if_pos e, e]; exact hqn (by omega)
                      · rw [if_neg e, if_pos rfl]; exact hqn (by omega)
                    have hbp := ((Ug j (by omega)).piv hr gv).1
                    refine z_aload_n dL_rank_113 rfl ?_
                    refine z_bipush dL_rank_114 (by decide) ?_
                    refine z_iload_n dL_rank_116 rfl ?_
                    refine z_imul dL_rank_117 ?_
                    refine z_iload dL_rank_118 rfl ?_
                    refine z_iadd dL_rank_120 ?_
                    refine z_laload dL_rank_121 (by decide) rfl (by omega) (by omega) (by first | decide | omega) (fun r121 => ?_)
                    rw [rd7 (f := h2 49) (i := r) (j := j) rfl]
                    refine z_lstore dL_rank_122 (by decide) rfl ?_
                    refine z_iload_n dL_rank_124 rfl ?_
                    refine z_iconst dL_rank_125 ?_
                    refine z_iadd dL_rank_126 ?_
                    refine z_istore dL_rank_127 (by decide) rfl ?_
                    have loop129 : ∀ (nL9 : Nat) (h3 : HH) (i : Nat), (r + 1 ≤ i) → (i ≤ R) → (EP7 C r j i 0 d (h2 49) (h3 49)) → (∀ k, k ≠ 49 → h3 k = h k) → R - i < nL9 → Z mL_rank g 129 [vr 49, vi (R : Int), vi (C : Int), vi (r : Int), vl d, vx, vi (j : Int), vi (q : Int), vl (h2 49 (7 * r + j)), vx, vi (i : Int), vx, vx, vx] [] h3 Q := by
                      intro nL9
                      induction nL9 with
                      | zero => intro h3 i hi1 hi2 E3 hk3 hnL9; exact absurd hnL9 (Nat.not_lt_zero _)
                      | succ nL9 ih129 =>
                        intro h3 i hi1 hi2 E3 hk3 hnL9
                        refine z_iload dL_rank_129 rfl ?_
                        refine z_iload_n dL_rank_131 rfl ?_
                        refine z_icmp_ge 207 dL_rank_132 (by decide) (by omega) (by omega) (fun c132 => ?_) (fun c132 => ?_)
                        · refine z_lload dL_rank_207 rfl ?_
                          refine z_lstore dL_rank_209 (by decide) rfl ?_
                          refine z_iinc dL_rank_211 rfl (by decide) rfl ?_
                          refine z_iinc dL_rank_214 rfl (by decide) rfl ?_
                          refine z_goto 8 dL_rank_217 (by decide) ?_
                          refine z_forget 7 ?_
                          refine z_forget 8 ?_
                          refine z_forget 9 ?_
                          refine z_forget 10 ?_
                          refine z_forget 11 ?_
                          refine z_forget 12 ?_
                          refine z_forget 13 ?_
                          rw [show (r : Int) + 1 = ((r + 1 : Nat) : Int) by omega, show (j : Int) + 1 = ((j + 1 : Nat) : Int) by omega]
                          exact ih8 h3 (j + 1) (r + 1) _ (by omega) hbp (hJ.piv hR6 hC (by omega) hq1 (by omega) (hqn (by omega)) hd SW (E3.end hC (by omega) hJ.1)) hk3 (by omega)
                        · refine z_aload_n dL_rank_135 rfl ?_
                          refine z_bipush dL_rank_136 (by decide) ?_
                          refine z_iload dL_rank_138 rfl ?_
                          refine z_imul dL_rank_140 ?_
                          refine z_iload dL_rank_141 rfl ?_
                          refine z_iadd dL_rank_143 ?_
                          refine z_laload dL_rank_144 (by decide) rfl (by omega) (by omega) (by first | decide | omega) (fun r144 => ?_)
                          rw [rd7 (f := h3 49) (i := i) (j := j) rfl]
                          rw [show h3 49 (7 * i + j) = h2 49 (7 * i + j) by rw [E3 i j (by omega), if_neg (by omega)]]
                          refine z_lstore dL_rank_145 (by decide) rfl ?_
                          refine z_iconst dL_rank_147 ?_
                          refine z_istore dL_rank_148 (by decide) rfl ?_
                          have loop150 : ∀ (nL9 : Nat) (h4 : HH) (k : Nat), (k ≤ C) → (EP7 C r j i k d (h2 49) (h4 49)) → (∀ k, k ≠ 49 → h4 k = h k) → C - k < nL9 → Z mL_rank g 150 [vr 49, vi (R : Int), vi (C : Int), vi (r : Int), vl d, vx, vi (j : Int), vi (q : Int), vl (h2 49 (7 * r + j)), vx, vi (i : Int), vl (h2 49 (7 * i + j)), vx, vi (k : Int)] [] h4 Q := by
                            intro nL9
                            induction nL9 with
                            | zero => intro h4 k hkC E4 hk4 hnL9; exact absurd hnL9 (Nat.not_lt_zero _)
                            | succ nL9 ih150 =>
                              intro h4 k hkC E4 hk4 hnL9
                              refine z_iload dL_rank_150 rfl ?_
                              refine z_iload_n dL_rank_152 rfl ?_
                              refine z_icmp_ge 201 dL_rank_153 (by decide) (by omega) (by omega) (fun c153 => ?_) (fun c153 => ?_)
                              · refine z_iinc dL_rank_201 rfl (by decide) rfl ?_
                                refine z_goto 129 dL_rank_204 (by decide) ?_
                                refine z_forget 11 ?_
                                refine z_forget 12 ?_
                                refine z_forget 13 ?_
                                rw [show (i : Int) + 1 = ((i + 1 : Nat) : Int) by omega]
                                exact ih129 h4 (i + 1) (by omega) (by omega) (by rw [show k = C by omega] at E4; exact E4.next) hk4 (by omega)
                              · refine z_aload_n dL_rank_156 rfl ?_
                                refine z_bipush dL_rank_157 (by decide) ?_
                                refine z_iload dL_rank_159 rfl ?_
                                refine z_imul dL_rank_161 ?_
                                refine z_iload dL_rank_162 rfl ?_
                                refine z_iadd dL_rank_164 ?_
                                refine z_aload_n dL_rank_165 rfl ?_
                                refine z_bipush dL_rank_166 (by decide) ?_
                                refine z_iload dL_rank_168 rfl ?_
                                refine z_imul dL_rank_170 ?_
                                refine z_iload dL_rank_171 rfl ?_
                                refine z_iadd dL_rank_173 ?_
                                refine z_laload dL_rank_174 (by decide) rfl (by omega) (by omega) (by first | decide | omega) (fun r174 => ?_)
                                rw [rd7 (f := h4 49) (i := i) (j := k) rfl]
                                rw [show h4 49 (7 * i + k) = h2 49 (7 * i + k) by rw [E4 i k (by omega), if_neg (by omega)]]
                                refine z_lload dL_rank_175 rfl ?_
                                refine z_lmul dL_rank_177 ?_
                                refine z_aload_n dL_rank_178 rfl ?_
                                refine z_bipush dL_rank_179 (by decide) ?_
                                refine z_iload_n dL_rank_181 rfl ?_
                                refine z_imul dL_rank_182 ?_
                                refine z_iload dL_rank_183 rfl ?_
                                refine z_iadd dL_rank_185 ?_
                                refine z_laload dL_rank_186 (by decide) rfl (by omega) (by omega) (by first | decide | omega) (fun r186 => ?_)
                                rw [rd7 (f := h4 49) (i := r) (j := k) rfl]
                                rw [show h4 49 (7 * r + k) = h2 49 (7 * r + k) by rw [E4 r k (by omega), if_neg (by omega)]]
                                refine z_lload dL_rank_187 rfl ?_
                                refine z_lmul dL_rank_189 ?_
                                refine z_lsub dL_rank_190 ?_
                                have m1 := b1_mul ((Ug k (by omega)).b (i := i) (by omega) (by omega)) ((Ug j (by omega)).b (i := r) (by omega) hr)
                                have m2 := b1_mul ((Ug k (by omega)).b (i := r) (by omega) hr) ((Ug j (by omega)).b (i := i) (by omega) (by omega))
                                have m3 := pm_b (n := 2) (x := h2 49 (7 * i + k) * h2 49 (7 * r + j) - h2 49 (7 * r + k) * h2 49 (7 * i + j)) hd (by omega)
                                have d0 : R64 d ∧ d ≠ 0 := by unfold pm1 at hd; omega
                                refine z_lload dL_rank_191 rfl ?_
                                refine z_ldiv dL_rank_193 (by omega) d0.1 d0.2 ?_
                                rw [pm_div hd]
                                refine z_lastore dL_rank_194 (by decide) rfl (by omega) (by omega) (by first | decide | omega) (by omega) ?_
                                rw [show (7 * (i : Int) + (k : Int)).toNat = 7 * i + k by omega]
                                refine z_iinc dL_rank_195 rfl (by decide) rfl ?_
                                refine z_goto 150 dL_rank_198 (by decide) ?_
                                exact ih150 _ (k + 1) (by omega) (by rw [up_at]; exact E4.step (by omega) (by omega) rfl) (fun a ha => by rw [up_ne _ _ _ ha]; exact hk4 a ha) (by omega)
                          exact loop150 _ h3 0 (by omega) E3 hk3 (Nat.lt_succ_self _)
                    exact loop129 _ h2 (r + 1) (Nat.le_refl _) (by omega) (EP7.zero C r j d _) hk2 (Nat.lt_succ_self _)
                  · refine z_aload_n dL_rank_65 rfl ?_
                    refine z_bipush dL_rank_66 (by decide) ?_
                    refine z_iload dL_rank_68 rfl ?_
                    refine z_imul dL_rank_70 ?_
                    refine z_iload dL_rank_71 rfl ?_
                    refine z_iadd dL_rank_73 ?_
                    refine z_laload dL_rank_74 (by decide) rfl (by omega) (by omega) (by first | decide | omega) (fun r74 => ?_)
                    rw [rd7 (f := h2 49) (i := q) (j := k) rfl] at r74 ⊢
                    refine z_lstore dL_rank_75 (by decide) rfl ?_
                    refine z_aload_n dL_rank_77 rfl ?_
                    refine z_bipush dL_rank_78 (by decide) ?_
                    refine z_iload dL_rank_80 rfl ?_
                    refine z_imul dL_rank_82 ?_
                    refine z_iload dL_rank_83 rfl ?_
                    refine z_iadd dL_rank_85 ?_
                    refine z_aload_n dL_rank_86 rfl ?_
                    refine z_bipush dL_rank_87 (by decide) ?_
                    refine z_iload_n dL_rank_89 rfl ?_
                    refine z_imul dL_rank_90 ?_
                    refine z_iload dL_rank_91 rfl ?_
                    refine z_iadd dL_rank_93 ?_
                    refine z_laload dL_rank_94 (by decide) rfl (by omega) (by omega) (by first | decide | omega) (fun r94 => ?_)
                    rw [rd7 (f := h2 49) (i := r) (j := k) rfl] at r94 ⊢
                    refine z_lastore dL_rank_95 (by decide) rfl (by omega) (by omega) (by first | decide | omega) (by omega) ?_
                    rw [show (7 * (q : Int) + (k : Int)).toNat = 7 * q + k by omega]
                    refine z_aload_n dL_rank_96 rfl ?_
                    refine z_bipush dL_rank_97 (by decide) ?_
                    refine z_iload_n dL_rank_99 rfl ?_
                    refine z_imul dL_rank_100 ?_
                    refine z_iload dL_rank_101 rfl ?_
                    refine z_iadd dL_rank_103 ?_
                    refine z_lload dL_rank_104 rfl ?_
                    refine z_lastore dL_rank_106 (by decide) rfl (by omega) (by omega) (by first | decide | omega) (by omega) ?_
                    have S3 := S2.step (k := k) (by omega)
                    rw [show (7 * (r : Int) + (k : Int)).toNat = 7 * r + k by omega]
                    rw [show (fun t => if t = 7 * r + k then h2 49 (7 * q + k) else if t = 7 * q + k then h2 49 (7 * r + k) else h2 49 t) = up (up h2 49 (7 * q + k) (h2 49 (7 * r + k))) 49 (7 * r + k) (h2 49 (7 * q + k)) 49 by rw [up_at, up_at]] at S3
                    refine z_iinc dL_rank_107 rfl (by decide) rfl ?_
                    refine z_goto 58 dL_rank_110 (by decide) ?_
                    refine z_forget 9 ?_
                    refine z_forget 10 ?_
                    exact ih58 _ (k + 1) (by omega) S3 (fun a ha => by rw [up_ne _ _ _ ha, up_ne _ _ _ ha]; exact hk2 a ha) (by omega)
              exact loop58 _ h1 0 (by omega) (SP7.zero q r _) hk (Nat.lt_succ_self _)
          refine z_iload_n dL_rank_19 rfl ?_
          refine z_istore dL_rank_20 (by decide) rfl ?_
          have loop22 : ∀ (nL9 : Nat) (q : Nat), (r ≤ q) → (q ≤ R) → (∀ i, r ≤ i → i < q → h1 49 (7 * i + j) = 0) → R - q < nL9 → Z mL_rank g 22 [vr 49, vi (R : Int), vi (C : Int), vi (r : Int), vl d, vx, vi (j : Int), vi (q : Int), vx, vx, vx, vx, vx, vx] [] h1 Q := by
            intro nL9
            induction nL9 with
            | zero => intro q hq1 hq2 hzq hnL9; exact absurd hnL9 (Nat.not_lt_zero _)
            | succ nL9 ih22 =>
              intro q hq1 hq2 hzq hnL9
              refine z_iload dL_rank_22 rfl ?_
              refine z_iload_n dL_rank_24 rfl ?_
              refine z_icmp_ge 49 dL_rank_25 (by decide) (by omega) (by omega) (fun c25 => ?_) (fun c25 => ?_)
              · exact k49 q hq1 hq2 hzq (fun z => absurd z (by omega))
              · refine z_aload_n dL_rank_28 rfl ?_
                refine z_bipush dL_rank_29 (by decide) ?_
                refine z_iload dL_rank_31 rfl ?_
                refine z_imul dL_rank_33 ?_
                refine z_iload dL_rank_34 rfl ?_
                refine z_iadd dL_rank_36 ?_
                refine z_laload dL_rank_37 (by decide) rfl (by omega) (by omega) (by first | decide | omega) (fun r37 => ?_)
                refine z_lconst (z := 0) dL_rank_38 rfl ?_
                rw [rd7 (f := h1 49) (i := q) (j := j) rfl]
                have u1 := (hJ.2.1 j (by omega)).b (i := q) hq1 (by omega)
                refine z_lcmp dL_rank_39 (by omega) (by omega) ?_
                refine z_if_ne 49 dL_rank_40 (by decide) (icmp_r _ _) (fun c40 => ?_) (fun c40 => ?_)
                · have c40 := icmp_ne.mp c40
                  exact k49 q hq1 hq2 hzq (fun _ => c40)
                · have c40 := icmp_eq.mp c40
                  refine z_iinc dL_rank_43 rfl (by decide) rfl ?_
                  refine z_goto 22 dL_rank_46 (by decide) ?_
                  exact ih22 (q + 1) (by omega) (by omega) (fun i i1 i2 => by
                    by_cases e : i = q
                    · rw [e]; exact c40
                    · exact hzq i i1 (by omega)) (by omega)
          exact loop22 _ r (Nat.le_refl r) (by omega) (fun i i1 i2 => absurd i2 (by omega)) (Nat.lt_succ_self _)
  exact loop8 _ h 0 0 1 (by omega) (Or.inl rfl) (RJ.init hR0 hC hf hU hz) (fun _ _ => rfl) (Nat.lt_succ_self _)

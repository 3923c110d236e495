/-! THE LAW. -/
theorem JP.clr {h h1 : HH} {σ : SG} {as : List SG} (P : JP h σ as) (T : TapeClr h h1) (B : TB h) : JP h1 σ as := by
  obtain ⟨p1, p2, p3, p4⟩ := P
  refine ⟨by rw [T.2 2 (by decide) (by decide) (by decide)]; exact p1, RA_keep p2 (fun j _ => by rw [T.2 0 (by decide) (by decide) (by decide)]) (fun k k1 k2 => T.2 k (by omega) (by omega) (by omega)), T.1, ?_⟩
  unfold TB; rw [T.2 6 (by decide) (by decide) (by decide)]; exact B
theorem told_J {g : GG} {h : HH} {σ : SG} {as : List SG} (J : JL h σ as) : CeI mL_told g [vr 0, vr 47, vr 48] h 1 := c_L_told J.1 J.2.1.1 J.2.1.2.1 J.2.1.2.2.1 J.2.2.1.1 J.2.2.1.2.1 J.2.2.1.2.2.2 J.2.2.2
theorem JL.mf {h h1 : HH} {σ : SG} {as : List SG} (J : JL h σ as) (M : MF h h1) : JL h1 σ as := by
  obtain ⟨W, ⟨p1, p2, p3, p4⟩, ⟨l1, l2, l3, l4⟩, h0⟩ := J
  have e47 := M 47 (by decide) (by decide) (by decide)
  refine ⟨W, ⟨M.rc p1, RA_keep p2 (fun j _ => by rw [M 0 (by decide) (by decide) (by decide)]) (fun k k1 k2 => M k (by omega) (by omega) (by omega)), by rw [M 5 (by decide) (by decide) (by decide)]; exact p3, ?_⟩, ⟨M.zc l1, by rw [e47]; exact l2, by rw [e47]; exact l3, by rw [M 48 (by decide) (by decide) (by decide)]; exact l4⟩, h0⟩
  unfold TB; rw [M 6 (by decide) (by decide) (by decide)]; exact p4
theorem RA_nil {h h' : HH} {as : List SG} (R : RA h as) (h9 : h' 0 9 = 0) (h8 : h' 0 8 = h 0 8) : RA h' [] := by
  obtain ⟨r1, r2, nw, r3, r4, r5⟩ := R
  exact ⟨Nat.zero_le _, h9, nw, r3, h8.trans r4, fun k σ' e => by simp at e⟩
theorem jl_new {h h1 h2 : HH} {σ : SG} {as : List SG} {l : List Int} (R : RA h as) (B : BG h h1 σ l) (c1 : RC (h2 2) σ) (c2 : h2 0 9 = 0) (c3 : h2 5 1 = 0) (c4 : ∀ j, j ≠ 9 → h2 0 j = h1 0 j) (c5 : ∀ k, k ≠ 0 → k ≠ 2 → k ≠ 4 → k ≠ 5 → k ≠ 7 → k ≠ 8 → h2 k = h1 k) : JL h2 σ [] := by
  have e : ∀ k, 9 ≤ k → h2 k = h1 k := fun k hk => c5 k (by omega) (by omega) (by omega) (by omega) (by omega) (by omega)
  have cc := B.cc
  obtain ⟨b1, b2, b3, b4, b5, b6, b7, b8, b9⟩ := B
  refine ⟨b1, ⟨c1, RA_nil R c2 ?_, c3, ?_⟩, ⟨by rw [e 47 (by decide)]; exact b3, by rw [e 47 (by decide)]; exact b5, by rw [e 47 (by decide)]; exact b4, by rw [e 48 (by decide)]; exact cc⟩, b2⟩
  · rw [c4 8 (by decide), b9 0 (by decide) (by decide) (by decide) (by decide)]
  · unfold TB; rw [c5 6 (by decide) (by decide) (by decide) (by decide) (by decide) (by decide)]; exact b8.2.2.2.1
set_option maxRecDepth 100000 in
set_option maxHeartbeats 4000000 in
theorem law_24 {p : Program} {l : Launch} {e : Env} {s : State} {m : MethodId} {below : List Frame} {meth : Method} {c : Code} {b L9 : Nat} {xs : Nat → Int32} {g : GG} {h : HH} (K9 : LC p s m meth c b L9 xs g) (S0 : JP h (sg0 0) []) : Y p l e s m below meth c b g 24 [vr 50, vr 0, vr 47, vr 48, vr 49, vx, vx, vx] [] h := by
  have W0 : WF (sg0 0) := WF_sg0 (by decide)
  refine y_aload_n K9 dL_law_24 rfl ?_
  refine y_bipush K9 dL_law_25 (by decide) ?_
  refine y_bipush K9 dL_law_27 (by decide) ?_
  refine y_callV_eI K9 [_, _] tX5_rank kL_158 dL_law_29 ⟨by decide, rfl, _, _, rfl⟩ ⟨by decide, by decide⟩ rfl (Nat.le_of_ble_eq_true rfl) rfl (c_X5_rankS W0 S0.1 (by decide) (by decide) rfl) ?_
  refine y_ldc K9 (-1000002) dL_law_32 qL_114 rfl ?_
  refine y_icmp_ne K9 148 dL_law_34 (by decide) (by decide) (by decide) (fun c34 => ?_) (fun c34 => ?_)
  · exact absurd rfl c34
  · refine y_aload_n K9 dL_law_37 rfl ?_
    refine y_bipush K9 dL_law_38 (by decide) ?_
    refine y_bipush K9 dL_law_40 (by decide) ?_
    refine y_callV_eI K9 [_, _] tX5_holes kL_160 dL_law_42 ⟨by decide, rfl, _, _, rfl⟩ ⟨by decide, by decide⟩ rfl (Nat.le_of_ble_eq_true rfl) rfl (c_X5_holesS W0 S0.1 (by decide) (by decide) rfl) ?_
    refine y_ldc K9 (-1000002) dL_law_45 qL_114 rfl ?_
    refine y_icmp_ne K9 148 dL_law_47 (by decide) (by decide) (by decide) (fun c47 => ?_) (fun c47 => ?_)
    · exact absurd rfl c47
    · refine y_aload_n K9 dL_law_50 rfl ?_
      refine y_bipush K9 dL_law_51 (by decide) ?_
      refine y_bipush K9 dL_law_53 (by decide) ?_
      refine y_bipush K9 dL_law_55 (by decide) ?_
      refine y_callV_eI K9 [_, _, _] tX5_edge kL_100 dL_law_57 ⟨by decide, rfl, _, _, rfl⟩ ⟨by decide, by decide⟩ rfl (Nat.le_of_ble_eq_true rfl) rfl (c_X5_edgeS W0 S0.1 (by decide) (by decide) (by decide) rfl) ?_
      refine y_ldc K9 (-1000002) dL_law_60 qL_114 rfl ?_
      refine y_icmp_ne K9 148 dL_law_62 (by decide) (by decide) (by decide) (fun c62 => ?_) (fun c62 => ?_)
      · exact absurd rfl c62
      · refine y_aload_n K9 dL_law_65 rfl ?_
        refine y_bipush K9 dL_law_66 (by decide) ?_
        refine y_callV_I K9 [_] tX5_face kL_104 dL_law_68 ⟨by decide, rfl, _, _, rfl⟩ ⟨by decide, by decide⟩ rfl (Nat.le_of_ble_eq_true rfl) rfl (c_X5_faceS (n := 0) S0.2.2.1 (by decide) S0.2.2.2 W0 S0.1 (by decide) rfl) (fun z68 h68 q68 => ?_)
        obtain ⟨rfl, T68⟩ := q68
        have S1 := S0.clr T68 S0.2.2.2
        refine y_ldc K9 (-1000002) dL_law_71 qL_114 rfl ?_
        refine y_icmp_ne K9 148 dL_law_73 (by decide) (by decide) (by decide) (fun c73 => ?_) (fun c73 => ?_)
        · exact absurd rfl c73
        · refine y_aload_n K9 dL_law_76 rfl ?_
          refine y_bipush K9 dL_law_77 (by decide) ?_
          refine y_bipush K9 dL_law_79 (by decide) ?_
          refine y_callV_eI K9 [_, _] tX5_drawn kL_136 dL_law_81 ⟨by decide, rfl, _, _, rfl⟩ ⟨by decide, by decide⟩ rfl (Nat.le_of_ble_eq_true rfl) rfl (c_X5_drawnS W0 S1.1 (by decide) (by decide) rfl) ?_
          refine y_ldc K9 (-1000002) dL_law_84 qL_114 rfl ?_
          refine y_icmp_ne K9 148 dL_law_86 (by decide) (by decide) (by decide) (fun c86 => ?_) (fun c86 => ?_)
          · exact absurd rfl c86
          · refine y_aload_n K9 dL_law_89 rfl ?_
            refine y_iconst K9 dL_law_90 ?_
            refine y_iconst K9 dL_law_91 ?_
            refine y_iconst K9 dL_law_92 ?_
            refine y_callV_eI K9 [_, _, _] tX5_weigh kL_93 dL_law_93 ⟨by decide, rfl, _, _, rfl⟩ ⟨by decide, by decide⟩ rfl (Nat.le_of_ble_eq_true rfl) rfl (c_X5_weighO1 W0 S1.1 (by decide) (by decide) (by decide)) ?_
            refine y_ldc K9 (-1000001) dL_law_96 qL_80 rfl ?_
            refine y_icmp_ne K9 148 dL_law_98 (by decide) (by decide) (by decide) (fun c98 => ?_) (fun c98 => ?_)
            · exact absurd rfl c98
            · refine y_aload_n K9 dL_law_101 rfl ?_
              refine y_iconst K9 dL_law_102 ?_
              refine y_iconst K9 dL_law_103 ?_
              refine y_iconst K9 dL_law_104 ?_
              refine y_callV_eI K9 [_, _, _] tX5_put kL_119 dL_law_105 ⟨by decide, rfl, _, _, rfl⟩ ⟨by decide, by decide⟩ rfl (Nat.le_of_ble_eq_true rfl) rfl (c_X5_putO W0 S1.1 (by decide) (by decide) (by decide) (by decide)) ?_
              refine y_ldc K9 (-1000001) dL_law_108 qL_80 rfl ?_
              refine y_icmp_ne K9 148 dL_law_110 (by decide) (by decide) (by decide) (fun c110 => ?_) (fun c110 => ?_)
              · exact absurd rfl c110
              · refine y_aload_n K9 dL_law_113 rfl ?_
                refine y_iconst K9 dL_law_114 ?_
                refine y_iconst K9 dL_law_115 ?_
                refine y_callV_eI K9 [_, _] tX5_chain kL_87 dL_law_116 ⟨by decide, rfl, _, _, rfl⟩ ⟨by decide, by decide⟩ rfl (Nat.le_of_ble_eq_true rfl) rfl (c_X5_chainO W0 S1.1 (by decide) (by decide) (by decide)) ?_
                refine y_ldc K9 (-1000001) dL_law_119 qL_80 rfl ?_
                refine y_icmp_ne K9 148 dL_law_121 (by decide) (by decide) (by decide) (fun c121 => ?_) (fun c121 => ?_)
                · exact absurd rfl c121
                · refine y_aload_n K9 dL_law_124 rfl ?_
                  refine y_iconst K9 dL_law_125 ?_
                  refine y_iconst K9 dL_law_126 ?_
                  refine y_iconst K9 dL_law_127 ?_
                  refine y_callV_eI K9 [_, _, _] tX5_as kL_83 dL_law_128 ⟨by decide, rfl, _, _, rfl⟩ ⟨by decide, by decide⟩ rfl (Nat.le_of_ble_eq_true rfl) rfl (c_X5_asO W0 S1.1 (by decide) (by decide) (by decide) (hc_0 S1.1 (by decide)) (by decide)) ?_
                  refine y_ldc K9 (-1000001) dL_law_131 qL_80 rfl ?_
                  refine y_icmp_ne K9 148 dL_law_133 (by decide) (by decide) (by decide) (fun c133 => ?_) (fun c133 => ?_)
                  · exact absurd rfl c133
                  · refine y_aload_n K9 dL_law_136 rfl ?_
                    refine y_iconst K9 dL_law_137 ?_
                    refine y_callV_eI K9 [_] tX5_count kL_73 dL_law_138 ⟨by decide, rfl, _, _, rfl⟩ ⟨by decide, by decide⟩ rfl (Nat.le_of_ble_eq_true rfl) rfl (c_cnt W0 S1.1 S1.2.1 (n := 0) S1.2.2.1).1 ?_
                    refine y_if_ne K9 148 dL_law_141 (by decide) (by decide) (fun c141 => ?_) (fun c141 => ?_)
                    · exact absurd rfl c141
                    · refine y_iconst K9 dL_law_144 ?_
                      refine y_goto K9 149 dL_law_145 (by decide) ?_
                      refine y_istore K9 dL_law_149 (by decide) rfl ?_
                      refine y_aload_n K9 dL_law_151 rfl ?_
                      refine y_aload_n K9 dL_law_152 rfl ?_
                      refine y_aload_n K9 dL_law_153 rfl ?_
                      refine y_aload_n K9 dL_law_154 rfl ?_
                      refine y_callS_V K9 [_, _, _, _] tL_begins kL_164 dL_law_155 ⟨by decide, by decide⟩ rfl (Nat.le_of_ble_eq_true rfl) rfl (c_L_begins S1.2.2.1 S1.2.2.2) (fun h155 q155 => ?_)
                      obtain ⟨σ, l0, B, PA⟩ := q155
                      refine y_iload K9 dL_law_158 rfl ?_
                      refine y_if_eq K9 204 dL_law_160 (by decide) (by omega) (fun c160 => ?_) (fun c160 => ?_)
                      · omega
                      · refine y_aload_n K9 dL_law_163 rfl ?_
                        refine y_callV_I K9 [] tX5_complex kL_168 dL_law_164 ⟨by decide, rfl, _, _, rfl⟩ ⟨by decide, by decide⟩ rfl (Nat.le_of_ble_eq_true rfl) rfl (c_X5_complex1 (n := l0.length) B.2.2.2.2.2.2.2.1.1 B.2.2.2.2.2.2.2.1.2.1 B.2.2.2.2.2.2.2.1.2.2.2.1 (by rw [PA])) (fun z164 h164 q164 => ?_)
                        rw [PA] at q164
                        obtain ⟨e9, c1, c2, c3, c4, c5⟩ := q164
                        have e9 : z164 = (sP σ : Int) + sE σ + sF σ := e9
                        subst e9
                        have J0 : JL h164 σ [] := jl_new S1.2.1 B c1 c2 c3 c4 c5
                        have w1 := J0.1.1
                        have w2 := J0.1.2.1
                        have w3 := J0.1.2.2.1
                        refine y_aload_n K9 dL_law_167 rfl ?_
                        refine y_iconst K9 dL_law_168 ?_
                        refine y_iaload K9 dL_law_169 (by decide) rfl (by omega) (by omega) (by first | decide | omega) (fun r169 => ?_)
                        rw [show h164 47 (Int.toNat 0) = sP σ from J0.2.2.1.1.1]
                        refine y_aload_n K9 dL_law_170 rfl ?_
                        refine y_iconst K9 dL_law_171 ?_
                        refine y_iaload K9 dL_law_172 (by decide) rfl (by omega) (by omega) (by first | decide | omega) (fun r172 => ?_)
                        rw [show h164 47 (Int.toNat 1) = sE σ from J0.2.2.1.1.2.1]
                        refine y_iadd K9 dL_law_173 ?_
                        refine y_aload_n K9 dL_law_174 rfl ?_
                        refine y_iconst K9 dL_law_175 ?_
                        refine y_iaload K9 dL_law_176 (by decide) rfl (by omega) (by omega) (by first | decide | omega) (fun r176 => ?_)
                        rw [show h164 47 (Int.toNat 2) = sF σ from J0.2.2.1.1.2.2.1]
                        refine y_iadd K9 dL_law_177 ?_
                        refine y_icmp_ne K9 204 dL_law_178 (by decide) (by omega) (by omega) (fun c178 => ?_) (fun c178 => ?_)
                        · exact absurd rfl c178
                        · refine y_aload_n K9 dL_law_181 rfl ?_
                          refine y_aload_n K9 dL_law_182 rfl ?_
                          refine y_aload_n K9 dL_law_183 rfl ?_
                          refine y_callS_pI K9 [_, _, _] tL_told kL_172 dL_law_184 ⟨by decide, by decide⟩ rfl (Nat.le_of_ble_eq_true rfl) rfl (told_J J0) (fun z184 q184 => ?_)
                          obtain rfl := q184
                          refine y_if_eq K9 204 dL_law_187 (by decide) (by omega) (fun c187 => ?_) (fun c187 => ?_)
                          · omega
                          · refine y_aload_n K9 dL_law_190 rfl ?_
                            refine y_aload_n K9 dL_law_191 rfl ?_
                            refine y_aload K9 dL_law_192 rfl ?_
                            refine y_callS_I K9 [_, _, _] tL_measured kL_176 dL_law_194 ⟨by decide, by decide⟩ rfl (Nat.le_of_ble_eq_true rfl) rfl (c_L_measured J0.1 J0.2.1.1 J0.2.2.1.1 J0.2.2.2) (fun z194 h194 q194 => ?_)
                            obtain ⟨rfl, M1⟩ := q194
                            have J1 := J0.mf M1
                            refine y_if_eq K9 204 dL_law_197 (by decide) (by omega) (fun c197 => ?_) (fun c197 => ?_)
                            · omega
                            · refine y_iconst K9 dL_law_200 ?_
                              refine y_goto K9 205 dL_law_201 (by decide) ?_
                              refine y_istore K9 dL_law_205 (by decide) rfl ?_
                              refine y_iconst K9 dL_law_207 ?_
                              refine y_istore K9 dL_law_208 (by decide) rfl ?_
                              have loop210 : ∀ (nL9 : Nat) (h1 : HH) (k : Nat) (τ : SG) (as : List SG), (k ≤ 28) → (JL h1 τ as) → 28 - k < nL9 → Y p l e s m below meth c b g 210 [vr 50, vr 0, vr 47, vr 48, vr 49, vi 1, vi (k : Int), vx] [] h1 := by
                                intro nL9
                                induction nL9 with
                                | zero => intro h1 k τ as hk J hnL9; exact absurd hnL9 (Nat.not_lt_zero _)
                                | succ nL9 ih210 =>
                                  intro h1 k τ as hk J hnL9
                                  refine y_iload K9 dL_law_210 rfl ?_
                                  refine y_bipush K9 dL_law_212 (by decide) ?_
                                  refine y_icmp_ge K9 286 dL_law_214 (by decide) (by omega) (by omega) (fun c214 => ?_) (fun c214 => ?_)
                                  · refine y_iload K9 dL_law_286 rfl ?_
                                    refine y_if_eq K9 305 dL_law_288 (by decide) (by omega) (fun c288 => ?_) (fun c288 => ?_)
                                    · omega
                                    · refine y_aload_n K9 dL_law_291 rfl ?_
                                      refine y_aload_n K9 dL_law_292 rfl ?_
                                      refine y_aload K9 dL_law_293 rfl ?_
                                      refine y_callS_I K9 [_, _, _] tL_measured kL_176 dL_law_295 ⟨by decide, by decide⟩ rfl (Nat.le_of_ble_eq_true rfl) rfl (c_L_measured J.1 J.2.1.1 J.2.2.1.1 J.2.2.2) (fun z295 h295 q295 => ?_)
                                      obtain ⟨rfl, M2⟩ := q295
                                      refine y_if_eq K9 305 dL_law_298 (by decide) (by omega) (fun c298 => ?_) (fun c298 => ?_)
                                      · omega
                                      · refine y_iconst K9 dL_law_301 ?_
                                        refine y_goto K9 306 dL_law_302 (by decide) ?_
                                        exact y_ret K9 dL_law_306
                                  · refine y_iload K9 dL_law_217 rfl ?_
                                    refine y_if_eq K9 286 dL_law_219 (by decide) (by omega) (fun c219 => ?_) (fun c219 => ?_)
                                    · omega
                                    · refine y_aload_n K9 dL_law_222 rfl ?_
                                      refine y_bipush K9 dL_law_223 (by decide) ?_
                                      refine y_iload K9 dL_law_225 rfl ?_
                                      refine y_iadd K9 dL_law_227 ?_
                                      refine y_callS_pI K9 [_, _] tL_cell kL_63 dL_law_228 ⟨by decide, by decide⟩ rfl (Nat.le_of_ble_eq_true rfl) rfl (c_L_cell (by omega)) (fun z228 q228 => ?_)
                                      refine y_istore K9 dL_law_231 (by decide) rfl ?_
                                      refine y_aload_n K9 dL_law_233 rfl ?_
                                      refine y_aload_n K9 dL_law_234 rfl ?_
                                      refine y_aload_n K9 dL_law_235 rfl ?_
                                      refine y_iload K9 dL_law_236 rfl ?_
                                      refine y_callS_I K9 [_, _, _, _] tL_act kL_180 dL_law_238 ⟨by decide, by decide⟩ rfl (Nat.le_of_ble_eq_true rfl) rfl (c_L_act J (v := z228)) (fun z238 h238 q238 => ?_)
                                      obtain ⟨q0, τ2, as2, J2⟩ := q238
                                      refine y_if_lt K9 277 dL_law_241 (by decide) (by omega) (fun c241 => ?_) (fun c241 => ?_)
                                      · omega
                                      · refine y_aload_n K9 dL_law_244 rfl ?_
                                        refine y_aload_n K9 dL_law_245 rfl ?_
                                        refine y_aload_n K9 dL_law_246 rfl ?_
                                        refine y_callS_pI K9 [_, _, _] tL_told kL_172 dL_law_247 ⟨by decide, by decide⟩ rfl (Nat.le_of_ble_eq_true rfl) rfl (told_J J2) (fun z247 q247 => ?_)
                                        obtain rfl := q247
                                        refine y_if_eq K9 277 dL_law_250 (by decide) (by omega) (fun c250 => ?_) (fun c250 => ?_)
                                        · omega
                                        · refine y_iload K9 dL_law_253 rfl ?_
                                          refine y_bipush K9 dL_law_255 (by decide) ?_
                                          refine y_ishr K9 dL_law_257 ?_
                                          refine y_iconst K9 dL_law_258 ?_
                                          refine y_iand K9 dL_law_259 ?_
                                          refine y_if_gt K9 273 dL_law_260 (by decide) (r32_of _) (fun c260 => ?_) (fun c260 => ?_)
                                          · refine y_iconst K9 dL_law_273 ?_
                                            refine y_goto K9 278 dL_law_274 (by decide) ?_
                                            refine y_istore K9 dL_law_278 (by decide) rfl ?_
                                            refine y_iinc K9 dL_law_280 rfl (by decide) rfl ?_
                                            refine y_goto K9 210 dL_law_283 (by decide) ?_
                                            refine y_forget 7 ?_
                                            rw [show (k : Int) + 1 = ((k + 1 : Nat) : Int) by omega]
                                            exact ih210 _ (k + 1) τ2 as2 (by omega) J2 (by omega)
                                          · refine y_aload_n K9 dL_law_263 rfl ?_
                                            refine y_aload_n K9 dL_law_264 rfl ?_
                                            refine y_aload K9 dL_law_265 rfl ?_
                                            refine y_callS_I K9 [_, _, _] tL_measured kL_176 dL_law_267 ⟨by decide, by decide⟩ rfl (Nat.le_of_ble_eq_true rfl) rfl (c_L_measured J2.1 J2.2.1.1 J2.2.2.1.1 J2.2.2.2) (fun z267 h267 q267 => ?_)
                                            obtain ⟨rfl, M2⟩ := q267
                                            have J3 := J2.mf M2
                                            refine y_if_eq K9 277 dL_law_270 (by decide) (by omega) (fun c270 => ?_) (fun c270 => ?_)
                                            · omega
                                            · refine y_iconst K9 dL_law_273 ?_
                                              refine y_goto K9 278 dL_law_274 (by decide) ?_
                                              refine y_istore K9 dL_law_278 (by decide) rfl ?_
                                              refine y_iinc K9 dL_law_280 rfl (by decide) rfl ?_
                                              refine y_goto K9 210 dL_law_283 (by decide) ?_
                                              refine y_forget 7 ?_
                                              rw [show (k : Int) + 1 = ((k + 1 : Nat) : Int) by omega]
                                              exact ih210 _ (k + 1) τ2 as2 (by omega) J3 (by omega)
                              exact loop210 _ h194 0 σ [] (by omega) J1 (Nat.lt_succ_self _)

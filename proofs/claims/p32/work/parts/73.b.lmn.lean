set_option maxRecDepth 100000 in
set_option maxHeartbeats 4000000 in
theorem c_L_rankOf {g : GG} {h : HH} {σ : SG} (W : WF σ) (Zc : ZC (h 47) σ) (h0 : 0 < sP σ) : CnI mL_rankOf g [vr 47, vi 1, vi ((2 ^ sE σ - 1 : Nat) : Int), vr 49] h (fun z h' => (∃ r : Nat, z = r ∧ r < sP σ ∧ ∀ p, PR p → Rk (ent1 σ) (sP σ) (2 ^ sE σ - 1) p r) ∧ ∀ a, a ≠ 49 → h' a = h a) := by
  refine cn_q (lv := [vr 47, vi 1, vi ((2 ^ sE σ - 1 : Nat) : Int), vr 49, vx, vx]) tL_rankOf.1 rfl rfl (fun hR Q hQ => ?_)
  have w1 := W.1
  have w2 := W.2.1
  have w3 := W.2.2.1
  have pa := pc_all w2
  refine z_iload_n dL_rankOf_0 rfl ?_
  refine z_callS_eI (M := mL_rankOf) [_] tL_ones kL_18 dL_rankOf_1 ⟨by decide, by decide⟩ rfl (Nat.le_of_ble_eq_true rfl) rfl (c_L_ones (by omega)) ?_
  rw [pa.1]
  refine z_istore dL_rankOf_4 (by decide) rfl ?_
  refine z_iconst dL_rankOf_6 ?_
  refine z_istore dL_rankOf_7 (by decide) rfl ?_
  have loop9 : ∀ (nL9 : Nat) (h1 : HH) (k : Nat), (k ≤ 42) → (∀ t, t < k → h1 49 t = if t / 7 < sP σ ∧ t % 7 < sE σ then ent1 σ (t / 7) (t % 7) else 0) → (∀ a, a ≠ 49 → h1 a = h a) → 42 - k < nL9 → Z mL_rankOf g 9 [vr 47, vi 1, vi ((2 ^ sE σ - 1 : Nat) : Int), vr 49, vi (sE σ : Int), vi (k : Int)] [] h1 Q := by
    intro nL9
    induction nL9 with
    | zero => intro h1 k hk hm hf hnL9; exact absurd hnL9 (Nat.not_lt_zero _)
    | succ nL9 ih9 =>
      intro h1 k hk hm hf hnL9
      refine z_iload dL_rankOf_9 rfl ?_
      refine z_bipush dL_rankOf_11 (by decide) ?_
      refine z_icmp_ge 73 dL_rankOf_13 (by decide) (by omega) (by omega) (fun c13 => ?_) (fun c13 => ?_)
      · have Z1 : ZC (h1 47) σ := by rw [hf 47 (by decide)]; exact Zc
        rw [show k = 42 by omega] at hm
        refine z_aload_n dL_rankOf_73 rfl ?_
        refine z_aload_n dL_rankOf_74 rfl ?_
        refine z_iload_n dL_rankOf_75 rfl ?_
        refine z_callS_eI (M := mL_rankOf) [_, _] tL_rows kL_30 dL_rankOf_76 ⟨by decide, by decide⟩ rfl (Nat.le_of_ble_eq_true rfl) rfl (c_L_rows1 Z1) ?_
        refine z_iload dL_rankOf_79 rfl ?_
        refine z_callS_I (M := mL_rankOf) [_, _, _] tL_rank kL_34 dL_rankOf_81 ⟨by decide, by decide⟩ rfl (Nat.le_of_ble_eq_true rfl) rfl (c_L_rank (A := ent1 σ) (R := sP σ) (C := sE σ) (by omega) h0 w2 (fun i j hi hj => by rw [hm _ (by omega), if_pos (by omega), show (7 * i + j) / 7 = i by omega, show (7 * i + j) % 7 = j by omega]) (fun k hk => ent1_uj W hk fun i hi => by rw [hm _ (by omega), if_pos (by omega), show (7 * i + k) / 7 = i by omega, show (7 * i + k) % 7 = k by omega]) (fun i k hi k1 k2 => by rw [hm _ (by omega), if_neg (by omega)])) (fun z81 h81 q81 => ?_)
        exact z_ireturn dL_rankOf_84 rfl (hQ _ _ ⟨_, rfl, ⟨q81.1, fun a ha => (q81.2 a ha).trans (hf a ha)⟩⟩)
      · have Z1 : ZC (h1 47) σ := by rw [hf 47 (by decide)]; exact Zc
        refine z_aload_n dL_rankOf_16 rfl ?_
        refine z_iload dL_rankOf_17 rfl ?_
        refine z_iload dL_rankOf_19 rfl ?_
        refine z_bipush dL_rankOf_21 (by decide) ?_
        refine z_idiv dL_rankOf_23 (by omega) (by omega) (by omega) ?_
        rw [show (k : Int).tdiv 7 = ((k / 7 : Nat) : Int) from rfl]
        refine z_aload_n dL_rankOf_24 rfl ?_
        refine z_iload_n dL_rankOf_25 rfl ?_
        refine z_callS_eI (M := mL_rankOf) [_, _] tL_rows kL_30 dL_rankOf_26 ⟨by decide, by decide⟩ rfl (Nat.le_of_ble_eq_true rfl) rfl (c_L_rows1 Z1) ?_
        refine z_icmp_ge 65 dL_rankOf_29 (by decide) (by omega) (by omega) (fun c29 => ?_) (fun c29 => ?_)
        · refine z_lconst (z := 0) dL_rankOf_65 rfl ?_
          refine z_lastore dL_rankOf_66 (by decide) rfl (by omega) (by omega) (by first | decide | omega) (by omega) ?_
          refine z_iinc dL_rankOf_67 rfl (by decide) rfl ?_
          refine z_goto 9 dL_rankOf_70 (by decide) ?_
          exact ih9 _ (k + 1) (by omega) (fun t ht => by
            rw [up_at]
            show (if t = (k : Int).toNat then 0 else h1 49 t) = _
            by_cases e : t = k
            · rw [if_pos (by omega), e]; first | rw [if_pos (by omega)] | rw [if_neg (by omega)]
            · rw [if_neg (by omega)]; exact hm t (by omega)) (fun a ha => by rw [up_ne _ _ _ ha]; exact hf a ha) (by omega)
        · refine z_iload dL_rankOf_32 rfl ?_
          refine z_bipush dL_rankOf_34 (by decide) ?_
          refine z_irem dL_rankOf_36 (by omega) (by omega) (by omega) ?_
          rw [show (k : Int).tmod 7 = ((k % 7 : Nat) : Int) from rfl]
          refine z_iload dL_rankOf_37 rfl ?_
          refine z_icmp_ge 65 dL_rankOf_39 (by decide) (by omega) (by omega) (fun c39 => ?_) (fun c39 => ?_)
          · refine z_lconst (z := 0) dL_rankOf_65 rfl ?_
            refine z_lastore dL_rankOf_66 (by decide) rfl (by omega) (by omega) (by first | decide | omega) (by omega) ?_
            refine z_iinc dL_rankOf_67 rfl (by decide) rfl ?_
            refine z_goto 9 dL_rankOf_70 (by decide) ?_
            exact ih9 _ (k + 1) (by omega) (fun t ht => by
              rw [up_at]
              show (if t = (k : Int).toNat then 0 else h1 49 t) = _
              by_cases e : t = k
              · rw [if_pos (by omega), e]; first | rw [if_pos (by omega)] | rw [if_neg (by omega)]
              · rw [if_neg (by omega)]; exact hm t (by omega)) (fun a ha => by rw [up_ne _ _ _ ha]; exact hf a ha) (by omega)
          · refine z_aload_n dL_rankOf_42 rfl ?_
            refine z_iload_n dL_rankOf_43 rfl ?_
            refine z_iload dL_rankOf_44 rfl ?_
            refine z_bipush dL_rankOf_46 (by decide) ?_
            refine z_idiv dL_rankOf_48 (by omega) (by omega) (by omega) ?_
            rw [show (k : Int).tdiv 7 = ((k / 7 : Nat) : Int) from rfl]
            refine z_iload_n dL_rankOf_49 rfl ?_
            refine z_iload dL_rankOf_50 rfl ?_
            refine z_bipush dL_rankOf_52 (by decide) ?_
            refine z_irem dL_rankOf_54 (by omega) (by omega) (by omega) ?_
            rw [show (k : Int).tmod 7 = ((k % 7 : Nat) : Int) from rfl]
            refine z_callS_eI (M := mL_rankOf) [_, _] tL_nth kL_22 dL_rankOf_55 ⟨by decide, by decide⟩ rfl (Nat.le_of_ble_eq_true rfl) rfl (c_L_nth pa.2 (by omega)) ?_
            rw [nb_nt pa.2 (by omega), nt_all w2 (by omega)]
            refine z_callS_eI (M := mL_rankOf) [_, _, _, _] tL_at kL_26 dL_rankOf_58 ⟨by decide, by decide⟩ rfl (Nat.le_of_ble_eq_true rfl) rfl (c_L_at1 W Z1 (i := k / 7) (j := k % 7) (by omega) (by omega)) ?_
            have e1 := ent1_r σ (k / 7) (k % 7)
            refine z_i2l dL_rankOf_61 (by omega) ?_
            refine z_goto 66 dL_rankOf_62 (by decide) ?_
            refine z_lastore dL_rankOf_66 (by decide) rfl (by omega) (by omega) (by first | decide | omega) (by omega) ?_
            refine z_iinc dL_rankOf_67 rfl (by decide) rfl ?_
            refine z_goto 9 dL_rankOf_70 (by decide) ?_
            exact ih9 _ (k + 1) (by omega) (fun t ht => by
              rw [up_at]
              show (if t = (k : Int).toNat then ent1 σ (k / 7) (k % 7) else h1 49 t) = _
              by_cases e : t = k
              · rw [if_pos (by omega), e]; first | rw [if_pos (by omega)] | rw [if_neg (by omega)]
              · rw [if_neg (by omega)]; exact hm t (by omega)) (fun a ha => by rw [up_ne _ _ _ ha]; exact hf a ha) (by omega)
  exact loop9 _ h 0 (by omega) (fun t ht => absurd ht (Nat.not_lt_zero t)) (fun _ _ => rfl) (Nat.lt_succ_self _)
set_option maxRecDepth 100000 in
set_option maxHeartbeats 4000000 in
theorem c_L_minor {g : GG} {h : HH} {σ : SG} (W : WF σ) (Zc : ZC (h 47) σ) {r c n : Nat} (hr : r < 2 ^ sE σ) (hc : c < 2 ^ sF σ) (hpr : pc6 r = n) (hpc : pc6 c = n) (hn : 1 ≤ n ∧ n ≤ 4) : CeL mL_minor g [vr 47, vi 2, vi (r : Int), vi (c : Int)] h (mnr (ent2 σ) n r c) := by
  refine cn_q (lv := [vr 47, vi 2, vi (r : Int), vi (c : Int), vx, vx, vx, vx, vx, vx, vx, vx, vx, vx, vx, vx]) tL_minor.1 rfl rfl (fun hR Q hQ => ?_)
  have w1 := W.1
  have w2 := W.2.1
  have w3 := W.2.2.1
  have r6 := (b_shl w2).2
  have c4 : 2 ^ sF σ ≤ 2 ^ 4 := Nat.pow_le_pow_right (by decide) w3
  have f24 : fct n ≤ 24 := by
    rcases (show n = 1 ∨ n = 2 ∨ n = 3 ∨ n = 4 by omega) with rfl | rfl | rfl | rfl <;> decide
  refine z_iload_n dL_minor_0 rfl ?_
  refine z_callS_eI (M := mL_minor) [_] tL_ones kL_18 dL_minor_1 ⟨by decide, by decide⟩ rfl (Nat.le_of_ble_eq_true rfl) rfl (c_L_ones (by omega)) ?_
  rw [hpr]
  refine z_istore dL_minor_4 (by decide) rfl ?_
  have k50 : Z mL_minor g 50 [vr 47, vi 2, vi (r : Int), vi (c : Int), vi (n : Int), vx, vx, vx, vx, vx, vx, vx, vx, vx, vx, vx] [vi (fct n : Int)] h Q := by
    refine z_istore dL_minor_50 (by decide) rfl ?_
    refine z_lconst (z := 0) dL_minor_52 rfl ?_
    refine z_lstore dL_minor_53 (by decide) rfl ?_
    refine z_iconst dL_minor_55 ?_
    refine z_istore dL_minor_56 (by decide) rfl ?_
    have loop58 : ∀ (nL9 : Nat) (way : Nat), (way ≤ fct n) → fct n - way < nL9 → Z mL_minor g 58 [vr 47, vi 2, vi (r : Int), vi (c : Int), vi (n : Int), vi (fct n : Int), vl (sI way (wP (fun i j => ent2 σ (nt r i) j) n 0 c)), vx, vi (way : Int), vx, vx, vx, vx, vx, vx, vx] [] h Q := by
      intro nL9
      induction nL9 with
      | zero => intro way hw hnL9; exact absurd hnL9 (Nat.not_lt_zero _)
      | succ nL9 ih58 =>
        intro way hw hnL9
        refine z_iload dL_minor_58 rfl ?_
        refine z_iload dL_minor_60 rfl ?_
        refine z_icmp_ge 186 dL_minor_62 (by decide) (by omega) (by omega) (fun c62 => ?_) (fun c62 => ?_)
        · refine z_lload dL_minor_186 rfl ?_
          exact z_lreturn dL_minor_188 rfl (hQ _ _ ⟨_, rfl, (by rw [show way = fct n by omega]; exact wP_mnr (ent2 σ) (by omega) (by omega) hpr hpc), rfl⟩)
        · refine z_iload_n dL_minor_65 rfl ?_
          refine z_istore dL_minor_66 (by decide) rfl ?_
          refine z_iload dL_minor_68 rfl ?_
          refine z_istore dL_minor_70 (by decide) rfl ?_
          refine z_lconst (z := 1) dL_minor_72 rfl ?_
          refine z_lstore dL_minor_73 (by decide) rfl ?_
          refine z_iconst dL_minor_75 ?_
          refine z_istore dL_minor_76 (by decide) rfl ?_
          have loop78 : ∀ (nL9 : Nat) (i l w : Nat) (pr : Int), (i ≤ n) → (l < 2 ^ sF σ) → (pc6 l = n - i) → (w ≤ 24) → (pr * wP (fun i j => ent2 σ (nt r i) j) (n - i) i l w = wP (fun i j => ent2 σ (nt r i) j) n 0 c way) → n - i < nL9 → Z mL_minor g 78 [vr 47, vi 2, vi (r : Int), vi (c : Int), vi (n : Int), vi (fct n : Int), vl (sI way (wP (fun i j => ent2 σ (nt r i) j) n 0 c)), vx, vi (way : Int), vi (l : Int), vi (w : Int), vl pr, vx, vi (i : Int), vx, vx] [] h Q := by
            intro nL9
            induction nL9 with
            | zero => intro i l w pr hi hl hpl hww hp hnL9; exact absurd hnL9 (Nat.not_lt_zero _)
            | succ nL9 ih78 =>
              intro i l w pr hi hl hpl hww hp hnL9
              refine z_iload dL_minor_78 rfl ?_
              refine z_iload dL_minor_80 rfl ?_
              refine z_icmp_ge 173 dL_minor_82 (by decide) (by omega) (by omega) (fun c82 => ?_) (fun c82 => ?_)
              · refine z_lload dL_minor_173 rfl ?_
                refine z_lload dL_minor_175 rfl ?_
                refine z_ladd dL_minor_177 ?_
                refine z_lstore dL_minor_178 (by decide) rfl ?_
                refine z_iinc dL_minor_180 rfl (by decide) rfl ?_
                refine z_goto 58 dL_minor_183 (by decide) ?_
                refine z_forget 9 ?_
                refine z_forget 10 ?_
                refine z_forget 11 ?_
                refine z_forget 13 ?_
                refine z_forget 14 ?_
                refine z_forget 15 ?_
                rw [show (way : Int) + 1 = ((way + 1 : Nat) : Int) by omega, show pr = wP (fun i j => ent2 σ (nt r i) j) n 0 c way by rw [← hp, show n - i = 0 by omega]; show pr = pr * 1; omega, ← sI_s]
                exact ih58 (way + 1) (by omega) (by omega)
              · have d5 := b_pos (nt l (w % (n - i)))
                have hd := nt_drop (l := l) (x := w % (n - i)) (by omega) (by rw [hpl]; exact Nat.mod_lt _ (by omega))
                have hx := Nat.mod_lt w (show 0 < n - i by omega)
                have hdv := Nat.div_le_self w (n - i)
                refine z_iload dL_minor_85 rfl ?_
                refine z_iload dL_minor_87 rfl ?_
                refine z_iload dL_minor_89 rfl ?_
                refine z_isub dL_minor_91 ?_
                rw [show (n : Int) - (i : Int) = ((n - i : Nat) : Int) by omega]
                refine z_irem dL_minor_92 (by omega) (by omega) (by omega) ?_
                rw [show (w : Int).tmod ((n - i : Nat) : Int) = ((w % (n - i) : Nat) : Int) from rfl]
                refine z_istore dL_minor_93 (by decide) rfl ?_
                refine z_iload dL_minor_95 rfl ?_
                refine z_iload dL_minor_97 rfl ?_
                refine z_iload dL_minor_99 rfl ?_
                refine z_isub dL_minor_101 ?_
                rw [show (n : Int) - (i : Int) = ((n - i : Nat) : Int) by omega]
                refine z_idiv dL_minor_102 (by omega) (by omega) (by omega) ?_
                rw [show (w : Int).tdiv ((n - i : Nat) : Int) = ((w / (n - i) : Nat) : Int) from rfl]
                refine z_istore dL_minor_103 (by decide) rfl ?_
                refine z_iload dL_minor_105 rfl ?_
                refine z_iload dL_minor_107 rfl ?_
                refine z_callS_eI (M := mL_minor) [_, _] tL_nth kL_22 dL_minor_109 ⟨by decide, by decide⟩ rfl (Nat.le_of_ble_eq_true rfl) rfl (c_L_nth (m := l) (k := w % (n - i)) (by omega) (by omega)) ?_
                rw [nb_nt (show l < 64 by omega) (by omega)]
                refine z_istore dL_minor_112 (by decide) rfl ?_
                refine z_iload dL_minor_114 rfl ?_
                refine z_iconst dL_minor_116 ?_
                refine z_iload dL_minor_117 rfl ?_
                refine z_ishl dL_minor_119 ?_
                rw [(b_shl (show nt l (w % (n - i)) ≤ 6 by omega)).1]
                refine z_ixor dL_minor_120 ?_
                rw [b_xor (show l < 64 by omega) hd.2.1 hd.2.2.1]
                refine z_istore dL_minor_121 (by decide) rfl ?_
                refine z_lload dL_minor_123 rfl ?_
                refine z_iload dL_minor_125 rfl ?_
                refine z_iconst dL_minor_127 ?_
                refine z_iand dL_minor_128 ?_
                rw [b_odd (show w % (n - i) < 8 by omega)]
                refine z_if_ne 149 dL_minor_129 (by decide) (by omega) (fun c129 => ?_) (fun c129 => ?_)
                · have c128 : ¬ w % (n - i) % 2 = 0 := by omega
                  refine z_aload_n dL_minor_149 rfl ?_
                  refine z_iload_n dL_minor_150 rfl ?_
                  refine z_iload_n dL_minor_151 rfl ?_
                  refine z_iload dL_minor_152 rfl ?_
                  refine z_callS_eI (M := mL_minor) [_, _] tL_nth kL_22 dL_minor_154 ⟨by decide, by decide⟩ rfl (Nat.le_of_ble_eq_true rfl) rfl (c_L_nth (m := r) (k := i) (by omega) (by omega)) ?_
                  rw [nb_nt (show r < 64 by omega) (by omega)]
                  refine z_iload dL_minor_157 rfl ?_
                  refine z_callS_eI (M := mL_minor) [_, _, _, _] tL_at kL_26 dL_minor_159 ⟨by decide, by decide⟩ rfl (Nat.le_of_ble_eq_true rfl) rfl (c_L_at2 W Zc (nt_1 (show r < 64 by omega) (show i < pc6 r by omega)).1 (nt_C (show sF σ ≤ 6 by omega) hl (by omega))) ?_
                  have e2 := ent2_r W (nt_C (show sF σ ≤ 6 by omega) hl (t := w % (n - i)) (by omega)) (i := nt r i)
                  refine z_ineg dL_minor_162 ?_
                  refine z_i2l dL_minor_163 (by omega) ?_
                  refine z_lmul dL_minor_164 ?_
                  refine z_lstore dL_minor_165 (by decide) rfl ?_
                  refine z_iinc dL_minor_167 rfl (by decide) rfl ?_
                  refine z_goto 78 dL_minor_170 (by decide) ?_
                  refine z_forget 14 ?_
                  refine z_forget 15 ?_
                  rw [show (i : Int) + 1 = ((i + 1 : Nat) : Int) by omega]
                  exact ih78 (i + 1) (l - 2 ^ nt l (w % (n - i))) (w / (n - i)) _ (by omega) (by omega) (by omega) (by omega) (by
                    rw [← hp]
                    obtain ⟨x, hx⟩ : ∃ x, n - i = x + 1 := ⟨n - i - 1, by omega⟩
                    rw [show n - (i + 1) = x by omega, hx, wP_s, ← hx, sgn_f c128]
                    try dsimp only
                    grind) (by omega)
                · have c128 : w % (n - i) % 2 = 0 := by omega
                  refine z_aload_n dL_minor_132 rfl ?_
                  refine z_iload_n dL_minor_133 rfl ?_
                  refine z_iload_n dL_minor_134 rfl ?_
                  refine z_iload dL_minor_135 rfl ?_
                  refine z_callS_eI (M := mL_minor) [_, _] tL_nth kL_22 dL_minor_137 ⟨by decide, by decide⟩ rfl (Nat.le_of_ble_eq_true rfl) rfl (c_L_nth (m := r) (k := i) (by omega) (by omega)) ?_
                  rw [nb_nt (show r < 64 by omega) (by omega)]
                  refine z_iload dL_minor_140 rfl ?_
                  refine z_callS_eI (M := mL_minor) [_, _, _, _] tL_at kL_26 dL_minor_142 ⟨by decide, by decide⟩ rfl (Nat.le_of_ble_eq_true rfl) rfl (c_L_at2 W Zc (nt_1 (show r < 64 by omega) (show i < pc6 r by omega)).1 (nt_C (show sF σ ≤ 6 by omega) hl (by omega))) ?_
                  have e2 := ent2_r W (nt_C (show sF σ ≤ 6 by omega) hl (t := w % (n - i)) (by omega)) (i := nt r i)
                  refine z_i2l dL_minor_145 (by omega) ?_
                  refine z_goto 164 dL_minor_146 (by decide) ?_
                  refine z_lmul dL_minor_164 ?_
                  refine z_lstore dL_minor_165 (by decide) rfl ?_
                  refine z_iinc dL_minor_167 rfl (by decide) rfl ?_
                  refine z_goto 78 dL_minor_170 (by decide) ?_
                  refine z_forget 14 ?_
                  refine z_forget 15 ?_
                  rw [show (i : Int) + 1 = ((i + 1 : Nat) : Int) by omega]
                  exact ih78 (i + 1) (l - 2 ^ nt l (w % (n - i))) (w / (n - i)) _ (by omega) (by omega) (by omega) (by omega) (by
                    rw [← hp]
                    obtain ⟨x, hx⟩ : ∃ x, n - i = x + 1 := ⟨n - i - 1, by omega⟩
                    rw [show n - (i + 1) = x by omega, hx, wP_s, ← hx, sgn_t c128]
                    try dsimp only
                    grind) (by omega)
          exact loop78 _ 0 c way 1 (by omega) hc (by omega) (by omega) (by rw [Int.one_mul]; rfl) (Nat.lt_succ_self _)
    exact loop58 _ 0 (by omega) (Nat.lt_succ_self _)
  refine z_iload dL_minor_6 rfl ?_
  refine z_iconst dL_minor_8 ?_
  refine z_icmp_ge 16 dL_minor_9 (by decide) (by omega) (by omega) (fun c9 => ?_) (fun c9 => ?_)
  · refine z_iload dL_minor_16 rfl ?_
    refine z_iconst dL_minor_18 ?_
    refine z_icmp_ne 26 dL_minor_19 (by decide) (by omega) (by omega) (fun c19 => ?_) (fun c19 => ?_)
    · refine z_iload dL_minor_26 rfl ?_
      refine z_iconst dL_minor_28 ?_
      refine z_icmp_ne 37 dL_minor_29 (by decide) (by omega) (by omega) (fun c29 => ?_) (fun c29 => ?_)
      · refine z_iload dL_minor_37 rfl ?_
        refine z_iconst dL_minor_39 ?_
        refine z_icmp_ne 48 dL_minor_40 (by decide) (by omega) (by omega) (fun c40 => ?_) (fun c40 => ?_)
        · omega
        · refine z_bipush dL_minor_43 (by decide) ?_
          refine z_goto 50 dL_minor_45 (by decide) ?_
          have e9 : (fct n : Int) = 24 := by rw [show n = 4 by omega]; rfl
          rw [e9] at k50
          exact k50
      · refine z_bipush dL_minor_32 (by decide) ?_
        refine z_goto 50 dL_minor_34 (by decide) ?_
        have e9 : (fct n : Int) = 6 := by rw [show n = 3 by omega]; rfl
        rw [e9] at k50
        exact k50
    · refine z_iconst dL_minor_22 ?_
      refine z_goto 50 dL_minor_23 (by decide) ?_
      have e9 : (fct n : Int) = 2 := by rw [show n = 2 by omega]; rfl
      rw [e9] at k50
      exact k50
  · refine z_iconst dL_minor_12 ?_
    refine z_goto 50 dL_minor_13 (by decide) ?_
    have e9 : (fct n : Int) = 1 := by rw [show n = 1 by omega]; rfl
    rw [e9] at k50
    exact k50
set_option maxRecDepth 100000 in
set_option maxHeartbeats 4000000 in
theorem c_L_divisor {g : GG} {h : HH} {σ : SG} (W : WF σ) (Zc : ZC (h 47) σ) {k : Nat} (hk : 1 ≤ k ∧ k ≤ 4) : CpL mL_divisor g [vr 47, vi ((2 ^ sF σ - 1 : Nat) : Int), vi (k : Int)] h (DGk (ent2 σ) (sE σ) (sF σ) k) := by
  refine cn_q (lv := [vr 47, vi ((2 ^ sF σ - 1 : Nat) : Int), vi (k : Int), vx, vx, vx, vx]) tL_divisor.1 rfl rfl (fun hR Q hQ => ?_)
  have w1 := W.1
  have w2 := W.2.1
  have w3 := W.2.2.1
  have r6 := b_shl w2
  have c4 : 2 ^ sF σ ≤ 2 ^ 4 := Nat.pow_le_pow_right (by decide) w3
  have c0 := b_pos (sF σ)
  refine z_lconst (z := 0) dL_divisor_0 rfl ?_
  refine z_lstore_n dL_divisor_1 (by decide) rfl ?_
  refine z_iconst dL_divisor_2 ?_
  refine z_istore dL_divisor_3 (by decide) rfl ?_
  have loop5 : ∀ (nL9 : Nat) (r : Nat) (gg : Int), (r ≤ 2 ^ sE σ) → (DGd (ent2 σ) (sE σ) (sF σ) k r (2 ^ sF σ) gg) → 2 ^ sE σ - r < nL9 → Z mL_divisor g 5 [vr 47, vi ((2 ^ sF σ - 1 : Nat) : Int), vi (k : Int), vl gg, vx, vi (r : Int), vx] [] h Q := by
    intro nL9
    induction nL9 with
    | zero => intro r gg hr D hnL9; exact absurd hnL9 (Nat.not_lt_zero _)
    | succ nL9 ih5 =>
      intro r gg hr D hnL9
      refine z_iload dL_divisor_5 rfl ?_
      refine z_iconst dL_divisor_7 ?_
      refine z_aload_n dL_divisor_8 rfl ?_
      refine z_iconst dL_divisor_9 ?_
      refine z_iaload dL_divisor_10 (by decide) rfl (by omega) (by omega) (by first | decide | omega) (fun r10 => ?_)
      rw [show h 47 (Int.toNat 1) = sE σ from Zc.2.1]
      refine z_ishl dL_divisor_11 ?_
      rw [r6.1]
      refine z_icmp_ge 85 dL_divisor_12 (by decide) (by omega) (by omega) (fun c12 => ?_) (fun c12 => ?_)
      · refine z_lload_n dL_divisor_85 rfl ?_
        exact z_lreturn dL_divisor_86 rfl (hQ _ _ ⟨_, rfl, (by rw [show r = 2 ^ sE σ by omega] at D; exact D.all), rfl⟩)
      · refine z_iload_n dL_divisor_15 rfl ?_
        refine z_istore dL_divisor_16 (by decide) rfl ?_
        have loop18 : ∀ (nL9 : Nat) (d : Nat) (g2 : Int), (d ≤ 2 ^ sF σ) → (DGd (ent2 σ) (sE σ) (sF σ) k r d g2) → d < nL9 → Z mL_divisor g 18 [vr 47, vi ((2 ^ sF σ - 1 : Nat) : Int), vi (k : Int), vl g2, vx, vi (r : Int), vi ((d : Int) - 1)] [] h Q := by
          intro nL9
          induction nL9 with
          | zero => intro d g2 hd D2 hnL9; exact absurd hnL9 (Nat.not_lt_zero _)
          | succ nL9 ih18 =>
            intro d g2 hd D2 hnL9
            refine z_iload dL_divisor_18 rfl ?_
            refine z_if_lt 79 dL_divisor_20 (by decide) (by omega) (fun c20 => ?_) (fun c20 => ?_)
            · refine z_iinc dL_divisor_79 rfl (by decide) rfl ?_
              refine z_goto 5 dL_divisor_82 (by decide) ?_
              refine z_forget 6 ?_
              rw [show d = 0 by omega] at D2
              rw [show (r : Int) + 1 = ((r + 1 : Nat) : Int) by omega]
              exact ih5 (r + 1) g2 (by omega) D2.next (by omega)
            · obtain ⟨c, rfl⟩ : ∃ c, d = c + 1 := ⟨d - 1, by omega⟩
              rw [show ((c + 1 : Nat) : Int) - 1 = (c : Int) by omega]
              have pr6 := pc6_r (c := r) (by omega)
              have pc6c := pc6_r (c := c) (by omega)
              refine z_iload dL_divisor_23 rfl ?_
              have k58 : ∀ g3 : Int, DGd (ent2 σ) (sE σ) (sF σ) k r c g3 → Z mL_divisor g 58 [vr 47, vi ((2 ^ sF σ - 1 : Nat) : Int), vi (k : Int), vl g2, vx, vi (r : Int), vi (c : Int)] [vl g3] h Q := by
                intro g3 D3
                refine z_lstore_n dL_divisor_58 (by decide) rfl ?_
                refine z_iload dL_divisor_59 rfl ?_
                refine z_if_ne 68 dL_divisor_61 (by decide) (by omega) (fun c61 => ?_) (fun c61 => ?_)
                · refine z_iload dL_divisor_68 rfl ?_
                  refine z_iconst dL_divisor_70 ?_
                  refine z_isub dL_divisor_71 ?_
                  refine z_iload_n dL_divisor_72 rfl ?_
                  refine z_iand dL_divisor_73 ?_
                  first | rw [b_dn w3 (show 0 < c by omega) (show c < 2 ^ sF σ by omega)] | rw [show (-1 : Int) = (c : Int) - 1 by omega]
                  refine z_istore dL_divisor_74 (by decide) rfl ?_
                  refine z_goto 18 dL_divisor_76 (by decide) ?_
                  rw [show (c : Int) - 1 = ((c : Nat) : Int) - 1 from rfl]
                  exact ih18 c g3 (by omega) D3 (by omega)
                · refine z_iconst dL_divisor_64 ?_
                  refine z_goto 74 dL_divisor_65 (by decide) ?_
                  first | rw [b_dn w3 (show 0 < c by omega) (show c < 2 ^ sF σ by omega)] | rw [show (-1 : Int) = (c : Int) - 1 by omega]
                  refine z_istore dL_divisor_74 (by decide) rfl ?_
                  refine z_goto 18 dL_divisor_76 (by decide) ?_
                  exact ih18 c g3 (by omega) D3 (by omega)
              refine z_callS_eI (M := mL_divisor) [_] tL_ones kL_18 dL_divisor_25 ⟨by decide, by decide⟩ rfl (Nat.le_of_ble_eq_true rfl) rfl (c_L_ones (m := r) (by omega)) ?_
              refine z_iload_n dL_divisor_28 rfl ?_
              refine z_icmp_ne 57 dL_divisor_29 (by decide) (by omega) (by omega) (fun c29 => ?_) (fun c29 => ?_)
              · have c29 : ¬ pc6 r = k := by omega
                refine z_lload_n dL_divisor_57 rfl ?_
                exact k58 g2 (D2.skip (fun q => c29 (by omega)))
              · have c29 : pc6 r = k := by omega
                refine z_iload dL_divisor_32 rfl ?_
                refine z_callS_eI (M := mL_divisor) [_] tL_ones kL_18 dL_divisor_34 ⟨by decide, by decide⟩ rfl (Nat.le_of_ble_eq_true rfl) rfl (c_L_ones (m := c) (by omega)) ?_
                refine z_iload_n dL_divisor_37 rfl ?_
                refine z_icmp_ne 57 dL_divisor_38 (by decide) (by omega) (by omega) (fun c38 => ?_) (fun c38 => ?_)
                · have c38 : ¬ pc6 c = k := by omega
                  refine z_lload_n dL_divisor_57 rfl ?_
                  exact k58 g2 (D2.skip (fun q => c38 (by omega)))
                · have c38 : pc6 c = k := by omega
                  refine z_lload_n dL_divisor_41 rfl ?_
                  have mb := ent2_mb W (r := r) (c := c) (by omega) (by omega) (by omega)
                  refine z_aload_n dL_divisor_42 rfl ?_
                  refine z_iconst dL_divisor_43 ?_
                  refine z_iload dL_divisor_44 rfl ?_
                  refine z_iload dL_divisor_46 rfl ?_
                  refine z_callS_eL (M := mL_divisor) [_, _, _, _] tL_minor kL_38 dL_divisor_48 ⟨by decide, by decide⟩ rfl (Nat.le_of_ble_eq_true rfl) rfl (c_L_minor W Zc (r := r) (c := c) (n := k) (by omega) (by omega) (by omega) (by omega) hk) ?_
                  refine z_callS_eL (M := mL_divisor) [_, _] tL_gcd kL_42 dL_divisor_51 ⟨by decide, by decide⟩ rfl (Nat.le_of_ble_eq_true rfl) rfl (c_L_gcd (by have := D2.1; have := D2.2.1; omega) (by rw [show pc6 r = k by omega] at mb; omega)) ?_
                  refine z_goto 58 dL_divisor_54 (by decide) ?_
                  exact k58 _ (D2.take (by omega) (by omega) (by omega) (by omega) rfl (by rw [show pc6 r = k by omega] at mb; omega))
        have e9 := loop18 _ (2 ^ sF σ) gg (Nat.le_refl _) D (Nat.lt_succ_self _)
        rw [show ((2 ^ sF σ : Nat) : Int) - 1 = ((2 ^ sF σ - 1 : Nat) : Int) by omega] at e9
        exact e9
  exact loop5 _ 0 0 (Nat.zero_le _) (DGd.zero _ _ _ _) (Nat.lt_succ_self _)

/-! THE LAW'S WORDS: found, spelled. -/
/-- what word does to the cells: the five of the face's, no more -/
def WK (h h1 : HH) (b : Nat) : Prop := (∀ k, k ≠ 47 → h1 k = h k) ∧ (∀ j, j + 1 < b ∨ b + 4 ≤ j → h1 47 j = h 47 j) ∧ ZB (h1 47)
def WL (f : Nat → Int) (b n : Nat) (le : Nat → Nat) (sg : Nat → Bool) : Prop := ∀ k, k < n → f (b + k) = ltr (le k) (sg k)
theorem WK.refl {h : HH} {b : Nat} (hz : ZB (h 47)) : WK h h b := ⟨fun _ _ => rfl, fun _ _ => rfl, hz⟩
theorem WK.ze {h h1 : HH} {b : Nat} {σ : SG} (K : WK h h1 b) (hb : 24 ≤ b) (hE : sE σ ≤ 6) (Z : ZE (h 47) σ) : ZE (h1 47) σ := by
  obtain ⟨z1, z2, z3⟩ := Z
  refine ⟨by rw [K.2.1 0 (by omega)]; exact z1, by rw [K.2.1 1 (by omega)]; exact z2, fun e he => ?_⟩
  rw [K.2.1 _ (by omega), K.2.1 _ (by omega), K.2.1 _ (by omega)]
  exact z3 e he
theorem WK.put {h h1 : HH} {b j : Nat} {v : Int} (K : WK h h1 b) (h1j : b ≤ j + 1) (h2j : j < b + 4) (hv : -100 ≤ v ∧ v ≤ 100) : WK h (up h1 47 j v) b := by
  refine ⟨fun k hk => by rw [up_ne _ _ _ hk]; exact K.1 k hk, fun i hi => ?_, fun i hi => ?_⟩
  · rw [up_at]
    show (if i = j then v else h1 47 i) = _
    rw [if_neg (by omega)]
    exact K.2.1 i hi
  · rw [up_at]
    show -100 ≤ (if i = j then v else h1 47 i) ∧ (if i = j then v else h1 47 i) ≤ 100
    split
    · exact hv
    · exact K.2.2 i hi
theorem WL.put {f : Nat → Int} {b n e : Nat} {le : Nat → Nat} {sg : Nat → Bool} {y : Bool} (L : WL f b n le sg) : WL (fun i => if i = b + n then ltr e y else f i) b (n + 1) (fun k => if k = n then e else le k) (fun k => if k = n then y else sg k) := fun k hk => by
  show (if b + k = b + n then ltr e y else f (b + k)) = ltr (if k = n then e else le k) (if k = n then y else sg k)
  by_cases q : k = n
  · rw [if_pos (by omega), if_pos q, if_pos q]
  · rw [if_neg (by omega), if_neg q, if_neg q]
    exact L k (by omega)
theorem bnd5 {σ : SG} (W : WF σ) {e : Nat} (y : Bool) (he : e < sE σ) : bgE σ e y < 5 ∧ enE σ e y < 5 := by
  have w1 := W.1
  have w4 := W.2.2.2.1 e he
  unfold bgE enE
  cases y
  · exact ⟨by simp; omega, by simp; omega⟩
  · exact ⟨by simp; omega, by simp; omega⟩
theorem wv_put {σ : SG} {n e : Nat} {le : Nat → Nat} {sg : Nat → Bool} {y : Bool} (V : WV σ n le sg) (hn : n < 4) (he : e < sE σ) (hc : 0 < n → bgE σ e y = enE σ (le (n - 1)) (sg (n - 1))) : WV σ (n + 1) (fun k => if k = n then e else le k) (fun k => if k = n then y else sg k) := by
  obtain ⟨v1, v2, v3⟩ := V
  refine ⟨by omega, fun k hk => ?_, fun k hk => ?_⟩
  · show (if k = n then e else le k) < sE σ
    split
    · exact he
    · exact v2 k (by omega)
  · show bgE σ (if k + 1 = n then e else le (k + 1)) (if k + 1 = n then y else sg (k + 1)) = enE σ (if k = n then e else le k) (if k = n then y else sg k)
    rw [if_neg (show ¬ k = n by omega), if_neg (show ¬ k = n by omega)]
    by_cases q : k + 1 = n
    · rw [if_pos q, if_pos q, hc (by omega), show n - 1 = k by omega]
    · rw [if_neg q, if_neg q]
      exact v3 k (by omega)
/-- the last resort: an edge and back -/
theorem wv_aA {σ : SG} (h0 : 0 < sE σ) : WV σ 2 (fun _ => 0) (fun k => decide (k = 1)) ∧ wcl σ 2 (fun _ => 0) (fun k => decide (k = 1)) := by
  refine ⟨⟨by decide, fun _ _ => h0, fun k hk => ?_⟩, ⟨by decide, rfl⟩⟩
  have : k = 0 := by omega
  subst this
  rfl
/-- a word of face f, told in z -/
def FW (f : Nat → Int) (σ : SG) (k n : Nat) (le : Nat → Nat) (sg : Nat → Bool) : Prop := WV σ n le sg ∧ wcl σ n le sg ∧ f (23 + 6 * k) = n ∧ WL f (24 + 6 * k) n le sg
/-- the tape as a list of bytes -/
def TL (h : HH) (l : List Int) : Prop := h 5 1 = (l.length : Int) ∧ l.length ≤ 90 ∧ (∀ x ∈ l, 0 ≤ x ∧ x ≤ 255) ∧ TB h ∧ ∀ i, i < l.length → h 6 i = l.getD i 0
def tl (l : List Int) (i : Nat) : Int := l.getD i (-1)
theorem TL.tk {h : HH} {l : List Int} (T : TL h l) : tkT h = tl l := by
  obtain ⟨t1, t2, t3, t4, t5⟩ := T
  funext i
  unfold tkT tkI tl
  rw [t1]
  by_cases q : i < l.length
  · rw [if_pos (by omega), show ((i : Int)).toNat = i by omega, t5 i q]
    rw [List.getD_eq_getElem?_getD, List.getD_eq_getElem?_getD, List.getElem?_eq_getElem q]
    rfl
  · rw [if_neg (by omega), List.getD_eq_getElem?_getD, List.getElem?_eq_none (by omega)]
    rfl
/-- what feeding changes -/
def FD (h h' : HH) : Prop := ∀ k, k ≠ 5 → k ≠ 6 → h' k = h k
theorem FD.refl {h : HH} : FD h h := fun _ _ _ => rfl
theorem FD.trans {h h1 h2 : HH} (a : FD h h1) (b : FD h1 h2) : FD h h2 := fun k k5 k6 => (b k k5 k6).trans (a k k5 k6)
theorem getD_app (l : List Int) (b : Int) (i : Nat) : (l ++ [b]).getD i 0 = if i = l.length then b else l.getD i 0 := by
  rw [List.getD_eq_getElem?_getD, List.getD_eq_getElem?_getD]
  by_cases q : i < l.length
  · rw [List.getElem?_append_left q, if_neg (by omega)]
  · rw [List.getElem?_append_right (by omega)]
    by_cases r : i = l.length
    · rw [if_pos r, r, Nat.sub_self]; rfl
    · rw [if_neg r, List.getElem?_eq_none (by simp; omega), List.getElem?_eq_none (by omega)]
theorem TL.fed {h : HH} {l : List Int} {b : Int} (T : TL h l) (hb : 0 ≤ b ∧ b ≤ 255) (hn : l.length < 90) : TL (up (up h 6 l.length b) 5 1 ((l.length : Int) + 1)) (l ++ [b]) ∧ FD h (up (up h 6 l.length b) 5 1 ((l.length : Int) + 1)) := by
  obtain ⟨t1, t2, t3, t4, t5⟩ := T
  have e6 : up (up h 6 l.length b) 5 1 ((l.length : Int) + 1) 6 = fun j => if j = l.length then b else h 6 j := by rw [up_ne _ _ _ (by decide), up_at]
  refine ⟨⟨?_, by simp; omega, fun x hx => ?_, fun i hi => ?_, fun i hi => ?_⟩, fun k k5 k6 => by rw [up_ne _ _ _ k5, up_ne _ _ _ k6]⟩
  · rw [up_same]; simp
  · rcases List.mem_append.mp hx with q | q
    · exact t3 x q
    · have : x = b := by simpa using q
      rw [this]; exact hb
  · rw [e6]
    show 0 ≤ (if i = l.length then b else h 6 i) ∧ (if i = l.length then b else h 6 i) ≤ 255
    split
    · exact hb
    · exact t4 i hi
  · rw [e6, getD_app]
    show (if i = l.length then b else h 6 i) = if i = l.length then b else l.getD i 0
    by_cases q : i = l.length
    · rw [if_pos q, if_pos q]
    · rw [if_neg q, if_neg q]
      have : i < l.length + 1 := by simpa using hi
      exact t5 i (by omega)
/-- the law feeds a byte -/
theorem c_feed {g : GG} {h : HH} {l : List Int} (T : TL h l) {b : Int} (hb : 0 ≤ b ∧ b ≤ 255) (hn : l.length < 90) : CnI mX5_feed g [vr 0, vi b] h (fun _ h' => TL h' (l ++ [b]) ∧ FD h h') := by
  have c := c_X5_feed1 (g := g) (h := h) (n := l.length) T.1 T.2.1 hb hn
  have e : (fun (r : Option AV) (h' : HH) => ∃ z, r = some (vi z) ∧ (z = (l.length : Int) + 1 ∧ h' = up (up h 6 l.length b) 5 1 ((l.length : Int) + 1))) = fun r h' => (∃ z, r = some (vi z) ∧ (z = (l.length : Int) + 1 ∧ h' = up (up h 6 l.length b) 5 1 ((l.length : Int) + 1))) := rfl
  exact cn_weak c (fun r h' q => by
    obtain ⟨z, e, -, rfl⟩ := q
    exact ⟨z, e, T.fed hb hn⟩)
/-- the letters of a word -/
def wls (n : Nat) (le : Nat → Nat) (sg : Nat → Bool) : List Int := (List.range n).map (fun k => cod (le k) (sg k))
theorem wls_s (n : Nat) (le : Nat → Nat) (sg : Nat → Bool) : wls (n + 1) le sg = wls n le sg ++ [cod (le n) (sg n)] := by
  unfold wls
  rw [List.range_succ, List.map_append]
  rfl
theorem wls_len (n : Nat) (le : Nat → Nat) (sg : Nat → Bool) : (wls n le sg).length = n := by unfold wls; simp
set_option maxRecDepth 100000 in
set_option maxHeartbeats 4000000 in
theorem c_L_word {g : GG} {h : HH} {σ : SG} (W : WF σ) (Zc : ZC (h 47) σ) (hz : ZB (h 47)) (hF : sF σ < 4) (h0 : 0 < sE σ) {x : Int} : CnI mL_word g [vr 47, vi (sF σ : Int), vi x] h (fun z h' => ∃ (n : Nat) (le : Nat → Nat) (sg : Nat → Bool), z = (n : Int) ∧ FW (h' 47) σ (sF σ) n le sg ∧ WK h h' (24 + 6 * sF σ)) := by
  refine cn_q (lv := [vr 47, vi (sF σ : Int), vi x, vx, vx, vx, vx, vx, vx, vx, vx]) tL_word.1 rfl rfl (fun hR Q hQ => ?_)
  have w1 := W.1
  have w2 := W.2.1
  have w3 := W.2.2.1
  have zE := Zc.ze
  refine z_bipush dL_word_0 (by decide) ?_
  refine z_bipush dL_word_2 (by decide) ?_
  refine z_iload_n dL_word_4 rfl ?_
  refine z_imul dL_word_5 ?_
  refine z_iadd dL_word_6 ?_
  refine z_istore_n dL_word_7 (by decide) rfl ?_
  refine z_aload_n dL_word_8 rfl ?_
  refine z_iconst dL_word_9 ?_
  refine z_iaload dL_word_10 (by decide) rfl (by omega) (by omega) (by first | decide | omega) (fun r10 => ?_)
  rw [show h 47 (Int.toNat 1) = sE σ from Zc.2.1]
  refine z_if_ne 16 dL_word_11 (by decide) (by omega) (fun c11 => ?_) (fun c11 => ?_)
  · refine z_iconst dL_word_16 ?_
    refine z_istore dL_word_17 (by decide) rfl ?_
    have loop19 : ∀ (nL9 : Nat) (h1 : HH) (way : Nat), (way ≤ 16) → (WK h h1 (24 + 6 * sF σ)) → 16 - way < nL9 → Z mL_word g 19 [vr 47, vi (sF σ : Int), vi x, vi (24 + 6 * (sF σ : Int) : Int), vi (way : Int), vx, vx, vx, vx, vx, vx] [] h1 Q := by
      intro nL9
      induction nL9 with
      | zero => intro h1 way hw K1 hnL9; exact absurd hnL9 (Nat.not_lt_zero _)
      | succ nL9 ih19 =>
        intro h1 way hw K1 hnL9
        refine z_iload dL_word_19 rfl ?_
        refine z_bipush dL_word_21 (by decide) ?_
        refine z_icmp_ge 219 dL_word_23 (by decide) (by omega) (by omega) (fun c23 => ?_) (fun c23 => ?_)
        · refine z_aload_n dL_word_219 rfl ?_
          refine z_iload_n dL_word_220 rfl ?_
          refine z_iconst dL_word_221 ?_
          refine z_iastore dL_word_222 (by decide) rfl (by omega) (by omega) (by first | decide | omega) (by omega) ?_
          rw [show (24 + 6 * (sF σ : Int)).toNat = 24 + 6 * sF σ by omega]
          refine z_aload_n dL_word_223 rfl ?_
          refine z_iload_n dL_word_224 rfl ?_
          refine z_iconst dL_word_225 ?_
          refine z_iadd dL_word_226 ?_
          refine z_iconst dL_word_227 ?_
          refine z_iastore dL_word_228 (by decide) rfl (by omega) (by omega) (by first | decide | omega) (by omega) ?_
          rw [show (24 + 6 * (sF σ : Int) + 1).toNat = 25 + 6 * sF σ by omega]
          refine z_aload_n dL_word_229 rfl ?_
          refine z_iload_n dL_word_230 rfl ?_
          refine z_iconst dL_word_231 ?_
          refine z_isub dL_word_232 ?_
          refine z_iconst dL_word_233 ?_
          refine z_iastore dL_word_234 (by decide) rfl (by omega) (by omega) (by first | decide | omega) (by omega) ?_
          rw [show (24 + 6 * (sF σ : Int) - 1).toNat = 23 + 6 * sF σ by omega]
          refine z_iconst dL_word_235 ?_
          exact z_ireturn dL_word_236 rfl (hQ _ _ ⟨_, rfl, (by
    have K4 := ((K1.put (j := 24 + 6 * sF σ) (v := 1) (by omega) (by omega) (by omega)).put (j := 25 + 6 * sF σ) (v := -1) (by omega) (by omega) (by omega)).put (j := 23 + 6 * sF σ) (v := 2) (by omega) (by omega) (by omega)
    refine ⟨2, (fun _ => 0), (fun k => decide (k = 1)), rfl, ⟨(wv_aA h0).1, (wv_aA h0).2, ?_, ?_⟩, K4⟩
    · rw [up_at]; exact if_pos rfl
    · intro k hk
      rw [up_at, up_at, up_at]
      show (if 24 + 6 * sF σ + k = 23 + 6 * sF σ then (2 : Int) else if 24 + 6 * sF σ + k = 25 + 6 * sF σ then -1 else if 24 + 6 * sF σ + k = 24 + 6 * sF σ then 1 else h1 47 (24 + 6 * sF σ + k)) = ltr 0 (decide (k = 1))
      rcases (show k = 0 ∨ k = 1 by omega) with rfl | rfl
      · rw [if_neg (by omega), if_neg (by omega), if_pos (by omega)]; rfl
      · rw [if_neg (by omega), if_pos (by omega)]; rfl)⟩)
        · refine z_iload_n dL_word_26 rfl ?_
          refine z_bipush dL_word_27 (by decide) ?_
          refine z_iload dL_word_29 rfl ?_
          refine z_imul dL_word_31 ?_
          refine z_iadd dL_word_32 ?_
          refine z_istore dL_word_33 (by decide) rfl ?_
          refine z_iconst dL_word_35 ?_
          refine z_istore dL_word_36 (by decide) rfl ?_
          refine z_iconst dL_word_38 ?_
          refine z_istore dL_word_39 (by decide) rfl ?_
          refine z_iconst dL_word_41 ?_
          refine z_istore dL_word_42 (by decide) rfl ?_
          have loop44 : ∀ (nL9 : Nat) (h2 : HH) (k n : Nat) (gz : Int) (le : Nat → Nat) (sg : Nat → Bool), (k ≤ 4) → (gz = 0 ∨ (gz = 1 ∧ n = k ∧ WV σ n le sg ∧ WL (h2 47) (24 + 6 * sF σ) n le sg)) → (n ≤ 4) → (WK h h2 (24 + 6 * sF σ)) → 4 - k < nL9 → Z mL_word g 44 [vr 47, vi (sF σ : Int), vi x, vi (24 + 6 * (sF σ : Int) : Int), vi (way : Int), vi (x + 7 * (way : Int)), vi (n : Int), vi gz, vi (k : Int), vx, vx] [] h2 Q := by
            intro nL9
            induction nL9 with
            | zero => intro h2 k n gz le sg hk hg hn4 K2 hnL9; exact absurd hnL9 (Nat.not_lt_zero _)
            | succ nL9 ih44 =>
              intro h2 k n gz le sg hk hg hn4 K2 hnL9
              refine z_iload dL_word_44 rfl ?_
              refine z_iconst dL_word_46 ?_
              refine z_icmp_ge 213 dL_word_47 (by decide) (by omega) (by omega) (fun c47 => ?_) (fun c47 => ?_)
              · refine z_iinc dL_word_213 rfl (by decide) rfl ?_
                refine z_goto 19 dL_word_216 (by decide) ?_
                refine z_forget 5 ?_
                refine z_forget 6 ?_
                refine z_forget 7 ?_
                refine z_forget 8 ?_
                refine z_forget 9 ?_
                refine z_forget 10 ?_
                exact ih19 h2 (way + 1) (by omega) K2 (by omega)
              · refine z_iload dL_word_50 rfl ?_
                refine z_if_eq 213 dL_word_52 (by decide) (by omega) (fun c52 => ?_) (fun c52 => ?_)
                · refine z_iinc dL_word_213 rfl (by decide) rfl ?_
                  refine z_goto 19 dL_word_216 (by decide) ?_
                  refine z_forget 5 ?_
                  refine z_forget 6 ?_
                  refine z_forget 7 ?_
                  refine z_forget 8 ?_
                  refine z_forget 9 ?_
                  refine z_forget 10 ?_
                  exact ih19 h2 (way + 1) (by omega) K2 (by omega)
                · obtain ⟨hg1, hnk, V2, L2⟩ := hg.resolve_left c52
                  have z2 := K2.ze (by omega) w2 zE
                  refine z_iconst dL_word_55 ?_
                  refine z_iload dL_word_56 rfl ?_
                  refine z_iconst dL_word_58 ?_
                  refine z_iload dL_word_59 rfl ?_
                  refine z_imul dL_word_61 ?_
                  refine z_ishr dL_word_62 ?_
                  refine z_aload_n dL_word_63 rfl ?_
                  refine z_iconst dL_word_64 ?_
                  refine z_iaload dL_word_65 (by decide) rfl (by omega) (by omega) (by first | decide | omega) (fun r65 => ?_)
                  rw [show h2 47 (Int.toNat 1) = sE σ from z2.2.1]
                  refine z_callS_pI (M := mL_word) [_, _] tL_less kL_46 dL_word_66 ⟨by decide, by decide⟩ rfl (Nat.le_of_ble_eq_true rfl) rfl (c_L_less (by omega)) (fun z66 q66 => ?_)
                  refine z_iadd dL_word_69 ?_
                  refine z_istore dL_word_70 (by decide) rfl ?_
                  have k94 : ∀ (e0 : Nat) (y0 : Bool), e0 < sE σ → Z mL_word g 94 [vr 47, vi (sF σ : Int), vi x, vi (24 + 6 * (sF σ : Int) : Int), vi (way : Int), vi (x + 7 * (way : Int)), vi (n : Int), vi gz, vi (k : Int), vx, vx] [vi (ltr e0 y0)] h2 Q := by
                    intro e0 y0 he0
                    refine z_istore dL_word_94 (by decide) rfl ?_
                    have k130 : ∀ (y1 : Bool), Z mL_word g 130 [vr 47, vi (sF σ : Int), vi x, vi (24 + 6 * (sF σ : Int) : Int), vi (way : Int), vi (x + 7 * (way : Int)), vi (n : Int), vi gz, vi (k : Int), vx, vx] [vi (ltr e0 y1)] h2 Q := by
                      intro y1
                      refine z_istore dL_word_130 (by decide) rfl ?_
                      have b1 := bnd5 W y1 he0
                      have v2 := V2.2.1
                      have k163 : ∀ (g3 : Int), (g3 = 0 ∨ (g3 = 1 ∧ (0 < n → bgE σ e0 y1 = enE σ (le (n - 1)) (sg (n - 1))))) → Z mL_word g 163 [vr 47, vi (sF σ : Int), vi x, vi (24 + 6 * (sF σ : Int) : Int), vi (way : Int), vi (x + 7 * (way : Int)), vi (n : Int), vi gz, vi (k : Int), vx, vi (ltr e0 y1)] [vi g3] h2 Q := by
                        intro g3 hg3
                        refine z_istore dL_word_163 (by decide) rfl ?_
                        refine z_iload dL_word_165 rfl ?_
                        refine z_if_eq 207 dL_word_167 (by decide) (by omega) (fun c167 => ?_) (fun c167 => ?_)
                        · refine z_iinc dL_word_207 rfl (by decide) rfl ?_
                          refine z_goto 44 dL_word_210 (by decide) ?_
                          refine z_forget 9 ?_
                          refine z_forget 10 ?_
                          rw [c167]
                          exact ih44 h2 (k + 1) n 0 le sg (by omega) (Or.inl rfl) (by omega) K2 (by omega)
                        · obtain ⟨h31, hc3⟩ := hg3.resolve_left c167
                          have V3 := wv_put V2 (by omega) he0 hc3
                          have L3 := WL.put (e := e0) (y := y1) L2
                          have lr := ltr_r y1 (show e0 < 6 by omega)
                          have K3 : WK h (up h2 47 (24 + 6 * sF σ + n) (ltr e0 y1)) (24 + 6 * sF σ) := K2.put (by omega) (by omega) (by omega)
                          generalize e3 : up h2 47 (24 + 6 * sF σ + n) (ltr e0 y1) = h3 at K3
                          rw [show (fun i => if i = 24 + 6 * sF σ + n then ltr e0 y1 else h2 47 i) = h3 47 by rw [← e3, up_at]] at L3
                          generalize el : (fun k => if k = n then e0 else le k) = le3 at V3 L3
                          generalize eg : (fun k => if k = n then y1 else sg k) = sg3 at V3 L3
                          have l3n : le3 n = e0 ∧ sg3 n = y1 := by rw [← el, ← eg]; exact ⟨if_pos rfl, if_pos rfl⟩
                          have z3 := K3.ze (by omega) w2 zE
                          have v3 := V3.2.1 0 (by omega)
                          have b3 := bnd5 W (sg3 0) v3
                          refine z_aload_n dL_word_170 rfl ?_
                          refine z_iload_n dL_word_171 rfl ?_
                          refine z_iload dL_word_172 rfl ?_
                          refine z_iadd dL_word_174 ?_
                          refine z_iload dL_word_175 rfl ?_
                          refine z_iastore dL_word_177 (by decide) rfl (by omega) (by omega) (by first | decide | omega) (by omega) ?_
                          rw [show (24 + 6 * (sF σ : Int) + (n : Int)).toNat = 24 + 6 * sF σ + n by omega, e3]
                          refine z_iinc dL_word_178 rfl (by decide) rfl ?_
                          refine z_aload_n dL_word_181 rfl ?_
                          refine z_iload dL_word_182 rfl ?_
                          refine z_callS_eI (M := mL_word) [_, _] tL_end kL_52 dL_word_184 ⟨by decide, by decide⟩ rfl (Nat.le_of_ble_eq_true rfl) rfl (c_L_end w2 z3 y1 he0) ?_
                          refine z_aload_n dL_word_187 rfl ?_
                          refine z_aload_n dL_word_188 rfl ?_
                          refine z_iload_n dL_word_189 rfl ?_
                          refine z_iaload dL_word_190 (by decide) rfl (by omega) (by omega) (by first | decide | omega) (fun r190 => ?_)
                          rw [show h3 47 (24 + 6 * (sF σ : Int)).toNat = ltr (le3 0) (sg3 0) from (ix (i := 24 + 6 * sF σ + 0) (by omega)).trans (L3 0 (by omega))]
                          refine z_callS_eI (M := mL_word) [_, _] tL_begin kL_49 dL_word_191 ⟨by decide, by decide⟩ rfl (Nat.le_of_ble_eq_true rfl) rfl (c_L_begin w2 z3 (sg3 0) v3) ?_
                          refine z_icmp_ne 207 dL_word_194 (by decide) (by omega) (by omega) (fun c194 => ?_) (fun c194 => ?_)
                          · refine z_iinc dL_word_207 rfl (by decide) rfl ?_
                            refine z_goto 44 dL_word_210 (by decide) ?_
                            refine z_forget 9 ?_
                            refine z_forget 10 ?_
                            rw [h31]
                            exact ih44 _ (k + 1) (n + 1) 1 le3 sg3 (by omega) (Or.inr ⟨rfl, by omega, V3, L3⟩) (by omega) K3 (by omega)
                          · refine z_aload_n dL_word_197 rfl ?_
                            refine z_iload_n dL_word_198 rfl ?_
                            refine z_iconst dL_word_199 ?_
                            refine z_isub dL_word_200 ?_
                            refine z_iload dL_word_201 rfl ?_
                            refine z_iastore dL_word_203 (by decide) rfl (by omega) (by omega) (by first | decide | omega) (by omega) ?_
                            rw [show (24 + 6 * (sF σ : Int) - 1).toNat = 23 + 6 * sF σ by omega]
                            refine z_iload dL_word_204 rfl ?_
                            exact z_ireturn dL_word_206 rfl (hQ _ _ ⟨_, rfl, ⟨n + 1, le3, sg3, by omega, ⟨V3, ⟨by omega, by rw [show n + 1 - 1 = n by omega, l3n.1, l3n.2]; omega⟩, by rw [up_at]; show (if 23 + 6 * sF σ = 23 + 6 * sF σ then _ else _) = _; rw [if_pos rfl]; omega, fun k hk => by rw [up_at]; show (if 24 + 6 * sF σ + k = 23 + 6 * sF σ then _ else h3 47 (24 + 6 * sF σ + k)) = _; rw [if_neg (by omega)]; exact L3 k hk⟩, K3.put (by omega) (by omega) (by omega)⟩⟩)
                      refine z_iload dL_word_132 rfl ?_
                      refine z_if_eq 158 dL_word_134 (by decide) (by omega) (fun c134 => ?_) (fun c134 => ?_)
                      · refine z_iconst dL_word_158 ?_
                        refine z_goto 163 dL_word_159 (by decide) ?_
                        exact k163 1 (Or.inr ⟨rfl, fun q => absurd q (by omega)⟩)
                      · have b2 := bnd5 W (sg (n - 1)) (v2 (n - 1) (by omega))
                        refine z_aload_n dL_word_137 rfl ?_
                        refine z_iload dL_word_138 rfl ?_
                        refine z_callS_eI (M := mL_word) [_, _] tL_begin kL_49 dL_word_140 ⟨by decide, by decide⟩ rfl (Nat.le_of_ble_eq_true rfl) rfl (c_L_begin w2 z2 y1 he0) ?_
                        refine z_aload_n dL_word_143 rfl ?_
                        refine z_aload_n dL_word_144 rfl ?_
                        refine z_iload_n dL_word_145 rfl ?_
                        refine z_iload dL_word_146 rfl ?_
                        refine z_iadd dL_word_148 ?_
                        refine z_iconst dL_word_149 ?_
                        refine z_isub dL_word_150 ?_
                        refine z_iaload dL_word_151 (by decide) rfl (by omega) (by omega) (by first | decide | omega) (fun r151 => ?_)
                        rw [show h2 47 (24 + 6 * (sF σ : Int) + (n : Int) - 1).toNat = ltr (le (n - 1)) (sg (n - 1)) from (ix (i := 24 + 6 * sF σ + (n - 1)) (by omega)).trans (L2 (n - 1) (by omega))]
                        refine z_callS_eI (M := mL_word) [_, _] tL_end kL_52 dL_word_152 ⟨by decide, by decide⟩ rfl (Nat.le_of_ble_eq_true rfl) rfl (c_L_end w2 z2 (sg (n - 1)) (v2 _ (by omega))) ?_
                        refine z_icmp_ne 162 dL_word_155 (by decide) (by omega) (by omega) (fun c155 => ?_) (fun c155 => ?_)
                        · refine z_iconst dL_word_162 ?_
                          exact k163 0 (Or.inl rfl)
                        · refine z_iconst dL_word_158 ?_
                          refine z_goto 163 dL_word_159 (by decide) ?_
                          exact k163 1 (Or.inr ⟨rfl, fun _ => by omega⟩)
                    refine z_iload dL_word_96 rfl ?_
                    refine z_if_le 128 dL_word_98 (by decide) (by omega) (fun c98 => ?_) (fun c98 => ?_)
                    · refine z_iload dL_word_128 rfl ?_
                      refine z_forget 10 ?_
                      exact k130 y0
                    · have v2 := V2.2.1
                      have b0 := bnd5 W y0 he0
                      have b2 := bnd5 W (sg (n - 1)) (v2 (n - 1) (by omega))
                      refine z_aload_n dL_word_101 rfl ?_
                      refine z_iload dL_word_102 rfl ?_
                      refine z_callS_eI (M := mL_word) [_, _] tL_begin kL_49 dL_word_104 ⟨by decide, by decide⟩ rfl (Nat.le_of_ble_eq_true rfl) rfl (c_L_begin w2 z2 y0 he0) ?_
                      refine z_aload_n dL_word_107 rfl ?_
                      refine z_aload_n dL_word_108 rfl ?_
                      refine z_iload_n dL_word_109 rfl ?_
                      refine z_iload dL_word_110 rfl ?_
                      refine z_iadd dL_word_112 ?_
                      refine z_iconst dL_word_113 ?_
                      refine z_isub dL_word_114 ?_
                      refine z_iaload dL_word_115 (by decide) rfl (by omega) (by omega) (by first | decide | omega) (fun r115 => ?_)
                      rw [show h2 47 (24 + 6 * (sF σ : Int) + (n : Int) - 1).toNat = ltr (le (n - 1)) (sg (n - 1)) from (ix (i := 24 + 6 * sF σ + (n - 1)) (by omega)).trans (L2 (n - 1) (by omega))]
                      refine z_callS_eI (M := mL_word) [_, _] tL_end kL_52 dL_word_116 ⟨by decide, by decide⟩ rfl (Nat.le_of_ble_eq_true rfl) rfl (c_L_end w2 z2 (sg (n - 1)) (v2 _ (by omega))) ?_
                      refine z_icmp_eq 128 dL_word_119 (by decide) (by omega) (by omega) (fun c119 => ?_) (fun c119 => ?_)
                      · refine z_iload dL_word_128 rfl ?_
                        refine z_forget 10 ?_
                        exact k130 y0
                      · refine z_iload dL_word_122 rfl ?_
                        refine z_ineg dL_word_124 ?_
                        refine z_goto 130 dL_word_125 (by decide) ?_
                        refine z_forget 10 ?_
                        rw [ltr_neg]
                        exact k130 (!y0)
                  refine z_iload dL_word_72 rfl ?_
                  refine z_iconst dL_word_74 ?_
                  refine z_iload dL_word_75 rfl ?_
                  refine z_imul dL_word_77 ?_
                  refine z_iconst dL_word_78 ?_
                  refine z_iadd dL_word_79 ?_
                  refine z_ishr dL_word_80 ?_
                  refine z_iconst dL_word_81 ?_
                  refine z_iand dL_word_82 ?_
                  refine z_if_ne 91 dL_word_83 (by decide) (r32_of _) (fun c83 => ?_) (fun c83 => ?_)
                  · refine z_iload dL_word_91 rfl ?_
                    refine z_ineg dL_word_93 ?_
                    refine z_forget 9 ?_
                    rw [show -(1 + z66) = ltr (z66.toNat) true by rw [ltr_t]; omega]
                    exact k94 _ _ (by omega)
                  · refine z_iload dL_word_86 rfl ?_
                    refine z_goto 94 dL_word_88 (by decide) ?_
                    refine z_forget 9 ?_
                    rw [show 1 + z66 = ltr (z66.toNat) false by rw [ltr_f]; omega]
                    exact k94 _ _ (by omega)
          exact loop44 _ h1 0 0 1 (fun _ => 0) (fun _ => false) (by omega) (Or.inr ⟨rfl, rfl, wv_0 σ, fun k hk => absurd hk (Nat.not_lt_zero k)⟩) (by omega) K1 (Nat.lt_succ_self _)
    exact loop19 _ h 0 (by omega) (WK.refl hz) (Nat.lt_succ_self _)
  · omega
set_option maxRecDepth 100000 in
set_option maxHeartbeats 4000000 in
theorem c_L_spells {g : GG} {h : HH} {l : List Int} (T : TL h l) {f n : Nat} {le : Nat → Nat} {sg : Nat → Bool} (hf : f < 4) (hn : n ≤ 4) (hl : l.length + n ≤ 90) (h1w : h 47 (23 + 6 * f) = n) (L : WL (h 47) (24 + 6 * f) n le sg) (hle : ∀ k, k < n → le k < 26) : CnV mL_spells g [vr 0, vr 47, vi (f : Int)] h (fun h' => TL h' (l ++ wls n le sg) ∧ FD h h') := by
  refine cn_q (lv := [vr 0, vr 47, vi (f : Int), vx]) tL_spells.1 rfl rfl (fun hR Q hQ => ?_)
  refine z_iconst dL_spells_0 ?_
  refine z_istore_n dL_spells_1 (by decide) rfl ?_
  have loop2 : ∀ (nL9 : Nat) (h1 : HH) (k : Nat), (k ≤ n) → (TL h1 (l ++ wls k le sg)) → (FD h h1) → n - k < nL9 → Z mL_spells g 2 [vr 0, vr 47, vi (f : Int), vi (k : Int)] [] h1 Q := by
    intro nL9
    induction nL9 with
    | zero => intro h1 k hk T1 D1 hnL9; exact absurd hnL9 (Nat.not_lt_zero _)
    | succ nL9 ih2 =>
      intro h1 k hk T1 D1 hnL9
      refine z_iload_n dL_spells_2 rfl ?_
      refine z_aload_n dL_spells_3 rfl ?_
      refine z_bipush dL_spells_4 (by decide) ?_
      refine z_bipush dL_spells_6 (by decide) ?_
      refine z_iload_n dL_spells_8 rfl ?_
      refine z_imul dL_spells_9 ?_
      refine z_iadd dL_spells_10 ?_
      refine z_iaload dL_spells_11 (by decide) rfl (by omega) (by omega) (by first | decide | omega) (fun r11 => ?_)
      rw [show h1 47 (23 + 6 * (f : Int)).toNat = n from (ix (i := 23 + 6 * f) (by omega)).trans ((congrFun (D1 47 (by decide) (by decide)) _).trans h1w)]
      refine z_icmp_ge 40 dL_spells_12 (by decide) (by omega) (by omega) (fun c12 => ?_) (fun c12 => ?_)
      · exact z_return dL_spells_40 rfl (hQ _ _ ⟨rfl, (by rw [show n = k by omega]; exact ⟨T1, D1⟩)⟩)
      · have lk := wls_len k le sg
        refine z_aload_n dL_spells_15 rfl ?_
        refine z_aload_n dL_spells_16 rfl ?_
        refine z_bipush dL_spells_17 (by decide) ?_
        refine z_bipush dL_spells_19 (by decide) ?_
        refine z_iload_n dL_spells_21 rfl ?_
        refine z_imul dL_spells_22 ?_
        refine z_iadd dL_spells_23 ?_
        refine z_iload_n dL_spells_24 rfl ?_
        refine z_iadd dL_spells_25 ?_
        refine z_iaload dL_spells_26 (by decide) rfl (by omega) (by omega) (by first | decide | omega) (fun r26 => ?_)
        rw [show h1 47 (24 + 6 * (f : Int) + (k : Int)).toNat = ltr (le k) (sg k) from (ix (i := 24 + 6 * f + k) (by omega)).trans ((congrFun (D1 47 (by decide) (by decide)) _).trans (L k (by omega)))]
        have r9 := cod_r (sg k) (hle k (by omega))
        refine z_callS_eI (M := mL_spells) [_] tL_code kL_55 dL_spells_27 ⟨by decide, by decide⟩ rfl (Nat.le_of_ble_eq_true rfl) rfl (c_L_code (sg k) (hle k (by omega))) ?_
        refine z_callV_I (M := mL_spells) [_] tX5_feed kL_58 dL_spells_30 ⟨by decide, rfl, _, _, rfl⟩ ⟨by decide, by decide⟩ rfl (Nat.le_of_ble_eq_true rfl) rfl (c_feed T1 (by omega) (by rw [List.length_append]; omega)) (fun z30 h30 q30 => ?_)
        refine z_pop dL_spells_33 rfl ?_
        refine z_iinc dL_spells_34 rfl (by decide) rfl ?_
        refine z_goto 2 dL_spells_37 (by decide) ?_
        exact ih2 _ (k + 1) (by omega) (by rw [wls_s, ← List.append_assoc]; exact q30.1) (D1.trans q30.2) (by omega)
  exact loop2 _ h 0 (by omega) (by rw [show wls 0 le sg = [] from rfl, List.append_nil]; exact T) FD.refl (Nat.lt_succ_self _)

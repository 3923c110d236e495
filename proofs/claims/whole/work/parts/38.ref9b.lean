set_option maxRecDepth 100000 in
set_option maxHeartbeats 4000000 in
theorem c_X6_readsFace {g : GG} {h : HH} {tk : Nat → Int} {n : Nat} (T : TP h tk n) {s : PF} (L : LAf tk (h 47) s) (h0 : s.2 = 0) {σ : SG} (W : WB σ) (R : RM (h 49) σ) (h1 : tk s.1 = 102) : CnV mX6_readsFace g [vr 47] h (fun h' => FM h h' ∧ LAf tk (h' 47) (pFace tk (s, σ)).1 ∧ ((pFace tk (s, σ)).1.2 = 0 → RM (h' 49) (pFace tk (s, σ)).2)) := by
  refine cn_q (lv := [vr 47, vx, vx, vx]) tX6_readsFace.1 rfl rfl (fun hR Q hQ => ?_)
  have w1 := W.1
  have w2 := W.2.1
  have w3 := W.2.2.1
  refine z_aload_n dX6_readsFace_0 rfl ?_
  refine z_getR fX6_13 dX6_readsFace_1 (by decide) rfl rfl ?_
  refine z_iconst dX6_readsFace_4 ?_
  refine z_iaload dX6_readsFace_5 (by decide) rfl (by omega) (by omega) (by first | decide | omega) (fun r5 => ?_)
  rw [show h 49 (Int.toNat 2) = sF σ from rm_F R]
  refine z_istore_n dX6_readsFace_6 (by decide) rfl ?_
  have K17 : ∀ (h5 : HH) (s5 : PF), Pt h tk s5 h5 → (s5.2 = 0 → sF σ < 4 ∧ tk s5.1 = 102) → pFace tk (s, σ) = pF1 tk σ s5 → Z mX6_readsFace g 17 [vr 47, vi (sF σ : Int), vx, vx] [] h5 Q := by
    intro h5 s5 P5 k1 k2
    have L5 := P5.la
    refine z_aload_n dX6_readsFace_17 rfl ?_
    refine z_callV_V (M := mX6_readsFace) [] tX6_goesOn kX6_178 dX6_readsFace_18 ⟨by decide, rfl, _, _, rfl⟩ ⟨by decide, by decide⟩ rfl (Nat.le_of_ble_eq_true rfl) rfl (c_X6_goesOn (P5.tp T) L5 (fun q => by rw [(k1 q).2]; decide)) (fun h18 q18 => ?_)
    rw [goS_tkS (c := 102) (fun q => (k1 q).2)] at q18
    obtain ⟨s1, es1⟩ : ∃ x, x = tkS tk 102 s5 := ⟨_, rfl⟩
    rw [← es1] at q18
    have P1 := P5.tr q18
    refine z_aload_n dX6_readsFace_21 rfl ?_
    refine z_iconst dX6_readsFace_22 ?_
    refine z_iconst dX6_readsFace_23 ?_
    refine z_callV_I (M := mX6_readsFace) [_, _] tX6_digit kX6_191 dX6_readsFace_24 ⟨by decide, rfl, _, _, rfl⟩ ⟨by decide, by decide⟩ rfl (Nat.le_of_ble_eq_true rfl) rfl (c_X6_digit (P1.tp T) P1.la (lo := 1) (hi := 3) (by decide) (by decide)) (fun z24 h24 q24 => ?_)
    obtain ⟨q1, q2⟩ := q24
    obtain ⟨w, ew⟩ : ∃ x, x = tkD tk 1 3 s1 := ⟨_, rfl⟩
    rw [← ew] at q1 q2
    have P2 := P1.tr q1
    have l2 := P2.la.1
    refine z_istore_n dX6_readsFace_27 (by decide) rfl ?_
    refine z_aload_n dX6_readsFace_28 rfl ?_
    refine z_getI fX6_165 dX6_readsFace_29 (by decide) rfl rfl (fun r29 => ?_)
    refine z_if_le 36 dX6_readsFace_32 (by decide) (by omega) (fun c32 => ?_) (fun c32 => ?_)
    · have w0 : w.2.2 = 0 := by omega
      obtain ⟨m4, m5, m6, m7⟩ := tkD_ok (ew ▸ w0)
      rw [← ew] at m6 m7
      obtain ⟨r4, r5, r6⟩ := tkS_ok (es1 ▸ m4)
      have k3 := (k1 r4).1
      rw [if_pos w0] at q2
      rw [q2]
      have eG : pFace tk (s, σ) = (tkS tk 59 (pEndW σ tk (pLets σ tk 90 (w.2, 0, (fun _ => 0), (fun _ => false)))), if (tkS tk 59 (pEndW σ tk (pLets σ tk 90 (w.2, 0, (fun _ => 0), (fun _ => false))))).2 = 0 then addF σ w.1 (pLets σ tk 90 (w.2, 0, (fun _ => 0), (fun _ => false))).2.1 (pLets σ tk 90 (w.2, 0, (fun _ => 0), (fun _ => false))).2.2.1 (pLets σ tk 90 (w.2, 0, (fun _ => 0), (fun _ => false))).2.2.2 else σ) := by
        rw [k2]; unfold pF1; dsimp only; rw [← es1, ← ew]
      have L24 := P2.la
      have E24 : h24 49 = h 49 := P2.ne (by decide)
      refine z_aload_n dX6_readsFace_36 rfl ?_
      refine z_getR fX6_13 dX6_readsFace_37 (by decide) rfl rfl ?_
      refine z_bipush dX6_readsFace_40 (by decide) ?_
      refine z_bipush dX6_readsFace_42 (by decide) ?_
      refine z_iload_n dX6_readsFace_44 rfl ?_
      refine z_imul dX6_readsFace_45 ?_
      refine z_iadd dX6_readsFace_46 ?_
      refine z_iload_n dX6_readsFace_47 rfl ?_
      refine z_iastore dX6_readsFace_48 (by decide) rfl (by omega) (by omega) (by first | decide | omega) (by omega) ?_
      rw [up_n (i := 21 + 6 * sF σ) (by omega), E24]
      refine z_aload_n dX6_readsFace_49 rfl ?_
      refine z_getR fX6_13 dX6_readsFace_50 (by decide) rfl rfl ?_
      refine z_bipush dX6_readsFace_53 (by decide) ?_
      refine z_bipush dX6_readsFace_55 (by decide) ?_
      refine z_iload_n dX6_readsFace_57 rfl ?_
      refine z_imul dX6_readsFace_58 ?_
      refine z_iadd dX6_readsFace_59 ?_
      refine z_iconst dX6_readsFace_60 ?_
      refine z_iadd dX6_readsFace_61 ?_
      refine z_iconst dX6_readsFace_62 ?_
      refine z_iastore dX6_readsFace_63 (by decide) rfl (by omega) (by omega) (by first | decide | omega) (by omega) ?_
      rw [up_s (i := 21 + 6 * sF σ + 1) (by omega)]
      have R64 : RM (upn (upn (h 49) (21 + 6 * sF σ) w.1) (21 + 6 * sF σ + 1) 0) σ := rm_low W R (fun j hj => by rw [upn_ne (by omega), upn_ne (by omega)])
      have hw64 : upn (upn (h 49) (21 + 6 * sF σ) w.1) (21 + 6 * sF σ + 1) 0 (21 + 6 * sF σ) = w.1 := by rw [upn_ne (by omega)]; exact upn_eq rfl
      have wl64 : WL (upn (upn (h 49) (21 + 6 * sF σ) w.1) (21 + 6 * sF σ + 1) 0) σ (sF σ) 0 (fun _ => 0) (fun _ => false) := ⟨k3, by omega, upn_eq rfl, fun k hk => absurd hk (Nat.not_lt_zero _)⟩
      obtain ⟨f7, e7⟩ : ∃ x, x = upn (upn (h 49) (21 + 6 * sF σ) (w.1 : Int)) (21 + 6 * sF σ + 1) 0 := ⟨_, rfl⟩
      rw [← e7] at R64 hw64 wl64 ⊢
      have L64 : LAf tk ((setc h24 49 f7) 47) w.2 := la_set L24
      have F64 : FM h (setc h24 49 f7) := P2.fm.tr (FM.set _ _)
      have M64 := L64.2.2.1 w0
      have E64 : (setc h24 49 f7) 49 = f7 := setc_at _ _ _
      have K170 : ∀ (h6 : HH) (t : PF) (L : PW) (F6 : FM h h6) (L6 : LAf tk (h6 47) t) (R6 : RM (h6 49) σ) (hw : h6 49 (21 + 6 * sF σ) = w.1) (hL : pLets σ tk 90 (w.2, 0, (fun _ => 0), (fun _ => false)) = L) (ht : t = pEndW σ tk L) (wl : (tkS tk 59 t).2 = 0 → WL (h6 49) σ (sF σ) L.2.1 L.2.2.1 L.2.2.2), Z mX6_readsFace g 170 [vr 47, vi (sF σ : Int), vi (w.1 : Int), vx] [] h6 Q := by
        intro h6 t L F6 L6 R6 hw hL ht wl
        refine z_aload_n dX6_readsFace_170 rfl ?_
        refine z_callV_V (M := mX6_readsFace) [] tX6_stop kX6_194 dX6_readsFace_171 ⟨by decide, rfl, _, _, rfl⟩ ⟨by decide, by decide⟩ rfl (Nat.le_of_ble_eq_true rfl) rfl (c_X6_stop (F6.tp T) L6) (fun h171 q171 => ?_)
        refine z_aload_n dX6_readsFace_174 rfl ?_
        refine z_getR fX6_13 dX6_readsFace_175 (by decide) rfl rfl ?_
        refine z_iconst dX6_readsFace_178 ?_
        refine z_dup2 dX6_readsFace_179 rfl rfl ?_
        refine z_iaload dX6_readsFace_180 (by decide) rfl (by omega) (by omega) (by first | decide | omega) (fun r180 => ?_)
        have E171 : h171 49 = h6 49 := q171.ne (by decide)
        have E2 : h171 49 (Int.toNat 2) = sF σ := by rw [E171]; exact rm_F R6
        rw [E2] at r180 ⊢
        refine z_iconst dX6_readsFace_181 ?_
        refine z_iadd dX6_readsFace_182 ?_
        refine z_iastore dX6_readsFace_183 (by decide) rfl (by omega) (by omega) (by first | decide | omega) (by omega) ?_
        rw [up_n (z := 2) (i := 2) rfl, E171]
        exact z_return dX6_readsFace_184 rfl (hQ _ _ ⟨rfl, (by
  rw [eG, hL, ← ht]
  refine ⟨F6.tr (q171.fm.tr (FM.set _ _)), la_set q171.la, fun r => ?_⟩
  rw [if_pos r, setc_at]
  exact rm_addF W R6 (wl r) hw)⟩)
      have K140 : ∀ (h6 : HH) (t : PF) (L : PW) (F6 : FM h h6) (L6 : LAf tk (h6 47) t) (R6 : RM (h6 49) σ) (hw : h6 49 (21 + 6 * sF σ) = w.1) (hL : pLets σ tk 90 (w.2, 0, (fun _ => 0), (fun _ => false)) = L) (k1 : t.2 = 0 → t = L.1 ∧ 0 < L.2.1 ∧ WL (h6 49) σ (sF σ) L.2.1 L.2.2.1 L.2.2.2) (k2 : t.2 ≠ 0 → t = pEndW σ tk L), Z mX6_readsFace g 140 [vr 47, vi (sF σ : Int), vi (w.1 : Int), vx] [] h6 Q := by
        intro h6 t L F6 L6 R6 hw hL k1 k2
        have l1 := L6.1
        refine z_aload_n dX6_readsFace_140 rfl ?_
        refine z_getI fX6_165 dX6_readsFace_141 (by decide) rfl rfl (fun r141 => ?_)
        refine z_if_ne 170 dX6_readsFace_144 (by decide) (by omega) (fun c144 => ?_) (fun c144 => ?_)
        · exact K170 h6 t L F6 L6 R6 hw hL (k2 (by omega)) (fun r => by rw [tkS_flt (by omega)] at r; omega)
        · refine z_aload_n dX6_readsFace_147 rfl ?_
          refine z_callV_eI (M := mX6_readsFace) [] tX6_isStop kX6_181 dX6_readsFace_148 ⟨by decide, rfl, _, _, rfl⟩ ⟨by decide, by decide⟩ rfl (Nat.le_of_ble_eq_true rfl) rfl c_X6_isStop ?_
          refine z_if_eq 170 dX6_readsFace_151 (by decide) (bi_r _) (fun c151 => ?_) (fun c151 => ?_)
          · have c151 := bi_eq.mp c151
            obtain ⟨y1, y2, y3⟩ := k1 (by omega)
            exact K170 h6 t L F6 L6 R6 hw hL (y1.trans (pEndW_id y2 (Or.inl (fun r => c151 ⟨by rw [(L6.2.2.1 (by omega)).2.2.1, y1]; exact kd_59 r, by rw [(L6.2.2.1 (by omega)).2.1, y1]; exact r⟩))).symm) (fun _ => y3)
          · have c151 := bi_ne.mp c151
            have t0 : t.2 = 0 := by omega
            obtain ⟨y1, y2, y3⟩ := k1 t0
            refine z_aload_n dX6_readsFace_154 rfl ?_
            refine z_getR fX6_13 dX6_readsFace_155 (by decide) rfl rfl ?_
            refine z_iload_n dX6_readsFace_158 rfl ?_
            refine z_callS_eI (M := mX6_readsFace) [_, _] tX6_isClosed kX6_212 dX6_readsFace_159 ⟨by decide, by decide⟩ rfl (Nat.le_of_ble_eq_true rfl) rfl (c_X6_isClosed isB49 W R6 y3) ?_
            refine z_if_ne 170 dX6_readsFace_162 (by decide) (bi_r _) (fun c162 => ?_) (fun c162 => ?_)
            · have c162 := bi_ne.mp c162
              exact K170 h6 t L F6 L6 R6 hw hL (y1.trans (pEndW_id y2 (Or.inr c162)).symm) (fun _ => y3)
            · have c162 := bi_eq.mp c162
              refine z_aload_n dX6_readsFace_165 rfl ?_
              refine z_iconst dX6_readsFace_166 ?_
              refine z_callV_V (M := mX6_readsFace) [_] tX6_bad kX6_174 dX6_readsFace_167 ⟨by decide, rfl, _, _, rfl⟩ ⟨by decide, by decide⟩ rfl (Nat.le_of_ble_eq_true rfl) rfl (c_X6_bad L6 (c := 2) (by decide)) (fun h167 q167 => ?_)
              have e8 : bdS t 2 = (t.1, 2) := if_neg (fun q => q t0)
              have E8 : h167 49 = h6 49 := q167.ne (by decide)
              exact K170 h167 (bdS t 2) L (F6.tr q167.fm) q167.la (by rw [E8]; exact R6) (by rw [E8]; exact hw) hL (by rw [e8, y1]; exact (pEndW_op (y1 ▸ t0) y2 (by rw [← y1, ← (L6.2.2.1 t0).2.1]; exact c151.2) c162).symm) (fun _ => by rw [E8]; exact y3)
      have K77 : ∀ (nL9 : Nat) (h6 : HH) (t : PF) (L : PW) (m : Nat) (F6 : FM h h6) (L6 : LAf tk (h6 47) t) (R6 : RM (h6 49) σ) (hw : h6 49 (21 + 6 * sF σ) = w.1) (hL : pLets σ tk 90 (w.2, 0, (fun _ => 0), (fun _ => false)) = pLets σ tk m L) (hm : L.1.2 = 0 → n - L.1.1 ≤ m) (ht : (t = L.1 ∧ (L.2.1 = 0 → L.1.2 = 0 → 0 ≤ edg (tk L.1.1)) ∧ WL (h6 49) σ (sF σ) L.2.1 L.2.2.1 L.2.2.2) ∨ (t = (L.1.1, 1) ∧ L.1.2 = 0 ∧ L.2.1 = 0 ∧ edg (tk L.1.1) < 0)) (hnL9 : (if t.2 = 0 then 91 - L.1.1 else 0) < nL9), Z mX6_readsFace g 77 [vr 47, vi (sF σ : Int), vi (w.1 : Int), vx] [] h6 Q := by
        intro nL9
        induction nL9 with
        | zero => intro h6 t L m F6 L6 R6 hw hL hm ht hnL9; exact absurd hnL9 (Nat.not_lt_zero _)
        | succ nL9 ih77 =>
          intro h6 t L m F6 L6 R6 hw hL hm ht hnL9
          have l1 := L6.1
          refine z_aload_n dX6_readsFace_77 rfl ?_
          refine z_getI fX6_165 dX6_readsFace_78 (by decide) rfl rfl (fun r78 => ?_)
          refine z_if_ne 140 dX6_readsFace_81 (by decide) (by omega) (fun c81 => ?_) (fun c81 => ?_)
          · have hL9 : pLets σ tk m L = L := by
              rcases ht with ⟨rfl, -, -⟩ | ⟨-, -, -, y⟩
              · exact pLets_stop (fun q => by omega) _
              · exact pLets_stop (fun q => by omega) _
            exact K140 h6 t L F6 L6 R6 hw (hL.trans hL9) (fun q => absurd q (by omega)) (fun _ => by
              rcases ht with ⟨rfl, -, -⟩ | ⟨rfl, y1, y2, -⟩
              · exact (pEndW_flt (by omega)).symm
              · exact (pEndW_sp y1 y2).symm)
          · refine z_aload_n dX6_readsFace_84 rfl ?_
            refine z_getI fX6_162 dX6_readsFace_85 (by decide) rfl rfl (fun r85 => ?_)
            refine z_iconst dX6_readsFace_88 ?_
            refine z_icmp_ne 140 dX6_readsFace_89 (by decide) (by omega) (by omega) (fun c89 => ?_) (fun c89 => ?_)
            · have t0 : t.2 = 0 := by omega
              obtain ⟨rfl, ht2, wl⟩ : t = L.1 ∧ (L.2.1 = 0 → L.1.2 = 0 → 0 ≤ edg (tk L.1.1)) ∧ WL (h6 49) σ (sF σ) L.2.1 L.2.2.1 L.2.2.2 := by
                rcases ht with q | ⟨rfl, -⟩
                · exact q
                · exact absurd t0 (show ¬ (1 : Nat) = 0 by decide)
              have ed : ¬ 0 ≤ edg (tk L.1.1) := fun q => c89 (by rw [(L6.2.2.1 t0).2.2.1]; exact kd_1.mpr q)
              have n0 : L.2.1 ≠ 0 := fun q => ed (ht2 q t0)
              exact K140 h6 L.1 L F6 L6 R6 hw (hL.trans (pLets_stop (fun q => ed q.2) _)) (fun _ => ⟨rfl, by omega, wl⟩) (fun q => absurd t0 q)
            · have t0 : t.2 = 0 := by omega
              obtain ⟨rfl, ht2, wl⟩ : t = L.1 ∧ (L.2.1 = 0 → L.1.2 = 0 → 0 ≤ edg (tk L.1.1)) ∧ WL (h6 49) σ (sF σ) L.2.1 L.2.2.1 L.2.2.2 := by
                rcases ht with q | ⟨rfl, -⟩
                · exact q
                · exact absurd t0 (show ¬ (1 : Nat) = 0 by decide)
              have M6 := L6.2.2.1 t0
              have ed := kd_1.mp (M6.2.2.1.symm.trans c89)
              have lt := tp_lt T (i := L.1.1) (by unfold edg at ed; split at ed <;> (try split at ed) <;> omega)
              have hm2 := hm t0
              have t3 := T.2.2.1
              rw [if_pos t0] at hnL9
              have tr := tld_r (σ := σ) (tk L.1.1)
              have tB := T.2.2.2.1 L.1.1
              refine z_aload_n dX6_readsFace_92 rfl ?_
              refine z_getR fX6_13 dX6_readsFace_93 (by decide) rfl rfl ?_
              refine z_aload_n dX6_readsFace_96 rfl ?_
              refine z_getI fX6_143 dX6_readsFace_97 (by decide) rfl rfl (fun r97 => ?_)
              rw [M6.2.1]
              refine z_callS_eI (M := mX6_readsFace) [_, _] tX6_told kX6_201 dX6_readsFace_100 ⟨by decide, by decide⟩ rfl (Nat.le_of_ble_eq_true rfl) rfl (c_X6_told isB49 W R6 tB) ?_
              refine z_istore_n dX6_readsFace_103 (by decide) rfl ?_
              refine z_aload_n dX6_readsFace_104 rfl ?_
              refine z_getR fX6_13 dX6_readsFace_105 (by decide) rfl rfl ?_
              refine z_iload_n dX6_readsFace_108 rfl ?_
              refine z_iload_n dX6_readsFace_109 rfl ?_
              refine z_callS_eI (M := mX6_readsFace) [_, _, _] tX6_isNext kX6_204 dX6_readsFace_110 ⟨by decide, by decide⟩ rfl (Nat.le_of_ble_eq_true rfl) rfl (c_X6_isNext isB49 W R6 wl) ?_
              refine z_if_ne 124 dX6_readsFace_113 (by decide) (bi_r _) (fun c113 => ?_) (fun c113 => ?_)
              · have c113 := bi_ne.mp c113
                refine z_aload_n dX6_readsFace_124 rfl ?_
                refine z_getR fX6_13 dX6_readsFace_125 (by decide) rfl rfl ?_
                refine z_iload_n dX6_readsFace_128 rfl ?_
                refine z_iload_n dX6_readsFace_129 rfl ?_
                refine z_callS_V (M := mX6_readsFace) [_, _, _] tX6_spells kX6_208 dX6_readsFace_130 ⟨by decide, by decide⟩ rfl (Nat.le_of_ble_eq_true rfl) rfl (c_X6_spells isB49 W R6 wl (by omega) c113.1) (fun h130 q130 => ?_)
                rw [q130]
                refine z_aload_n dX6_readsFace_133 rfl ?_
                refine z_callV_V (M := mX6_readsFace) [] tX6_goesOn kX6_178 dX6_readsFace_134 ⟨by decide, rfl, _, _, rfl⟩ ⟨by decide, by decide⟩ rfl (Nat.le_of_ble_eq_true rfl) rfl (c_X6_goesOn (s := L.1) (TP_of (F6.tp T) (by rw [setc_ne _ _ (by decide)]) (setc_ne _ _ (by decide))) (la_set L6) (fun _ => by have := ed; unfold edg at this; split at this <;> (try split at this) <;> omega)) (fun h134 q134 => ?_)
                refine z_goto 77 dX6_readsFace_137 (by decide) ?_
                have hgo := pLets_go (σ := σ) (tk := tk) (L := L) ⟨t0, ed⟩ (m - 1)
                rw [show m - 1 + 1 = m by omega, pLet_t c113] at hgo
                rw [show goS L.1 = (L.1.1 + 1, 0) from if_neg (fun q => q t0)] at q134
                have E8 := q134.ne (k := 49) (by decide)
                rw [setc_at] at E8
                have wl8 := WL_push wl w2 c113
                have h4 := c113.1
                refine z_forget 3 ?_
                exact ih77 h134 (L.1.1 + 1, 0) _ (m - 1) (F6.tr ((FM.set _ _).tr q134.fm)) q134.la (by rw [E8]; exact rm_low W R6 (fun j hj => by rw [upn_ne (by omega), upn_ne (by omega)])) (by rw [E8, upn_ne (by omega), upn_ne (by omega)]; exact hw) (hL.trans hgo) (fun _ => by show n - (L.1.1 + 1) ≤ m - 1; omega) (Or.inl ⟨rfl, fun q => absurd q (Nat.succ_ne_zero _), by rw [E8]; exact wl8⟩) (by rw [if_pos rfl]; show 91 - (L.1.1 + 1) < nL9; omega)
              · have c113 := bi_eq.mp c113
                refine z_aload_n dX6_readsFace_116 rfl ?_
                refine z_iconst dX6_readsFace_117 ?_
                refine z_callV_V (M := mX6_readsFace) [_] tX6_bad kX6_174 dX6_readsFace_118 ⟨by decide, rfl, _, _, rfl⟩ ⟨by decide, by decide⟩ rfl (Nat.le_of_ble_eq_true rfl) rfl (c_X6_bad L6 (c := 2) (by decide)) (fun h118 q118 => ?_)
                refine z_goto 137 dX6_readsFace_121 (by decide) ?_
                refine z_goto 77 dX6_readsFace_137 (by decide) ?_
                have hgo := pLets_go (σ := σ) (tk := tk) (L := L) ⟨t0, ed⟩ (m - 1)
                rw [show m - 1 + 1 = m by omega, pLet_f c113] at hgo
                rw [show bdS L.1 2 = (L.1.1, 2) from if_neg (fun q => q t0)] at q118
                have E8 := q118.ne (k := 49) (by decide)
                refine z_forget 3 ?_
                exact ih77 h118 (L.1.1, 2) ((L.1.1, 2), L.2) (m - 1) (F6.tr q118.fm) q118.la (by rw [E8]; exact R6) (by rw [E8]; exact hw) (hL.trans hgo) (fun q => absurd q (show ¬ (2 : Nat) = 0 by decide)) (Or.inl ⟨rfl, fun _ q => absurd q (show ¬ (2 : Nat) = 0 by decide), by rw [E8]; exact wl⟩) (by rw [if_neg (show ¬ (2 : Nat) = 0 by decide)]; omega)
      refine z_aload_n dX6_readsFace_64 rfl ?_
      refine z_getI fX6_162 dX6_readsFace_65 (by decide) rfl rfl (fun r65 => ?_)
      refine z_iconst dX6_readsFace_68 ?_
      refine z_icmp_eq 77 dX6_readsFace_69 (by decide) (by omega) (by omega) (fun c69 => ?_) (fun c69 => ?_)
      · have ed := kd_1.mp (M64.2.2.1.symm.trans c69)
        exact K77 _ _ w.2 (w.2, 0, (fun _ => 0), (fun _ => false)) 90 F64 L64 (by rw [E64]; exact R64) (by rw [E64]; exact hw64) rfl (fun _ => by have := T.2.2.1; show n - w.2.1 ≤ 90; omega) (Or.inl ⟨rfl, fun _ _ => ed, by rw [E64]; exact wl64⟩) (Nat.lt_succ_self _)
      · refine z_aload_n dX6_readsFace_72 rfl ?_
        refine z_iconst dX6_readsFace_73 ?_
        refine z_callV_V (M := mX6_readsFace) [_] tX6_bad kX6_174 dX6_readsFace_74 ⟨by decide, rfl, _, _, rfl⟩ ⟨by decide, by decide⟩ rfl (Nat.le_of_ble_eq_true rfl) rfl (c_X6_bad L64 (c := 1) (by decide)) (fun h74 q74 => ?_)
        have ed : ¬ 0 ≤ edg (tk w.2.1) := fun q => c69 (by rw [M64.2.2.1]; exact kd_1.mpr q)
        have e8 : bdS w.2 1 = (w.2.1, 1) := if_neg (fun q => q w0)
        rw [e8] at q74
        have E8 : h74 49 = f7 := (q74.ne (by decide)).trans E64
        exact K77 _ h74 (w.2.1, 1) (w.2, 0, (fun _ => 0), (fun _ => false)) 90 (F64.tr q74.fm) q74.la (by rw [E8]; exact R64) (by rw [E8]; exact hw64) rfl (fun _ => by have := T.2.2.1; show n - w.2.1 ≤ 90; omega) (Or.inr ⟨rfl, w0, rfl, by show edg (tk w.2.1) < 0; omega⟩) (Nat.lt_succ_self _)
    · exact z_return dX6_readsFace_35 rfl (hQ _ _ ⟨rfl, (by
  have e9 : pFace tk (s, σ) = (w.2, σ) := by rw [k2, pF1_flt (by rw [← es1, ← ew]; omega), ← es1, ← ew]
  rw [e9]
  exact ⟨P2.fm, P2.la, fun r => absurd r (show ¬ w.2.2 = 0 by omega)⟩)⟩)
  refine z_iload_n dX6_readsFace_7 rfl ?_
  refine z_iconst dX6_readsFace_8 ?_
  refine z_icmp_ne 17 dX6_readsFace_9 (by decide) (by omega) (by omega) (fun c9 => ?_) (fun c9 => ?_)
  · exact K17 h s (Pt.refl L) (fun _ => ⟨by omega, h1⟩) (pF1_0 (by omega))
  · refine z_aload_n dX6_readsFace_12 rfl ?_
    refine z_iconst dX6_readsFace_13 ?_
    refine z_callV_V (M := mX6_readsFace) [_] tX6_bad kX6_174 dX6_readsFace_14 ⟨by decide, rfl, _, _, rfl⟩ ⟨by decide, by decide⟩ rfl (Nat.le_of_ble_eq_true rfl) rfl (c_X6_bad L (c := 3) (by decide)) (fun h14 q14 => ?_)
    exact K17 _ _ q14 (fun q => (bdS_0 (by decide) q).elim) (pF1_4 (by omega) h0)
set_option maxRecDepth 100000 in
set_option maxHeartbeats 4000000 in
theorem c_X6_isWord {g : GG} {h : HH} {tk : Nat → Int} {n : Nat} (T : TP h tk n) {σ : SG} (W : WB σ) (R : RM (h 49) σ) {F : Nat} (h4 : F < 4) : CnI mX6_isWord g [vr 47, vi (F : Int)] h (fun z h' => ∃ f', h' = setc h 49 f' ∧ WFr F (h 49) f' ∧ z = bi (pWord σ tk n 0 (fun _ => 0) (fun _ => false) 0 ≠ none) ∧ ∀ m le sg, pWord σ tk n 0 (fun _ => 0) (fun _ => false) 0 = some (m, le, sg) → WL f' σ F m le sg) := by
  refine cn_q (lv := [vr 47, vi (F : Int), vx, vx, vx]) tX6_isWord.1 rfl rfl (fun hR Q hQ => ?_)
  have w1 := W.1
  have w2 := W.2.1
  have w3 := W.2.2.1
  have t2 := T.2.1
  have t3 := T.2.2.1
  refine z_aload_n dX6_isWord_0 rfl ?_
  refine z_getR fX6_13 dX6_isWord_1 (by decide) rfl rfl ?_
  refine z_bipush dX6_isWord_4 (by decide) ?_
  refine z_bipush dX6_isWord_6 (by decide) ?_
  refine z_iload_n dX6_isWord_8 rfl ?_
  refine z_imul dX6_isWord_9 ?_
  refine z_iadd dX6_isWord_10 ?_
  refine z_iconst dX6_isWord_11 ?_
  refine z_iadd dX6_isWord_12 ?_
  refine z_iconst dX6_isWord_13 ?_
  refine z_iastore dX6_isWord_14 (by decide) rfl (by omega) (by omega) (by first | decide | omega) (by omega) ?_
  rw [up_n (i := 21 + 6 * F + 1) (by omega)]
  have wf0 : WFr F (h 49) (upn (h 49) (21 + 6 * F + 1) 0) := fun j hj => upn_ne (by omega)
  have wl0 : WL (upn (h 49) (21 + 6 * F + 1) 0) σ F 0 (fun _ => 0) (fun _ => false) := ⟨h4, by omega, upn_eq rfl, fun k hk => absurd hk (Nat.not_lt_zero _)⟩
  refine z_aload_n dX6_isWord_15 rfl ?_
  refine z_getI fX6_130 dX6_isWord_16 (by decide) rfl rfl (fun r16 => ?_)
  rw [show (setc h 49 (upn (h 49) (21 + 6 * F + 1) 0)) 47 7 = n from (by rw [setc_ne _ _ (show (47 : Nat) ≠ 49 by decide)]; exact T.2.1)]
  refine z_i2l dX6_isWord_19 (by omega) ?_
  refine z_lconst (z := 1) dX6_isWord_20 rfl ?_
  refine z_ldc2 (4) dX6_isWord_21 qX6_255 rfl ?_
  refine z_callS_eI (M := mX6_isWord) [_, _, _] tX6_in kX6_150 dX6_isWord_24 ⟨by decide, by decide⟩ rfl (Nat.le_of_ble_eq_true rfl) rfl (c_X6_in (by omega) (by omega) (by omega)) ?_
  refine z_istore_n dX6_isWord_27 (by decide) rfl ?_
  have K88 : ∀ (f1 : Nat → Int) (i : Nat) (o : Int) (hz : WFr F (h 49) f1) (hW : (o = 0 ∧ pWord σ tk n 0 (fun _ => 0) (fun _ => false) 0 = none) ∨ (o = 1 ∧ ∃ le sg, pWord σ tk n 0 (fun _ => 0) (fun _ => false) 0 = pWord σ tk 0 i le sg i ∧ WL f1 σ F i le sg)), Z mX6_isWord g 88 [vr 47, vi (F : Int), vi o, vi (i : Int), vx] [] (setc h 49 f1) Q := by
    intro f1 i o hz hW
    have ho : o = 0 ∨ o = 1 := hW.elim (fun q => Or.inl q.1) (fun q => Or.inr q.1)
    refine z_iload_n dX6_isWord_88 rfl ?_
    refine z_if_eq 107 dX6_isWord_89 (by decide) (by omega) (fun c89 => ?_) (fun c89 => ?_)
    · refine z_iconst dX6_isWord_107 ?_
      exact z_zreturn dX6_isWord_108 rfl (by first | exact Or.inl rfl | exact Or.inr rfl) (hQ _ _ ⟨_, rfl, ⟨f1, rfl, hz, by rw [show pWord σ tk n 0 (fun _ => 0) (fun _ => false) 0 = none from hW.elim (fun q => q.2) (fun q => by have := q.1; omega)]; exact bi_f (fun q => q rfl), fun m le sg q => by rw [show pWord σ tk n 0 (fun _ => 0) (fun _ => false) 0 = none from hW.elim (fun q => q.2) (fun q => by have := q.1; omega)] at q; cases q⟩⟩)
    · obtain ⟨o1, le, sg, hP, wl⟩ := hW.resolve_left (fun q => c89 q.1)
      have E49 : (setc h 49 f1) 49 = f1 := setc_at _ _ _
      refine z_aload_n dX6_isWord_92 rfl ?_
      refine z_getR fX6_13 dX6_isWord_93 (by decide) rfl rfl ?_
      refine z_iload_n dX6_isWord_96 rfl ?_
      refine z_callS_eI (M := mX6_isWord) [_, _] tX6_isClosed kX6_212 dX6_isWord_97 ⟨by decide, by decide⟩ rfl (Nat.le_of_ble_eq_true rfl) rfl (c_X6_isClosed isB49 (σ := setW σ F i le sg) (WB_setW W wl.2.1 le sg) (by rw [E49]; exact rm_setW W R hz wl) (by rw [E49]; exact wl)) ?_
      refine z_if_eq 107 dX6_isWord_100 (by decide) (bi_r _) (fun c100 => ?_) (fun c100 => ?_)
      · have c100 := bi_eq.mp c100
        refine z_iconst dX6_isWord_107 ?_
        exact z_zreturn dX6_isWord_108 rfl (by first | exact Or.inl rfl | exact Or.inr rfl) (hQ _ _ ⟨_, rfl, ⟨f1, rfl, hz, by rw [hP, pWord_0f (σ := σ) c100]; exact bi_f (fun q => q rfl), fun m le sg q => by rw [hP, pWord_0f (σ := σ) c100] at q; cases q⟩⟩)
      · have c100 := bi_ne.mp c100
        refine z_iconst dX6_isWord_103 ?_
        refine z_goto 108 dX6_isWord_104 (by decide) ?_
        exact z_zreturn dX6_isWord_108 rfl (by first | exact Or.inl rfl | exact Or.inr rfl) (hQ _ _ ⟨_, rfl, ⟨f1, rfl, hz, by rw [hP, pWord_0t (σ := σ) c100]; exact bi_t (fun q => by cases q), fun m le sg q => by rw [hP, pWord_0t (σ := σ) c100] at q; cases q; exact wl⟩⟩)
  refine z_iconst dX6_isWord_28 ?_
  refine z_istore_n dX6_isWord_29 (by decide) rfl ?_
  have loop30 : ∀ (nL9 : Nat) (i : Nat) (f1 : Nat → Int) (le : Nat → Nat) (sg : Nat → Bool) (o : Int), (i ≤ n) → (WFr F (h 49) f1) → ((o = 1 ∧ n ≤ 4 ∧ 0 < n ∧ pWord σ tk n 0 (fun _ => 0) (fun _ => false) 0 = pWord σ tk (n - i) i le sg i ∧ WL f1 σ F i le sg) ∨ (o = 0 ∧ pWord σ tk n 0 (fun _ => 0) (fun _ => false) 0 = none)) → n - i < nL9 → Z mX6_isWord g 30 [vr 47, vi (F : Int), vi o, vi (i : Int), vx] [] (setc h 49 f1) Q := by
    intro nL9
    induction nL9 with
    | zero => intro i f1 le sg o hi hz hW hnL9; exact absurd hnL9 (Nat.not_lt_zero _)
    | succ nL9 ih30 =>
      intro i f1 le sg o hi hz hW hnL9
      have oR : R32 o := by rcases hW with ⟨rfl, -⟩ | ⟨rfl, -⟩ <;> decide
      refine z_iload_n dX6_isWord_30 rfl ?_
      refine z_aload_n dX6_isWord_31 rfl ?_
      refine z_getI fX6_130 dX6_isWord_32 (by decide) rfl rfl (fun r32 => ?_)
      rw [show (setc h 49 f1) 47 7 = n from (by rw [setc_ne _ _ (show (47 : Nat) ≠ 49 by decide)]; exact T.2.1)]
      refine z_icmp_ge 88 dX6_isWord_35 (by decide) (by omega) (by omega) (fun c35 => ?_) (fun c35 => ?_)
      · refine K88 f1 i o hz ?_
        rcases hW with ⟨o1, n4, n0, hP, wl⟩ | q
        · exact Or.inr ⟨o1, le, sg, by rw [hP, show n - i = 0 by omega], wl⟩
        · exact Or.inl q
      · refine z_iload_n dX6_isWord_38 rfl ?_
        refine z_if_eq 88 dX6_isWord_39 (by decide) (by omega) (fun c39 => ?_) (fun c39 => ?_)
        · exact K88 f1 i o hz (Or.inl ((hW.resolve_left (fun q => by omega))))
        · obtain ⟨o1, n4, n0, hP, wl⟩ := hW.resolve_right (fun q => c39 q.1)
          have E49 : (setc h 49 f1) 49 = f1 := setc_at _ _ _
          have ti := T.2.2.2.1 i
          have e51 : (setc h 49 f1) 53 ((i : Nat) : Int).toNat = tk i := by
            rw [setc_ne _ _ (by decide), ← T.1]; unfold mtk; rw [if_pos (by omega)]; rfl
          have tr := tld_r (σ := setW σ F i le sg) (tk i)
          refine z_aload_n dX6_isWord_42 rfl ?_
          refine z_getR fX6_13 dX6_isWord_43 (by decide) rfl rfl ?_
          refine z_aload_n dX6_isWord_46 rfl ?_
          refine z_getR fX6_26 dX6_isWord_47 (by decide) rfl rfl ?_
          refine z_iload_n dX6_isWord_50 rfl ?_
          refine z_iaload dX6_isWord_51 (by decide) rfl (by omega) (by omega) (by first | decide | omega) (fun r51 => ?_)
          rw [e51] at r51 ⊢
          refine z_callS_eI (M := mX6_isWord) [_, _] tX6_told kX6_201 dX6_isWord_52 ⟨by decide, by decide⟩ rfl (Nat.le_of_ble_eq_true rfl) rfl (c_X6_told isB49 (σ := setW σ F i le sg) (WB_setW W wl.2.1 le sg) (by rw [E49]; exact rm_setW W R hz wl) ti) ?_
          refine z_istore dX6_isWord_55 (by decide) rfl ?_
          refine z_aload_n dX6_isWord_57 rfl ?_
          refine z_getR fX6_13 dX6_isWord_58 (by decide) rfl rfl ?_
          refine z_iload_n dX6_isWord_61 rfl ?_
          refine z_iload dX6_isWord_62 rfl ?_
          refine z_callS_eI (M := mX6_isWord) [_, _, _] tX6_isNext kX6_204 dX6_isWord_64 ⟨by decide, by decide⟩ rfl (Nat.le_of_ble_eq_true rfl) rfl (c_X6_isNext isB49 (σ := setW σ F i le sg) (WB_setW W wl.2.1 le sg) (by rw [E49]; exact rm_setW W R hz wl) (by rw [E49]; exact wl)) ?_
          refine z_istore_n dX6_isWord_67 (by decide) rfl ?_
          refine z_iload_n dX6_isWord_68 rfl ?_
          refine z_if_eq 82 dX6_isWord_69 (by decide) (bi_r _) (fun c69 => ?_) (fun c69 => ?_)
          · have c69 : ¬ apOK σ i le sg (tk i) := bi_eq.mp c69
            refine z_iinc dX6_isWord_82 rfl (by decide) rfl ?_
            refine z_goto 30 dX6_isWord_85 (by decide) ?_
            refine z_forget 4 ?_
            exact ih30 (i + 1) f1 le sg _ (by omega) hz (Or.inr ⟨(bi_f (p := apOK σ i le sg (tk i)) c69).symm, by rw [hP, show n - i = (n - i - 1) + 1 by omega, pWord_f c69]⟩) (by omega)
          · have c69 : apOK σ i le sg (tk i) := bi_ne.mp c69
            refine z_aload_n dX6_isWord_72 rfl ?_
            refine z_getR fX6_13 dX6_isWord_73 (by decide) rfl rfl ?_
            refine z_iload_n dX6_isWord_76 rfl ?_
            refine z_iload dX6_isWord_77 rfl ?_
            refine z_callS_V (M := mX6_isWord) [_, _, _] tX6_spells kX6_208 dX6_isWord_79 ⟨by decide, by decide⟩ rfl (Nat.le_of_ble_eq_true rfl) rfl (c_X6_spells isB49 (σ := setW σ F i le sg) (WB_setW W wl.2.1 le sg) (by rw [E49]; exact rm_setW W R hz wl) (by rw [E49]; exact wl) (by omega) c69.1) (fun h79 q79 => ?_)
            rw [q79, setc_setc, E49]
            refine z_iinc dX6_isWord_82 rfl (by decide) rfl ?_
            refine z_goto 30 dX6_isWord_85 (by decide) ?_
            have h41 := c69.1
            have wp := hz.push (n := i) (by omega) (tld σ (tk i)) ((i : Int) + 1)
            refine z_forget 4 ?_
            exact ih30 (i + 1) _ _ _ _ (by omega) wp (Or.inl ⟨(bi_t (p := apOK σ i le sg (tk i)) c69).symm, n4, n0, by rw [hP, show n - i = (n - (i + 1)) + 1 by omega, pWord_t c69], WL_push wl w2 c69⟩) (by omega)
  by_cases q : 1 ≤ n ∧ n ≤ 4
  · exact loop30 _ 0 _ _ _ _ (by omega) wf0 (Or.inl ⟨(bi_t (by omega)).symm, q.2, q.1, rfl, wl0⟩) (Nat.lt_succ_self _)
  · refine loop30 _ 0 _ (fun _ => 0) (fun _ => false) _ (by omega) wf0 (Or.inr ⟨(bi_f (by omega)).symm, ?_⟩) (Nat.lt_succ_self _)
    rcases (show n = 0 ∨ 4 < n by omega) with r | r
    · subst r; exact pWord_0f (fun x => by have := x.1; omega)
    · exact pWord_long n 0 _ _ _ (by omega) (by omega)

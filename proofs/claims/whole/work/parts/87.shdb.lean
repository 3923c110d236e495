set_option maxRecDepth 100000 in
set_option maxHeartbeats 4000000 in
theorem c_X2_lowerShadow {g : GG} {h : HH} {E : Nat} (hE : h 18 2 = (E : Int)) (hE6 : E ≤ 6) {d : Int} (hd : h 18 9 = d) (d0 : 0 < d ∧ d < 9223372036854775808) (hY : ∀ e, e < E → (h 34 e).natAbs < 2 ^ 63) : CnV mX2_lowerShadow g [vr 18] h (fun h' => ∃ g : Nat, 0 < g ∧ (g : Int) ∣ d ∧ (∀ e, e < E → (g : Int) ∣ h 34 e) ∧ h' = up (setc h 34 (dvf (h 34) g E)) 18 9 (d.tdiv g)) := by
  refine cn_q (lv := [vr 18, vx, vx, vx]) tX2_lowerShadow.1 rfl rfl (fun hR Q hQ => ?_)
  obtain ⟨b, hb⟩ : ∃ b : Nat, d = b := ⟨d.toNat, by omega⟩
  subst hb
  refine z_aload_n dX2_lowerShadow_0 rfl ?_
  refine z_getJ fX2_43 dX2_lowerShadow_1 (by decide) rfl rfl (fun r1 => ?_)
  rw [hd]
  refine z_lstore_n dX2_lowerShadow_4 (by decide) rfl ?_
  refine z_iconst dX2_lowerShadow_5 ?_
  refine z_istore_n dX2_lowerShadow_6 (by decide) rfl ?_
  have loop7 : ∀ (nL9 : Nat) (i : Nat) (a : Nat), (i ≤ E) → (0 < a ∧ a < 2 ^ 63) → ((a : Int) ∣ (b : Int)) → (∀ e, e < i → (a : Int) ∣ h 34 e) → E - i < nL9 → Z mX2_lowerShadow g 7 [vr 18, vl (a : Int), vx, vi (i : Int)] [] h Q := by
    intro nL9
    induction nL9 with
    | zero => intro i a hi a0 ad ay hnL9; exact absurd hnL9 (Nat.not_lt_zero _)
    | succ nL9 ih7 =>
      intro i a hi a0 ad ay hnL9
      refine z_iload_n dX2_lowerShadow_7 rfl ?_
      refine z_aload_n dX2_lowerShadow_8 rfl ?_
      refine z_getI fX2_19 dX2_lowerShadow_9 (by decide) rfl rfl (fun r9 => ?_)
      rw [hE]
      refine z_icmp_ge 32 dX2_lowerShadow_12 (by decide) (by omega) (by omega) (fun c12 => ?_) (fun c12 => ?_)
      · refine z_lload_n dX2_lowerShadow_32 rfl ?_
        refine z_lconst (z := 0) dX2_lowerShadow_33 rfl ?_
        refine z_lcmp dX2_lowerShadow_34 (by omega) (by decide) ?_
        refine z_if_ne 39 dX2_lowerShadow_35 (by decide) (icmp_r _ _) (fun c35 => ?_) (fun c35 => ?_)
        · have c35 := icmp_ne.mp c35
          refine z_iconst dX2_lowerShadow_39 ?_
          refine z_istore_n dX2_lowerShadow_40 (by decide) rfl ?_
          have ay9 : ∀ e, e < E → (a : Int) ∣ h 34 e := fun e he => ay e (by omega)
          have loop41 : ∀ (nL9 : Nat) (i9 : Nat), (i9 ≤ E) → E - i9 < nL9 → Z mX2_lowerShadow g 41 [vr 18, vl (a : Int), vx, vi (i9 : Int)] [] (setc h 34 (dvf (h 34) a i9)) Q := by
            intro nL9
            induction nL9 with
            | zero => intro i9 hi9 hnL9; exact absurd hnL9 (Nat.not_lt_zero _)
            | succ nL9 ih41 =>
              intro i9 hi9 hnL9
              refine z_iload_n dX2_lowerShadow_41 rfl ?_
              refine z_aload_n dX2_lowerShadow_42 rfl ?_
              refine z_getI fX2_19 dX2_lowerShadow_43 (by decide) rfl rfl (fun r43 => ?_)
              rw [show (setc h 34 (dvf (h 34) a i9)) 18 2 = E from by rw [setc_ne _ _ (by decide)]; exact hE]
              refine z_icmp_ge 65 dX2_lowerShadow_46 (by decide) (by omega) (by omega) (fun c46 => ?_) (fun c46 => ?_)
              · refine z_aload_n dX2_lowerShadow_65 rfl ?_
                refine z_dup dX2_lowerShadow_66 rfl ?_
                refine z_getJ fX2_43 dX2_lowerShadow_67 (by decide) rfl rfl (fun r67 => ?_)
                rw [show (setc h 34 (dvf (h 34) a i9)) 18 9 = b from by rw [setc_ne _ _ (by decide)]; exact hd]
                have y8 := tdiv_64 (a := (b : Int)) (g := a) (by omega)
                refine z_lload_n dX2_lowerShadow_70 rfl ?_
                refine z_ldiv dX2_lowerShadow_71 (by omega) (by omega) (by omega) ?_
                refine z_putJ pX2_43 dX2_lowerShadow_72 (by decide) rfl rfl (by omega) ?_
                exact z_return dX2_lowerShadow_75 rfl (hQ _ _ ⟨rfl, ⟨a, a0.1, ad, ay9, by rw [show E = i9 from by omega]⟩⟩)
              · refine z_aload_n dX2_lowerShadow_49 rfl ?_
                refine z_getR fX2_40 dX2_lowerShadow_50 (by decide) rfl rfl ?_
                refine z_iload_n dX2_lowerShadow_53 rfl ?_
                refine z_dup2 dX2_lowerShadow_54 rfl rfl ?_
                refine z_laload dX2_lowerShadow_55 (by decide) rfl (by omega) (by omega) (by first | decide | omega) (fun r55 => ?_)
                rw [show setc h 34 (dvf (h 34) a i9) 34 (i9 : Int).toNat = h 34 i9 from by rw [setc_at]; exact dvf_g _ _ (Nat.le_refl i9)]
                have y9 := hY i9 (by omega)
                have y8 := tdiv_64 (g := a) y9
                refine z_lload_n dX2_lowerShadow_56 rfl ?_
                refine z_ldiv dX2_lowerShadow_57 (by omega) (by omega) (by omega) ?_
                refine z_lastore dX2_lowerShadow_58 (by decide) rfl (by omega) (by omega) (by first | decide | omega) (by omega) ?_
                rw [up_s (i := i9) rfl, dvf_s]
                refine z_iinc dX2_lowerShadow_59 rfl (by decide) rfl ?_
                refine z_goto 41 dX2_lowerShadow_62 (by decide) ?_
                exact ih41 (i9 + 1) (by omega) (by omega)
          have x0 := loop41 _ 0 (by omega) (Nat.lt_succ_self _)
          rw [dvf_0, setc_self] at x0
          exact x0
        · have c35 := icmp_eq.mp c35
          omega
      · refine z_lload_n dX2_lowerShadow_15 rfl ?_
        refine z_aload_n dX2_lowerShadow_16 rfl ?_
        refine z_getR fX2_40 dX2_lowerShadow_17 (by decide) rfl rfl ?_
        refine z_iload_n dX2_lowerShadow_20 rfl ?_
        refine z_laload dX2_lowerShadow_21 (by decide) rfl (by omega) (by omega) (by first | decide | omega) (fun r21 => ?_)
        rw [ix (f := h 34) (z := (i : Int)) (i := i) rfl]
        have y9 := hY i (by omega)
        refine z_callN_eL (M := mX2_lowerShadow) [_, _] tX5_gcd (by decide) dX2_lowerShadow_22 ⟨by decide, by decide⟩ rfl (Nat.le_of_ble_eq_true rfl) rfl (c_X5_gcd (by omega) (by omega)) ?_
        refine z_lstore_n dX2_lowerShadow_25 (by decide) rfl ?_
        refine z_iinc dX2_lowerShadow_26 rfl (by decide) rfl ?_
        refine z_goto 7 dX2_lowerShadow_29 (by decide) ?_
        have g1 : ((Int.gcd (a : Int) (h 34 i) : Nat) : Int) ∣ (a : Int) := Int.gcd_dvd_left ..
        have g2 : ((Int.gcd (a : Int) (h 34 i) : Nat) : Int) ∣ h 34 i := Int.gcd_dvd_right ..
        have g3 : 0 < Int.gcd (a : Int) (h 34 i) := Nat.gcd_pos_of_pos_left _ (by omega)
        exact ih7 (i + 1) (Int.gcd (a : Int) (h 34 i)) (by omega) ⟨g3, igcd_lt a0.2 y9⟩ (Int.dvd_trans g1 ad) (fun e he => by
          rcases (show e < i ∨ e = i by omega) with q | q
          · exact Int.dvd_trans g1 (ay e q)
          · rw [q]; exact g2) (by omega)
  exact loop7 _ 0 b (by omega) (by omega) (Int.dvd_refl _) (fun e he => absurd he (Nat.not_lt_zero _)) (Nat.lt_succ_self _)
set_option maxRecDepth 100000 in
set_option maxHeartbeats 4000000 in
theorem c_X2_takeShadowAway {g : GG} {h : HH} {E : Nat} (hE : h 18 2 = (E : Int)) (hE6 : E ≤ 6) {d b : Int} (hd : h 18 9 = d) (hb : h 18 1 = b) (hq : ∀ e, e < E → R64 (h 19 e * d - h 34 e * b)) (hq2 : R64 (b * d)) : CnV mX2_takeShadowAway g [vr 18] h (fun h' => h' = up (setc h 19 (tkf (h 19) (h 34) d b E)) 18 1 (b * d)) := by
  refine cn_q (lv := [vr 18, vx]) tX2_takeShadowAway.1 rfl rfl (fun hR Q hQ => ?_)
  refine z_iconst dX2_takeShadowAway_0 ?_
  refine z_istore_n dX2_takeShadowAway_1 (by decide) rfl ?_
  have loop2 : ∀ (nL9 : Nat) (i : Nat), (i ≤ E) → E - i < nL9 → Z mX2_takeShadowAway g 2 [vr 18, vi (i : Int)] [] (setc h 19 (tkf (h 19) (h 34) d b i)) Q := by
    intro nL9
    induction nL9 with
    | zero => intro i hi hnL9; exact absurd hnL9 (Nat.not_lt_zero _)
    | succ nL9 ih2 =>
      intro i hi hnL9
      refine z_iload_n dX2_takeShadowAway_2 rfl ?_
      refine z_aload_n dX2_takeShadowAway_3 rfl ?_
      refine z_getI fX2_19 dX2_takeShadowAway_4 (by decide) rfl rfl (fun r4 => ?_)
      rw [show (setc h 19 (tkf (h 19) (h 34) d b i)) 18 2 = E from by rw [setc_ne _ _ (by decide)]; exact hE]
      refine z_icmp_ge 45 dX2_takeShadowAway_7 (by decide) (by omega) (by omega) (fun c7 => ?_) (fun c7 => ?_)
      · refine z_aload_n dX2_takeShadowAway_45 rfl ?_
        refine z_dup dX2_takeShadowAway_46 rfl ?_
        refine z_getJ fX2_15 dX2_takeShadowAway_47 (by decide) rfl rfl (fun r47 => ?_)
        refine z_aload_n dX2_takeShadowAway_50 rfl ?_
        refine z_getJ fX2_43 dX2_takeShadowAway_51 (by decide) rfl rfl (fun r51 => ?_)
        rw [show (setc h 19 (tkf (h 19) (h 34) d b i)) 18 9 = d from by rw [setc_ne _ _ (by decide)]; exact hd, show (setc h 19 (tkf (h 19) (h 34) d b i)) 18 1 = b from by rw [setc_ne _ _ (by decide)]; exact hb]
        refine z_lmul dX2_takeShadowAway_54 ?_
        refine z_putJ pX2_15 dX2_takeShadowAway_55 (by decide) rfl rfl hq2 ?_
        exact z_return dX2_takeShadowAway_58 rfl (hQ _ _ ⟨rfl, (by rw [show E = i from by omega])⟩)
      · refine z_aload_n dX2_takeShadowAway_10 rfl ?_
        refine z_getR fX2_9 dX2_takeShadowAway_11 (by decide) rfl rfl ?_
        refine z_iload_n dX2_takeShadowAway_14 rfl ?_
        refine z_aload_n dX2_takeShadowAway_15 rfl ?_
        refine z_getR fX2_9 dX2_takeShadowAway_16 (by decide) rfl rfl ?_
        refine z_iload_n dX2_takeShadowAway_19 rfl ?_
        refine z_laload dX2_takeShadowAway_20 (by decide) rfl (by omega) (by omega) (by first | decide | omega) (fun r20 => ?_)
        refine z_aload_n dX2_takeShadowAway_21 rfl ?_
        refine z_getJ fX2_43 dX2_takeShadowAway_22 (by decide) rfl rfl (fun r22 => ?_)
        refine z_lmul dX2_takeShadowAway_25 ?_
        refine z_aload_n dX2_takeShadowAway_26 rfl ?_
        refine z_getR fX2_40 dX2_takeShadowAway_27 (by decide) rfl rfl ?_
        refine z_iload_n dX2_takeShadowAway_30 rfl ?_
        refine z_laload dX2_takeShadowAway_31 (by decide) rfl (by omega) (by omega) (by first | decide | omega) (fun r31 => ?_)
        refine z_aload_n dX2_takeShadowAway_32 rfl ?_
        refine z_getJ fX2_15 dX2_takeShadowAway_33 (by decide) rfl rfl (fun r33 => ?_)
        refine z_lmul dX2_takeShadowAway_36 ?_
        rw [show setc h 19 (tkf (h 19) (h 34) d b i) 19 (i : Int).toNat = h 19 i from by rw [setc_at]; exact tkf_g _ _ _ _ (Nat.le_refl i), show setc h 19 (tkf (h 19) (h 34) d b i) 34 (i : Int).toNat = h 34 i from by rw [setc_ne _ _ (by decide)]; rfl, show (setc h 19 (tkf (h 19) (h 34) d b i)) 18 9 = d from by rw [setc_ne _ _ (by decide)]; exact hd, show (setc h 19 (tkf (h 19) (h 34) d b i)) 18 1 = b from by rw [setc_ne _ _ (by decide)]; exact hb]
        refine z_lsub dX2_takeShadowAway_37 ?_
        refine z_lastore dX2_takeShadowAway_38 (by decide) rfl (by omega) (by omega) (by first | decide | omega) (hq i (by omega)) ?_
        rw [up_s (i := i) rfl, tkf_s]
        refine z_iinc dX2_takeShadowAway_39 rfl (by decide) rfl ?_
        refine z_goto 2 dX2_takeShadowAway_42 (by decide) ?_
        exact ih2 (i + 1) (by omega) (by omega)
  have x0 := loop2 _ 0 (by omega) (Nat.lt_succ_self _)
  rw [tkf_0, setc_self] at x0
  exact x0
set_option maxRecDepth 100000 in
set_option maxHeartbeats 4000000 in
theorem c_X2_castShadow {g : GG} {h : HH} {E n : Nat} {m : Nat → Int} {v : Nat → Nat → Int} {c : Nat → Int} (D : LD h n E m v c) (hn : n ≤ 5) (hE6 : E ≤ 6) (hm : ∀ e, e < E → 0 < m e) (H : HN n (GM E m n v c)) (X : HX n (GM E m n v c)) (hg : ∀ a s, a < n → s ≤ n → R64 (GM E m n v c a s)) (hd : ∀ S, (dT n (KS S (GM E m n v c))).natAbs < 2 ^ 63) (hv : ∀ r e, r < n → e < E → (v r e).natAbs ≤ 4) : CnV mX2_castShadow g [vr 18] h (fun h' => CST h h' E n m v c) := by
  refine cn_q (lv := [vr 18, vx, vx]) tX2_castShadow.1 rfl rfl (fun hR Q hQ => ?_)
  refine z_aload_n dX2_castShadow_0 rfl ?_
  refine z_callV_V (M := mX2_castShadow) [] tX2_fillSystem kX2_87 dX2_castShadow_1 ⟨by decide, rfl, _, _, rfl⟩ ⟨by decide, by decide⟩ rfl (Nat.le_of_ble_eq_true rfl) rfl (c_X2_fillSystem D hn hE6 hg) (fun h1 q1 => ?_)
  have D1 := D.same hn (fun k hk => q1.1 k (Or.inl hk))
  refine z_aload_n dX2_castShadow_4 rfl ?_
  refine z_callV_V (M := mX2_castShadow) [] tX2_solveSystem kX2_90 dX2_castShadow_5 ⟨by decide, rfl, _, _, rfl⟩ ⟨by decide, by decide⟩ rfl (Nat.le_of_ble_eq_true rfl) rfl (c_X2_solveSystem (G := GM E m n v c) hn D1.2.1 (fun r s hr hs => q1.2.1 r s hr hs) H (fun S k I hk h0 => gi_skip hm hk I h0) (fun S k I hk h0 => gi_step hm hk I h0) hd) (fun h5 q5 => ?_)
  obtain ⟨S, V⟩ := q5
  have e2 : h5 18 2 = E := (V.2.2.2.2 2 (by decide)).trans D1.1
  have e6 : h5 18 6 = n := (V.2.2.2.2 6 (by decide)).trans D1.2.1
  have eX : ∀ r, r < n → h5 (29 + r) n = XS n S (GM E m n v c) r n := fun r hr => V.2.2.1 r n hr (Nat.le_refl n)
  have eV : ∀ r e, r < n → e < E → h5 (23 + r) e = v r e := fun r e hr he => by rw [V.2.2.2.1 (23 + r) (by omega) (by omega)]; exact D1.2.2.2 r e hr he
  refine z_iconst dX2_castShadow_8 ?_
  refine z_istore_n dX2_castShadow_9 (by decide) rfl ?_
  have loop10 : ∀ (nL9 : Nat) (i : Nat), (i ≤ E) → E - i < nL9 → Z mX2_castShadow g 10 [vr 18, vi (i : Int), vx] [] (setc h5 34 (shf (h5 34) (fun e => sI n (fun r => XS n S (GM E m n v c) r n * v r e)) i)) Q := by
    intro nL9
    induction nL9 with
    | zero => intro i hi hnL9; exact absurd hnL9 (Nat.not_lt_zero _)
    | succ nL9 ih10 =>
      intro i hi hnL9
      refine z_iload_n dX2_castShadow_10 rfl ?_
      refine z_aload_n dX2_castShadow_11 rfl ?_
      refine z_getI fX2_19 dX2_castShadow_12 (by decide) rfl rfl (fun r12 => ?_)
      rw [show (setc h5 34 (shf (h5 34) (fun e => sI n (fun r => XS n S (GM E m n v c) r n * v r e)) i)) 18 2 = E from by rw [setc_ne _ _ (by decide)]; exact e2]
      refine z_icmp_ge 76 dX2_castShadow_15 (by decide) (by omega) (by omega) (fun c15 => ?_) (fun c15 => ?_)
      · refine z_aload_n dX2_castShadow_76 rfl ?_
        refine z_callV_V (M := mX2_castShadow) [] tX2_lowerShadow kX2_93 dX2_castShadow_77 ⟨by decide, rfl, _, _, rfl⟩ ⟨by decide, by decide⟩ rfl (Nat.le_of_ble_eq_true rfl) rfl (c_X2_lowerShadow (E := E) (by rw [setc_ne _ _ (by decide)]; exact e2) hE6 (d := dT n (KS S (GM E m n v c))) (by rw [setc_ne _ _ (by decide)]; exact V.2.1) (by have := V.1.2.1; have := hd S; omega) (fun e he => by rw [setc_at]; unfold shf; rw [if_pos (by omega)]; have := sum_52 (n := n) (x := fun r => XS n S (GM E m n v c) r n) (v := fun r => v r e) (fun r hr => X S r hr) (fun r hr => hv r e hr he) hn n (Nat.le_refl n); simp only at this ⊢; omega)) (fun h77 q77 => ?_)
        obtain ⟨a, a1, a2, a3, a4⟩ := q77
        exact z_return dX2_castShadow_80 rfl (hQ _ _ ⟨rfl, (by
  have hiE : i = E := by omega
  refine low_cst hm V (Y := (fun e => sI n (fun r => XS n S (GM E m n v c) r n * v r e))) (fun e he => rfl) a1 a2 (fun e he => ?_) (by rw [a4, up_same]) (fun e he => ?_) ⟨fun k k1 k2 => ?_, fun q hq => ?_⟩
  · have := a3 e he
    rw [setc_at] at this
    unfold shf at this
    rw [if_pos (by omega)] at this
    exact this
  · rw [a4, up_ne _ _ _ (by decide), setc_at]
    unfold dvf
    rw [if_pos he, setc_at]
    unfold shf
    rw [if_pos (by omega)]
  · rw [a4, up_ne _ _ _ k1, setc_ne _ _ (by omega), setc_ne _ _ (by omega), V.2.2.2.1 k k1 (by omega), q1.1 k (by omega)]
  · rw [a4, up_o _ _ hq, setc_ne _ _ (by decide), setc_ne _ _ (by decide), V.2.2.2.2 q hq, q1.1 18 (by decide)])⟩)
      · refine z_aload_n dX2_castShadow_18 rfl ?_
        refine z_getR fX2_40 dX2_castShadow_19 (by decide) rfl rfl ?_
        refine z_iload_n dX2_castShadow_22 rfl ?_
        refine z_lconst (z := 0) dX2_castShadow_23 rfl ?_
        refine z_lastore dX2_castShadow_24 (by decide) rfl (by omega) (by omega) (by first | decide | omega) (by decide) ?_
        rw [up_s (i := i) rfl]
        refine z_iconst dX2_castShadow_25 ?_
        refine z_istore_n dX2_castShadow_26 (by decide) rfl ?_
        have loop27 : ∀ (nL9 : Nat) (r : Nat), (r ≤ n) → n - r < nL9 → Z mX2_castShadow g 27 [vr 18, vi (i : Int), vi (r : Int)] [] (setc h5 34 (upn (shf (h5 34) (fun e => sI n (fun r => XS n S (GM E m n v c) r n * v r e)) i) i (sI r (fun r => XS n S (GM E m n v c) r n * v r i)))) Q := by
          intro nL9
          induction nL9 with
          | zero => intro r hr hnL9; exact absurd hnL9 (Nat.not_lt_zero _)
          | succ nL9 ih27 =>
            intro r hr hnL9
            refine z_iload_n dX2_castShadow_27 rfl ?_
            refine z_aload_n dX2_castShadow_28 rfl ?_
            refine z_getI fX2_34 dX2_castShadow_29 (by decide) rfl rfl (fun r29 => ?_)
            rw [show (setc h5 34 (upn (shf (h5 34) (fun e => sI n (fun r => XS n S (GM E m n v c) r n * v r e)) i) i (sI r (fun r => XS n S (GM E m n v c) r n * v r i)))) 18 6 = n from by rw [setc_ne _ _ (by decide)]; exact e6]
            refine z_icmp_ge 70 dX2_castShadow_32 (by decide) (by omega) (by omega) (fun c32 => ?_) (fun c32 => ?_)
            · refine z_iinc dX2_castShadow_70 rfl (by decide) rfl ?_
              refine z_goto 10 dX2_castShadow_73 (by decide) ?_
              refine z_forget 2 ?_
              have hrn : r = n := by omega
              subst hrn
              have x0 := ih10 (i + 1) (by omega) (by omega)
              rw [← shf_s (h5 34) _ i rfl] at x0
              exact x0
            · refine z_aload_n dX2_castShadow_35 rfl ?_
              refine z_getR fX2_40 dX2_castShadow_36 (by decide) rfl rfl ?_
              refine z_iload_n dX2_castShadow_39 rfl ?_
              refine z_dup2 dX2_castShadow_40 rfl rfl ?_
              refine z_laload dX2_castShadow_41 (by decide) rfl (by omega) (by omega) (by first | decide | omega) (fun r41 => ?_)
              refine z_aload_n dX2_castShadow_42 rfl ?_
              refine z_getR fX2_37 dX2_castShadow_43 (by decide) rfl rfl ?_
              refine z_iload_n dX2_castShadow_46 rfl ?_
              refine z_aaloadJ dX2_castShadow_47 (by decide) rfl (by omega) (by omega) (by decide) ?_
              have hr5 : r < 5 := by omega
              rw [show 29 + ((r : Nat) : Int).toNat = 29 + r from rfl]
              refine z_aload_n dX2_castShadow_48 rfl ?_
              refine z_getI fX2_34 dX2_castShadow_49 (by decide) rfl rfl (fun r49 => ?_)
              rw [show (setc h5 34 (upn (shf (h5 34) (fun e => sI n (fun r => XS n S (GM E m n v c) r n * v r e)) i) i (sI r (fun r => XS n S (GM E m n v c) r n * v r i)))) 18 6 = n from by rw [setc_ne _ _ (by decide)]; exact e6]
              refine z_laload dX2_castShadow_52 (by omega) (shpY hr5) (by omega) (by omega) (by first | decide | omega) (fun r52 => ?_)
              refine z_aload_n dX2_castShadow_53 rfl ?_
              refine z_getR fX2_31 dX2_castShadow_54 (by decide) rfl rfl ?_
              refine z_iload_n dX2_castShadow_57 rfl ?_
              refine z_aaloadJ dX2_castShadow_58 (by decide) rfl (by omega) (by omega) (by decide) ?_
              rw [show 23 + ((r : Nat) : Int).toNat = 23 + r from rfl]
              refine z_iload_n dX2_castShadow_59 rfl ?_
              refine z_laload dX2_castShadow_60 (by omega) (shpR hr5) (by omega) (by omega) (by first | decide | omega) (fun r60 => ?_)
              rw [show (setc h5 34 (upn (shf (h5 34) (fun e => sI n (fun r => XS n S (GM E m n v c) r n * v r e)) i) i (sI r (fun r => XS n S (GM E m n v c) r n * v r i)))) 34 (i : Int).toNat = sI r (fun r => XS n S (GM E m n v c) r n * v r i) from by rw [setc_at]; exact upn_eq rfl, show (setc h5 34 (upn (shf (h5 34) (fun e => sI n (fun r => XS n S (GM E m n v c) r n * v r e)) i) i (sI r (fun r => XS n S (GM E m n v c) r n * v r i)))) (29 + r) (n : Int).toNat = XS n S (GM E m n v c) r n from by rw [setc_ne _ _ (by omega)]; exact eX r (by omega), show (setc h5 34 (upn (shf (h5 34) (fun e => sI n (fun r => XS n S (GM E m n v c) r n * v r e)) i) i (sI r (fun r => XS n S (GM E m n v c) r n * v r i)))) (23 + r) (i : Int).toNat = v r i from by rw [setc_ne _ _ (by omega)]; exact eV r i (by omega) (by omega)]
              have s9 := sum_52 (n := n) (x := fun r => XS n S (GM E m n v c) r n) (v := fun r => v r i) (fun r hr => X S r hr) (fun r hr => hv r i hr (by omega)) hn (r + 1) (by omega)
              rw [sI_s] at s9
              refine z_lmul dX2_castShadow_61 ?_
              refine z_ladd dX2_castShadow_62 ?_
              refine z_lastore dX2_castShadow_63 (by decide) rfl (by omega) (by omega) (by first | decide | omega) (by omega) ?_
              rw [up_s (i := i) rfl, upn_upn]
              refine z_iinc dX2_castShadow_64 rfl (by decide) rfl ?_
              refine z_goto 27 dX2_castShadow_67 (by decide) ?_
              exact ih27 (r + 1) (by omega) (by omega)
        exact loop27 _ 0 (by omega) (Nat.lt_succ_self _)
  have x0 := loop10 _ 0 (by omega) (Nat.lt_succ_self _)
  rw [shf_0, setc_self] at x0
  exact x0

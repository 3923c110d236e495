set_option maxRecDepth 100000 in
set_option maxHeartbeats 4000000 in
theorem c_X6_putO {g : GG} {h : HH} {σ : SG} (W : WF σ) (R : RM (h 48) σ) {c e v : Int} (hc : R32 c) (he : R32 e) (hv : R32 v) (ho : ¬ (0 ≤ c ∧ c < 3 ∧ 0 ≤ e ∧ e < sE σ ∧ -9 ≤ v ∧ v ≤ 9)) : CeI mX6_put g [vr 47, vi c, vi e, vi v] h kBAD := by
  refine cn_q (lv := [vr 47, vi c, vi e, vi v, vx]) tX6_put.1 rfl rfl (fun hR Q hQ => ?_)
  refine z_aload_n dX6_put_0 rfl ?_
  refine z_iload_n dX6_put_1 rfl ?_
  refine z_callV_eI (M := mX6_put) [_] tX6_isChain kX6_266 dX6_put_2 ⟨by decide, rfl, _, _, rfl⟩ ⟨by decide, by decide⟩ rfl (Nat.le_of_ble_eq_true rfl) rfl (c_X6_isChain W.wb R (by omega)) ?_
  refine z_if_eq 31 dX6_put_5 (by decide) (bi_r _) (fun c5 => ?_) (fun c5 => ?_)
  · have c5 := bi_eq.mp c5
    refine z_ldc (-1000001) dX6_put_31 qX6_218 rfl ?_
    exact z_ireturn dX6_put_33 rfl (hQ _ _ ⟨_, rfl, rfl, rfl⟩)
  · have c5 := bi_ne.mp c5
    refine z_aload_n dX6_put_8 rfl ?_
    refine z_iconst dX6_put_9 ?_
    refine z_iload_n dX6_put_10 rfl ?_
    refine z_callV_eI (M := mX6_put) [_, _] tX6_isCell kX6_247 dX6_put_11 ⟨by decide, rfl, _, _, rfl⟩ ⟨by decide, by decide⟩ rfl (Nat.le_of_ble_eq_true rfl) rfl (c_X6_isCell1 W.wb R (by omega)) ?_
    refine z_if_eq 31 dX6_put_14 (by decide) (bi_r _) (fun c14 => ?_) (fun c14 => ?_)
    · have c14 := bi_eq.mp c14
      refine z_ldc (-1000001) dX6_put_31 qX6_218 rfl ?_
      exact z_ireturn dX6_put_33 rfl (hQ _ _ ⟨_, rfl, rfl, rfl⟩)
    · have c14 := bi_ne.mp c14
      refine z_iload_n dX6_put_17 rfl ?_
      refine z_i2l dX6_put_18 (by omega) ?_
      refine z_ldc2 (-9) dX6_put_19 qX6_269 rfl ?_
      refine z_ldc2 (9) dX6_put_22 qX6_271 rfl ?_
      refine z_callS_eI (M := mX6_put) [_, _, _] tX6_in kX6_150 dX6_put_25 ⟨by decide, by decide⟩ rfl (Nat.le_of_ble_eq_true rfl) rfl (c_X6_in (by omega) (by omega) (by omega)) ?_
      refine z_if_ne 34 dX6_put_28 (by decide) (bi_r _) (fun c28 => ?_) (fun c28 => ?_)
      · have c28 := bi_ne.mp c28
        omega
      · have c28 := bi_eq.mp c28
        refine z_ldc (-1000001) dX6_put_31 qX6_218 rfl ?_
        exact z_ireturn dX6_put_33 rfl (hQ _ _ ⟨_, rfl, rfl, rfl⟩)
set_option maxRecDepth 100000 in
set_option maxHeartbeats 4000000 in
theorem c_X6_put1 {g : GG} {h : HH} {σ : SG} (W : WF σ) (R : RM (h 48) σ) {as : List SG} (P : RPast h as) {c e : Nat} {v : Int} (hc : c < 3) (he : e < sE σ) (hv : -9 ≤ v ∧ v ≤ 9) : CnI mX6_put g [vr 47, vi (c : Int), vi (e : Int), vi v] h (fun z h' => z = sch σ c e ∧ ActM h h' σ as (setCh σ c e v)) := by
  refine cn_q (lv := [vr 47, vi (c : Int), vi (e : Int), vi v, vx]) tX6_put.1 rfl rfl (fun hR Q hQ => ?_)
  have w1 := W.1
  have w2 := W.2.1
  have w3 := W.2.2.1
  have hP := (W.2.2.2.1 e he).1
  refine z_aload_n dX6_put_0 rfl ?_
  refine z_iload_n dX6_put_1 rfl ?_
  refine z_callV_eI (M := mX6_put) [_] tX6_isChain kX6_266 dX6_put_2 ⟨by decide, rfl, _, _, rfl⟩ ⟨by decide, by decide⟩ rfl (Nat.le_of_ble_eq_true rfl) rfl (c_X6_isChain W.wb R (by omega)) ?_
  refine z_if_eq 31 dX6_put_5 (by decide) (bi_r _) (fun c5 => ?_) (fun c5 => ?_)
  · have c5 := bi_eq.mp c5
    omega
  · have c5 := bi_ne.mp c5
    refine z_aload_n dX6_put_8 rfl ?_
    refine z_iconst dX6_put_9 ?_
    refine z_iload_n dX6_put_10 rfl ?_
    refine z_callV_eI (M := mX6_put) [_, _] tX6_isCell kX6_247 dX6_put_11 ⟨by decide, rfl, _, _, rfl⟩ ⟨by decide, by decide⟩ rfl (Nat.le_of_ble_eq_true rfl) rfl (c_X6_isCell1 W.wb R (by omega)) ?_
    refine z_if_eq 31 dX6_put_14 (by decide) (bi_r _) (fun c14 => ?_) (fun c14 => ?_)
    · have c14 := bi_eq.mp c14
      omega
    · have c14 := bi_ne.mp c14
      refine z_iload_n dX6_put_17 rfl ?_
      refine z_i2l dX6_put_18 (by omega) ?_
      refine z_ldc2 (-9) dX6_put_19 qX6_269 rfl ?_
      refine z_ldc2 (9) dX6_put_22 qX6_271 rfl ?_
      refine z_callS_eI (M := mX6_put) [_, _, _] tX6_in kX6_150 dX6_put_25 ⟨by decide, by decide⟩ rfl (Nat.le_of_ble_eq_true rfl) rfl (c_X6_in (by omega) (by omega) (by omega)) ?_
      refine z_if_ne 34 dX6_put_28 (by decide) (bi_r _) (fun c28 => ?_) (fun c28 => ?_)
      · have c28 := bi_ne.mp c28
        refine z_aload_n dX6_put_34 rfl ?_
        refine z_callV_V (M := mX6_put) [] tX6_notes kX6_252 dX6_put_35 ⟨by decide, rfl, _, _, rfl⟩ ⟨by decide, by decide⟩ rfl (Nat.le_of_ble_eq_true rfl) rfl (c_X6_notes W R P) (fun h35 q35 => ?_)
        have e48 : h35 48 = h 48 := q35.2.1 48 (by decide) (by decide)
        have R2 : RM (h35 48) σ := by rw [e48]; exact R
        refine z_aload_n dX6_put_38 rfl ?_
        refine z_getR fX6_7 dX6_put_39 (by decide) rfl rfl ?_
        refine z_bipush dX6_put_42 (by decide) ?_
        refine z_bipush dX6_put_44 (by decide) ?_
        refine z_iload_n dX6_put_46 rfl ?_
        refine z_imul dX6_put_47 ?_
        refine z_iadd dX6_put_48 ?_
        refine z_iload_n dX6_put_49 rfl ?_
        refine z_iadd dX6_put_50 ?_
        refine z_iaload dX6_put_51 (by decide) rfl (by omega) (by omega) (by first | decide | omega) (fun r51 => ?_)
        rw [rm_ch R2 hc he rfl]
        refine z_istore dX6_put_52 (by decide) rfl ?_
        refine z_aload_n dX6_put_54 rfl ?_
        refine z_getR fX6_7 dX6_put_55 (by decide) rfl rfl ?_
        refine z_bipush dX6_put_58 (by decide) ?_
        refine z_bipush dX6_put_60 (by decide) ?_
        refine z_iload_n dX6_put_62 rfl ?_
        refine z_imul dX6_put_63 ?_
        refine z_iadd dX6_put_64 ?_
        refine z_iload_n dX6_put_65 rfl ?_
        refine z_iadd dX6_put_66 ?_
        refine z_iload_n dX6_put_67 rfl ?_
        refine z_iastore dX6_put_68 (by decide) rfl (by omega) (by omega) (by first | decide | omega) (by omega) ?_
        refine z_iload dX6_put_69 rfl ?_
        exact z_ireturn dX6_put_71 rfl (hQ _ _ ⟨_, rfl, ⟨rfl, by rw [up_n (i := 45 + 6 * c + e) (by omega)]; exact actM_of q35 (rm_setCh W.wb R2 v hc he)⟩⟩)
      · have c28 := bi_eq.mp c28
        omega
set_option maxRecDepth 100000 in
set_option maxHeartbeats 4000000 in
theorem c_X6_boundO {g : GG} {h : HH} {σ : SG} (W : WF σ) (R : RM (h 48) σ) {c e v : Int} (hc : R32 c) (he : R32 e) (hv : R32 v) (ho : ¬ (0 ≤ c ∧ c < 3 ∧ 0 ≤ e ∧ e < sF σ ∧ -9 ≤ v ∧ v ≤ 9)) : CeI mX6_bound g [vr 47, vi c, vi e, vi v] h kBAD := by
  refine cn_q (lv := [vr 47, vi c, vi e, vi v, vx]) tX6_bound.1 rfl rfl (fun hR Q hQ => ?_)
  refine z_aload_n dX6_bound_0 rfl ?_
  refine z_iload_n dX6_bound_1 rfl ?_
  refine z_callV_eI (M := mX6_bound) [_] tX6_isChain kX6_266 dX6_bound_2 ⟨by decide, rfl, _, _, rfl⟩ ⟨by decide, by decide⟩ rfl (Nat.le_of_ble_eq_true rfl) rfl (c_X6_isChain W.wb R (by omega)) ?_
  refine z_if_eq 31 dX6_bound_5 (by decide) (bi_r _) (fun c5 => ?_) (fun c5 => ?_)
  · have c5 := bi_eq.mp c5
    refine z_ldc (-1000001) dX6_bound_31 qX6_218 rfl ?_
    exact z_ireturn dX6_bound_33 rfl (hQ _ _ ⟨_, rfl, rfl, rfl⟩)
  · have c5 := bi_ne.mp c5
    refine z_aload_n dX6_bound_8 rfl ?_
    refine z_iconst dX6_bound_9 ?_
    refine z_iload_n dX6_bound_10 rfl ?_
    refine z_callV_eI (M := mX6_bound) [_, _] tX6_isCell kX6_247 dX6_bound_11 ⟨by decide, rfl, _, _, rfl⟩ ⟨by decide, by decide⟩ rfl (Nat.le_of_ble_eq_true rfl) rfl (c_X6_isCell2 W.wb R (by omega)) ?_
    refine z_if_eq 31 dX6_bound_14 (by decide) (bi_r _) (fun c14 => ?_) (fun c14 => ?_)
    · have c14 := bi_eq.mp c14
      refine z_ldc (-1000001) dX6_bound_31 qX6_218 rfl ?_
      exact z_ireturn dX6_bound_33 rfl (hQ _ _ ⟨_, rfl, rfl, rfl⟩)
    · have c14 := bi_ne.mp c14
      refine z_iload_n dX6_bound_17 rfl ?_
      refine z_i2l dX6_bound_18 (by omega) ?_
      refine z_ldc2 (-9) dX6_bound_19 qX6_269 rfl ?_
      refine z_ldc2 (9) dX6_bound_22 qX6_271 rfl ?_
      refine z_callS_eI (M := mX6_bound) [_, _, _] tX6_in kX6_150 dX6_bound_25 ⟨by decide, by decide⟩ rfl (Nat.le_of_ble_eq_true rfl) rfl (c_X6_in (by omega) (by omega) (by omega)) ?_
      refine z_if_ne 34 dX6_bound_28 (by decide) (bi_r _) (fun c28 => ?_) (fun c28 => ?_)
      · have c28 := bi_ne.mp c28
        omega
      · have c28 := bi_eq.mp c28
        refine z_ldc (-1000001) dX6_bound_31 qX6_218 rfl ?_
        exact z_ireturn dX6_bound_33 rfl (hQ _ _ ⟨_, rfl, rfl, rfl⟩)
set_option maxRecDepth 100000 in
set_option maxHeartbeats 4000000 in
theorem c_X6_boundF {g : GG} {h : HH} {σ : SG} (W : WF σ) (R : RM (h 48) σ) {c f : Nat} {t : Int} (hc : c < 3) (hf : f < sF σ) (ht : -9 ≤ t ∧ t ≤ 9) (ho : ¬ ∀ e, e < sE σ → -9 ≤ bndV σ c f t e ∧ bndV σ c f t e ≤ 9) : CeI mX6_bound g [vr 47, vi (c : Int), vi (f : Int), vi t] h kFULL := by
  refine cn_q (lv := [vr 47, vi (c : Int), vi (f : Int), vi t, vx]) tX6_bound.1 rfl rfl (fun hR Q hQ => ?_)
  have w1 := W.1
  have w2 := W.2.1
  have w3 := W.2.2.1
  have w4 := W.2.2.2.2.1 f hf
  have w6 := w4.2.2.1
  have w5 := w4.2.2.2.2.1 0 (by omega)
  have hP := (W.2.2.2.1 (sle σ f 0) w5).1
  refine z_aload_n dX6_bound_0 rfl ?_
  refine z_iload_n dX6_bound_1 rfl ?_
  refine z_callV_eI (M := mX6_bound) [_] tX6_isChain kX6_266 dX6_bound_2 ⟨by decide, rfl, _, _, rfl⟩ ⟨by decide, by decide⟩ rfl (Nat.le_of_ble_eq_true rfl) rfl (c_X6_isChain W.wb R (by omega)) ?_
  refine z_if_eq 31 dX6_bound_5 (by decide) (bi_r _) (fun c5 => ?_) (fun c5 => ?_)
  · have c5 := bi_eq.mp c5
    omega
  · have c5 := bi_ne.mp c5
    refine z_aload_n dX6_bound_8 rfl ?_
    refine z_iconst dX6_bound_9 ?_
    refine z_iload_n dX6_bound_10 rfl ?_
    refine z_callV_eI (M := mX6_bound) [_, _] tX6_isCell kX6_247 dX6_bound_11 ⟨by decide, rfl, _, _, rfl⟩ ⟨by decide, by decide⟩ rfl (Nat.le_of_ble_eq_true rfl) rfl (c_X6_isCell2 W.wb R (by omega)) ?_
    refine z_if_eq 31 dX6_bound_14 (by decide) (bi_r _) (fun c14 => ?_) (fun c14 => ?_)
    · have c14 := bi_eq.mp c14
      omega
    · have c14 := bi_ne.mp c14
      refine z_iload_n dX6_bound_17 rfl ?_
      refine z_i2l dX6_bound_18 (by omega) ?_
      refine z_ldc2 (-9) dX6_bound_19 qX6_269 rfl ?_
      refine z_ldc2 (9) dX6_bound_22 qX6_271 rfl ?_
      refine z_callS_eI (M := mX6_bound) [_, _, _] tX6_in kX6_150 dX6_bound_25 ⟨by decide, by decide⟩ rfl (Nat.le_of_ble_eq_true rfl) rfl (c_X6_in (by omega) (by omega) (by omega)) ?_
      refine z_if_ne 34 dX6_bound_28 (by decide) (bi_r _) (fun c28 => ?_) (fun c28 => ?_)
      · have c28 := bi_ne.mp c28
        refine z_iconst dX6_bound_34 ?_
        refine z_istore dX6_bound_35 (by decide) rfl ?_
        have loop37 : ∀ (nL9 : Nat) (k : Nat), (k ≤ sE σ) → (∀ e, e < k → -9 ≤ bndV σ c f t e ∧ bndV σ c f t e ≤ 9) → sE σ - k < nL9 → Z mX6_bound g 37 [vr 47, vi (c : Int), vi (f : Int), vi t, vi (k : Int)] [] h Q := by
          intro nL9
          induction nL9 with
          | zero => intro k hk hz hnL9; exact absurd hnL9 (Nat.not_lt_zero _)
          | succ nL9 ih37 =>
            intro k hk hz hnL9
            refine z_iload dX6_bound_37 rfl ?_
            refine z_aload_n dX6_bound_39 rfl ?_
            refine z_getR fX6_7 dX6_bound_40 (by decide) rfl rfl ?_
            refine z_iconst dX6_bound_43 ?_
            refine z_iaload dX6_bound_44 (by decide) rfl (by omega) (by omega) (by first | decide | omega) (fun r44 => ?_)
            rw [show h 48 (Int.toNat 1) = sE σ from rm_E R]
            refine z_icmp_ge 95 dX6_bound_45 (by decide) (by omega) (by omega) (fun c45 => ?_) (fun c45 => ?_)
            · exact absurd (fun e he => hz e (by omega)) ho
            · refine z_aload_n dX6_bound_48 rfl ?_
              refine z_getR fX6_7 dX6_bound_49 (by decide) rfl rfl ?_
              refine z_bipush dX6_bound_52 (by decide) ?_
              refine z_bipush dX6_bound_54 (by decide) ?_
              refine z_iload_n dX6_bound_56 rfl ?_
              refine z_imul dX6_bound_57 ?_
              refine z_iadd dX6_bound_58 ?_
              refine z_iload dX6_bound_59 rfl ?_
              refine z_iadd dX6_bound_61 ?_
              refine z_iaload dX6_bound_62 (by decide) rfl (by omega) (by omega) (by first | decide | omega) (fun r62 => ?_)
              rw [rm_ch R hc (e := k) (by omega) rfl]
              refine z_iload_n dX6_bound_63 rfl ?_
              refine z_aload_n dX6_bound_64 rfl ?_
              refine z_iload dX6_bound_65 rfl ?_
              refine z_iload_n dX6_bound_67 rfl ?_
              refine z_callV_eI (M := mX6_bound) [_, _] tX6_two kX6_71 dX6_bound_68 ⟨by decide, rfl, _, _, rfl⟩ ⟨by decide, by decide⟩ rfl (Nat.le_of_ble_eq_true rfl) rfl (c_X6_two W R (e := k) (f := f) (by omega) hf) ?_
              have b1 := ent2_r W hf (i := k)
              have b2 := W.2.2.2.2.2 c k hc (by omega)
              have b3 : -36 ≤ t * ent2 σ k f ∧ t * ent2 σ k f ≤ 36 := mul_b ht b1
              refine z_imul dX6_bound_71 ?_
              refine z_iadd dX6_bound_72 ?_
              refine z_i2l dX6_bound_73 (by omega) ?_
              refine z_ldc2 (-9) dX6_bound_74 qX6_269 rfl ?_
              refine z_ldc2 (9) dX6_bound_77 qX6_271 rfl ?_
              refine z_callS_eI (M := mX6_bound) [_, _, _] tX6_in kX6_150 dX6_bound_80 ⟨by decide, by decide⟩ rfl (Nat.le_of_ble_eq_true rfl) rfl (c_X6_in (by omega) (by omega) (by omega)) ?_
              refine z_if_ne 89 dX6_bound_83 (by decide) (bi_r _) (fun c83 => ?_) (fun c83 => ?_)
              · have c83 := bi_ne.mp c83
                refine z_iinc dX6_bound_89 rfl (by decide) rfl ?_
                refine z_goto 37 dX6_bound_92 (by decide) ?_
                exact ih37 (k + 1) (by omega) (lt_s hz c83) (by omega)
              · have c83 := bi_eq.mp c83
                refine z_ldc (-1000003) dX6_bound_86 qX6_219 rfl ?_
                exact z_ireturn dX6_bound_88 rfl (hQ _ _ ⟨_, rfl, rfl, rfl⟩)
        exact loop37 _ 0 (by omega) (fun e he => absurd he (Nat.not_lt_zero _)) (Nat.lt_succ_self _)
      · have c28 := bi_eq.mp c28
        omega
set_option maxRecDepth 100000 in
set_option maxHeartbeats 4000000 in
theorem c_X6_bound1 {g : GG} {h : HH} {σ : SG} (W : WF σ) (R : RM (h 48) σ) {as : List SG} (P : RPast h as) {c f : Nat} {t : Int} (hc : c < 3) (hf : f < sF σ) (ht : -9 ≤ t ∧ t ≤ 9) (ho : ∀ e, e < sE σ → -9 ≤ bndV σ c f t e ∧ bndV σ c f t e ≤ 9) : CnI mX6_bound g [vr 47, vi (c : Int), vi (f : Int), vi t] h (fun z h' => z = nnz (chS σ c (sE σ) (bndV σ c f t)) c ∧ ActM h h' σ as (chS σ c (sE σ) (bndV σ c f t))) := by
  refine cn_q (lv := [vr 47, vi (c : Int), vi (f : Int), vi t, vx]) tX6_bound.1 rfl rfl (fun hR Q hQ => ?_)
  have w1 := W.1
  have w2 := W.2.1
  have w3 := W.2.2.1
  have w4 := W.2.2.2.2.1 f hf
  have w6 := w4.2.2.1
  have w5 := w4.2.2.2.2.1 0 (by omega)
  have hP := (W.2.2.2.1 (sle σ f 0) w5).1
  refine z_aload_n dX6_bound_0 rfl ?_
  refine z_iload_n dX6_bound_1 rfl ?_
  refine z_callV_eI (M := mX6_bound) [_] tX6_isChain kX6_266 dX6_bound_2 ⟨by decide, rfl, _, _, rfl⟩ ⟨by decide, by decide⟩ rfl (Nat.le_of_ble_eq_true rfl) rfl (c_X6_isChain W.wb R (by omega)) ?_
  refine z_if_eq 31 dX6_bound_5 (by decide) (bi_r _) (fun c5 => ?_) (fun c5 => ?_)
  · have c5 := bi_eq.mp c5
    omega
  · have c5 := bi_ne.mp c5
    refine z_aload_n dX6_bound_8 rfl ?_
    refine z_iconst dX6_bound_9 ?_
    refine z_iload_n dX6_bound_10 rfl ?_
    refine z_callV_eI (M := mX6_bound) [_, _] tX6_isCell kX6_247 dX6_bound_11 ⟨by decide, rfl, _, _, rfl⟩ ⟨by decide, by decide⟩ rfl (Nat.le_of_ble_eq_true rfl) rfl (c_X6_isCell2 W.wb R (by omega)) ?_
    refine z_if_eq 31 dX6_bound_14 (by decide) (bi_r _) (fun c14 => ?_) (fun c14 => ?_)
    · have c14 := bi_eq.mp c14
      omega
    · have c14 := bi_ne.mp c14
      refine z_iload_n dX6_bound_17 rfl ?_
      refine z_i2l dX6_bound_18 (by omega) ?_
      refine z_ldc2 (-9) dX6_bound_19 qX6_269 rfl ?_
      refine z_ldc2 (9) dX6_bound_22 qX6_271 rfl ?_
      refine z_callS_eI (M := mX6_bound) [_, _, _] tX6_in kX6_150 dX6_bound_25 ⟨by decide, by decide⟩ rfl (Nat.le_of_ble_eq_true rfl) rfl (c_X6_in (by omega) (by omega) (by omega)) ?_
      refine z_if_ne 34 dX6_bound_28 (by decide) (bi_r _) (fun c28 => ?_) (fun c28 => ?_)
      · have c28 := bi_ne.mp c28
        refine z_iconst dX6_bound_34 ?_
        refine z_istore dX6_bound_35 (by decide) rfl ?_
        have loop37 : ∀ (nL9 : Nat) (k : Nat), (k ≤ sE σ) → (∀ e, e < k → -9 ≤ bndV σ c f t e ∧ bndV σ c f t e ≤ 9) → sE σ - k < nL9 → Z mX6_bound g 37 [vr 47, vi (c : Int), vi (f : Int), vi t, vi (k : Int)] [] h Q := by
          intro nL9
          induction nL9 with
          | zero => intro k hk hz hnL9; exact absurd hnL9 (Nat.not_lt_zero _)
          | succ nL9 ih37 =>
            intro k hk hz hnL9
            refine z_iload dX6_bound_37 rfl ?_
            refine z_aload_n dX6_bound_39 rfl ?_
            refine z_getR fX6_7 dX6_bound_40 (by decide) rfl rfl ?_
            refine z_iconst dX6_bound_43 ?_
            refine z_iaload dX6_bound_44 (by decide) rfl (by omega) (by omega) (by first | decide | omega) (fun r44 => ?_)
            rw [show h 48 (Int.toNat 1) = sE σ from rm_E R]
            refine z_icmp_ge 95 dX6_bound_45 (by decide) (by omega) (by omega) (fun c45 => ?_) (fun c45 => ?_)
            · refine z_aload_n dX6_bound_95 rfl ?_
              refine z_callV_V (M := mX6_bound) [] tX6_notes kX6_252 dX6_bound_96 ⟨by decide, rfl, _, _, rfl⟩ ⟨by decide, by decide⟩ rfl (Nat.le_of_ble_eq_true rfl) rfl (c_X6_notes W R P) (fun h96 q96 => ?_)
              have e48 : h96 48 = h 48 := q96.2.1 48 (by decide) (by decide)
              have R2 : RM (h96 48) σ := by rw [e48]; exact R
              refine z_iconst dX6_bound_99 ?_
              refine z_istore dX6_bound_100 (by decide) rfl ?_
              have loop102 : ∀ (nL9 : Nat) (k : Nat) (f1 : Nat → Int), (k ≤ sE σ) → (RM f1 (chS σ c k (bndV σ c f t))) → sE σ - k < nL9 → Z mX6_bound g 102 [vr 47, vi (c : Int), vi (f : Int), vi t, vi (k : Int)] [] (setc h96 48 f1) Q := by
                intro nL9
                induction nL9 with
                | zero => intro k f1 hk2 hD hnL9; exact absurd hnL9 (Nat.not_lt_zero _)
                | succ nL9 ih102 =>
                  intro k f1 hk2 hD hnL9
                  refine z_iload dX6_bound_102 rfl ?_
                  refine z_aload_n dX6_bound_104 rfl ?_
                  refine z_getR fX6_7 dX6_bound_105 (by decide) rfl rfl ?_
                  refine z_iconst dX6_bound_108 ?_
                  refine z_iaload dX6_bound_109 (by decide) rfl (by omega) (by omega) (by first | decide | omega) (fun r109 => ?_)
                  rw [show setc h96 48 f1 48 (Int.toNat 1) = sE σ from by rw [setc_at]; exact hD.2.1]
                  refine z_icmp_ge 146 dX6_bound_110 (by decide) (by omega) (by omega) (fun c110 => ?_) (fun c110 => ?_)
                  · refine z_aload_n dX6_bound_146 rfl ?_
                    refine z_iload_n dX6_bound_147 rfl ?_
                    refine z_callV_eI (M := mX6_bound) [_] tX6_others kX6_273 dX6_bound_148 ⟨by decide, rfl, _, _, rfl⟩ ⟨by decide, by decide⟩ rfl (Nat.le_of_ble_eq_true rfl) rfl (c_X6_others (h := setc h96 48 f1) (σ := chS σ c (sE σ) (bndV σ c f t)) (WF_chS W ho) (by rw [setc_at, show sE σ = k from by omega]; exact hD) hc) ?_
                    exact z_ireturn dX6_bound_151 rfl (hQ _ _ ⟨_, rfl, ⟨rfl, by rw [show sE σ = k from by omega]; exact actM_of q96 hD⟩⟩)
                  · refine z_aload_n dX6_bound_113 rfl ?_
                    refine z_getR fX6_7 dX6_bound_114 (by decide) rfl rfl ?_
                    refine z_bipush dX6_bound_117 (by decide) ?_
                    refine z_bipush dX6_bound_119 (by decide) ?_
                    refine z_iload_n dX6_bound_121 rfl ?_
                    refine z_imul dX6_bound_122 ?_
                    refine z_iadd dX6_bound_123 ?_
                    refine z_iload dX6_bound_124 rfl ?_
                    refine z_iadd dX6_bound_126 ?_
                    refine z_dup2 dX6_bound_127 rfl rfl ?_
                    refine z_iaload dX6_bound_128 (by decide) rfl (by omega) (by omega) (by first | decide | omega) (fun r128 => ?_)
                    rw [show setc h96 48 f1 48 (45 + 6 * (c : Int) + (k : Int)).toNat = sch σ c k from by rw [setc_at]; exact (rm_ch hD hc (e := k) (show k < sE σ by omega) rfl).trans (if_neg (by omega))]
                    refine z_iload_n dX6_bound_129 rfl ?_
                    refine z_aload_n dX6_bound_130 rfl ?_
                    refine z_iload dX6_bound_131 rfl ?_
                    refine z_iload_n dX6_bound_133 rfl ?_
                    refine z_callV_eI (M := mX6_bound) [_, _] tX6_two kX6_71 dX6_bound_134 ⟨by decide, rfl, _, _, rfl⟩ ⟨by decide, by decide⟩ rfl (Nat.le_of_ble_eq_true rfl) rfl (c_X6_two (h := setc h96 48 f1) (σ := (chS σ c k (bndV σ c f t))) (WF_chS W (fun e he => ho e (by omega))) (by rw [setc_at]; exact hD) (e := k) (f := f) (by omega) hf) ?_
                    rw [show ent2 (chS σ c k (bndV σ c f t)) k f = ent2 σ k f from rfl]
                    have b1 := ent2_r W hf (i := k)
                    have b2 := W.2.2.2.2.2 c k hc (by omega)
                    have b3 : -36 ≤ t * ent2 σ k f ∧ t * ent2 σ k f ≤ 36 := mul_b ht b1
                    have b4 : -9 ≤ sch σ c k + t * ent2 σ k f ∧ sch σ c k + t * ent2 σ k f ≤ 9 := ho k (by omega)
                    refine z_imul dX6_bound_137 ?_
                    refine z_iadd dX6_bound_138 ?_
                    refine z_iastore dX6_bound_139 (by decide) rfl (by omega) (by omega) (by first | decide | omega) (by omega) ?_
                    rw [up_s (i := 45 + 6 * c + k) (by omega)]
                    refine z_iinc dX6_bound_140 rfl (by decide) rfl ?_
                    refine z_goto 102 dX6_bound_143 (by decide) ?_
                    exact ih102 (k + 1) (upn f1 (45 + 6 * c + k) (sch σ c k + t * ent2 σ k f)) (by omega) (mchS_s W.wb hc (by omega) hD rfl) (by omega)
              have x0 := loop102 _ 0 (h96 48) (by omega) (mchS_0 c _ R2) (Nat.lt_succ_self _)
              rw [setc_self] at x0
              exact x0
            · refine z_aload_n dX6_bound_48 rfl ?_
              refine z_getR fX6_7 dX6_bound_49 (by decide) rfl rfl ?_
              refine z_bipush dX6_bound_52 (by decide) ?_
              refine z_bipush dX6_bound_54 (by decide) ?_
              refine z_iload_n dX6_bound_56 rfl ?_
              refine z_imul dX6_bound_57 ?_
              refine z_iadd dX6_bound_58 ?_
              refine z_iload dX6_bound_59 rfl ?_
              refine z_iadd dX6_bound_61 ?_
              refine z_iaload dX6_bound_62 (by decide) rfl (by omega) (by omega) (by first | decide | omega) (fun r62 => ?_)
              rw [rm_ch R hc (e := k) (by omega) rfl]
              refine z_iload_n dX6_bound_63 rfl ?_
              refine z_aload_n dX6_bound_64 rfl ?_
              refine z_iload dX6_bound_65 rfl ?_
              refine z_iload_n dX6_bound_67 rfl ?_
              refine z_callV_eI (M := mX6_bound) [_, _] tX6_two kX6_71 dX6_bound_68 ⟨by decide, rfl, _, _, rfl⟩ ⟨by decide, by decide⟩ rfl (Nat.le_of_ble_eq_true rfl) rfl (c_X6_two W R (e := k) (f := f) (by omega) hf) ?_
              have b1 := ent2_r W hf (i := k)
              have b2 := W.2.2.2.2.2 c k hc (by omega)
              have b3 : -36 ≤ t * ent2 σ k f ∧ t * ent2 σ k f ≤ 36 := mul_b ht b1
              refine z_imul dX6_bound_71 ?_
              refine z_iadd dX6_bound_72 ?_
              refine z_i2l dX6_bound_73 (by omega) ?_
              refine z_ldc2 (-9) dX6_bound_74 qX6_269 rfl ?_
              refine z_ldc2 (9) dX6_bound_77 qX6_271 rfl ?_
              refine z_callS_eI (M := mX6_bound) [_, _, _] tX6_in kX6_150 dX6_bound_80 ⟨by decide, by decide⟩ rfl (Nat.le_of_ble_eq_true rfl) rfl (c_X6_in (by omega) (by omega) (by omega)) ?_
              refine z_if_ne 89 dX6_bound_83 (by decide) (bi_r _) (fun c83 => ?_) (fun c83 => ?_)
              · have c83 := bi_ne.mp c83
                refine z_iinc dX6_bound_89 rfl (by decide) rfl ?_
                refine z_goto 37 dX6_bound_92 (by decide) ?_
                exact ih37 (k + 1) (by omega) (lt_s hz c83) (by omega)
              · have c83 := bi_eq.mp c83
                exact absurd (ho k (by omega)) c83
        exact loop37 _ 0 (by omega) (fun e he => absurd he (Nat.not_lt_zero _)) (Nat.lt_succ_self _)
      · have c28 := bi_eq.mp c28
        omega
set_option maxRecDepth 100000 in
set_option maxHeartbeats 4000000 in
theorem c_X6_drawnS {g : GG} {h : HH} {σ : SG} (W : WF σ) (R : RM (h 48) σ) {c s : Int} (hc : R32 c) (hs : R32 s) (h0 : sP σ = 0) : CeI mX6_drawn g [vr 47, vi c, vi s] h kSTATE := by
  refine cn_q (lv := [vr 47, vi c, vi s, vx, vx, vx]) tX6_drawn.1 rfl rfl (fun hR Q hQ => ?_)
  refine z_aload_n dX6_drawn_0 rfl ?_
  refine z_callV_eI (M := mX6_drawn) [] tX6_isComplex kX6_244 dX6_drawn_1 ⟨by decide, rfl, _, _, rfl⟩ ⟨by decide, by decide⟩ rfl (Nat.le_of_ble_eq_true rfl) rfl (c_X6_isComplex W.wb R) ?_
  refine z_if_ne 10 dX6_drawn_4 (by decide) (bi_r _) (fun c4 => ?_) (fun c4 => ?_)
  · have c4 := bi_ne.mp c4
    omega
  · have c4 := bi_eq.mp c4
    refine z_ldc (-1000002) dX6_drawn_7 qX6_241 rfl ?_
    exact z_ireturn dX6_drawn_9 rfl (hQ _ _ ⟨_, rfl, rfl, rfl⟩)
set_option maxRecDepth 100000 in
set_option maxHeartbeats 4000000 in
theorem c_X6_drawnO {g : GG} {h : HH} {σ : SG} (W : WF σ) (R : RM (h 48) σ) {c s : Int} (hc : R32 c) (hs : R32 s) (h0 : 0 < sP σ) (ho : ¬ (0 ≤ c ∧ c < 3 ∧ 1 ≤ s ∧ s ≤ 999999)) : CeI mX6_drawn g [vr 47, vi c, vi s] h kBAD := by
  refine cn_q (lv := [vr 47, vi c, vi s, vx, vx, vx]) tX6_drawn.1 rfl rfl (fun hR Q hQ => ?_)
  refine z_aload_n dX6_drawn_0 rfl ?_
  refine z_callV_eI (M := mX6_drawn) [] tX6_isComplex kX6_244 dX6_drawn_1 ⟨by decide, rfl, _, _, rfl⟩ ⟨by decide, by decide⟩ rfl (Nat.le_of_ble_eq_true rfl) rfl (c_X6_isComplex W.wb R) ?_
  refine z_if_ne 10 dX6_drawn_4 (by decide) (bi_r _) (fun c4 => ?_) (fun c4 => ?_)
  · have c4 := bi_ne.mp c4
    refine z_iload_n dX6_drawn_10 rfl ?_
    refine z_i2l dX6_drawn_11 (by omega) ?_
    refine z_lconst (z := 0) dX6_drawn_12 rfl ?_
    refine z_ldc2 (2) dX6_drawn_13 qX6_242 rfl ?_
    refine z_callS_eI (M := mX6_drawn) [_, _, _] tX6_in kX6_150 dX6_drawn_16 ⟨by decide, by decide⟩ rfl (Nat.le_of_ble_eq_true rfl) rfl (c_X6_in (by omega) (by omega) (by omega)) ?_
    refine z_if_eq 34 dX6_drawn_19 (by decide) (bi_r _) (fun c19 => ?_) (fun c19 => ?_)
    · have c19 := bi_eq.mp c19
      refine z_ldc (-1000001) dX6_drawn_34 qX6_218 rfl ?_
      exact z_ireturn dX6_drawn_36 rfl (hQ _ _ ⟨_, rfl, rfl, rfl⟩)
    · have c19 := bi_ne.mp c19
      refine z_iload_n dX6_drawn_22 rfl ?_
      refine z_i2l dX6_drawn_23 (by omega) ?_
      refine z_lconst (z := 1) dX6_drawn_24 rfl ?_
      refine z_ldc2 (999999) dX6_drawn_25 qX6_276 rfl ?_
      refine z_callS_eI (M := mX6_drawn) [_, _, _] tX6_in kX6_150 dX6_drawn_28 ⟨by decide, by decide⟩ rfl (Nat.le_of_ble_eq_true rfl) rfl (c_X6_in (by omega) (by omega) (by omega)) ?_
      refine z_if_ne 37 dX6_drawn_31 (by decide) (bi_r _) (fun c31 => ?_) (fun c31 => ?_)
      · have c31 := bi_ne.mp c31
        omega
      · have c31 := bi_eq.mp c31
        refine z_ldc (-1000001) dX6_drawn_34 qX6_218 rfl ?_
        exact z_ireturn dX6_drawn_36 rfl (hQ _ _ ⟨_, rfl, rfl, rfl⟩)
  · have c4 := bi_eq.mp c4
    omega
set_option maxRecDepth 100000 in
set_option maxHeartbeats 4000000 in
theorem c_X6_drawn1 {g : GG} {h : HH} {σ : SG} (W : WF σ) (R : RM (h 48) σ) {as : List SG} (P : RPast h as) {c : Nat} {s : Int} (hc : c < 3) (hs : 1 ≤ s ∧ s ≤ 999999) (h0 : 0 < sP σ) : CnI mX6_drawn g [vr 47, vi (c : Int), vi s] h (fun z h' => z = nnz (chS σ c (sE σ) (drV s)) c ∧ ActM h h' σ as (chS σ c (sE σ) (drV s))) := by
  refine cn_q (lv := [vr 47, vi (c : Int), vi s, vx, vx, vx]) tX6_drawn.1 rfl rfl (fun hR Q hQ => ?_)
  have w1 := W.1
  have w2 := W.2.1
  have w3 := W.2.2.1
  have hs0 : 0 ≤ s ∧ s < 2147483647 := by omega
  refine z_aload_n dX6_drawn_0 rfl ?_
  refine z_callV_eI (M := mX6_drawn) [] tX6_isComplex kX6_244 dX6_drawn_1 ⟨by decide, rfl, _, _, rfl⟩ ⟨by decide, by decide⟩ rfl (Nat.le_of_ble_eq_true rfl) rfl (c_X6_isComplex W.wb R) ?_
  refine z_if_ne 10 dX6_drawn_4 (by decide) (bi_r _) (fun c4 => ?_) (fun c4 => ?_)
  · have c4 := bi_ne.mp c4
    refine z_iload_n dX6_drawn_10 rfl ?_
    refine z_i2l dX6_drawn_11 (by omega) ?_
    refine z_lconst (z := 0) dX6_drawn_12 rfl ?_
    refine z_ldc2 (2) dX6_drawn_13 qX6_242 rfl ?_
    refine z_callS_eI (M := mX6_drawn) [_, _, _] tX6_in kX6_150 dX6_drawn_16 ⟨by decide, by decide⟩ rfl (Nat.le_of_ble_eq_true rfl) rfl (c_X6_in (by omega) (by omega) (by omega)) ?_
    refine z_if_eq 34 dX6_drawn_19 (by decide) (bi_r _) (fun c19 => ?_) (fun c19 => ?_)
    · have c19 := bi_eq.mp c19
      omega
    · have c19 := bi_ne.mp c19
      refine z_iload_n dX6_drawn_22 rfl ?_
      refine z_i2l dX6_drawn_23 (by omega) ?_
      refine z_lconst (z := 1) dX6_drawn_24 rfl ?_
      refine z_ldc2 (999999) dX6_drawn_25 qX6_276 rfl ?_
      refine z_callS_eI (M := mX6_drawn) [_, _, _] tX6_in kX6_150 dX6_drawn_28 ⟨by decide, by decide⟩ rfl (Nat.le_of_ble_eq_true rfl) rfl (c_X6_in (by omega) (by omega) (by omega)) ?_
      refine z_if_ne 37 dX6_drawn_31 (by decide) (bi_r _) (fun c31 => ?_) (fun c31 => ?_)
      · have c31 := bi_ne.mp c31
        refine z_aload_n dX6_drawn_37 rfl ?_
        refine z_callV_V (M := mX6_drawn) [] tX6_notes kX6_252 dX6_drawn_38 ⟨by decide, rfl, _, _, rfl⟩ ⟨by decide, by decide⟩ rfl (Nat.le_of_ble_eq_true rfl) rfl (c_X6_notes W R P) (fun h38 q38 => ?_)
        have e48 : h38 48 = h 48 := q38.2.1 48 (by decide) (by decide)
        have R2 : RM (h38 48) σ := by rw [e48]; exact R
        refine z_iload_n dX6_drawn_41 rfl ?_
        refine z_i2l dX6_drawn_42 (by omega) ?_
        refine z_lstore_n dX6_drawn_43 (by decide) rfl ?_
        refine z_iconst dX6_drawn_44 ?_
        refine z_istore dX6_drawn_45 (by decide) rfl ?_
        have loop47 : ∀ (nL9 : Nat) (k : Nat) (f1 : Nat → Int), (k ≤ sE σ) → (RM f1 (chS σ c k (drV s))) → sE σ - k < nL9 → Z mX6_drawn g 47 [vr 47, vi (c : Int), vi s, vl (dX s k), vx, vi (k : Int)] [] (setc h38 48 f1) Q := by
          intro nL9
          induction nL9 with
          | zero => intro k f1 hk2 hD hnL9; exact absurd hnL9 (Nat.not_lt_zero _)
          | succ nL9 ih47 =>
            intro k f1 hk2 hD hnL9
            refine z_iload dX6_drawn_47 rfl ?_
            refine z_aload_n dX6_drawn_49 rfl ?_
            refine z_getR fX6_7 dX6_drawn_50 (by decide) rfl rfl ?_
            refine z_iconst dX6_drawn_53 ?_
            refine z_iaload dX6_drawn_54 (by decide) rfl (by omega) (by omega) (by first | decide | omega) (fun r54 => ?_)
            rw [show setc h38 48 f1 48 (Int.toNat 1) = sE σ from by rw [setc_at]; exact hD.2.1]
            have b1 := dX_r hs0 k
            have b2 := dX_r hs0 (k + 1)
            have b3 := drV_r hs0 k
            have b4 : dX s (k + 1) = (dX s k * 16807).tmod 2147483647 := rfl
            have b5 : drV s k = (dX s (k + 1)).tmod 19 - 9 := rfl
            refine z_icmp_ge 98 dX6_drawn_55 (by decide) (by omega) (by omega) (fun c55 => ?_) (fun c55 => ?_)
            · refine z_aload_n dX6_drawn_98 rfl ?_
              refine z_iload_n dX6_drawn_99 rfl ?_
              refine z_callV_eI (M := mX6_drawn) [_] tX6_others kX6_273 dX6_drawn_100 ⟨by decide, rfl, _, _, rfl⟩ ⟨by decide, by decide⟩ rfl (Nat.le_of_ble_eq_true rfl) rfl (c_X6_others (h := setc h38 48 f1) (σ := chS σ c (sE σ) (drV s)) (WF_chS W (fun e _ => drV_r hs0 e)) (by rw [setc_at, show sE σ = k from by omega]; exact hD) hc) ?_
              exact z_ireturn dX6_drawn_103 rfl (hQ _ _ ⟨_, rfl, ⟨rfl, by rw [show sE σ = k from by omega]; exact actM_of q38 hD⟩⟩)
            · refine z_lload_n dX6_drawn_58 rfl ?_
              refine z_ldc2 (16807) dX6_drawn_59 qX6_278 rfl ?_
              refine z_lmul dX6_drawn_62 ?_
              refine z_ldc2 (2147483647) dX6_drawn_63 qX6_280 rfl ?_
              refine z_lrem dX6_drawn_66 (by omega) (by decide) (by decide) ?_
              rw [← b4]
              refine z_lstore_n dX6_drawn_67 (by decide) rfl ?_
              refine z_aload_n dX6_drawn_68 rfl ?_
              refine z_getR fX6_7 dX6_drawn_69 (by decide) rfl rfl ?_
              refine z_bipush dX6_drawn_72 (by decide) ?_
              refine z_bipush dX6_drawn_74 (by decide) ?_
              refine z_iload_n dX6_drawn_76 rfl ?_
              refine z_imul dX6_drawn_77 ?_
              refine z_iadd dX6_drawn_78 ?_
              refine z_iload dX6_drawn_79 rfl ?_
              refine z_iadd dX6_drawn_81 ?_
              refine z_lload_n dX6_drawn_82 rfl ?_
              refine z_ldc2 (19) dX6_drawn_83 qX6_282 rfl ?_
              refine z_lrem dX6_drawn_86 (by omega) (by decide) (by decide) ?_
              refine z_l2i dX6_drawn_87 ?_
              refine z_bipush dX6_drawn_88 (by decide) ?_
              refine z_isub dX6_drawn_90 ?_
              rw [← b5]
              refine z_iastore dX6_drawn_91 (by decide) rfl (by omega) (by omega) (by first | decide | omega) (by omega) ?_
              rw [up_s (i := 45 + 6 * c + k) (by omega)]
              refine z_iinc dX6_drawn_92 rfl (by decide) rfl ?_
              refine z_goto 47 dX6_drawn_95 (by decide) ?_
              exact ih47 (k + 1) (upn f1 (45 + 6 * c + k) (drV s k)) (by omega) (mchS_s W.wb hc (by omega) hD rfl) (by omega)
        have x0 := loop47 _ 0 (h38 48) (by omega) (mchS_0 c _ R2) (Nat.lt_succ_self _)
        rw [setc_self] at x0
        exact x0
      · have c31 := bi_eq.mp c31
        omega
  · have c4 := bi_eq.mp c4
    omega

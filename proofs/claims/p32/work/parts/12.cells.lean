def nr0 (σ : SG) (i j k : Nat) : Int := ent1 σ i k * (sew σ k : Int) * ent1 σ j k
def nr1 (σ : SG) (i j p : Nat) : Int := ent1 σ p i * ent1 σ p j
def nr2 (σ : SG) (i j k : Nat) : Int := ent2 σ i k * (sfw σ k : Int) * ent2 σ j k
def near0 (σ : SG) (i j : Nat) : Int := sI (sE σ) (nr0 σ i j)
def near1 (σ : SG) (i j : Nat) : Int := sI (sP σ) (nr1 σ i j)
def near2 (σ : SG) (i j : Nat) : Int := sI (sF σ) (nr2 σ i j)
def nz (σ : SG) (c e : Nat) : Int := if sch σ c e = 0 then 0 else 1
def nnz (σ : SG) (c : Nat) : Int := sI (sE σ) (nz σ c)
def bd (σ : SG) (c p e : Nat) : Int := sch σ c e * ent1 σ p e
def ends (σ : SG) (c p : Nat) : Int := sI (sE σ) (bd σ c p)
def cyc (σ : SG) (c : Nat) : Prop := ∀ p, p < sP σ → ends σ c p = 0
def sld (σ : SG) (f : Nat) : Prop := ∀ e, e < sE σ → ent2 σ e f = 0
def sewn (σ : SG) (e : Nat) : Prop := ∃ f k, f < sF σ ∧ k < swl σ f ∧ sle σ f k = e
theorem ent1_r (σ : SG) (i j : Nat) : -1 ≤ ent1 σ i j ∧ ent1 σ i j ≤ 1 := by unfold ent1; split <;> split <;> omega
theorem lsg_r (σ : SG) (i j k : Nat) : -1 ≤ lsg σ i j k ∧ lsg σ i j k ≤ 1 := by unfold lsg; split <;> (try split) <;> omega
theorem ent2_r {σ : SG} (W : WF σ) {f i : Nat} (hf : f < sF σ) : -4 ≤ ent2 σ i f ∧ ent2 σ i f ≤ 4 := by
  have h1 := (W.2.2.2.2.1 f hf).2.2.2.1
  have h2 := sI_bound (n := swl σ f) (f := lsg σ i f) (c := 1) (fun k _ => lsg_r σ i f k)
  unfold ent2
  omega
theorem ends_r {σ : SG} (W : WF σ) {c p : Nat} (hc : c < 3) : -54 ≤ ends σ c p ∧ ends σ c p ≤ 54 := by
  have h1 := W.2.1
  have h2 := sI_bound (n := sE σ) (f := bd σ c p) (c := 9) (fun k hk => by
    have h3 := W.2.2.2.2.2 c k hc hk
    have h4 := ent1_r σ p k
    unfold bd
    have : ent1 σ p k = -1 ∨ ent1 σ p k = 0 ∨ ent1 σ p k = 1 := by omega
    rcases this with e | e | e <;> rw [e] <;> omega)
  unfold ends
  omega
set_option maxRecDepth 100000 in
set_option maxHeartbeats 4000000 in
theorem c_X0_entry1 {g : GG} {h : HH} {o : Nat} {σ : SG} (ho : isC o) (W : WF σ) (C : RC (h (o + 1)) σ) {i j : Nat} (hi : i < 6) (hj : j < sE σ) : CeI mX0_entryOf g [vr o, vi 1, vi (i : Int), vi (j : Int)] h (ent1 σ i j) := by
  refine cn_q (lv := [vr o, vi 1, vi (i : Int), vi (j : Int), vx, vx, vx]) tX0_entryOf.1 rfl rfl (fun hR Q hQ => ?_)
  have w1 := W.1
  have w2 := W.2.1
  have w3 := W.2.2.1
  have w4 := W.2.2.2.1 j hj
  refine z_iload_n dX0_entryOf_0 rfl ?_
  refine z_iconst dX0_entryOf_1 ?_
  refine z_icmp_ne 35 dX0_entryOf_2 (by decide) (by omega) (by omega) (fun c2 => ?_) (fun c2 => ?_)
  · omega
  · refine z_aload_n dX0_entryOf_5 rfl ?_
    refine z_iload_n dX0_entryOf_6 rfl ?_
    refine z_callV_eI (M := mX0_entryOf) [_] tX0_toOf kX0_45 dX0_entryOf_7 (rcvC ho) ⟨by decide, by decide⟩ rfl (Nat.le_of_ble_eq_true rfl) rfl (s_X0_toOf ho W.wb C hj) ?_
    refine z_iload_n dX0_entryOf_10 rfl ?_
    refine z_icmp_ne 18 dX0_entryOf_11 (by decide) (by omega) (by omega) (fun c11 => ?_) (fun c11 => ?_)
    · refine z_iconst dX0_entryOf_18 ?_
      refine z_aload_n dX0_entryOf_19 rfl ?_
      refine z_iload_n dX0_entryOf_20 rfl ?_
      refine z_callV_eI (M := mX0_entryOf) [_] tX0_fromOf kX0_48 dX0_entryOf_21 (rcvC ho) ⟨by decide, by decide⟩ rfl (Nat.le_of_ble_eq_true rfl) rfl (s_X0_fromOf ho W.wb C hj) ?_
      refine z_iload_n dX0_entryOf_24 rfl ?_
      refine z_icmp_ne 32 dX0_entryOf_25 (by decide) (by omega) (by omega) (fun c25 => ?_) (fun c25 => ?_)
      · refine z_iconst dX0_entryOf_32 ?_
        refine z_isub dX0_entryOf_33 ?_
        exact z_ireturn dX0_entryOf_34 rfl (hQ _ _ ⟨_, rfl, (by unfold ent1; split <;> split <;> omega), rfl⟩)
      · refine z_iconst dX0_entryOf_28 ?_
        refine z_goto 33 dX0_entryOf_29 (by decide) ?_
        refine z_isub dX0_entryOf_33 ?_
        exact z_ireturn dX0_entryOf_34 rfl (hQ _ _ ⟨_, rfl, (by unfold ent1; split <;> split <;> omega), rfl⟩)
    · refine z_iconst dX0_entryOf_14 ?_
      refine z_goto 19 dX0_entryOf_15 (by decide) ?_
      refine z_aload_n dX0_entryOf_19 rfl ?_
      refine z_iload_n dX0_entryOf_20 rfl ?_
      refine z_callV_eI (M := mX0_entryOf) [_] tX0_fromOf kX0_48 dX0_entryOf_21 (rcvC ho) ⟨by decide, by decide⟩ rfl (Nat.le_of_ble_eq_true rfl) rfl (s_X0_fromOf ho W.wb C hj) ?_
      refine z_iload_n dX0_entryOf_24 rfl ?_
      refine z_icmp_ne 32 dX0_entryOf_25 (by decide) (by omega) (by omega) (fun c25 => ?_) (fun c25 => ?_)
      · refine z_iconst dX0_entryOf_32 ?_
        refine z_isub dX0_entryOf_33 ?_
        exact z_ireturn dX0_entryOf_34 rfl (hQ _ _ ⟨_, rfl, (by unfold ent1; split <;> split <;> omega), rfl⟩)
      · refine z_iconst dX0_entryOf_28 ?_
        refine z_goto 33 dX0_entryOf_29 (by decide) ?_
        refine z_isub dX0_entryOf_33 ?_
        exact z_ireturn dX0_entryOf_34 rfl (hQ _ _ ⟨_, rfl, (by unfold ent1; split <;> split <;> omega), rfl⟩)
set_option maxRecDepth 100000 in
set_option maxHeartbeats 4000000 in
theorem c_X0_entry2 {g : GG} {h : HH} {o : Nat} {σ : SG} (ho : isC o) (W : WF σ) (C : RC (h (o + 1)) σ) {i j : Nat} (hi : i < 6) (hj : j < sF σ) : CeI mX0_entryOf g [vr o, vi 2, vi (i : Int), vi (j : Int)] h (ent2 σ i j) := by
  refine cn_q (lv := [vr o, vi 2, vi (i : Int), vi (j : Int), vx, vx, vx]) tX0_entryOf.1 rfl rfl (fun hR Q hQ => ?_)
  have w1 := W.1
  have w2 := W.2.1
  have w3 := W.2.2.1
  have w4 := (W.2.2.2.2.1 j hj).2.2.2.1
  have w5 := (W.2.2.2.2.1 j hj).2.2.2.2.1
  refine z_iload_n dX0_entryOf_0 rfl ?_
  refine z_iconst dX0_entryOf_1 ?_
  refine z_icmp_ne 35 dX0_entryOf_2 (by decide) (by omega) (by omega) (fun c2 => ?_) (fun c2 => ?_)
  · refine z_iconst dX0_entryOf_35 ?_
    refine z_istore dX0_entryOf_36 (by decide) rfl ?_
    refine z_iconst dX0_entryOf_38 ?_
    refine z_istore dX0_entryOf_39 (by decide) rfl ?_
    have e0 : sI 0 (lsg σ i j) = 0 := rfl
    have loop41 : ∀ (nw : Nat) (k : Nat), (k ≤ swl σ j) → swl σ j - k < nw → Z mX0_entryOf g 41 [vr o, vi 2, vi (i : Int), vi (j : Int), vi (sI k (lsg σ i j)), vi (k : Int), vx] [] h Q := by
      intro nw
      induction nw with
      | zero => intro k hk hn; exact absurd hn (Nat.not_lt_zero _)
      | succ nw ih41 =>
        intro k hk hn
        refine z_iload dX0_entryOf_41 rfl ?_
        refine z_aload_n dX0_entryOf_43 rfl ?_
        refine z_iload_n dX0_entryOf_44 rfl ?_
        refine z_callV_eI (M := mX0_entryOf) [_] tX0_wordSize kX0_65 dX0_entryOf_45 (rcvC ho) ⟨by decide, by decide⟩ rfl (Nat.le_of_ble_eq_true rfl) rfl (s_X0_wordSize ho W.wb C hj) ?_
        refine z_icmp_ge 93 dX0_entryOf_48 (by decide) (by omega) (by omega) (fun c48 => ?_) (fun c48 => ?_)
        · refine z_iload dX0_entryOf_93 rfl ?_
          exact z_ireturn dX0_entryOf_95 rfl (hQ _ _ ⟨_, rfl, (by unfold ent2; rw [show k = swl σ j from by omega]), rfl⟩)
        · have w6 := w5 k (by omega)
          refine z_aload_n dX0_entryOf_51 rfl ?_
          refine z_iload_n dX0_entryOf_52 rfl ?_
          refine z_iload dX0_entryOf_53 rfl ?_
          refine z_callV_eI (M := mX0_entryOf) [_, _] tX0_letterAt kX0_68 dX0_entryOf_55 (rcvC ho) ⟨by decide, by decide⟩ rfl (Nat.le_of_ble_eq_true rfl) rfl (s_X0_letterAt ho W.wb C hj (by omega)) ?_
          refine z_istore dX0_entryOf_58 (by decide) rfl ?_
          refine z_iload dX0_entryOf_60 rfl ?_
          refine z_callS_eI (M := mX0_entryOf) [_] tX4_edgeOf kX0_36 dX0_entryOf_62 ⟨by decide, by decide⟩ rfl (Nat.le_of_ble_eq_true rfl) rfl (s_X4_edgeOf _ (by omega)) ?_
          refine z_iload_n dX0_entryOf_65 rfl ?_
          refine z_icmp_ne 87 dX0_entryOf_66 (by decide) (by omega) (by omega) (fun c66 => ?_) (fun c66 => ?_)
          · refine z_iinc dX0_entryOf_87 rfl (by decide) rfl ?_
            refine z_goto 41 dX0_entryOf_90 (by decide) ?_
            refine z_forget 6 ?_
            have e1 : sI k (lsg σ i j) = sI (k + 1) (lsg σ i j) := by rw [sI_s]; unfold lsg; rw [if_neg (by omega)]; omega
            rw [e1]
            exact ih41 (k + 1) (by omega) (by omega)
          · refine z_iload dX0_entryOf_69 rfl ?_
            refine z_iload dX0_entryOf_71 rfl ?_
            refine z_callS_eI (M := mX0_entryOf) [_] tX4_isBackward kX0_41 dX0_entryOf_73 ⟨by decide, by decide⟩ rfl (Nat.le_of_ble_eq_true rfl) rfl (s_X4_isBackward _ (by omega)) ?_
            refine z_if_eq 83 dX0_entryOf_76 (by decide) (bi_r _) (fun c76 => ?_) (fun c76 => ?_)
            · have c76 := bi_eq.mp c76
              refine z_iconst dX0_entryOf_83 ?_
              refine z_iadd dX0_entryOf_84 ?_
              refine z_istore dX0_entryOf_85 (by decide) rfl ?_
              refine z_iinc dX0_entryOf_87 rfl (by decide) rfl ?_
              refine z_goto 41 dX0_entryOf_90 (by decide) ?_
              refine z_forget 6 ?_
              have e1 : sI k (lsg σ i j) + 1 = sI (k + 1) (lsg σ i j) := by rw [sI_s]; unfold lsg; rw [if_pos (by omega), if_neg c76]
              rw [e1]
              exact ih41 (k + 1) (by omega) (by omega)
            · have c76 := bi_ne.mp c76
              refine z_iconst dX0_entryOf_79 ?_
              refine z_goto 84 dX0_entryOf_80 (by decide) ?_
              refine z_iadd dX0_entryOf_84 ?_
              refine z_istore dX0_entryOf_85 (by decide) rfl ?_
              refine z_iinc dX0_entryOf_87 rfl (by decide) rfl ?_
              refine z_goto 41 dX0_entryOf_90 (by decide) ?_
              refine z_forget 6 ?_
              have e1 : sI k (lsg σ i j) + -1 = sI (k + 1) (lsg σ i j) := by rw [sI_s]; unfold lsg; rw [if_pos (by omega), if_pos c76]
              rw [e1]
              exact ih41 (k + 1) (by omega) (by omega)
    exact loop41 _ 0 (by omega) (Nat.lt_succ_self _)
  · omega
set_option maxRecDepth 100000 in
set_option maxHeartbeats 4000000 in
theorem c_X0_near1 {g : GG} {h : HH} {o : Nat} {σ : SG} (ho : isC o) (W : WF σ) (C : RC (h (o + 1)) σ) {i j : Nat} (hi : i < sE σ) (hj : j < sE σ) : CeI mX0_nearOf g [vr o, vi 1, vi (i : Int), vi (j : Int)] h (near1 σ i j) := by
  refine cn_q (lv := [vr o, vi 1, vi (i : Int), vi (j : Int), vx, vx, vx]) tX0_nearOf.1 rfl rfl (fun hR Q hQ => ?_)
  have w1 := W.1
  have w2 := W.2.1
  have w3 := W.2.2.1
  refine z_iconst dX0_nearOf_0 ?_
  refine z_istore dX0_nearOf_1 (by decide) rfl ?_
  refine z_iload_n dX0_nearOf_3 rfl ?_
  refine z_iconst dX0_nearOf_4 ?_
  refine z_icmp_ne 52 dX0_nearOf_5 (by decide) (by omega) (by omega) (fun c5 => ?_) (fun c5 => ?_)
  · omega
  · refine z_iconst dX0_nearOf_8 ?_
    refine z_istore dX0_nearOf_9 (by decide) rfl ?_
    have loop11 : ∀ (nw : Nat) (k : Nat), (k ≤ sP σ) → sP σ - k < nw → Z mX0_nearOf g 11 [vr o, vi 1, vi (i : Int), vi (j : Int), vi (sI k (nr1 σ i j)), vi (k : Int), vx] [] h Q := by
      intro nw
      induction nw with
      | zero => intro k hk hn; exact absurd hn (Nat.not_lt_zero _)
      | succ nw ih11 =>
        intro k hk hn
        refine z_iload dX0_nearOf_11 rfl ?_
        refine z_aload_n dX0_nearOf_13 rfl ?_
        refine z_iconst dX0_nearOf_14 ?_
        refine z_callV_eI (M := mX0_nearOf) [_] tX0_sizeOf kX0_21 dX0_nearOf_15 (rcvC ho) ⟨by decide, by decide⟩ rfl (Nat.le_of_ble_eq_true rfl) rfl (s_X0_sizeP ho C) ?_
        refine z_icmp_ge 49 dX0_nearOf_18 (by decide) (by omega) (by omega) (fun c18 => ?_) (fun c18 => ?_)
        · refine z_iload dX0_nearOf_49 rfl ?_
          exact z_ireturn dX0_nearOf_51 rfl (hQ _ _ ⟨_, rfl, (by unfold near1; rw [show k = sP σ from by omega]), rfl⟩)
        · refine z_iload dX0_nearOf_21 rfl ?_
          refine z_aload_n dX0_nearOf_23 rfl ?_
          refine z_iconst dX0_nearOf_24 ?_
          refine z_iload dX0_nearOf_25 rfl ?_
          refine z_iload_n dX0_nearOf_27 rfl ?_
          refine z_callV_eI (M := mX0_nearOf) [_, _, _] tX0_entryOf kX0_84 dX0_nearOf_28 (rcvC ho) ⟨by decide, by decide⟩ rfl (Nat.le_of_ble_eq_true rfl) rfl (c_X0_entry1 ho W C (i := k) (j := i) (by omega) (by omega)) ?_
          refine z_aload_n dX0_nearOf_31 rfl ?_
          refine z_iconst dX0_nearOf_32 ?_
          refine z_iload dX0_nearOf_33 rfl ?_
          refine z_iload_n dX0_nearOf_35 rfl ?_
          refine z_callV_eI (M := mX0_nearOf) [_, _, _] tX0_entryOf kX0_84 dX0_nearOf_36 (rcvC ho) ⟨by decide, by decide⟩ rfl (Nat.le_of_ble_eq_true rfl) rfl (c_X0_entry1 ho W C (i := k) (j := j) (by omega) (by omega)) ?_
          refine z_imul dX0_nearOf_39 ?_
          refine z_iadd dX0_nearOf_40 ?_
          refine z_istore dX0_nearOf_41 (by decide) rfl ?_
          refine z_iinc dX0_nearOf_43 rfl (by decide) rfl ?_
          refine z_goto 11 dX0_nearOf_46 (by decide) ?_
          exact ih11 (k + 1) (by omega) (by omega)
    exact loop11 _ 0 (by omega) (Nat.lt_succ_self _)
set_option maxRecDepth 100000 in
set_option maxHeartbeats 4000000 in
theorem c_X0_near0 {g : GG} {h : HH} {o : Nat} {σ : SG} (ho : isC o) (W : WF σ) (C : RC (h (o + 1)) σ) {i j : Nat} (hi : i < sP σ) (hj : j < sP σ) : CeI mX0_nearOf g [vr o, vi 0, vi (i : Int), vi (j : Int)] h (near0 σ i j) := by
  refine cn_q (lv := [vr o, vi 0, vi (i : Int), vi (j : Int), vx, vx, vx]) tX0_nearOf.1 rfl rfl (fun hR Q hQ => ?_)
  have w1 := W.1
  have w2 := W.2.1
  have w3 := W.2.2.1
  refine z_iconst dX0_nearOf_0 ?_
  refine z_istore dX0_nearOf_1 (by decide) rfl ?_
  refine z_iload_n dX0_nearOf_3 rfl ?_
  refine z_iconst dX0_nearOf_4 ?_
  refine z_icmp_ne 52 dX0_nearOf_5 (by decide) (by omega) (by omega) (fun c5 => ?_) (fun c5 => ?_)
  · refine z_iload_n dX0_nearOf_52 rfl ?_
    refine z_if_ne 60 dX0_nearOf_53 (by decide) (by omega) (fun c53 => ?_) (fun c53 => ?_)
    · omega
    · refine z_iconst dX0_nearOf_56 ?_
      refine z_goto 61 dX0_nearOf_57 (by decide) ?_
      refine z_istore dX0_nearOf_61 (by decide) rfl ?_
      refine z_iconst dX0_nearOf_63 ?_
      refine z_istore dX0_nearOf_64 (by decide) rfl ?_
      have loop66 : ∀ (nw : Nat) (k : Nat), (k ≤ sE σ) → sE σ - k < nw → Z mX0_nearOf g 66 [vr o, vi 0, vi (i : Int), vi (j : Int), vi (sI k (nr0 σ i j)), vi 1, vi (k : Int)] [] h Q := by
        intro nw
        induction nw with
        | zero => intro k hk hn; exact absurd hn (Nat.not_lt_zero _)
        | succ nw ih66 =>
          intro k hk hn
          refine z_iload dX0_nearOf_66 rfl ?_
          refine z_aload_n dX0_nearOf_68 rfl ?_
          refine z_iload dX0_nearOf_69 rfl ?_
          refine z_callV_eI (M := mX0_nearOf) [_] tX0_sizeOf kX0_21 dX0_nearOf_71 (rcvC ho) ⟨by decide, by decide⟩ rfl (Nat.le_of_ble_eq_true rfl) rfl (s_X0_sizeE ho C) ?_
          refine z_icmp_ge 116 dX0_nearOf_74 (by decide) (by omega) (by omega) (fun c74 => ?_) (fun c74 => ?_)
          · refine z_iload dX0_nearOf_116 rfl ?_
            exact z_ireturn dX0_nearOf_118 rfl (hQ _ _ ⟨_, rfl, (by unfold near0; rw [show k = sE σ from by omega]), rfl⟩)
          · refine z_iload dX0_nearOf_77 rfl ?_
            refine z_aload_n dX0_nearOf_79 rfl ?_
            refine z_iload dX0_nearOf_80 rfl ?_
            refine z_iload_n dX0_nearOf_82 rfl ?_
            refine z_iload dX0_nearOf_83 rfl ?_
            refine z_callV_eI (M := mX0_nearOf) [_, _, _] tX0_entryOf kX0_84 dX0_nearOf_85 (rcvC ho) ⟨by decide, by decide⟩ rfl (Nat.le_of_ble_eq_true rfl) rfl (c_X0_entry1 ho W C (i := i) (j := k) (by omega) (by omega)) ?_
            refine z_aload_n dX0_nearOf_88 rfl ?_
            refine z_iload dX0_nearOf_89 rfl ?_
            refine z_iload dX0_nearOf_91 rfl ?_
            refine z_callV_eI (M := mX0_nearOf) [_, _] tX0_weightOf kX0_71 dX0_nearOf_93 (rcvC ho) ⟨by decide, by decide⟩ rfl (Nat.le_of_ble_eq_true rfl) rfl (s_X0_weightE ho W.wb C (by omega)) ?_
            refine z_imul dX0_nearOf_96 ?_
            refine z_aload_n dX0_nearOf_97 rfl ?_
            refine z_iload dX0_nearOf_98 rfl ?_
            refine z_iload_n dX0_nearOf_100 rfl ?_
            refine z_iload dX0_nearOf_101 rfl ?_
            refine z_callV_eI (M := mX0_nearOf) [_, _, _] tX0_entryOf kX0_84 dX0_nearOf_103 (rcvC ho) ⟨by decide, by decide⟩ rfl (Nat.le_of_ble_eq_true rfl) rfl (c_X0_entry1 ho W C (i := j) (j := k) (by omega) (by omega)) ?_
            refine z_imul dX0_nearOf_106 ?_
            refine z_iadd dX0_nearOf_107 ?_
            refine z_istore dX0_nearOf_108 (by decide) rfl ?_
            refine z_iinc dX0_nearOf_110 rfl (by decide) rfl ?_
            refine z_goto 66 dX0_nearOf_113 (by decide) ?_
            exact ih66 (k + 1) (by omega) (by omega)
      exact loop66 _ 0 (by omega) (Nat.lt_succ_self _)
  · omega
set_option maxRecDepth 100000 in
set_option maxHeartbeats 4000000 in
theorem c_X0_near2 {g : GG} {h : HH} {o : Nat} {σ : SG} (ho : isC o) (W : WF σ) (C : RC (h (o + 1)) σ) {i j : Nat} (hi : i < sE σ) (hj : j < sE σ) : CeI mX0_nearOf g [vr o, vi 2, vi (i : Int), vi (j : Int)] h (near2 σ i j) := by
  refine cn_q (lv := [vr o, vi 2, vi (i : Int), vi (j : Int), vx, vx, vx]) tX0_nearOf.1 rfl rfl (fun hR Q hQ => ?_)
  have w1 := W.1
  have w2 := W.2.1
  have w3 := W.2.2.1
  refine z_iconst dX0_nearOf_0 ?_
  refine z_istore dX0_nearOf_1 (by decide) rfl ?_
  refine z_iload_n dX0_nearOf_3 rfl ?_
  refine z_iconst dX0_nearOf_4 ?_
  refine z_icmp_ne 52 dX0_nearOf_5 (by decide) (by omega) (by omega) (fun c5 => ?_) (fun c5 => ?_)
  · refine z_iload_n dX0_nearOf_52 rfl ?_
    refine z_if_ne 60 dX0_nearOf_53 (by decide) (by omega) (fun c53 => ?_) (fun c53 => ?_)
    · refine z_iconst dX0_nearOf_60 ?_
      refine z_istore dX0_nearOf_61 (by decide) rfl ?_
      refine z_iconst dX0_nearOf_63 ?_
      refine z_istore dX0_nearOf_64 (by decide) rfl ?_
      have loop66 : ∀ (nw : Nat) (k : Nat), (k ≤ sF σ) → sF σ - k < nw → Z mX0_nearOf g 66 [vr o, vi 2, vi (i : Int), vi (j : Int), vi (sI k (nr2 σ i j)), vi 2, vi (k : Int)] [] h Q := by
        intro nw
        induction nw with
        | zero => intro k hk hn; exact absurd hn (Nat.not_lt_zero _)
        | succ nw ih66 =>
          intro k hk hn
          refine z_iload dX0_nearOf_66 rfl ?_
          refine z_aload_n dX0_nearOf_68 rfl ?_
          refine z_iload dX0_nearOf_69 rfl ?_
          refine z_callV_eI (M := mX0_nearOf) [_] tX0_sizeOf kX0_21 dX0_nearOf_71 (rcvC ho) ⟨by decide, by decide⟩ rfl (Nat.le_of_ble_eq_true rfl) rfl (s_X0_sizeF ho C) ?_
          refine z_icmp_ge 116 dX0_nearOf_74 (by decide) (by omega) (by omega) (fun c74 => ?_) (fun c74 => ?_)
          · refine z_iload dX0_nearOf_116 rfl ?_
            exact z_ireturn dX0_nearOf_118 rfl (hQ _ _ ⟨_, rfl, (by unfold near2; rw [show k = sF σ from by omega]), rfl⟩)
          · refine z_iload dX0_nearOf_77 rfl ?_
            refine z_aload_n dX0_nearOf_79 rfl ?_
            refine z_iload dX0_nearOf_80 rfl ?_
            refine z_iload_n dX0_nearOf_82 rfl ?_
            refine z_iload dX0_nearOf_83 rfl ?_
            refine z_callV_eI (M := mX0_nearOf) [_, _, _] tX0_entryOf kX0_84 dX0_nearOf_85 (rcvC ho) ⟨by decide, by decide⟩ rfl (Nat.le_of_ble_eq_true rfl) rfl (c_X0_entry2 ho W C (i := i) (j := k) (by omega) (by omega)) ?_
            refine z_aload_n dX0_nearOf_88 rfl ?_
            refine z_iload dX0_nearOf_89 rfl ?_
            refine z_iload dX0_nearOf_91 rfl ?_
            refine z_callV_eI (M := mX0_nearOf) [_, _] tX0_weightOf kX0_71 dX0_nearOf_93 (rcvC ho) ⟨by decide, by decide⟩ rfl (Nat.le_of_ble_eq_true rfl) rfl (s_X0_weightF ho W.wb C (by omega)) ?_
            refine z_imul dX0_nearOf_96 ?_
            refine z_aload_n dX0_nearOf_97 rfl ?_
            refine z_iload dX0_nearOf_98 rfl ?_
            refine z_iload_n dX0_nearOf_100 rfl ?_
            refine z_iload dX0_nearOf_101 rfl ?_
            refine z_callV_eI (M := mX0_nearOf) [_, _, _] tX0_entryOf kX0_84 dX0_nearOf_103 (rcvC ho) ⟨by decide, by decide⟩ rfl (Nat.le_of_ble_eq_true rfl) rfl (c_X0_entry2 ho W C (i := j) (j := k) (by omega) (by omega)) ?_
            refine z_imul dX0_nearOf_106 ?_
            refine z_iadd dX0_nearOf_107 ?_
            refine z_istore dX0_nearOf_108 (by decide) rfl ?_
            refine z_iinc dX0_nearOf_110 rfl (by decide) rfl ?_
            refine z_goto 66 dX0_nearOf_113 (by decide) ?_
            exact ih66 (k + 1) (by omega) (by omega)
      exact loop66 _ 0 (by omega) (Nat.lt_succ_self _)
    · omega
  · omega
set_option maxRecDepth 100000 in
set_option maxHeartbeats 4000000 in
theorem c_X0_numbersNotZero {g : GG} {h : HH} {o : Nat} {σ : SG} (ho : isC o) (W : WF σ) (C : RC (h (o + 1)) σ) {c : Nat} (hc : c < 3) : CeI mX0_numbersNotZero g [vr o, vi (c : Int)] h (nnz σ c) := by
  refine cn_q (lv := [vr o, vi (c : Int), vx, vx]) tX0_numbersNotZero.1 rfl rfl (fun hR Q hQ => ?_)
  have w1 := W.1
  have w2 := W.2.1
  have w3 := W.2.2.1
  refine z_iconst dX0_numbersNotZero_0 ?_
  refine z_istore_n dX0_numbersNotZero_1 (by decide) rfl ?_
  refine z_iconst dX0_numbersNotZero_2 ?_
  refine z_istore_n dX0_numbersNotZero_3 (by decide) rfl ?_
  have loop4 : ∀ (nw : Nat) (k : Nat), (k ≤ sE σ) → sE σ - k < nw → Z mX0_numbersNotZero g 4 [vr o, vi (c : Int), vi (sI k (nz σ c)), vi (k : Int)] [] h Q := by
    intro nw
    induction nw with
    | zero => intro k hk hn; exact absurd hn (Nat.not_lt_zero _)
    | succ nw ih4 =>
      intro k hk hn
      refine z_iload_n dX0_numbersNotZero_4 rfl ?_
      refine z_aload_n dX0_numbersNotZero_5 rfl ?_
      refine z_iconst dX0_numbersNotZero_6 ?_
      refine z_callV_eI (M := mX0_numbersNotZero) [_] tX0_sizeOf kX0_21 dX0_numbersNotZero_7 (rcvC ho) ⟨by decide, by decide⟩ rfl (Nat.le_of_ble_eq_true rfl) rfl (s_X0_sizeE ho C) ?_
      refine z_icmp_ge 31 dX0_numbersNotZero_10 (by decide) (by omega) (by omega) (fun c10 => ?_) (fun c10 => ?_)
      · refine z_iload_n dX0_numbersNotZero_31 rfl ?_
        exact z_ireturn dX0_numbersNotZero_32 rfl (hQ _ _ ⟨_, rfl, (by unfold nnz; rw [show k = sE σ from by omega]), rfl⟩)
      · refine z_aload_n dX0_numbersNotZero_13 rfl ?_
        refine z_iload_n dX0_numbersNotZero_14 rfl ?_
        refine z_iload_n dX0_numbersNotZero_15 rfl ?_
        refine z_callV_eI (M := mX0_numbersNotZero) [_, _] tX0_numberAt kX0_74 dX0_numbersNotZero_16 (rcvC ho) ⟨by decide, by decide⟩ rfl (Nat.le_of_ble_eq_true rfl) rfl (s_X0_numberAt ho W.wb C hc (by omega)) ?_
        have w5 := W.2.2.2.2.2 c k hc (by omega)
        refine z_if_eq 25 dX0_numbersNotZero_19 (by decide) (by omega) (fun c19 => ?_) (fun c19 => ?_)
        · refine z_iinc dX0_numbersNotZero_25 rfl (by decide) rfl ?_
          refine z_goto 4 dX0_numbersNotZero_28 (by decide) ?_
          have e1 : sI k (nz σ c) = sI (k + 1) (nz σ c) := by rw [sI_s]; unfold nz; rw [if_pos c19]; omega
          rw [e1]
          exact ih4 (k + 1) (by omega) (by omega)
        · refine z_iinc dX0_numbersNotZero_22 rfl (by decide) rfl ?_
          refine z_iinc dX0_numbersNotZero_25 rfl (by decide) rfl ?_
          refine z_goto 4 dX0_numbersNotZero_28 (by decide) ?_
          have e1 : sI k (nz σ c) + 1 = sI (k + 1) (nz σ c) := by rw [sI_s]; unfold nz; rw [if_neg c19]
          rw [e1]
          exact ih4 (k + 1) (by omega) (by omega)
  exact loop4 _ 0 (by omega) (Nat.lt_succ_self _)
set_option maxRecDepth 100000 in
set_option maxHeartbeats 4000000 in
theorem c_X0_boundaryAt {g : GG} {h : HH} {o : Nat} {σ : SG} (ho : isC o) (W : WF σ) (C : RC (h (o + 1)) σ) {c p : Nat} (hc : c < 3) (hp : p < sP σ) : CeI mX0_boundaryAt g [vr o, vi (c : Int), vi (p : Int)] h (ends σ c p) := by
  refine cn_q (lv := [vr o, vi (c : Int), vi (p : Int), vx, vx]) tX0_boundaryAt.1 rfl rfl (fun hR Q hQ => ?_)
  have w1 := W.1
  have w2 := W.2.1
  have w3 := W.2.2.1
  refine z_iconst dX0_boundaryAt_0 ?_
  refine z_istore_n dX0_boundaryAt_1 (by decide) rfl ?_
  refine z_iconst dX0_boundaryAt_2 ?_
  refine z_istore dX0_boundaryAt_3 (by decide) rfl ?_
  have loop5 : ∀ (nw : Nat) (k : Nat), (k ≤ sE σ) → sE σ - k < nw → Z mX0_boundaryAt g 5 [vr o, vi (c : Int), vi (p : Int), vi (sI k (bd σ c p)), vi (k : Int)] [] h Q := by
    intro nw
    induction nw with
    | zero => intro k hk hn; exact absurd hn (Nat.not_lt_zero _)
    | succ nw ih5 =>
      intro k hk hn
      refine z_iload dX0_boundaryAt_5 rfl ?_
      refine z_aload_n dX0_boundaryAt_7 rfl ?_
      refine z_iconst dX0_boundaryAt_8 ?_
      refine z_callV_eI (M := mX0_boundaryAt) [_] tX0_sizeOf kX0_21 dX0_boundaryAt_9 (rcvC ho) ⟨by decide, by decide⟩ rfl (Nat.le_of_ble_eq_true rfl) rfl (s_X0_sizeE ho C) ?_
      refine z_icmp_ge 40 dX0_boundaryAt_12 (by decide) (by omega) (by omega) (fun c12 => ?_) (fun c12 => ?_)
      · refine z_iload_n dX0_boundaryAt_40 rfl ?_
        exact z_ireturn dX0_boundaryAt_41 rfl (hQ _ _ ⟨_, rfl, (by unfold ends; rw [show k = sE σ from by omega]), rfl⟩)
      · refine z_iload_n dX0_boundaryAt_15 rfl ?_
        refine z_aload_n dX0_boundaryAt_16 rfl ?_
        refine z_iload_n dX0_boundaryAt_17 rfl ?_
        refine z_iload dX0_boundaryAt_18 rfl ?_
        refine z_callV_eI (M := mX0_boundaryAt) [_, _] tX0_numberAt kX0_74 dX0_boundaryAt_20 (rcvC ho) ⟨by decide, by decide⟩ rfl (Nat.le_of_ble_eq_true rfl) rfl (s_X0_numberAt ho W.wb C hc (by omega)) ?_
        refine z_aload_n dX0_boundaryAt_23 rfl ?_
        refine z_iconst dX0_boundaryAt_24 ?_
        refine z_iload_n dX0_boundaryAt_25 rfl ?_
        refine z_iload dX0_boundaryAt_26 rfl ?_
        refine z_callV_eI (M := mX0_boundaryAt) [_, _, _] tX0_entryOf kX0_84 dX0_boundaryAt_28 (rcvC ho) ⟨by decide, by decide⟩ rfl (Nat.le_of_ble_eq_true rfl) rfl (c_X0_entry1 ho W C (i := p) (j := k) (by omega) (by omega)) ?_
        refine z_imul dX0_boundaryAt_31 ?_
        refine z_iadd dX0_boundaryAt_32 ?_
        refine z_istore_n dX0_boundaryAt_33 (by decide) rfl ?_
        refine z_iinc dX0_boundaryAt_34 rfl (by decide) rfl ?_
        refine z_goto 5 dX0_boundaryAt_37 (by decide) ?_
        exact ih5 (k + 1) (by omega) (by omega)
  exact loop5 _ 0 (by omega) (Nat.lt_succ_self _)
set_option maxRecDepth 100000 in
set_option maxHeartbeats 4000000 in
theorem c_X0_isSealed {g : GG} {h : HH} {o : Nat} {σ : SG} (ho : isC o) (W : WF σ) (C : RC (h (o + 1)) σ) {f : Nat} (hf : f < sF σ) : CeI mX0_isSealed g [vr o, vi (f : Int)] h (bi (sld σ f)) := by
  refine cn_q (lv := [vr o, vi (f : Int), vx]) tX0_isSealed.1 rfl rfl (fun hR Q hQ => ?_)
  have w1 := W.1
  have w2 := W.2.1
  have w3 := W.2.2.1
  refine z_iconst dX0_isSealed_0 ?_
  refine z_istore_n dX0_isSealed_1 (by decide) rfl ?_
  have loop2 : ∀ (nw : Nat) (k : Nat), (k ≤ sE σ) → (∀ e, e < k → ent2 σ e f = 0) → sE σ - k < nw → Z mX0_isSealed g 2 [vr o, vi (f : Int), vi (k : Int)] [] h Q := by
    intro nw
    induction nw with
    | zero => intro k hk hz hn; exact absurd hn (Nat.not_lt_zero _)
    | succ nw ih2 =>
      intro k hk hz hn
      refine z_iload_n dX0_isSealed_2 rfl ?_
      refine z_aload_n dX0_isSealed_3 rfl ?_
      refine z_iconst dX0_isSealed_4 ?_
      refine z_callV_eI (M := mX0_isSealed) [_] tX0_sizeOf kX0_21 dX0_isSealed_5 (rcvC ho) ⟨by decide, by decide⟩ rfl (Nat.le_of_ble_eq_true rfl) rfl (s_X0_sizeE ho C) ?_
      refine z_icmp_ge 29 dX0_isSealed_8 (by decide) (by omega) (by omega) (fun c8 => ?_) (fun c8 => ?_)
      · refine z_iconst dX0_isSealed_29 ?_
        exact z_zreturn dX0_isSealed_30 rfl (by first | exact Or.inl rfl | exact Or.inr rfl | exact bi_01 _ | omega) (hQ _ _ ⟨_, rfl, (bi_t (fun p hp => hz p (by omega))), rfl⟩)
      · refine z_aload_n dX0_isSealed_11 rfl ?_
        refine z_iconst dX0_isSealed_12 ?_
        refine z_iload_n dX0_isSealed_13 rfl ?_
        refine z_iload_n dX0_isSealed_14 rfl ?_
        refine z_callV_eI (M := mX0_isSealed) [_, _, _] tX0_entryOf kX0_84 dX0_isSealed_15 (rcvC ho) ⟨by decide, by decide⟩ rfl (Nat.le_of_ble_eq_true rfl) rfl (c_X0_entry2 ho W C (i := k) (j := f) (by omega) (by omega)) ?_
        have w5 := ent2_r W hf (i := k)
        refine z_if_eq 23 dX0_isSealed_18 (by decide) (by omega) (fun c18 => ?_) (fun c18 => ?_)
        · refine z_iinc dX0_isSealed_23 rfl (by decide) rfl ?_
          refine z_goto 2 dX0_isSealed_26 (by decide) ?_
          exact ih2 (k + 1) (by omega) (lt_s hz c18) (by omega)
        · refine z_iconst dX0_isSealed_21 ?_
          exact z_zreturn dX0_isSealed_22 rfl (by first | exact Or.inl rfl | exact Or.inr rfl | exact bi_01 _ | omega) (hQ _ _ ⟨_, rfl, (bi_f (fun q => c18 (q k (by omega)))), rfl⟩)
  exact loop2 _ 0 (by omega) (fun p hp => absurd hp (Nat.not_lt_zero _)) (Nat.lt_succ_self _)
set_option maxRecDepth 100000 in
set_option maxHeartbeats 4000000 in
theorem c_X0_isSewn {g : GG} {h : HH} {o : Nat} {σ : SG} (ho : isC o) (W : WF σ) (C : RC (h (o + 1)) σ) {e : Nat} (he : e < sE σ) : CeI mX0_isSewn g [vr o, vi (e : Int)] h (bi (sewn σ e)) := by
  refine cn_q (lv := [vr o, vi (e : Int), vx, vx]) tX0_isSewn.1 rfl rfl (fun hR Q hQ => ?_)
  have w1 := W.1
  have w2 := W.2.1
  have w3 := W.2.2.1
  refine z_iconst dX0_isSewn_0 ?_
  refine z_istore_n dX0_isSewn_1 (by decide) rfl ?_
  have loop2 : ∀ (nw : Nat) (f : Nat), (f ≤ sF σ) → (∀ a, a < f → ∀ k, k < swl σ a → sle σ a k ≠ e) → sF σ - f < nw → Z mX0_isSewn g 2 [vr o, vi (e : Int), vi (f : Int), vx] [] h Q := by
    intro nw
    induction nw with
    | zero => intro f hf hz hn; exact absurd hn (Nat.not_lt_zero _)
    | succ nw ih2 =>
      intro f hf hz hn
      refine z_iload_n dX0_isSewn_2 rfl ?_
      refine z_aload_n dX0_isSewn_3 rfl ?_
      refine z_iconst dX0_isSewn_4 ?_
      refine z_callV_eI (M := mX0_isSewn) [_] tX0_sizeOf kX0_21 dX0_isSewn_5 (rcvC ho) ⟨by decide, by decide⟩ rfl (Nat.le_of_ble_eq_true rfl) rfl (s_X0_sizeF ho C) ?_
      refine z_icmp_ge 49 dX0_isSewn_8 (by decide) (by omega) (by omega) (fun c8 => ?_) (fun c8 => ?_)
      · refine z_iconst dX0_isSewn_49 ?_
        exact z_zreturn dX0_isSewn_50 rfl (by first | exact Or.inl rfl | exact Or.inr rfl | exact bi_01 _ | omega) (hQ _ _ ⟨_, rfl, (bi_f (fun q => by obtain ⟨a, k, h1, h2, h3⟩ := q; exact hz a (by omega) k h2 h3)), rfl⟩)
      · refine z_iconst dX0_isSewn_11 ?_
        refine z_istore_n dX0_isSewn_12 (by decide) rfl ?_
        have loop13 : ∀ (nw : Nat) (k : Nat), (k ≤ swl σ f) → (∀ a, a < k → sle σ f a ≠ e) → swl σ f - k < nw → Z mX0_isSewn g 13 [vr o, vi (e : Int), vi (f : Int), vi (k : Int)] [] h Q := by
          intro nw
          induction nw with
          | zero => intro k hk hy hn; exact absurd hn (Nat.not_lt_zero _)
          | succ nw ih13 =>
            intro k hk hy hn
            refine z_iload_n dX0_isSewn_13 rfl ?_
            refine z_aload_n dX0_isSewn_14 rfl ?_
            refine z_iload_n dX0_isSewn_15 rfl ?_
            refine z_callV_eI (M := mX0_isSewn) [_] tX0_wordSize kX0_65 dX0_isSewn_16 (rcvC ho) ⟨by decide, by decide⟩ rfl (Nat.le_of_ble_eq_true rfl) rfl (s_X0_wordSize ho W.wb C (by omega)) ?_
            have w4 := (W.2.2.2.2.1 f (by omega)).2.2.2.1
            have w5 := (W.2.2.2.2.1 f (by omega)).2.2.2.2.1
            refine z_icmp_ge 43 dX0_isSewn_19 (by decide) (by omega) (by omega) (fun c19 => ?_) (fun c19 => ?_)
            · refine z_iinc dX0_isSewn_43 rfl (by decide) rfl ?_
              refine z_goto 2 dX0_isSewn_46 (by decide) ?_
              refine z_forget 3 ?_
              exact ih2 (f + 1) (by omega) (lt_s hz (fun a ha => hy a (by omega))) (by omega)
            · refine z_aload_n dX0_isSewn_22 rfl ?_
              refine z_iload_n dX0_isSewn_23 rfl ?_
              refine z_iload_n dX0_isSewn_24 rfl ?_
              refine z_callV_eI (M := mX0_isSewn) [_, _] tX0_letterAt kX0_68 dX0_isSewn_25 (rcvC ho) ⟨by decide, by decide⟩ rfl (Nat.le_of_ble_eq_true rfl) rfl (s_X0_letterAt ho W.wb C (by omega) (by omega)) ?_
              have w6 := w5 k (by omega)
              refine z_callS_eI (M := mX0_isSewn) [_] tX4_edgeOf kX0_36 dX0_isSewn_28 ⟨by decide, by decide⟩ rfl (Nat.le_of_ble_eq_true rfl) rfl (s_X4_edgeOf _ (by omega)) ?_
              refine z_iload_n dX0_isSewn_31 rfl ?_
              refine z_icmp_ne 37 dX0_isSewn_32 (by decide) (by omega) (by omega) (fun c32 => ?_) (fun c32 => ?_)
              · refine z_iinc dX0_isSewn_37 rfl (by decide) rfl ?_
                refine z_goto 13 dX0_isSewn_40 (by decide) ?_
                exact ih13 (k + 1) (by omega) (lt_s hy (by omega)) (by omega)
              · refine z_iconst dX0_isSewn_35 ?_
                exact z_zreturn dX0_isSewn_36 rfl (by first | exact Or.inl rfl | exact Or.inr rfl | exact bi_01 _ | omega) (hQ _ _ ⟨_, rfl, (bi_t ⟨f, k, by omega, by omega, by omega⟩), rfl⟩)
        exact loop13 _ 0 (by omega) (fun p hp => absurd hp (Nat.not_lt_zero _)) (Nat.lt_succ_self _)
  exact loop2 _ 0 (by omega) (fun p hp => absurd hp (Nat.not_lt_zero _)) (Nat.lt_succ_self _)
set_option maxRecDepth 100000 in
set_option maxHeartbeats 4000000 in
theorem c_X0_kind0 {g : GG} {h : HH} {o : Nat} {σ : SG} (ho : isC o) (W : WF σ) (C : RC (h (o + 1)) σ) {d : Int} {c : Nat} (hd : R32 d) (hc : c < 6)  : CeI mX0_isOfKind g [vr o, vi d, vi (c : Int), vi 0] h (bi True) := by
  refine cn_q (lv := [vr o, vi d, vi (c : Int), vi 0]) tX0_isOfKind.1 rfl rfl (fun hR Q hQ => ?_)
  have w1 := W.1
  have w2 := W.2.1
  have w3 := W.2.2.1
  refine z_iload_n dX0_isOfKind_0 rfl ?_
  refine z_tswIn 40 dX0_isOfKind_1 (by decide) (by decide) (by decide) rfl (by decide) ?_
  refine z_iconst dX0_isOfKind_40 ?_
  exact z_zreturn dX0_isOfKind_41 rfl (by first | exact Or.inl rfl | exact Or.inr rfl | exact bi_01 _ | omega) (hQ _ _ ⟨_, rfl, (bi_t trivial), rfl⟩)
set_option maxRecDepth 100000 in
set_option maxHeartbeats 4000000 in
theorem c_X0_kind1 {g : GG} {h : HH} {o : Nat} {σ : SG} (ho : isC o) (W : WF σ) (C : RC (h (o + 1)) σ) {d : Int} {c : Nat} (hd : R32 d) (hc : c < 6)  : CeI mX0_isOfKind g [vr o, vi d, vi (c : Int), vi 1] h (bi (d = 0)) := by
  refine cn_q (lv := [vr o, vi d, vi (c : Int), vi 1]) tX0_isOfKind.1 rfl rfl (fun hR Q hQ => ?_)
  have w1 := W.1
  have w2 := W.2.1
  have w3 := W.2.2.1
  refine z_iload_n dX0_isOfKind_0 rfl ?_
  refine z_tswIn 42 dX0_isOfKind_1 (by decide) (by decide) (by decide) rfl (by decide) ?_
  refine z_iload_n dX0_isOfKind_42 rfl ?_
  refine z_if_ne 50 dX0_isOfKind_43 (by decide) (by omega) (fun c43 => ?_) (fun c43 => ?_)
  · refine z_iconst dX0_isOfKind_50 ?_
    exact z_zreturn dX0_isOfKind_51 rfl (by first | exact Or.inl rfl | exact Or.inr rfl | exact bi_01 _ | omega) (hQ _ _ ⟨_, rfl, (by first | (exfalso; omega) | exact bi_t (by omega) | exact bi_f (by omega)), rfl⟩)
  · refine z_iconst dX0_isOfKind_46 ?_
    refine z_goto 51 dX0_isOfKind_47 (by decide) ?_
    exact z_zreturn dX0_isOfKind_51 rfl (by first | exact Or.inl rfl | exact Or.inr rfl | exact bi_01 _ | omega) (hQ _ _ ⟨_, rfl, (by first | (exfalso; omega) | exact bi_t (by omega) | exact bi_f (by omega)), rfl⟩)
set_option maxRecDepth 100000 in
set_option maxHeartbeats 4000000 in
theorem c_X0_kind2 {g : GG} {h : HH} {o : Nat} {σ : SG} (ho : isC o) (W : WF σ) (C : RC (h (o + 1)) σ) {d : Int} {c : Nat} (hd : R32 d) (hc : c < 6)  : CeI mX0_isOfKind g [vr o, vi d, vi (c : Int), vi 2] h (bi (d = 1)) := by
  refine cn_q (lv := [vr o, vi d, vi (c : Int), vi 2]) tX0_isOfKind.1 rfl rfl (fun hR Q hQ => ?_)
  have w1 := W.1
  have w2 := W.2.1
  have w3 := W.2.2.1
  refine z_iload_n dX0_isOfKind_0 rfl ?_
  refine z_tswIn 52 dX0_isOfKind_1 (by decide) (by decide) (by decide) rfl (by decide) ?_
  refine z_iload_n dX0_isOfKind_52 rfl ?_
  refine z_iconst dX0_isOfKind_53 ?_
  refine z_icmp_ne 61 dX0_isOfKind_54 (by decide) (by omega) (by omega) (fun c54 => ?_) (fun c54 => ?_)
  · refine z_iconst dX0_isOfKind_61 ?_
    exact z_zreturn dX0_isOfKind_62 rfl (by first | exact Or.inl rfl | exact Or.inr rfl | exact bi_01 _ | omega) (hQ _ _ ⟨_, rfl, (by first | (exfalso; omega) | exact bi_t (by omega) | exact bi_f (by omega)), rfl⟩)
  · refine z_iconst dX0_isOfKind_57 ?_
    refine z_goto 62 dX0_isOfKind_58 (by decide) ?_
    exact z_zreturn dX0_isOfKind_62 rfl (by first | exact Or.inl rfl | exact Or.inr rfl | exact bi_01 _ | omega) (hQ _ _ ⟨_, rfl, (by first | (exfalso; omega) | exact bi_t (by omega) | exact bi_f (by omega)), rfl⟩)
set_option maxRecDepth 100000 in
set_option maxHeartbeats 4000000 in
theorem c_X0_kind3 {g : GG} {h : HH} {o : Nat} {σ : SG} (ho : isC o) (W : WF σ) (C : RC (h (o + 1)) σ) {d : Int} {c : Nat} (hd : R32 d) (hc : c < 6) (h1 : d = 1 → c < sE σ)  : CeI mX0_isOfKind g [vr o, vi d, vi (c : Int), vi 3] h (bi (d = 1 ∧ sfr σ c = sto σ c)) := by
  refine cn_q (lv := [vr o, vi d, vi (c : Int), vi 3]) tX0_isOfKind.1 rfl rfl (fun hR Q hQ => ?_)
  have w1 := W.1
  have w2 := W.2.1
  have w3 := W.2.2.1
  refine z_iload_n dX0_isOfKind_0 rfl ?_
  refine z_tswIn 63 dX0_isOfKind_1 (by decide) (by decide) (by decide) rfl (by decide) ?_
  refine z_iload_n dX0_isOfKind_63 rfl ?_
  refine z_iconst dX0_isOfKind_64 ?_
  refine z_icmp_ne 85 dX0_isOfKind_65 (by decide) (by omega) (by omega) (fun c65 => ?_) (fun c65 => ?_)
  · refine z_iconst dX0_isOfKind_85 ?_
    exact z_zreturn dX0_isOfKind_86 rfl (by first | exact Or.inl rfl | exact Or.inr rfl | exact bi_01 _ | omega) (hQ _ _ ⟨_, rfl, (by first | exact bi_t (by omega) | exact bi_f (by omega)), rfl⟩)
  · refine z_aload_n dX0_isOfKind_68 rfl ?_
    refine z_iload_n dX0_isOfKind_69 rfl ?_
    refine z_callV_eI (M := mX0_isOfKind) [_] tX0_fromOf kX0_48 dX0_isOfKind_70 (rcvC ho) ⟨by decide, by decide⟩ rfl (Nat.le_of_ble_eq_true rfl) rfl (s_X0_fromOf ho W.wb C (h1 c65)) ?_
    have w4 := W.2.2.2.1 c (h1 c65)
    refine z_aload_n dX0_isOfKind_73 rfl ?_
    refine z_iload_n dX0_isOfKind_74 rfl ?_
    refine z_callV_eI (M := mX0_isOfKind) [_] tX0_toOf kX0_45 dX0_isOfKind_75 (rcvC ho) ⟨by decide, by decide⟩ rfl (Nat.le_of_ble_eq_true rfl) rfl (s_X0_toOf ho W.wb C (h1 c65)) ?_
    refine z_icmp_ne 85 dX0_isOfKind_78 (by decide) (by omega) (by omega) (fun c78 => ?_) (fun c78 => ?_)
    · refine z_iconst dX0_isOfKind_85 ?_
      exact z_zreturn dX0_isOfKind_86 rfl (by first | exact Or.inl rfl | exact Or.inr rfl | exact bi_01 _ | omega) (hQ _ _ ⟨_, rfl, (by first | exact bi_t (by omega) | exact bi_f (by omega)), rfl⟩)
    · refine z_iconst dX0_isOfKind_81 ?_
      refine z_goto 86 dX0_isOfKind_82 (by decide) ?_
      exact z_zreturn dX0_isOfKind_86 rfl (by first | exact Or.inl rfl | exact Or.inr rfl | exact bi_01 _ | omega) (hQ _ _ ⟨_, rfl, (by first | exact bi_t (by omega) | exact bi_f (by omega)), rfl⟩)
set_option maxRecDepth 100000 in
set_option maxHeartbeats 4000000 in
theorem c_X0_kind4 {g : GG} {h : HH} {o : Nat} {σ : SG} (ho : isC o) (W : WF σ) (C : RC (h (o + 1)) σ) {d : Int} {c : Nat} (hd : R32 d) (hc : c < 6)  : CeI mX0_isOfKind g [vr o, vi d, vi (c : Int), vi 4] h (bi (d = 2)) := by
  refine cn_q (lv := [vr o, vi d, vi (c : Int), vi 4]) tX0_isOfKind.1 rfl rfl (fun hR Q hQ => ?_)
  have w1 := W.1
  have w2 := W.2.1
  have w3 := W.2.2.1
  refine z_iload_n dX0_isOfKind_0 rfl ?_
  refine z_tswIn 87 dX0_isOfKind_1 (by decide) (by decide) (by decide) rfl (by decide) ?_
  refine z_iload_n dX0_isOfKind_87 rfl ?_
  refine z_iconst dX0_isOfKind_88 ?_
  refine z_icmp_ne 96 dX0_isOfKind_89 (by decide) (by omega) (by omega) (fun c89 => ?_) (fun c89 => ?_)
  · refine z_iconst dX0_isOfKind_96 ?_
    exact z_zreturn dX0_isOfKind_97 rfl (by first | exact Or.inl rfl | exact Or.inr rfl | exact bi_01 _ | omega) (hQ _ _ ⟨_, rfl, (by first | (exfalso; omega) | exact bi_t (by omega) | exact bi_f (by omega)), rfl⟩)
  · refine z_iconst dX0_isOfKind_92 ?_
    refine z_goto 97 dX0_isOfKind_93 (by decide) ?_
    exact z_zreturn dX0_isOfKind_97 rfl (by first | exact Or.inl rfl | exact Or.inr rfl | exact bi_01 _ | omega) (hQ _ _ ⟨_, rfl, (by first | (exfalso; omega) | exact bi_t (by omega) | exact bi_f (by omega)), rfl⟩)
set_option maxRecDepth 100000 in
set_option maxHeartbeats 4000000 in
theorem c_X0_kind5 {g : GG} {h : HH} {o : Nat} {σ : SG} (ho : isC o) (W : WF σ) (C : RC (h (o + 1)) σ) {d : Int} {c : Nat} (hd : R32 d) (hc : c < 6) (h2 : d = 2 → c < sF σ)  : CeI mX0_isOfKind g [vr o, vi d, vi (c : Int), vi 5] h (bi (d = 2 ∧ sld σ c)) := by
  refine cn_q (lv := [vr o, vi d, vi (c : Int), vi 5]) tX0_isOfKind.1 rfl rfl (fun hR Q hQ => ?_)
  have w1 := W.1
  have w2 := W.2.1
  have w3 := W.2.2.1
  refine z_iload_n dX0_isOfKind_0 rfl ?_
  refine z_tswIn 98 dX0_isOfKind_1 (by decide) (by decide) (by decide) rfl (by decide) ?_
  refine z_iload_n dX0_isOfKind_98 rfl ?_
  refine z_iconst dX0_isOfKind_99 ?_
  refine z_icmp_ne 115 dX0_isOfKind_100 (by decide) (by omega) (by omega) (fun c100 => ?_) (fun c100 => ?_)
  · refine z_iconst dX0_isOfKind_115 ?_
    exact z_zreturn dX0_isOfKind_116 rfl (by first | exact Or.inl rfl | exact Or.inr rfl | exact bi_01 _ | omega) (hQ _ _ ⟨_, rfl, (by first | exact bi_t ⟨c100, c108⟩ | exact bi_f (fun q => c108 q.2) | exact bi_f (fun q => c100 q.1)), rfl⟩)
  · refine z_aload_n dX0_isOfKind_103 rfl ?_
    refine z_iload_n dX0_isOfKind_104 rfl ?_
    refine z_callV_eI (M := mX0_isOfKind) [_] tX0_isSealed kX0_81 dX0_isOfKind_105 (rcvC ho) ⟨by decide, by decide⟩ rfl (Nat.le_of_ble_eq_true rfl) rfl (c_X0_isSealed ho W C (h2 c100)) ?_
    refine z_if_eq 115 dX0_isOfKind_108 (by decide) (bi_r _) (fun c108 => ?_) (fun c108 => ?_)
    · have c108 := bi_eq.mp c108
      refine z_iconst dX0_isOfKind_115 ?_
      exact z_zreturn dX0_isOfKind_116 rfl (by first | exact Or.inl rfl | exact Or.inr rfl | exact bi_01 _ | omega) (hQ _ _ ⟨_, rfl, (by first | exact bi_t ⟨c100, c108⟩ | exact bi_f (fun q => c108 q.2) | exact bi_f (fun q => c100 q.1)), rfl⟩)
    · have c108 := bi_ne.mp c108
      refine z_iconst dX0_isOfKind_111 ?_
      refine z_goto 116 dX0_isOfKind_112 (by decide) ?_
      exact z_zreturn dX0_isOfKind_116 rfl (by first | exact Or.inl rfl | exact Or.inr rfl | exact bi_01 _ | omega) (hQ _ _ ⟨_, rfl, (by first | exact bi_t ⟨c100, c108⟩ | exact bi_f (fun q => c108 q.2) | exact bi_f (fun q => c100 q.1)), rfl⟩)

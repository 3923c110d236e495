set_option maxRecDepth 100000 in
set_option maxHeartbeats 4000000 in
theorem c_X6_cellN {g : GG} {h : HH} {σ : SG} (W : WF σ) (R : RM (h 48) σ) {d : Int} (hd : R32 d) (hn : ¬ (0 ≤ d ∧ d ≤ 2)) {c : Int} (hc : R32 c) {w : Int} (hw : R32 w) : CeI mX6_cell g [vr 47, vi d, vi c, vi w] h kBAD := by
  refine cn_q (lv := [vr 47, vi d, vi c, vi w]) tX6_cell.1 rfl rfl (fun hR Q hQ => ?_)
  refine z_iload_n dX6_cell_0 rfl ?_
  refine z_if_eq 13 dX6_cell_1 (by decide) (by omega) (fun c1 => ?_) (fun c1 => ?_)
  · refine z_ldc (-1000001) dX6_cell_13 qX6_218 rfl ?_
    exact z_ireturn dX6_cell_15 rfl (hQ _ _ ⟨_, rfl, rfl, rfl⟩)
  · refine z_aload_n dX6_cell_4 rfl ?_
    refine z_iload_n dX6_cell_5 rfl ?_
    refine z_iload_n dX6_cell_6 rfl ?_
    refine z_callV_eI (M := mX6_cell) [_, _] tX6_isCell kX6_247 dX6_cell_7 ⟨by decide, rfl, _, _, rfl⟩ ⟨by decide, by decide⟩ rfl (Nat.le_of_ble_eq_true rfl) rfl (c_X6_isCellN W.wb R (by omega) (by omega) (by omega)) ?_
    refine z_if_ne 16 dX6_cell_10 (by decide) (bi_r _) (fun c10 => ?_) (fun c10 => ?_)
    · have c10 := bi_ne.mp c10
      exact c10.elim
    · have c10 := bi_eq.mp c10
      refine z_ldc (-1000001) dX6_cell_13 qX6_218 rfl ?_
      exact z_ireturn dX6_cell_15 rfl (hQ _ _ ⟨_, rfl, rfl, rfl⟩)
set_option maxRecDepth 100000 in
set_option maxHeartbeats 4000000 in
theorem c_X6_cell0 {g : GG} {h : HH} {σ : SG} (W : WF σ) (R : RM (h 48) σ) {c : Int} (hc : R32 c) {w : Int} (hw : R32 w) : CeI mX6_cell g [vr 47, vi 0, vi c, vi w] h kBAD := by
  refine cn_q (lv := [vr 47, vi 0, vi c, vi w]) tX6_cell.1 rfl rfl (fun hR Q hQ => ?_)
  refine z_iload_n dX6_cell_0 rfl ?_
  refine z_if_eq 13 dX6_cell_1 (by decide) (by omega) (fun c1 => ?_) (fun c1 => ?_)
  · refine z_ldc (-1000001) dX6_cell_13 qX6_218 rfl ?_
    exact z_ireturn dX6_cell_15 rfl (hQ _ _ ⟨_, rfl, rfl, rfl⟩)
  · omega
set_option maxRecDepth 100000 in
set_option maxHeartbeats 4000000 in
theorem c_X6_cellO1 {g : GG} {h : HH} {σ : SG} (W : WF σ) (R : RM (h 48) σ) {c : Int} (hc : R32 c) (ho : ¬ (0 ≤ c ∧ c < sE σ)) {w : Int} (hw : R32 w) : CeI mX6_cell g [vr 47, vi 1, vi c, vi w] h kBAD := by
  refine cn_q (lv := [vr 47, vi 1, vi c, vi w]) tX6_cell.1 rfl rfl (fun hR Q hQ => ?_)
  refine z_iload_n dX6_cell_0 rfl ?_
  refine z_if_eq 13 dX6_cell_1 (by decide) (by omega) (fun c1 => ?_) (fun c1 => ?_)
  · omega
  · refine z_aload_n dX6_cell_4 rfl ?_
    refine z_iload_n dX6_cell_5 rfl ?_
    refine z_iload_n dX6_cell_6 rfl ?_
    refine z_callV_eI (M := mX6_cell) [_, _] tX6_isCell kX6_247 dX6_cell_7 ⟨by decide, rfl, _, _, rfl⟩ ⟨by decide, by decide⟩ rfl (Nat.le_of_ble_eq_true rfl) rfl (c_X6_isCell1 W.wb R (by omega)) ?_
    refine z_if_ne 16 dX6_cell_10 (by decide) (bi_r _) (fun c10 => ?_) (fun c10 => ?_)
    · have c10 := bi_ne.mp c10
      exact absurd c10 ho
    · have c10 := bi_eq.mp c10
      refine z_ldc (-1000001) dX6_cell_13 qX6_218 rfl ?_
      exact z_ireturn dX6_cell_15 rfl (hQ _ _ ⟨_, rfl, rfl, rfl⟩)
set_option maxRecDepth 100000 in
set_option maxHeartbeats 4000000 in
theorem c_X6_cellO2 {g : GG} {h : HH} {σ : SG} (W : WF σ) (R : RM (h 48) σ) {c : Int} (hc : R32 c) (ho : ¬ (0 ≤ c ∧ c < sF σ)) {w : Int} (hw : R32 w) : CeI mX6_cell g [vr 47, vi 2, vi c, vi w] h kBAD := by
  refine cn_q (lv := [vr 47, vi 2, vi c, vi w]) tX6_cell.1 rfl rfl (fun hR Q hQ => ?_)
  refine z_iload_n dX6_cell_0 rfl ?_
  refine z_if_eq 13 dX6_cell_1 (by decide) (by omega) (fun c1 => ?_) (fun c1 => ?_)
  · omega
  · refine z_aload_n dX6_cell_4 rfl ?_
    refine z_iload_n dX6_cell_5 rfl ?_
    refine z_iload_n dX6_cell_6 rfl ?_
    refine z_callV_eI (M := mX6_cell) [_, _] tX6_isCell kX6_247 dX6_cell_7 ⟨by decide, rfl, _, _, rfl⟩ ⟨by decide, by decide⟩ rfl (Nat.le_of_ble_eq_true rfl) rfl (c_X6_isCell2 W.wb R (by omega)) ?_
    refine z_if_ne 16 dX6_cell_10 (by decide) (bi_r _) (fun c10 => ?_) (fun c10 => ?_)
    · have c10 := bi_ne.mp c10
      exact absurd c10 ho
    · have c10 := bi_eq.mp c10
      refine z_ldc (-1000001) dX6_cell_13 qX6_218 rfl ?_
      exact z_ireturn dX6_cell_15 rfl (hQ _ _ ⟨_, rfl, rfl, rfl⟩)
set_option maxRecDepth 100000 in
set_option maxHeartbeats 4000000 in
theorem c_X6_cell1 {g : GG} {h : HH} {σ : SG} (W : WF σ) (R : RM (h 48) σ) {c : Nat} (hc : c < sE σ) {w : Int} (hw : R32 w) : CeI mX6_cell g [vr 47, vi 1, vi (c : Int), vi w] h (if w = 0 then (sew σ c : Int) else if w = 1 then (sfr σ c : Int) else if w = 2 then (sto σ c : Int) else kBAD) := by
  refine cn_q (lv := [vr 47, vi 1, vi (c : Int), vi w]) tX6_cell.1 rfl rfl (fun hR Q hQ => ?_)
  have w1 := W.1
  have w2 := W.2.1
  have w3 := W.2.2.1
  refine z_iload_n dX6_cell_0 rfl ?_
  refine z_if_eq 13 dX6_cell_1 (by decide) (by omega) (fun c1 => ?_) (fun c1 => ?_)
  · omega
  · refine z_aload_n dX6_cell_4 rfl ?_
    refine z_iload_n dX6_cell_5 rfl ?_
    refine z_iload_n dX6_cell_6 rfl ?_
    refine z_callV_eI (M := mX6_cell) [_, _] tX6_isCell kX6_247 dX6_cell_7 ⟨by decide, rfl, _, _, rfl⟩ ⟨by decide, by decide⟩ rfl (Nat.le_of_ble_eq_true rfl) rfl (c_X6_isCell1 W.wb R (by omega)) ?_
    refine z_if_ne 16 dX6_cell_10 (by decide) (bi_r _) (fun c10 => ?_) (fun c10 => ?_)
    · have c10 := bi_ne.mp c10
      refine z_iload_n dX6_cell_16 rfl ?_
      refine z_if_ne 30 dX6_cell_17 (by decide) (by omega) (fun c17 => ?_) (fun c17 => ?_)
      · refine z_iload_n dX6_cell_30 rfl ?_
        refine z_iconst dX6_cell_31 ?_
        refine z_icmp_ne 62 dX6_cell_32 (by decide) (by omega) (by omega) (fun c32 => ?_) (fun c32 => ?_)
        · omega
        · refine z_iload_n dX6_cell_35 rfl ?_
          refine z_iconst dX6_cell_36 ?_
          refine z_icmp_eq 45 dX6_cell_37 (by decide) (by omega) (by omega) (fun c37 => ?_) (fun c37 => ?_)
          · refine z_aload_n dX6_cell_45 rfl ?_
            refine z_getR fX6_7 dX6_cell_46 (by decide) rfl rfl ?_
            refine z_iload_n dX6_cell_49 rfl ?_
            refine z_iload_n dX6_cell_50 rfl ?_
            refine z_iconst dX6_cell_51 ?_
            refine z_isub dX6_cell_52 ?_
            refine z_callS_eI (M := mX6_cell) [_, _, _] tX6_edgeAt kX6_56 dX6_cell_53 ⟨by decide, by decide⟩ rfl (Nat.le_of_ble_eq_true rfl) rfl (c_X6_edgeAt isB48 (by omega) (by omega) (by omega)) ?_
            refine z_goto 61 dX6_cell_56 (by decide) ?_
            exact z_ireturn dX6_cell_61 rfl (hQ _ _ ⟨_, rfl, (by rw [rm_fr R hc (by omega)]; first | rfl | (exfalso; omega) | ((repeat' split) <;> first | rfl | omega | (exfalso; omega))), rfl⟩)
          · refine z_iload_n dX6_cell_40 rfl ?_
            refine z_iconst dX6_cell_41 ?_
            refine z_icmp_ne 59 dX6_cell_42 (by decide) (by omega) (by omega) (fun c42 => ?_) (fun c42 => ?_)
            · refine z_ldc (-1000001) dX6_cell_59 qX6_218 rfl ?_
              exact z_ireturn dX6_cell_61 rfl (hQ _ _ ⟨_, rfl, (by first | rfl | (exfalso; omega) | ((repeat' split) <;> first | rfl | omega | (exfalso; omega))), rfl⟩)
            · refine z_aload_n dX6_cell_45 rfl ?_
              refine z_getR fX6_7 dX6_cell_46 (by decide) rfl rfl ?_
              refine z_iload_n dX6_cell_49 rfl ?_
              refine z_iload_n dX6_cell_50 rfl ?_
              refine z_iconst dX6_cell_51 ?_
              refine z_isub dX6_cell_52 ?_
              refine z_callS_eI (M := mX6_cell) [_, _, _] tX6_edgeAt kX6_56 dX6_cell_53 ⟨by decide, by decide⟩ rfl (Nat.le_of_ble_eq_true rfl) rfl (c_X6_edgeAt isB48 (by omega) (by omega) (by omega)) ?_
              refine z_goto 61 dX6_cell_56 (by decide) ?_
              exact z_ireturn dX6_cell_61 rfl (hQ _ _ ⟨_, rfl, (by rw [rm_to R hc (by omega)]; first | rfl | (exfalso; omega) | ((repeat' split) <;> first | rfl | omega | (exfalso; omega))), rfl⟩)
      · refine z_aload_n dX6_cell_20 rfl ?_
        refine z_getR fX6_7 dX6_cell_21 (by decide) rfl rfl ?_
        refine z_iload_n dX6_cell_24 rfl ?_
        refine z_iload_n dX6_cell_25 rfl ?_
        refine z_callS_eI (M := mX6_cell) [_, _, _] tX6_weight kX6_81 dX6_cell_26 ⟨by decide, by decide⟩ rfl (Nat.le_of_ble_eq_true rfl) rfl (c_X6_weightE isB48 W.wb R hc) ?_
        exact z_ireturn dX6_cell_29 rfl (hQ _ _ ⟨_, rfl, (by first | rfl | (exfalso; omega) | ((repeat' split) <;> first | rfl | omega | (exfalso; omega))), rfl⟩)
    · have c10 := bi_eq.mp c10
      exact absurd ⟨by omega, by omega⟩ c10
set_option maxRecDepth 100000 in
set_option maxHeartbeats 4000000 in
theorem c_X6_cell2 {g : GG} {h : HH} {σ : SG} (W : WF σ) (R : RM (h 48) σ) {c : Nat} (hc : c < sF σ) {w : Int} (hw : R32 w) : CeI mX6_cell g [vr 47, vi 2, vi (c : Int), vi w] h (if w = 0 then (sfw σ c : Int) else if w = 1 then (swl σ c : Int) else if w = 2 then (bgn σ c 0 : Int) else if w < 10 ∨ 14 ≤ w then kBAD else if w - 10 < swl σ c then cod (sle σ c (w - 10).toNat) (ssg σ c (w - 10).toNat) else kNONE) := by
  refine cn_q (lv := [vr 47, vi 2, vi (c : Int), vi w]) tX6_cell.1 rfl rfl (fun hR Q hQ => ?_)
  have w1 := W.1
  have w2 := W.2.1
  have w3 := W.2.2.1
  have w5 := (W.2.2.2.2.1 c hc).2.2.1
  have w6 := (W.2.2.2.2.1 c hc).2.2.2.1
  have w7 := (W.2.2.2.2.1 c hc).2.2.2.2.1
  have r5 := R.2.2.2.2.1 c hc
  refine z_iload_n dX6_cell_0 rfl ?_
  refine z_if_eq 13 dX6_cell_1 (by decide) (by omega) (fun c1 => ?_) (fun c1 => ?_)
  · omega
  · refine z_aload_n dX6_cell_4 rfl ?_
    refine z_iload_n dX6_cell_5 rfl ?_
    refine z_iload_n dX6_cell_6 rfl ?_
    refine z_callV_eI (M := mX6_cell) [_, _] tX6_isCell kX6_247 dX6_cell_7 ⟨by decide, rfl, _, _, rfl⟩ ⟨by decide, by decide⟩ rfl (Nat.le_of_ble_eq_true rfl) rfl (c_X6_isCell2 W.wb R (by omega)) ?_
    refine z_if_ne 16 dX6_cell_10 (by decide) (bi_r _) (fun c10 => ?_) (fun c10 => ?_)
    · have c10 := bi_ne.mp c10
      refine z_iload_n dX6_cell_16 rfl ?_
      refine z_if_ne 30 dX6_cell_17 (by decide) (by omega) (fun c17 => ?_) (fun c17 => ?_)
      · refine z_iload_n dX6_cell_30 rfl ?_
        refine z_iconst dX6_cell_31 ?_
        refine z_icmp_ne 62 dX6_cell_32 (by decide) (by omega) (by omega) (fun c32 => ?_) (fun c32 => ?_)
        · refine z_iload_n dX6_cell_62 rfl ?_
          refine z_iconst dX6_cell_63 ?_
          refine z_icmp_ne 76 dX6_cell_64 (by decide) (by omega) (by omega) (fun c64 => ?_) (fun c64 => ?_)
          · refine z_iload_n dX6_cell_76 rfl ?_
            refine z_iconst dX6_cell_77 ?_
            refine z_icmp_ne 98 dX6_cell_78 (by decide) (by omega) (by omega) (fun c78 => ?_) (fun c78 => ?_)
            · refine z_iload_n dX6_cell_98 rfl ?_
              refine z_i2l dX6_cell_99 (by omega) ?_
              refine z_ldc2 (10) dX6_cell_100 qX6_284 rfl ?_
              refine z_ldc2 (13) dX6_cell_103 qX6_286 rfl ?_
              refine z_callS_eI (M := mX6_cell) [_, _, _] tX6_in kX6_150 dX6_cell_106 ⟨by decide, by decide⟩ rfl (Nat.le_of_ble_eq_true rfl) rfl (c_X6_in (by omega) (by omega) (by omega)) ?_
              refine z_if_ne 117 dX6_cell_109 (by decide) (bi_r _) (fun c109 => ?_) (fun c109 => ?_)
              · have c109 := bi_ne.mp c109
                refine z_iload_n dX6_cell_117 rfl ?_
                refine z_bipush dX6_cell_118 (by decide) ?_
                refine z_isub dX6_cell_120 ?_
                refine z_aload_n dX6_cell_121 rfl ?_
                refine z_getR fX6_7 dX6_cell_122 (by decide) rfl rfl ?_
                refine z_iload_n dX6_cell_125 rfl ?_
                refine z_callS_eI (M := mX6_cell) [_, _] tX6_many kX6_60 dX6_cell_126 ⟨by decide, by decide⟩ rfl (Nat.le_of_ble_eq_true rfl) rfl (c_X6_many isB48 (by omega)) ?_
                rw [r5.2.1]
                refine z_icmp_ge 151 dX6_cell_129 (by decide) (by omega) (by omega) (fun c129 => ?_) (fun c129 => ?_)
                · refine z_ldcw (-1000000) dX6_cell_151 qX6_291 rfl ?_
                  exact z_ireturn dX6_cell_154 rfl (hQ _ _ ⟨_, rfl, (by first | rfl | (exfalso; omega) | ((repeat' split) <;> first | rfl | omega | (exfalso; omega))), rfl⟩)
                · refine z_aload_n dX6_cell_132 rfl ?_
                  refine z_aload_n dX6_cell_133 rfl ?_
                  refine z_getR fX6_7 dX6_cell_134 (by decide) rfl rfl ?_
                  refine z_iload_n dX6_cell_137 rfl ?_
                  refine z_iload_n dX6_cell_138 rfl ?_
                  refine z_bipush dX6_cell_139 (by decide) ?_
                  refine z_isub dX6_cell_141 ?_
                  refine z_callS_eI (M := mX6_cell) [_, _, _] tX6_letter kX6_64 dX6_cell_142 ⟨by decide, by decide⟩ rfl (Nat.le_of_ble_eq_true rfl) rfl (by have := c_X6_letter (g := g) (h := h) isB48 (f := c) (k := (w - 10).toNat) (by omega) (by omega); rw [show (((w - 10).toNat : Nat) : Int) = w - 10 by omega] at this; exact this) ?_
                  rw [r5.2.2 (w - 10).toNat (by omega), show (if ssg σ c (w - 10).toNat then -(sle σ c (w - 10).toNat : Int) - 1 else (sle σ c (w - 10).toNat : Int) + 1) = lcd (sle σ c (w - 10).toNat) (ssg σ c (w - 10).toNat) from rfl]
                  have l0 := w7 (w - 10).toNat (by omega)
                  refine z_callV_eI (M := mX6_cell) [_] tX6_code kX6_288 dX6_cell_145 ⟨by decide, rfl, _, _, rfl⟩ ⟨by decide, by decide⟩ rfl (Nat.le_of_ble_eq_true rfl) rfl (c_X6_code (ssg σ c (w - 10).toNat) (by omega)) ?_
                  refine z_goto 154 dX6_cell_148 (by decide) ?_
                  exact z_ireturn dX6_cell_154 rfl (hQ _ _ ⟨_, rfl, (by first | rfl | (exfalso; omega) | ((repeat' split) <;> first | rfl | omega | (exfalso; omega))), rfl⟩)
              · have c109 := bi_eq.mp c109
                refine z_ldc (-1000001) dX6_cell_112 qX6_218 rfl ?_
                refine z_goto 154 dX6_cell_114 (by decide) ?_
                exact z_ireturn dX6_cell_154 rfl (hQ _ _ ⟨_, rfl, (by first | rfl | (exfalso; omega) | ((repeat' split) <;> first | rfl | omega | (exfalso; omega))), rfl⟩)
            · refine z_aload_n dX6_cell_81 rfl ?_
              refine z_getR fX6_7 dX6_cell_82 (by decide) rfl rfl ?_
              refine z_aload_n dX6_cell_85 rfl ?_
              refine z_getR fX6_7 dX6_cell_86 (by decide) rfl rfl ?_
              refine z_iload_n dX6_cell_89 rfl ?_
              refine z_iconst dX6_cell_90 ?_
              refine z_callS_eI (M := mX6_cell) [_, _, _] tX6_letter kX6_64 dX6_cell_91 ⟨by decide, by decide⟩ rfl (Nat.le_of_ble_eq_true rfl) rfl (c_X6_letter isB48 (by omega) (k := 0) (by omega)) ?_
              rw [r5.2.2 0 (by omega), show (if ssg σ c 0 then -(sle σ c 0 : Int) - 1 else (sle σ c 0 : Int) + 1) = lcd (sle σ c 0) (ssg σ c 0) from rfl]
              refine z_callS_eI (M := mX6_cell) [_, _] tX6_beginOf kX6_188 dX6_cell_94 ⟨by decide, by decide⟩ rfl (Nat.le_of_ble_eq_true rfl) rfl (c_X6_beginOf isB48 W.wb R (ssg σ c 0) (w7 0 (by omega))) ?_
              exact z_ireturn dX6_cell_97 rfl (hQ _ _ ⟨_, rfl, (by first | rfl | (exfalso; omega) | ((repeat' split) <;> first | rfl | omega | (exfalso; omega))), rfl⟩)
          · refine z_aload_n dX6_cell_67 rfl ?_
            refine z_getR fX6_7 dX6_cell_68 (by decide) rfl rfl ?_
            refine z_iload_n dX6_cell_71 rfl ?_
            refine z_callS_eI (M := mX6_cell) [_, _] tX6_many kX6_60 dX6_cell_72 ⟨by decide, by decide⟩ rfl (Nat.le_of_ble_eq_true rfl) rfl (c_X6_many isB48 (by omega)) ?_
            rw [r5.2.1]
            exact z_ireturn dX6_cell_75 rfl (hQ _ _ ⟨_, rfl, (by first | rfl | (exfalso; omega) | ((repeat' split) <;> first | rfl | omega | (exfalso; omega))), rfl⟩)
        · omega
      · refine z_aload_n dX6_cell_20 rfl ?_
        refine z_getR fX6_7 dX6_cell_21 (by decide) rfl rfl ?_
        refine z_iload_n dX6_cell_24 rfl ?_
        refine z_iload_n dX6_cell_25 rfl ?_
        refine z_callS_eI (M := mX6_cell) [_, _, _] tX6_weight kX6_81 dX6_cell_26 ⟨by decide, by decide⟩ rfl (Nat.le_of_ble_eq_true rfl) rfl (c_X6_weightF isB48 W.wb R hc) ?_
        exact z_ireturn dX6_cell_29 rfl (hQ _ _ ⟨_, rfl, (by first | rfl | (exfalso; omega) | ((repeat' split) <;> first | rfl | omega | (exfalso; omega))), rfl⟩)
    · have c10 := bi_eq.mp c10
      exact absurd ⟨by omega, by omega⟩ c10
set_option maxRecDepth 100000 in
set_option maxHeartbeats 4000000 in
theorem c_X6_tableN {g : GG} {h : HH} {σ : SG} (W : WF σ) (R : RM (h 48) σ) {d i j : Int} (hd : R32 d) (hn : d < 1 ∨ 2 < d) (hi : R32 i) (hj : R32 j) : CeI mX6_table g [vr 47, vi d, vi i, vi j] h kBAD := by
  refine cn_q (lv := [vr 47, vi d, vi i, vi j]) tX6_table.1 rfl rfl (fun hR Q hQ => ?_)
  refine z_iload_n dX6_table_0 rfl ?_
  refine z_i2l dX6_table_1 (by omega) ?_
  refine z_lconst (z := 1) dX6_table_2 rfl ?_
  refine z_ldc2 (2) dX6_table_3 qX6_242 rfl ?_
  refine z_callS_eI (M := mX6_table) [_, _, _] tX6_in kX6_150 dX6_table_6 ⟨by decide, by decide⟩ rfl (Nat.le_of_ble_eq_true rfl) rfl (c_X6_in (by omega) (by omega) (by omega)) ?_
  refine z_if_eq 46 dX6_table_9 (by decide) (bi_r _) (fun c9 => ?_) (fun c9 => ?_)
  · have c9 := bi_eq.mp c9
    refine z_ldc (-1000001) dX6_table_46 qX6_218 rfl ?_
    exact z_ireturn dX6_table_48 rfl (hQ _ _ ⟨_, rfl, rfl, rfl⟩)
  · have c9 := bi_ne.mp c9
    omega
set_option maxRecDepth 100000 in
set_option maxHeartbeats 4000000 in
theorem c_X6_tableO1 {g : GG} {h : HH} {σ : SG} (W : WF σ) (R : RM (h 48) σ) {i j : Int} (hi : R32 i) (hj : R32 j) (ho : ¬ (0 ≤ i ∧ i < sP σ ∧ 0 ≤ j ∧ j < sE σ)) : CeI mX6_table g [vr 47, vi 1, vi i, vi j] h kBAD := by
  refine cn_q (lv := [vr 47, vi 1, vi i, vi j]) tX6_table.1 rfl rfl (fun hR Q hQ => ?_)
  have w1 := W.1
  have w2 := W.2.1
  have w3 := W.2.2.1
  refine z_iload_n dX6_table_0 rfl ?_
  refine z_i2l dX6_table_1 (by omega) ?_
  refine z_lconst (z := 1) dX6_table_2 rfl ?_
  refine z_ldc2 (2) dX6_table_3 qX6_242 rfl ?_
  refine z_callS_eI (M := mX6_table) [_, _, _] tX6_in kX6_150 dX6_table_6 ⟨by decide, by decide⟩ rfl (Nat.le_of_ble_eq_true rfl) rfl (c_X6_in (by omega) (by omega) (by omega)) ?_
  refine z_if_eq 46 dX6_table_9 (by decide) (bi_r _) (fun c9 => ?_) (fun c9 => ?_)
  · have c9 := bi_eq.mp c9
    omega
  · have c9 := bi_ne.mp c9
    refine z_iload_n dX6_table_12 rfl ?_
    refine z_i2l dX6_table_13 (by omega) ?_
    refine z_lconst (z := 0) dX6_table_14 rfl ?_
    refine z_aload_n dX6_table_15 rfl ?_
    refine z_iload_n dX6_table_16 rfl ?_
    refine z_callV_eI (M := mX6_table) [_] tX6_rows kX6_96 dX6_table_17 ⟨by decide, rfl, _, _, rfl⟩ ⟨by decide, by decide⟩ rfl (Nat.le_of_ble_eq_true rfl) rfl (c_X6_rows1 R) ?_
    refine z_iconst dX6_table_20 ?_
    refine z_isub dX6_table_21 ?_
    refine z_i2l dX6_table_22 (by omega) ?_
    refine z_callS_eI (M := mX6_table) [_, _, _] tX6_in kX6_150 dX6_table_23 ⟨by decide, by decide⟩ rfl (Nat.le_of_ble_eq_true rfl) rfl (c_X6_in (by omega) (by omega) (by omega)) ?_
    refine z_if_eq 46 dX6_table_26 (by decide) (bi_r _) (fun c26 => ?_) (fun c26 => ?_)
    · have c26 := bi_eq.mp c26
      refine z_ldc (-1000001) dX6_table_46 qX6_218 rfl ?_
      exact z_ireturn dX6_table_48 rfl (hQ _ _ ⟨_, rfl, rfl, rfl⟩)
    · have c26 := bi_ne.mp c26
      refine z_iload_n dX6_table_29 rfl ?_
      refine z_i2l dX6_table_30 (by omega) ?_
      refine z_lconst (z := 0) dX6_table_31 rfl ?_
      refine z_aload_n dX6_table_32 rfl ?_
      refine z_iload_n dX6_table_33 rfl ?_
      refine z_callV_eI (M := mX6_table) [_] tX6_columns kX6_74 dX6_table_34 ⟨by decide, rfl, _, _, rfl⟩ ⟨by decide, by decide⟩ rfl (Nat.le_of_ble_eq_true rfl) rfl (c_X6_columns1 R) ?_
      refine z_iconst dX6_table_37 ?_
      refine z_isub dX6_table_38 ?_
      refine z_i2l dX6_table_39 (by omega) ?_
      refine z_callS_eI (M := mX6_table) [_, _, _] tX6_in kX6_150 dX6_table_40 ⟨by decide, by decide⟩ rfl (Nat.le_of_ble_eq_true rfl) rfl (c_X6_in (by omega) (by omega) (by omega)) ?_
      refine z_if_ne 49 dX6_table_43 (by decide) (bi_r _) (fun c43 => ?_) (fun c43 => ?_)
      · have c43 := bi_ne.mp c43
        omega
      · have c43 := bi_eq.mp c43
        refine z_ldc (-1000001) dX6_table_46 qX6_218 rfl ?_
        exact z_ireturn dX6_table_48 rfl (hQ _ _ ⟨_, rfl, rfl, rfl⟩)
set_option maxRecDepth 100000 in
set_option maxHeartbeats 4000000 in
theorem c_X6_table1 {g : GG} {h : HH} {σ : SG} (W : WF σ) (R : RM (h 48) σ) {i j : Nat} (hi : i < sP σ) (hj : j < sE σ) : CeI mX6_table g [vr 47, vi 1, vi (i : Int), vi (j : Int)] h (ent1 σ i j) := by
  refine cn_q (lv := [vr 47, vi 1, vi (i : Int), vi (j : Int)]) tX6_table.1 rfl rfl (fun hR Q hQ => ?_)
  have w1 := W.1
  have w2 := W.2.1
  have w3 := W.2.2.1
  refine z_iload_n dX6_table_0 rfl ?_
  refine z_i2l dX6_table_1 (by omega) ?_
  refine z_lconst (z := 1) dX6_table_2 rfl ?_
  refine z_ldc2 (2) dX6_table_3 qX6_242 rfl ?_
  refine z_callS_eI (M := mX6_table) [_, _, _] tX6_in kX6_150 dX6_table_6 ⟨by decide, by decide⟩ rfl (Nat.le_of_ble_eq_true rfl) rfl (c_X6_in (by omega) (by omega) (by omega)) ?_
  refine z_if_eq 46 dX6_table_9 (by decide) (bi_r _) (fun c9 => ?_) (fun c9 => ?_)
  · have c9 := bi_eq.mp c9
    omega
  · have c9 := bi_ne.mp c9
    refine z_iload_n dX6_table_12 rfl ?_
    refine z_i2l dX6_table_13 (by omega) ?_
    refine z_lconst (z := 0) dX6_table_14 rfl ?_
    refine z_aload_n dX6_table_15 rfl ?_
    refine z_iload_n dX6_table_16 rfl ?_
    refine z_callV_eI (M := mX6_table) [_] tX6_rows kX6_96 dX6_table_17 ⟨by decide, rfl, _, _, rfl⟩ ⟨by decide, by decide⟩ rfl (Nat.le_of_ble_eq_true rfl) rfl (c_X6_rows1 R) ?_
    refine z_iconst dX6_table_20 ?_
    refine z_isub dX6_table_21 ?_
    refine z_i2l dX6_table_22 (by omega) ?_
    refine z_callS_eI (M := mX6_table) [_, _, _] tX6_in kX6_150 dX6_table_23 ⟨by decide, by decide⟩ rfl (Nat.le_of_ble_eq_true rfl) rfl (c_X6_in (by omega) (by omega) (by omega)) ?_
    refine z_if_eq 46 dX6_table_26 (by decide) (bi_r _) (fun c26 => ?_) (fun c26 => ?_)
    · have c26 := bi_eq.mp c26
      omega
    · have c26 := bi_ne.mp c26
      refine z_iload_n dX6_table_29 rfl ?_
      refine z_i2l dX6_table_30 (by omega) ?_
      refine z_lconst (z := 0) dX6_table_31 rfl ?_
      refine z_aload_n dX6_table_32 rfl ?_
      refine z_iload_n dX6_table_33 rfl ?_
      refine z_callV_eI (M := mX6_table) [_] tX6_columns kX6_74 dX6_table_34 ⟨by decide, rfl, _, _, rfl⟩ ⟨by decide, by decide⟩ rfl (Nat.le_of_ble_eq_true rfl) rfl (c_X6_columns1 R) ?_
      refine z_iconst dX6_table_37 ?_
      refine z_isub dX6_table_38 ?_
      refine z_i2l dX6_table_39 (by omega) ?_
      refine z_callS_eI (M := mX6_table) [_, _, _] tX6_in kX6_150 dX6_table_40 ⟨by decide, by decide⟩ rfl (Nat.le_of_ble_eq_true rfl) rfl (c_X6_in (by omega) (by omega) (by omega)) ?_
      refine z_if_ne 49 dX6_table_43 (by decide) (bi_r _) (fun c43 => ?_) (fun c43 => ?_)
      · have c43 := bi_ne.mp c43
        refine z_aload_n dX6_table_49 rfl ?_
        refine z_iload_n dX6_table_50 rfl ?_
        refine z_iload_n dX6_table_51 rfl ?_
        refine z_iload_n dX6_table_52 rfl ?_
        refine z_callV_eI (M := mX6_table) [_, _, _] tX6_entry kX6_77 dX6_table_53 ⟨by decide, rfl, _, _, rfl⟩ ⟨by decide, by decide⟩ rfl (Nat.le_of_ble_eq_true rfl) rfl (c_X6_entry1 W R (by omega) hj) ?_
        exact z_ireturn dX6_table_56 rfl (hQ _ _ ⟨_, rfl, rfl, rfl⟩)
      · have c43 := bi_eq.mp c43
        omega
set_option maxRecDepth 100000 in
set_option maxHeartbeats 4000000 in
theorem c_X6_tableO2 {g : GG} {h : HH} {σ : SG} (W : WF σ) (R : RM (h 48) σ) {i j : Int} (hi : R32 i) (hj : R32 j) (ho : ¬ (0 ≤ i ∧ i < sE σ ∧ 0 ≤ j ∧ j < sF σ)) : CeI mX6_table g [vr 47, vi 2, vi i, vi j] h kBAD := by
  refine cn_q (lv := [vr 47, vi 2, vi i, vi j]) tX6_table.1 rfl rfl (fun hR Q hQ => ?_)
  have w1 := W.1
  have w2 := W.2.1
  have w3 := W.2.2.1
  refine z_iload_n dX6_table_0 rfl ?_
  refine z_i2l dX6_table_1 (by omega) ?_
  refine z_lconst (z := 1) dX6_table_2 rfl ?_
  refine z_ldc2 (2) dX6_table_3 qX6_242 rfl ?_
  refine z_callS_eI (M := mX6_table) [_, _, _] tX6_in kX6_150 dX6_table_6 ⟨by decide, by decide⟩ rfl (Nat.le_of_ble_eq_true rfl) rfl (c_X6_in (by omega) (by omega) (by omega)) ?_
  refine z_if_eq 46 dX6_table_9 (by decide) (bi_r _) (fun c9 => ?_) (fun c9 => ?_)
  · have c9 := bi_eq.mp c9
    omega
  · have c9 := bi_ne.mp c9
    refine z_iload_n dX6_table_12 rfl ?_
    refine z_i2l dX6_table_13 (by omega) ?_
    refine z_lconst (z := 0) dX6_table_14 rfl ?_
    refine z_aload_n dX6_table_15 rfl ?_
    refine z_iload_n dX6_table_16 rfl ?_
    refine z_callV_eI (M := mX6_table) [_] tX6_rows kX6_96 dX6_table_17 ⟨by decide, rfl, _, _, rfl⟩ ⟨by decide, by decide⟩ rfl (Nat.le_of_ble_eq_true rfl) rfl (c_X6_rows2 R) ?_
    refine z_iconst dX6_table_20 ?_
    refine z_isub dX6_table_21 ?_
    refine z_i2l dX6_table_22 (by omega) ?_
    refine z_callS_eI (M := mX6_table) [_, _, _] tX6_in kX6_150 dX6_table_23 ⟨by decide, by decide⟩ rfl (Nat.le_of_ble_eq_true rfl) rfl (c_X6_in (by omega) (by omega) (by omega)) ?_
    refine z_if_eq 46 dX6_table_26 (by decide) (bi_r _) (fun c26 => ?_) (fun c26 => ?_)
    · have c26 := bi_eq.mp c26
      refine z_ldc (-1000001) dX6_table_46 qX6_218 rfl ?_
      exact z_ireturn dX6_table_48 rfl (hQ _ _ ⟨_, rfl, rfl, rfl⟩)
    · have c26 := bi_ne.mp c26
      refine z_iload_n dX6_table_29 rfl ?_
      refine z_i2l dX6_table_30 (by omega) ?_
      refine z_lconst (z := 0) dX6_table_31 rfl ?_
      refine z_aload_n dX6_table_32 rfl ?_
      refine z_iload_n dX6_table_33 rfl ?_
      refine z_callV_eI (M := mX6_table) [_] tX6_columns kX6_74 dX6_table_34 ⟨by decide, rfl, _, _, rfl⟩ ⟨by decide, by decide⟩ rfl (Nat.le_of_ble_eq_true rfl) rfl (c_X6_columns2 R) ?_
      refine z_iconst dX6_table_37 ?_
      refine z_isub dX6_table_38 ?_
      refine z_i2l dX6_table_39 (by omega) ?_
      refine z_callS_eI (M := mX6_table) [_, _, _] tX6_in kX6_150 dX6_table_40 ⟨by decide, by decide⟩ rfl (Nat.le_of_ble_eq_true rfl) rfl (c_X6_in (by omega) (by omega) (by omega)) ?_
      refine z_if_ne 49 dX6_table_43 (by decide) (bi_r _) (fun c43 => ?_) (fun c43 => ?_)
      · have c43 := bi_ne.mp c43
        omega
      · have c43 := bi_eq.mp c43
        refine z_ldc (-1000001) dX6_table_46 qX6_218 rfl ?_
        exact z_ireturn dX6_table_48 rfl (hQ _ _ ⟨_, rfl, rfl, rfl⟩)
set_option maxRecDepth 100000 in
set_option maxHeartbeats 4000000 in
theorem c_X6_table2 {g : GG} {h : HH} {σ : SG} (W : WF σ) (R : RM (h 48) σ) {i j : Nat} (hi : i < sE σ) (hj : j < sF σ) : CeI mX6_table g [vr 47, vi 2, vi (i : Int), vi (j : Int)] h (ent2 σ i j) := by
  refine cn_q (lv := [vr 47, vi 2, vi (i : Int), vi (j : Int)]) tX6_table.1 rfl rfl (fun hR Q hQ => ?_)
  have w1 := W.1
  have w2 := W.2.1
  have w3 := W.2.2.1
  refine z_iload_n dX6_table_0 rfl ?_
  refine z_i2l dX6_table_1 (by omega) ?_
  refine z_lconst (z := 1) dX6_table_2 rfl ?_
  refine z_ldc2 (2) dX6_table_3 qX6_242 rfl ?_
  refine z_callS_eI (M := mX6_table) [_, _, _] tX6_in kX6_150 dX6_table_6 ⟨by decide, by decide⟩ rfl (Nat.le_of_ble_eq_true rfl) rfl (c_X6_in (by omega) (by omega) (by omega)) ?_
  refine z_if_eq 46 dX6_table_9 (by decide) (bi_r _) (fun c9 => ?_) (fun c9 => ?_)
  · have c9 := bi_eq.mp c9
    omega
  · have c9 := bi_ne.mp c9
    refine z_iload_n dX6_table_12 rfl ?_
    refine z_i2l dX6_table_13 (by omega) ?_
    refine z_lconst (z := 0) dX6_table_14 rfl ?_
    refine z_aload_n dX6_table_15 rfl ?_
    refine z_iload_n dX6_table_16 rfl ?_
    refine z_callV_eI (M := mX6_table) [_] tX6_rows kX6_96 dX6_table_17 ⟨by decide, rfl, _, _, rfl⟩ ⟨by decide, by decide⟩ rfl (Nat.le_of_ble_eq_true rfl) rfl (c_X6_rows2 R) ?_
    refine z_iconst dX6_table_20 ?_
    refine z_isub dX6_table_21 ?_
    refine z_i2l dX6_table_22 (by omega) ?_
    refine z_callS_eI (M := mX6_table) [_, _, _] tX6_in kX6_150 dX6_table_23 ⟨by decide, by decide⟩ rfl (Nat.le_of_ble_eq_true rfl) rfl (c_X6_in (by omega) (by omega) (by omega)) ?_
    refine z_if_eq 46 dX6_table_26 (by decide) (bi_r _) (fun c26 => ?_) (fun c26 => ?_)
    · have c26 := bi_eq.mp c26
      omega
    · have c26 := bi_ne.mp c26
      refine z_iload_n dX6_table_29 rfl ?_
      refine z_i2l dX6_table_30 (by omega) ?_
      refine z_lconst (z := 0) dX6_table_31 rfl ?_
      refine z_aload_n dX6_table_32 rfl ?_
      refine z_iload_n dX6_table_33 rfl ?_
      refine z_callV_eI (M := mX6_table) [_] tX6_columns kX6_74 dX6_table_34 ⟨by decide, rfl, _, _, rfl⟩ ⟨by decide, by decide⟩ rfl (Nat.le_of_ble_eq_true rfl) rfl (c_X6_columns2 R) ?_
      refine z_iconst dX6_table_37 ?_
      refine z_isub dX6_table_38 ?_
      refine z_i2l dX6_table_39 (by omega) ?_
      refine z_callS_eI (M := mX6_table) [_, _, _] tX6_in kX6_150 dX6_table_40 ⟨by decide, by decide⟩ rfl (Nat.le_of_ble_eq_true rfl) rfl (c_X6_in (by omega) (by omega) (by omega)) ?_
      refine z_if_ne 49 dX6_table_43 (by decide) (bi_r _) (fun c43 => ?_) (fun c43 => ?_)
      · have c43 := bi_ne.mp c43
        refine z_aload_n dX6_table_49 rfl ?_
        refine z_iload_n dX6_table_50 rfl ?_
        refine z_iload_n dX6_table_51 rfl ?_
        refine z_iload_n dX6_table_52 rfl ?_
        refine z_callV_eI (M := mX6_table) [_, _, _] tX6_entry kX6_77 dX6_table_53 ⟨by decide, rfl, _, _, rfl⟩ ⟨by decide, by decide⟩ rfl (Nat.le_of_ble_eq_true rfl) rfl (c_X6_entry2 W R (by omega) hj) ?_
        exact z_ireturn dX6_table_56 rfl (hQ _ _ ⟨_, rfl, rfl, rfl⟩)
      · have c43 := bi_eq.mp c43
        omega
set_option maxRecDepth 100000 in
set_option maxHeartbeats 4000000 in
theorem c_X6_nearSize0 {g : GG} {h : HH} {σ : SG} (R : RM (h 48) σ) : CeI mX6_nearSize g [vr 47, vi 0] h (sP σ) := by
  refine cn_q (lv := [vr 47, vi 0]) tX6_nearSize.1 rfl rfl (fun hR Q hQ => ?_)
  refine z_iload_n dX6_nearSize_0 rfl ?_
  refine z_if_ne 13 dX6_nearSize_1 (by decide) (by omega) (fun c1 => ?_) (fun c1 => ?_)
  · omega
  · refine z_aload_n dX6_nearSize_4 rfl ?_
    refine z_getR fX6_7 dX6_nearSize_5 (by decide) rfl rfl ?_
    refine z_iconst dX6_nearSize_8 ?_
    refine z_iaload dX6_nearSize_9 (by decide) rfl (by omega) (by omega) (by decide) (fun r9 => ?_)
    refine z_goto 19 dX6_nearSize_10 (by decide) ?_
    exact z_ireturn dX6_nearSize_19 rfl (hQ _ _ ⟨_, rfl, (rm_P R), rfl⟩)
set_option maxRecDepth 100000 in
set_option maxHeartbeats 4000000 in
theorem c_X6_nearSize1 {g : GG} {h : HH} {σ : SG} (R : RM (h 48) σ) : CeI mX6_nearSize g [vr 47, vi 1] h (sE σ) := by
  refine cn_q (lv := [vr 47, vi 1]) tX6_nearSize.1 rfl rfl (fun hR Q hQ => ?_)
  refine z_iload_n dX6_nearSize_0 rfl ?_
  refine z_if_ne 13 dX6_nearSize_1 (by decide) (by omega) (fun c1 => ?_) (fun c1 => ?_)
  · refine z_aload_n dX6_nearSize_13 rfl ?_
    refine z_getR fX6_7 dX6_nearSize_14 (by decide) rfl rfl ?_
    refine z_iconst dX6_nearSize_17 ?_
    refine z_iaload dX6_nearSize_18 (by decide) rfl (by omega) (by omega) (by decide) (fun r18 => ?_)
    exact z_ireturn dX6_nearSize_19 rfl (hQ _ _ ⟨_, rfl, (rm_E R), rfl⟩)
  · omega
set_option maxRecDepth 100000 in
set_option maxHeartbeats 4000000 in
theorem c_X6_nearSize2 {g : GG} {h : HH} {σ : SG} (R : RM (h 48) σ) : CeI mX6_nearSize g [vr 47, vi 2] h (sE σ) := by
  refine cn_q (lv := [vr 47, vi 2]) tX6_nearSize.1 rfl rfl (fun hR Q hQ => ?_)
  refine z_iload_n dX6_nearSize_0 rfl ?_
  refine z_if_ne 13 dX6_nearSize_1 (by decide) (by omega) (fun c1 => ?_) (fun c1 => ?_)
  · refine z_aload_n dX6_nearSize_13 rfl ?_
    refine z_getR fX6_7 dX6_nearSize_14 (by decide) rfl rfl ?_
    refine z_iconst dX6_nearSize_17 ?_
    refine z_iaload dX6_nearSize_18 (by decide) rfl (by omega) (by omega) (by decide) (fun r18 => ?_)
    exact z_ireturn dX6_nearSize_19 rfl (hQ _ _ ⟨_, rfl, (rm_E R), rfl⟩)
  · omega
set_option maxRecDepth 100000 in
set_option maxHeartbeats 4000000 in
theorem c_X6_nearN {g : GG} {h : HH} {σ : SG} (W : WF σ) (R : RM (h 48) σ) {d i j : Int} (hd : R32 d) (hn : d < 0 ∨ 2 < d) (hi : R32 i) (hj : R32 j) : CeI mX6_near g [vr 47, vi d, vi i, vi j] h kBAD := by
  refine cn_q (lv := [vr 47, vi d, vi i, vi j]) tX6_near.1 rfl rfl (fun hR Q hQ => ?_)
  refine z_iload_n dX6_near_0 rfl ?_
  refine z_i2l dX6_near_1 (by omega) ?_
  refine z_lconst (z := 0) dX6_near_2 rfl ?_
  refine z_ldc2 (2) dX6_near_3 qX6_242 rfl ?_
  refine z_callS_eI (M := mX6_near) [_, _, _] tX6_in kX6_150 dX6_near_6 ⟨by decide, by decide⟩ rfl (Nat.le_of_ble_eq_true rfl) rfl (c_X6_in (by omega) (by omega) (by omega)) ?_
  refine z_if_eq 46 dX6_near_9 (by decide) (bi_r _) (fun c9 => ?_) (fun c9 => ?_)
  · have c9 := bi_eq.mp c9
    refine z_ldc (-1000001) dX6_near_46 qX6_218 rfl ?_
    exact z_ireturn dX6_near_48 rfl (hQ _ _ ⟨_, rfl, rfl, rfl⟩)
  · have c9 := bi_ne.mp c9
    omega
set_option maxRecDepth 100000 in
set_option maxHeartbeats 4000000 in
theorem c_X6_nearO0 {g : GG} {h : HH} {σ : SG} (W : WF σ) (R : RM (h 48) σ) {i j : Int} (hi : R32 i) (hj : R32 j) (ho : ¬ (0 ≤ i ∧ i < sP σ ∧ 0 ≤ j ∧ j < sP σ)) : CeI mX6_near g [vr 47, vi 0, vi i, vi j] h kBAD := by
  refine cn_q (lv := [vr 47, vi 0, vi i, vi j]) tX6_near.1 rfl rfl (fun hR Q hQ => ?_)
  have w1 := W.1
  have w2 := W.2.1
  have w3 := W.2.2.1
  refine z_iload_n dX6_near_0 rfl ?_
  refine z_i2l dX6_near_1 (by omega) ?_
  refine z_lconst (z := 0) dX6_near_2 rfl ?_
  refine z_ldc2 (2) dX6_near_3 qX6_242 rfl ?_
  refine z_callS_eI (M := mX6_near) [_, _, _] tX6_in kX6_150 dX6_near_6 ⟨by decide, by decide⟩ rfl (Nat.le_of_ble_eq_true rfl) rfl (c_X6_in (by omega) (by omega) (by omega)) ?_
  refine z_if_eq 46 dX6_near_9 (by decide) (bi_r _) (fun c9 => ?_) (fun c9 => ?_)
  · have c9 := bi_eq.mp c9
    omega
  · have c9 := bi_ne.mp c9
    refine z_iload_n dX6_near_12 rfl ?_
    refine z_i2l dX6_near_13 (by omega) ?_
    refine z_lconst (z := 0) dX6_near_14 rfl ?_
    refine z_aload_n dX6_near_15 rfl ?_
    refine z_iload_n dX6_near_16 rfl ?_
    refine z_callV_eI (M := mX6_near) [_] tX6_nearSize kX6_297 dX6_near_17 ⟨by decide, rfl, _, _, rfl⟩ ⟨by decide, by decide⟩ rfl (Nat.le_of_ble_eq_true rfl) rfl (c_X6_nearSize0 R) ?_
    refine z_iconst dX6_near_20 ?_
    refine z_isub dX6_near_21 ?_
    refine z_i2l dX6_near_22 (by omega) ?_
    refine z_callS_eI (M := mX6_near) [_, _, _] tX6_in kX6_150 dX6_near_23 ⟨by decide, by decide⟩ rfl (Nat.le_of_ble_eq_true rfl) rfl (c_X6_in (by omega) (by omega) (by omega)) ?_
    refine z_if_eq 46 dX6_near_26 (by decide) (bi_r _) (fun c26 => ?_) (fun c26 => ?_)
    · have c26 := bi_eq.mp c26
      refine z_ldc (-1000001) dX6_near_46 qX6_218 rfl ?_
      exact z_ireturn dX6_near_48 rfl (hQ _ _ ⟨_, rfl, rfl, rfl⟩)
    · have c26 := bi_ne.mp c26
      refine z_iload_n dX6_near_29 rfl ?_
      refine z_i2l dX6_near_30 (by omega) ?_
      refine z_lconst (z := 0) dX6_near_31 rfl ?_
      refine z_aload_n dX6_near_32 rfl ?_
      refine z_iload_n dX6_near_33 rfl ?_
      refine z_callV_eI (M := mX6_near) [_] tX6_nearSize kX6_297 dX6_near_34 ⟨by decide, rfl, _, _, rfl⟩ ⟨by decide, by decide⟩ rfl (Nat.le_of_ble_eq_true rfl) rfl (c_X6_nearSize0 R) ?_
      refine z_iconst dX6_near_37 ?_
      refine z_isub dX6_near_38 ?_
      refine z_i2l dX6_near_39 (by omega) ?_
      refine z_callS_eI (M := mX6_near) [_, _, _] tX6_in kX6_150 dX6_near_40 ⟨by decide, by decide⟩ rfl (Nat.le_of_ble_eq_true rfl) rfl (c_X6_in (by omega) (by omega) (by omega)) ?_
      refine z_if_ne 49 dX6_near_43 (by decide) (bi_r _) (fun c43 => ?_) (fun c43 => ?_)
      · have c43 := bi_ne.mp c43
        omega
      · have c43 := bi_eq.mp c43
        refine z_ldc (-1000001) dX6_near_46 qX6_218 rfl ?_
        exact z_ireturn dX6_near_48 rfl (hQ _ _ ⟨_, rfl, rfl, rfl⟩)
set_option maxRecDepth 100000 in
set_option maxHeartbeats 4000000 in
theorem c_X6_nearA0 {g : GG} {h : HH} {σ : SG} (W : WF σ) (R : RM (h 48) σ) {i j : Nat} (hi : i < sP σ) (hj : j < sP σ) : CeI mX6_near g [vr 47, vi 0, vi (i : Int), vi (j : Int)] h (near0 σ i j) := by
  refine cn_q (lv := [vr 47, vi 0, vi (i : Int), vi (j : Int)]) tX6_near.1 rfl rfl (fun hR Q hQ => ?_)
  have w1 := W.1
  have w2 := W.2.1
  have w3 := W.2.2.1
  refine z_iload_n dX6_near_0 rfl ?_
  refine z_i2l dX6_near_1 (by omega) ?_
  refine z_lconst (z := 0) dX6_near_2 rfl ?_
  refine z_ldc2 (2) dX6_near_3 qX6_242 rfl ?_
  refine z_callS_eI (M := mX6_near) [_, _, _] tX6_in kX6_150 dX6_near_6 ⟨by decide, by decide⟩ rfl (Nat.le_of_ble_eq_true rfl) rfl (c_X6_in (by omega) (by omega) (by omega)) ?_
  refine z_if_eq 46 dX6_near_9 (by decide) (bi_r _) (fun c9 => ?_) (fun c9 => ?_)
  · have c9 := bi_eq.mp c9
    omega
  · have c9 := bi_ne.mp c9
    refine z_iload_n dX6_near_12 rfl ?_
    refine z_i2l dX6_near_13 (by omega) ?_
    refine z_lconst (z := 0) dX6_near_14 rfl ?_
    refine z_aload_n dX6_near_15 rfl ?_
    refine z_iload_n dX6_near_16 rfl ?_
    refine z_callV_eI (M := mX6_near) [_] tX6_nearSize kX6_297 dX6_near_17 ⟨by decide, rfl, _, _, rfl⟩ ⟨by decide, by decide⟩ rfl (Nat.le_of_ble_eq_true rfl) rfl (c_X6_nearSize0 R) ?_
    refine z_iconst dX6_near_20 ?_
    refine z_isub dX6_near_21 ?_
    refine z_i2l dX6_near_22 (by omega) ?_
    refine z_callS_eI (M := mX6_near) [_, _, _] tX6_in kX6_150 dX6_near_23 ⟨by decide, by decide⟩ rfl (Nat.le_of_ble_eq_true rfl) rfl (c_X6_in (by omega) (by omega) (by omega)) ?_
    refine z_if_eq 46 dX6_near_26 (by decide) (bi_r _) (fun c26 => ?_) (fun c26 => ?_)
    · have c26 := bi_eq.mp c26
      omega
    · have c26 := bi_ne.mp c26
      refine z_iload_n dX6_near_29 rfl ?_
      refine z_i2l dX6_near_30 (by omega) ?_
      refine z_lconst (z := 0) dX6_near_31 rfl ?_
      refine z_aload_n dX6_near_32 rfl ?_
      refine z_iload_n dX6_near_33 rfl ?_
      refine z_callV_eI (M := mX6_near) [_] tX6_nearSize kX6_297 dX6_near_34 ⟨by decide, rfl, _, _, rfl⟩ ⟨by decide, by decide⟩ rfl (Nat.le_of_ble_eq_true rfl) rfl (c_X6_nearSize0 R) ?_
      refine z_iconst dX6_near_37 ?_
      refine z_isub dX6_near_38 ?_
      refine z_i2l dX6_near_39 (by omega) ?_
      refine z_callS_eI (M := mX6_near) [_, _, _] tX6_in kX6_150 dX6_near_40 ⟨by decide, by decide⟩ rfl (Nat.le_of_ble_eq_true rfl) rfl (c_X6_in (by omega) (by omega) (by omega)) ?_
      refine z_if_ne 49 dX6_near_43 (by decide) (bi_r _) (fun c43 => ?_) (fun c43 => ?_)
      · have c43 := bi_ne.mp c43
        refine z_aload_n dX6_near_49 rfl ?_
        refine z_iload_n dX6_near_50 rfl ?_
        refine z_iload_n dX6_near_51 rfl ?_
        refine z_iload_n dX6_near_52 rfl ?_
        refine z_callV_eI (M := mX6_near) [_, _, _] tX6_nearBy kX6_300 dX6_near_53 ⟨by decide, rfl, _, _, rfl⟩ ⟨by decide, by decide⟩ rfl (Nat.le_of_ble_eq_true rfl) rfl (c_X6_near0 W R hi hj) ?_
        exact z_ireturn dX6_near_56 rfl (hQ _ _ ⟨_, rfl, rfl, rfl⟩)
      · have c43 := bi_eq.mp c43
        omega
set_option maxRecDepth 100000 in
set_option maxHeartbeats 4000000 in
theorem c_X6_nearO1 {g : GG} {h : HH} {σ : SG} (W : WF σ) (R : RM (h 48) σ) {i j : Int} (hi : R32 i) (hj : R32 j) (ho : ¬ (0 ≤ i ∧ i < sE σ ∧ 0 ≤ j ∧ j < sE σ)) : CeI mX6_near g [vr 47, vi 1, vi i, vi j] h kBAD := by
  refine cn_q (lv := [vr 47, vi 1, vi i, vi j]) tX6_near.1 rfl rfl (fun hR Q hQ => ?_)
  have w1 := W.1
  have w2 := W.2.1
  have w3 := W.2.2.1
  refine z_iload_n dX6_near_0 rfl ?_
  refine z_i2l dX6_near_1 (by omega) ?_
  refine z_lconst (z := 0) dX6_near_2 rfl ?_
  refine z_ldc2 (2) dX6_near_3 qX6_242 rfl ?_
  refine z_callS_eI (M := mX6_near) [_, _, _] tX6_in kX6_150 dX6_near_6 ⟨by decide, by decide⟩ rfl (Nat.le_of_ble_eq_true rfl) rfl (c_X6_in (by omega) (by omega) (by omega)) ?_
  refine z_if_eq 46 dX6_near_9 (by decide) (bi_r _) (fun c9 => ?_) (fun c9 => ?_)
  · have c9 := bi_eq.mp c9
    omega
  · have c9 := bi_ne.mp c9
    refine z_iload_n dX6_near_12 rfl ?_
    refine z_i2l dX6_near_13 (by omega) ?_
    refine z_lconst (z := 0) dX6_near_14 rfl ?_
    refine z_aload_n dX6_near_15 rfl ?_
    refine z_iload_n dX6_near_16 rfl ?_
    refine z_callV_eI (M := mX6_near) [_] tX6_nearSize kX6_297 dX6_near_17 ⟨by decide, rfl, _, _, rfl⟩ ⟨by decide, by decide⟩ rfl (Nat.le_of_ble_eq_true rfl) rfl (c_X6_nearSize1 R) ?_
    refine z_iconst dX6_near_20 ?_
    refine z_isub dX6_near_21 ?_
    refine z_i2l dX6_near_22 (by omega) ?_
    refine z_callS_eI (M := mX6_near) [_, _, _] tX6_in kX6_150 dX6_near_23 ⟨by decide, by decide⟩ rfl (Nat.le_of_ble_eq_true rfl) rfl (c_X6_in (by omega) (by omega) (by omega)) ?_
    refine z_if_eq 46 dX6_near_26 (by decide) (bi_r _) (fun c26 => ?_) (fun c26 => ?_)
    · have c26 := bi_eq.mp c26
      refine z_ldc (-1000001) dX6_near_46 qX6_218 rfl ?_
      exact z_ireturn dX6_near_48 rfl (hQ _ _ ⟨_, rfl, rfl, rfl⟩)
    · have c26 := bi_ne.mp c26
      refine z_iload_n dX6_near_29 rfl ?_
      refine z_i2l dX6_near_30 (by omega) ?_
      refine z_lconst (z := 0) dX6_near_31 rfl ?_
      refine z_aload_n dX6_near_32 rfl ?_
      refine z_iload_n dX6_near_33 rfl ?_
      refine z_callV_eI (M := mX6_near) [_] tX6_nearSize kX6_297 dX6_near_34 ⟨by decide, rfl, _, _, rfl⟩ ⟨by decide, by decide⟩ rfl (Nat.le_of_ble_eq_true rfl) rfl (c_X6_nearSize1 R) ?_
      refine z_iconst dX6_near_37 ?_
      refine z_isub dX6_near_38 ?_
      refine z_i2l dX6_near_39 (by omega) ?_
      refine z_callS_eI (M := mX6_near) [_, _, _] tX6_in kX6_150 dX6_near_40 ⟨by decide, by decide⟩ rfl (Nat.le_of_ble_eq_true rfl) rfl (c_X6_in (by omega) (by omega) (by omega)) ?_
      refine z_if_ne 49 dX6_near_43 (by decide) (bi_r _) (fun c43 => ?_) (fun c43 => ?_)
      · have c43 := bi_ne.mp c43
        omega
      · have c43 := bi_eq.mp c43
        refine z_ldc (-1000001) dX6_near_46 qX6_218 rfl ?_
        exact z_ireturn dX6_near_48 rfl (hQ _ _ ⟨_, rfl, rfl, rfl⟩)
set_option maxRecDepth 100000 in
set_option maxHeartbeats 4000000 in
theorem c_X6_nearA1 {g : GG} {h : HH} {σ : SG} (W : WF σ) (R : RM (h 48) σ) {i j : Nat} (hi : i < sE σ) (hj : j < sE σ) : CeI mX6_near g [vr 47, vi 1, vi (i : Int), vi (j : Int)] h (near1 σ i j) := by
  refine cn_q (lv := [vr 47, vi 1, vi (i : Int), vi (j : Int)]) tX6_near.1 rfl rfl (fun hR Q hQ => ?_)
  have w1 := W.1
  have w2 := W.2.1
  have w3 := W.2.2.1
  refine z_iload_n dX6_near_0 rfl ?_
  refine z_i2l dX6_near_1 (by omega) ?_
  refine z_lconst (z := 0) dX6_near_2 rfl ?_
  refine z_ldc2 (2) dX6_near_3 qX6_242 rfl ?_
  refine z_callS_eI (M := mX6_near) [_, _, _] tX6_in kX6_150 dX6_near_6 ⟨by decide, by decide⟩ rfl (Nat.le_of_ble_eq_true rfl) rfl (c_X6_in (by omega) (by omega) (by omega)) ?_
  refine z_if_eq 46 dX6_near_9 (by decide) (bi_r _) (fun c9 => ?_) (fun c9 => ?_)
  · have c9 := bi_eq.mp c9
    omega
  · have c9 := bi_ne.mp c9
    refine z_iload_n dX6_near_12 rfl ?_
    refine z_i2l dX6_near_13 (by omega) ?_
    refine z_lconst (z := 0) dX6_near_14 rfl ?_
    refine z_aload_n dX6_near_15 rfl ?_
    refine z_iload_n dX6_near_16 rfl ?_
    refine z_callV_eI (M := mX6_near) [_] tX6_nearSize kX6_297 dX6_near_17 ⟨by decide, rfl, _, _, rfl⟩ ⟨by decide, by decide⟩ rfl (Nat.le_of_ble_eq_true rfl) rfl (c_X6_nearSize1 R) ?_
    refine z_iconst dX6_near_20 ?_
    refine z_isub dX6_near_21 ?_
    refine z_i2l dX6_near_22 (by omega) ?_
    refine z_callS_eI (M := mX6_near) [_, _, _] tX6_in kX6_150 dX6_near_23 ⟨by decide, by decide⟩ rfl (Nat.le_of_ble_eq_true rfl) rfl (c_X6_in (by omega) (by omega) (by omega)) ?_
    refine z_if_eq 46 dX6_near_26 (by decide) (bi_r _) (fun c26 => ?_) (fun c26 => ?_)
    · have c26 := bi_eq.mp c26
      omega
    · have c26 := bi_ne.mp c26
      refine z_iload_n dX6_near_29 rfl ?_
      refine z_i2l dX6_near_30 (by omega) ?_
      refine z_lconst (z := 0) dX6_near_31 rfl ?_
      refine z_aload_n dX6_near_32 rfl ?_
      refine z_iload_n dX6_near_33 rfl ?_
      refine z_callV_eI (M := mX6_near) [_] tX6_nearSize kX6_297 dX6_near_34 ⟨by decide, rfl, _, _, rfl⟩ ⟨by decide, by decide⟩ rfl (Nat.le_of_ble_eq_true rfl) rfl (c_X6_nearSize1 R) ?_
      refine z_iconst dX6_near_37 ?_
      refine z_isub dX6_near_38 ?_
      refine z_i2l dX6_near_39 (by omega) ?_
      refine z_callS_eI (M := mX6_near) [_, _, _] tX6_in kX6_150 dX6_near_40 ⟨by decide, by decide⟩ rfl (Nat.le_of_ble_eq_true rfl) rfl (c_X6_in (by omega) (by omega) (by omega)) ?_
      refine z_if_ne 49 dX6_near_43 (by decide) (bi_r _) (fun c43 => ?_) (fun c43 => ?_)
      · have c43 := bi_ne.mp c43
        refine z_aload_n dX6_near_49 rfl ?_
        refine z_iload_n dX6_near_50 rfl ?_
        refine z_iload_n dX6_near_51 rfl ?_
        refine z_iload_n dX6_near_52 rfl ?_
        refine z_callV_eI (M := mX6_near) [_, _, _] tX6_nearBy kX6_300 dX6_near_53 ⟨by decide, rfl, _, _, rfl⟩ ⟨by decide, by decide⟩ rfl (Nat.le_of_ble_eq_true rfl) rfl (c_X6_near1 W R hi hj) ?_
        exact z_ireturn dX6_near_56 rfl (hQ _ _ ⟨_, rfl, rfl, rfl⟩)
      · have c43 := bi_eq.mp c43
        omega
set_option maxRecDepth 100000 in
set_option maxHeartbeats 4000000 in
theorem c_X6_nearO2 {g : GG} {h : HH} {σ : SG} (W : WF σ) (R : RM (h 48) σ) {i j : Int} (hi : R32 i) (hj : R32 j) (ho : ¬ (0 ≤ i ∧ i < sE σ ∧ 0 ≤ j ∧ j < sE σ)) : CeI mX6_near g [vr 47, vi 2, vi i, vi j] h kBAD := by
  refine cn_q (lv := [vr 47, vi 2, vi i, vi j]) tX6_near.1 rfl rfl (fun hR Q hQ => ?_)
  have w1 := W.1
  have w2 := W.2.1
  have w3 := W.2.2.1
  refine z_iload_n dX6_near_0 rfl ?_
  refine z_i2l dX6_near_1 (by omega) ?_
  refine z_lconst (z := 0) dX6_near_2 rfl ?_
  refine z_ldc2 (2) dX6_near_3 qX6_242 rfl ?_
  refine z_callS_eI (M := mX6_near) [_, _, _] tX6_in kX6_150 dX6_near_6 ⟨by decide, by decide⟩ rfl (Nat.le_of_ble_eq_true rfl) rfl (c_X6_in (by omega) (by omega) (by omega)) ?_
  refine z_if_eq 46 dX6_near_9 (by decide) (bi_r _) (fun c9 => ?_) (fun c9 => ?_)
  · have c9 := bi_eq.mp c9
    omega
  · have c9 := bi_ne.mp c9
    refine z_iload_n dX6_near_12 rfl ?_
    refine z_i2l dX6_near_13 (by omega) ?_
    refine z_lconst (z := 0) dX6_near_14 rfl ?_
    refine z_aload_n dX6_near_15 rfl ?_
    refine z_iload_n dX6_near_16 rfl ?_
    refine z_callV_eI (M := mX6_near) [_] tX6_nearSize kX6_297 dX6_near_17 ⟨by decide, rfl, _, _, rfl⟩ ⟨by decide, by decide⟩ rfl (Nat.le_of_ble_eq_true rfl) rfl (c_X6_nearSize2 R) ?_
    refine z_iconst dX6_near_20 ?_
    refine z_isub dX6_near_21 ?_
    refine z_i2l dX6_near_22 (by omega) ?_
    refine z_callS_eI (M := mX6_near) [_, _, _] tX6_in kX6_150 dX6_near_23 ⟨by decide, by decide⟩ rfl (Nat.le_of_ble_eq_true rfl) rfl (c_X6_in (by omega) (by omega) (by omega)) ?_
    refine z_if_eq 46 dX6_near_26 (by decide) (bi_r _) (fun c26 => ?_) (fun c26 => ?_)
    · have c26 := bi_eq.mp c26
      refine z_ldc (-1000001) dX6_near_46 qX6_218 rfl ?_
      exact z_ireturn dX6_near_48 rfl (hQ _ _ ⟨_, rfl, rfl, rfl⟩)
    · have c26 := bi_ne.mp c26
      refine z_iload_n dX6_near_29 rfl ?_
      refine z_i2l dX6_near_30 (by omega) ?_
      refine z_lconst (z := 0) dX6_near_31 rfl ?_
      refine z_aload_n dX6_near_32 rfl ?_
      refine z_iload_n dX6_near_33 rfl ?_
      refine z_callV_eI (M := mX6_near) [_] tX6_nearSize kX6_297 dX6_near_34 ⟨by decide, rfl, _, _, rfl⟩ ⟨by decide, by decide⟩ rfl (Nat.le_of_ble_eq_true rfl) rfl (c_X6_nearSize2 R) ?_
      refine z_iconst dX6_near_37 ?_
      refine z_isub dX6_near_38 ?_
      refine z_i2l dX6_near_39 (by omega) ?_
      refine z_callS_eI (M := mX6_near) [_, _, _] tX6_in kX6_150 dX6_near_40 ⟨by decide, by decide⟩ rfl (Nat.le_of_ble_eq_true rfl) rfl (c_X6_in (by omega) (by omega) (by omega)) ?_
      refine z_if_ne 49 dX6_near_43 (by decide) (bi_r _) (fun c43 => ?_) (fun c43 => ?_)
      · have c43 := bi_ne.mp c43
        omega
      · have c43 := bi_eq.mp c43
        refine z_ldc (-1000001) dX6_near_46 qX6_218 rfl ?_
        exact z_ireturn dX6_near_48 rfl (hQ _ _ ⟨_, rfl, rfl, rfl⟩)
set_option maxRecDepth 100000 in
set_option maxHeartbeats 4000000 in
theorem c_X6_nearA2 {g : GG} {h : HH} {σ : SG} (W : WF σ) (R : RM (h 48) σ) {i j : Nat} (hi : i < sE σ) (hj : j < sE σ) : CeI mX6_near g [vr 47, vi 2, vi (i : Int), vi (j : Int)] h (near2 σ i j) := by
  refine cn_q (lv := [vr 47, vi 2, vi (i : Int), vi (j : Int)]) tX6_near.1 rfl rfl (fun hR Q hQ => ?_)
  have w1 := W.1
  have w2 := W.2.1
  have w3 := W.2.2.1
  refine z_iload_n dX6_near_0 rfl ?_
  refine z_i2l dX6_near_1 (by omega) ?_
  refine z_lconst (z := 0) dX6_near_2 rfl ?_
  refine z_ldc2 (2) dX6_near_3 qX6_242 rfl ?_
  refine z_callS_eI (M := mX6_near) [_, _, _] tX6_in kX6_150 dX6_near_6 ⟨by decide, by decide⟩ rfl (Nat.le_of_ble_eq_true rfl) rfl (c_X6_in (by omega) (by omega) (by omega)) ?_
  refine z_if_eq 46 dX6_near_9 (by decide) (bi_r _) (fun c9 => ?_) (fun c9 => ?_)
  · have c9 := bi_eq.mp c9
    omega
  · have c9 := bi_ne.mp c9
    refine z_iload_n dX6_near_12 rfl ?_
    refine z_i2l dX6_near_13 (by omega) ?_
    refine z_lconst (z := 0) dX6_near_14 rfl ?_
    refine z_aload_n dX6_near_15 rfl ?_
    refine z_iload_n dX6_near_16 rfl ?_
    refine z_callV_eI (M := mX6_near) [_] tX6_nearSize kX6_297 dX6_near_17 ⟨by decide, rfl, _, _, rfl⟩ ⟨by decide, by decide⟩ rfl (Nat.le_of_ble_eq_true rfl) rfl (c_X6_nearSize2 R) ?_
    refine z_iconst dX6_near_20 ?_
    refine z_isub dX6_near_21 ?_
    refine z_i2l dX6_near_22 (by omega) ?_
    refine z_callS_eI (M := mX6_near) [_, _, _] tX6_in kX6_150 dX6_near_23 ⟨by decide, by decide⟩ rfl (Nat.le_of_ble_eq_true rfl) rfl (c_X6_in (by omega) (by omega) (by omega)) ?_
    refine z_if_eq 46 dX6_near_26 (by decide) (bi_r _) (fun c26 => ?_) (fun c26 => ?_)
    · have c26 := bi_eq.mp c26
      omega
    · have c26 := bi_ne.mp c26
      refine z_iload_n dX6_near_29 rfl ?_
      refine z_i2l dX6_near_30 (by omega) ?_
      refine z_lconst (z := 0) dX6_near_31 rfl ?_
      refine z_aload_n dX6_near_32 rfl ?_
      refine z_iload_n dX6_near_33 rfl ?_
      refine z_callV_eI (M := mX6_near) [_] tX6_nearSize kX6_297 dX6_near_34 ⟨by decide, rfl, _, _, rfl⟩ ⟨by decide, by decide⟩ rfl (Nat.le_of_ble_eq_true rfl) rfl (c_X6_nearSize2 R) ?_
      refine z_iconst dX6_near_37 ?_
      refine z_isub dX6_near_38 ?_
      refine z_i2l dX6_near_39 (by omega) ?_
      refine z_callS_eI (M := mX6_near) [_, _, _] tX6_in kX6_150 dX6_near_40 ⟨by decide, by decide⟩ rfl (Nat.le_of_ble_eq_true rfl) rfl (c_X6_in (by omega) (by omega) (by omega)) ?_
      refine z_if_ne 49 dX6_near_43 (by decide) (bi_r _) (fun c43 => ?_) (fun c43 => ?_)
      · have c43 := bi_ne.mp c43
        refine z_aload_n dX6_near_49 rfl ?_
        refine z_iload_n dX6_near_50 rfl ?_
        refine z_iload_n dX6_near_51 rfl ?_
        refine z_iload_n dX6_near_52 rfl ?_
        refine z_callV_eI (M := mX6_near) [_, _, _] tX6_nearBy kX6_300 dX6_near_53 ⟨by decide, rfl, _, _, rfl⟩ ⟨by decide, by decide⟩ rfl (Nat.le_of_ble_eq_true rfl) rfl (c_X6_near2 W R hi hj) ?_
        exact z_ireturn dX6_near_56 rfl (hQ _ _ ⟨_, rfl, rfl, rfl⟩)
      · have c43 := bi_eq.mp c43
        omega
set_option maxRecDepth 100000 in
set_option maxHeartbeats 4000000 in
theorem c_X6_chainO {g : GG} {h : HH} {σ : SG} (W : WF σ) (R : RM (h 48) σ) {c e : Int} (hc : R32 c) (he : R32 e) (ho : ¬ (0 ≤ c ∧ c < 3 ∧ 0 ≤ e ∧ e < sE σ)) : CeI mX6_chain g [vr 47, vi c, vi e] h kBAD := by
  refine cn_q (lv := [vr 47, vi c, vi e]) tX6_chain.1 rfl rfl (fun hR Q hQ => ?_)
  have w1 := W.1
  have w2 := W.2.1
  have w3 := W.2.2.1
  refine z_aload_n dX6_chain_0 rfl ?_
  refine z_iload_n dX6_chain_1 rfl ?_
  refine z_callV_eI (M := mX6_chain) [_] tX6_isChain kX6_266 dX6_chain_2 ⟨by decide, rfl, _, _, rfl⟩ ⟨by decide, by decide⟩ rfl (Nat.le_of_ble_eq_true rfl) rfl (c_X6_isChain W.wb R (by omega)) ?_
  refine z_if_eq 34 dX6_chain_5 (by decide) (bi_r _) (fun c5 => ?_) (fun c5 => ?_)
  · have c5 := bi_eq.mp c5
    refine z_ldc (-1000001) dX6_chain_34 qX6_218 rfl ?_
    exact z_ireturn dX6_chain_36 rfl (hQ _ _ ⟨_, rfl, rfl, rfl⟩)
  · have c5 := bi_ne.mp c5
    refine z_aload_n dX6_chain_8 rfl ?_
    refine z_iconst dX6_chain_9 ?_
    refine z_iload_n dX6_chain_10 rfl ?_
    refine z_callV_eI (M := mX6_chain) [_, _] tX6_isCell kX6_247 dX6_chain_11 ⟨by decide, rfl, _, _, rfl⟩ ⟨by decide, by decide⟩ rfl (Nat.le_of_ble_eq_true rfl) rfl (c_X6_isCell1 W.wb R (by omega)) ?_
    refine z_if_eq 34 dX6_chain_14 (by decide) (bi_r _) (fun c14 => ?_) (fun c14 => ?_)
    · have c14 := bi_eq.mp c14
      refine z_ldc (-1000001) dX6_chain_34 qX6_218 rfl ?_
      exact z_ireturn dX6_chain_36 rfl (hQ _ _ ⟨_, rfl, rfl, rfl⟩)
    · have c14 := bi_ne.mp c14
      omega
set_option maxRecDepth 100000 in
set_option maxHeartbeats 4000000 in
theorem c_X6_chain1 {g : GG} {h : HH} {σ : SG} (W : WF σ) (R : RM (h 48) σ) {c e : Nat} (hc : c < 3) (he : e < sE σ) (h0 : 0 < sP σ) : CeI mX6_chain g [vr 47, vi (c : Int), vi (e : Int)] h (sch σ c e) := by
  refine cn_q (lv := [vr 47, vi (c : Int), vi (e : Int)]) tX6_chain.1 rfl rfl (fun hR Q hQ => ?_)
  have w1 := W.1
  have w2 := W.2.1
  have w3 := W.2.2.1
  refine z_aload_n dX6_chain_0 rfl ?_
  refine z_iload_n dX6_chain_1 rfl ?_
  refine z_callV_eI (M := mX6_chain) [_] tX6_isChain kX6_266 dX6_chain_2 ⟨by decide, rfl, _, _, rfl⟩ ⟨by decide, by decide⟩ rfl (Nat.le_of_ble_eq_true rfl) rfl (c_X6_isChain W.wb R (by omega)) ?_
  refine z_if_eq 34 dX6_chain_5 (by decide) (bi_r _) (fun c5 => ?_) (fun c5 => ?_)
  · have c5 := bi_eq.mp c5
    omega
  · have c5 := bi_ne.mp c5
    refine z_aload_n dX6_chain_8 rfl ?_
    refine z_iconst dX6_chain_9 ?_
    refine z_iload_n dX6_chain_10 rfl ?_
    refine z_callV_eI (M := mX6_chain) [_, _] tX6_isCell kX6_247 dX6_chain_11 ⟨by decide, rfl, _, _, rfl⟩ ⟨by decide, by decide⟩ rfl (Nat.le_of_ble_eq_true rfl) rfl (c_X6_isCell1 W.wb R (by omega)) ?_
    refine z_if_eq 34 dX6_chain_14 (by decide) (bi_r _) (fun c14 => ?_) (fun c14 => ?_)
    · have c14 := bi_eq.mp c14
      omega
    · have c14 := bi_ne.mp c14
      refine z_aload_n dX6_chain_17 rfl ?_
      refine z_getR fX6_7 dX6_chain_18 (by decide) rfl rfl ?_
      refine z_bipush dX6_chain_21 (by decide) ?_
      refine z_bipush dX6_chain_23 (by decide) ?_
      refine z_iload_n dX6_chain_25 rfl ?_
      refine z_imul dX6_chain_26 ?_
      refine z_iadd dX6_chain_27 ?_
      refine z_iload_n dX6_chain_28 rfl ?_
      refine z_iadd dX6_chain_29 ?_
      refine z_iaload dX6_chain_30 (by decide) rfl (by omega) (by omega) (by decide) (fun r30 => ?_)
      refine z_goto 36 dX6_chain_31 (by decide) ?_
      exact z_ireturn dX6_chain_36 rfl (hQ _ _ ⟨_, rfl, (rm_ch R hc he (by omega)), rfl⟩)
set_option maxRecDepth 100000 in
set_option maxHeartbeats 4000000 in
theorem c_X6_endsO {g : GG} {h : HH} {σ : SG} (W : WF σ) (R : RM (h 48) σ) {c e : Int} (hc : R32 c) (he : R32 e) (ho : ¬ (0 ≤ c ∧ c < 3 ∧ 0 ≤ e ∧ e < sP σ)) : CeI mX6_ends g [vr 47, vi c, vi e] h kBAD := by
  refine cn_q (lv := [vr 47, vi c, vi e]) tX6_ends.1 rfl rfl (fun hR Q hQ => ?_)
  have w1 := W.1
  have w2 := W.2.1
  have w3 := W.2.2.1
  refine z_aload_n dX6_ends_0 rfl ?_
  refine z_iload_n dX6_ends_1 rfl ?_
  refine z_callV_eI (M := mX6_ends) [_] tX6_isChain kX6_266 dX6_ends_2 ⟨by decide, rfl, _, _, rfl⟩ ⟨by decide, by decide⟩ rfl (Nat.le_of_ble_eq_true rfl) rfl (c_X6_isChain W.wb R (by omega)) ?_
  refine z_if_eq 26 dX6_ends_5 (by decide) (bi_r _) (fun c5 => ?_) (fun c5 => ?_)
  · have c5 := bi_eq.mp c5
    refine z_ldc (-1000001) dX6_ends_26 qX6_218 rfl ?_
    exact z_ireturn dX6_ends_28 rfl (hQ _ _ ⟨_, rfl, rfl, rfl⟩)
  · have c5 := bi_ne.mp c5
    refine z_aload_n dX6_ends_8 rfl ?_
    refine z_iconst dX6_ends_9 ?_
    refine z_iload_n dX6_ends_10 rfl ?_
    refine z_callV_eI (M := mX6_ends) [_, _] tX6_isCell kX6_247 dX6_ends_11 ⟨by decide, rfl, _, _, rfl⟩ ⟨by decide, by decide⟩ rfl (Nat.le_of_ble_eq_true rfl) rfl (c_X6_isCell0 W.wb R (by omega)) ?_
    refine z_if_eq 26 dX6_ends_14 (by decide) (bi_r _) (fun c14 => ?_) (fun c14 => ?_)
    · have c14 := bi_eq.mp c14
      refine z_ldc (-1000001) dX6_ends_26 qX6_218 rfl ?_
      exact z_ireturn dX6_ends_28 rfl (hQ _ _ ⟨_, rfl, rfl, rfl⟩)
    · have c14 := bi_ne.mp c14
      omega
set_option maxRecDepth 100000 in
set_option maxHeartbeats 4000000 in
theorem c_X6_ends1 {g : GG} {h : HH} {σ : SG} (W : WF σ) (R : RM (h 48) σ) {c e : Nat} (hc : c < 3) (he : e < sP σ) (h0 : 0 < sP σ) : CeI mX6_ends g [vr 47, vi (c : Int), vi (e : Int)] h (ends σ c e) := by
  refine cn_q (lv := [vr 47, vi (c : Int), vi (e : Int)]) tX6_ends.1 rfl rfl (fun hR Q hQ => ?_)
  have w1 := W.1
  have w2 := W.2.1
  have w3 := W.2.2.1
  refine z_aload_n dX6_ends_0 rfl ?_
  refine z_iload_n dX6_ends_1 rfl ?_
  refine z_callV_eI (M := mX6_ends) [_] tX6_isChain kX6_266 dX6_ends_2 ⟨by decide, rfl, _, _, rfl⟩ ⟨by decide, by decide⟩ rfl (Nat.le_of_ble_eq_true rfl) rfl (c_X6_isChain W.wb R (by omega)) ?_
  refine z_if_eq 26 dX6_ends_5 (by decide) (bi_r _) (fun c5 => ?_) (fun c5 => ?_)
  · have c5 := bi_eq.mp c5
    omega
  · have c5 := bi_ne.mp c5
    refine z_aload_n dX6_ends_8 rfl ?_
    refine z_iconst dX6_ends_9 ?_
    refine z_iload_n dX6_ends_10 rfl ?_
    refine z_callV_eI (M := mX6_ends) [_, _] tX6_isCell kX6_247 dX6_ends_11 ⟨by decide, rfl, _, _, rfl⟩ ⟨by decide, by decide⟩ rfl (Nat.le_of_ble_eq_true rfl) rfl (c_X6_isCell0 W.wb R (by omega)) ?_
    refine z_if_eq 26 dX6_ends_14 (by decide) (bi_r _) (fun c14 => ?_) (fun c14 => ?_)
    · have c14 := bi_eq.mp c14
      omega
    · have c14 := bi_ne.mp c14
      refine z_aload_n dX6_ends_17 rfl ?_
      refine z_iload_n dX6_ends_18 rfl ?_
      refine z_iload_n dX6_ends_19 rfl ?_
      refine z_callV_eI (M := mX6_ends) [_, _] tX6_endsAt kX6_318 dX6_ends_20 ⟨by decide, rfl, _, _, rfl⟩ ⟨by decide, by decide⟩ rfl (Nat.le_of_ble_eq_true rfl) rfl (c_X6_endsAt W R hc he) ?_
      refine z_goto 28 dX6_ends_23 (by decide) ?_
      exact z_ireturn dX6_ends_28 rfl (hQ _ _ ⟨_, rfl, rfl, rfl⟩)
set_option maxRecDepth 100000 in
set_option maxHeartbeats 4000000 in
theorem c_X6_asK {g : GG} {h : HH} {σ : SG} (W : WF σ) (R : RM (h 48) σ) {d c k : Int} (hd : R32 d) (hc : R32 c) (hk : R32 k) (ho : k < 0 ∨ 5 < k) {p : Prop} (hp : CeI mX6_isCell g [vr 47, vi d, vi c] h (bi p)) : CeI mX6_as g [vr 47, vi d, vi c, vi k] h kBAD := by
  refine cn_q (lv := [vr 47, vi d, vi c, vi k, vx]) tX6_as.1 rfl rfl (fun hR Q hQ => ?_)
  refine z_aload_n dX6_as_0 rfl ?_
  refine z_iload_n dX6_as_1 rfl ?_
  refine z_iload_n dX6_as_2 rfl ?_
  refine z_callV_eI (M := mX6_as) [_, _] tX6_isCell kX6_247 dX6_as_3 ⟨by decide, rfl, _, _, rfl⟩ ⟨by decide, by decide⟩ rfl (Nat.le_of_ble_eq_true rfl) rfl hp ?_
  refine z_if_eq 21 dX6_as_6 (by decide) (bi_r _) (fun c6 => ?_) (fun c6 => ?_)
  · have c6 := bi_eq.mp c6
    refine z_ldc (-1000001) dX6_as_21 qX6_218 rfl ?_
    exact z_ireturn dX6_as_23 rfl (hQ _ _ ⟨_, rfl, rfl, rfl⟩)
  · have c6 := bi_ne.mp c6
    refine z_iload_n dX6_as_9 rfl ?_
    refine z_i2l dX6_as_10 (by omega) ?_
    refine z_lconst (z := 0) dX6_as_11 rfl ?_
    refine z_ldc2 (5) dX6_as_12 qX6_292 rfl ?_
    refine z_callS_eI (M := mX6_as) [_, _, _] tX6_in kX6_150 dX6_as_15 ⟨by decide, by decide⟩ rfl (Nat.le_of_ble_eq_true rfl) rfl (c_X6_in (by omega) (by omega) (by omega)) ?_
    refine z_if_ne 24 dX6_as_18 (by decide) (bi_r _) (fun c18 => ?_) (fun c18 => ?_)
    · have c18 := bi_ne.mp c18
      omega
    · have c18 := bi_eq.mp c18
      refine z_ldc (-1000001) dX6_as_21 qX6_218 rfl ?_
      exact z_ireturn dX6_as_23 rfl (hQ _ _ ⟨_, rfl, rfl, rfl⟩)
set_option maxRecDepth 100000 in
set_option maxHeartbeats 4000000 in
theorem c_X6_asO {g : GG} {h : HH} {σ : SG} (W : WF σ) (R : RM (h 48) σ) {d c k : Int} (hd : R32 d) (hc : R32 c) (hk : R32 k) {p : Prop} (hp : CeI mX6_isCell g [vr 47, vi d, vi c] h (bi p)) (hq : ¬ p) : CeI mX6_as g [vr 47, vi d, vi c, vi k] h kBAD := by
  refine cn_q (lv := [vr 47, vi d, vi c, vi k, vx]) tX6_as.1 rfl rfl (fun hR Q hQ => ?_)
  refine z_aload_n dX6_as_0 rfl ?_
  refine z_iload_n dX6_as_1 rfl ?_
  refine z_iload_n dX6_as_2 rfl ?_
  refine z_callV_eI (M := mX6_as) [_, _] tX6_isCell kX6_247 dX6_as_3 ⟨by decide, rfl, _, _, rfl⟩ ⟨by decide, by decide⟩ rfl (Nat.le_of_ble_eq_true rfl) rfl hp ?_
  refine z_if_eq 21 dX6_as_6 (by decide) (bi_r _) (fun c6 => ?_) (fun c6 => ?_)
  · have c6 := bi_eq.mp c6
    refine z_ldc (-1000001) dX6_as_21 qX6_218 rfl ?_
    exact z_ireturn dX6_as_23 rfl (hQ _ _ ⟨_, rfl, rfl, rfl⟩)
  · have c6 := bi_ne.mp c6
    exact absurd c6 hq
set_option maxRecDepth 100000 in
set_option maxHeartbeats 4000000 in
theorem c_X6_as00 {g : GG} {h : HH} {σ : SG} (W : WF σ) (R : RM (h 48) σ) {c : Nat} (hc : c < sP σ) : CpI mX6_as g [vr 47, vi 0, vi (c : Int), vi 0] h (fun z => ((True) ∧ z = c) ∨ (¬ (True) ∧ z = kNONE)) := by
  refine cn_q (lv := [vr 47, vi 0, vi (c : Int), vi 0, vx]) tX6_as.1 rfl rfl (fun hR Q hQ => ?_)
  have w1 := W.1
  have w2 := W.2.1
  have w3 := W.2.2.1
  refine z_aload_n dX6_as_0 rfl ?_
  refine z_iload_n dX6_as_1 rfl ?_
  refine z_iload_n dX6_as_2 rfl ?_
  refine z_callV_eI (M := mX6_as) [_, _] tX6_isCell kX6_247 dX6_as_3 ⟨by decide, rfl, _, _, rfl⟩ ⟨by decide, by decide⟩ rfl (Nat.le_of_ble_eq_true rfl) rfl (c_X6_isCell0 W.wb R (by omega)) ?_
  refine z_if_eq 21 dX6_as_6 (by decide) (bi_r _) (fun c6 => ?_) (fun c6 => ?_)
  · have c6 := bi_eq.mp c6
    omega
  · have c6 := bi_ne.mp c6
    refine z_iload_n dX6_as_9 rfl ?_
    refine z_i2l dX6_as_10 (by omega) ?_
    refine z_lconst (z := 0) dX6_as_11 rfl ?_
    refine z_ldc2 (5) dX6_as_12 qX6_292 rfl ?_
    refine z_callS_eI (M := mX6_as) [_, _, _] tX6_in kX6_150 dX6_as_15 ⟨by decide, by decide⟩ rfl (Nat.le_of_ble_eq_true rfl) rfl (c_X6_in (by omega) (by omega) (by omega)) ?_
    refine z_if_ne 24 dX6_as_18 (by decide) (bi_r _) (fun c18 => ?_) (fun c18 => ?_)
    · have c18 := bi_ne.mp c18
      refine z_iload_n dX6_as_24 rfl ?_
      refine z_if_eq 93 dX6_as_25 (by decide) (by omega) (fun c25 => ?_) (fun c25 => ?_)
      · refine z_iconst dX6_as_93 ?_
        refine z_goto 98 dX6_as_94 (by decide) ?_
        refine z_istore dX6_as_98 (by decide) rfl ?_
        refine z_iload dX6_as_100 rfl ?_
        refine z_if_eq 109 dX6_as_102 (by decide) (by omega) (fun c102 => ?_) (fun c102 => ?_)
        · refine z_ldcw (-1000000) dX6_as_109 qX6_291 rfl ?_
          exact z_ireturn dX6_as_112 rfl (hQ _ _ ⟨_, rfl, (by first | (exfalso; omega) | exact Or.inl ⟨trivial, rfl⟩ | exact Or.inl ⟨by omega, rfl⟩ | exact Or.inl ⟨⟨rfl, by omega⟩, rfl⟩ | exact Or.inl ⟨⟨rfl, c90⟩, rfl⟩ | exact Or.inr ⟨fun q => by omega, rfl⟩ | exact Or.inr ⟨fun q => by have := q.2; omega, rfl⟩ | exact Or.inr ⟨fun q => c90 q.2, rfl⟩ | exact Or.inr ⟨fun q => by have := q.1; omega, rfl⟩), rfl⟩)
        · refine z_iload_n dX6_as_105 rfl ?_
          refine z_goto 112 dX6_as_106 (by decide) ?_
          exact z_ireturn dX6_as_112 rfl (hQ _ _ ⟨_, rfl, (by first | (exfalso; omega) | exact Or.inl ⟨trivial, rfl⟩ | exact Or.inl ⟨by omega, rfl⟩ | exact Or.inl ⟨⟨rfl, by omega⟩, rfl⟩ | exact Or.inl ⟨⟨rfl, c90⟩, rfl⟩ | exact Or.inr ⟨fun q => by omega, rfl⟩ | exact Or.inr ⟨fun q => by have := q.2; omega, rfl⟩ | exact Or.inr ⟨fun q => c90 q.2, rfl⟩ | exact Or.inr ⟨fun q => by have := q.1; omega, rfl⟩), rfl⟩)
      · omega
    · have c18 := bi_eq.mp c18
      omega
set_option maxRecDepth 100000 in
set_option maxHeartbeats 4000000 in
theorem c_X6_as01 {g : GG} {h : HH} {σ : SG} (W : WF σ) (R : RM (h 48) σ) {c : Nat} (hc : c < sP σ) : CpI mX6_as g [vr 47, vi 0, vi (c : Int), vi 1] h (fun z => (((0 : Int) = 0) ∧ z = c) ∨ (¬ ((0 : Int) = 0) ∧ z = kNONE)) := by
  refine cn_q (lv := [vr 47, vi 0, vi (c : Int), vi 1, vx]) tX6_as.1 rfl rfl (fun hR Q hQ => ?_)
  have w1 := W.1
  have w2 := W.2.1
  have w3 := W.2.2.1
  refine z_aload_n dX6_as_0 rfl ?_
  refine z_iload_n dX6_as_1 rfl ?_
  refine z_iload_n dX6_as_2 rfl ?_
  refine z_callV_eI (M := mX6_as) [_, _] tX6_isCell kX6_247 dX6_as_3 ⟨by decide, rfl, _, _, rfl⟩ ⟨by decide, by decide⟩ rfl (Nat.le_of_ble_eq_true rfl) rfl (c_X6_isCell0 W.wb R (by omega)) ?_
  refine z_if_eq 21 dX6_as_6 (by decide) (bi_r _) (fun c6 => ?_) (fun c6 => ?_)
  · have c6 := bi_eq.mp c6
    omega
  · have c6 := bi_ne.mp c6
    refine z_iload_n dX6_as_9 rfl ?_
    refine z_i2l dX6_as_10 (by omega) ?_
    refine z_lconst (z := 0) dX6_as_11 rfl ?_
    refine z_ldc2 (5) dX6_as_12 qX6_292 rfl ?_
    refine z_callS_eI (M := mX6_as) [_, _, _] tX6_in kX6_150 dX6_as_15 ⟨by decide, by decide⟩ rfl (Nat.le_of_ble_eq_true rfl) rfl (c_X6_in (by omega) (by omega) (by omega)) ?_
    refine z_if_ne 24 dX6_as_18 (by decide) (bi_r _) (fun c18 => ?_) (fun c18 => ?_)
    · have c18 := bi_ne.mp c18
      refine z_iload_n dX6_as_24 rfl ?_
      refine z_if_eq 93 dX6_as_25 (by decide) (by omega) (fun c25 => ?_) (fun c25 => ?_)
      · omega
      · refine z_iload_n dX6_as_28 rfl ?_
        refine z_iload_n dX6_as_29 rfl ?_
        refine z_iconst dX6_as_30 ?_
        refine z_icmp_ne 38 dX6_as_31 (by decide) (by omega) (by omega) (fun c31 => ?_) (fun c31 => ?_)
        · refine z_iload_n dX6_as_38 rfl ?_
          refine z_iconst dX6_as_39 ?_
          refine z_iadd dX6_as_40 ?_
          refine z_icmp_eq 93 dX6_as_41 (by decide) (by omega) (by omega) (fun c41 => ?_) (fun c41 => ?_)
          · refine z_iconst dX6_as_93 ?_
            refine z_goto 98 dX6_as_94 (by decide) ?_
            refine z_istore dX6_as_98 (by decide) rfl ?_
            refine z_iload dX6_as_100 rfl ?_
            refine z_if_eq 109 dX6_as_102 (by decide) (by omega) (fun c102 => ?_) (fun c102 => ?_)
            · refine z_ldcw (-1000000) dX6_as_109 qX6_291 rfl ?_
              exact z_ireturn dX6_as_112 rfl (hQ _ _ ⟨_, rfl, (by first | (exfalso; omega) | exact Or.inl ⟨trivial, rfl⟩ | exact Or.inl ⟨by omega, rfl⟩ | exact Or.inl ⟨⟨rfl, by omega⟩, rfl⟩ | exact Or.inl ⟨⟨rfl, c90⟩, rfl⟩ | exact Or.inr ⟨fun q => by omega, rfl⟩ | exact Or.inr ⟨fun q => by have := q.2; omega, rfl⟩ | exact Or.inr ⟨fun q => c90 q.2, rfl⟩ | exact Or.inr ⟨fun q => by have := q.1; omega, rfl⟩), rfl⟩)
            · refine z_iload_n dX6_as_105 rfl ?_
              refine z_goto 112 dX6_as_106 (by decide) ?_
              exact z_ireturn dX6_as_112 rfl (hQ _ _ ⟨_, rfl, (by first | (exfalso; omega) | exact Or.inl ⟨trivial, rfl⟩ | exact Or.inl ⟨by omega, rfl⟩ | exact Or.inl ⟨⟨rfl, by omega⟩, rfl⟩ | exact Or.inl ⟨⟨rfl, c90⟩, rfl⟩ | exact Or.inr ⟨fun q => by omega, rfl⟩ | exact Or.inr ⟨fun q => by have := q.2; omega, rfl⟩ | exact Or.inr ⟨fun q => c90 q.2, rfl⟩ | exact Or.inr ⟨fun q => by have := q.1; omega, rfl⟩), rfl⟩)
          · refine z_iload_n dX6_as_44 rfl ?_
            refine z_iconst dX6_as_45 ?_
            refine z_icmp_ne 75 dX6_as_46 (by decide) (by omega) (by omega) (fun c46 => ?_) (fun c46 => ?_)
            · refine z_iload_n dX6_as_75 rfl ?_
              refine z_iconst dX6_as_76 ?_
              refine z_icmp_ne 97 dX6_as_77 (by decide) (by omega) (by omega) (fun c77 => ?_) (fun c77 => ?_)
              · refine z_iconst dX6_as_97 ?_
                refine z_istore dX6_as_98 (by decide) rfl ?_
                refine z_iload dX6_as_100 rfl ?_
                refine z_if_eq 109 dX6_as_102 (by decide) (by omega) (fun c102 => ?_) (fun c102 => ?_)
                · refine z_ldcw (-1000000) dX6_as_109 qX6_291 rfl ?_
                  exact z_ireturn dX6_as_112 rfl (hQ _ _ ⟨_, rfl, (by first | (exfalso; omega) | exact Or.inl ⟨trivial, rfl⟩ | exact Or.inl ⟨by omega, rfl⟩ | exact Or.inl ⟨⟨rfl, by omega⟩, rfl⟩ | exact Or.inl ⟨⟨rfl, c90⟩, rfl⟩ | exact Or.inr ⟨fun q => by omega, rfl⟩ | exact Or.inr ⟨fun q => by have := q.2; omega, rfl⟩ | exact Or.inr ⟨fun q => c90 q.2, rfl⟩ | exact Or.inr ⟨fun q => by have := q.1; omega, rfl⟩), rfl⟩)
                · refine z_iload_n dX6_as_105 rfl ?_
                  refine z_goto 112 dX6_as_106 (by decide) ?_
                  exact z_ireturn dX6_as_112 rfl (hQ _ _ ⟨_, rfl, (by first | (exfalso; omega) | exact Or.inl ⟨trivial, rfl⟩ | exact Or.inl ⟨by omega, rfl⟩ | exact Or.inl ⟨⟨rfl, by omega⟩, rfl⟩ | exact Or.inl ⟨⟨rfl, c90⟩, rfl⟩ | exact Or.inr ⟨fun q => by omega, rfl⟩ | exact Or.inr ⟨fun q => by have := q.2; omega, rfl⟩ | exact Or.inr ⟨fun q => c90 q.2, rfl⟩ | exact Or.inr ⟨fun q => by have := q.1; omega, rfl⟩), rfl⟩)
              · omega
            · omega
        · omega
    · have c18 := bi_eq.mp c18
      omega
set_option maxRecDepth 100000 in
set_option maxHeartbeats 4000000 in
theorem c_X6_as02 {g : GG} {h : HH} {σ : SG} (W : WF σ) (R : RM (h 48) σ) {c : Nat} (hc : c < sP σ) : CpI mX6_as g [vr 47, vi 0, vi (c : Int), vi 2] h (fun z => (((0 : Int) = 1) ∧ z = c) ∨ (¬ ((0 : Int) = 1) ∧ z = kNONE)) := by
  refine cn_q (lv := [vr 47, vi 0, vi (c : Int), vi 2, vx]) tX6_as.1 rfl rfl (fun hR Q hQ => ?_)
  have w1 := W.1
  have w2 := W.2.1
  have w3 := W.2.2.1
  refine z_aload_n dX6_as_0 rfl ?_
  refine z_iload_n dX6_as_1 rfl ?_
  refine z_iload_n dX6_as_2 rfl ?_
  refine z_callV_eI (M := mX6_as) [_, _] tX6_isCell kX6_247 dX6_as_3 ⟨by decide, rfl, _, _, rfl⟩ ⟨by decide, by decide⟩ rfl (Nat.le_of_ble_eq_true rfl) rfl (c_X6_isCell0 W.wb R (by omega)) ?_
  refine z_if_eq 21 dX6_as_6 (by decide) (bi_r _) (fun c6 => ?_) (fun c6 => ?_)
  · have c6 := bi_eq.mp c6
    omega
  · have c6 := bi_ne.mp c6
    refine z_iload_n dX6_as_9 rfl ?_
    refine z_i2l dX6_as_10 (by omega) ?_
    refine z_lconst (z := 0) dX6_as_11 rfl ?_
    refine z_ldc2 (5) dX6_as_12 qX6_292 rfl ?_
    refine z_callS_eI (M := mX6_as) [_, _, _] tX6_in kX6_150 dX6_as_15 ⟨by decide, by decide⟩ rfl (Nat.le_of_ble_eq_true rfl) rfl (c_X6_in (by omega) (by omega) (by omega)) ?_
    refine z_if_ne 24 dX6_as_18 (by decide) (bi_r _) (fun c18 => ?_) (fun c18 => ?_)
    · have c18 := bi_ne.mp c18
      refine z_iload_n dX6_as_24 rfl ?_
      refine z_if_eq 93 dX6_as_25 (by decide) (by omega) (fun c25 => ?_) (fun c25 => ?_)
      · omega
      · refine z_iload_n dX6_as_28 rfl ?_
        refine z_iload_n dX6_as_29 rfl ?_
        refine z_iconst dX6_as_30 ?_
        refine z_icmp_ne 38 dX6_as_31 (by decide) (by omega) (by omega) (fun c31 => ?_) (fun c31 => ?_)
        · refine z_iload_n dX6_as_38 rfl ?_
          refine z_iconst dX6_as_39 ?_
          refine z_iadd dX6_as_40 ?_
          refine z_icmp_eq 93 dX6_as_41 (by decide) (by omega) (by omega) (fun c41 => ?_) (fun c41 => ?_)
          · refine z_iconst dX6_as_93 ?_
            refine z_goto 98 dX6_as_94 (by decide) ?_
            refine z_istore dX6_as_98 (by decide) rfl ?_
            refine z_iload dX6_as_100 rfl ?_
            refine z_if_eq 109 dX6_as_102 (by decide) (by omega) (fun c102 => ?_) (fun c102 => ?_)
            · refine z_ldcw (-1000000) dX6_as_109 qX6_291 rfl ?_
              exact z_ireturn dX6_as_112 rfl (hQ _ _ ⟨_, rfl, (by first | (exfalso; omega) | exact Or.inl ⟨trivial, rfl⟩ | exact Or.inl ⟨by omega, rfl⟩ | exact Or.inl ⟨⟨rfl, by omega⟩, rfl⟩ | exact Or.inl ⟨⟨rfl, c90⟩, rfl⟩ | exact Or.inr ⟨fun q => by omega, rfl⟩ | exact Or.inr ⟨fun q => by have := q.2; omega, rfl⟩ | exact Or.inr ⟨fun q => c90 q.2, rfl⟩ | exact Or.inr ⟨fun q => by have := q.1; omega, rfl⟩), rfl⟩)
            · refine z_iload_n dX6_as_105 rfl ?_
              refine z_goto 112 dX6_as_106 (by decide) ?_
              exact z_ireturn dX6_as_112 rfl (hQ _ _ ⟨_, rfl, (by first | (exfalso; omega) | exact Or.inl ⟨trivial, rfl⟩ | exact Or.inl ⟨by omega, rfl⟩ | exact Or.inl ⟨⟨rfl, by omega⟩, rfl⟩ | exact Or.inl ⟨⟨rfl, c90⟩, rfl⟩ | exact Or.inr ⟨fun q => by omega, rfl⟩ | exact Or.inr ⟨fun q => by have := q.2; omega, rfl⟩ | exact Or.inr ⟨fun q => c90 q.2, rfl⟩ | exact Or.inr ⟨fun q => by have := q.1; omega, rfl⟩), rfl⟩)
          · refine z_iload_n dX6_as_44 rfl ?_
            refine z_iconst dX6_as_45 ?_
            refine z_icmp_ne 75 dX6_as_46 (by decide) (by omega) (by omega) (fun c46 => ?_) (fun c46 => ?_)
            · refine z_iload_n dX6_as_75 rfl ?_
              refine z_iconst dX6_as_76 ?_
              refine z_icmp_ne 97 dX6_as_77 (by decide) (by omega) (by omega) (fun c77 => ?_) (fun c77 => ?_)
              · refine z_iconst dX6_as_97 ?_
                refine z_istore dX6_as_98 (by decide) rfl ?_
                refine z_iload dX6_as_100 rfl ?_
                refine z_if_eq 109 dX6_as_102 (by decide) (by omega) (fun c102 => ?_) (fun c102 => ?_)
                · refine z_ldcw (-1000000) dX6_as_109 qX6_291 rfl ?_
                  exact z_ireturn dX6_as_112 rfl (hQ _ _ ⟨_, rfl, (by first | (exfalso; omega) | exact Or.inl ⟨trivial, rfl⟩ | exact Or.inl ⟨by omega, rfl⟩ | exact Or.inl ⟨⟨rfl, by omega⟩, rfl⟩ | exact Or.inl ⟨⟨rfl, c90⟩, rfl⟩ | exact Or.inr ⟨fun q => by omega, rfl⟩ | exact Or.inr ⟨fun q => by have := q.2; omega, rfl⟩ | exact Or.inr ⟨fun q => c90 q.2, rfl⟩ | exact Or.inr ⟨fun q => by have := q.1; omega, rfl⟩), rfl⟩)
                · refine z_iload_n dX6_as_105 rfl ?_
                  refine z_goto 112 dX6_as_106 (by decide) ?_
                  exact z_ireturn dX6_as_112 rfl (hQ _ _ ⟨_, rfl, (by first | (exfalso; omega) | exact Or.inl ⟨trivial, rfl⟩ | exact Or.inl ⟨by omega, rfl⟩ | exact Or.inl ⟨⟨rfl, by omega⟩, rfl⟩ | exact Or.inl ⟨⟨rfl, c90⟩, rfl⟩ | exact Or.inr ⟨fun q => by omega, rfl⟩ | exact Or.inr ⟨fun q => by have := q.2; omega, rfl⟩ | exact Or.inr ⟨fun q => c90 q.2, rfl⟩ | exact Or.inr ⟨fun q => by have := q.1; omega, rfl⟩), rfl⟩)
              · omega
            · omega
        · omega
    · have c18 := bi_eq.mp c18
      omega
set_option maxRecDepth 100000 in
set_option maxHeartbeats 4000000 in
theorem c_X6_as03 {g : GG} {h : HH} {σ : SG} (W : WF σ) (R : RM (h 48) σ) {c : Nat} (hc : c < sP σ) : CpI mX6_as g [vr 47, vi 0, vi (c : Int), vi 3] h (fun z => (((0 : Int) = 1 ∧ sfr σ c = sto σ c) ∧ z = c) ∨ (¬ ((0 : Int) = 1 ∧ sfr σ c = sto σ c) ∧ z = kNONE)) := by
  refine cn_q (lv := [vr 47, vi 0, vi (c : Int), vi 3, vx]) tX6_as.1 rfl rfl (fun hR Q hQ => ?_)
  have w1 := W.1
  have w2 := W.2.1
  have w3 := W.2.2.1
  refine z_aload_n dX6_as_0 rfl ?_
  refine z_iload_n dX6_as_1 rfl ?_
  refine z_iload_n dX6_as_2 rfl ?_
  refine z_callV_eI (M := mX6_as) [_, _] tX6_isCell kX6_247 dX6_as_3 ⟨by decide, rfl, _, _, rfl⟩ ⟨by decide, by decide⟩ rfl (Nat.le_of_ble_eq_true rfl) rfl (c_X6_isCell0 W.wb R (by omega)) ?_
  refine z_if_eq 21 dX6_as_6 (by decide) (bi_r _) (fun c6 => ?_) (fun c6 => ?_)
  · have c6 := bi_eq.mp c6
    omega
  · have c6 := bi_ne.mp c6
    refine z_iload_n dX6_as_9 rfl ?_
    refine z_i2l dX6_as_10 (by omega) ?_
    refine z_lconst (z := 0) dX6_as_11 rfl ?_
    refine z_ldc2 (5) dX6_as_12 qX6_292 rfl ?_
    refine z_callS_eI (M := mX6_as) [_, _, _] tX6_in kX6_150 dX6_as_15 ⟨by decide, by decide⟩ rfl (Nat.le_of_ble_eq_true rfl) rfl (c_X6_in (by omega) (by omega) (by omega)) ?_
    refine z_if_ne 24 dX6_as_18 (by decide) (bi_r _) (fun c18 => ?_) (fun c18 => ?_)
    · have c18 := bi_ne.mp c18
      refine z_iload_n dX6_as_24 rfl ?_
      refine z_if_eq 93 dX6_as_25 (by decide) (by omega) (fun c25 => ?_) (fun c25 => ?_)
      · omega
      · refine z_iload_n dX6_as_28 rfl ?_
        refine z_iload_n dX6_as_29 rfl ?_
        refine z_iconst dX6_as_30 ?_
        refine z_icmp_ne 38 dX6_as_31 (by decide) (by omega) (by omega) (fun c31 => ?_) (fun c31 => ?_)
        · refine z_iload_n dX6_as_38 rfl ?_
          refine z_iconst dX6_as_39 ?_
          refine z_iadd dX6_as_40 ?_
          refine z_icmp_eq 93 dX6_as_41 (by decide) (by omega) (by omega) (fun c41 => ?_) (fun c41 => ?_)
          · refine z_iconst dX6_as_93 ?_
            refine z_goto 98 dX6_as_94 (by decide) ?_
            refine z_istore dX6_as_98 (by decide) rfl ?_
            refine z_iload dX6_as_100 rfl ?_
            refine z_if_eq 109 dX6_as_102 (by decide) (by omega) (fun c102 => ?_) (fun c102 => ?_)
            · refine z_ldcw (-1000000) dX6_as_109 qX6_291 rfl ?_
              exact z_ireturn dX6_as_112 rfl (hQ _ _ ⟨_, rfl, (by first | (exfalso; omega) | exact Or.inl ⟨trivial, rfl⟩ | exact Or.inl ⟨by omega, rfl⟩ | exact Or.inl ⟨⟨rfl, by omega⟩, rfl⟩ | exact Or.inl ⟨⟨rfl, c90⟩, rfl⟩ | exact Or.inr ⟨fun q => by omega, rfl⟩ | exact Or.inr ⟨fun q => by have := q.2; omega, rfl⟩ | exact Or.inr ⟨fun q => c90 q.2, rfl⟩ | exact Or.inr ⟨fun q => by have := q.1; omega, rfl⟩), rfl⟩)
            · refine z_iload_n dX6_as_105 rfl ?_
              refine z_goto 112 dX6_as_106 (by decide) ?_
              exact z_ireturn dX6_as_112 rfl (hQ _ _ ⟨_, rfl, (by first | (exfalso; omega) | exact Or.inl ⟨trivial, rfl⟩ | exact Or.inl ⟨by omega, rfl⟩ | exact Or.inl ⟨⟨rfl, by omega⟩, rfl⟩ | exact Or.inl ⟨⟨rfl, c90⟩, rfl⟩ | exact Or.inr ⟨fun q => by omega, rfl⟩ | exact Or.inr ⟨fun q => by have := q.2; omega, rfl⟩ | exact Or.inr ⟨fun q => c90 q.2, rfl⟩ | exact Or.inr ⟨fun q => by have := q.1; omega, rfl⟩), rfl⟩)
          · refine z_iload_n dX6_as_44 rfl ?_
            refine z_iconst dX6_as_45 ?_
            refine z_icmp_ne 75 dX6_as_46 (by decide) (by omega) (by omega) (fun c46 => ?_) (fun c46 => ?_)
            · omega
            · refine z_iload_n dX6_as_49 rfl ?_
              refine z_iconst dX6_as_50 ?_
              refine z_icmp_ne 75 dX6_as_51 (by decide) (by omega) (by omega) (fun c51 => ?_) (fun c51 => ?_)
              · refine z_iload_n dX6_as_75 rfl ?_
                refine z_iconst dX6_as_76 ?_
                refine z_icmp_ne 97 dX6_as_77 (by decide) (by omega) (by omega) (fun c77 => ?_) (fun c77 => ?_)
                · refine z_iconst dX6_as_97 ?_
                  refine z_istore dX6_as_98 (by decide) rfl ?_
                  refine z_iload dX6_as_100 rfl ?_
                  refine z_if_eq 109 dX6_as_102 (by decide) (by omega) (fun c102 => ?_) (fun c102 => ?_)
                  · refine z_ldcw (-1000000) dX6_as_109 qX6_291 rfl ?_
                    exact z_ireturn dX6_as_112 rfl (hQ _ _ ⟨_, rfl, (by first | (exfalso; omega) | exact Or.inl ⟨trivial, rfl⟩ | exact Or.inl ⟨by omega, rfl⟩ | exact Or.inl ⟨⟨rfl, by omega⟩, rfl⟩ | exact Or.inl ⟨⟨rfl, c90⟩, rfl⟩ | exact Or.inr ⟨fun q => by omega, rfl⟩ | exact Or.inr ⟨fun q => by have := q.2; omega, rfl⟩ | exact Or.inr ⟨fun q => c90 q.2, rfl⟩ | exact Or.inr ⟨fun q => by have := q.1; omega, rfl⟩), rfl⟩)
                  · refine z_iload_n dX6_as_105 rfl ?_
                    refine z_goto 112 dX6_as_106 (by decide) ?_
                    exact z_ireturn dX6_as_112 rfl (hQ _ _ ⟨_, rfl, (by first | (exfalso; omega) | exact Or.inl ⟨trivial, rfl⟩ | exact Or.inl ⟨by omega, rfl⟩ | exact Or.inl ⟨⟨rfl, by omega⟩, rfl⟩ | exact Or.inl ⟨⟨rfl, c90⟩, rfl⟩ | exact Or.inr ⟨fun q => by omega, rfl⟩ | exact Or.inr ⟨fun q => by have := q.2; omega, rfl⟩ | exact Or.inr ⟨fun q => c90 q.2, rfl⟩ | exact Or.inr ⟨fun q => by have := q.1; omega, rfl⟩), rfl⟩)
                · omega
              · omega
        · omega
    · have c18 := bi_eq.mp c18
      omega
set_option maxRecDepth 100000 in
set_option maxHeartbeats 4000000 in
theorem c_X6_as04 {g : GG} {h : HH} {σ : SG} (W : WF σ) (R : RM (h 48) σ) {c : Nat} (hc : c < sP σ) : CpI mX6_as g [vr 47, vi 0, vi (c : Int), vi 4] h (fun z => (((0 : Int) = 2) ∧ z = c) ∨ (¬ ((0 : Int) = 2) ∧ z = kNONE)) := by
  refine cn_q (lv := [vr 47, vi 0, vi (c : Int), vi 4, vx]) tX6_as.1 rfl rfl (fun hR Q hQ => ?_)
  have w1 := W.1
  have w2 := W.2.1
  have w3 := W.2.2.1
  refine z_aload_n dX6_as_0 rfl ?_
  refine z_iload_n dX6_as_1 rfl ?_
  refine z_iload_n dX6_as_2 rfl ?_
  refine z_callV_eI (M := mX6_as) [_, _] tX6_isCell kX6_247 dX6_as_3 ⟨by decide, rfl, _, _, rfl⟩ ⟨by decide, by decide⟩ rfl (Nat.le_of_ble_eq_true rfl) rfl (c_X6_isCell0 W.wb R (by omega)) ?_
  refine z_if_eq 21 dX6_as_6 (by decide) (bi_r _) (fun c6 => ?_) (fun c6 => ?_)
  · have c6 := bi_eq.mp c6
    omega
  · have c6 := bi_ne.mp c6
    refine z_iload_n dX6_as_9 rfl ?_
    refine z_i2l dX6_as_10 (by omega) ?_
    refine z_lconst (z := 0) dX6_as_11 rfl ?_
    refine z_ldc2 (5) dX6_as_12 qX6_292 rfl ?_
    refine z_callS_eI (M := mX6_as) [_, _, _] tX6_in kX6_150 dX6_as_15 ⟨by decide, by decide⟩ rfl (Nat.le_of_ble_eq_true rfl) rfl (c_X6_in (by omega) (by omega) (by omega)) ?_
    refine z_if_ne 24 dX6_as_18 (by decide) (bi_r _) (fun c18 => ?_) (fun c18 => ?_)
    · have c18 := bi_ne.mp c18
      refine z_iload_n dX6_as_24 rfl ?_
      refine z_if_eq 93 dX6_as_25 (by decide) (by omega) (fun c25 => ?_) (fun c25 => ?_)
      · omega
      · refine z_iload_n dX6_as_28 rfl ?_
        refine z_iload_n dX6_as_29 rfl ?_
        refine z_iconst dX6_as_30 ?_
        refine z_icmp_ne 38 dX6_as_31 (by decide) (by omega) (by omega) (fun c31 => ?_) (fun c31 => ?_)
        · refine z_iload_n dX6_as_38 rfl ?_
          refine z_iconst dX6_as_39 ?_
          refine z_iadd dX6_as_40 ?_
          refine z_icmp_eq 93 dX6_as_41 (by decide) (by omega) (by omega) (fun c41 => ?_) (fun c41 => ?_)
          · refine z_iconst dX6_as_93 ?_
            refine z_goto 98 dX6_as_94 (by decide) ?_
            refine z_istore dX6_as_98 (by decide) rfl ?_
            refine z_iload dX6_as_100 rfl ?_
            refine z_if_eq 109 dX6_as_102 (by decide) (by omega) (fun c102 => ?_) (fun c102 => ?_)
            · refine z_ldcw (-1000000) dX6_as_109 qX6_291 rfl ?_
              exact z_ireturn dX6_as_112 rfl (hQ _ _ ⟨_, rfl, (by first | (exfalso; omega) | exact Or.inl ⟨trivial, rfl⟩ | exact Or.inl ⟨by omega, rfl⟩ | exact Or.inl ⟨⟨rfl, by omega⟩, rfl⟩ | exact Or.inl ⟨⟨rfl, c90⟩, rfl⟩ | exact Or.inr ⟨fun q => by omega, rfl⟩ | exact Or.inr ⟨fun q => by have := q.2; omega, rfl⟩ | exact Or.inr ⟨fun q => c90 q.2, rfl⟩ | exact Or.inr ⟨fun q => by have := q.1; omega, rfl⟩), rfl⟩)
            · refine z_iload_n dX6_as_105 rfl ?_
              refine z_goto 112 dX6_as_106 (by decide) ?_
              exact z_ireturn dX6_as_112 rfl (hQ _ _ ⟨_, rfl, (by first | (exfalso; omega) | exact Or.inl ⟨trivial, rfl⟩ | exact Or.inl ⟨by omega, rfl⟩ | exact Or.inl ⟨⟨rfl, by omega⟩, rfl⟩ | exact Or.inl ⟨⟨rfl, c90⟩, rfl⟩ | exact Or.inr ⟨fun q => by omega, rfl⟩ | exact Or.inr ⟨fun q => by have := q.2; omega, rfl⟩ | exact Or.inr ⟨fun q => c90 q.2, rfl⟩ | exact Or.inr ⟨fun q => by have := q.1; omega, rfl⟩), rfl⟩)
          · refine z_iload_n dX6_as_44 rfl ?_
            refine z_iconst dX6_as_45 ?_
            refine z_icmp_ne 75 dX6_as_46 (by decide) (by omega) (by omega) (fun c46 => ?_) (fun c46 => ?_)
            · refine z_iload_n dX6_as_75 rfl ?_
              refine z_iconst dX6_as_76 ?_
              refine z_icmp_ne 97 dX6_as_77 (by decide) (by omega) (by omega) (fun c77 => ?_) (fun c77 => ?_)
              · refine z_iconst dX6_as_97 ?_
                refine z_istore dX6_as_98 (by decide) rfl ?_
                refine z_iload dX6_as_100 rfl ?_
                refine z_if_eq 109 dX6_as_102 (by decide) (by omega) (fun c102 => ?_) (fun c102 => ?_)
                · refine z_ldcw (-1000000) dX6_as_109 qX6_291 rfl ?_
                  exact z_ireturn dX6_as_112 rfl (hQ _ _ ⟨_, rfl, (by first | (exfalso; omega) | exact Or.inl ⟨trivial, rfl⟩ | exact Or.inl ⟨by omega, rfl⟩ | exact Or.inl ⟨⟨rfl, by omega⟩, rfl⟩ | exact Or.inl ⟨⟨rfl, c90⟩, rfl⟩ | exact Or.inr ⟨fun q => by omega, rfl⟩ | exact Or.inr ⟨fun q => by have := q.2; omega, rfl⟩ | exact Or.inr ⟨fun q => c90 q.2, rfl⟩ | exact Or.inr ⟨fun q => by have := q.1; omega, rfl⟩), rfl⟩)
                · refine z_iload_n dX6_as_105 rfl ?_
                  refine z_goto 112 dX6_as_106 (by decide) ?_
                  exact z_ireturn dX6_as_112 rfl (hQ _ _ ⟨_, rfl, (by first | (exfalso; omega) | exact Or.inl ⟨trivial, rfl⟩ | exact Or.inl ⟨by omega, rfl⟩ | exact Or.inl ⟨⟨rfl, by omega⟩, rfl⟩ | exact Or.inl ⟨⟨rfl, c90⟩, rfl⟩ | exact Or.inr ⟨fun q => by omega, rfl⟩ | exact Or.inr ⟨fun q => by have := q.2; omega, rfl⟩ | exact Or.inr ⟨fun q => c90 q.2, rfl⟩ | exact Or.inr ⟨fun q => by have := q.1; omega, rfl⟩), rfl⟩)
              · omega
            · omega
        · omega
    · have c18 := bi_eq.mp c18
      omega
set_option maxRecDepth 100000 in
set_option maxHeartbeats 4000000 in
theorem c_X6_as05 {g : GG} {h : HH} {σ : SG} (W : WF σ) (R : RM (h 48) σ) {c : Nat} (hc : c < sP σ) : CpI mX6_as g [vr 47, vi 0, vi (c : Int), vi 5] h (fun z => (((0 : Int) = 2 ∧ sld σ c) ∧ z = c) ∨ (¬ ((0 : Int) = 2 ∧ sld σ c) ∧ z = kNONE)) := by
  refine cn_q (lv := [vr 47, vi 0, vi (c : Int), vi 5, vx]) tX6_as.1 rfl rfl (fun hR Q hQ => ?_)
  have w1 := W.1
  have w2 := W.2.1
  have w3 := W.2.2.1
  refine z_aload_n dX6_as_0 rfl ?_
  refine z_iload_n dX6_as_1 rfl ?_
  refine z_iload_n dX6_as_2 rfl ?_
  refine z_callV_eI (M := mX6_as) [_, _] tX6_isCell kX6_247 dX6_as_3 ⟨by decide, rfl, _, _, rfl⟩ ⟨by decide, by decide⟩ rfl (Nat.le_of_ble_eq_true rfl) rfl (c_X6_isCell0 W.wb R (by omega)) ?_
  refine z_if_eq 21 dX6_as_6 (by decide) (bi_r _) (fun c6 => ?_) (fun c6 => ?_)
  · have c6 := bi_eq.mp c6
    omega
  · have c6 := bi_ne.mp c6
    refine z_iload_n dX6_as_9 rfl ?_
    refine z_i2l dX6_as_10 (by omega) ?_
    refine z_lconst (z := 0) dX6_as_11 rfl ?_
    refine z_ldc2 (5) dX6_as_12 qX6_292 rfl ?_
    refine z_callS_eI (M := mX6_as) [_, _, _] tX6_in kX6_150 dX6_as_15 ⟨by decide, by decide⟩ rfl (Nat.le_of_ble_eq_true rfl) rfl (c_X6_in (by omega) (by omega) (by omega)) ?_
    refine z_if_ne 24 dX6_as_18 (by decide) (bi_r _) (fun c18 => ?_) (fun c18 => ?_)
    · have c18 := bi_ne.mp c18
      refine z_iload_n dX6_as_24 rfl ?_
      refine z_if_eq 93 dX6_as_25 (by decide) (by omega) (fun c25 => ?_) (fun c25 => ?_)
      · omega
      · refine z_iload_n dX6_as_28 rfl ?_
        refine z_iload_n dX6_as_29 rfl ?_
        refine z_iconst dX6_as_30 ?_
        refine z_icmp_ne 38 dX6_as_31 (by decide) (by omega) (by omega) (fun c31 => ?_) (fun c31 => ?_)
        · refine z_iload_n dX6_as_38 rfl ?_
          refine z_iconst dX6_as_39 ?_
          refine z_iadd dX6_as_40 ?_
          refine z_icmp_eq 93 dX6_as_41 (by decide) (by omega) (by omega) (fun c41 => ?_) (fun c41 => ?_)
          · refine z_iconst dX6_as_93 ?_
            refine z_goto 98 dX6_as_94 (by decide) ?_
            refine z_istore dX6_as_98 (by decide) rfl ?_
            refine z_iload dX6_as_100 rfl ?_
            refine z_if_eq 109 dX6_as_102 (by decide) (by omega) (fun c102 => ?_) (fun c102 => ?_)
            · refine z_ldcw (-1000000) dX6_as_109 qX6_291 rfl ?_
              exact z_ireturn dX6_as_112 rfl (hQ _ _ ⟨_, rfl, (by first | (exfalso; omega) | exact Or.inl ⟨trivial, rfl⟩ | exact Or.inl ⟨by omega, rfl⟩ | exact Or.inl ⟨⟨rfl, by omega⟩, rfl⟩ | exact Or.inl ⟨⟨rfl, c90⟩, rfl⟩ | exact Or.inr ⟨fun q => by omega, rfl⟩ | exact Or.inr ⟨fun q => by have := q.2; omega, rfl⟩ | exact Or.inr ⟨fun q => c90 q.2, rfl⟩ | exact Or.inr ⟨fun q => by have := q.1; omega, rfl⟩), rfl⟩)
            · refine z_iload_n dX6_as_105 rfl ?_
              refine z_goto 112 dX6_as_106 (by decide) ?_
              exact z_ireturn dX6_as_112 rfl (hQ _ _ ⟨_, rfl, (by first | (exfalso; omega) | exact Or.inl ⟨trivial, rfl⟩ | exact Or.inl ⟨by omega, rfl⟩ | exact Or.inl ⟨⟨rfl, by omega⟩, rfl⟩ | exact Or.inl ⟨⟨rfl, c90⟩, rfl⟩ | exact Or.inr ⟨fun q => by omega, rfl⟩ | exact Or.inr ⟨fun q => by have := q.2; omega, rfl⟩ | exact Or.inr ⟨fun q => c90 q.2, rfl⟩ | exact Or.inr ⟨fun q => by have := q.1; omega, rfl⟩), rfl⟩)
          · refine z_iload_n dX6_as_44 rfl ?_
            refine z_iconst dX6_as_45 ?_
            refine z_icmp_ne 75 dX6_as_46 (by decide) (by omega) (by omega) (fun c46 => ?_) (fun c46 => ?_)
            · refine z_iload_n dX6_as_75 rfl ?_
              refine z_iconst dX6_as_76 ?_
              refine z_icmp_ne 97 dX6_as_77 (by decide) (by omega) (by omega) (fun c77 => ?_) (fun c77 => ?_)
              · omega
              · refine z_iload_n dX6_as_80 rfl ?_
                refine z_iconst dX6_as_81 ?_
                refine z_icmp_ne 97 dX6_as_82 (by decide) (by omega) (by omega) (fun c82 => ?_) (fun c82 => ?_)
                · refine z_iconst dX6_as_97 ?_
                  refine z_istore dX6_as_98 (by decide) rfl ?_
                  refine z_iload dX6_as_100 rfl ?_
                  refine z_if_eq 109 dX6_as_102 (by decide) (by omega) (fun c102 => ?_) (fun c102 => ?_)
                  · refine z_ldcw (-1000000) dX6_as_109 qX6_291 rfl ?_
                    exact z_ireturn dX6_as_112 rfl (hQ _ _ ⟨_, rfl, (by first | (exfalso; omega) | exact Or.inl ⟨trivial, rfl⟩ | exact Or.inl ⟨by omega, rfl⟩ | exact Or.inl ⟨⟨rfl, by omega⟩, rfl⟩ | exact Or.inl ⟨⟨rfl, c90⟩, rfl⟩ | exact Or.inr ⟨fun q => by omega, rfl⟩ | exact Or.inr ⟨fun q => by have := q.2; omega, rfl⟩ | exact Or.inr ⟨fun q => c90 q.2, rfl⟩ | exact Or.inr ⟨fun q => by have := q.1; omega, rfl⟩), rfl⟩)
                  · refine z_iload_n dX6_as_105 rfl ?_
                    refine z_goto 112 dX6_as_106 (by decide) ?_
                    exact z_ireturn dX6_as_112 rfl (hQ _ _ ⟨_, rfl, (by first | (exfalso; omega) | exact Or.inl ⟨trivial, rfl⟩ | exact Or.inl ⟨by omega, rfl⟩ | exact Or.inl ⟨⟨rfl, by omega⟩, rfl⟩ | exact Or.inl ⟨⟨rfl, c90⟩, rfl⟩ | exact Or.inr ⟨fun q => by omega, rfl⟩ | exact Or.inr ⟨fun q => by have := q.2; omega, rfl⟩ | exact Or.inr ⟨fun q => c90 q.2, rfl⟩ | exact Or.inr ⟨fun q => by have := q.1; omega, rfl⟩), rfl⟩)
                · omega
            · omega
        · omega
    · have c18 := bi_eq.mp c18
      omega
set_option maxRecDepth 100000 in
set_option maxHeartbeats 4000000 in
theorem c_X6_as10 {g : GG} {h : HH} {σ : SG} (W : WF σ) (R : RM (h 48) σ) {c : Nat} (hc : c < sE σ) : CpI mX6_as g [vr 47, vi 1, vi (c : Int), vi 0] h (fun z => ((True) ∧ z = c) ∨ (¬ (True) ∧ z = kNONE)) := by
  refine cn_q (lv := [vr 47, vi 1, vi (c : Int), vi 0, vx]) tX6_as.1 rfl rfl (fun hR Q hQ => ?_)
  have w1 := W.1
  have w2 := W.2.1
  have w3 := W.2.2.1
  have w4 := W.2.2.2.1 c hc
  refine z_aload_n dX6_as_0 rfl ?_
  refine z_iload_n dX6_as_1 rfl ?_
  refine z_iload_n dX6_as_2 rfl ?_
  refine z_callV_eI (M := mX6_as) [_, _] tX6_isCell kX6_247 dX6_as_3 ⟨by decide, rfl, _, _, rfl⟩ ⟨by decide, by decide⟩ rfl (Nat.le_of_ble_eq_true rfl) rfl (c_X6_isCell1 W.wb R (by omega)) ?_
  refine z_if_eq 21 dX6_as_6 (by decide) (bi_r _) (fun c6 => ?_) (fun c6 => ?_)
  · have c6 := bi_eq.mp c6
    omega
  · have c6 := bi_ne.mp c6
    refine z_iload_n dX6_as_9 rfl ?_
    refine z_i2l dX6_as_10 (by omega) ?_
    refine z_lconst (z := 0) dX6_as_11 rfl ?_
    refine z_ldc2 (5) dX6_as_12 qX6_292 rfl ?_
    refine z_callS_eI (M := mX6_as) [_, _, _] tX6_in kX6_150 dX6_as_15 ⟨by decide, by decide⟩ rfl (Nat.le_of_ble_eq_true rfl) rfl (c_X6_in (by omega) (by omega) (by omega)) ?_
    refine z_if_ne 24 dX6_as_18 (by decide) (bi_r _) (fun c18 => ?_) (fun c18 => ?_)
    · have c18 := bi_ne.mp c18
      refine z_iload_n dX6_as_24 rfl ?_
      refine z_if_eq 93 dX6_as_25 (by decide) (by omega) (fun c25 => ?_) (fun c25 => ?_)
      · refine z_iconst dX6_as_93 ?_
        refine z_goto 98 dX6_as_94 (by decide) ?_
        refine z_istore dX6_as_98 (by decide) rfl ?_
        refine z_iload dX6_as_100 rfl ?_
        refine z_if_eq 109 dX6_as_102 (by decide) (by omega) (fun c102 => ?_) (fun c102 => ?_)
        · refine z_ldcw (-1000000) dX6_as_109 qX6_291 rfl ?_
          exact z_ireturn dX6_as_112 rfl (hQ _ _ ⟨_, rfl, (by first | (exfalso; omega) | exact Or.inl ⟨trivial, rfl⟩ | exact Or.inl ⟨by omega, rfl⟩ | exact Or.inl ⟨⟨rfl, by omega⟩, rfl⟩ | exact Or.inl ⟨⟨rfl, c90⟩, rfl⟩ | exact Or.inr ⟨fun q => by omega, rfl⟩ | exact Or.inr ⟨fun q => by have := q.2; omega, rfl⟩ | exact Or.inr ⟨fun q => c90 q.2, rfl⟩ | exact Or.inr ⟨fun q => by have := q.1; omega, rfl⟩), rfl⟩)
        · refine z_iload_n dX6_as_105 rfl ?_
          refine z_goto 112 dX6_as_106 (by decide) ?_
          exact z_ireturn dX6_as_112 rfl (hQ _ _ ⟨_, rfl, (by first | (exfalso; omega) | exact Or.inl ⟨trivial, rfl⟩ | exact Or.inl ⟨by omega, rfl⟩ | exact Or.inl ⟨⟨rfl, by omega⟩, rfl⟩ | exact Or.inl ⟨⟨rfl, c90⟩, rfl⟩ | exact Or.inr ⟨fun q => by omega, rfl⟩ | exact Or.inr ⟨fun q => by have := q.2; omega, rfl⟩ | exact Or.inr ⟨fun q => c90 q.2, rfl⟩ | exact Or.inr ⟨fun q => by have := q.1; omega, rfl⟩), rfl⟩)
      · omega
    · have c18 := bi_eq.mp c18
      omega
set_option maxRecDepth 100000 in
set_option maxHeartbeats 4000000 in
theorem c_X6_as11 {g : GG} {h : HH} {σ : SG} (W : WF σ) (R : RM (h 48) σ) {c : Nat} (hc : c < sE σ) : CpI mX6_as g [vr 47, vi 1, vi (c : Int), vi 1] h (fun z => (((1 : Int) = 0) ∧ z = c) ∨ (¬ ((1 : Int) = 0) ∧ z = kNONE)) := by
  refine cn_q (lv := [vr 47, vi 1, vi (c : Int), vi 1, vx]) tX6_as.1 rfl rfl (fun hR Q hQ => ?_)
  have w1 := W.1
  have w2 := W.2.1
  have w3 := W.2.2.1
  have w4 := W.2.2.2.1 c hc
  refine z_aload_n dX6_as_0 rfl ?_
  refine z_iload_n dX6_as_1 rfl ?_
  refine z_iload_n dX6_as_2 rfl ?_
  refine z_callV_eI (M := mX6_as) [_, _] tX6_isCell kX6_247 dX6_as_3 ⟨by decide, rfl, _, _, rfl⟩ ⟨by decide, by decide⟩ rfl (Nat.le_of_ble_eq_true rfl) rfl (c_X6_isCell1 W.wb R (by omega)) ?_
  refine z_if_eq 21 dX6_as_6 (by decide) (bi_r _) (fun c6 => ?_) (fun c6 => ?_)
  · have c6 := bi_eq.mp c6
    omega
  · have c6 := bi_ne.mp c6
    refine z_iload_n dX6_as_9 rfl ?_
    refine z_i2l dX6_as_10 (by omega) ?_
    refine z_lconst (z := 0) dX6_as_11 rfl ?_
    refine z_ldc2 (5) dX6_as_12 qX6_292 rfl ?_
    refine z_callS_eI (M := mX6_as) [_, _, _] tX6_in kX6_150 dX6_as_15 ⟨by decide, by decide⟩ rfl (Nat.le_of_ble_eq_true rfl) rfl (c_X6_in (by omega) (by omega) (by omega)) ?_
    refine z_if_ne 24 dX6_as_18 (by decide) (bi_r _) (fun c18 => ?_) (fun c18 => ?_)
    · have c18 := bi_ne.mp c18
      refine z_iload_n dX6_as_24 rfl ?_
      refine z_if_eq 93 dX6_as_25 (by decide) (by omega) (fun c25 => ?_) (fun c25 => ?_)
      · omega
      · refine z_iload_n dX6_as_28 rfl ?_
        refine z_iload_n dX6_as_29 rfl ?_
        refine z_iconst dX6_as_30 ?_
        refine z_icmp_ne 38 dX6_as_31 (by decide) (by omega) (by omega) (fun c31 => ?_) (fun c31 => ?_)
        · refine z_iload_n dX6_as_38 rfl ?_
          refine z_iconst dX6_as_39 ?_
          refine z_iadd dX6_as_40 ?_
          refine z_icmp_eq 93 dX6_as_41 (by decide) (by omega) (by omega) (fun c41 => ?_) (fun c41 => ?_)
          · refine z_iconst dX6_as_93 ?_
            refine z_goto 98 dX6_as_94 (by decide) ?_
            refine z_istore dX6_as_98 (by decide) rfl ?_
            refine z_iload dX6_as_100 rfl ?_
            refine z_if_eq 109 dX6_as_102 (by decide) (by omega) (fun c102 => ?_) (fun c102 => ?_)
            · refine z_ldcw (-1000000) dX6_as_109 qX6_291 rfl ?_
              exact z_ireturn dX6_as_112 rfl (hQ _ _ ⟨_, rfl, (by first | (exfalso; omega) | exact Or.inl ⟨trivial, rfl⟩ | exact Or.inl ⟨by omega, rfl⟩ | exact Or.inl ⟨⟨rfl, by omega⟩, rfl⟩ | exact Or.inl ⟨⟨rfl, c90⟩, rfl⟩ | exact Or.inr ⟨fun q => by omega, rfl⟩ | exact Or.inr ⟨fun q => by have := q.2; omega, rfl⟩ | exact Or.inr ⟨fun q => c90 q.2, rfl⟩ | exact Or.inr ⟨fun q => by have := q.1; omega, rfl⟩), rfl⟩)
            · refine z_iload_n dX6_as_105 rfl ?_
              refine z_goto 112 dX6_as_106 (by decide) ?_
              exact z_ireturn dX6_as_112 rfl (hQ _ _ ⟨_, rfl, (by first | (exfalso; omega) | exact Or.inl ⟨trivial, rfl⟩ | exact Or.inl ⟨by omega, rfl⟩ | exact Or.inl ⟨⟨rfl, by omega⟩, rfl⟩ | exact Or.inl ⟨⟨rfl, c90⟩, rfl⟩ | exact Or.inr ⟨fun q => by omega, rfl⟩ | exact Or.inr ⟨fun q => by have := q.2; omega, rfl⟩ | exact Or.inr ⟨fun q => c90 q.2, rfl⟩ | exact Or.inr ⟨fun q => by have := q.1; omega, rfl⟩), rfl⟩)
          · refine z_iload_n dX6_as_44 rfl ?_
            refine z_iconst dX6_as_45 ?_
            refine z_icmp_ne 75 dX6_as_46 (by decide) (by omega) (by omega) (fun c46 => ?_) (fun c46 => ?_)
            · refine z_iload_n dX6_as_75 rfl ?_
              refine z_iconst dX6_as_76 ?_
              refine z_icmp_ne 97 dX6_as_77 (by decide) (by omega) (by omega) (fun c77 => ?_) (fun c77 => ?_)
              · refine z_iconst dX6_as_97 ?_
                refine z_istore dX6_as_98 (by decide) rfl ?_
                refine z_iload dX6_as_100 rfl ?_
                refine z_if_eq 109 dX6_as_102 (by decide) (by omega) (fun c102 => ?_) (fun c102 => ?_)
                · refine z_ldcw (-1000000) dX6_as_109 qX6_291 rfl ?_
                  exact z_ireturn dX6_as_112 rfl (hQ _ _ ⟨_, rfl, (by first | (exfalso; omega) | exact Or.inl ⟨trivial, rfl⟩ | exact Or.inl ⟨by omega, rfl⟩ | exact Or.inl ⟨⟨rfl, by omega⟩, rfl⟩ | exact Or.inl ⟨⟨rfl, c90⟩, rfl⟩ | exact Or.inr ⟨fun q => by omega, rfl⟩ | exact Or.inr ⟨fun q => by have := q.2; omega, rfl⟩ | exact Or.inr ⟨fun q => c90 q.2, rfl⟩ | exact Or.inr ⟨fun q => by have := q.1; omega, rfl⟩), rfl⟩)
                · refine z_iload_n dX6_as_105 rfl ?_
                  refine z_goto 112 dX6_as_106 (by decide) ?_
                  exact z_ireturn dX6_as_112 rfl (hQ _ _ ⟨_, rfl, (by first | (exfalso; omega) | exact Or.inl ⟨trivial, rfl⟩ | exact Or.inl ⟨by omega, rfl⟩ | exact Or.inl ⟨⟨rfl, by omega⟩, rfl⟩ | exact Or.inl ⟨⟨rfl, c90⟩, rfl⟩ | exact Or.inr ⟨fun q => by omega, rfl⟩ | exact Or.inr ⟨fun q => by have := q.2; omega, rfl⟩ | exact Or.inr ⟨fun q => c90 q.2, rfl⟩ | exact Or.inr ⟨fun q => by have := q.1; omega, rfl⟩), rfl⟩)
              · omega
            · omega
        · omega
    · have c18 := bi_eq.mp c18
      omega
set_option maxRecDepth 100000 in
set_option maxHeartbeats 4000000 in
theorem c_X6_as12 {g : GG} {h : HH} {σ : SG} (W : WF σ) (R : RM (h 48) σ) {c : Nat} (hc : c < sE σ) : CpI mX6_as g [vr 47, vi 1, vi (c : Int), vi 2] h (fun z => (((1 : Int) = 1) ∧ z = c) ∨ (¬ ((1 : Int) = 1) ∧ z = kNONE)) := by
  refine cn_q (lv := [vr 47, vi 1, vi (c : Int), vi 2, vx]) tX6_as.1 rfl rfl (fun hR Q hQ => ?_)
  have w1 := W.1
  have w2 := W.2.1
  have w3 := W.2.2.1
  have w4 := W.2.2.2.1 c hc
  refine z_aload_n dX6_as_0 rfl ?_
  refine z_iload_n dX6_as_1 rfl ?_
  refine z_iload_n dX6_as_2 rfl ?_
  refine z_callV_eI (M := mX6_as) [_, _] tX6_isCell kX6_247 dX6_as_3 ⟨by decide, rfl, _, _, rfl⟩ ⟨by decide, by decide⟩ rfl (Nat.le_of_ble_eq_true rfl) rfl (c_X6_isCell1 W.wb R (by omega)) ?_
  refine z_if_eq 21 dX6_as_6 (by decide) (bi_r _) (fun c6 => ?_) (fun c6 => ?_)
  · have c6 := bi_eq.mp c6
    omega
  · have c6 := bi_ne.mp c6
    refine z_iload_n dX6_as_9 rfl ?_
    refine z_i2l dX6_as_10 (by omega) ?_
    refine z_lconst (z := 0) dX6_as_11 rfl ?_
    refine z_ldc2 (5) dX6_as_12 qX6_292 rfl ?_
    refine z_callS_eI (M := mX6_as) [_, _, _] tX6_in kX6_150 dX6_as_15 ⟨by decide, by decide⟩ rfl (Nat.le_of_ble_eq_true rfl) rfl (c_X6_in (by omega) (by omega) (by omega)) ?_
    refine z_if_ne 24 dX6_as_18 (by decide) (bi_r _) (fun c18 => ?_) (fun c18 => ?_)
    · have c18 := bi_ne.mp c18
      refine z_iload_n dX6_as_24 rfl ?_
      refine z_if_eq 93 dX6_as_25 (by decide) (by omega) (fun c25 => ?_) (fun c25 => ?_)
      · omega
      · refine z_iload_n dX6_as_28 rfl ?_
        refine z_iload_n dX6_as_29 rfl ?_
        refine z_iconst dX6_as_30 ?_
        refine z_icmp_ne 38 dX6_as_31 (by decide) (by omega) (by omega) (fun c31 => ?_) (fun c31 => ?_)
        · refine z_iload_n dX6_as_38 rfl ?_
          refine z_iconst dX6_as_39 ?_
          refine z_iadd dX6_as_40 ?_
          refine z_icmp_eq 93 dX6_as_41 (by decide) (by omega) (by omega) (fun c41 => ?_) (fun c41 => ?_)
          · refine z_iconst dX6_as_93 ?_
            refine z_goto 98 dX6_as_94 (by decide) ?_
            refine z_istore dX6_as_98 (by decide) rfl ?_
            refine z_iload dX6_as_100 rfl ?_
            refine z_if_eq 109 dX6_as_102 (by decide) (by omega) (fun c102 => ?_) (fun c102 => ?_)
            · refine z_ldcw (-1000000) dX6_as_109 qX6_291 rfl ?_
              exact z_ireturn dX6_as_112 rfl (hQ _ _ ⟨_, rfl, (by first | (exfalso; omega) | exact Or.inl ⟨trivial, rfl⟩ | exact Or.inl ⟨by omega, rfl⟩ | exact Or.inl ⟨⟨rfl, by omega⟩, rfl⟩ | exact Or.inl ⟨⟨rfl, c90⟩, rfl⟩ | exact Or.inr ⟨fun q => by omega, rfl⟩ | exact Or.inr ⟨fun q => by have := q.2; omega, rfl⟩ | exact Or.inr ⟨fun q => c90 q.2, rfl⟩ | exact Or.inr ⟨fun q => by have := q.1; omega, rfl⟩), rfl⟩)
            · refine z_iload_n dX6_as_105 rfl ?_
              refine z_goto 112 dX6_as_106 (by decide) ?_
              exact z_ireturn dX6_as_112 rfl (hQ _ _ ⟨_, rfl, (by first | (exfalso; omega) | exact Or.inl ⟨trivial, rfl⟩ | exact Or.inl ⟨by omega, rfl⟩ | exact Or.inl ⟨⟨rfl, by omega⟩, rfl⟩ | exact Or.inl ⟨⟨rfl, c90⟩, rfl⟩ | exact Or.inr ⟨fun q => by omega, rfl⟩ | exact Or.inr ⟨fun q => by have := q.2; omega, rfl⟩ | exact Or.inr ⟨fun q => c90 q.2, rfl⟩ | exact Or.inr ⟨fun q => by have := q.1; omega, rfl⟩), rfl⟩)
          · refine z_iload_n dX6_as_44 rfl ?_
            refine z_iconst dX6_as_45 ?_
            refine z_icmp_ne 75 dX6_as_46 (by decide) (by omega) (by omega) (fun c46 => ?_) (fun c46 => ?_)
            · refine z_iload_n dX6_as_75 rfl ?_
              refine z_iconst dX6_as_76 ?_
              refine z_icmp_ne 97 dX6_as_77 (by decide) (by omega) (by omega) (fun c77 => ?_) (fun c77 => ?_)
              · refine z_iconst dX6_as_97 ?_
                refine z_istore dX6_as_98 (by decide) rfl ?_
                refine z_iload dX6_as_100 rfl ?_
                refine z_if_eq 109 dX6_as_102 (by decide) (by omega) (fun c102 => ?_) (fun c102 => ?_)
                · refine z_ldcw (-1000000) dX6_as_109 qX6_291 rfl ?_
                  exact z_ireturn dX6_as_112 rfl (hQ _ _ ⟨_, rfl, (by first | (exfalso; omega) | exact Or.inl ⟨trivial, rfl⟩ | exact Or.inl ⟨by omega, rfl⟩ | exact Or.inl ⟨⟨rfl, by omega⟩, rfl⟩ | exact Or.inl ⟨⟨rfl, c90⟩, rfl⟩ | exact Or.inr ⟨fun q => by omega, rfl⟩ | exact Or.inr ⟨fun q => by have := q.2; omega, rfl⟩ | exact Or.inr ⟨fun q => c90 q.2, rfl⟩ | exact Or.inr ⟨fun q => by have := q.1; omega, rfl⟩), rfl⟩)
                · refine z_iload_n dX6_as_105 rfl ?_
                  refine z_goto 112 dX6_as_106 (by decide) ?_
                  exact z_ireturn dX6_as_112 rfl (hQ _ _ ⟨_, rfl, (by first | (exfalso; omega) | exact Or.inl ⟨trivial, rfl⟩ | exact Or.inl ⟨by omega, rfl⟩ | exact Or.inl ⟨⟨rfl, by omega⟩, rfl⟩ | exact Or.inl ⟨⟨rfl, c90⟩, rfl⟩ | exact Or.inr ⟨fun q => by omega, rfl⟩ | exact Or.inr ⟨fun q => by have := q.2; omega, rfl⟩ | exact Or.inr ⟨fun q => c90 q.2, rfl⟩ | exact Or.inr ⟨fun q => by have := q.1; omega, rfl⟩), rfl⟩)
              · omega
            · omega
        · omega
    · have c18 := bi_eq.mp c18
      omega
set_option maxRecDepth 100000 in
set_option maxHeartbeats 4000000 in
theorem c_X6_as13 {g : GG} {h : HH} {σ : SG} (W : WF σ) (R : RM (h 48) σ) {c : Nat} (hc : c < sE σ) : CpI mX6_as g [vr 47, vi 1, vi (c : Int), vi 3] h (fun z => (((1 : Int) = 1 ∧ sfr σ c = sto σ c) ∧ z = c) ∨ (¬ ((1 : Int) = 1 ∧ sfr σ c = sto σ c) ∧ z = kNONE)) := by
  refine cn_q (lv := [vr 47, vi 1, vi (c : Int), vi 3, vx]) tX6_as.1 rfl rfl (fun hR Q hQ => ?_)
  have w1 := W.1
  have w2 := W.2.1
  have w3 := W.2.2.1
  have w4 := W.2.2.2.1 c hc
  refine z_aload_n dX6_as_0 rfl ?_
  refine z_iload_n dX6_as_1 rfl ?_
  refine z_iload_n dX6_as_2 rfl ?_
  refine z_callV_eI (M := mX6_as) [_, _] tX6_isCell kX6_247 dX6_as_3 ⟨by decide, rfl, _, _, rfl⟩ ⟨by decide, by decide⟩ rfl (Nat.le_of_ble_eq_true rfl) rfl (c_X6_isCell1 W.wb R (by omega)) ?_
  refine z_if_eq 21 dX6_as_6 (by decide) (bi_r _) (fun c6 => ?_) (fun c6 => ?_)
  · have c6 := bi_eq.mp c6
    omega
  · have c6 := bi_ne.mp c6
    refine z_iload_n dX6_as_9 rfl ?_
    refine z_i2l dX6_as_10 (by omega) ?_
    refine z_lconst (z := 0) dX6_as_11 rfl ?_
    refine z_ldc2 (5) dX6_as_12 qX6_292 rfl ?_
    refine z_callS_eI (M := mX6_as) [_, _, _] tX6_in kX6_150 dX6_as_15 ⟨by decide, by decide⟩ rfl (Nat.le_of_ble_eq_true rfl) rfl (c_X6_in (by omega) (by omega) (by omega)) ?_
    refine z_if_ne 24 dX6_as_18 (by decide) (bi_r _) (fun c18 => ?_) (fun c18 => ?_)
    · have c18 := bi_ne.mp c18
      refine z_iload_n dX6_as_24 rfl ?_
      refine z_if_eq 93 dX6_as_25 (by decide) (by omega) (fun c25 => ?_) (fun c25 => ?_)
      · omega
      · refine z_iload_n dX6_as_28 rfl ?_
        refine z_iload_n dX6_as_29 rfl ?_
        refine z_iconst dX6_as_30 ?_
        refine z_icmp_ne 38 dX6_as_31 (by decide) (by omega) (by omega) (fun c31 => ?_) (fun c31 => ?_)
        · refine z_iload_n dX6_as_38 rfl ?_
          refine z_iconst dX6_as_39 ?_
          refine z_iadd dX6_as_40 ?_
          refine z_icmp_eq 93 dX6_as_41 (by decide) (by omega) (by omega) (fun c41 => ?_) (fun c41 => ?_)
          · refine z_iconst dX6_as_93 ?_
            refine z_goto 98 dX6_as_94 (by decide) ?_
            refine z_istore dX6_as_98 (by decide) rfl ?_
            refine z_iload dX6_as_100 rfl ?_
            refine z_if_eq 109 dX6_as_102 (by decide) (by omega) (fun c102 => ?_) (fun c102 => ?_)
            · refine z_ldcw (-1000000) dX6_as_109 qX6_291 rfl ?_
              exact z_ireturn dX6_as_112 rfl (hQ _ _ ⟨_, rfl, (by first | (exfalso; omega) | exact Or.inl ⟨trivial, rfl⟩ | exact Or.inl ⟨by omega, rfl⟩ | exact Or.inl ⟨⟨rfl, by omega⟩, rfl⟩ | exact Or.inl ⟨⟨rfl, c90⟩, rfl⟩ | exact Or.inr ⟨fun q => by omega, rfl⟩ | exact Or.inr ⟨fun q => by have := q.2; omega, rfl⟩ | exact Or.inr ⟨fun q => c90 q.2, rfl⟩ | exact Or.inr ⟨fun q => by have := q.1; omega, rfl⟩), rfl⟩)
            · refine z_iload_n dX6_as_105 rfl ?_
              refine z_goto 112 dX6_as_106 (by decide) ?_
              exact z_ireturn dX6_as_112 rfl (hQ _ _ ⟨_, rfl, (by first | (exfalso; omega) | exact Or.inl ⟨trivial, rfl⟩ | exact Or.inl ⟨by omega, rfl⟩ | exact Or.inl ⟨⟨rfl, by omega⟩, rfl⟩ | exact Or.inl ⟨⟨rfl, c90⟩, rfl⟩ | exact Or.inr ⟨fun q => by omega, rfl⟩ | exact Or.inr ⟨fun q => by have := q.2; omega, rfl⟩ | exact Or.inr ⟨fun q => c90 q.2, rfl⟩ | exact Or.inr ⟨fun q => by have := q.1; omega, rfl⟩), rfl⟩)
          · refine z_iload_n dX6_as_44 rfl ?_
            refine z_iconst dX6_as_45 ?_
            refine z_icmp_ne 75 dX6_as_46 (by decide) (by omega) (by omega) (fun c46 => ?_) (fun c46 => ?_)
            · omega
            · refine z_iload_n dX6_as_49 rfl ?_
              refine z_iconst dX6_as_50 ?_
              refine z_icmp_ne 75 dX6_as_51 (by decide) (by omega) (by omega) (fun c51 => ?_) (fun c51 => ?_)
              · omega
              · refine z_aload_n dX6_as_54 rfl ?_
                refine z_getR fX6_7 dX6_as_55 (by decide) rfl rfl ?_
                refine z_iload_n dX6_as_58 rfl ?_
                refine z_iconst dX6_as_59 ?_
                refine z_callS_eI (M := mX6_as) [_, _, _] tX6_edgeAt kX6_56 dX6_as_60 ⟨by decide, by decide⟩ rfl (Nat.le_of_ble_eq_true rfl) rfl (c_X6_edgeAt isB48 (by omega) (by omega) (by omega)) ?_
                rw [rm_fr R hc (by omega)]
                refine z_aload_n dX6_as_63 rfl ?_
                refine z_getR fX6_7 dX6_as_64 (by decide) rfl rfl ?_
                refine z_iload_n dX6_as_67 rfl ?_
                refine z_iconst dX6_as_68 ?_
                refine z_callS_eI (M := mX6_as) [_, _, _] tX6_edgeAt kX6_56 dX6_as_69 ⟨by decide, by decide⟩ rfl (Nat.le_of_ble_eq_true rfl) rfl (c_X6_edgeAt isB48 (by omega) (by omega) (by omega)) ?_
                rw [rm_to R hc (by omega)]
                refine z_icmp_eq 93 dX6_as_72 (by decide) (by omega) (by omega) (fun c72 => ?_) (fun c72 => ?_)
                · refine z_iconst dX6_as_93 ?_
                  refine z_goto 98 dX6_as_94 (by decide) ?_
                  refine z_istore dX6_as_98 (by decide) rfl ?_
                  refine z_iload dX6_as_100 rfl ?_
                  refine z_if_eq 109 dX6_as_102 (by decide) (by omega) (fun c102 => ?_) (fun c102 => ?_)
                  · refine z_ldcw (-1000000) dX6_as_109 qX6_291 rfl ?_
                    exact z_ireturn dX6_as_112 rfl (hQ _ _ ⟨_, rfl, (by first | (exfalso; omega) | exact Or.inl ⟨trivial, rfl⟩ | exact Or.inl ⟨by omega, rfl⟩ | exact Or.inl ⟨⟨rfl, by omega⟩, rfl⟩ | exact Or.inl ⟨⟨rfl, c90⟩, rfl⟩ | exact Or.inr ⟨fun q => by omega, rfl⟩ | exact Or.inr ⟨fun q => by have := q.2; omega, rfl⟩ | exact Or.inr ⟨fun q => c90 q.2, rfl⟩ | exact Or.inr ⟨fun q => by have := q.1; omega, rfl⟩), rfl⟩)
                  · refine z_iload_n dX6_as_105 rfl ?_
                    refine z_goto 112 dX6_as_106 (by decide) ?_
                    exact z_ireturn dX6_as_112 rfl (hQ _ _ ⟨_, rfl, (by first | (exfalso; omega) | exact Or.inl ⟨trivial, rfl⟩ | exact Or.inl ⟨by omega, rfl⟩ | exact Or.inl ⟨⟨rfl, by omega⟩, rfl⟩ | exact Or.inl ⟨⟨rfl, c90⟩, rfl⟩ | exact Or.inr ⟨fun q => by omega, rfl⟩ | exact Or.inr ⟨fun q => by have := q.2; omega, rfl⟩ | exact Or.inr ⟨fun q => c90 q.2, rfl⟩ | exact Or.inr ⟨fun q => by have := q.1; omega, rfl⟩), rfl⟩)
                · refine z_iload_n dX6_as_75 rfl ?_
                  refine z_iconst dX6_as_76 ?_
                  refine z_icmp_ne 97 dX6_as_77 (by decide) (by omega) (by omega) (fun c77 => ?_) (fun c77 => ?_)
                  · refine z_iconst dX6_as_97 ?_
                    refine z_istore dX6_as_98 (by decide) rfl ?_
                    refine z_iload dX6_as_100 rfl ?_
                    refine z_if_eq 109 dX6_as_102 (by decide) (by omega) (fun c102 => ?_) (fun c102 => ?_)
                    · refine z_ldcw (-1000000) dX6_as_109 qX6_291 rfl ?_
                      exact z_ireturn dX6_as_112 rfl (hQ _ _ ⟨_, rfl, (by first | (exfalso; omega) | exact Or.inl ⟨trivial, rfl⟩ | exact Or.inl ⟨by omega, rfl⟩ | exact Or.inl ⟨⟨rfl, by omega⟩, rfl⟩ | exact Or.inl ⟨⟨rfl, c90⟩, rfl⟩ | exact Or.inr ⟨fun q => by omega, rfl⟩ | exact Or.inr ⟨fun q => by have := q.2; omega, rfl⟩ | exact Or.inr ⟨fun q => c90 q.2, rfl⟩ | exact Or.inr ⟨fun q => by have := q.1; omega, rfl⟩), rfl⟩)
                    · refine z_iload_n dX6_as_105 rfl ?_
                      refine z_goto 112 dX6_as_106 (by decide) ?_
                      exact z_ireturn dX6_as_112 rfl (hQ _ _ ⟨_, rfl, (by first | (exfalso; omega) | exact Or.inl ⟨trivial, rfl⟩ | exact Or.inl ⟨by omega, rfl⟩ | exact Or.inl ⟨⟨rfl, by omega⟩, rfl⟩ | exact Or.inl ⟨⟨rfl, c90⟩, rfl⟩ | exact Or.inr ⟨fun q => by omega, rfl⟩ | exact Or.inr ⟨fun q => by have := q.2; omega, rfl⟩ | exact Or.inr ⟨fun q => c90 q.2, rfl⟩ | exact Or.inr ⟨fun q => by have := q.1; omega, rfl⟩), rfl⟩)
                  · omega
        · omega
    · have c18 := bi_eq.mp c18
      omega
set_option maxRecDepth 100000 in
set_option maxHeartbeats 4000000 in
theorem c_X6_as14 {g : GG} {h : HH} {σ : SG} (W : WF σ) (R : RM (h 48) σ) {c : Nat} (hc : c < sE σ) : CpI mX6_as g [vr 47, vi 1, vi (c : Int), vi 4] h (fun z => (((1 : Int) = 2) ∧ z = c) ∨ (¬ ((1 : Int) = 2) ∧ z = kNONE)) := by
  refine cn_q (lv := [vr 47, vi 1, vi (c : Int), vi 4, vx]) tX6_as.1 rfl rfl (fun hR Q hQ => ?_)
  have w1 := W.1
  have w2 := W.2.1
  have w3 := W.2.2.1
  have w4 := W.2.2.2.1 c hc
  refine z_aload_n dX6_as_0 rfl ?_
  refine z_iload_n dX6_as_1 rfl ?_
  refine z_iload_n dX6_as_2 rfl ?_
  refine z_callV_eI (M := mX6_as) [_, _] tX6_isCell kX6_247 dX6_as_3 ⟨by decide, rfl, _, _, rfl⟩ ⟨by decide, by decide⟩ rfl (Nat.le_of_ble_eq_true rfl) rfl (c_X6_isCell1 W.wb R (by omega)) ?_
  refine z_if_eq 21 dX6_as_6 (by decide) (bi_r _) (fun c6 => ?_) (fun c6 => ?_)
  · have c6 := bi_eq.mp c6
    omega
  · have c6 := bi_ne.mp c6
    refine z_iload_n dX6_as_9 rfl ?_
    refine z_i2l dX6_as_10 (by omega) ?_
    refine z_lconst (z := 0) dX6_as_11 rfl ?_
    refine z_ldc2 (5) dX6_as_12 qX6_292 rfl ?_
    refine z_callS_eI (M := mX6_as) [_, _, _] tX6_in kX6_150 dX6_as_15 ⟨by decide, by decide⟩ rfl (Nat.le_of_ble_eq_true rfl) rfl (c_X6_in (by omega) (by omega) (by omega)) ?_
    refine z_if_ne 24 dX6_as_18 (by decide) (bi_r _) (fun c18 => ?_) (fun c18 => ?_)
    · have c18 := bi_ne.mp c18
      refine z_iload_n dX6_as_24 rfl ?_
      refine z_if_eq 93 dX6_as_25 (by decide) (by omega) (fun c25 => ?_) (fun c25 => ?_)
      · omega
      · refine z_iload_n dX6_as_28 rfl ?_
        refine z_iload_n dX6_as_29 rfl ?_
        refine z_iconst dX6_as_30 ?_
        refine z_icmp_ne 38 dX6_as_31 (by decide) (by omega) (by omega) (fun c31 => ?_) (fun c31 => ?_)
        · refine z_iload_n dX6_as_38 rfl ?_
          refine z_iconst dX6_as_39 ?_
          refine z_iadd dX6_as_40 ?_
          refine z_icmp_eq 93 dX6_as_41 (by decide) (by omega) (by omega) (fun c41 => ?_) (fun c41 => ?_)
          · refine z_iconst dX6_as_93 ?_
            refine z_goto 98 dX6_as_94 (by decide) ?_
            refine z_istore dX6_as_98 (by decide) rfl ?_
            refine z_iload dX6_as_100 rfl ?_
            refine z_if_eq 109 dX6_as_102 (by decide) (by omega) (fun c102 => ?_) (fun c102 => ?_)
            · refine z_ldcw (-1000000) dX6_as_109 qX6_291 rfl ?_
              exact z_ireturn dX6_as_112 rfl (hQ _ _ ⟨_, rfl, (by first | (exfalso; omega) | exact Or.inl ⟨trivial, rfl⟩ | exact Or.inl ⟨by omega, rfl⟩ | exact Or.inl ⟨⟨rfl, by omega⟩, rfl⟩ | exact Or.inl ⟨⟨rfl, c90⟩, rfl⟩ | exact Or.inr ⟨fun q => by omega, rfl⟩ | exact Or.inr ⟨fun q => by have := q.2; omega, rfl⟩ | exact Or.inr ⟨fun q => c90 q.2, rfl⟩ | exact Or.inr ⟨fun q => by have := q.1; omega, rfl⟩), rfl⟩)
            · refine z_iload_n dX6_as_105 rfl ?_
              refine z_goto 112 dX6_as_106 (by decide) ?_
              exact z_ireturn dX6_as_112 rfl (hQ _ _ ⟨_, rfl, (by first | (exfalso; omega) | exact Or.inl ⟨trivial, rfl⟩ | exact Or.inl ⟨by omega, rfl⟩ | exact Or.inl ⟨⟨rfl, by omega⟩, rfl⟩ | exact Or.inl ⟨⟨rfl, c90⟩, rfl⟩ | exact Or.inr ⟨fun q => by omega, rfl⟩ | exact Or.inr ⟨fun q => by have := q.2; omega, rfl⟩ | exact Or.inr ⟨fun q => c90 q.2, rfl⟩ | exact Or.inr ⟨fun q => by have := q.1; omega, rfl⟩), rfl⟩)
          · refine z_iload_n dX6_as_44 rfl ?_
            refine z_iconst dX6_as_45 ?_
            refine z_icmp_ne 75 dX6_as_46 (by decide) (by omega) (by omega) (fun c46 => ?_) (fun c46 => ?_)
            · refine z_iload_n dX6_as_75 rfl ?_
              refine z_iconst dX6_as_76 ?_
              refine z_icmp_ne 97 dX6_as_77 (by decide) (by omega) (by omega) (fun c77 => ?_) (fun c77 => ?_)
              · refine z_iconst dX6_as_97 ?_
                refine z_istore dX6_as_98 (by decide) rfl ?_
                refine z_iload dX6_as_100 rfl ?_
                refine z_if_eq 109 dX6_as_102 (by decide) (by omega) (fun c102 => ?_) (fun c102 => ?_)
                · refine z_ldcw (-1000000) dX6_as_109 qX6_291 rfl ?_
                  exact z_ireturn dX6_as_112 rfl (hQ _ _ ⟨_, rfl, (by first | (exfalso; omega) | exact Or.inl ⟨trivial, rfl⟩ | exact Or.inl ⟨by omega, rfl⟩ | exact Or.inl ⟨⟨rfl, by omega⟩, rfl⟩ | exact Or.inl ⟨⟨rfl, c90⟩, rfl⟩ | exact Or.inr ⟨fun q => by omega, rfl⟩ | exact Or.inr ⟨fun q => by have := q.2; omega, rfl⟩ | exact Or.inr ⟨fun q => c90 q.2, rfl⟩ | exact Or.inr ⟨fun q => by have := q.1; omega, rfl⟩), rfl⟩)
                · refine z_iload_n dX6_as_105 rfl ?_
                  refine z_goto 112 dX6_as_106 (by decide) ?_
                  exact z_ireturn dX6_as_112 rfl (hQ _ _ ⟨_, rfl, (by first | (exfalso; omega) | exact Or.inl ⟨trivial, rfl⟩ | exact Or.inl ⟨by omega, rfl⟩ | exact Or.inl ⟨⟨rfl, by omega⟩, rfl⟩ | exact Or.inl ⟨⟨rfl, c90⟩, rfl⟩ | exact Or.inr ⟨fun q => by omega, rfl⟩ | exact Or.inr ⟨fun q => by have := q.2; omega, rfl⟩ | exact Or.inr ⟨fun q => c90 q.2, rfl⟩ | exact Or.inr ⟨fun q => by have := q.1; omega, rfl⟩), rfl⟩)
              · omega
            · omega
        · omega
    · have c18 := bi_eq.mp c18
      omega
set_option maxRecDepth 100000 in
set_option maxHeartbeats 4000000 in
theorem c_X6_as15 {g : GG} {h : HH} {σ : SG} (W : WF σ) (R : RM (h 48) σ) {c : Nat} (hc : c < sE σ) : CpI mX6_as g [vr 47, vi 1, vi (c : Int), vi 5] h (fun z => (((1 : Int) = 2 ∧ sld σ c) ∧ z = c) ∨ (¬ ((1 : Int) = 2 ∧ sld σ c) ∧ z = kNONE)) := by
  refine cn_q (lv := [vr 47, vi 1, vi (c : Int), vi 5, vx]) tX6_as.1 rfl rfl (fun hR Q hQ => ?_)
  have w1 := W.1
  have w2 := W.2.1
  have w3 := W.2.2.1
  have w4 := W.2.2.2.1 c hc
  refine z_aload_n dX6_as_0 rfl ?_
  refine z_iload_n dX6_as_1 rfl ?_
  refine z_iload_n dX6_as_2 rfl ?_
  refine z_callV_eI (M := mX6_as) [_, _] tX6_isCell kX6_247 dX6_as_3 ⟨by decide, rfl, _, _, rfl⟩ ⟨by decide, by decide⟩ rfl (Nat.le_of_ble_eq_true rfl) rfl (c_X6_isCell1 W.wb R (by omega)) ?_
  refine z_if_eq 21 dX6_as_6 (by decide) (bi_r _) (fun c6 => ?_) (fun c6 => ?_)
  · have c6 := bi_eq.mp c6
    omega
  · have c6 := bi_ne.mp c6
    refine z_iload_n dX6_as_9 rfl ?_
    refine z_i2l dX6_as_10 (by omega) ?_
    refine z_lconst (z := 0) dX6_as_11 rfl ?_
    refine z_ldc2 (5) dX6_as_12 qX6_292 rfl ?_
    refine z_callS_eI (M := mX6_as) [_, _, _] tX6_in kX6_150 dX6_as_15 ⟨by decide, by decide⟩ rfl (Nat.le_of_ble_eq_true rfl) rfl (c_X6_in (by omega) (by omega) (by omega)) ?_
    refine z_if_ne 24 dX6_as_18 (by decide) (bi_r _) (fun c18 => ?_) (fun c18 => ?_)
    · have c18 := bi_ne.mp c18
      refine z_iload_n dX6_as_24 rfl ?_
      refine z_if_eq 93 dX6_as_25 (by decide) (by omega) (fun c25 => ?_) (fun c25 => ?_)
      · omega
      · refine z_iload_n dX6_as_28 rfl ?_
        refine z_iload_n dX6_as_29 rfl ?_
        refine z_iconst dX6_as_30 ?_
        refine z_icmp_ne 38 dX6_as_31 (by decide) (by omega) (by omega) (fun c31 => ?_) (fun c31 => ?_)
        · refine z_iload_n dX6_as_38 rfl ?_
          refine z_iconst dX6_as_39 ?_
          refine z_iadd dX6_as_40 ?_
          refine z_icmp_eq 93 dX6_as_41 (by decide) (by omega) (by omega) (fun c41 => ?_) (fun c41 => ?_)
          · refine z_iconst dX6_as_93 ?_
            refine z_goto 98 dX6_as_94 (by decide) ?_
            refine z_istore dX6_as_98 (by decide) rfl ?_
            refine z_iload dX6_as_100 rfl ?_
            refine z_if_eq 109 dX6_as_102 (by decide) (by omega) (fun c102 => ?_) (fun c102 => ?_)
            · refine z_ldcw (-1000000) dX6_as_109 qX6_291 rfl ?_
              exact z_ireturn dX6_as_112 rfl (hQ _ _ ⟨_, rfl, (by first | (exfalso; omega) | exact Or.inl ⟨trivial, rfl⟩ | exact Or.inl ⟨by omega, rfl⟩ | exact Or.inl ⟨⟨rfl, by omega⟩, rfl⟩ | exact Or.inl ⟨⟨rfl, c90⟩, rfl⟩ | exact Or.inr ⟨fun q => by omega, rfl⟩ | exact Or.inr ⟨fun q => by have := q.2; omega, rfl⟩ | exact Or.inr ⟨fun q => c90 q.2, rfl⟩ | exact Or.inr ⟨fun q => by have := q.1; omega, rfl⟩), rfl⟩)
            · refine z_iload_n dX6_as_105 rfl ?_
              refine z_goto 112 dX6_as_106 (by decide) ?_
              exact z_ireturn dX6_as_112 rfl (hQ _ _ ⟨_, rfl, (by first | (exfalso; omega) | exact Or.inl ⟨trivial, rfl⟩ | exact Or.inl ⟨by omega, rfl⟩ | exact Or.inl ⟨⟨rfl, by omega⟩, rfl⟩ | exact Or.inl ⟨⟨rfl, c90⟩, rfl⟩ | exact Or.inr ⟨fun q => by omega, rfl⟩ | exact Or.inr ⟨fun q => by have := q.2; omega, rfl⟩ | exact Or.inr ⟨fun q => c90 q.2, rfl⟩ | exact Or.inr ⟨fun q => by have := q.1; omega, rfl⟩), rfl⟩)
          · refine z_iload_n dX6_as_44 rfl ?_
            refine z_iconst dX6_as_45 ?_
            refine z_icmp_ne 75 dX6_as_46 (by decide) (by omega) (by omega) (fun c46 => ?_) (fun c46 => ?_)
            · refine z_iload_n dX6_as_75 rfl ?_
              refine z_iconst dX6_as_76 ?_
              refine z_icmp_ne 97 dX6_as_77 (by decide) (by omega) (by omega) (fun c77 => ?_) (fun c77 => ?_)
              · omega
              · refine z_iload_n dX6_as_80 rfl ?_
                refine z_iconst dX6_as_81 ?_
                refine z_icmp_ne 97 dX6_as_82 (by decide) (by omega) (by omega) (fun c82 => ?_) (fun c82 => ?_)
                · refine z_iconst dX6_as_97 ?_
                  refine z_istore dX6_as_98 (by decide) rfl ?_
                  refine z_iload dX6_as_100 rfl ?_
                  refine z_if_eq 109 dX6_as_102 (by decide) (by omega) (fun c102 => ?_) (fun c102 => ?_)
                  · refine z_ldcw (-1000000) dX6_as_109 qX6_291 rfl ?_
                    exact z_ireturn dX6_as_112 rfl (hQ _ _ ⟨_, rfl, (by first | (exfalso; omega) | exact Or.inl ⟨trivial, rfl⟩ | exact Or.inl ⟨by omega, rfl⟩ | exact Or.inl ⟨⟨rfl, by omega⟩, rfl⟩ | exact Or.inl ⟨⟨rfl, c90⟩, rfl⟩ | exact Or.inr ⟨fun q => by omega, rfl⟩ | exact Or.inr ⟨fun q => by have := q.2; omega, rfl⟩ | exact Or.inr ⟨fun q => c90 q.2, rfl⟩ | exact Or.inr ⟨fun q => by have := q.1; omega, rfl⟩), rfl⟩)
                  · refine z_iload_n dX6_as_105 rfl ?_
                    refine z_goto 112 dX6_as_106 (by decide) ?_
                    exact z_ireturn dX6_as_112 rfl (hQ _ _ ⟨_, rfl, (by first | (exfalso; omega) | exact Or.inl ⟨trivial, rfl⟩ | exact Or.inl ⟨by omega, rfl⟩ | exact Or.inl ⟨⟨rfl, by omega⟩, rfl⟩ | exact Or.inl ⟨⟨rfl, c90⟩, rfl⟩ | exact Or.inr ⟨fun q => by omega, rfl⟩ | exact Or.inr ⟨fun q => by have := q.2; omega, rfl⟩ | exact Or.inr ⟨fun q => c90 q.2, rfl⟩ | exact Or.inr ⟨fun q => by have := q.1; omega, rfl⟩), rfl⟩)
                · omega
            · omega
        · omega
    · have c18 := bi_eq.mp c18
      omega
set_option maxRecDepth 100000 in
set_option maxHeartbeats 4000000 in
theorem c_X6_as20 {g : GG} {h : HH} {σ : SG} (W : WF σ) (R : RM (h 48) σ) {c : Nat} (hc : c < sF σ) : CpI mX6_as g [vr 47, vi 2, vi (c : Int), vi 0] h (fun z => ((True) ∧ z = c) ∨ (¬ (True) ∧ z = kNONE)) := by
  refine cn_q (lv := [vr 47, vi 2, vi (c : Int), vi 0, vx]) tX6_as.1 rfl rfl (fun hR Q hQ => ?_)
  have w1 := W.1
  have w2 := W.2.1
  have w3 := W.2.2.1
  refine z_aload_n dX6_as_0 rfl ?_
  refine z_iload_n dX6_as_1 rfl ?_
  refine z_iload_n dX6_as_2 rfl ?_
  refine z_callV_eI (M := mX6_as) [_, _] tX6_isCell kX6_247 dX6_as_3 ⟨by decide, rfl, _, _, rfl⟩ ⟨by decide, by decide⟩ rfl (Nat.le_of_ble_eq_true rfl) rfl (c_X6_isCell2 W.wb R (by omega)) ?_
  refine z_if_eq 21 dX6_as_6 (by decide) (bi_r _) (fun c6 => ?_) (fun c6 => ?_)
  · have c6 := bi_eq.mp c6
    omega
  · have c6 := bi_ne.mp c6
    refine z_iload_n dX6_as_9 rfl ?_
    refine z_i2l dX6_as_10 (by omega) ?_
    refine z_lconst (z := 0) dX6_as_11 rfl ?_
    refine z_ldc2 (5) dX6_as_12 qX6_292 rfl ?_
    refine z_callS_eI (M := mX6_as) [_, _, _] tX6_in kX6_150 dX6_as_15 ⟨by decide, by decide⟩ rfl (Nat.le_of_ble_eq_true rfl) rfl (c_X6_in (by omega) (by omega) (by omega)) ?_
    refine z_if_ne 24 dX6_as_18 (by decide) (bi_r _) (fun c18 => ?_) (fun c18 => ?_)
    · have c18 := bi_ne.mp c18
      refine z_iload_n dX6_as_24 rfl ?_
      refine z_if_eq 93 dX6_as_25 (by decide) (by omega) (fun c25 => ?_) (fun c25 => ?_)
      · refine z_iconst dX6_as_93 ?_
        refine z_goto 98 dX6_as_94 (by decide) ?_
        refine z_istore dX6_as_98 (by decide) rfl ?_
        refine z_iload dX6_as_100 rfl ?_
        refine z_if_eq 109 dX6_as_102 (by decide) (by omega) (fun c102 => ?_) (fun c102 => ?_)
        · refine z_ldcw (-1000000) dX6_as_109 qX6_291 rfl ?_
          exact z_ireturn dX6_as_112 rfl (hQ _ _ ⟨_, rfl, (by first | (exfalso; omega) | exact Or.inl ⟨trivial, rfl⟩ | exact Or.inl ⟨by omega, rfl⟩ | exact Or.inl ⟨⟨rfl, by omega⟩, rfl⟩ | exact Or.inl ⟨⟨rfl, c90⟩, rfl⟩ | exact Or.inr ⟨fun q => by omega, rfl⟩ | exact Or.inr ⟨fun q => by have := q.2; omega, rfl⟩ | exact Or.inr ⟨fun q => c90 q.2, rfl⟩ | exact Or.inr ⟨fun q => by have := q.1; omega, rfl⟩), rfl⟩)
        · refine z_iload_n dX6_as_105 rfl ?_
          refine z_goto 112 dX6_as_106 (by decide) ?_
          exact z_ireturn dX6_as_112 rfl (hQ _ _ ⟨_, rfl, (by first | (exfalso; omega) | exact Or.inl ⟨trivial, rfl⟩ | exact Or.inl ⟨by omega, rfl⟩ | exact Or.inl ⟨⟨rfl, by omega⟩, rfl⟩ | exact Or.inl ⟨⟨rfl, c90⟩, rfl⟩ | exact Or.inr ⟨fun q => by omega, rfl⟩ | exact Or.inr ⟨fun q => by have := q.2; omega, rfl⟩ | exact Or.inr ⟨fun q => c90 q.2, rfl⟩ | exact Or.inr ⟨fun q => by have := q.1; omega, rfl⟩), rfl⟩)
      · omega
    · have c18 := bi_eq.mp c18
      omega
set_option maxRecDepth 100000 in
set_option maxHeartbeats 4000000 in
theorem c_X6_as21 {g : GG} {h : HH} {σ : SG} (W : WF σ) (R : RM (h 48) σ) {c : Nat} (hc : c < sF σ) : CpI mX6_as g [vr 47, vi 2, vi (c : Int), vi 1] h (fun z => (((2 : Int) = 0) ∧ z = c) ∨ (¬ ((2 : Int) = 0) ∧ z = kNONE)) := by
  refine cn_q (lv := [vr 47, vi 2, vi (c : Int), vi 1, vx]) tX6_as.1 rfl rfl (fun hR Q hQ => ?_)
  have w1 := W.1
  have w2 := W.2.1
  have w3 := W.2.2.1
  refine z_aload_n dX6_as_0 rfl ?_
  refine z_iload_n dX6_as_1 rfl ?_
  refine z_iload_n dX6_as_2 rfl ?_
  refine z_callV_eI (M := mX6_as) [_, _] tX6_isCell kX6_247 dX6_as_3 ⟨by decide, rfl, _, _, rfl⟩ ⟨by decide, by decide⟩ rfl (Nat.le_of_ble_eq_true rfl) rfl (c_X6_isCell2 W.wb R (by omega)) ?_
  refine z_if_eq 21 dX6_as_6 (by decide) (bi_r _) (fun c6 => ?_) (fun c6 => ?_)
  · have c6 := bi_eq.mp c6
    omega
  · have c6 := bi_ne.mp c6
    refine z_iload_n dX6_as_9 rfl ?_
    refine z_i2l dX6_as_10 (by omega) ?_
    refine z_lconst (z := 0) dX6_as_11 rfl ?_
    refine z_ldc2 (5) dX6_as_12 qX6_292 rfl ?_
    refine z_callS_eI (M := mX6_as) [_, _, _] tX6_in kX6_150 dX6_as_15 ⟨by decide, by decide⟩ rfl (Nat.le_of_ble_eq_true rfl) rfl (c_X6_in (by omega) (by omega) (by omega)) ?_
    refine z_if_ne 24 dX6_as_18 (by decide) (bi_r _) (fun c18 => ?_) (fun c18 => ?_)
    · have c18 := bi_ne.mp c18
      refine z_iload_n dX6_as_24 rfl ?_
      refine z_if_eq 93 dX6_as_25 (by decide) (by omega) (fun c25 => ?_) (fun c25 => ?_)
      · omega
      · refine z_iload_n dX6_as_28 rfl ?_
        refine z_iload_n dX6_as_29 rfl ?_
        refine z_iconst dX6_as_30 ?_
        refine z_icmp_ne 38 dX6_as_31 (by decide) (by omega) (by omega) (fun c31 => ?_) (fun c31 => ?_)
        · omega
        · refine z_iconst dX6_as_34 ?_
          refine z_goto 41 dX6_as_35 (by decide) ?_
          refine z_icmp_eq 93 dX6_as_41 (by decide) (by omega) (by omega) (fun c41 => ?_) (fun c41 => ?_)
          · refine z_iconst dX6_as_93 ?_
            refine z_goto 98 dX6_as_94 (by decide) ?_
            refine z_istore dX6_as_98 (by decide) rfl ?_
            refine z_iload dX6_as_100 rfl ?_
            refine z_if_eq 109 dX6_as_102 (by decide) (by omega) (fun c102 => ?_) (fun c102 => ?_)
            · refine z_ldcw (-1000000) dX6_as_109 qX6_291 rfl ?_
              exact z_ireturn dX6_as_112 rfl (hQ _ _ ⟨_, rfl, (by first | (exfalso; omega) | exact Or.inl ⟨trivial, rfl⟩ | exact Or.inl ⟨by omega, rfl⟩ | exact Or.inl ⟨⟨rfl, by omega⟩, rfl⟩ | exact Or.inl ⟨⟨rfl, c90⟩, rfl⟩ | exact Or.inr ⟨fun q => by omega, rfl⟩ | exact Or.inr ⟨fun q => by have := q.2; omega, rfl⟩ | exact Or.inr ⟨fun q => c90 q.2, rfl⟩ | exact Or.inr ⟨fun q => by have := q.1; omega, rfl⟩), rfl⟩)
            · refine z_iload_n dX6_as_105 rfl ?_
              refine z_goto 112 dX6_as_106 (by decide) ?_
              exact z_ireturn dX6_as_112 rfl (hQ _ _ ⟨_, rfl, (by first | (exfalso; omega) | exact Or.inl ⟨trivial, rfl⟩ | exact Or.inl ⟨by omega, rfl⟩ | exact Or.inl ⟨⟨rfl, by omega⟩, rfl⟩ | exact Or.inl ⟨⟨rfl, c90⟩, rfl⟩ | exact Or.inr ⟨fun q => by omega, rfl⟩ | exact Or.inr ⟨fun q => by have := q.2; omega, rfl⟩ | exact Or.inr ⟨fun q => c90 q.2, rfl⟩ | exact Or.inr ⟨fun q => by have := q.1; omega, rfl⟩), rfl⟩)
          · refine z_iload_n dX6_as_44 rfl ?_
            refine z_iconst dX6_as_45 ?_
            refine z_icmp_ne 75 dX6_as_46 (by decide) (by omega) (by omega) (fun c46 => ?_) (fun c46 => ?_)
            · refine z_iload_n dX6_as_75 rfl ?_
              refine z_iconst dX6_as_76 ?_
              refine z_icmp_ne 97 dX6_as_77 (by decide) (by omega) (by omega) (fun c77 => ?_) (fun c77 => ?_)
              · refine z_iconst dX6_as_97 ?_
                refine z_istore dX6_as_98 (by decide) rfl ?_
                refine z_iload dX6_as_100 rfl ?_
                refine z_if_eq 109 dX6_as_102 (by decide) (by omega) (fun c102 => ?_) (fun c102 => ?_)
                · refine z_ldcw (-1000000) dX6_as_109 qX6_291 rfl ?_
                  exact z_ireturn dX6_as_112 rfl (hQ _ _ ⟨_, rfl, (by first | (exfalso; omega) | exact Or.inl ⟨trivial, rfl⟩ | exact Or.inl ⟨by omega, rfl⟩ | exact Or.inl ⟨⟨rfl, by omega⟩, rfl⟩ | exact Or.inl ⟨⟨rfl, c90⟩, rfl⟩ | exact Or.inr ⟨fun q => by omega, rfl⟩ | exact Or.inr ⟨fun q => by have := q.2; omega, rfl⟩ | exact Or.inr ⟨fun q => c90 q.2, rfl⟩ | exact Or.inr ⟨fun q => by have := q.1; omega, rfl⟩), rfl⟩)
                · refine z_iload_n dX6_as_105 rfl ?_
                  refine z_goto 112 dX6_as_106 (by decide) ?_
                  exact z_ireturn dX6_as_112 rfl (hQ _ _ ⟨_, rfl, (by first | (exfalso; omega) | exact Or.inl ⟨trivial, rfl⟩ | exact Or.inl ⟨by omega, rfl⟩ | exact Or.inl ⟨⟨rfl, by omega⟩, rfl⟩ | exact Or.inl ⟨⟨rfl, c90⟩, rfl⟩ | exact Or.inr ⟨fun q => by omega, rfl⟩ | exact Or.inr ⟨fun q => by have := q.2; omega, rfl⟩ | exact Or.inr ⟨fun q => c90 q.2, rfl⟩ | exact Or.inr ⟨fun q => by have := q.1; omega, rfl⟩), rfl⟩)
              · omega
            · omega
    · have c18 := bi_eq.mp c18
      omega
set_option maxRecDepth 100000 in
set_option maxHeartbeats 4000000 in
theorem c_X6_as22 {g : GG} {h : HH} {σ : SG} (W : WF σ) (R : RM (h 48) σ) {c : Nat} (hc : c < sF σ) : CpI mX6_as g [vr 47, vi 2, vi (c : Int), vi 2] h (fun z => (((2 : Int) = 1) ∧ z = c) ∨ (¬ ((2 : Int) = 1) ∧ z = kNONE)) := by
  refine cn_q (lv := [vr 47, vi 2, vi (c : Int), vi 2, vx]) tX6_as.1 rfl rfl (fun hR Q hQ => ?_)
  have w1 := W.1
  have w2 := W.2.1
  have w3 := W.2.2.1
  refine z_aload_n dX6_as_0 rfl ?_
  refine z_iload_n dX6_as_1 rfl ?_
  refine z_iload_n dX6_as_2 rfl ?_
  refine z_callV_eI (M := mX6_as) [_, _] tX6_isCell kX6_247 dX6_as_3 ⟨by decide, rfl, _, _, rfl⟩ ⟨by decide, by decide⟩ rfl (Nat.le_of_ble_eq_true rfl) rfl (c_X6_isCell2 W.wb R (by omega)) ?_
  refine z_if_eq 21 dX6_as_6 (by decide) (bi_r _) (fun c6 => ?_) (fun c6 => ?_)
  · have c6 := bi_eq.mp c6
    omega
  · have c6 := bi_ne.mp c6
    refine z_iload_n dX6_as_9 rfl ?_
    refine z_i2l dX6_as_10 (by omega) ?_
    refine z_lconst (z := 0) dX6_as_11 rfl ?_
    refine z_ldc2 (5) dX6_as_12 qX6_292 rfl ?_
    refine z_callS_eI (M := mX6_as) [_, _, _] tX6_in kX6_150 dX6_as_15 ⟨by decide, by decide⟩ rfl (Nat.le_of_ble_eq_true rfl) rfl (c_X6_in (by omega) (by omega) (by omega)) ?_
    refine z_if_ne 24 dX6_as_18 (by decide) (bi_r _) (fun c18 => ?_) (fun c18 => ?_)
    · have c18 := bi_ne.mp c18
      refine z_iload_n dX6_as_24 rfl ?_
      refine z_if_eq 93 dX6_as_25 (by decide) (by omega) (fun c25 => ?_) (fun c25 => ?_)
      · omega
      · refine z_iload_n dX6_as_28 rfl ?_
        refine z_iload_n dX6_as_29 rfl ?_
        refine z_iconst dX6_as_30 ?_
        refine z_icmp_ne 38 dX6_as_31 (by decide) (by omega) (by omega) (fun c31 => ?_) (fun c31 => ?_)
        · omega
        · refine z_iconst dX6_as_34 ?_
          refine z_goto 41 dX6_as_35 (by decide) ?_
          refine z_icmp_eq 93 dX6_as_41 (by decide) (by omega) (by omega) (fun c41 => ?_) (fun c41 => ?_)
          · refine z_iconst dX6_as_93 ?_
            refine z_goto 98 dX6_as_94 (by decide) ?_
            refine z_istore dX6_as_98 (by decide) rfl ?_
            refine z_iload dX6_as_100 rfl ?_
            refine z_if_eq 109 dX6_as_102 (by decide) (by omega) (fun c102 => ?_) (fun c102 => ?_)
            · refine z_ldcw (-1000000) dX6_as_109 qX6_291 rfl ?_
              exact z_ireturn dX6_as_112 rfl (hQ _ _ ⟨_, rfl, (by first | (exfalso; omega) | exact Or.inl ⟨trivial, rfl⟩ | exact Or.inl ⟨by omega, rfl⟩ | exact Or.inl ⟨⟨rfl, by omega⟩, rfl⟩ | exact Or.inl ⟨⟨rfl, c90⟩, rfl⟩ | exact Or.inr ⟨fun q => by omega, rfl⟩ | exact Or.inr ⟨fun q => by have := q.2; omega, rfl⟩ | exact Or.inr ⟨fun q => c90 q.2, rfl⟩ | exact Or.inr ⟨fun q => by have := q.1; omega, rfl⟩), rfl⟩)
            · refine z_iload_n dX6_as_105 rfl ?_
              refine z_goto 112 dX6_as_106 (by decide) ?_
              exact z_ireturn dX6_as_112 rfl (hQ _ _ ⟨_, rfl, (by first | (exfalso; omega) | exact Or.inl ⟨trivial, rfl⟩ | exact Or.inl ⟨by omega, rfl⟩ | exact Or.inl ⟨⟨rfl, by omega⟩, rfl⟩ | exact Or.inl ⟨⟨rfl, c90⟩, rfl⟩ | exact Or.inr ⟨fun q => by omega, rfl⟩ | exact Or.inr ⟨fun q => by have := q.2; omega, rfl⟩ | exact Or.inr ⟨fun q => c90 q.2, rfl⟩ | exact Or.inr ⟨fun q => by have := q.1; omega, rfl⟩), rfl⟩)
          · refine z_iload_n dX6_as_44 rfl ?_
            refine z_iconst dX6_as_45 ?_
            refine z_icmp_ne 75 dX6_as_46 (by decide) (by omega) (by omega) (fun c46 => ?_) (fun c46 => ?_)
            · refine z_iload_n dX6_as_75 rfl ?_
              refine z_iconst dX6_as_76 ?_
              refine z_icmp_ne 97 dX6_as_77 (by decide) (by omega) (by omega) (fun c77 => ?_) (fun c77 => ?_)
              · refine z_iconst dX6_as_97 ?_
                refine z_istore dX6_as_98 (by decide) rfl ?_
                refine z_iload dX6_as_100 rfl ?_
                refine z_if_eq 109 dX6_as_102 (by decide) (by omega) (fun c102 => ?_) (fun c102 => ?_)
                · refine z_ldcw (-1000000) dX6_as_109 qX6_291 rfl ?_
                  exact z_ireturn dX6_as_112 rfl (hQ _ _ ⟨_, rfl, (by first | (exfalso; omega) | exact Or.inl ⟨trivial, rfl⟩ | exact Or.inl ⟨by omega, rfl⟩ | exact Or.inl ⟨⟨rfl, by omega⟩, rfl⟩ | exact Or.inl ⟨⟨rfl, c90⟩, rfl⟩ | exact Or.inr ⟨fun q => by omega, rfl⟩ | exact Or.inr ⟨fun q => by have := q.2; omega, rfl⟩ | exact Or.inr ⟨fun q => c90 q.2, rfl⟩ | exact Or.inr ⟨fun q => by have := q.1; omega, rfl⟩), rfl⟩)
                · refine z_iload_n dX6_as_105 rfl ?_
                  refine z_goto 112 dX6_as_106 (by decide) ?_
                  exact z_ireturn dX6_as_112 rfl (hQ _ _ ⟨_, rfl, (by first | (exfalso; omega) | exact Or.inl ⟨trivial, rfl⟩ | exact Or.inl ⟨by omega, rfl⟩ | exact Or.inl ⟨⟨rfl, by omega⟩, rfl⟩ | exact Or.inl ⟨⟨rfl, c90⟩, rfl⟩ | exact Or.inr ⟨fun q => by omega, rfl⟩ | exact Or.inr ⟨fun q => by have := q.2; omega, rfl⟩ | exact Or.inr ⟨fun q => c90 q.2, rfl⟩ | exact Or.inr ⟨fun q => by have := q.1; omega, rfl⟩), rfl⟩)
              · omega
            · omega
    · have c18 := bi_eq.mp c18
      omega
set_option maxRecDepth 100000 in
set_option maxHeartbeats 4000000 in
theorem c_X6_as23 {g : GG} {h : HH} {σ : SG} (W : WF σ) (R : RM (h 48) σ) {c : Nat} (hc : c < sF σ) : CpI mX6_as g [vr 47, vi 2, vi (c : Int), vi 3] h (fun z => (((2 : Int) = 1 ∧ sfr σ c = sto σ c) ∧ z = c) ∨ (¬ ((2 : Int) = 1 ∧ sfr σ c = sto σ c) ∧ z = kNONE)) := by
  refine cn_q (lv := [vr 47, vi 2, vi (c : Int), vi 3, vx]) tX6_as.1 rfl rfl (fun hR Q hQ => ?_)
  have w1 := W.1
  have w2 := W.2.1
  have w3 := W.2.2.1
  refine z_aload_n dX6_as_0 rfl ?_
  refine z_iload_n dX6_as_1 rfl ?_
  refine z_iload_n dX6_as_2 rfl ?_
  refine z_callV_eI (M := mX6_as) [_, _] tX6_isCell kX6_247 dX6_as_3 ⟨by decide, rfl, _, _, rfl⟩ ⟨by decide, by decide⟩ rfl (Nat.le_of_ble_eq_true rfl) rfl (c_X6_isCell2 W.wb R (by omega)) ?_
  refine z_if_eq 21 dX6_as_6 (by decide) (bi_r _) (fun c6 => ?_) (fun c6 => ?_)
  · have c6 := bi_eq.mp c6
    omega
  · have c6 := bi_ne.mp c6
    refine z_iload_n dX6_as_9 rfl ?_
    refine z_i2l dX6_as_10 (by omega) ?_
    refine z_lconst (z := 0) dX6_as_11 rfl ?_
    refine z_ldc2 (5) dX6_as_12 qX6_292 rfl ?_
    refine z_callS_eI (M := mX6_as) [_, _, _] tX6_in kX6_150 dX6_as_15 ⟨by decide, by decide⟩ rfl (Nat.le_of_ble_eq_true rfl) rfl (c_X6_in (by omega) (by omega) (by omega)) ?_
    refine z_if_ne 24 dX6_as_18 (by decide) (bi_r _) (fun c18 => ?_) (fun c18 => ?_)
    · have c18 := bi_ne.mp c18
      refine z_iload_n dX6_as_24 rfl ?_
      refine z_if_eq 93 dX6_as_25 (by decide) (by omega) (fun c25 => ?_) (fun c25 => ?_)
      · omega
      · refine z_iload_n dX6_as_28 rfl ?_
        refine z_iload_n dX6_as_29 rfl ?_
        refine z_iconst dX6_as_30 ?_
        refine z_icmp_ne 38 dX6_as_31 (by decide) (by omega) (by omega) (fun c31 => ?_) (fun c31 => ?_)
        · omega
        · refine z_iconst dX6_as_34 ?_
          refine z_goto 41 dX6_as_35 (by decide) ?_
          refine z_icmp_eq 93 dX6_as_41 (by decide) (by omega) (by omega) (fun c41 => ?_) (fun c41 => ?_)
          · refine z_iconst dX6_as_93 ?_
            refine z_goto 98 dX6_as_94 (by decide) ?_
            refine z_istore dX6_as_98 (by decide) rfl ?_
            refine z_iload dX6_as_100 rfl ?_
            refine z_if_eq 109 dX6_as_102 (by decide) (by omega) (fun c102 => ?_) (fun c102 => ?_)
            · refine z_ldcw (-1000000) dX6_as_109 qX6_291 rfl ?_
              exact z_ireturn dX6_as_112 rfl (hQ _ _ ⟨_, rfl, (by first | (exfalso; omega) | exact Or.inl ⟨trivial, rfl⟩ | exact Or.inl ⟨by omega, rfl⟩ | exact Or.inl ⟨⟨rfl, by omega⟩, rfl⟩ | exact Or.inl ⟨⟨rfl, c90⟩, rfl⟩ | exact Or.inr ⟨fun q => by omega, rfl⟩ | exact Or.inr ⟨fun q => by have := q.2; omega, rfl⟩ | exact Or.inr ⟨fun q => c90 q.2, rfl⟩ | exact Or.inr ⟨fun q => by have := q.1; omega, rfl⟩), rfl⟩)
            · refine z_iload_n dX6_as_105 rfl ?_
              refine z_goto 112 dX6_as_106 (by decide) ?_
              exact z_ireturn dX6_as_112 rfl (hQ _ _ ⟨_, rfl, (by first | (exfalso; omega) | exact Or.inl ⟨trivial, rfl⟩ | exact Or.inl ⟨by omega, rfl⟩ | exact Or.inl ⟨⟨rfl, by omega⟩, rfl⟩ | exact Or.inl ⟨⟨rfl, c90⟩, rfl⟩ | exact Or.inr ⟨fun q => by omega, rfl⟩ | exact Or.inr ⟨fun q => by have := q.2; omega, rfl⟩ | exact Or.inr ⟨fun q => c90 q.2, rfl⟩ | exact Or.inr ⟨fun q => by have := q.1; omega, rfl⟩), rfl⟩)
          · refine z_iload_n dX6_as_44 rfl ?_
            refine z_iconst dX6_as_45 ?_
            refine z_icmp_ne 75 dX6_as_46 (by decide) (by omega) (by omega) (fun c46 => ?_) (fun c46 => ?_)
            · omega
            · refine z_iload_n dX6_as_49 rfl ?_
              refine z_iconst dX6_as_50 ?_
              refine z_icmp_ne 75 dX6_as_51 (by decide) (by omega) (by omega) (fun c51 => ?_) (fun c51 => ?_)
              · refine z_iload_n dX6_as_75 rfl ?_
                refine z_iconst dX6_as_76 ?_
                refine z_icmp_ne 97 dX6_as_77 (by decide) (by omega) (by omega) (fun c77 => ?_) (fun c77 => ?_)
                · refine z_iconst dX6_as_97 ?_
                  refine z_istore dX6_as_98 (by decide) rfl ?_
                  refine z_iload dX6_as_100 rfl ?_
                  refine z_if_eq 109 dX6_as_102 (by decide) (by omega) (fun c102 => ?_) (fun c102 => ?_)
                  · refine z_ldcw (-1000000) dX6_as_109 qX6_291 rfl ?_
                    exact z_ireturn dX6_as_112 rfl (hQ _ _ ⟨_, rfl, (by first | (exfalso; omega) | exact Or.inl ⟨trivial, rfl⟩ | exact Or.inl ⟨by omega, rfl⟩ | exact Or.inl ⟨⟨rfl, by omega⟩, rfl⟩ | exact Or.inl ⟨⟨rfl, c90⟩, rfl⟩ | exact Or.inr ⟨fun q => by omega, rfl⟩ | exact Or.inr ⟨fun q => by have := q.2; omega, rfl⟩ | exact Or.inr ⟨fun q => c90 q.2, rfl⟩ | exact Or.inr ⟨fun q => by have := q.1; omega, rfl⟩), rfl⟩)
                  · refine z_iload_n dX6_as_105 rfl ?_
                    refine z_goto 112 dX6_as_106 (by decide) ?_
                    exact z_ireturn dX6_as_112 rfl (hQ _ _ ⟨_, rfl, (by first | (exfalso; omega) | exact Or.inl ⟨trivial, rfl⟩ | exact Or.inl ⟨by omega, rfl⟩ | exact Or.inl ⟨⟨rfl, by omega⟩, rfl⟩ | exact Or.inl ⟨⟨rfl, c90⟩, rfl⟩ | exact Or.inr ⟨fun q => by omega, rfl⟩ | exact Or.inr ⟨fun q => by have := q.2; omega, rfl⟩ | exact Or.inr ⟨fun q => c90 q.2, rfl⟩ | exact Or.inr ⟨fun q => by have := q.1; omega, rfl⟩), rfl⟩)
                · omega
              · omega
    · have c18 := bi_eq.mp c18
      omega
set_option maxRecDepth 100000 in
set_option maxHeartbeats 4000000 in
theorem c_X6_as24 {g : GG} {h : HH} {σ : SG} (W : WF σ) (R : RM (h 48) σ) {c : Nat} (hc : c < sF σ) : CpI mX6_as g [vr 47, vi 2, vi (c : Int), vi 4] h (fun z => (((2 : Int) = 2) ∧ z = c) ∨ (¬ ((2 : Int) = 2) ∧ z = kNONE)) := by
  refine cn_q (lv := [vr 47, vi 2, vi (c : Int), vi 4, vx]) tX6_as.1 rfl rfl (fun hR Q hQ => ?_)
  have w1 := W.1
  have w2 := W.2.1
  have w3 := W.2.2.1
  refine z_aload_n dX6_as_0 rfl ?_
  refine z_iload_n dX6_as_1 rfl ?_
  refine z_iload_n dX6_as_2 rfl ?_
  refine z_callV_eI (M := mX6_as) [_, _] tX6_isCell kX6_247 dX6_as_3 ⟨by decide, rfl, _, _, rfl⟩ ⟨by decide, by decide⟩ rfl (Nat.le_of_ble_eq_true rfl) rfl (c_X6_isCell2 W.wb R (by omega)) ?_
  refine z_if_eq 21 dX6_as_6 (by decide) (bi_r _) (fun c6 => ?_) (fun c6 => ?_)
  · have c6 := bi_eq.mp c6
    omega
  · have c6 := bi_ne.mp c6
    refine z_iload_n dX6_as_9 rfl ?_
    refine z_i2l dX6_as_10 (by omega) ?_
    refine z_lconst (z := 0) dX6_as_11 rfl ?_
    refine z_ldc2 (5) dX6_as_12 qX6_292 rfl ?_
    refine z_callS_eI (M := mX6_as) [_, _, _] tX6_in kX6_150 dX6_as_15 ⟨by decide, by decide⟩ rfl (Nat.le_of_ble_eq_true rfl) rfl (c_X6_in (by omega) (by omega) (by omega)) ?_
    refine z_if_ne 24 dX6_as_18 (by decide) (bi_r _) (fun c18 => ?_) (fun c18 => ?_)
    · have c18 := bi_ne.mp c18
      refine z_iload_n dX6_as_24 rfl ?_
      refine z_if_eq 93 dX6_as_25 (by decide) (by omega) (fun c25 => ?_) (fun c25 => ?_)
      · omega
      · refine z_iload_n dX6_as_28 rfl ?_
        refine z_iload_n dX6_as_29 rfl ?_
        refine z_iconst dX6_as_30 ?_
        refine z_icmp_ne 38 dX6_as_31 (by decide) (by omega) (by omega) (fun c31 => ?_) (fun c31 => ?_)
        · omega
        · refine z_iconst dX6_as_34 ?_
          refine z_goto 41 dX6_as_35 (by decide) ?_
          refine z_icmp_eq 93 dX6_as_41 (by decide) (by omega) (by omega) (fun c41 => ?_) (fun c41 => ?_)
          · refine z_iconst dX6_as_93 ?_
            refine z_goto 98 dX6_as_94 (by decide) ?_
            refine z_istore dX6_as_98 (by decide) rfl ?_
            refine z_iload dX6_as_100 rfl ?_
            refine z_if_eq 109 dX6_as_102 (by decide) (by omega) (fun c102 => ?_) (fun c102 => ?_)
            · refine z_ldcw (-1000000) dX6_as_109 qX6_291 rfl ?_
              exact z_ireturn dX6_as_112 rfl (hQ _ _ ⟨_, rfl, (by first | (exfalso; omega) | exact Or.inl ⟨trivial, rfl⟩ | exact Or.inl ⟨by omega, rfl⟩ | exact Or.inl ⟨⟨rfl, by omega⟩, rfl⟩ | exact Or.inl ⟨⟨rfl, c90⟩, rfl⟩ | exact Or.inr ⟨fun q => by omega, rfl⟩ | exact Or.inr ⟨fun q => by have := q.2; omega, rfl⟩ | exact Or.inr ⟨fun q => c90 q.2, rfl⟩ | exact Or.inr ⟨fun q => by have := q.1; omega, rfl⟩), rfl⟩)
            · refine z_iload_n dX6_as_105 rfl ?_
              refine z_goto 112 dX6_as_106 (by decide) ?_
              exact z_ireturn dX6_as_112 rfl (hQ _ _ ⟨_, rfl, (by first | (exfalso; omega) | exact Or.inl ⟨trivial, rfl⟩ | exact Or.inl ⟨by omega, rfl⟩ | exact Or.inl ⟨⟨rfl, by omega⟩, rfl⟩ | exact Or.inl ⟨⟨rfl, c90⟩, rfl⟩ | exact Or.inr ⟨fun q => by omega, rfl⟩ | exact Or.inr ⟨fun q => by have := q.2; omega, rfl⟩ | exact Or.inr ⟨fun q => c90 q.2, rfl⟩ | exact Or.inr ⟨fun q => by have := q.1; omega, rfl⟩), rfl⟩)
          · refine z_iload_n dX6_as_44 rfl ?_
            refine z_iconst dX6_as_45 ?_
            refine z_icmp_ne 75 dX6_as_46 (by decide) (by omega) (by omega) (fun c46 => ?_) (fun c46 => ?_)
            · refine z_iload_n dX6_as_75 rfl ?_
              refine z_iconst dX6_as_76 ?_
              refine z_icmp_ne 97 dX6_as_77 (by decide) (by omega) (by omega) (fun c77 => ?_) (fun c77 => ?_)
              · refine z_iconst dX6_as_97 ?_
                refine z_istore dX6_as_98 (by decide) rfl ?_
                refine z_iload dX6_as_100 rfl ?_
                refine z_if_eq 109 dX6_as_102 (by decide) (by omega) (fun c102 => ?_) (fun c102 => ?_)
                · refine z_ldcw (-1000000) dX6_as_109 qX6_291 rfl ?_
                  exact z_ireturn dX6_as_112 rfl (hQ _ _ ⟨_, rfl, (by first | (exfalso; omega) | exact Or.inl ⟨trivial, rfl⟩ | exact Or.inl ⟨by omega, rfl⟩ | exact Or.inl ⟨⟨rfl, by omega⟩, rfl⟩ | exact Or.inl ⟨⟨rfl, c90⟩, rfl⟩ | exact Or.inr ⟨fun q => by omega, rfl⟩ | exact Or.inr ⟨fun q => by have := q.2; omega, rfl⟩ | exact Or.inr ⟨fun q => c90 q.2, rfl⟩ | exact Or.inr ⟨fun q => by have := q.1; omega, rfl⟩), rfl⟩)
                · refine z_iload_n dX6_as_105 rfl ?_
                  refine z_goto 112 dX6_as_106 (by decide) ?_
                  exact z_ireturn dX6_as_112 rfl (hQ _ _ ⟨_, rfl, (by first | (exfalso; omega) | exact Or.inl ⟨trivial, rfl⟩ | exact Or.inl ⟨by omega, rfl⟩ | exact Or.inl ⟨⟨rfl, by omega⟩, rfl⟩ | exact Or.inl ⟨⟨rfl, c90⟩, rfl⟩ | exact Or.inr ⟨fun q => by omega, rfl⟩ | exact Or.inr ⟨fun q => by have := q.2; omega, rfl⟩ | exact Or.inr ⟨fun q => c90 q.2, rfl⟩ | exact Or.inr ⟨fun q => by have := q.1; omega, rfl⟩), rfl⟩)
              · omega
            · omega
    · have c18 := bi_eq.mp c18
      omega
set_option maxRecDepth 100000 in
set_option maxHeartbeats 4000000 in
theorem c_X6_as25 {g : GG} {h : HH} {σ : SG} (W : WF σ) (R : RM (h 48) σ) {c : Nat} (hc : c < sF σ) : CpI mX6_as g [vr 47, vi 2, vi (c : Int), vi 5] h (fun z => (((2 : Int) = 2 ∧ sld σ c) ∧ z = c) ∨ (¬ ((2 : Int) = 2 ∧ sld σ c) ∧ z = kNONE)) := by
  refine cn_q (lv := [vr 47, vi 2, vi (c : Int), vi 5, vx]) tX6_as.1 rfl rfl (fun hR Q hQ => ?_)
  have w1 := W.1
  have w2 := W.2.1
  have w3 := W.2.2.1
  refine z_aload_n dX6_as_0 rfl ?_
  refine z_iload_n dX6_as_1 rfl ?_
  refine z_iload_n dX6_as_2 rfl ?_
  refine z_callV_eI (M := mX6_as) [_, _] tX6_isCell kX6_247 dX6_as_3 ⟨by decide, rfl, _, _, rfl⟩ ⟨by decide, by decide⟩ rfl (Nat.le_of_ble_eq_true rfl) rfl (c_X6_isCell2 W.wb R (by omega)) ?_
  refine z_if_eq 21 dX6_as_6 (by decide) (bi_r _) (fun c6 => ?_) (fun c6 => ?_)
  · have c6 := bi_eq.mp c6
    omega
  · have c6 := bi_ne.mp c6
    refine z_iload_n dX6_as_9 rfl ?_
    refine z_i2l dX6_as_10 (by omega) ?_
    refine z_lconst (z := 0) dX6_as_11 rfl ?_
    refine z_ldc2 (5) dX6_as_12 qX6_292 rfl ?_
    refine z_callS_eI (M := mX6_as) [_, _, _] tX6_in kX6_150 dX6_as_15 ⟨by decide, by decide⟩ rfl (Nat.le_of_ble_eq_true rfl) rfl (c_X6_in (by omega) (by omega) (by omega)) ?_
    refine z_if_ne 24 dX6_as_18 (by decide) (bi_r _) (fun c18 => ?_) (fun c18 => ?_)
    · have c18 := bi_ne.mp c18
      refine z_iload_n dX6_as_24 rfl ?_
      refine z_if_eq 93 dX6_as_25 (by decide) (by omega) (fun c25 => ?_) (fun c25 => ?_)
      · omega
      · refine z_iload_n dX6_as_28 rfl ?_
        refine z_iload_n dX6_as_29 rfl ?_
        refine z_iconst dX6_as_30 ?_
        refine z_icmp_ne 38 dX6_as_31 (by decide) (by omega) (by omega) (fun c31 => ?_) (fun c31 => ?_)
        · omega
        · refine z_iconst dX6_as_34 ?_
          refine z_goto 41 dX6_as_35 (by decide) ?_
          refine z_icmp_eq 93 dX6_as_41 (by decide) (by omega) (by omega) (fun c41 => ?_) (fun c41 => ?_)
          · refine z_iconst dX6_as_93 ?_
            refine z_goto 98 dX6_as_94 (by decide) ?_
            refine z_istore dX6_as_98 (by decide) rfl ?_
            refine z_iload dX6_as_100 rfl ?_
            refine z_if_eq 109 dX6_as_102 (by decide) (by omega) (fun c102 => ?_) (fun c102 => ?_)
            · refine z_ldcw (-1000000) dX6_as_109 qX6_291 rfl ?_
              exact z_ireturn dX6_as_112 rfl (hQ _ _ ⟨_, rfl, (by first | (exfalso; omega) | exact Or.inl ⟨trivial, rfl⟩ | exact Or.inl ⟨by omega, rfl⟩ | exact Or.inl ⟨⟨rfl, by omega⟩, rfl⟩ | exact Or.inl ⟨⟨rfl, c90⟩, rfl⟩ | exact Or.inr ⟨fun q => by omega, rfl⟩ | exact Or.inr ⟨fun q => by have := q.2; omega, rfl⟩ | exact Or.inr ⟨fun q => c90 q.2, rfl⟩ | exact Or.inr ⟨fun q => by have := q.1; omega, rfl⟩), rfl⟩)
            · refine z_iload_n dX6_as_105 rfl ?_
              refine z_goto 112 dX6_as_106 (by decide) ?_
              exact z_ireturn dX6_as_112 rfl (hQ _ _ ⟨_, rfl, (by first | (exfalso; omega) | exact Or.inl ⟨trivial, rfl⟩ | exact Or.inl ⟨by omega, rfl⟩ | exact Or.inl ⟨⟨rfl, by omega⟩, rfl⟩ | exact Or.inl ⟨⟨rfl, c90⟩, rfl⟩ | exact Or.inr ⟨fun q => by omega, rfl⟩ | exact Or.inr ⟨fun q => by have := q.2; omega, rfl⟩ | exact Or.inr ⟨fun q => c90 q.2, rfl⟩ | exact Or.inr ⟨fun q => by have := q.1; omega, rfl⟩), rfl⟩)
          · refine z_iload_n dX6_as_44 rfl ?_
            refine z_iconst dX6_as_45 ?_
            refine z_icmp_ne 75 dX6_as_46 (by decide) (by omega) (by omega) (fun c46 => ?_) (fun c46 => ?_)
            · refine z_iload_n dX6_as_75 rfl ?_
              refine z_iconst dX6_as_76 ?_
              refine z_icmp_ne 97 dX6_as_77 (by decide) (by omega) (by omega) (fun c77 => ?_) (fun c77 => ?_)
              · omega
              · refine z_iload_n dX6_as_80 rfl ?_
                refine z_iconst dX6_as_81 ?_
                refine z_icmp_ne 97 dX6_as_82 (by decide) (by omega) (by omega) (fun c82 => ?_) (fun c82 => ?_)
                · omega
                · refine z_aload_n dX6_as_85 rfl ?_
                  refine z_iload_n dX6_as_86 rfl ?_
                  refine z_callV_eI (M := mX6_as) [_] tX6_isSealed kX6_294 dX6_as_87 ⟨by decide, rfl, _, _, rfl⟩ ⟨by decide, by decide⟩ rfl (Nat.le_of_ble_eq_true rfl) rfl (c_X6_isSealed W R hc) ?_
                  refine z_if_eq 97 dX6_as_90 (by decide) (bi_r _) (fun c90 => ?_) (fun c90 => ?_)
                  · have c90 := bi_eq.mp c90
                    refine z_iconst dX6_as_97 ?_
                    refine z_istore dX6_as_98 (by decide) rfl ?_
                    refine z_iload dX6_as_100 rfl ?_
                    refine z_if_eq 109 dX6_as_102 (by decide) (by omega) (fun c102 => ?_) (fun c102 => ?_)
                    · refine z_ldcw (-1000000) dX6_as_109 qX6_291 rfl ?_
                      exact z_ireturn dX6_as_112 rfl (hQ _ _ ⟨_, rfl, (by first | (exfalso; omega) | exact Or.inl ⟨trivial, rfl⟩ | exact Or.inl ⟨by omega, rfl⟩ | exact Or.inl ⟨⟨rfl, by omega⟩, rfl⟩ | exact Or.inl ⟨⟨rfl, c90⟩, rfl⟩ | exact Or.inr ⟨fun q => by omega, rfl⟩ | exact Or.inr ⟨fun q => by have := q.2; omega, rfl⟩ | exact Or.inr ⟨fun q => c90 q.2, rfl⟩ | exact Or.inr ⟨fun q => by have := q.1; omega, rfl⟩), rfl⟩)
                    · refine z_iload_n dX6_as_105 rfl ?_
                      refine z_goto 112 dX6_as_106 (by decide) ?_
                      exact z_ireturn dX6_as_112 rfl (hQ _ _ ⟨_, rfl, (by first | (exfalso; omega) | exact Or.inl ⟨trivial, rfl⟩ | exact Or.inl ⟨by omega, rfl⟩ | exact Or.inl ⟨⟨rfl, by omega⟩, rfl⟩ | exact Or.inl ⟨⟨rfl, c90⟩, rfl⟩ | exact Or.inr ⟨fun q => by omega, rfl⟩ | exact Or.inr ⟨fun q => by have := q.2; omega, rfl⟩ | exact Or.inr ⟨fun q => c90 q.2, rfl⟩ | exact Or.inr ⟨fun q => by have := q.1; omega, rfl⟩), rfl⟩)
                  · have c90 := bi_ne.mp c90
                    refine z_iconst dX6_as_93 ?_
                    refine z_goto 98 dX6_as_94 (by decide) ?_
                    refine z_istore dX6_as_98 (by decide) rfl ?_
                    refine z_iload dX6_as_100 rfl ?_
                    refine z_if_eq 109 dX6_as_102 (by decide) (by omega) (fun c102 => ?_) (fun c102 => ?_)
                    · refine z_ldcw (-1000000) dX6_as_109 qX6_291 rfl ?_
                      exact z_ireturn dX6_as_112 rfl (hQ _ _ ⟨_, rfl, (by first | (exfalso; omega) | exact Or.inl ⟨trivial, rfl⟩ | exact Or.inl ⟨by omega, rfl⟩ | exact Or.inl ⟨⟨rfl, by omega⟩, rfl⟩ | exact Or.inl ⟨⟨rfl, c90⟩, rfl⟩ | exact Or.inr ⟨fun q => by omega, rfl⟩ | exact Or.inr ⟨fun q => by have := q.2; omega, rfl⟩ | exact Or.inr ⟨fun q => c90 q.2, rfl⟩ | exact Or.inr ⟨fun q => by have := q.1; omega, rfl⟩), rfl⟩)
                    · refine z_iload_n dX6_as_105 rfl ?_
                      refine z_goto 112 dX6_as_106 (by decide) ?_
                      exact z_ireturn dX6_as_112 rfl (hQ _ _ ⟨_, rfl, (by first | (exfalso; omega) | exact Or.inl ⟨trivial, rfl⟩ | exact Or.inl ⟨by omega, rfl⟩ | exact Or.inl ⟨⟨rfl, by omega⟩, rfl⟩ | exact Or.inl ⟨⟨rfl, c90⟩, rfl⟩ | exact Or.inr ⟨fun q => by omega, rfl⟩ | exact Or.inr ⟨fun q => by have := q.2; omega, rfl⟩ | exact Or.inr ⟨fun q => c90 q.2, rfl⟩ | exact Or.inr ⟨fun q => by have := q.1; omega, rfl⟩), rfl⟩)
            · omega
    · have c18 := bi_eq.mp c18
      omega
set_option maxRecDepth 100000 in
set_option maxHeartbeats 4000000 in
theorem c_X6_count0 {g : GG} {h : HH} {σ : SG} (R : RM (h 48) σ) : CeI mX6_count g [vr 47, vi 0] h (sP σ : Int) := by
  refine cn_q (lv := [vr 47, vi 0]) tX6_count.1 rfl rfl (fun hR Q hQ => ?_)
  refine z_iload_n dX6_count_0 rfl ?_
  refine z_tswIn 36 dX6_count_1 (by decide) (by decide) (by decide) rfl (by decide) ?_
  refine z_aload_n dX6_count_36 rfl ?_
  refine z_getR fX6_7 dX6_count_37 (by decide) rfl rfl ?_
  refine z_iload_n dX6_count_40 rfl ?_
  refine z_iaload dX6_count_41 (by decide) rfl (by omega) (by omega) (by decide) (fun r41 => ?_)
  exact z_ireturn dX6_count_42 rfl (hQ _ _ ⟨_, rfl, (rm_P R), rfl⟩)
set_option maxRecDepth 100000 in
set_option maxHeartbeats 4000000 in
theorem c_X6_count1 {g : GG} {h : HH} {σ : SG} (R : RM (h 48) σ) : CeI mX6_count g [vr 47, vi 1] h (sE σ : Int) := by
  refine cn_q (lv := [vr 47, vi 1]) tX6_count.1 rfl rfl (fun hR Q hQ => ?_)
  refine z_iload_n dX6_count_0 rfl ?_
  refine z_tswIn 36 dX6_count_1 (by decide) (by decide) (by decide) rfl (by decide) ?_
  refine z_aload_n dX6_count_36 rfl ?_
  refine z_getR fX6_7 dX6_count_37 (by decide) rfl rfl ?_
  refine z_iload_n dX6_count_40 rfl ?_
  refine z_iaload dX6_count_41 (by decide) rfl (by omega) (by omega) (by decide) (fun r41 => ?_)
  exact z_ireturn dX6_count_42 rfl (hQ _ _ ⟨_, rfl, (rm_E R), rfl⟩)
set_option maxRecDepth 100000 in
set_option maxHeartbeats 4000000 in
theorem c_X6_count2 {g : GG} {h : HH} {σ : SG} (R : RM (h 48) σ) : CeI mX6_count g [vr 47, vi 2] h (sF σ : Int) := by
  refine cn_q (lv := [vr 47, vi 2]) tX6_count.1 rfl rfl (fun hR Q hQ => ?_)
  refine z_iload_n dX6_count_0 rfl ?_
  refine z_tswIn 36 dX6_count_1 (by decide) (by decide) (by decide) rfl (by decide) ?_
  refine z_aload_n dX6_count_36 rfl ?_
  refine z_getR fX6_7 dX6_count_37 (by decide) rfl rfl ?_
  refine z_iload_n dX6_count_40 rfl ?_
  refine z_iaload dX6_count_41 (by decide) rfl (by omega) (by omega) (by decide) (fun r41 => ?_)
  exact z_ireturn dX6_count_42 rfl (hQ _ _ ⟨_, rfl, (rm_F R), rfl⟩)
set_option maxRecDepth 100000 in
set_option maxHeartbeats 4000000 in
theorem c_X6_count3 {g : GG} {h : HH} {σ : SG} (R : RM (h 48) σ) : CeI mX6_count g [vr 47, vi 3] h (h 47 3) := by
  refine cn_q (lv := [vr 47, vi 3]) tX6_count.1 rfl rfl (fun hR Q hQ => ?_)
  refine z_iload_n dX6_count_0 rfl ?_
  refine z_tswIn 43 dX6_count_1 (by decide) (by decide) (by decide) rfl (by decide) ?_
  refine z_aload_n dX6_count_43 rfl ?_
  refine z_getI fX6_238 dX6_count_44 (by decide) rfl rfl (fun r44 => ?_)
  exact z_ireturn dX6_count_47 rfl (hQ _ _ ⟨_, rfl, rfl, rfl⟩)
set_option maxRecDepth 100000 in
set_option maxHeartbeats 4000000 in
theorem c_X6_count4 {g : GG} {h : HH} {σ : SG} (R : RM (h 48) σ) : CeI mX6_count g [vr 47, vi 4] h (h 47 7) := by
  refine cn_q (lv := [vr 47, vi 4]) tX6_count.1 rfl rfl (fun hR Q hQ => ?_)
  refine z_iload_n dX6_count_0 rfl ?_
  refine z_tswIn 48 dX6_count_1 (by decide) (by decide) (by decide) rfl (by decide) ?_
  refine z_aload_n dX6_count_48 rfl ?_
  refine z_getI fX6_130 dX6_count_49 (by decide) rfl rfl (fun r49 => ?_)
  exact z_ireturn dX6_count_52 rfl (hQ _ _ ⟨_, rfl, rfl, rfl⟩)
set_option maxRecDepth 100000 in
set_option maxHeartbeats 4000000 in
theorem c_X6_fault {g : GG} {h : HH}  : CeI mX6_fault g [vr 47] h (h 47 14) := by
  refine cn_q (lv := [vr 47]) tX6_fault.1 rfl rfl (fun hR Q hQ => ?_)
  refine z_aload_n dX6_fault_0 rfl ?_
  refine z_getI fX6_230 dX6_fault_1 (by decide) rfl rfl (fun r1 => ?_)
  exact z_ireturn dX6_fault_4 rfl (hQ _ _ ⟨_, rfl, rfl, rfl⟩)
set_option maxRecDepth 100000 in
set_option maxHeartbeats 4000000 in
theorem c_X6_wholeS {g : GG} {h : HH} {σ : SG} (W : WF σ) (R : RM (h 48) σ) {c w : Int} (hc : R32 c) (hw : R32 w) (h0 : sP σ = 0) : CeI mX6_whole g [vr 47, vi c, vi w] h kSTATE := by
  refine cn_q (lv := [vr 47, vi c, vi w]) tX6_whole.1 rfl rfl (fun hR Q hQ => ?_)
  refine z_aload_n dX6_whole_0 rfl ?_
  refine z_callV_eI (M := mX6_whole) [] tX6_isComplex kX6_244 dX6_whole_1 ⟨by decide, rfl, _, _, rfl⟩ ⟨by decide, by decide⟩ rfl (Nat.le_of_ble_eq_true rfl) rfl (c_X6_isComplex W.wb R) ?_
  refine z_if_ne 10 dX6_whole_4 (by decide) (bi_r _) (fun c4 => ?_) (fun c4 => ?_)
  · have c4 := bi_ne.mp c4
    omega
  · have c4 := bi_eq.mp c4
    refine z_ldc (-1000002) dX6_whole_7 qX6_241 rfl ?_
    exact z_ireturn dX6_whole_9 rfl (hQ _ _ ⟨_, rfl, rfl, rfl⟩)
set_option maxRecDepth 100000 in
set_option maxHeartbeats 4000000 in
theorem c_X6_wholeO {g : GG} {h : HH} {σ : SG} (W : WF σ) (R : RM (h 48) σ) {c w : Int} (hc : R32 c) (hw : R32 w) (h0 : 0 < sP σ) (ho : ¬ (0 ≤ c ∧ c < 3 ∧ 0 ≤ w ∧ w ≤ 2)) : CeI mX6_whole g [vr 47, vi c, vi w] h kBAD := by
  refine cn_q (lv := [vr 47, vi c, vi w]) tX6_whole.1 rfl rfl (fun hR Q hQ => ?_)
  refine z_aload_n dX6_whole_0 rfl ?_
  refine z_callV_eI (M := mX6_whole) [] tX6_isComplex kX6_244 dX6_whole_1 ⟨by decide, rfl, _, _, rfl⟩ ⟨by decide, by decide⟩ rfl (Nat.le_of_ble_eq_true rfl) rfl (c_X6_isComplex W.wb R) ?_
  refine z_if_ne 10 dX6_whole_4 (by decide) (bi_r _) (fun c4 => ?_) (fun c4 => ?_)
  · have c4 := bi_ne.mp c4
    refine z_iload_n dX6_whole_10 rfl ?_
    refine z_i2l dX6_whole_11 (by omega) ?_
    refine z_lconst (z := 0) dX6_whole_12 rfl ?_
    refine z_ldc2 (2) dX6_whole_13 qX6_242 rfl ?_
    refine z_callS_eI (M := mX6_whole) [_, _, _] tX6_in kX6_150 dX6_whole_16 ⟨by decide, by decide⟩ rfl (Nat.le_of_ble_eq_true rfl) rfl (c_X6_in (by omega) (by omega) (by omega)) ?_
    refine z_if_eq 34 dX6_whole_19 (by decide) (bi_r _) (fun c19 => ?_) (fun c19 => ?_)
    · have c19 := bi_eq.mp c19
      refine z_ldc (-1000001) dX6_whole_34 qX6_218 rfl ?_
      exact z_ireturn dX6_whole_36 rfl (hQ _ _ ⟨_, rfl, rfl, rfl⟩)
    · have c19 := bi_ne.mp c19
      refine z_iload_n dX6_whole_22 rfl ?_
      refine z_i2l dX6_whole_23 (by omega) ?_
      refine z_lconst (z := 0) dX6_whole_24 rfl ?_
      refine z_ldc2 (2) dX6_whole_25 qX6_242 rfl ?_
      refine z_callS_eI (M := mX6_whole) [_, _, _] tX6_in kX6_150 dX6_whole_28 ⟨by decide, by decide⟩ rfl (Nat.le_of_ble_eq_true rfl) rfl (c_X6_in (by omega) (by omega) (by omega)) ?_
      refine z_if_ne 37 dX6_whole_31 (by decide) (bi_r _) (fun c31 => ?_) (fun c31 => ?_)
      · have c31 := bi_ne.mp c31
        omega
      · have c31 := bi_eq.mp c31
        refine z_ldc (-1000001) dX6_whole_34 qX6_218 rfl ?_
        exact z_ireturn dX6_whole_36 rfl (hQ _ _ ⟨_, rfl, rfl, rfl⟩)
  · have c4 := bi_eq.mp c4
    omega
set_option maxRecDepth 100000 in
set_option maxHeartbeats 4000000 in
theorem c_X6_whole0 {g : GG} {h : HH} {σ : SG} (W : WF σ) (R : RM (h 48) σ) {c : Nat} (hc : c < 3) (h0 : 0 < sP σ) : CeI mX6_whole g [vr 47, vi (c : Int), vi 0] h (bi (cyc σ c)) := by
  refine cn_q (lv := [vr 47, vi (c : Int), vi 0]) tX6_whole.1 rfl rfl (fun hR Q hQ => ?_)
  refine z_aload_n dX6_whole_0 rfl ?_
  refine z_callV_eI (M := mX6_whole) [] tX6_isComplex kX6_244 dX6_whole_1 ⟨by decide, rfl, _, _, rfl⟩ ⟨by decide, by decide⟩ rfl (Nat.le_of_ble_eq_true rfl) rfl (c_X6_isComplex W.wb R) ?_
  refine z_if_ne 10 dX6_whole_4 (by decide) (bi_r _) (fun c4 => ?_) (fun c4 => ?_)
  · have c4 := bi_ne.mp c4
    refine z_iload_n dX6_whole_10 rfl ?_
    refine z_i2l dX6_whole_11 (by omega) ?_
    refine z_lconst (z := 0) dX6_whole_12 rfl ?_
    refine z_ldc2 (2) dX6_whole_13 qX6_242 rfl ?_
    refine z_callS_eI (M := mX6_whole) [_, _, _] tX6_in kX6_150 dX6_whole_16 ⟨by decide, by decide⟩ rfl (Nat.le_of_ble_eq_true rfl) rfl (c_X6_in (by omega) (by omega) (by omega)) ?_
    refine z_if_eq 34 dX6_whole_19 (by decide) (bi_r _) (fun c19 => ?_) (fun c19 => ?_)
    · have c19 := bi_eq.mp c19
      omega
    · have c19 := bi_ne.mp c19
      refine z_iload_n dX6_whole_22 rfl ?_
      refine z_i2l dX6_whole_23 (by omega) ?_
      refine z_lconst (z := 0) dX6_whole_24 rfl ?_
      refine z_ldc2 (2) dX6_whole_25 qX6_242 rfl ?_
      refine z_callS_eI (M := mX6_whole) [_, _, _] tX6_in kX6_150 dX6_whole_28 ⟨by decide, by decide⟩ rfl (Nat.le_of_ble_eq_true rfl) rfl (c_X6_in (by omega) (by omega) (by omega)) ?_
      refine z_if_ne 37 dX6_whole_31 (by decide) (bi_r _) (fun c31 => ?_) (fun c31 => ?_)
      · have c31 := bi_ne.mp c31
        refine z_iload_n dX6_whole_37 rfl ?_
        refine z_if_ne 55 dX6_whole_38 (by decide) (by omega) (fun c38 => ?_) (fun c38 => ?_)
        · omega
        · refine z_aload_n dX6_whole_41 rfl ?_
          refine z_iload_n dX6_whole_42 rfl ?_
          refine z_callV_eI (M := mX6_whole) [_] tX6_isCycle kX6_321 dX6_whole_43 ⟨by decide, rfl, _, _, rfl⟩ ⟨by decide, by decide⟩ rfl (Nat.le_of_ble_eq_true rfl) rfl (c_X6_isCycle W R hc) ?_
          refine z_if_eq 53 dX6_whole_46 (by decide) (bi_r _) (fun c46 => ?_) (fun c46 => ?_)
          · have c46 := bi_eq.mp c46
            refine z_iconst dX6_whole_53 ?_
            exact z_ireturn dX6_whole_54 rfl (hQ _ _ ⟨_, rfl, (bi_f c46), rfl⟩)
          · have c46 := bi_ne.mp c46
            refine z_iconst dX6_whole_49 ?_
            refine z_goto 54 dX6_whole_50 (by decide) ?_
            exact z_ireturn dX6_whole_54 rfl (hQ _ _ ⟨_, rfl, (bi_t c46), rfl⟩)
      · have c31 := bi_eq.mp c31
        omega
  · have c4 := bi_eq.mp c4
    omega

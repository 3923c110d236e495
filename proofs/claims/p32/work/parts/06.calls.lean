theorem lwk_min : Cond.static Lib.Math.min.name ∈ lw_ok ∧ Cond.initialized "java/lang/Math" ∈ lw_ok ∧ Cond.code Lib.Math.min.name Lib.Math.min.code 2 (some .int) ∈ lw_ok := ⟨lwm 342 (by decide +kernel) (by decide +kernel), lwm 20 (by decide +kernel) (by decide +kernel), lwm 343 (by decide +kernel) (by decide +kernel)⟩
theorem kMin5 : Cond.methodLink RX5 282 Lib.Math.min.name ∈ lw_ok := lwm 341 (by decide +kernel) (by decide +kernel)
theorem kMin1 : Cond.methodLink RX1 31 Lib.Math.min.name ∈ lw_ok := lwm 434 (by decide +kernel) (by decide +kernel)
theorem z_min {M : MD} {g : GG} {pc : Nat} {lv st : List AV} {h : HH} {Q : Option AV → HH → Prop} {idx : Nat} {a b : Int} (hl : Cond.methodLink (mo M) idx Lib.Math.min.name ∈ lw_ok) (d : decode (mb M) pc = .ok (.invokestatic idx, 3)) (ha : R32 a) (hb : R32 b) (hR : 1 ≤ mf M ∧ 21 ≤ ml M) (hst : (st.map avc).sum ≤ 8) (k : Z M g (pc + 3) lv (vi (min a b) :: st) h Q) : Z M g pc lv (vi b :: vi a :: st) h Q := by
  intro p l e s m args below meth c F H locs ls X L
  refine va_mmin F.1 F.2.1 (F.2.2.2.1.trans L.2.1.symm) F.2.2.2.2.1 (F.2.2.2.2.2.1 _ hl) (F.2.2.2.2.2.1 _ lwk_min.1) (F.2.2.2.2.2.1 _ lwk_min.2.1) (F.2.2.2.2.2.1 _ lwk_min.2.2) hR.1 (by rw [avc_sum]; have := hR.2; show _ ≤ ml M; omega) (Nat.zero_le _) (Nat.zero_le _) d ?_
  have e1 : (if iI b < iI a then iI b else iI a) = iI (min a b) := by
    by_cases q : b < a
    · rw [if_pos ((iI_lt hb ha).mpr q), Int.min_eq_right (by omega)]
    · rw [if_neg (mt (iI_lt hb ha).mp q), Int.min_eq_left (by omega)]
  rw [e1]
  exact k p l e s m args below meth c F H locs ls X L
/-- contracts by what they answer: an int, a long, nothing -/
def CnI (M : MD) (g : GG) (av : List AV) (h : HH) (P : Int → HH → Prop) : Prop := Cn M g av h (fun r h' => ∃ z, r = some (vi z) ∧ P z h')
def CnL (M : MD) (g : GG) (av : List AV) (h : HH) (P : Int → HH → Prop) : Prop := Cn M g av h (fun r h' => ∃ z, r = some (vl z) ∧ P z h')
def CnV (M : MD) (g : GG) (av : List AV) (h : HH) (P : HH → Prop) : Prop := Cn M g av h (fun r h' => r = none ∧ P h')
/-- readers: the numbers stay -/
def CpI (M : MD) (g : GG) (av : List AV) (h : HH) (P : Int → Prop) : Prop := CnI M g av h (fun z h' => P z ∧ h' = h)
def CpL (M : MD) (g : GG) (av : List AV) (h : HH) (P : Int → Prop) : Prop := CnL M g av h (fun z h' => P z ∧ h' = h)
/-- readers of one known answer -/
def CeI (M : MD) (g : GG) (av : List AV) (h : HH) (z : Int) : Prop := CpI M g av h (fun y => y = z)
def CeL (M : MD) (g : GG) (av : List AV) (h : HH) (z : Int) : Prop := CpL M g av h (fun y => y = z)
theorem z_callV_I {M M' : MD} {g : GG} {pc idx : Nat} {lv st : List AV} {h : HH} {Q : Option AV → HH → Prop} {n : Nat} {P : Int → HH → Prop} {b : Nat} (As : List AV) (hT : TgV M' n) (hl : Cond.methodLink (mo M) idx (my M') ∈ lw_ok) (d : decode (mb M) pc = .ok (.invokevirtual idx, 3)) (hb : rcv b (mo M')) (hR : mf M' + 1 ≤ mf M ∧ 8 + (mn M' + 11) + ml M' ≤ ml M) (hn : As.length = n) (hst : (st.map avc).sum ≤ 8) {st0 : List AV} (hs0 : st0 = As.reverse ++ vr b :: st) (C : CnI M' g (vr b :: As) h P) (k : ∀ z h', P z h' → Z M g (pc + 3) lv (vi z :: st) h' Q) : Z M g pc lv st0 h Q := by
  refine z_callV As hT hl d hb hR hn hst hs0 C (fun r h' q => ?_)
  obtain ⟨z, rfl, q⟩ := q
  exact k z h' q
theorem z_callV_L {M M' : MD} {g : GG} {pc idx : Nat} {lv st : List AV} {h : HH} {Q : Option AV → HH → Prop} {n : Nat} {P : Int → HH → Prop} {b : Nat} (As : List AV) (hT : TgV M' n) (hl : Cond.methodLink (mo M) idx (my M') ∈ lw_ok) (d : decode (mb M) pc = .ok (.invokevirtual idx, 3)) (hb : rcv b (mo M')) (hR : mf M' + 1 ≤ mf M ∧ 8 + (mn M' + 11) + ml M' ≤ ml M) (hn : As.length = n) (hst : (st.map avc).sum ≤ 8) {st0 : List AV} (hs0 : st0 = As.reverse ++ vr b :: st) (C : CnL M' g (vr b :: As) h P) (k : ∀ z h', P z h' → Z M g (pc + 3) lv (vl z :: st) h' Q) : Z M g pc lv st0 h Q := by
  refine z_callV As hT hl d hb hR hn hst hs0 C (fun r h' q => ?_)
  obtain ⟨z, rfl, q⟩ := q
  exact k z h' q
theorem z_callV_V {M M' : MD} {g : GG} {pc idx : Nat} {lv st : List AV} {h : HH} {Q : Option AV → HH → Prop} {n : Nat} {P : HH → Prop} {b : Nat} (As : List AV) (hT : TgV M' n) (hl : Cond.methodLink (mo M) idx (my M') ∈ lw_ok) (d : decode (mb M) pc = .ok (.invokevirtual idx, 3)) (hb : rcv b (mo M')) (hR : mf M' + 1 ≤ mf M ∧ 8 + (mn M' + 11) + ml M' ≤ ml M) (hn : As.length = n) (hst : (st.map avc).sum ≤ 8) {st0 : List AV} (hs0 : st0 = As.reverse ++ vr b :: st) (C : CnV M' g (vr b :: As) h P) (k : ∀ h', P h' → Z M g (pc + 3) lv st h' Q) : Z M g pc lv st0 h Q := by
  refine z_callV As hT hl d hb hR hn hst hs0 C (fun r h' q => ?_)
  obtain ⟨rfl, q⟩ := q
  exact k h' q
theorem z_callV_pI {M M' : MD} {g : GG} {pc idx : Nat} {lv st : List AV} {h : HH} {Q : Option AV → HH → Prop} {n : Nat} {P : Int → Prop} {b : Nat} (As : List AV) (hT : TgV M' n) (hl : Cond.methodLink (mo M) idx (my M') ∈ lw_ok) (d : decode (mb M) pc = .ok (.invokevirtual idx, 3)) (hb : rcv b (mo M')) (hR : mf M' + 1 ≤ mf M ∧ 8 + (mn M' + 11) + ml M' ≤ ml M) (hn : As.length = n) (hst : (st.map avc).sum ≤ 8) {st0 : List AV} (hs0 : st0 = As.reverse ++ vr b :: st) (C : CpI M' g (vr b :: As) h P) (k : ∀ z, P z → Z M g (pc + 3) lv (vi z :: st) h Q) : Z M g pc lv st0 h Q := by
  refine z_callV As hT hl d hb hR hn hst hs0 C (fun r h' q => ?_)
  obtain ⟨z, rfl, q, rfl⟩ := q
  exact k z q
theorem z_callV_pL {M M' : MD} {g : GG} {pc idx : Nat} {lv st : List AV} {h : HH} {Q : Option AV → HH → Prop} {n : Nat} {P : Int → Prop} {b : Nat} (As : List AV) (hT : TgV M' n) (hl : Cond.methodLink (mo M) idx (my M') ∈ lw_ok) (d : decode (mb M) pc = .ok (.invokevirtual idx, 3)) (hb : rcv b (mo M')) (hR : mf M' + 1 ≤ mf M ∧ 8 + (mn M' + 11) + ml M' ≤ ml M) (hn : As.length = n) (hst : (st.map avc).sum ≤ 8) {st0 : List AV} (hs0 : st0 = As.reverse ++ vr b :: st) (C : CpL M' g (vr b :: As) h P) (k : ∀ z, P z → Z M g (pc + 3) lv (vl z :: st) h Q) : Z M g pc lv st0 h Q := by
  refine z_callV As hT hl d hb hR hn hst hs0 C (fun r h' q => ?_)
  obtain ⟨z, rfl, q, rfl⟩ := q
  exact k z q
theorem z_callV_eI {M M' : MD} {g : GG} {pc idx : Nat} {lv st : List AV} {h : HH} {Q : Option AV → HH → Prop} {n : Nat} {z : Int} {b : Nat} (As : List AV) (hT : TgV M' n) (hl : Cond.methodLink (mo M) idx (my M') ∈ lw_ok) (d : decode (mb M) pc = .ok (.invokevirtual idx, 3)) (hb : rcv b (mo M')) (hR : mf M' + 1 ≤ mf M ∧ 8 + (mn M' + 11) + ml M' ≤ ml M) (hn : As.length = n) (hst : (st.map avc).sum ≤ 8) {st0 : List AV} (hs0 : st0 = As.reverse ++ vr b :: st) (C : CeI M' g (vr b :: As) h z) (k : Z M g (pc + 3) lv (vi z :: st) h Q) : Z M g pc lv st0 h Q := by
  refine z_callV As hT hl d hb hR hn hst hs0 C (fun r h' q => ?_)
  obtain ⟨z, rfl, rfl, rfl⟩ := q
  exact k
theorem z_callV_eL {M M' : MD} {g : GG} {pc idx : Nat} {lv st : List AV} {h : HH} {Q : Option AV → HH → Prop} {n : Nat} {z : Int} {b : Nat} (As : List AV) (hT : TgV M' n) (hl : Cond.methodLink (mo M) idx (my M') ∈ lw_ok) (d : decode (mb M) pc = .ok (.invokevirtual idx, 3)) (hb : rcv b (mo M')) (hR : mf M' + 1 ≤ mf M ∧ 8 + (mn M' + 11) + ml M' ≤ ml M) (hn : As.length = n) (hst : (st.map avc).sum ≤ 8) {st0 : List AV} (hs0 : st0 = As.reverse ++ vr b :: st) (C : CeL M' g (vr b :: As) h z) (k : Z M g (pc + 3) lv (vl z :: st) h Q) : Z M g pc lv st0 h Q := by
  refine z_callV As hT hl d hb hR hn hst hs0 C (fun r h' q => ?_)
  obtain ⟨z, rfl, rfl, rfl⟩ := q
  exact k
theorem z_callS_I {M M' : MD} {g : GG} {pc idx : Nat} {lv st : List AV} {h : HH} {Q : Option AV → HH → Prop} {n : Nat} {P : Int → HH → Prop} (As : List AV) (hT : TgS M' n) (hl : Cond.methodLink (mo M) idx (my M') ∈ lw_ok) (d : decode (mb M) pc = .ok (.invokestatic idx, 3)) (hR : mf M' + 1 ≤ mf M ∧ 8 + (mn M' + 11) + ml M' ≤ ml M) (hn : As.length = n) (hst : (st.map avc).sum ≤ 8) {st0 : List AV} (hs0 : st0 = As.reverse ++ st) (C : CnI M' g As h P) (k : ∀ z h', P z h' → Z M g (pc + 3) lv (vi z :: st) h' Q) : Z M g pc lv st0 h Q := by
  refine z_callS As hT hl d hR hn hst hs0 C (fun r h' q => ?_)
  obtain ⟨z, rfl, q⟩ := q
  exact k z h' q
theorem z_callS_L {M M' : MD} {g : GG} {pc idx : Nat} {lv st : List AV} {h : HH} {Q : Option AV → HH → Prop} {n : Nat} {P : Int → HH → Prop} (As : List AV) (hT : TgS M' n) (hl : Cond.methodLink (mo M) idx (my M') ∈ lw_ok) (d : decode (mb M) pc = .ok (.invokestatic idx, 3)) (hR : mf M' + 1 ≤ mf M ∧ 8 + (mn M' + 11) + ml M' ≤ ml M) (hn : As.length = n) (hst : (st.map avc).sum ≤ 8) {st0 : List AV} (hs0 : st0 = As.reverse ++ st) (C : CnL M' g As h P) (k : ∀ z h', P z h' → Z M g (pc + 3) lv (vl z :: st) h' Q) : Z M g pc lv st0 h Q := by
  refine z_callS As hT hl d hR hn hst hs0 C (fun r h' q => ?_)
  obtain ⟨z, rfl, q⟩ := q
  exact k z h' q
theorem z_callS_V {M M' : MD} {g : GG} {pc idx : Nat} {lv st : List AV} {h : HH} {Q : Option AV → HH → Prop} {n : Nat} {P : HH → Prop} (As : List AV) (hT : TgS M' n) (hl : Cond.methodLink (mo M) idx (my M') ∈ lw_ok) (d : decode (mb M) pc = .ok (.invokestatic idx, 3)) (hR : mf M' + 1 ≤ mf M ∧ 8 + (mn M' + 11) + ml M' ≤ ml M) (hn : As.length = n) (hst : (st.map avc).sum ≤ 8) {st0 : List AV} (hs0 : st0 = As.reverse ++ st) (C : CnV M' g As h P) (k : ∀ h', P h' → Z M g (pc + 3) lv st h' Q) : Z M g pc lv st0 h Q := by
  refine z_callS As hT hl d hR hn hst hs0 C (fun r h' q => ?_)
  obtain ⟨rfl, q⟩ := q
  exact k h' q
theorem z_callS_pI {M M' : MD} {g : GG} {pc idx : Nat} {lv st : List AV} {h : HH} {Q : Option AV → HH → Prop} {n : Nat} {P : Int → Prop} (As : List AV) (hT : TgS M' n) (hl : Cond.methodLink (mo M) idx (my M') ∈ lw_ok) (d : decode (mb M) pc = .ok (.invokestatic idx, 3)) (hR : mf M' + 1 ≤ mf M ∧ 8 + (mn M' + 11) + ml M' ≤ ml M) (hn : As.length = n) (hst : (st.map avc).sum ≤ 8) {st0 : List AV} (hs0 : st0 = As.reverse ++ st) (C : CpI M' g As h P) (k : ∀ z, P z → Z M g (pc + 3) lv (vi z :: st) h Q) : Z M g pc lv st0 h Q := by
  refine z_callS As hT hl d hR hn hst hs0 C (fun r h' q => ?_)
  obtain ⟨z, rfl, q, rfl⟩ := q
  exact k z q
theorem z_callS_pL {M M' : MD} {g : GG} {pc idx : Nat} {lv st : List AV} {h : HH} {Q : Option AV → HH → Prop} {n : Nat} {P : Int → Prop} (As : List AV) (hT : TgS M' n) (hl : Cond.methodLink (mo M) idx (my M') ∈ lw_ok) (d : decode (mb M) pc = .ok (.invokestatic idx, 3)) (hR : mf M' + 1 ≤ mf M ∧ 8 + (mn M' + 11) + ml M' ≤ ml M) (hn : As.length = n) (hst : (st.map avc).sum ≤ 8) {st0 : List AV} (hs0 : st0 = As.reverse ++ st) (C : CpL M' g As h P) (k : ∀ z, P z → Z M g (pc + 3) lv (vl z :: st) h Q) : Z M g pc lv st0 h Q := by
  refine z_callS As hT hl d hR hn hst hs0 C (fun r h' q => ?_)
  obtain ⟨z, rfl, q, rfl⟩ := q
  exact k z q
theorem z_callS_eI {M M' : MD} {g : GG} {pc idx : Nat} {lv st : List AV} {h : HH} {Q : Option AV → HH → Prop} {n : Nat} {z : Int} (As : List AV) (hT : TgS M' n) (hl : Cond.methodLink (mo M) idx (my M') ∈ lw_ok) (d : decode (mb M) pc = .ok (.invokestatic idx, 3)) (hR : mf M' + 1 ≤ mf M ∧ 8 + (mn M' + 11) + ml M' ≤ ml M) (hn : As.length = n) (hst : (st.map avc).sum ≤ 8) {st0 : List AV} (hs0 : st0 = As.reverse ++ st) (C : CeI M' g As h z) (k : Z M g (pc + 3) lv (vi z :: st) h Q) : Z M g pc lv st0 h Q := by
  refine z_callS As hT hl d hR hn hst hs0 C (fun r h' q => ?_)
  obtain ⟨z, rfl, rfl, rfl⟩ := q
  exact k
theorem z_callS_eL {M M' : MD} {g : GG} {pc idx : Nat} {lv st : List AV} {h : HH} {Q : Option AV → HH → Prop} {n : Nat} {z : Int} (As : List AV) (hT : TgS M' n) (hl : Cond.methodLink (mo M) idx (my M') ∈ lw_ok) (d : decode (mb M) pc = .ok (.invokestatic idx, 3)) (hR : mf M' + 1 ≤ mf M ∧ 8 + (mn M' + 11) + ml M' ≤ ml M) (hn : As.length = n) (hst : (st.map avc).sum ≤ 8) {st0 : List AV} (hs0 : st0 = As.reverse ++ st) (C : CeL M' g As h z) (k : Z M g (pc + 3) lv (vl z :: st) h Q) : Z M g pc lv st0 h Q := by
  refine z_callS As hT hl d hR hn hst hs0 C (fun r h' q => ?_)
  obtain ⟨z, rfl, rfl, rfl⟩ := q
  exact k
theorem z_callN_I {M M' : MD} {g : GG} {pc idx : Nat} {lv st : List AV} {h : HH} {Q : Option AV → HH → Prop} {n : Nat} {P : Int → HH → Prop} (As : List AV) (hT : TgS M' n) (hl : (mo M, idx, my M', "ChainParts") ∈ lw_nst) (d : decode (mb M) pc = .ok (.invokestatic idx, 3)) (hR : mf M' + 1 ≤ mf M ∧ 8 + (mn M' + 11) + ml M' ≤ ml M) (hn : As.length = n) (hst : (st.map avc).sum ≤ 8) {st0 : List AV} (hs0 : st0 = As.reverse ++ st) (C : CnI M' g As h P) (k : ∀ z h', P z h' → Z M g (pc + 3) lv (vi z :: st) h' Q) : Z M g pc lv st0 h Q := by
  refine z_callN As hT hl d hR hn hst hs0 C (fun r h' q => ?_)
  obtain ⟨z, rfl, q⟩ := q
  exact k z h' q
theorem z_callN_L {M M' : MD} {g : GG} {pc idx : Nat} {lv st : List AV} {h : HH} {Q : Option AV → HH → Prop} {n : Nat} {P : Int → HH → Prop} (As : List AV) (hT : TgS M' n) (hl : (mo M, idx, my M', "ChainParts") ∈ lw_nst) (d : decode (mb M) pc = .ok (.invokestatic idx, 3)) (hR : mf M' + 1 ≤ mf M ∧ 8 + (mn M' + 11) + ml M' ≤ ml M) (hn : As.length = n) (hst : (st.map avc).sum ≤ 8) {st0 : List AV} (hs0 : st0 = As.reverse ++ st) (C : CnL M' g As h P) (k : ∀ z h', P z h' → Z M g (pc + 3) lv (vl z :: st) h' Q) : Z M g pc lv st0 h Q := by
  refine z_callN As hT hl d hR hn hst hs0 C (fun r h' q => ?_)
  obtain ⟨z, rfl, q⟩ := q
  exact k z h' q
theorem z_callN_V {M M' : MD} {g : GG} {pc idx : Nat} {lv st : List AV} {h : HH} {Q : Option AV → HH → Prop} {n : Nat} {P : HH → Prop} (As : List AV) (hT : TgS M' n) (hl : (mo M, idx, my M', "ChainParts") ∈ lw_nst) (d : decode (mb M) pc = .ok (.invokestatic idx, 3)) (hR : mf M' + 1 ≤ mf M ∧ 8 + (mn M' + 11) + ml M' ≤ ml M) (hn : As.length = n) (hst : (st.map avc).sum ≤ 8) {st0 : List AV} (hs0 : st0 = As.reverse ++ st) (C : CnV M' g As h P) (k : ∀ h', P h' → Z M g (pc + 3) lv st h' Q) : Z M g pc lv st0 h Q := by
  refine z_callN As hT hl d hR hn hst hs0 C (fun r h' q => ?_)
  obtain ⟨rfl, q⟩ := q
  exact k h' q
theorem z_callN_pI {M M' : MD} {g : GG} {pc idx : Nat} {lv st : List AV} {h : HH} {Q : Option AV → HH → Prop} {n : Nat} {P : Int → Prop} (As : List AV) (hT : TgS M' n) (hl : (mo M, idx, my M', "ChainParts") ∈ lw_nst) (d : decode (mb M) pc = .ok (.invokestatic idx, 3)) (hR : mf M' + 1 ≤ mf M ∧ 8 + (mn M' + 11) + ml M' ≤ ml M) (hn : As.length = n) (hst : (st.map avc).sum ≤ 8) {st0 : List AV} (hs0 : st0 = As.reverse ++ st) (C : CpI M' g As h P) (k : ∀ z, P z → Z M g (pc + 3) lv (vi z :: st) h Q) : Z M g pc lv st0 h Q := by
  refine z_callN As hT hl d hR hn hst hs0 C (fun r h' q => ?_)
  obtain ⟨z, rfl, q, rfl⟩ := q
  exact k z q
theorem z_callN_pL {M M' : MD} {g : GG} {pc idx : Nat} {lv st : List AV} {h : HH} {Q : Option AV → HH → Prop} {n : Nat} {P : Int → Prop} (As : List AV) (hT : TgS M' n) (hl : (mo M, idx, my M', "ChainParts") ∈ lw_nst) (d : decode (mb M) pc = .ok (.invokestatic idx, 3)) (hR : mf M' + 1 ≤ mf M ∧ 8 + (mn M' + 11) + ml M' ≤ ml M) (hn : As.length = n) (hst : (st.map avc).sum ≤ 8) {st0 : List AV} (hs0 : st0 = As.reverse ++ st) (C : CpL M' g As h P) (k : ∀ z, P z → Z M g (pc + 3) lv (vl z :: st) h Q) : Z M g pc lv st0 h Q := by
  refine z_callN As hT hl d hR hn hst hs0 C (fun r h' q => ?_)
  obtain ⟨z, rfl, q, rfl⟩ := q
  exact k z q
theorem z_callN_eI {M M' : MD} {g : GG} {pc idx : Nat} {lv st : List AV} {h : HH} {Q : Option AV → HH → Prop} {n : Nat} {z : Int} (As : List AV) (hT : TgS M' n) (hl : (mo M, idx, my M', "ChainParts") ∈ lw_nst) (d : decode (mb M) pc = .ok (.invokestatic idx, 3)) (hR : mf M' + 1 ≤ mf M ∧ 8 + (mn M' + 11) + ml M' ≤ ml M) (hn : As.length = n) (hst : (st.map avc).sum ≤ 8) {st0 : List AV} (hs0 : st0 = As.reverse ++ st) (C : CeI M' g As h z) (k : Z M g (pc + 3) lv (vi z :: st) h Q) : Z M g pc lv st0 h Q := by
  refine z_callN As hT hl d hR hn hst hs0 C (fun r h' q => ?_)
  obtain ⟨z, rfl, rfl, rfl⟩ := q
  exact k
theorem z_callN_eL {M M' : MD} {g : GG} {pc idx : Nat} {lv st : List AV} {h : HH} {Q : Option AV → HH → Prop} {n : Nat} {z : Int} (As : List AV) (hT : TgS M' n) (hl : (mo M, idx, my M', "ChainParts") ∈ lw_nst) (d : decode (mb M) pc = .ok (.invokestatic idx, 3)) (hR : mf M' + 1 ≤ mf M ∧ 8 + (mn M' + 11) + ml M' ≤ ml M) (hn : As.length = n) (hst : (st.map avc).sum ≤ 8) {st0 : List AV} (hs0 : st0 = As.reverse ++ st) (C : CeL M' g As h z) (k : Z M g (pc + 3) lv (vl z :: st) h Q) : Z M g pc lv st0 h Q := by
  refine z_callN As hT hl d hR hn hst hs0 C (fun r h' q => ?_)
  obtain ⟨z, rfl, rfl, rfl⟩ := q
  exact k
theorem icmp_lt {a b : Int} : icmp a b < 0 ↔ a < b := by unfold icmp; split <;> (try split) <;> omega
theorem icmp_gt {a b : Int} : 0 < icmp a b ↔ b < a := by unfold icmp; split <;> (try split) <;> omega
theorem icmp_le {a b : Int} : icmp a b ≤ 0 ↔ a ≤ b := by unfold icmp; split <;> (try split) <;> omega
theorem icmp_ge {a b : Int} : 0 ≤ icmp a b ↔ b ≤ a := by unfold icmp; split <;> (try split) <;> omega
theorem icmp_eq {a b : Int} : icmp a b = 0 ↔ a = b := by unfold icmp; split <;> (try split) <;> omega
theorem icmp_ne {a b : Int} : icmp a b ≠ 0 ↔ a ≠ b := not_congr icmp_eq
theorem icmp_r (a b : Int) : R32 (icmp a b) := by unfold icmp; split <;> (try split) <;> decide

/-! A CONSTRUCTOR that makes an object of the nest and calls its constructor -/
theorem kc_blind {g : GG} {h0 : Nat} {W0 : va_W} {sz : Nat} : FrameBlind (va_Pc [.ref h0] (fun U => U.heap.size = sz ∧ va_P g.1 vwCl W0 U.heap ∧ va_K g.1 vwCl (tysOf g) U ∧ va_D (fun _ => True) W0 ∧ NW U ∧ AO U)) := fun a U f mk q => by
  obtain ⟨q0, q1, qP, qK, qD, qN, qA⟩ := q
  exact ⟨q0, q1, qP, va_K.moved (u := U) (U := U.calling f mk a) (Vm.Alike.refl U.vm) qK, qD, NW_same (u := U) rfl qN, AO.moved (u := U) (Vm.Alike.refl U.vm) qA⟩
theorem good_ini {y : MethodName} {cc : ByteArray} (h : Cond.code y cc 1 none ∈ lw_ok) : GoodIn lw_ok (.code y cc 1 none :: lw_ok) := fun w hw => by
  have : w ∈ lw_ok := by
    rcases List.mem_cons.mp hw with e | e
    · rw [e]; exact h
    · exact e
  exact ⟨this, good_of_word (lw_ok_good w this)⟩
set_option maxHeartbeats 4000000 in
theorem k_newI {o : String} {cc : ByteArray} {rm : Room} {g : GG} {h0 : Nat} {W1 : (Nat → Nat) → va_W} {mc ms pc : Nat} {st : List Value} {ws : va_W} {n k : Nat} {idx ix2 ci N : Nat} {C : String} {T : u_T} {fs : List Value} {y : MethodName} {cc2 : ByteArray} {rm2 : Room} {W1c : Nat → (Nat → Nat) → va_W} {mc2 ms2 : Nat} (ty : Nat → FieldType) (hty : ∀ k, k < N → parseFieldDescriptor (T k).2.2.1 = some (ty k)) (hc : vwCl[ci]? = some (C, T, N)) (hfs : ∀ j, j < N → defaultValue (ty j) = vp_V fs j) (w1 : Cond.classLink o idx C ∈ lw_ok) (w2 : Cond.instantiable C N ∈ lw_ok) (w3 : Cond.initialized C ∈ lw_ok) (w4 : (o, ix2, y, "ChainParts") ∈ lw_nst) (w5 : Cond.code y cc2 1 none ∈ lw_ok) (w6 : Cond.instanceMethod y ∈ lw_ok) (hyc : y.cls = C) (hyn : y.name = "<init>") (hyd : y.cls ≠ "java/lang/invoke/MethodHandle" ∧ y.cls ≠ "java/lang/invoke/VarHandle" ∧ (parseMethodDescriptor y.desc).map (fun d => d.parameters.length) = some 0) (KCc : ∀ q, KC y cc2 rm2 g q [(q, .inr (ci, fs))] (W1c q) mc2 ms2) (hr1 : rm2.cells = mc2) (hr2 : rm2.slots = ms2) (hr3 : rm2.frames + 1 ≤ rm.frames ∧ 8 + (1 + 11) + rm2.locals ≤ rm.locals) (h1 : n + 1 ≤ rm.cells) (h2 : k + N ≤ rm.slots) (h3 : n + 1 + mc2 ≤ rm.cells ∧ k + N + ms2 ≤ rm.slots) (isR : List Nat) (hC : ∀ q : Nat, [ws.length].map (fun i => (ws ++ [(q, (.inr (ci, fs) : va_E))])[i]?) = [(q, (.inr (ci, fs) : va_E))].map some) (hRr : ∀ q : Nat, isR.map (fun i => (ws ++ [(q, (.inr (ci, fs) : va_E))])[i]?) = ws.map some) (hnd : va_nd isR = true) (hdis : ∀ i ∈ isR, i < ws.length) (hst : (st.map fun v => v.category).sum ≤ 4) (d0 : decode cc pc = .ok (.new idx, 3)) (d1 : decode cc (pc + 3) = .ok (.dup, 1)) (d2 : decode cc (pc + 4) = .ok (.invokespecial ix2, 3)) (kk : ∀ (q : Nat) (r : Nat → Nat), KZ o cc rm g h0 W1 mc ms (pc + 7) (.ref q :: st) (ws ++ W1c q r) (n + 1 + mc2) (k + N + ms2)) : KZ o cc rm g h0 W1 mc ms pc st ws n k := by
  intro p l e s m args below meth c F A H locs ls hA hP hD hS hl
  obtain ⟨hx, hb, hr, hml, hown, hts, hlocks, hK, hN, hAO, hin⟩ := id F
  obtain ⟨u1, -, u3⟩ := uw_all ci _ hc
  refine va_new (Ts := lw_ok) (ci := ci) (fs := fs) (C := C) (T := T) (N := N) hx hb hts u1 ty hty hown (hts _ w1) (hts _ w2) (hts _ w3) hK hP hD hS hA hc hfs h1 h2 d0 (fun q H1 hP1 hD1 hS1 => ?_)
  refine lv_dup hx hb d1 rfl ?_
  have hCf : [ws.length].filterMap (fun i => (ws ++ [(q, (.inr (ci, fs) : va_E))])[i]?) = [(q, .inr (ci, fs))] := by simp
  have hPc := hP1.sub (ws' := [(q, .inr (ci, fs))]) [ws.length] hCf
  have hDc := hD1.sub (ws' := [(q, .inr (ci, fs))]) [ws.length] (by rfl) (hC q)
  have hFc := va_free (wc := [(q, .inr (ci, fs))]) hD1 hS1 hA [ws.length] (hC q)
  refine va_callv (va_runIN (Ts := lw_ok) (own := o) (host := "ChainParts") (As := []) (rest := .ref q :: st) ⟨hx, hb, hml, hown, hts⟩ (KCc q l H1.size) ⟨va_cnB 0 hts (good_ini w5) rfl hr1 hr2 (hN _ w4) (by rw [hyc]; exact hts _ w3) hyd hr3, hyn, hts _ w6⟩ ⟨kc_blind, fun U hU hW => ⟨rfl, by rw [hU], by rw [hU]; exact hPc, va_K.moved hW.alike hK, hDc.weaken (fun _ _ _ _ => trivial), NW_warm hW hN, AO.moved hW.alike hAO⟩⟩ rfl rfl hl.1 rfl (lv_room (by rw [List.map_cons, List.sum_cons]; show 1 + _ ≤ 8; omega)) d2 h3) hS1 (fun q _ h => hFc q h) hFc (fun r t H2 locs1 ht hvm hw hB hz1 hk1 hS2 => ?_)
  obtain ⟨hP2, -, hD2⟩ := hB
  rw [ht] at hP2
  obtain ⟨hP3, hD3⟩ := va_join (wr := ws) (w1 := W1c q r) hP1 hD1 [ws.length] isR (hC q) (hRr q) hnd (fun i hi h => by have := hdis i hi; have := List.mem_singleton.mp h; omega) hk1 hFc hP2 hD2
  exact kk q r p l e s m args below meth c F A H2 locs1 ls hA hP3 hD3 hS2 hl


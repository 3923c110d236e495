theorem i32_bv (x : Int32) : Int32.ofNat x.toBitVec.toNat = x := by
  apply Int32.toBitVec_inj.mp
  rw [Int32.toBitVec_ofNat']
  exact BitVec.ofNat_toNat 32 x.toBitVec |>.trans (BitVec.setWidth_eq _)
theorem scx_adr (G1 : va_G) (G2 : Nat → ClassId) (q0 qz qc qm b L9 : Nat) (xs : Nat → Int32) (r5 : Nat → Nat) (j : Nat) : scx (G1, G2, adr q0 qz qc qm b L9 xs r5) j = xs j := by
  show Int32.ofNat (adr q0 qz qc qm b L9 xs r5 (52 + j)) = xs j
  unfold adr
  rw [if_neg (by omega), if_neg (by omega), if_neg (by omega), if_neg (by omega), if_neg (by omega), if_neg (by omega), if_neg (by omega), show 52 + j - 52 = j by omega]
  exact i32_bv (xs j)
set_option maxHeartbeats 8000000 in
set_option maxRecDepth 100000 in
theorem whole_start {p : Program} {e : Env} {s : State} {m : MethodId} {below : List Frame} {meth : Method} {c : Code} (l : Launch) (hflags : l.flags = flags0) {b L : Nat} {xs : Nat → Int32} (hL : L ≤ 260) (C0 : lw_At p s m meth c b L xs) : W p l e room_1 s m #[Value.ref b] below meth c s.heap [] 0 0 (lw_Z below #[Value.ref b] s) (entryFrame m ([Value.ref b] : List Value).toArray 8) := by
  obtain ⟨hx, hb, hr, hml, hown, hts0, hX, hbl, hlocks, hgv⟩ := id C0
  have hts : ∀ w ∈ lw_ok, w.before #[Value.ref b] s = true := fun w hw => hts0 w (lw_ok_tbl w hw)
  have hown : s.vm.findClass RL = some m.cls := hown
  have hA : ∀ q : Nat, s.heap.size ≤ q → (fun q : Nat => s.heap.size ≤ q) q := fun _ h => h
  obtain ⟨u0, -, -⟩ := uw_all 0 _ rfl
  obtain ⟨c0, i0, k0⟩ := u_known (C := RX0) (T := TX0) (N := 1) (n := 1) hts u0 (hts _ (lwm 32 (by decide +kernel) (by decide +kernel)))
  obtain ⟨u1, -, -⟩ := uw_all 1 _ rfl
  obtain ⟨c1, i1, k1⟩ := u_known (C := RX1) (T := TX1) (N := 4) (n := 4) hts u1 (hts _ (lwm 75 (by decide +kernel) (by decide +kernel)))
  obtain ⟨u2, -, -⟩ := uw_all 2 _ rfl
  obtain ⟨c2, i2, k2⟩ := u_known (C := RX2) (T := TX2) (N := 10) (n := 10) hts u2 (hts _ (lwm 97 (by decide +kernel) (by decide +kernel)))
  obtain ⟨u3, -, -⟩ := uw_all 3 _ rfl
  obtain ⟨c3, i3, k3⟩ := u_known (C := RX3) (T := TX3) (N := 4) (n := 4) hts u3 (hts _ (lwm 43 (by decide +kernel) (by decide +kernel)))
  obtain ⟨u4, -, -⟩ := uw_all 4 _ rfl
  obtain ⟨c4, i4, k4⟩ := u_known (C := RX4) (T := TX4) (N := 2) (n := 2) hts u4 (hts _ (lwm 62 (by decide +kernel) (by decide +kernel)))
  obtain ⟨u5, -, -⟩ := uw_all 5 _ rfl
  obtain ⟨c5, i5, k5⟩ := u_known (C := RX5) (T := TX5) (N := 11) (n := 11) hts u5 (hts _ (lwm 24 (by decide +kernel) (by decide +kernel)))
  obtain ⟨a0, A0, B0⟩ := ar_spec (ty := .int) (hts _ (lwm 41 (by decide +kernel) (by decide +kernel)))
  obtain ⟨a1, A1, B1⟩ := ar_spec (ty := .long) (hts _ (lwm 95 (by decide +kernel) (by decide +kernel)))
  have o1 := hts0 (Cond.arrayOver (.array .int)) (List.mem_of_getElem? (i := 135) (by decide +kernel))
  have o2 := hts0 (Cond.arrayOver (.array .long)) (List.mem_of_getElem? (i := 81) (by decide +kernel))
  obtain ⟨a3, A3, B3⟩ := ao_spec o1
  obtain ⟨a4, A4, B4⟩ := ao_spec o2
  obtain ⟨gD, hgD⟩ : ∃ gD : va_G, ∀ (k : Nat) (q : vw_C), vwCl[k]? = some q → u_Kn s q.1 q.2.1 q.2.2 (gD.1 k) (gD.2 k) := by
    refine ⟨(fun k => [c0, c1, c2, c3, c4, c5].getD k 0, fun k => [i0, i1, i2, i3, i4, i5].getD k (fun _ => 0)), ?_⟩
    intro k q hq
    match k, hq with
    | 0, hq => cases hq; exact k0
    | 1, hq => cases hq; exact k1
    | 2, hq => cases hq; exact k2
    | 3, hq => cases hq; exact k3
    | 4, hq => cases hq; exact k4
    | 5, hq => cases hq; exact k5
    | k + 6, hq => simp [vwCl] at hq
  have hK0 : ∀ f : Nat → Nat, va_K gD vwCl (tysOf (gD, (fun k => [a0, a1, a0, a3, a4].getD k 0), f)) s := fun f => by
    refine ⟨hgD, fun k q hq => ?_⟩
    match k, hq with
    | 0, hq => cases hq; exact ⟨A0, B0⟩
    | 1, hq => cases hq; exact ⟨A1, B1⟩
    | 2, hq => cases hq; exact ⟨A0, B0⟩
    | 3, hq => cases hq; exact ⟨A3, B3⟩
    | 4, hq => cases hq; exact ⟨A4, B4⟩
    | k + 5, hq => simp [tysOf] at hq
  have hN : NW s := fun q hq => va_Nw.of rfl (hts0 _ (lw_nst_in q hq))
  have hAO : AO s := ⟨ao_alike (Vm.Alike.refl s.vm) o1, ao_alike (Vm.Alike.refl s.vm) o2⟩
  obtain ⟨g, hg1, hg2⟩ : ∃ g : GG, g.1 = gD ∧ g.2.1 = (fun k => [a0, a1, a0, a3, a4].getD k 0) := ⟨(gD, (fun k => [a0, a1, a0, a3, a4].getD k 0), fun _ => 0), rfl, rfl⟩
  have hKf : ∀ f : Nat → Nat, va_K g.1 vwCl (tysOf (g.1, g.2.1, f)) s := fun f => by rw [hg1, hg2]; exact hK0 f
  clear hg1 hg2 hK0
  have hK : va_K g.1 vwCl (tysOf g) s := hKf g.2.2
  have hS : va_S (fun q : Nat => s.heap.size ≤ q) s.heap s.heap [] := va_S.rf
  have hP : va_P g.1 vwCl [] s.heap := fun k q h => by simp at h
  have hD : va_D (fun q : Nat => s.heap.size ≤ q) [] := ⟨fun i j p q h => by simp at h, fun k q h => by simp at h⟩
  have hl := lv_entry ([.ref b]) (n := 8) (Nat.le_of_ble_eq_true rfl)
  rw [lg_entry_eq]
  generalize (lg_sl ([.ref b]) ++ List.replicate (8 - (lg_sl ([.ref b])).length) Slot.unset).toArray = ls at hl ⊢
  have hl : lv_has ls 8 [(0, .ref b)] := hl
  refine va_new (Ts := lw_ok) (ci := 5) (fs := [.null, .null, .null, .null, .null, .null, .null, .null, .int 0, .int 0, .int 0]) (C := RX5) (T := TX5) (N := 11) hx hb hts u5 tyX5 tyX5_ok hown (hts _ (lwm 23 (by decide +kernel) (by decide +kernel))) (hts _ (lwm 24 (by decide +kernel) (by decide +kernel))) (hts _ (lwm 14 (by decide +kernel) (by decide +kernel))) hK hP hD hS hA rfl (fun j hj => by rcases (show j = 0 ∨ j = 1 ∨ j = 2 ∨ j = 3 ∨ j = 4 ∨ j = 5 ∨ j = 6 ∨ j = 7 ∨ j = 8 ∨ j = 9 ∨ j = 10 by omega) with rfl | rfl | rfl | rfl | rfl | rfl | rfl | rfl | rfl | rfl | rfl <;> rfl) (Nat.le_of_ble_eq_true rfl) (Nat.le_of_ble_eq_true rfl) dL_law_0 (fun q0 H hP hD hS => ?_)
  refine lv_dup hx hb dL_law_3 rfl ?_
  have hPc := hP.sub (ws' := [(q0, .inr (5, [.null, .null, .null, .null, .null, .null, .null, .null, .int 0, .int 0, .int 0]))]) [0] rfl
  have hDc := hD.sub (ws' := [(q0, .inr (5, [.null, .null, .null, .null, .null, .null, .null, .null, .int 0, .int 0, .int 0]))]) [0] (by decide) rfl
  have hFc := va_free (wc := [(q0, .inr (5, [.null, .null, .null, .null, .null, .null, .null, .null, .int 0, .int 0, .int 0]))]) hD hS hA [0] rfl
  refine va_callv (va_runI (Ts := lw_ok) (own := RL) (As := []) (rest := [.ref q0]) ⟨hx, hb, hml, hown, hts⟩ (c_X5_init g q0 l H.size) (cwI 0 hts (good_ini (lwm 27 (by decide +kernel) (by decide +kernel))) rfl rfl rfl (hts _ (lwm 14 (by decide +kernel) (by decide +kernel))) (hts _ kL_163) (hts _ (lwm 26 (by decide +kernel) (by decide +kernel))) rfl (by decide +kernel) ⟨Nat.le_of_ble_eq_true rfl, Nat.le_of_ble_eq_true rfl⟩) ⟨kc_blind, fun U hU hW => ⟨rfl, by rw [hU], by rw [hU]; exact hPc, va_K.moved hW.alike hK, hDc.weaken (fun _ _ _ _ => trivial), NW_warm hW hN, AO.moved hW.alike hAO⟩⟩ rfl rfl hl.1 rfl (lv_room (Nat.le_of_ble_eq_true rfl)) dL_law_4 ⟨Nat.le_of_ble_eq_true rfl, Nat.le_of_ble_eq_true rfl⟩) hS (fun q _ h => hFc q h) hFc (fun r5 t H1 locs1 ht hvm hw hB hz1 hk1 hS => ?_)
  obtain ⟨hP1, -, hD1⟩ := hB
  rw [ht] at hP1
  obtain ⟨hP, hD⟩ := va_join (wr := []) (w1 := [(q0, .inr (5, [.ref (r5 0), .ref (r5 2), .ref (r5 4), .ref (r5 6), .ref (r5 8), .ref (r5 17), .ref (r5 34), .ref (r5 43), .int 0, .int 0, .int 0])), ((r5 0), .inr (0, [.ref (r5 1)])), ((r5 1), .inl (g.2.1 0, (63, .inl (fun _ => 0)))), ((r5 2), .inr (0, [.ref (r5 3)])), ((r5 3), .inl (g.2.1 0, (63, .inl (fun _ => 0)))), ((r5 4), .inr (3, [.ref (r5 5), .int 0, .int 0, .int 0])), ((r5 5), .inl (g.2.1 0, (90, .inl (fun _ => 0)))), ((r5 6), .inr (4, [.ref (r5 7), .int 0])), ((r5 7), .inl (g.2.1 0, (4, .inl (fun _ => 0)))), ((r5 8), .inr (1, [.ref (r5 9), .ref (r5 16), .int 0, .int 0])), ((r5 9), .inl (g.2.1 4, (6, .inr (.inr (.inr (.inr (fun i => [(r5 10), (r5 11), (r5 12), (r5 13), (r5 14), (r5 15)][i]?))))))), ((r5 10), .inl (g.2.1 1, (6, .inr (.inl (fun _ => 0))))), ((r5 11), .inl (g.2.1 1, (6, .inr (.inl (fun _ => 0))))), ((r5 12), .inl (g.2.1 1, (6, .inr (.inl (fun _ => 0))))), ((r5 13), .inl (g.2.1 1, (6, .inr (.inl (fun _ => 0))))), ((r5 14), .inl (g.2.1 1, (6, .inr (.inl (fun _ => 0))))), ((r5 15), .inl (g.2.1 1, (6, .inr (.inl (fun _ => 0))))), ((r5 16), .inl (g.2.1 1, (4096, .inr (.inl (fun _ => 0))))), ((r5 17), .inr (2, [.ref (r5 18), .long 1, .int 0, .ref (r5 19), .ref (r5 20), .ref (r5 21), .int 0, .ref (r5 27), .ref (r5 33), .long 1])), ((r5 18), .inl (g.2.1 1, (6, .inr (.inl (fun _ => 0))))), ((r5 19), .inl (g.2.1 1, (6, .inr (.inl (fun _ => 0))))), ((r5 20), .inl (g.2.1 1, (6, .inr (.inl (fun _ => 0))))), ((r5 21), .inl (g.2.1 4, (5, .inr (.inr (.inr (.inr (fun i => [(r5 22), (r5 23), (r5 24), (r5 25), (r5 26)][i]?))))))), ((r5 22), .inl (g.2.1 1, (6, .inr (.inl (fun _ => 0))))), ((r5 23), .inl (g.2.1 1, (6, .inr (.inl (fun _ => 0))))), ((r5 24), .inl (g.2.1 1, (6, .inr (.inl (fun _ => 0))))), ((r5 25), .inl (g.2.1 1, (6, .inr (.inl (fun _ => 0))))), ((r5 26), .inl (g.2.1 1, (6, .inr (.inl (fun _ => 0))))), ((r5 27), .inl (g.2.1 4, (5, .inr (.inr (.inr (.inr (fun i => [(r5 28), (r5 29), (r5 30), (r5 31), (r5 32)][i]?))))))), ((r5 28), .inl (g.2.1 1, (6, .inr (.inl (fun _ => 0))))), ((r5 29), .inl (g.2.1 1, (6, .inr (.inl (fun _ => 0))))), ((r5 30), .inl (g.2.1 1, (6, .inr (.inl (fun _ => 0))))), ((r5 31), .inl (g.2.1 1, (6, .inr (.inl (fun _ => 0))))), ((r5 32), .inl (g.2.1 1, (6, .inr (.inl (fun _ => 0))))), ((r5 33), .inl (g.2.1 1, (6, .inr (.inl (fun _ => 0))))), ((r5 34), .inl (g.2.1 3, (8, .inr (.inr (.inr (.inr (fun i => [(r5 35), (r5 36), (r5 37), (r5 38), (r5 39), (r5 40), (r5 41), (r5 42)][i]?))))))), ((r5 35), .inl (g.2.1 0, (63, .inl (fun _ => 0)))), ((r5 36), .inl (g.2.1 0, (63, .inl (fun _ => 0)))), ((r5 37), .inl (g.2.1 0, (63, .inl (fun _ => 0)))), ((r5 38), .inl (g.2.1 0, (63, .inl (fun _ => 0)))), ((r5 39), .inl (g.2.1 0, (63, .inl (fun _ => 0)))), ((r5 40), .inl (g.2.1 0, (63, .inl (fun _ => 0)))), ((r5 41), .inl (g.2.1 0, (63, .inl (fun _ => 0)))), ((r5 42), .inl (g.2.1 0, (63, .inl (fun _ => 0)))), ((r5 43), .inl (g.2.1 3, (2, .inr (.inr (.inr (.inr (fun i => [(r5 44), (r5 45)][i]?))))))), ((r5 44), .inl (g.2.1 0, (63, .inl (fun _ => 0)))), ((r5 45), .inl (g.2.1 0, (63, .inl (fun _ => 0))))]) hP hD [0] [] rfl rfl (by decide) (by decide) hk1 hFc hP1 hD1
  clear hP1 hD1 hPc hDc hFc hk1 hz1 hw ht hvm
  refine lv_astore_n (lv' := [(1, .ref q0), (0, .ref b)]) hx hb dL_law_7 rfl hl (by decide) rfl (fun ls hl => ?_)
  refine lv_bipush (v := 52) hx hb dL_law_8 (by decide) ?_
  refine va_newa (atype := .int) (a0 := (52, .inl (fun _ => 0))) (N' := 52) hx hb (hts _ (lwm 41 (by decide +kernel) (by decide +kernel))) (ty := .int) rfl hK hP hD hS hA (fun _ => rfl) (by decide) (by decide) (by decide) (Nat.le_of_ble_eq_true rfl) (Nat.le_of_ble_eq_true rfl) dL_law_10 (fun qz cA H hK1 hP hD hS => ?_)
  have e1 := (hK1.2 (tysOf g).length (cA, .int) (by rw [List.getElem?_append_right (Nat.le_refl _), Nat.sub_self]; rfl)).2
  have e2 := (hK.2 0 (g.2.1 0, .int) rfl).2
  have e3 : cA = g.2.1 0 := Option.some.inj (e1.symm.trans e2)
  subst e3
  clear hK1 e1 e2
  refine lv_astore_n (lv' := [(2, .ref qz), (1, .ref q0), (0, .ref b)]) hx hb dL_law_12 rfl hl (by decide) rfl (fun ls hl => ?_)
  refine lv_bipush (v := 18) hx hb dL_law_13 (by decide) ?_
  refine va_newa (atype := .int) (a0 := (18, .inl (fun _ => 0))) (N' := 18) hx hb (hts _ (lwm 41 (by decide +kernel) (by decide +kernel))) (ty := .int) rfl hK hP hD hS hA (fun _ => rfl) (by decide) (by decide) (by decide) (Nat.le_of_ble_eq_true rfl) (Nat.le_of_ble_eq_true rfl) dL_law_15 (fun qc cA H hK1 hP hD hS => ?_)
  have e1 := (hK1.2 (tysOf g).length (cA, .int) (by rw [List.getElem?_append_right (Nat.le_refl _), Nat.sub_self]; rfl)).2
  have e2 := (hK.2 0 (g.2.1 0, .int) rfl).2
  have e3 : cA = g.2.1 0 := Option.some.inj (e1.symm.trans e2)
  subst e3
  clear hK1 e1 e2
  refine lv_astore_n (lv' := [(3, .ref qc), (2, .ref qz), (1, .ref q0), (0, .ref b)]) hx hb dL_law_17 rfl hl (by decide) rfl (fun ls hl => ?_)
  refine lv_bipush (v := 42) hx hb dL_law_18 (by decide) ?_
  refine va_newa (atype := .long) (a0 := (42, .inr (.inl (fun _ => 0)))) (N' := 42) hx hb (hts _ (lwm 95 (by decide +kernel) (by decide +kernel))) (ty := .long) rfl hK hP hD hS hA (fun _ => rfl) (by decide) (by decide) (by decide) (Nat.le_of_ble_eq_true rfl) (Nat.le_of_ble_eq_true rfl) dL_law_20 (fun qm cA H hK1 hP hD hS => ?_)
  have e1 := (hK1.2 (tysOf g).length (cA, .long) (by rw [List.getElem?_append_right (Nat.le_refl _), Nat.sub_self]; rfl)).2
  have e2 := (hK.2 1 (g.2.1 1, .long) rfl).2
  have e3 : cA = g.2.1 1 := Option.some.inj (e1.symm.trans e2)
  subst e3
  clear hK1 e1 e2
  refine lv_astore (lv' := [(4, .ref qm), (3, .ref qc), (2, .ref qz), (1, .ref q0), (0, .ref b)]) hx hb dL_law_22 hl (by decide) rfl (fun ls hl => ?_)
  have hP : va_P g.1 vwCl (ws00 g q0 qz qc qm r5) _ := hP
  have hD : va_D (fun q : Nat => s.heap.size ≤ q) (ws00 g q0 qz qc qm r5) := hD
  obtain ⟨hPw, hDw⟩ := wl_of (g := (g.1, g.2.1, adr q0 qz qc qm b L xs r5)) (q0 := q0) (qz := qz) (qc := qc) (qm := qm) (b := b) (L9 := L) (xs := xs) (r5 := r5) rfl hP hD
  have hadr : ∀ k, k < 50 → s.heap.size ≤ adr q0 qz qc qm b L xs r5 k := fun k hk => hDw.2 k _ (wl_get (g := (g.1, g.2.1, adr q0 qz qc qm b L xs r5)) (h := h00) hk)
  have hxs : scx (g.1, g.2.1, adr q0 qz qc qm b L xs r5) = xs := funext fun j => scx_adr _ _ _ _ _ _ _ _ _ _ j
  have hSX : SX (g.1, g.2.1, adr q0 qz qc qm b L xs r5) s := ⟨by rw [hxs]; exact hX, hbl, fun k hk e => Nat.lt_irrefl _ (Nat.lt_of_lt_of_le hbl (by have := hadr k hk; rw [← show b = adr q0 qz qc qm b L xs r5 k from e] at this; exact this)), hL⟩
  have K9 : LC p s m meth c b L xs (g.1, g.2.1, adr q0 qz qc qm b L xs r5) := ⟨C0, hKf _, hN, hadr, rfl, hSX⟩
  refine W.widen (k := 600000) (n := 7302250) (Nat.le_of_ble_eq_true rfl) (Nat.le_of_ble_eq_true rfl) ?_
  refine law_24 K9 jp00 _ _ ls ⟨hPw, AA_self hDw, ⟨hS.1, fun q h1 h2 => hS.2.1 q h1 (fun h3 => h2 (Or.inr h3)), fun q hq => Or.inr (hS.2.2 q hq)⟩, rr00⟩ ⟨rfl, ?_⟩
  exact lv_has_mono hl (fun q hq => by
    have e : lp (g.1, g.2.1, adr q0 qz qc qm b L xs r5) 0 [vr 50, vr 0, vr 47, vr 48, vr 49, vx, vx, vx] = [(0, .ref b), (1, .ref q0), (2, .ref qz), (3, .ref qc), (4, .ref qm)] := rfl
    rw [e] at hq
    simp only [List.mem_cons, List.not_mem_nil, or_false] at hq ⊢
    rcases hq with rfl | rfl | rfl | rfl | rfl
    · exact Or.inr (Or.inr (Or.inr (Or.inr rfl)))
    · exact Or.inr (Or.inr (Or.inr (Or.inl rfl)))
    · exact Or.inr (Or.inr (Or.inl rfl))
    · exact Or.inr (Or.inl rfl)
    · exact Or.inl rfl)

/-! CONSTRUCTORS: a frame of <init> on the object h0, the cells ws, n objects and k elements made so far -/
theorem ao_alike {t : FieldType} {a a' : Array Value} {U U' : State} (hal : U.vm.Alike U'.vm) (h : (Cond.arrayOver (.array t)).before a U = true) : (Cond.arrayOver (.array t)).before a' U' = true := by
  simp only [Cond.before, Cond.holds, Cond.value] at h ⊢
  rw [hal.findClass]
  cases hf : U.vm.findClass (FieldType.array t).toString with
  | none => rw [hf] at h; simp at h
  | some comp =>
    rw [hf] at h
    simp only [Option.bind_some] at h ⊢
    rw [hal.findIdx_congr _ (fun _ _ _ _ => rfl)]
    generalize (U.vm.classes.findIdx? fun (x : Class) => match x.kind with | .array component _ => component == comp | _ => false) = fi at h ⊢
    cases fi with
    | none => simp at h
    | some c =>
      simp only [Option.bind_some] at h ⊢
      cases hk : U.vm.classes[c]? with
      | none => rw [hk] at h; simp at h
      | some k =>
        obtain ⟨k', hk', ek⟩ := hal.2.2 _ _ hk
        rw [hk] at h
        rw [hk', hal.findClass]
        have ekind : k'.kind = k.kind := by rw [ek]
        simp only [Option.map_some] at h ⊢
        rw [ekind]
        exact h
def AO (U : State) : Prop := va_Nw (.arrayOver (.array .int)) U ∧ va_Nw (.arrayOver (.array .long)) U
theorem AO.moved {u U : State} (h : u.vm.Alike U.vm) (a : AO u) : AO U := ⟨ao_alike h a.1, ao_alike h a.2⟩
def KF (o : String) (cc : ByteArray) (g : GG) (p : Program) (s : State) (m : MethodId) (args : Array Value) (meth : Method) (c : Code) : Prop := p.tables.exec = Jvm.exec ∧ c.code = cc ∧ meth.sig.returnType = none ∧ c.maxLocals = 1 ∧ s.vm.findClass o = some m.cls ∧ (∀ w ∈ lw_ok, w.before args s = true) ∧ meth.locks = false ∧ va_K g.1 vwCl (tysOf g) s ∧ NW s ∧ AO s ∧ meth.name = "<init>"
/-- behind a constructor: its cells W1 r at some addresses r -/
def KB (g : GG) (W1 : (Nat → Nat) → va_W) (A : Nat → Prop) (r : Nat → Nat) (t : State) : Prop := va_P g.1 vwCl (W1 r) t.heap ∧ va_K g.1 vwCl (tysOf g) t ∧ va_D A (W1 r)
def KZ (o : String) (cc : ByteArray) (rm : Room) (g : GG) (h0 : Nat) (W1 : (Nat → Nat) → va_W) (mc ms : Nat) (pc : Nat) (st : List Value) (ws : va_W) (n k : Nat) : Prop :=
  ∀ (p : Program) (l : Launch) (e : Env) (s : State) (m : MethodId) (args : Array Value) (below : List Frame) (meth : Method) (c : Code), KF o cc g p s m args meth c → ∀ (A : Nat → Prop) (H : Heap) (locs : List Loc) (ls : Array Slot), (∀ q : Nat, s.heap.size ≤ q → A q) → va_P g.1 vwCl ws H → va_D A ws → va_S A s.heap H locs → lv_has ls 1 [(0, .ref h0)] →
    W p l e rm s m args below meth c H locs n k (MQ below (va_Qv (fun _ : Nat → Nat => True) (KB g W1 A) A) args s mc ms A) (F0 m pc ls st)
/-- THE CONTRACT of a constructor -/
def KC (y : MethodName) (cc : ByteArray) (rm : Room) (g : GG) (h0 : Nat) (W0 : va_W) (W1 : (Nat → Nat) → va_W) (mc ms : Nat) : Prop :=
  ∀ (l : Launch) (sz : Nat), Met l y (.code y cc 1 none :: lw_ok) rm (va_Pc [.ref h0] (fun U => U.heap.size = sz ∧ va_P g.1 vwCl W0 U.heap ∧ va_K g.1 vwCl (tysOf g) U ∧ va_D (fun _ => True) W0 ∧ NW U ∧ AO U)) (va_Qv (fun _ : Nat → Nat => True) (KB g W1 (va_A W0 sz)) (va_A W0 sz)) mc ms (va_A W0 sz)
theorem kc_of {y : MethodName} {cc : ByteArray} {rm : Room} {g : GG} {h0 : Nat} {W0 : va_W} {W1 : (Nat → Nat) → va_W} {mc ms : Nat} (hy : plainName y.cls = true) (hn : y.name = "<init>") (K : KZ y.cls cc rm g h0 W1 mc ms 0 [] W0 0 0) : KC y cc rm g h0 W0 W1 mc ms := by
  intro l sz
  refine Met.ofW (cc := cc) (maxL := 1) (ret := none) hy rfl ?_
  intro p e s m args below meth c s₁ B hml hv
  obtain ⟨rfl, hsz, hP, hK, hD0, hN, hA9⟩ := hv
  have hts := atoms_spec (ws := .code y cc 1 none :: lw_ok) B.pre
  have hown : s.vm.findClass y.cls = some m.cls := findClass_of_methodNamed B.named
  have hin : meth.name = "<init>" := (name_of_methodNamed B.named B.method).1.trans hn
  subst hsz
  have hl := lv_entry ([.ref h0]) (n := 1) (Nat.le_of_ble_eq_true rfl)
  rw [lg_entry_eq]
  exact K p l e s m _ below meth c ⟨B.exec, B.bytes, B.returns, hml, hown, fun w hw => hts w (List.mem_cons_of_mem _ hw), B.notSynchronized, hK, hN, hA9, hin⟩ (va_A W0 s.heap.size) s.heap [] _ (fun q h => Or.inr h) hP (hD0.self (sz := s.heap.size)) va_S.rf hl
theorem k_aload {o : String} {cc : ByteArray} {rm : Room} {g : GG} {h0 : Nat} {W1 : (Nat → Nat) → va_W} {mc ms pc : Nat} {st : List Value} {ws : va_W} {n k : Nat} (d : decode cc pc = .ok (.aload_n 0, 1)) (kk : KZ o cc rm g h0 W1 mc ms (pc + 1) (.ref h0 :: st) ws n k) : KZ o cc rm g h0 W1 mc ms pc st ws n k := by
  intro p l e s m args below meth c F A H locs ls hA hP hD hS hl
  refine lv_aload_n F.1 F.2.1 d rfl (lv_at hl 0 rfl) ?_
  exact kk p l e s m args below meth c F A H locs ls hA hP hD hS hl
theorem k_bipush {o : String} {cc : ByteArray} {rm : Room} {g : GG} {h0 : Nat} {W1 : (Nat → Nat) → va_W} {mc ms pc : Nat} {st : List Value} {ws : va_W} {n k : Nat} {z : Int} {v : Int32} (d : decode cc pc = .ok (.bipush z, 2)) (hv : (Int8.ofInt z).toInt32 = v) (kk : KZ o cc rm g h0 W1 mc ms (pc + 2) (.int v :: st) ws n k) : KZ o cc rm g h0 W1 mc ms pc st ws n k := by
  intro p l e s m args below meth c F A H locs ls hA hP hD hS hl
  refine lv_bipush (v := v) F.1 F.2.1 d hv ?_
  exact kk p l e s m args below meth c F A H locs ls hA hP hD hS hl
theorem k_sipush {o : String} {cc : ByteArray} {rm : Room} {g : GG} {h0 : Nat} {W1 : (Nat → Nat) → va_W} {mc ms pc : Nat} {st : List Value} {ws : va_W} {n k : Nat} {z : Int} {v : Int32} (d : decode cc pc = .ok (.sipush z, 3)) (hv : (Int16.ofInt z).toInt32 = v) (kk : KZ o cc rm g h0 W1 mc ms (pc + 3) (.int v :: st) ws n k) : KZ o cc rm g h0 W1 mc ms pc st ws n k := by
  intro p l e s m args below meth c F A H locs ls hA hP hD hS hl
  refine lv_sipush (v := v) F.1 F.2.1 d hv ?_
  exact kk p l e s m args below meth c F A H locs ls hA hP hD hS hl
theorem k_iconst {o : String} {cc : ByteArray} {rm : Room} {g : GG} {h0 : Nat} {W1 : (Nat → Nat) → va_W} {mc ms pc : Nat} {st : List Value} {ws : va_W} {n k : Nat} {z : Int} {v : Int32} (d : decode cc pc = .ok (.iconst z, 1)) (hv : Int32.ofInt z = v) (kk : KZ o cc rm g h0 W1 mc ms (pc + 1) (.int v :: st) ws n k) : KZ o cc rm g h0 W1 mc ms pc st ws n k := by
  intro p l e s m args below meth c F A H locs ls hA hP hD hS hl
  refine lv_iconst (v := v) F.1 F.2.1 d hv ?_
  exact kk p l e s m args below meth c F A H locs ls hA hP hD hS hl
theorem k_lconst {o : String} {cc : ByteArray} {rm : Room} {g : GG} {h0 : Nat} {W1 : (Nat → Nat) → va_W} {mc ms pc : Nat} {st : List Value} {ws : va_W} {n k : Nat} {z : Fin 2} {v : Int64} (d : decode cc pc = .ok (.lconst z, 1)) (hv : Int64.ofNat (z : Nat) = v) (kk : KZ o cc rm g h0 W1 mc ms (pc + 1) (.long v :: st) ws n k) : KZ o cc rm g h0 W1 mc ms pc st ws n k := by
  intro p l e s m args below meth c F A H locs ls hA hP hD hS hl
  refine lv_lconst (v := v) F.1 F.2.1 d hv ?_
  exact kk p l e s m args below meth c F A H locs ls hA hP hD hS hl
theorem k_obj {o : String} {cc : ByteArray} {rm : Room} {g : GG} {h0 : Nat} {W1 : (Nat → Nat) → va_W} {mc ms pc : Nat} {ws : va_W} {n k : Nat} {idx : Nat} {a : Nat} (d : decode cc pc = .ok (.invokespecial idx, 3)) (hl9 : Cond.methodLink o idx Lib.objectInit ∈ lw_ok) (h1 : Cond.instanceMethod Lib.objectInit ∈ lw_ok) (h2 : Cond.code Lib.objectInit ⟨#[0xb1]⟩ 1 none ∈ lw_ok) (hR : 1 ≤ rm.frames ∧ 12 ≤ rm.locals) (kk : KZ o cc rm g h0 W1 mc ms (pc + 3) [] ws n k) : KZ o cc rm g h0 W1 mc ms pc [.ref a] ws n k := by
  intro p l e s m args below meth c F A H locs ls hA hP hD hS hl
  refine W.objInit F.1 F.2.1 F.2.2.2.2.1 (F.2.2.2.2.2.1 _ hl9) (F.2.2.2.2.2.1 _ h1) (F.2.2.2.2.2.1 _ h2) rfl (by rw [F.2.2.2.1]; exact hl.1) rfl d hR.1 hR.2 ?_
  refine W.eq (g2 := F0 m (pc + 3) ls []) rfl ?_
  exact kk p l e s m args below meth c F A H locs ls hA hP hD hS hl
theorem k_newa {o : String} {cc : ByteArray} {rm : Room} {g : GG} {h0 : Nat} {W1 : (Nat → Nat) → va_W} {mc ms pc : Nat} {st : List Value} {ws : va_W} {n k : Nat} {at9 : ArrayType} {ty : FieldType} {kd N : Nat} {a0 : vp_A} {v : Int32} (hty : newarray.typeOf at9 = ty) (hw : Cond.arrayClass (newarray.typeOf at9) ∈ lw_ok) (hkd : ∀ g : GG, (tysOf g)[kd]? = some (g.2.1 kd, ty)) (hr : ∀ (s : State) c1 c2, va_RA s c1 ty → va_RA s c2 ty → c1 = c2) (ha : ∀ cA : ClassId, vp_cell cA a0 = arrV cA N (fun _ => defaultValue ty)) (hn : ¬ v < 0) (hN : v.toNatClampNeg = N) (hb9 : N * componentBytes ty ≤ 536870912) (h1 : n + 1 ≤ rm.cells) (h2 : k + N ≤ rm.slots) (d : decode cc pc = .ok (.newarray at9, 2)) (kk : ∀ q, KZ o cc rm g h0 W1 mc ms (pc + 2) (.ref q :: st) (ws ++ [(q, .inl (g.2.1 kd, a0))]) (n + 1) (k + N)) : KZ o cc rm g h0 W1 mc ms pc (.int v :: st) ws n k := by
  intro p l e s m args below meth c F A H locs ls hA hP hD hS hl
  have hK := F.2.2.2.2.2.2.2.1
  refine va_newa F.1 F.2.1 (F.2.2.2.2.2.1 _ hw) hty hK hP hD hS hA ha hn hN hb9 h1 h2 d (fun q cA H1 hK1 hP1 hD1 hS1 => ?_)
  have e1 := (hK1.2 (tysOf g).length (cA, ty) (by rw [List.getElem?_append_right (Nat.le_refl _), Nat.sub_self]; rfl)).2
  have e2 := (hK.2 kd (g.2.1 kd, ty) (hkd g)).2
  have e3 : cA = g.2.1 kd := hr s _ _ e1 e2
  subst e3
  exact kk q p l e s m args below meth c F A H1 locs ls hA hP1 hD1 hS1 hl
theorem k_put {o : String} {cc : ByteArray} {rm : Room} {g : GG} {h0 : Nat} {W1 : (Nat → Nat) → va_W} {mc ms pc : Nat} {ws : va_W} {n k : Nat} {idx ci j : Nat} {C : String} {T : u_T} {N : Nat} {v : Value} {fs : List Value} {ty : FieldType} (hc : vwCl[ci]? = some (C, T, N)) (hj : j < N) (hlink : Cond.fieldLink o idx (T j).1 (T j).2.1 (T j).2.2.1 ∈ lw_ok) (hfin : (T j).2.2.2 = true) (hdecl : (T j).1 = o) (hty : parseFieldDescriptor (T j).2.2.1 = some ty) (hn9 : narrow ty v = v) (hf9 : fits ty v = true) (hl9 : j < fs.length) (q0 : Nat) (he : ws[q0]? = some (h0, .inr (ci, fs))) (d : decode cc pc = .ok (.putfield idx, 3)) {ws1 : va_W} (e1 : ws.set q0 (h0, .inr (ci, fs.set j v)) = ws1) (kk : KZ o cc rm g h0 W1 mc ms (pc + 3) [] ws1 n k) : KZ o cc rm g h0 W1 mc ms pc [v, .ref h0] ws n k := by
  intro p l e s m args below meth c F A H locs ls hA hP hD hS hl
  obtain ⟨u1, ⟨ty0, u2⟩, u3⟩ := uw_all ci _ hc
  refine va_putF (Ts := lw_ok) (ref := (T j).1) F.1 F.2.1 F.2.2.2.2.2.1 u1 ty0 u2 u3 F.2.2.2.2.1 F.2.2.2.2.2.2.2.1 hP hD hS q0 he hc j hj (F.2.2.2.2.2.1 _ hlink) (fun _ h9 => h9) hfin F.2.2.2.2.2.2.2.2.2.2 hdecl hty hn9 hf9 hl9 d (fun H1 locs1 hP hD hS => ?_)
  rw [e1] at hP hD
  exact kk p l e s m args below meth c F A H1 locs1 ls hA hP hD hS hl
theorem k_putv {o : String} {cc : ByteArray} {rm : Room} {g : GG} {h0 : Nat} {W1 : (Nat → Nat) → va_W} {mc ms pc : Nat} {ws : va_W} {n k : Nat} {idx ci j : Nat} {C : String} {T : u_T} {N : Nat} {v : Value} {fs : List Value} {ty : FieldType} (hc : vwCl[ci]? = some (C, T, N)) (hj : j < N) (hlink : Cond.fieldLink o idx (T j).1 (T j).2.1 (T j).2.2.1 ∈ lw_ok) (hfin : (T j).2.2.2 = false) (hty : parseFieldDescriptor (T j).2.2.1 = some ty) (hn9 : narrow ty v = v) (hf9 : fits ty v = true) (hl9 : j < fs.length) (q0 : Nat) (he : ws[q0]? = some (h0, .inr (ci, fs))) (d : decode cc pc = .ok (.putfield idx, 3)) {ws1 : va_W} (e1 : ws.set q0 (h0, .inr (ci, fs.set j v)) = ws1) (kk : KZ o cc rm g h0 W1 mc ms (pc + 3) [] ws1 n k) : KZ o cc rm g h0 W1 mc ms pc [v, .ref h0] ws n k := by
  intro p l e s m args below meth c F A H locs ls hA hP hD hS hl
  obtain ⟨u1, ⟨ty0, u2⟩, u3⟩ := uw_all ci _ hc
  refine va_put (Ts := lw_ok) (ref := (T j).1) F.1 F.2.1 F.2.2.2.2.2.1 u1 ty0 u2 u3 F.2.2.2.2.1 F.2.2.2.2.2.2.2.1 hP hD hS q0 he hc j hj (F.2.2.2.2.2.1 _ hlink) (fun _ h9 => h9) hfin hty hn9 hf9 hl9 d (fun H1 locs1 hP hD hS => ?_)
  rw [e1] at hP hD
  exact kk p l e s m args below meth c F A H1 locs1 ls hA hP hD hS hl
theorem k_ret {o : String} {cc : ByteArray} {rm : Room} {g : GG} {h0 mc ms : Nat} {W1 : (Nat → Nat) → va_W} {pc : Nat} {ws : va_W} (r : Nat → Nat) (hr : W1 r = ws) (d : decode cc pc = .ok (.return_, 1)) : KZ o cc rm g h0 W1 mc ms pc [] ws mc ms := by
  intro p l e s m args below meth c F A H locs ls hA hP hD hS hl
  subst hr
  have hK := F.2.2.2.2.2.2.2.1
  exact W.vret F.1 F.2.1 F.2.2.1 (fun t ht hW => ⟨⟨r, rfl, trivial, by rw [ht]; exact hP, va_K.moved hW.alike hK, hD⟩, hS.F ht⟩) hS.2.2 d (hlocks := F.2.2.2.2.2.2.1)


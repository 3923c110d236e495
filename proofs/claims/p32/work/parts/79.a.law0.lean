/-! THE CLAIM OUT OF ONE WALK OF THE LAW'S BODY. Your part is whole_start (and what it stands on); all else here is the same for every law, but numbers. -/
def R_law : String := "ChainPartsLaw"
def lw_P (b : Addr) (xs : List Int32) (args : Array Value) (s : State) : Prop := args = #[.ref b] ∧ s.IntsAt b xs ∧ xs.length ≤ 260 ∧ (Jvm.Cond.and given_1 narrow_1).before args s = true
def lw_Q (_ : Array Value) (s : State) (o : Outcome) (t : State) : Prop := o = .returned (some (.int 1)) ∧ Framed s o t [] 600000 7302250
def lw_Z (below : List Frame) (a : Array Value) (s : State) : State → Prop := fun t => ∃ o, t.status = .running ∧ Ended t below o ∧ lw_Q a s o t
/-- the law's own end, with 1 on the stack, nothing written that was there before, its room as the claim has it -/
theorem lw_ret {p : Program} {l : Launch} {e : Env} {s : State} {m : MethodId} {below : List Frame} {meth : Method} {c : Code} {b : Nat} (hx : p.tables.exec = Jvm.exec) (hb : c.code = code) (hr : meth.sig.returnType = ret) (hlocks : meth.locks = false) {pc : Nat} {H : Heap} {ls : Array Slot} (hdg : decode code pc = .ok (.ireturn, 1)) : W p l e room_1 s m #[Value.ref b] below meth c H [] 600000 7302250 (lw_Z below #[Value.ref b] s) (F0 m pc ls [.int 1]) := by
  intro T hT X
  obtain ⟨fs, hret, hrun, hended, hW, hframe⟩ := X.leave (v := some (.int 1)) (hlocks := hlocks) (fun h => by rw [hr] at h; cases h)
  have hmeth' : T.vm.method? m = some meth := X.method'
  refine ⟨T.setFrames fs, ?_, .returned (some (.int 1)), hrun, hended, rfl, ⟨_, rfl⟩, hW, hframe⟩
  jvm_step X.here [X.here.top, hx, hb, hdg, hmeth', hr, ret, narrow_b1]
  (try refine ⟨rfl, ?_⟩); (try refine ⟨rfl, ?_⟩)
  first | (intro acts; rw [hret _ acts rfl rfl rfl]) | rw [hret _ _ rfl rfl rfl]
  exact Steps.refl _
/-- what holds at the law's entry: the machine, the code, the tables' words (any of lw_tbl by 'hts w (by decide +kernel)'), the script of L ints xs at the cell b, what the Statement gives of the start (any of its parts by flat_of_before) -/
def lw_At (p : Program) (s : State) (m : MethodId) (meth : Method) (c : Code) (b L : Nat) (xs : Nat → Int32) : Prop :=
  p.tables.exec = Jvm.exec ∧ c.code = code ∧ meth.sig.returnType = ret ∧ c.maxLocals = 8 ∧ s.vm.findClass R_law = some m.cls ∧ (∀ w ∈ lw_tbl, w.before #[Value.ref b] s = true) ∧ va_X b L xs s s.heap ∧ b < s.heap.size ∧ meth.locks = false ∧ (Jvm.Cond.and given_1 narrow_1).before #[Value.ref b] s = true
/-! THE LAW'S OWN FRAME -/
def LC (p : Program) (s : State) (m : MethodId) (meth : Method) (c : Code) (b L9 : Nat) (xs : Nat → Int32) (g : GG) : Prop := lw_At p s m meth c b L9 xs ∧ va_K g.1 vwCl (tysOf g) s ∧ NW s ∧ (∀ k, k < 50 → s.heap.size ≤ g.2.2 k) ∧ g.2.2 50 = b ∧ SX g s
def Y (p : Program) (l : Launch) (e : Env) (s : State) (m : MethodId) (below : List Frame) (meth : Method) (c : Code) (b : Nat) (g : GG) (pc : Nat) (lv st : List AV) (h : HH) : Prop := ∀ (H : Heap) (locs : List Loc) (ls : Array Slot), Hx g h s H locs → lrep g 8 lv ls → W p l e room_1 s m #[Value.ref b] below meth c H locs 600000 7302250 (lw_Z below #[Value.ref b] s) (F0 m pc ls (st.map (cv g)))
theorem AA_new {p : Program} {s : State} {m : MethodId} {meth : Method} {c : Code} {b L9 : Nat} {xs : Nat → Int32} {g : GG} {q : Nat} (K9 : LC p s m meth c b L9 xs g) (hq : AA g s.heap.size q) : s.heap.size ≤ q := by
  rcases hq with ⟨k, hk, rfl⟩ | hq
  · exact K9.2.2.2.1 k hk
  · exact hq
theorem y_aload_n {p : Program} {l : Launch} {e : Env} {s : State} {m : MethodId} {below : List Frame} {meth : Method} {c : Code} {b L9 : Nat} {xs : Nat → Int32} {g : GG} {pc : Nat} {lv st : List AV} {h : HH} (K9 : LC p s m meth c b L9 xs g) {n : Fin 4} {x : Nat} (d : decode code pc = .ok (.aload_n n, 1)) (hv : lv[(n : Nat)]? = some (vr x)) (k : Y p l e s m below meth c b g (pc + 1) lv (vr x :: st) h) : Y p l e s m below meth c b g pc lv (st) h := by
  intro H locs ls X G
  refine lv_aload_n K9.1.1 K9.1.2.1 d rfl (lrep_get G hv rfl) ?_
  exact k  H locs ls X G
theorem y_aload {p : Program} {l : Launch} {e : Env} {s : State} {m : MethodId} {below : List Frame} {meth : Method} {c : Code} {b L9 : Nat} {xs : Nat → Int32} {g : GG} {pc : Nat} {lv st : List AV} {h : HH} (K9 : LC p s m meth c b L9 xs g) {n : Nat} {x : Nat} (d : decode code pc = .ok (.aload n, 2)) (hv : lv[n]? = some (vr x)) (k : Y p l e s m below meth c b g (pc + 2) lv (vr x :: st) h) : Y p l e s m below meth c b g pc lv (st) h := by
  intro H locs ls X G
  refine lv_aload K9.1.1 K9.1.2.1 d (lrep_get G hv rfl) ?_
  exact k  H locs ls X G
theorem y_iload_n {p : Program} {l : Launch} {e : Env} {s : State} {m : MethodId} {below : List Frame} {meth : Method} {c : Code} {b L9 : Nat} {xs : Nat → Int32} {g : GG} {pc : Nat} {lv st : List AV} {h : HH} (K9 : LC p s m meth c b L9 xs g) {n : Fin 4} {x : Int} (d : decode code pc = .ok (.iload_n n, 1)) (hv : lv[(n : Nat)]? = some (vi x)) (k : Y p l e s m below meth c b g (pc + 1) lv (vi x :: st) h) : Y p l e s m below meth c b g pc lv (st) h := by
  intro H locs ls X G
  refine lv_iload_n K9.1.1 K9.1.2.1 d rfl (lrep_get G hv rfl) ?_
  exact k  H locs ls X G
theorem y_iload {p : Program} {l : Launch} {e : Env} {s : State} {m : MethodId} {below : List Frame} {meth : Method} {c : Code} {b L9 : Nat} {xs : Nat → Int32} {g : GG} {pc : Nat} {lv st : List AV} {h : HH} (K9 : LC p s m meth c b L9 xs g) {n : Nat} {x : Int} (d : decode code pc = .ok (.iload n, 2)) (hv : lv[n]? = some (vi x)) (k : Y p l e s m below meth c b g (pc + 2) lv (vi x :: st) h) : Y p l e s m below meth c b g pc lv (st) h := by
  intro H locs ls X G
  refine lv_iload K9.1.1 K9.1.2.1 d (lrep_get G hv rfl) ?_
  exact k  H locs ls X G
theorem y_bipush {p : Program} {l : Launch} {e : Env} {s : State} {m : MethodId} {below : List Frame} {meth : Method} {c : Code} {b L9 : Nat} {xs : Nat → Int32} {g : GG} {pc : Nat} {lv st : List AV} {h : HH} (K9 : LC p s m meth c b L9 xs g) {n : Int} (d : decode code pc = .ok (.bipush n, 2)) (hv : (Int8.ofInt n).toInt32 = iI n) (k : Y p l e s m below meth c b g (pc + 2) lv (vi n :: st) h) : Y p l e s m below meth c b g pc lv (st) h := by
  intro H locs ls X G
  refine lv_bipush (v := iI n) K9.1.1 K9.1.2.1 d hv ?_
  exact k  H locs ls X G
theorem y_iconst {p : Program} {l : Launch} {e : Env} {s : State} {m : MethodId} {below : List Frame} {meth : Method} {c : Code} {b L9 : Nat} {xs : Nat → Int32} {g : GG} {pc : Nat} {lv st : List AV} {h : HH} (K9 : LC p s m meth c b L9 xs g) {n : Int} (d : decode code pc = .ok (.iconst n, 1))  (k : Y p l e s m below meth c b g (pc + 1) lv (vi n :: st) h) : Y p l e s m below meth c b g pc lv (st) h := by
  intro H locs ls X G
  refine lv_iconst (v := iI n) K9.1.1 K9.1.2.1 d rfl ?_
  exact k  H locs ls X G
theorem y_ldc {p : Program} {l : Launch} {e : Env} {s : State} {m : MethodId} {below : List Frame} {meth : Method} {c : Code} {b L9 : Nat} {xs : Nat → Int32} {g : GG} {pc : Nat} {lv st : List AV} {h : HH} (K9 : LC p s m meth c b L9 xs g) {idx : Nat} (z : Int) {v : Int32} (d : decode code pc = .ok (.ldc idx, 2)) (hc : Cond.constant RL idx v ∈ lw_ok) (hz : v = iI z) (k : Y p l e s m below meth c b g (pc + 2) lv (vi z :: st) h) : Y p l e s m below meth c b g pc lv (st) h := by
  intro H locs ls X G
  refine lv_ldc (v := iI z) K9.1.1 K9.1.2.1 K9.1.2.2.2.2.1 (by rw [← hz]; exact K9.1.2.2.2.2.2.1 _ (lw_ok_tbl _ hc)) d ?_
  exact k  H locs ls X G
theorem y_icmp_ne {p : Program} {l : Launch} {e : Env} {s : State} {m : MethodId} {below : List Frame} {meth : Method} {c : Code} {b L9 : Nat} {xs : Nat → Int32} {g : GG} {pc : Nat} {lv st : List AV} {h : HH} (K9 : LC p s m meth c b L9 xs g) {x y off : Int} (tgt : Nat) (d : decode code pc = .ok (.if_icmp .ne off, 3)) (ht : (pc : Int) + off = (tgt : Int)) (ha : R32 x) (hb : R32 y) (kt : x ≠ y → Y p l e s m below meth c b g tgt lv st h) (kf : x = y → Y p l e s m below meth c b g (pc + 3) lv st h) : Y p l e s m below meth c b g pc lv (vi y :: vi x :: st) h := by
  intro H locs ls X G
  refine lv_icmp_ne K9.1.1 K9.1.2.1 d ht (fun q => ?_) (fun q => ?_)
  · exact kt ((not_congr (iI_eq ha hb)).mp q)  H locs ls X G
  · exact kf ((iI_eq ha hb).mp q)  H locs ls X G
theorem y_icmp_ge {p : Program} {l : Launch} {e : Env} {s : State} {m : MethodId} {below : List Frame} {meth : Method} {c : Code} {b L9 : Nat} {xs : Nat → Int32} {g : GG} {pc : Nat} {lv st : List AV} {h : HH} (K9 : LC p s m meth c b L9 xs g) {x y off : Int} (tgt : Nat) (d : decode code pc = .ok (.if_icmp .ge off, 3)) (ht : (pc : Int) + off = (tgt : Int)) (ha : R32 x) (hb : R32 y) (kt : y ≤ x → Y p l e s m below meth c b g tgt lv st h) (kf : x < y → Y p l e s m below meth c b g (pc + 3) lv st h) : Y p l e s m below meth c b g pc lv (vi y :: vi x :: st) h := by
  intro H locs ls X G
  refine lv_icmp_ge K9.1.1 K9.1.2.1 d ht (fun q => ?_) (fun q => ?_)
  · exact kt ((iI_le hb ha).mp q)  H locs ls X G
  · exact kf (by have := mt (iI_le hb ha).mpr q; omega)  H locs ls X G
theorem y_if_eq {p : Program} {l : Launch} {e : Env} {s : State} {m : MethodId} {below : List Frame} {meth : Method} {c : Code} {b L9 : Nat} {xs : Nat → Int32} {g : GG} {pc : Nat} {lv st : List AV} {h : HH} (K9 : LC p s m meth c b L9 xs g) {a off : Int} (tgt : Nat) (d : decode code pc = .ok (.ifCond .eq off, 3)) (ht : (pc : Int) + off = (tgt : Int)) (ha : R32 a) (kt : a = 0 → Y p l e s m below meth c b g tgt lv st h) (kf : a ≠ 0 → Y p l e s m below meth c b g (pc + 3) lv st h) : Y p l e s m below meth c b g pc lv (vi a :: st) h := by
  intro H locs ls X G
  refine lv_if_eq K9.1.1 K9.1.2.1 d ht (fun q => ?_) (fun q => ?_)
  · exact kt ((iI_eq ha r32_0).mp q)  H locs ls X G
  · exact kf (by have := mt (iI_eq ha r32_0).mpr q; omega)  H locs ls X G
theorem y_if_ne {p : Program} {l : Launch} {e : Env} {s : State} {m : MethodId} {below : List Frame} {meth : Method} {c : Code} {b L9 : Nat} {xs : Nat → Int32} {g : GG} {pc : Nat} {lv st : List AV} {h : HH} (K9 : LC p s m meth c b L9 xs g) {a off : Int} (tgt : Nat) (d : decode code pc = .ok (.ifCond .ne off, 3)) (ht : (pc : Int) + off = (tgt : Int)) (ha : R32 a) (kt : a ≠ 0 → Y p l e s m below meth c b g tgt lv st h) (kf : a = 0 → Y p l e s m below meth c b g (pc + 3) lv st h) : Y p l e s m below meth c b g pc lv (vi a :: st) h := by
  intro H locs ls X G
  refine lv_if_ne K9.1.1 K9.1.2.1 d ht (fun q => ?_) (fun q => ?_)
  · exact kt ((not_congr (iI_eq ha r32_0)).mp q)  H locs ls X G
  · exact kf ((iI_eq ha r32_0).mp q)  H locs ls X G
theorem y_if_lt {p : Program} {l : Launch} {e : Env} {s : State} {m : MethodId} {below : List Frame} {meth : Method} {c : Code} {b L9 : Nat} {xs : Nat → Int32} {g : GG} {pc : Nat} {lv st : List AV} {h : HH} (K9 : LC p s m meth c b L9 xs g) {a off : Int} (tgt : Nat) (d : decode code pc = .ok (.ifCond .lt off, 3)) (ht : (pc : Int) + off = (tgt : Int)) (ha : R32 a) (kt : a < 0 → Y p l e s m below meth c b g tgt lv st h) (kf : 0 ≤ a → Y p l e s m below meth c b g (pc + 3) lv st h) : Y p l e s m below meth c b g pc lv (vi a :: st) h := by
  intro H locs ls X G
  refine lv_if_lt K9.1.1 K9.1.2.1 d ht (fun q => ?_) (fun q => ?_)
  · exact kt ((iI_lt ha r32_0).mp q)  H locs ls X G
  · exact kf (by have := mt (iI_lt ha r32_0).mpr q; omega)  H locs ls X G
theorem y_if_gt {p : Program} {l : Launch} {e : Env} {s : State} {m : MethodId} {below : List Frame} {meth : Method} {c : Code} {b L9 : Nat} {xs : Nat → Int32} {g : GG} {pc : Nat} {lv st : List AV} {h : HH} (K9 : LC p s m meth c b L9 xs g) {a off : Int} (tgt : Nat) (d : decode code pc = .ok (.ifCond .gt off, 3)) (ht : (pc : Int) + off = (tgt : Int)) (ha : R32 a) (kt : 0 < a → Y p l e s m below meth c b g tgt lv st h) (kf : a ≤ 0 → Y p l e s m below meth c b g (pc + 3) lv st h) : Y p l e s m below meth c b g pc lv (vi a :: st) h := by
  intro H locs ls X G
  refine lv_if_gt K9.1.1 K9.1.2.1 d ht (fun q => ?_) (fun q => ?_)
  · exact kt ((iI_lt r32_0 ha).mp q)  H locs ls X G
  · exact kf (by have := mt (iI_lt r32_0 ha).mpr q; omega)  H locs ls X G
theorem y_goto {p : Program} {l : Launch} {e : Env} {s : State} {m : MethodId} {below : List Frame} {meth : Method} {c : Code} {b L9 : Nat} {xs : Nat → Int32} {g : GG} {pc : Nat} {lv st : List AV} {h : HH} (K9 : LC p s m meth c b L9 xs g) {off : Int} (tgt : Nat) (d : decode code pc = .ok (.goto off, 3)) (ht : (pc : Int) + off = (tgt : Int)) (k : Y p l e s m below meth c b g tgt lv st h) : Y p l e s m below meth c b g pc lv st h := by
  intro H locs ls X G
  refine lv_goto K9.1.1 K9.1.2.1 d ht ?_
  exact k  H locs ls X G
theorem y_istore {p : Program} {l : Launch} {e : Env} {s : State} {m : MethodId} {below : List Frame} {meth : Method} {c : Code} {b L9 : Nat} {xs : Nat → Int32} {g : GG} {pc : Nat} {lv st : List AV} {h : HH} (K9 : LC p s m meth c b L9 xs g) {n : Nat} {x : Int} (d : decode code pc = .ok (.istore n, 2)) (hn : n < 8) (hg : nlng lv n = true) (k : Y p l e s m below meth c b g (pc + 2) (lv.set n (vi x)) st h) : Y p l e s m below meth c b g pc lv (vi x :: st) h := by
  intro H locs ls X G
  refine lv_istore K9.1.1 K9.1.2.1 d G.2 hn rfl (fun ls' h' => ?_)
  exact k  H locs ls' X (lrep_set1 (a := vi x) G hg (fun _ h => h) h')
theorem y_istore_n {p : Program} {l : Launch} {e : Env} {s : State} {m : MethodId} {below : List Frame} {meth : Method} {c : Code} {b L9 : Nat} {xs : Nat → Int32} {g : GG} {pc : Nat} {lv st : List AV} {h : HH} (K9 : LC p s m meth c b L9 xs g) {n : Fin 4} {x : Int} (d : decode code pc = .ok (.istore_n n, 1)) (hn : (n : Nat) < 8) (hg : nlng lv (n : Nat) = true) (k : Y p l e s m below meth c b g (pc + 1) (lv.set (n : Nat) (vi x)) st h) : Y p l e s m below meth c b g pc lv (vi x :: st) h := by
  intro H locs ls X G
  refine lv_istore_n K9.1.1 K9.1.2.1 d rfl G.2 hn rfl (fun ls' h' => ?_)
  exact k  H locs ls' X (lrep_set1 (a := vi x) G hg (fun _ h => h) h')
theorem y_iadd {p : Program} {l : Launch} {e : Env} {s : State} {m : MethodId} {below : List Frame} {meth : Method} {c : Code} {b L9 : Nat} {xs : Nat → Int32} {g : GG} {pc : Nat} {lv st : List AV} {h : HH} (K9 : LC p s m meth c b L9 xs g) {x y : Int} (d : decode code pc = .ok (.iadd, 1))  (k : Y p l e s m below meth c b g (pc + 1) lv (vi (x + y) :: st) h) : Y p l e s m below meth c b g pc lv (vi y :: vi x :: st) h := by
  intro H locs ls X G
  refine lv_iadd K9.1.1 K9.1.2.1 d ?_
  rw [iI_add]
  exact k  H locs ls X G
theorem y_ishr {p : Program} {l : Launch} {e : Env} {s : State} {m : MethodId} {below : List Frame} {meth : Method} {c : Code} {b L9 : Nat} {xs : Nat → Int32} {g : GG} {pc : Nat} {lv st : List AV} {h : HH} (K9 : LC p s m meth c b L9 xs g) {x y : Int} (d : decode code pc = .ok (.ishr, 1))  (k : Y p l e s m below meth c b g (pc + 1) lv (vi (ishr x y) :: st) h) : Y p l e s m below meth c b g pc lv (vi y :: vi x :: st) h := by
  intro H locs ls X G
  refine lv_ishr K9.1.1 K9.1.2.1 d ?_
  rw [show (iI x >>> (iI y &&& 31) : Int32) = iI (ishr x y) from (iI_of _).symm]
  exact k  H locs ls X G
theorem y_iand {p : Program} {l : Launch} {e : Env} {s : State} {m : MethodId} {below : List Frame} {meth : Method} {c : Code} {b L9 : Nat} {xs : Nat → Int32} {g : GG} {pc : Nat} {lv st : List AV} {h : HH} (K9 : LC p s m meth c b L9 xs g) {x y : Int} (d : decode code pc = .ok (.iand, 1))  (k : Y p l e s m below meth c b g (pc + 1) lv (vi (iand x y) :: st) h) : Y p l e s m below meth c b g pc lv (vi y :: vi x :: st) h := by
  intro H locs ls X G
  refine lv_iand K9.1.1 K9.1.2.1 d ?_
  rw [show (iI x &&& iI y : Int32) = iI (iand x y) from (iI_of _).symm]
  exact k  H locs ls X G
theorem y_iinc {p : Program} {l : Launch} {e : Env} {s : State} {m : MethodId} {below : List Frame} {meth : Method} {c : Code} {b L9 : Nat} {xs : Nat → Int32} {g : GG} {pc : Nat} {lv st : List AV} {h : HH} (K9 : LC p s m meth c b L9 xs g) {n : Nat} {x z : Int} (d : decode code pc = .ok (.iinc n z, 3)) (hv : lv[n]? = some (vi x)) (hn : n < 8) (hg : nlng lv n = true) (k : Y p l e s m below meth c b g (pc + 3) (lv.set n (vi (x + z))) st h) : Y p l e s m below meth c b g pc lv st h := by
  intro H locs ls X G
  have h2 : lv_has ls 8 ((n, Value.int (iI x)) :: lp g 0 lv) := ⟨G.2.1, G.2.2.1, fun q hq => by
    rcases List.mem_cons.mp hq with e | e
    · rw [e]; exact lrep_get G hv rfl
    · exact G.2.2.2 q e⟩
  refine lv_iinc (v := iI (x + z)) K9.1.1 K9.1.2.1 d h2 (k := 0) rfl (iI_add x z) hn rfl (fun ls' h' => ?_)
  exact k  H locs ls' X (lrep_set1 (a := vi (x + z)) G hg (fun _ h => List.mem_cons_of_mem _ h) h')
theorem y_iaload {p : Program} {l : Launch} {e : Env} {s : State} {m : MethodId} {below : List Frame} {meth : Method} {c : Code} {b L9 : Nat} {xs : Nat → Int32} {g : GG} {pc : Nat} {lv st : List AV} {h : HH} (K9 : LC p s m meth c b L9 xs g) {k n : Nat} {i : Int} {fl : List (Nat × Nat)} (d : decode code pc = .ok (.iaload, 1)) (hk : k < 50) (hs : shp k = (1, n, fl)) (h0 : 0 ≤ i) (h1 : i < n) (hn : n < 2147483648) (kk : R32 (h k i.toNat) → Y p l e s m below meth c b g (pc + 1) lv (vi (h k i.toNat) :: st) h) : Y p l e s m below meth c b g pc lv (vi i :: vr k :: st) h := by
  intro H locs ls X G
  have he := wl_get (g := g) (h := h) hk
  unfold ct cof at he
  rw [hs] at he
  refine va_iald K9.1.1 K9.1.2.1 K9.2.1 X.1 k 0 he rfl (iI_in h0 h1 hn) d ?_
  rw [iI_cl (by omega) h0]
  exact kk (X.2.2.2.2.1 k (by rw [hs]; first | exact Or.inl rfl | exact Or.inr rfl) _)  H locs ls X G
theorem y_forget {p : Program} {l : Launch} {e : Env} {s : State} {m : MethodId} {below : List Frame} {meth : Method} {c : Code} {b : Nat} {g : GG} {pc : Nat} {lv st : List AV} {h : HH} (i : Nat) (k : Y p l e s m below meth c b g pc (lv.set i vx) st h) : Y p l e s m below meth c b g pc lv st h := by
  intro H locs ls X G
  exact k H locs ls X (lrep_forget G)
theorem y_ret {p : Program} {l : Launch} {e : Env} {s : State} {m : MethodId} {below : List Frame} {meth : Method} {c : Code} {b L9 : Nat} {xs : Nat → Int32} {g : GG} {pc : Nat} {lv : List AV} {h : HH} (K9 : LC p s m meth c b L9 xs g) (d : decode code pc = .ok (.ireturn, 1)) : Y p l e s m below meth c b g pc lv [vi 1] h := by
  intro H locs ls X G
  obtain ⟨hx, hb, hr, hml, hown, hts, hX, hbl, hlocks, hgv⟩ := id K9.1
  refine va_forget (fun q hq => AA_new K9 (X.2.2.1.2.2 q hq)) ?_
  exact lw_ret hx hb hr hlocks d
theorem y_back {p : Program} {l : Launch} {e : Env} {s : State} {m : MethodId} {below : List Frame} {meth : Method} {c : Code} {b : Nat} {g : GG} {pc : Nat} {lv st : List AV} {h : HH} {st0 : List AV} {Q' : Option AV → HH → Prop} {a : Array Value} {H : Heap} {locs : List Loc} {ls : Array Slot} (X : Hx g h s H locs) (G : lrep g 8 lv ls)
    (hr : va_Run p l e room_1 s m #[Value.ref b] below meth c H locs 600000 7302250 0 0 (F0 m pc ls (st0.map (cv g))) (st.map (cv g)) (QQ g Q' a) (AA g H.size))
    (k : ∀ (r : Option AV) (h' : HH), Q' r h' → Y p l e s m below meth c b g (pc + 3) lv (r.toList ++ st) h') :
    W p l e room_1 s m #[Value.ref b] below meth c H locs 600000 7302250 (lw_Z below #[Value.ref b] s) (F0 m pc ls (st0.map (cv g))) := by
  intro T hT Y
  obtain ⟨v, st₀, t, T', L', h0, Y', hL, e1, e2, ⟨⟨r, h', hv, hq, hP, hK, hRR⟩, hz, hk⟩, hst⟩ := hr T hT Y
  cases hv
  have hsz : s.heap.size ≤ H.size := X.2.2.1.1
  have hb := k r h' hq T'.heap (locs ++ L') ls ⟨by rw [e1]; exact hP, AA_h X.2.1, ?_, hRR⟩ G T' rfl Y'
  · obtain ⟨t2, a1, b1⟩ := hb
    refine ⟨t2, hst t2 ?_, b1⟩
    have e3 : (r.toList ++ st).map (cv g) = (r.map (cv g)).toList ++ st.map (cv g) := by
      rw [List.map_append]
      cases r <;> rfl
    rw [e3] at a1
    exact a1
  · rw [h0] at hz hk
    refine ⟨Nat.le_trans hsz (by rw [e1]; exact hz), fun q h1 h2 => ?_, fun q hq => ?_⟩
    · rw [e1, hk q (Nat.lt_of_lt_of_le h1 hsz) (fun z => h2 (AA_mono hsz q z))]
      exact X.2.2.1.2.1 q h1 h2
    · rcases List.mem_append.mp hq with h | h
      · exact X.2.2.1.2.2 q h
      · exact AA_mono hsz _ (hL q h)
theorem y_cB {s : State} {M' : MD} {n idx : Nat} (hT : TgB M' n) {args : Array Value} (hts : ∀ w ∈ lw_ok, w.before args s = true) (hl : Cond.methodLink RL idx (my M') ∈ lw_ok) (hR : mf M' + 1 ≤ 9 ∧ 8 + (mn M' + 11) + ml M' ≤ 348) :
    CallB room_1 s args RL idx (my M') (mb M') (mn M') (mr M') (wsM M') (rmM M') 0 0 n := by
  refine ⟨rfl, rfl, hR.1, hR.2, ws_pay hT hts, List.mem_cons_self, hts _ hT.2.2.2.2, ?_, ⟨hT.2.2.1.1, hT.2.2.1.2.1⟩, fun sig h => ?_, hts _ hl⟩
  · rw [hT.2.1]; exact hts _ hT.2.2.2.1
  · have h2 := hT.2.2.1.2.2
    rw [h] at h2
    exact (Option.some.inj h2).symm
set_option maxHeartbeats 4000000 in
theorem y_callV {p : Program} {l : Launch} {e : Env} {s : State} {m : MethodId} {below : List Frame} {meth : Method} {c : Code} {b L : Nat} {xs : Nat → Int32} {g : GG} {pc : Nat} {lv st : List AV} {h : HH} (K9 : LC p s m meth c b L xs g) {M' : MD} {n idx bb : Nat} {Q' : Option AV → HH → Prop} (As : List AV) (hT : TgV M' n) (hl : Cond.methodLink RL idx (my M') ∈ lw_ok) (d : decode code pc = .ok (.invokevirtual idx, 3)) (hb : rcv bb (mo M')) (hR : mf M' + 1 ≤ 9 ∧ 8 + (mn M' + 11) + ml M' ≤ 348) (hn : As.length = n) (hst : (st.map avc).sum ≤ 8) {st0 : List AV} (hs0 : st0 = As.reverse ++ vr bb :: st)
    (C : Cn M' g (vr bb :: As) h Q') (k : ∀ (r : Option AV) (h' : HH), Q' r h' → Y p l e s m below meth c b g (pc + 3) lv (r.toList ++ st) h') : Y p l e s m below meth c b g pc lv st0 h := by
  intro H locs ls X G
  subst hs0
  obtain ⟨⟨hx, hbb, hr, hml, hown, hts0, hX, hbl, hlocks, hgv⟩, hK, hN, hg, hgb, hSX⟩ := id K9
  have hts : ∀ w ∈ lw_ok, w.before #[Value.ref b] s = true := fun w hw => hts0 w (lw_ok_tbl w hw)
  have hown : s.vm.findClass RL = some m.cls := hown
  refine y_back (a := ((vr bb :: As).map (cv g)).toArray) X G ?_ k
  refine va_runV (Ts := lw_ok) (own := RL) (C := mo M') (index := idx) (y := my M') (bytes := mb M') (maxL := mn M') (ret := mr M') (ws := wsM M') (rm := rmM M') (mc := 0) (ms := 0) (n := n) (nL := 8) (cc := code) (b := g.2.2 bb) (As := As.map (cv g)) ⟨hx, hbb, hml, hown, hts⟩ (C l H.size) ⟨y_cB hT.1 hts hl hR, hts _ hT.2.1, hts _ hT.2.2⟩ ⟨pc_blind, rcv_cell hb hK X, fun U hU hW => pc_start (av := vr bb :: As) hK ⟨hN, hSX⟩ X hU hW⟩ rfl (by rw [List.length_map]; exact hn) G.2.1 ?_ (lv_room (by rw [avc_sum]; exact hst)) d ⟨Nat.le_refl _, Nat.le_refl _⟩
  show (As.reverse ++ vr bb :: st).map (cv g) = _
  rw [List.map_append, List.map_reverse, List.map_cons]
  rfl
set_option maxHeartbeats 4000000 in
theorem y_callS {p : Program} {l : Launch} {e : Env} {s : State} {m : MethodId} {below : List Frame} {meth : Method} {c : Code} {b L : Nat} {xs : Nat → Int32} {g : GG} {pc : Nat} {lv st : List AV} {h : HH} (K9 : LC p s m meth c b L xs g) {M' : MD} {n idx : Nat} {Q' : Option AV → HH → Prop} (As : List AV) (hT : TgS M' n) (hl : Cond.methodLink RL idx (my M') ∈ lw_ok) (d : decode code pc = .ok (.invokestatic idx, 3)) (hR : mf M' + 1 ≤ 9 ∧ 8 + (mn M' + 11) + ml M' ≤ 348) (hn : As.length = n) (hst : (st.map avc).sum ≤ 8) {st0 : List AV} (hs0 : st0 = As.reverse ++ st)
    (C : Cn M' g (As) h Q') (k : ∀ (r : Option AV) (h' : HH), Q' r h' → Y p l e s m below meth c b g (pc + 3) lv (r.toList ++ st) h') : Y p l e s m below meth c b g pc lv st0 h := by
  intro H locs ls X G
  subst hs0
  obtain ⟨⟨hx, hbb, hr, hml, hown, hts0, hX, hbl, hlocks, hgv⟩, hK, hN, hg, hgb, hSX⟩ := id K9
  have hts : ∀ w ∈ lw_ok, w.before #[Value.ref b] s = true := fun w hw => hts0 w (lw_ok_tbl w hw)
  have hown : s.vm.findClass RL = some m.cls := hown
  refine y_back (a := ((As).map (cv g)).toArray) X G ?_ k
  refine va_runS (Ts := lw_ok) (own := RL) (index := idx) (y := my M') (bytes := mb M') (maxL := mn M') (ret := mr M') (ws := wsM M') (rm := rmM M') (mc := 0) (ms := 0) (n := n) (nL := 8) (cc := code) (As := As.map (cv g)) ⟨hx, hbb, hml, hown, hts⟩ (C l H.size) ⟨y_cB hT.1 hts hl hR, hts _ hT.2⟩ ⟨pc_blind, fun U hU hW => pc_start (av := As) hK ⟨hN, hSX⟩ X hU hW⟩ rfl (by rw [List.length_map]; exact hn) G.2.1 ?_ (lv_room (by rw [avc_sum]; exact hst)) d ⟨Nat.le_refl _, Nat.le_refl _⟩
  show (As.reverse ++ st).map (cv g) = _
  rw [List.map_append, List.map_reverse]
theorem y_callV_I {p : Program} {l : Launch} {e : Env} {s : State} {m : MethodId} {below : List Frame} {meth : Method} {c : Code} {b L9 : Nat} {xs : Nat → Int32} {g : GG} {pc : Nat} {lv st : List AV} {h : HH} (K9 : LC p s m meth c b L9 xs g) {M' : MD} {n idx : Nat} {bb : Nat} {P : Int → HH → Prop} (As : List AV) (hT : TgV M' n) (hl : Cond.methodLink RL idx (my M') ∈ lw_ok) (d : decode code pc = .ok (.invokevirtual idx, 3)) (hb : rcv bb (mo M')) (hR : mf M' + 1 ≤ 9 ∧ 8 + (mn M' + 11) + ml M' ≤ 348) (hn : As.length = n) (hst : (st.map avc).sum ≤ 8) {st0 : List AV} (hs0 : st0 = As.reverse ++ vr bb :: st) (C : CnI M' g (vr bb :: As) h P) (k : ∀ z h', P z h' → Y p l e s m below meth c b g (pc + 3) lv (vi z :: st) h') : Y p l e s m below meth c b g pc lv st0 h := by
  refine y_callV K9 As hT hl d hb hR hn hst hs0 C (fun r h' q => ?_)
  obtain ⟨z, rfl, p9⟩ := q
  exact k z _ p9
theorem y_callV_V {p : Program} {l : Launch} {e : Env} {s : State} {m : MethodId} {below : List Frame} {meth : Method} {c : Code} {b L9 : Nat} {xs : Nat → Int32} {g : GG} {pc : Nat} {lv st : List AV} {h : HH} (K9 : LC p s m meth c b L9 xs g) {M' : MD} {n idx : Nat} {bb : Nat} {P : HH → Prop} (As : List AV) (hT : TgV M' n) (hl : Cond.methodLink RL idx (my M') ∈ lw_ok) (d : decode code pc = .ok (.invokevirtual idx, 3)) (hb : rcv bb (mo M')) (hR : mf M' + 1 ≤ 9 ∧ 8 + (mn M' + 11) + ml M' ≤ 348) (hn : As.length = n) (hst : (st.map avc).sum ≤ 8) {st0 : List AV} (hs0 : st0 = As.reverse ++ vr bb :: st) (C : CnV M' g (vr bb :: As) h P) (k : ∀ h', P h' → Y p l e s m below meth c b g (pc + 3) lv st h') : Y p l e s m below meth c b g pc lv st0 h := by
  refine y_callV K9 As hT hl d hb hR hn hst hs0 C (fun r h' q => ?_)
  obtain ⟨rfl, p9⟩ := q
  exact k _ p9
theorem y_callV_pI {p : Program} {l : Launch} {e : Env} {s : State} {m : MethodId} {below : List Frame} {meth : Method} {c : Code} {b L9 : Nat} {xs : Nat → Int32} {g : GG} {pc : Nat} {lv st : List AV} {h : HH} (K9 : LC p s m meth c b L9 xs g) {M' : MD} {n idx : Nat} {bb : Nat} {P : Int → Prop} (As : List AV) (hT : TgV M' n) (hl : Cond.methodLink RL idx (my M') ∈ lw_ok) (d : decode code pc = .ok (.invokevirtual idx, 3)) (hb : rcv bb (mo M')) (hR : mf M' + 1 ≤ 9 ∧ 8 + (mn M' + 11) + ml M' ≤ 348) (hn : As.length = n) (hst : (st.map avc).sum ≤ 8) {st0 : List AV} (hs0 : st0 = As.reverse ++ vr bb :: st) (C : CpI M' g (vr bb :: As) h P) (k : ∀ z, P z → Y p l e s m below meth c b g (pc + 3) lv (vi z :: st) h) : Y p l e s m below meth c b g pc lv st0 h := by
  refine y_callV K9 As hT hl d hb hR hn hst hs0 C (fun r h' q => ?_)
  obtain ⟨z, rfl, p9, rfl⟩ := q
  exact k z p9
theorem y_callV_eI {p : Program} {l : Launch} {e : Env} {s : State} {m : MethodId} {below : List Frame} {meth : Method} {c : Code} {b L9 : Nat} {xs : Nat → Int32} {g : GG} {pc : Nat} {lv st : List AV} {h : HH} (K9 : LC p s m meth c b L9 xs g) {M' : MD} {n idx : Nat} {bb : Nat} {z : Int} (As : List AV) (hT : TgV M' n) (hl : Cond.methodLink RL idx (my M') ∈ lw_ok) (d : decode code pc = .ok (.invokevirtual idx, 3)) (hb : rcv bb (mo M')) (hR : mf M' + 1 ≤ 9 ∧ 8 + (mn M' + 11) + ml M' ≤ 348) (hn : As.length = n) (hst : (st.map avc).sum ≤ 8) {st0 : List AV} (hs0 : st0 = As.reverse ++ vr bb :: st) (C : CeI M' g (vr bb :: As) h z) (k : Y p l e s m below meth c b g (pc + 3) lv (vi z :: st) h) : Y p l e s m below meth c b g pc lv st0 h := by
  refine y_callV K9 As hT hl d hb hR hn hst hs0 C (fun r h' q => ?_)
  obtain ⟨z, rfl, rfl, rfl⟩ := q
  exact k
theorem y_callS_I {p : Program} {l : Launch} {e : Env} {s : State} {m : MethodId} {below : List Frame} {meth : Method} {c : Code} {b L9 : Nat} {xs : Nat → Int32} {g : GG} {pc : Nat} {lv st : List AV} {h : HH} (K9 : LC p s m meth c b L9 xs g) {M' : MD} {n idx : Nat} {P : Int → HH → Prop} (As : List AV) (hT : TgS M' n) (hl : Cond.methodLink RL idx (my M') ∈ lw_ok) (d : decode code pc = .ok (.invokestatic idx, 3)) (hR : mf M' + 1 ≤ 9 ∧ 8 + (mn M' + 11) + ml M' ≤ 348) (hn : As.length = n) (hst : (st.map avc).sum ≤ 8) {st0 : List AV} (hs0 : st0 = As.reverse ++ st) (C : CnI M' g As h P) (k : ∀ z h', P z h' → Y p l e s m below meth c b g (pc + 3) lv (vi z :: st) h') : Y p l e s m below meth c b g pc lv st0 h := by
  refine y_callS K9 As hT hl d hR hn hst hs0 C (fun r h' q => ?_)
  obtain ⟨z, rfl, p9⟩ := q
  exact k z _ p9
theorem y_callS_V {p : Program} {l : Launch} {e : Env} {s : State} {m : MethodId} {below : List Frame} {meth : Method} {c : Code} {b L9 : Nat} {xs : Nat → Int32} {g : GG} {pc : Nat} {lv st : List AV} {h : HH} (K9 : LC p s m meth c b L9 xs g) {M' : MD} {n idx : Nat} {P : HH → Prop} (As : List AV) (hT : TgS M' n) (hl : Cond.methodLink RL idx (my M') ∈ lw_ok) (d : decode code pc = .ok (.invokestatic idx, 3)) (hR : mf M' + 1 ≤ 9 ∧ 8 + (mn M' + 11) + ml M' ≤ 348) (hn : As.length = n) (hst : (st.map avc).sum ≤ 8) {st0 : List AV} (hs0 : st0 = As.reverse ++ st) (C : CnV M' g As h P) (k : ∀ h', P h' → Y p l e s m below meth c b g (pc + 3) lv st h') : Y p l e s m below meth c b g pc lv st0 h := by
  refine y_callS K9 As hT hl d hR hn hst hs0 C (fun r h' q => ?_)
  obtain ⟨rfl, p9⟩ := q
  exact k _ p9
theorem y_callS_pI {p : Program} {l : Launch} {e : Env} {s : State} {m : MethodId} {below : List Frame} {meth : Method} {c : Code} {b L9 : Nat} {xs : Nat → Int32} {g : GG} {pc : Nat} {lv st : List AV} {h : HH} (K9 : LC p s m meth c b L9 xs g) {M' : MD} {n idx : Nat} {P : Int → Prop} (As : List AV) (hT : TgS M' n) (hl : Cond.methodLink RL idx (my M') ∈ lw_ok) (d : decode code pc = .ok (.invokestatic idx, 3)) (hR : mf M' + 1 ≤ 9 ∧ 8 + (mn M' + 11) + ml M' ≤ 348) (hn : As.length = n) (hst : (st.map avc).sum ≤ 8) {st0 : List AV} (hs0 : st0 = As.reverse ++ st) (C : CpI M' g As h P) (k : ∀ z, P z → Y p l e s m below meth c b g (pc + 3) lv (vi z :: st) h) : Y p l e s m below meth c b g pc lv st0 h := by
  refine y_callS K9 As hT hl d hR hn hst hs0 C (fun r h' q => ?_)
  obtain ⟨z, rfl, p9, rfl⟩ := q
  exact k z p9
theorem y_callS_eI {p : Program} {l : Launch} {e : Env} {s : State} {m : MethodId} {below : List Frame} {meth : Method} {c : Code} {b L9 : Nat} {xs : Nat → Int32} {g : GG} {pc : Nat} {lv st : List AV} {h : HH} (K9 : LC p s m meth c b L9 xs g) {M' : MD} {n idx : Nat} {z : Int} (As : List AV) (hT : TgS M' n) (hl : Cond.methodLink RL idx (my M') ∈ lw_ok) (d : decode code pc = .ok (.invokestatic idx, 3)) (hR : mf M' + 1 ≤ 9 ∧ 8 + (mn M' + 11) + ml M' ≤ 348) (hn : As.length = n) (hst : (st.map avc).sum ≤ 8) {st0 : List AV} (hs0 : st0 = As.reverse ++ st) (C : CeI M' g As h z) (k : Y p l e s m below meth c b g (pc + 3) lv (vi z :: st) h) : Y p l e s m below meth c b g pc lv st0 h := by
  refine y_callS K9 As hT hl d hR hn hst hs0 C (fun r h' q => ?_)
  obtain ⟨z, rfl, rfl, rfl⟩ := q
  exact k

/-! THE CLAIM OUT OF ONE WALK OF THE LAW'S BODY. Your part is whole_start (and what it stands on); all else here is the same for every law, but numbers. -/
def R_law : String := "ChainPartsLaw"
def lw_P (b : Addr) (xs : List Int32) (args : Array Value) (s : State) : Prop := args = #[.ref b] ∧ s.IntsAt b xs ∧ xs.length ≤ 2560 ∧ (Jvm.Cond.and given_1 narrow_1).before args s = true
/-- what a walk over the start with the record d0 says of its end, said of the start itself -/
theorem lw_closed {s t : State} {o : Outcome} {d0 : Drawn} {L : List Loc} {k n : Nat} (hd0 : s.drawn.sameBut d0 lw_cs) (hv : ∃ v, o = .returned v) (hW : (s.setDrawn d0).WarmedH t.vm) (hs : (s.setDrawn d0).sameButNew ({ t with vm := s.vm } : State) L k n) : State.butDraws s t lw_cs (fun t1 => Framed s o t1 L k n) := by
  have h2 : t.drawn = d0 := congrArg State.drawn hs.1
  refine ⟨⟨hv, hW, State.sameButNew.setDrawn hs s.drawn⟩, ?_, by decide⟩
  rw [h2]
  exact hd0
def lw_Q (_ : Array Value) (s : State) (o : Outcome) (t : State) : Prop := o = .returned (some (.int 1)) ∧ State.butDraws s t lw_cs (fun t1 => Framed s o t1 [] 600000 7302249)
def lw_Z (below : List Frame) (a : Array Value) (s : State) : State → Prop := fun t => ∃ o, t.status = .running ∧ Ended t below o ∧ lw_Q a s o t
/-- the law's own end, with 1 on the stack, nothing written that was there before, its room as the claim has it; d0: the record of draws at this point (at the entry s.drawn: begin with 'refine W.base ?_' and 'have hd0 := Drawn.sameBut.refl s.drawn lw_cs') -/
theorem lw_ret {p : Program} {l : Launch} {e : Env} {s : State} {m : MethodId} {below : List Frame} {meth : Method} {c : Code} {b : Nat} {d0 : Drawn} (hd0 : s.drawn.sameBut d0 lw_cs) (hx : p.tables.exec = Jvm.exec) (hb : c.code = code) (hr : meth.sig.returnType = ret) (hlocks : meth.locks = false) {pc : Nat} {H : Heap} {ls : Array Slot} (hdg : decode code pc = .ok (.ireturn, 1)) : W p l e room_1 (s.setDrawn d0) m #[Value.ref b] below meth c H [] 600000 7302249 (lw_Z below #[Value.ref b] s) (F0 m pc ls [.int 1]) := by
  intro T hT X
  obtain ⟨fs, hret, hrun, hended, hW, hframe⟩ := X.leave (v := some (.int 1)) (hlocks := hlocks) (fun h => by rw [hr] at h; cases h)
  have hmeth' : T.vm.method? m = some meth := X.method'
  refine ⟨T.setFrames fs, ?_, .returned (some (.int 1)), hrun, hended, rfl, lw_closed hd0 ⟨_, rfl⟩ hW hframe⟩
  jvm_step X.here [X.here.top, hx, hb, hdg, hmeth', hr, ret, narrow_b1]
  (try refine ⟨rfl, ?_⟩); (try refine ⟨rfl, ?_⟩)
  first | (intro acts; rw [hret _ acts rfl rfl rfl]) | rw [hret _ _ rfl rfl rfl]
  exact Steps.refl _
/-- what holds at the law's entry: the machine, the code, the tables' words (any of lw_tbl by 'hts w (by decide +kernel)'), the script of L ints xs at the cell b, what the Statement gives of the start (any of its parts by flat_of_before) -/
def lw_At (p : Program) (s : State) (m : MethodId) (meth : Method) (c : Code) (b L : Nat) (xs : Nat → Int32) : Prop :=
  p.tables.exec = Jvm.exec ∧ c.code = code ∧ meth.sig.returnType = ret ∧ c.maxLocals = 4 ∧ s.vm.findClass R_law = some m.cls ∧ (∀ w ∈ lw_tbl, w.before #[Value.ref b] s = true) ∧ va_X b L xs s s.heap ∧ b < s.heap.size ∧ meth.locks = false ∧ (Jvm.Cond.and given_1 narrow_1).before #[Value.ref b] s = true
/-! THE LAW'S OWN FRAME: the script is the cell 60 of its small world -/
def LC (p : Program) (s : State) (m : MethodId) (meth : Method) (c : Code) (b L : Nat) (xs : Nat → Int32) (g : GG) : Prop := lw_At p s m meth c b L xs ∧ va_K g.1 vwCl (tysOf g) s ∧ NW s ∧ (∀ k, k < 60 → s.heap.size ≤ g.2.2 k) ∧ g.2.2 60 = b
def Y (p : Program) (l : Launch) (e : Env) (s : State) (m : MethodId) (below : List Frame) (meth : Method) (c : Code) (b : Nat) (g : GG) (pc : Nat) (lv st : List AV) (h : HH) : Prop := ∀ (H : Heap) (locs : List Loc) (ls : Array Slot), Hx g h s H locs → lrep g 4 lv ls → W p l e room_1 s m #[Value.ref b] below meth c H locs 600000 7302249 (lw_Z below #[Value.ref b] s) (F0 m pc ls (st.map (cv g)))
theorem AA_new {p : Program} {s : State} {m : MethodId} {meth : Method} {c : Code} {b L : Nat} {xs : Nat → Int32} {g : GG} {q : Nat} (K : LC p s m meth c b L xs g) (hq : AA g s.heap.size q) : s.heap.size ≤ q := by
  rcases hq with ⟨k, hk, rfl⟩ | hq
  · exact K.2.2.2.1 k hk
  · exact hq
theorem b_old {p : Program} {s : State} {m : MethodId} {meth : Method} {c : Code} {b L : Nat} {xs : Nat → Int32} {g : GG} (K : LC p s m meth c b L xs g) : ¬ AA g s.heap.size b := fun q => Nat.lt_irrefl _ (Nat.lt_of_lt_of_le K.1.2.2.2.2.2.2.2.1 (AA_new K q))
theorem y_aload_n {p : Program} {l : Launch} {e : Env} {s : State} {m : MethodId} {below : List Frame} {meth : Method} {c : Code} {b L : Nat} {xs : Nat → Int32} {g : GG} {pc : Nat} {lv st : List AV} {h : HH} (K : LC p s m meth c b L xs g) {n : Fin 4} {x : Nat} (d : decode code pc = .ok (.aload_n n, 1)) (hv : lv[(n : Nat)]? = some (vr x)) (k : Y p l e s m below meth c b g (pc + 1) lv (vr x :: st) h) : Y p l e s m below meth c b g pc lv st h := by
  intro H locs ls X G
  refine lv_aload_n K.1.1 K.1.2.1 d rfl (lrep_get G hv rfl) ?_
  exact k H locs ls X G
theorem y_iload_n {p : Program} {l : Launch} {e : Env} {s : State} {m : MethodId} {below : List Frame} {meth : Method} {c : Code} {b L : Nat} {xs : Nat → Int32} {g : GG} {pc : Nat} {lv st : List AV} {h : HH} (K : LC p s m meth c b L xs g) {n : Fin 4} {x : Int} (d : decode code pc = .ok (.iload_n n, 1)) (hv : lv[(n : Nat)]? = some (vi x)) (k : Y p l e s m below meth c b g (pc + 1) lv (vi x :: st) h) : Y p l e s m below meth c b g pc lv st h := by
  intro H locs ls X G
  refine lv_iload_n K.1.1 K.1.2.1 d rfl (lrep_get G hv rfl) ?_
  exact k H locs ls X G
theorem y_iconst {p : Program} {l : Launch} {e : Env} {s : State} {m : MethodId} {below : List Frame} {meth : Method} {c : Code} {b L : Nat} {xs : Nat → Int32} {g : GG} {pc : Nat} {lv st : List AV} {h : HH} (K : LC p s m meth c b L xs g) {n : Int} (d : decode code pc = .ok (.iconst n, 1)) (k : Y p l e s m below meth c b g (pc + 1) lv (vi n :: st) h) : Y p l e s m below meth c b g pc lv st h := by
  intro H locs ls X G
  refine lv_iconst (v := iI n) K.1.1 K.1.2.1 d rfl ?_
  exact k H locs ls X G
theorem y_bipush {p : Program} {l : Launch} {e : Env} {s : State} {m : MethodId} {below : List Frame} {meth : Method} {c : Code} {b L : Nat} {xs : Nat → Int32} {g : GG} {pc : Nat} {lv st : List AV} {h : HH} (K : LC p s m meth c b L xs g) {n : Int} (d : decode code pc = .ok (.bipush n, 2)) (hv : (Int8.ofInt n).toInt32 = iI n) (k : Y p l e s m below meth c b g (pc + 2) lv (vi n :: st) h) : Y p l e s m below meth c b g pc lv st h := by
  intro H locs ls X G
  refine lv_bipush (v := iI n) K.1.1 K.1.2.1 d hv ?_
  exact k H locs ls X G
theorem y_iadd {p : Program} {l : Launch} {e : Env} {s : State} {m : MethodId} {below : List Frame} {meth : Method} {c : Code} {b L : Nat} {xs : Nat → Int32} {g : GG} {pc : Nat} {lv st : List AV} {h : HH} (K : LC p s m meth c b L xs g) {x y : Int} (d : decode code pc = .ok (.iadd, 1)) (k : Y p l e s m below meth c b g (pc + 1) lv (vi (x + y) :: st) h) : Y p l e s m below meth c b g pc lv (vi y :: vi x :: st) h := by
  intro H locs ls X G
  refine lv_iadd K.1.1 K.1.2.1 d ?_
  rw [iI_add]
  exact k H locs ls X G
theorem y_isub {p : Program} {l : Launch} {e : Env} {s : State} {m : MethodId} {below : List Frame} {meth : Method} {c : Code} {b L : Nat} {xs : Nat → Int32} {g : GG} {pc : Nat} {lv st : List AV} {h : HH} (K : LC p s m meth c b L xs g) {x y : Int} (d : decode code pc = .ok (.isub, 1)) (k : Y p l e s m below meth c b g (pc + 1) lv (vi (x - y) :: st) h) : Y p l e s m below meth c b g pc lv (vi y :: vi x :: st) h := by
  intro H locs ls X G
  refine lv_isub K.1.1 K.1.2.1 d ?_
  rw [iI_sub]
  exact k H locs ls X G
theorem y_sld {p : Program} {l : Launch} {e : Env} {s : State} {m : MethodId} {below : List Frame} {meth : Method} {c : Code} {b L : Nat} {xs : Nat → Int32} {g : GG} {pc : Nat} {lv st : List AV} {h : HH} (K : LC p s m meth c b L xs g) (hL : L ≤ 2560) {i : Nat} {z : Int} (hz : z = (i : Int)) (hi : i < L) (d : decode code pc = .ok (.iaload, 1)) (k : Y p l e s m below meth c b g (pc + 1) lv (vi (xs i).toInt :: st) h) : Y p l e s m below meth c b g pc lv (vi z :: vr 60 :: st) h := by
  subst hz
  intro H locs ls X G
  have hS := X.2.2.1
  have e : cv g (vr 60) = .ref b := congrArg Value.ref K.2.2.2.2
  rw [List.map_cons, List.map_cons, e]
  have r : R32 (i : Int) := by omega
  refine va_sld K.1.1 K.1.2.1 K.1.2.2.2.2.2.2.1 K.1.2.2.2.2.2.2.2.1 (b_old K) hS (iI_in (a := (i : Int)) (by omega) (by omega) (by omega)) d ?_
  have e2 : xs ((iI (i : Int)).toNatClampNeg) = iI (xs i).toInt := by rw [iI_cl r (by omega), iI_of]; rfl
  rw [e2]
  exact k H locs ls X G
theorem y_slen {p : Program} {l : Launch} {e : Env} {s : State} {m : MethodId} {below : List Frame} {meth : Method} {c : Code} {b L : Nat} {xs : Nat → Int32} {g : GG} {pc : Nat} {lv st : List AV} {h : HH} (K : LC p s m meth c b L xs g) (d : decode code pc = .ok (.arraylength, 1)) (k : Y p l e s m below meth c b g (pc + 1) lv (vi (L : Int) :: st) h) : Y p l e s m below meth c b g pc lv (vr 60 :: st) h := by
  intro H locs ls X G
  have hS := X.2.2.1
  have e : cv g (vr 60) = .ref b := congrArg Value.ref K.2.2.2.2
  rw [List.map_cons, e]
  refine va_slen K.1.1 K.1.2.1 K.1.2.2.2.2.2.2.1 K.1.2.2.2.2.2.2.2.1 (b_old K) hS d ?_
  exact k H locs ls X G
/-- script[i + j] -/
theorem y_arg {p : Program} {l : Launch} {e : Env} {s : State} {m : MethodId} {below : List Frame} {meth : Method} {c : Code} {b L : Nat} {xs : Nat → Int32} {g : GG} {pc : Nat} {st : List AV} {h : HH} (K : LC p s m meth c b L xs g) (hL : L ≤ 2560) {i : Nat} {j : Nat} (d0 : decode code pc = .ok (.aload_n 0, 1)) (d1 : decode code (pc + 1) = .ok (.iload_n 3, 1)) (d2 : decode code (pc + 2) = .ok (.iconst (j : Int), 1)) (d3 : decode code (pc + 3) = .ok (.iadd, 1)) (d4 : decode code (pc + 4) = .ok (.iaload, 1)) (hi : i + j < L) (k : Y p l e s m below meth c b g (pc + 5) [vr 60, vr 0, vr 47, vi (i : Int)] (vi (xs (i + j)).toInt :: st) h) : Y p l e s m below meth c b g pc [vr 60, vr 0, vr 47, vi (i : Int)] st h := by
  refine y_aload_n K (n := 0) d0 rfl ?_
  refine y_iload_n K (n := 3) d1 rfl ?_
  refine y_iconst K d2 ?_
  refine y_iadd K d3 ?_
  exact y_sld K hL (i := i + j) (by omega) hi d4 k
theorem y_icmp_gt {p : Program} {l : Launch} {e : Env} {s : State} {m : MethodId} {below : List Frame} {meth : Method} {c : Code} {b L : Nat} {xs : Nat → Int32} {g : GG} {pc : Nat} {lv st : List AV} {h : HH} (K : LC p s m meth c b L xs g) {x y off : Int} (tgt : Nat) (d : decode code pc = .ok (.if_icmp .gt off, 3)) (ht : (pc : Int) + off = (tgt : Int)) (ha : R32 x) (hb : R32 y) (kt : y < x → Y p l e s m below meth c b g tgt lv st h) (kf : x ≤ y → Y p l e s m below meth c b g (pc + 3) lv st h) : Y p l e s m below meth c b g pc lv (vi y :: vi x :: st) h := by
  intro H locs ls X G
  refine lv_icmp_gt K.1.1 K.1.2.1 d ht (fun q => ?_) (fun q => ?_)
  · exact kt ((iI_lt hb ha).mp q) H locs ls X G
  · exact kf (by have := mt (iI_lt hb ha).mpr q; omega) H locs ls X G
/-- both answered the same -/
theorem y_eqI {p : Program} {l : Launch} {e : Env} {s : State} {m : MethodId} {below : List Frame} {meth : Method} {c : Code} {b L : Nat} {xs : Nat → Int32} {g : GG} {pc : Nat} {lv st : List AV} {h : HH} (K : LC p s m meth c b L xs g) {z off : Int} (d : decode code pc = .ok (.if_icmp .eq off, 3)) (ht : (pc : Int) + off = ((1115 : Nat) : Int)) (k : Y p l e s m below meth c b g 1115 lv st h) : Y p l e s m below meth c b g pc lv (vi z :: vi z :: st) h := by
  intro H locs ls X G
  refine lv_icmp_eq (tgt := 1115) K.1.1 K.1.2.1 d ht (fun q => ?_) (fun q => absurd rfl q)
  exact k H locs ls X G
theorem lg_self (x : Int64) : lg_cmp x x = 0 := by
  unfold lg_cmp
  rw [if_neg (Int64.lt_irrefl), if_pos rfl]
theorem y_eqL {p : Program} {l : Launch} {e : Env} {s : State} {m : MethodId} {below : List Frame} {meth : Method} {c : Code} {b L : Nat} {xs : Nat → Int32} {g : GG} {pc : Nat} {lv st : List AV} {h : HH} (K : LC p s m meth c b L xs g) {z off : Int} (d : decode code pc = .ok (.lcmp, 1)) (d1 : decode code (pc + 1) = .ok (.ifCond .eq off, 3)) (ht : ((pc + 1 : Nat) : Int) + off = ((1115 : Nat) : Int)) (k : Y p l e s m below meth c b g 1115 lv st h) : Y p l e s m below meth c b g pc lv (vl z :: vl z :: st) h := by
  intro H locs ls X G
  refine W.lcmp K.1.1 K.1.2.1 d ?_
  rw [lg_self]
  refine lv_if_eq (tgt := 1115) K.1.1 K.1.2.1 d1 ht (fun q => ?_) (fun q => absurd rfl q)
  exact k H locs ls X G
theorem y_iinc {p : Program} {l : Launch} {e : Env} {s : State} {m : MethodId} {below : List Frame} {meth : Method} {c : Code} {b L : Nat} {xs : Nat → Int32} {g : GG} {pc : Nat} {lv st : List AV} {h : HH} (K : LC p s m meth c b L xs g) {n : Nat} {x z : Int} (d : decode code pc = .ok (.iinc n z, 3)) (hv : lv[n]? = some (vi x)) (hn : n < 4) (hg : nlng lv n = true) (k : Y p l e s m below meth c b g (pc + 3) (lv.set n (vi (x + z))) st h) : Y p l e s m below meth c b g pc lv st h := by
  intro H locs ls X G
  have h2 : lv_has ls 4 ((n, Value.int (iI x)) :: lp g 0 lv) := ⟨G.2.1, G.2.2.1, fun q hq => by
    rcases List.mem_cons.mp hq with e | e
    · rw [e]; exact lrep_get G hv rfl
    · exact G.2.2.2 q e⟩
  refine lv_iinc (v := iI (x + z)) K.1.1 K.1.2.1 d h2 (k := 0) rfl (iI_add x z) hn rfl (fun ls' h' => ?_)
  exact k H locs ls' X (lrep_set1 (a := vi (x + z)) G hg (fun _ h => List.mem_cons_of_mem _ h) h')
theorem y_goto {p : Program} {l : Launch} {e : Env} {s : State} {m : MethodId} {below : List Frame} {meth : Method} {c : Code} {b L : Nat} {xs : Nat → Int32} {g : GG} {pc : Nat} {lv st : List AV} {h : HH} (K : LC p s m meth c b L xs g) {off : Int} (tgt : Nat) (d : decode code pc = .ok (.goto off, 3)) (ht : (pc : Int) + off = (tgt : Int)) (k : Y p l e s m below meth c b g tgt lv st h) : Y p l e s m below meth c b g pc lv st h := by
  intro H locs ls X G
  refine lv_goto K.1.1 K.1.2.1 d ht ?_
  exact k H locs ls X G
theorem y_end {p : Program} {l : Launch} {e : Env} {s : State} {m : MethodId} {below : List Frame} {meth : Method} {c : Code} {b L : Nat} {xs : Nat → Int32} {g : GG} {lv : List AV} {h : HH} (K : LC p s m meth c b L xs g) : Y p l e s m below meth c b g 1121 lv [] h := by
  intro H locs ls X G
  have K0 := K
  obtain ⟨⟨hx, hb, hr, hml, hown, hts, hX, hbl, hlocks, hgv⟩, hK, hN, hg, hgb⟩ := K0
  refine lv_iconst (v := 1) hx hb dL_law_1121 (by decide) ?_
  refine va_forget (fun q hq => AA_new K (X.2.2.1.2.2 q hq)) ?_
  refine W.base ?_
  exact lw_ret (Drawn.sameBut.refl s.drawn lw_cs) hx hb hr hlocks dL_law_1122
theorem y_back {p : Program} {l : Launch} {e : Env} {s : State} {m : MethodId} {below : List Frame} {meth : Method} {c : Code} {b : Nat} {g : GG} {pc : Nat} {lv st : List AV} {h : HH} {st0 : List AV} {Q' : Option AV → HH → Prop} {a : Array Value} {H : Heap} {locs : List Loc} {ls : Array Slot} (X : Hx g h s H locs) (G : lrep g 4 lv ls)
    (hr : va_Run p l e room_1 s m #[Value.ref b] below meth c H locs 600000 7302249 0 0 (F0 m pc ls (st0.map (cv g))) (st.map (cv g)) (QQ g Q' a) (AA g H.size))
    (k : ∀ (r : Option AV) (h' : HH), Q' r h' → Y p l e s m below meth c b g (pc + 3) lv (r.toList ++ st) h') :
    W p l e room_1 s m #[Value.ref b] below meth c H locs 600000 7302249 (lw_Z below #[Value.ref b] s) (F0 m pc ls (st0.map (cv g))) := by
  intro T hT Y
  obtain ⟨v, st₀, t, T', L', h0, Y', hL, e1, e2, ⟨⟨r, h', hv, hq, hP, hK, hRR⟩, hz, hk⟩, hst⟩ := hr T hT Y
  cases hv
  have hsz : s.heap.size ≤ H.size := X.2.2.1.1
  have hb := k r h' hq T'.heap (locs ++ L') ls ⟨by rw [e1]; exact hP, AA_h X.2.1, ?_, hRR⟩ G T' rfl Y'
  · obtain ⟨t2, a1, b1⟩ := hb
    refine ⟨t2, hst t2 ?_, b1⟩
    have e3 : (r.toList ++ st).map (cv g) = (r.map (cv g)).toList ++ st.map (cv g) := by
      rw [List.map_append]
      cases r <;> rfl
    rw [e3] at a1
    exact a1
  · rw [h0] at hz hk
    refine ⟨Nat.le_trans hsz (by rw [e1]; exact hz), fun q h1 h2 => ?_, fun q hq => ?_⟩
    · rw [e1, hk q (Nat.lt_of_lt_of_le h1 hsz) (fun z => h2 (AA_mono hsz q z))]
      exact X.2.2.1.2.1 q h1 h2
    · rcases List.mem_append.mp hq with h | h
      · exact X.2.2.1.2.2 q h
      · exact AA_mono hsz _ (hL q h)
theorem y_cB {s : State} {M' : MD} {n idx : Nat} (hT : TgB M' n) {args : Array Value} (hts : ∀ w ∈ lw_ok, w.before args s = true) (hl : Cond.methodLink RL idx (my M') ∈ lw_ok) (hR : mf M' + 1 ≤ 14 ∧ 8 + (mn M' + 11) + ml M' ≤ 636) :
    CallB room_1 s args RL idx (my M') (mb M') (mn M') (mr M') (wsM M') (rmM M') 0 0 n := by
  refine ⟨rfl, rfl, hR.1, hR.2, ws_pay hT hts, List.mem_cons_self, hts _ hT.2.2.2.2, ?_, ⟨hT.2.2.1.1, hT.2.2.1.2.1⟩, fun sig h => ?_, hts _ hl⟩
  · rw [hT.2.1]; exact hts _ hT.2.2.2.1
  · have h2 := hT.2.2.1.2.2
    rw [h] at h2
    exact (Option.some.inj h2).symm
set_option maxHeartbeats 4000000 in
theorem y_call {p : Program} {l : Launch} {e : Env} {s : State} {m : MethodId} {below : List Frame} {meth : Method} {c : Code} {b L : Nat} {xs : Nat → Int32} {g : GG} {pc : Nat} {lv st : List AV} {h : HH} (K : LC p s m meth c b L xs g) {M' : MD} {n idx bb : Nat} {Q' : Option AV → HH → Prop} (As : List AV) (hT : TgV M' n) (hl : Cond.methodLink RL idx (my M') ∈ lw_ok) (d : decode code pc = .ok (.invokevirtual idx, 3)) (hb : rcv bb (mo M')) (hR : mf M' + 1 ≤ 14 ∧ 8 + (mn M' + 11) + ml M' ≤ 636) (hn : As.length = n) (hst : (st.map avc).sum ≤ 8) {st0 : List AV} (hs0 : st0 = As.reverse ++ vr bb :: st)
    (C : Cn M' g (vr bb :: As) h Q') (k : ∀ (r : Option AV) (h' : HH), Q' r h' → Y p l e s m below meth c b g (pc + 3) lv (r.toList ++ st) h') : Y p l e s m below meth c b g pc lv st0 h := by
  intro H locs ls X G
  subst hs0
  obtain ⟨⟨hx, hbb, hr, hml, hown, hts0, hX, hbl, hlocks, hgv⟩, hK, hN, hg, hgb⟩ := id K
  have hts : ∀ w ∈ lw_ok, w.before #[Value.ref b] s = true := fun w hw => hts0 w (lw_ok_tbl w hw)
  have hown : s.vm.findClass RL = some m.cls := hown
  refine y_back (a := ((vr bb :: As).map (cv g)).toArray) X G ?_ k
  refine va_runV (Ts := lw_ok) (own := RL) (C := mo M') (index := idx) (y := my M') (bytes := mb M') (maxL := mn M') (ret := mr M') (ws := wsM M') (rm := rmM M') (mc := 0) (ms := 0) (n := n) (nL := 4) (cc := code) (b := g.2.2 bb) (As := As.map (cv g)) ⟨hx, hbb, hml, hown, hts⟩ (C l H.size) ⟨y_cB hT.1 hts hl hR, hts _ hT.2.1, hts _ hT.2.2⟩ ⟨pc_blind, rcv_cell hb hK X, fun U hU hW => pc_start (av := vr bb :: As) hK hN X hU hW⟩ rfl (by rw [List.length_map]; exact hn) G.2.1 ?_ (lv_room (by rw [avc_sum]; exact hst)) d ⟨Nat.le_refl _, Nat.le_refl _⟩
  show (As.reverse ++ vr bb :: st).map (cv g) = _
  rw [List.map_append, List.map_reverse, List.map_cons]
  rfl
theorem rcv0 : rcv 0 RX5 := ⟨by decide, rfl, _, _, rfl⟩
theorem rcv47 : rcv 47 RX6 := ⟨by decide, rfl, _, _, rfl⟩

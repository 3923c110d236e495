theorem z_iconst {M : MD} {g : GG} {pc : Nat} {lv st : List AV} {h : HH} {Q : Option AV → HH → Prop} {n : Int} (d : decode (mb M) pc = .ok (.iconst n, 1))  (k : Z M g (pc + 1) lv (vi n :: st) h Q) : Z M g pc lv (st) h Q := by
  intro p l e s m args below meth c F H locs ls X L
  refine lv_iconst (v := iI n) F.1 F.2.1 d rfl ?_
  exact k p l e s m args below meth c F H locs ls X L
theorem z_bipush {M : MD} {g : GG} {pc : Nat} {lv st : List AV} {h : HH} {Q : Option AV → HH → Prop} {n : Int} (d : decode (mb M) pc = .ok (.bipush n, 2)) (hv : (Int8.ofInt n).toInt32 = iI n) (k : Z M g (pc + 2) lv (vi n :: st) h Q) : Z M g pc lv (st) h Q := by
  intro p l e s m args below meth c F H locs ls X L
  refine lv_bipush (v := iI n) F.1 F.2.1 d hv ?_
  exact k p l e s m args below meth c F H locs ls X L
theorem z_sipush {M : MD} {g : GG} {pc : Nat} {lv st : List AV} {h : HH} {Q : Option AV → HH → Prop} {n : Int} (d : decode (mb M) pc = .ok (.sipush n, 3)) (hv : (Int16.ofInt n).toInt32 = iI n) (k : Z M g (pc + 3) lv (vi n :: st) h Q) : Z M g pc lv (st) h Q := by
  intro p l e s m args below meth c F H locs ls X L
  refine lv_sipush (v := iI n) F.1 F.2.1 d hv ?_
  exact k p l e s m args below meth c F H locs ls X L
theorem z_lconst {M : MD} {g : GG} {pc : Nat} {lv st : List AV} {h : HH} {Q : Option AV → HH → Prop} {n : Fin 2} {z : Int} (d : decode (mb M) pc = .ok (.lconst n, 1)) (hv : Int64.ofNat (n : Nat) = lI z) (k : Z M g (pc + 1) lv (vl z :: st) h Q) : Z M g pc lv (st) h Q := by
  intro p l e s m args below meth c F H locs ls X L
  refine lv_lconst (v := lI z) F.1 F.2.1 d hv ?_
  exact k p l e s m args below meth c F H locs ls X L
theorem z_ldc {M : MD} {g : GG} {pc : Nat} {lv st : List AV} {h : HH} {Q : Option AV → HH → Prop} {idx : Nat} (z : Int) {v : Int32} (d : decode (mb M) pc = .ok (.ldc idx, 2)) (hc : Cond.constant (mo M) idx v ∈ lw_ok) (hz : v = iI z) (k : Z M g (pc + 2) lv (vi z :: st) h Q) : Z M g pc lv (st) h Q := by
  intro p l e s m args below meth c F H locs ls X L
  refine lv_ldc (v := iI z) F.1 F.2.1 F.2.2.2.2.1 (by rw [← hz]; exact F.2.2.2.2.2.1 _ hc) d ?_
  exact k p l e s m args below meth c F H locs ls X L
theorem z_ldcw {M : MD} {g : GG} {pc : Nat} {lv st : List AV} {h : HH} {Q : Option AV → HH → Prop} {idx : Nat} (z : Int) {v : Int32} (d : decode (mb M) pc = .ok (.ldc_w idx, 3)) (hc : Cond.constant (mo M) idx v ∈ lw_ok) (hz : v = iI z) (k : Z M g (pc + 3) lv (vi z :: st) h Q) : Z M g pc lv (st) h Q := by
  intro p l e s m args below meth c F H locs ls X L
  refine lv_ldcw (v := iI z) F.1 F.2.1 F.2.2.2.2.1 (by rw [← hz]; exact F.2.2.2.2.2.1 _ hc) d ?_
  exact k p l e s m args below meth c F H locs ls X L
theorem z_ldc2 {M : MD} {g : GG} {pc : Nat} {lv st : List AV} {h : HH} {Q : Option AV → HH → Prop} {idx : Nat} (z : Int) {v : Int64} (d : decode (mb M) pc = .ok (.ldc2_w idx, 3)) (hc : Cond.constantLong (mo M) idx v ∈ lw_ok) (hz : v = lI z) (k : Z M g (pc + 3) lv (vl z :: st) h Q) : Z M g pc lv (st) h Q := by
  intro p l e s m args below meth c F H locs ls X L
  refine lv_ldc2 (v := lI z) F.1 F.2.1 F.2.2.2.2.1 (by rw [← hz]; exact F.2.2.2.2.2.1 _ hc) d ?_
  exact k p l e s m args below meth c F H locs ls X L
theorem z_ldcf {M : MD} {g : GG} {pc : Nat} {lv st : List AV} {h : HH} {Q : Option AV → HH → Prop} {idx : Nat} {v : UInt32} (d : decode (mb M) pc = .ok (.ldc idx, 2)) (hc : Cond.constantFloat (mo M) idx v ∈ lw_ok) (k : Z M g (pc + 2) lv (vf v :: st) h Q) : Z M g pc lv (st) h Q := by
  intro p l e s m args below meth c F H locs ls X L
  refine lv_ldcf (v := v) F.1 F.2.1 F.2.2.2.2.1 (F.2.2.2.2.2.1 _ hc) d ?_
  exact k p l e s m args below meth c F H locs ls X L
theorem z_fconst0 {M : MD} {g : GG} {pc : Nat} {lv st : List AV} {h : HH} {Q : Option AV → HH → Prop}  (d : decode (mb M) pc = .ok (.fconst 0, 1))  (k : Z M g (pc + 1) lv (vf FP.fconst0 :: st) h Q) : Z M g pc lv (st) h Q := by
  intro p l e s m args below meth c F H locs ls X L
  refine lv_fconst0 F.1 F.2.1 d ?_
  exact k p l e s m args below meth c F H locs ls X L
theorem z_iload {M : MD} {g : GG} {pc : Nat} {lv st : List AV} {h : HH} {Q : Option AV → HH → Prop} {n : Nat} {x : Int} (d : decode (mb M) pc = .ok (.iload n, 2)) (hv : lv[n]? = some (vi x)) (k : Z M g (pc + 2) lv (vi x :: st) h Q) : Z M g pc lv (st) h Q := by
  intro p l e s m args below meth c F H locs ls X L
  refine lv_iload F.1 F.2.1 d (lrep_get L hv rfl) ?_
  exact k p l e s m args below meth c F H locs ls X L
theorem z_iload_n {M : MD} {g : GG} {pc : Nat} {lv st : List AV} {h : HH} {Q : Option AV → HH → Prop} {n : Fin 4} {x : Int} (d : decode (mb M) pc = .ok (.iload_n n, 1)) (hv : lv[(n : Nat)]? = some (vi x)) (k : Z M g (pc + 1) lv (vi x :: st) h Q) : Z M g pc lv (st) h Q := by
  intro p l e s m args below meth c F H locs ls X L
  refine lv_iload_n F.1 F.2.1 d rfl (lrep_get L hv rfl) ?_
  exact k p l e s m args below meth c F H locs ls X L
theorem z_lload {M : MD} {g : GG} {pc : Nat} {lv st : List AV} {h : HH} {Q : Option AV → HH → Prop} {n : Nat} {x : Int} (d : decode (mb M) pc = .ok (.lload n, 2)) (hv : lv[n]? = some (vl x)) (k : Z M g (pc + 2) lv (vl x :: st) h Q) : Z M g pc lv (st) h Q := by
  intro p l e s m args below meth c F H locs ls X L
  refine lv_lload F.1 F.2.1 d (lrep_get L hv rfl) ?_
  exact k p l e s m args below meth c F H locs ls X L
theorem z_lload_n {M : MD} {g : GG} {pc : Nat} {lv st : List AV} {h : HH} {Q : Option AV → HH → Prop} {n : Fin 4} {x : Int} (d : decode (mb M) pc = .ok (.lload_n n, 1)) (hv : lv[(n : Nat)]? = some (vl x)) (k : Z M g (pc + 1) lv (vl x :: st) h Q) : Z M g pc lv (st) h Q := by
  intro p l e s m args below meth c F H locs ls X L
  refine lv_lload_n F.1 F.2.1 d rfl (lrep_get L hv rfl) ?_
  exact k p l e s m args below meth c F H locs ls X L
theorem z_aload {M : MD} {g : GG} {pc : Nat} {lv st : List AV} {h : HH} {Q : Option AV → HH → Prop} {n : Nat} {x : Nat} (d : decode (mb M) pc = .ok (.aload n, 2)) (hv : lv[n]? = some (vr x)) (k : Z M g (pc + 2) lv (vr x :: st) h Q) : Z M g pc lv (st) h Q := by
  intro p l e s m args below meth c F H locs ls X L
  refine lv_aload F.1 F.2.1 d (lrep_get L hv rfl) ?_
  exact k p l e s m args below meth c F H locs ls X L
theorem z_aload_n {M : MD} {g : GG} {pc : Nat} {lv st : List AV} {h : HH} {Q : Option AV → HH → Prop} {n : Fin 4} {x : Nat} (d : decode (mb M) pc = .ok (.aload_n n, 1)) (hv : lv[(n : Nat)]? = some (vr x)) (k : Z M g (pc + 1) lv (vr x :: st) h Q) : Z M g pc lv (st) h Q := by
  intro p l e s m args below meth c F H locs ls X L
  refine lv_aload_n F.1 F.2.1 d rfl (lrep_get L hv rfl) ?_
  exact k p l e s m args below meth c F H locs ls X L
theorem z_fload {M : MD} {g : GG} {pc : Nat} {lv st : List AV} {h : HH} {Q : Option AV → HH → Prop} {n : Nat} {x : UInt32} (d : decode (mb M) pc = .ok (.fload n, 2)) (hv : lv[n]? = some (vf x)) (k : Z M g (pc + 2) lv (vf x :: st) h Q) : Z M g pc lv (st) h Q := by
  intro p l e s m args below meth c F H locs ls X L
  refine lv_fload F.1 F.2.1 d (lrep_get L hv rfl) ?_
  exact k p l e s m args below meth c F H locs ls X L
theorem z_fload_n {M : MD} {g : GG} {pc : Nat} {lv st : List AV} {h : HH} {Q : Option AV → HH → Prop} {n : Fin 4} {x : UInt32} (d : decode (mb M) pc = .ok (.fload_n n, 1)) (hv : lv[(n : Nat)]? = some (vf x)) (k : Z M g (pc + 1) lv (vf x :: st) h Q) : Z M g pc lv (st) h Q := by
  intro p l e s m args below meth c F H locs ls X L
  refine lv_fload_n F.1 F.2.1 d rfl (lrep_get L hv rfl) ?_
  exact k p l e s m args below meth c F H locs ls X L
theorem z_istore {M : MD} {g : GG} {pc : Nat} {lv st : List AV} {h : HH} {Q : Option AV → HH → Prop} {n : Nat} {x : Int} (d : decode (mb M) pc = .ok (.istore n, 2)) (hn : n < mn M) (hg : nlng lv n = true) (k : Z M g (pc + 2) (lv.set n (vi x)) st h Q) : Z M g pc lv (vi x :: st) h Q := by
  intro p l e s m args below meth c F H locs ls X L
  refine lv_istore F.1 F.2.1 d L.2 hn rfl (fun ls' h' => ?_)
  exact k p l e s m args below meth c F H locs ls' X (lrep_set1 (a := vi x) L hg (fun _ h => h) h')
theorem z_istore_n {M : MD} {g : GG} {pc : Nat} {lv st : List AV} {h : HH} {Q : Option AV → HH → Prop} {n : Fin 4} {x : Int} (d : decode (mb M) pc = .ok (.istore_n n, 1)) (hn : (n : Nat) < mn M) (hg : nlng lv (n : Nat) = true) (k : Z M g (pc + 1) (lv.set (n : Nat) (vi x)) st h Q) : Z M g pc lv (vi x :: st) h Q := by
  intro p l e s m args below meth c F H locs ls X L
  refine lv_istore_n F.1 F.2.1 d rfl L.2 hn rfl (fun ls' h' => ?_)
  exact k p l e s m args below meth c F H locs ls' X (lrep_set1 (a := vi x) L hg (fun _ h => h) h')
theorem z_astore {M : MD} {g : GG} {pc : Nat} {lv st : List AV} {h : HH} {Q : Option AV → HH → Prop} {n : Nat} {x : Nat} (d : decode (mb M) pc = .ok (.astore n, 2)) (hn : n < mn M) (hg : nlng lv n = true) (k : Z M g (pc + 2) (lv.set n (vr x)) st h Q) : Z M g pc lv (vr x :: st) h Q := by
  intro p l e s m args below meth c F H locs ls X L
  refine lv_astore F.1 F.2.1 d L.2 hn rfl (fun ls' h' => ?_)
  exact k p l e s m args below meth c F H locs ls' X (lrep_set1 (a := vr x) L hg (fun _ h => h) h')
theorem z_astore_n {M : MD} {g : GG} {pc : Nat} {lv st : List AV} {h : HH} {Q : Option AV → HH → Prop} {n : Fin 4} {x : Nat} (d : decode (mb M) pc = .ok (.astore_n n, 1)) (hn : (n : Nat) < mn M) (hg : nlng lv (n : Nat) = true) (k : Z M g (pc + 1) (lv.set (n : Nat) (vr x)) st h Q) : Z M g pc lv (vr x :: st) h Q := by
  intro p l e s m args below meth c F H locs ls X L
  refine lv_astore_n F.1 F.2.1 d rfl L.2 hn rfl (fun ls' h' => ?_)
  exact k p l e s m args below meth c F H locs ls' X (lrep_set1 (a := vr x) L hg (fun _ h => h) h')
theorem z_fstore {M : MD} {g : GG} {pc : Nat} {lv st : List AV} {h : HH} {Q : Option AV → HH → Prop} {n : Nat} {x : UInt32} (d : decode (mb M) pc = .ok (.fstore n, 2)) (hn : n < mn M) (hg : nlng lv n = true) (k : Z M g (pc + 2) (lv.set n (vf x)) st h Q) : Z M g pc lv (vf x :: st) h Q := by
  intro p l e s m args below meth c F H locs ls X L
  refine lv_fstore F.1 F.2.1 d L.2 hn rfl (fun ls' h' => ?_)
  exact k p l e s m args below meth c F H locs ls' X (lrep_set1 (a := vf x) L hg (fun _ h => h) h')
theorem z_fstore_n {M : MD} {g : GG} {pc : Nat} {lv st : List AV} {h : HH} {Q : Option AV → HH → Prop} {n : Fin 4} {x : UInt32} (d : decode (mb M) pc = .ok (.fstore_n n, 1)) (hn : (n : Nat) < mn M) (hg : nlng lv (n : Nat) = true) (k : Z M g (pc + 1) (lv.set (n : Nat) (vf x)) st h Q) : Z M g pc lv (vf x :: st) h Q := by
  intro p l e s m args below meth c F H locs ls X L
  refine lv_fstore_n F.1 F.2.1 d rfl L.2 hn rfl (fun ls' h' => ?_)
  exact k p l e s m args below meth c F H locs ls' X (lrep_set1 (a := vf x) L hg (fun _ h => h) h')
theorem z_lstore {M : MD} {g : GG} {pc : Nat} {lv st : List AV} {h : HH} {Q : Option AV → HH → Prop} {n : Nat} {x : Int} (d : decode (mb M) pc = .ok (.lstore n, 2)) (hn : n + 1 < mn M) (hg : nlng lv n = true) (k : Z M g (pc + 2) ((lv.set n (vl x)).set (n + 1) vx) st h Q) : Z M g pc lv (vl x :: st) h Q := by
  intro p l e s m args below meth c F H locs ls X L
  refine lv_lstore F.1 F.2.1 d L.2 hn rfl (fun ls' h' => ?_)
  exact k p l e s m args below meth c F H locs ls' X (lrep_set2 (a := vl x) L hg h')
theorem z_lstore_n {M : MD} {g : GG} {pc : Nat} {lv st : List AV} {h : HH} {Q : Option AV → HH → Prop} {n : Fin 4} {x : Int} (d : decode (mb M) pc = .ok (.lstore_n n, 1)) (hn : (n : Nat) + 1 < mn M) (hg : nlng lv (n : Nat) = true) (k : Z M g (pc + 1) ((lv.set (n : Nat) (vl x)).set ((n : Nat) + 1) vx) st h Q) : Z M g pc lv (vl x :: st) h Q := by
  intro p l e s m args below meth c F H locs ls X L
  refine lv_lstore_n F.1 F.2.1 d rfl L.2 hn rfl (fun ls' h' => ?_)
  exact k p l e s m args below meth c F H locs ls' X (lrep_set2 (a := vl x) L hg h')
theorem z_forget {M : MD} {g : GG} {pc : Nat} {lv st : List AV} {h : HH} {Q : Option AV → HH → Prop} (i : Nat) (k : Z M g pc (lv.set i vx) st h Q) : Z M g pc lv st h Q := by
  intro p l e s m args below meth c F H locs ls X L
  exact k p l e s m args below meth c F H locs ls X (lrep_forget L)
theorem z_iinc {M : MD} {g : GG} {pc : Nat} {lv st : List AV} {h : HH} {Q : Option AV → HH → Prop} {n : Nat} {x z : Int} (d : decode (mb M) pc = .ok (.iinc n z, 3)) (hv : lv[n]? = some (vi x)) (hn : n < mn M) (hg : nlng lv n = true) (k : Z M g (pc + 3) (lv.set n (vi (x + z))) st h Q) : Z M g pc lv st h Q := by
  intro p l e s m args below meth c F H locs ls X L
  have h2 : lv_has ls (mn M) ((n, Value.int (iI x)) :: lp g 0 lv) := ⟨L.2.1, L.2.2.1, fun q hq => by
    rcases List.mem_cons.mp hq with e | e
    · rw [e]; exact lrep_get L hv rfl
    · exact L.2.2.2 q e⟩
  refine lv_iinc (v := iI (x + z)) F.1 F.2.1 d h2 (k := 0) rfl (iI_add x z) hn rfl (fun ls' h' => ?_)
  exact k p l e s m args below meth c F H locs ls' X (lrep_set1 (a := vi (x + z)) L hg (fun _ h => List.mem_cons_of_mem _ h) h')
theorem z_iadd {M : MD} {g : GG} {pc : Nat} {lv st : List AV} {h : HH} {Q : Option AV → HH → Prop} {a b : Int} (d : decode (mb M) pc = .ok (.iadd, 1))  (k : Z M g (pc + 1) lv (vi (a + b) :: st) h Q) : Z M g pc lv (vi b :: vi a :: st) h Q := by
  intro p l e s m args below meth c F H locs ls X L
  refine lv_iadd F.1 F.2.1 d ?_
  rw [iI_add]
  exact k p l e s m args below meth c F H locs ls X L
theorem z_isub {M : MD} {g : GG} {pc : Nat} {lv st : List AV} {h : HH} {Q : Option AV → HH → Prop} {a b : Int} (d : decode (mb M) pc = .ok (.isub, 1))  (k : Z M g (pc + 1) lv (vi (a - b) :: st) h Q) : Z M g pc lv (vi b :: vi a :: st) h Q := by
  intro p l e s m args below meth c F H locs ls X L
  refine lv_isub F.1 F.2.1 d ?_
  rw [iI_sub]
  exact k p l e s m args below meth c F H locs ls X L
theorem z_imul {M : MD} {g : GG} {pc : Nat} {lv st : List AV} {h : HH} {Q : Option AV → HH → Prop} {a b : Int} (d : decode (mb M) pc = .ok (.imul, 1))  (k : Z M g (pc + 1) lv (vi (a * b) :: st) h Q) : Z M g pc lv (vi b :: vi a :: st) h Q := by
  intro p l e s m args below meth c F H locs ls X L
  refine lv_imul F.1 F.2.1 d ?_
  rw [iI_mul]
  exact k p l e s m args below meth c F H locs ls X L
theorem z_ladd {M : MD} {g : GG} {pc : Nat} {lv st : List AV} {h : HH} {Q : Option AV → HH → Prop} {a b : Int} (d : decode (mb M) pc = .ok (.ladd, 1))  (k : Z M g (pc + 1) lv (vl (a + b) :: st) h Q) : Z M g pc lv (vl b :: vl a :: st) h Q := by
  intro p l e s m args below meth c F H locs ls X L
  refine lv_ladd F.1 F.2.1 d ?_
  rw [lI_add]
  exact k p l e s m args below meth c F H locs ls X L
theorem z_lsub {M : MD} {g : GG} {pc : Nat} {lv st : List AV} {h : HH} {Q : Option AV → HH → Prop} {a b : Int} (d : decode (mb M) pc = .ok (.lsub, 1))  (k : Z M g (pc + 1) lv (vl (a - b) :: st) h Q) : Z M g pc lv (vl b :: vl a :: st) h Q := by
  intro p l e s m args below meth c F H locs ls X L
  refine lv_lsub F.1 F.2.1 d ?_
  rw [lI_sub]
  exact k p l e s m args below meth c F H locs ls X L
theorem z_lmul {M : MD} {g : GG} {pc : Nat} {lv st : List AV} {h : HH} {Q : Option AV → HH → Prop} {a b : Int} (d : decode (mb M) pc = .ok (.lmul, 1))  (k : Z M g (pc + 1) lv (vl (a * b) :: st) h Q) : Z M g pc lv (vl b :: vl a :: st) h Q := by
  intro p l e s m args below meth c F H locs ls X L
  refine lv_lmul F.1 F.2.1 d ?_
  rw [lI_mul]
  exact k p l e s m args below meth c F H locs ls X L
theorem z_ineg {M : MD} {g : GG} {pc : Nat} {lv st : List AV} {h : HH} {Q : Option AV → HH → Prop} {a : Int} (d : decode (mb M) pc = .ok (.ineg, 1))  (k : Z M g (pc + 1) lv (vi (-a) :: st) h Q) : Z M g pc lv (vi a :: st) h Q := by
  intro p l e s m args below meth c F H locs ls X L
  refine lv_ineg F.1 F.2.1 d ?_
  rw [iI_neg]
  exact k p l e s m args below meth c F H locs ls X L
theorem z_lneg {M : MD} {g : GG} {pc : Nat} {lv st : List AV} {h : HH} {Q : Option AV → HH → Prop} {a : Int} (d : decode (mb M) pc = .ok (.lneg, 1))  (k : Z M g (pc + 1) lv (vl (-a) :: st) h Q) : Z M g pc lv (vl a :: st) h Q := by
  intro p l e s m args below meth c F H locs ls X L
  refine lv_lneg F.1 F.2.1 d ?_
  rw [lI_neg]
  exact k p l e s m args below meth c F H locs ls X L
theorem z_idiv {M : MD} {g : GG} {pc : Nat} {lv st : List AV} {h : HH} {Q : Option AV → HH → Prop} {a b : Int} (d : decode (mb M) pc = .ok (.idiv, 1)) (ha : R32 a) (hb : R32 b) (h0 : b ≠ 0) (k : Z M g (pc + 1) lv (vi (a.tdiv b) :: st) h Q) : Z M g pc lv (vi b :: vi a :: st) h Q := by
  intro p l e s m args below meth c F H locs ls X L
  refine lv_idiv F.1 F.2.1 d (fun q => h0 ((iI_eq hb (by omega)).mp q)) ?_
  rw [iI_div ha hb]
  exact k p l e s m args below meth c F H locs ls X L
theorem z_irem {M : MD} {g : GG} {pc : Nat} {lv st : List AV} {h : HH} {Q : Option AV → HH → Prop} {a b : Int} (d : decode (mb M) pc = .ok (.irem, 1)) (ha : R32 a) (hb : R32 b) (h0 : b ≠ 0) (k : Z M g (pc + 1) lv (vi (a.tmod b) :: st) h Q) : Z M g pc lv (vi b :: vi a :: st) h Q := by
  intro p l e s m args below meth c F H locs ls X L
  refine lv_irem F.1 F.2.1 d (fun q => h0 ((iI_eq hb (by omega)).mp q)) ?_
  rw [iI_mod ha hb]
  exact k p l e s m args below meth c F H locs ls X L
theorem z_ldiv {M : MD} {g : GG} {pc : Nat} {lv st : List AV} {h : HH} {Q : Option AV → HH → Prop} {a b : Int} (d : decode (mb M) pc = .ok (.ldiv, 1)) (ha : R64 a) (hb : R64 b) (h0 : b ≠ 0) (k : Z M g (pc + 1) lv (vl (a.tdiv b) :: st) h Q) : Z M g pc lv (vl b :: vl a :: st) h Q := by
  intro p l e s m args below meth c F H locs ls X L
  refine lv_ldiv F.1 F.2.1 d (fun q => h0 ((lI_eq hb (by omega)).mp q)) ?_
  rw [lI_div ha hb]
  exact k p l e s m args below meth c F H locs ls X L
theorem z_lrem {M : MD} {g : GG} {pc : Nat} {lv st : List AV} {h : HH} {Q : Option AV → HH → Prop} {a b : Int} (d : decode (mb M) pc = .ok (.lrem, 1)) (ha : R64 a) (hb : R64 b) (h0 : b ≠ 0) (k : Z M g (pc + 1) lv (vl (a.tmod b) :: st) h Q) : Z M g pc lv (vl b :: vl a :: st) h Q := by
  intro p l e s m args below meth c F H locs ls X L
  refine lv_lrem F.1 F.2.1 d (fun q => h0 ((lI_eq hb (by omega)).mp q)) ?_
  rw [lI_mod ha hb]
  exact k p l e s m args below meth c F H locs ls X L
theorem z_iand {M : MD} {g : GG} {pc : Nat} {lv st : List AV} {h : HH} {Q : Option AV → HH → Prop} {a b : Int} (d : decode (mb M) pc = .ok (.iand, 1))  (k : Z M g (pc + 1) lv (vi (iand a b) :: st) h Q) : Z M g pc lv (vi b :: vi a :: st) h Q := by
  intro p l e s m args below meth c F H locs ls X L
  refine lv_iand F.1 F.2.1 d ?_
  rw [show (iI a &&& iI b : Int32) = iI (iand a b) from (iI_of _).symm]
  exact k p l e s m args below meth c F H locs ls X L
theorem z_ior {M : MD} {g : GG} {pc : Nat} {lv st : List AV} {h : HH} {Q : Option AV → HH → Prop} {a b : Int} (d : decode (mb M) pc = .ok (.ior, 1))  (k : Z M g (pc + 1) lv (vi (ior a b) :: st) h Q) : Z M g pc lv (vi b :: vi a :: st) h Q := by
  intro p l e s m args below meth c F H locs ls X L
  refine lv_ior F.1 F.2.1 d ?_
  rw [show (iI a ||| iI b : Int32) = iI (ior a b) from (iI_of _).symm]
  exact k p l e s m args below meth c F H locs ls X L
theorem z_ixor {M : MD} {g : GG} {pc : Nat} {lv st : List AV} {h : HH} {Q : Option AV → HH → Prop} {a b : Int} (d : decode (mb M) pc = .ok (.ixor, 1))  (k : Z M g (pc + 1) lv (vi (ixor a b) :: st) h Q) : Z M g pc lv (vi b :: vi a :: st) h Q := by
  intro p l e s m args below meth c F H locs ls X L
  refine lv_ixor F.1 F.2.1 d ?_
  rw [show (iI a ^^^ iI b : Int32) = iI (ixor a b) from (iI_of _).symm]
  exact k p l e s m args below meth c F H locs ls X L
theorem z_ishl {M : MD} {g : GG} {pc : Nat} {lv st : List AV} {h : HH} {Q : Option AV → HH → Prop} {a b : Int} (d : decode (mb M) pc = .ok (.ishl, 1))  (k : Z M g (pc + 1) lv (vi (ishl a b) :: st) h Q) : Z M g pc lv (vi b :: vi a :: st) h Q := by
  intro p l e s m args below meth c F H locs ls X L
  refine lv_ishl F.1 F.2.1 d ?_
  rw [show (iI a <<< (iI b &&& 31) : Int32) = iI (ishl a b) from (iI_of _).symm]
  exact k p l e s m args below meth c F H locs ls X L
theorem z_ishr {M : MD} {g : GG} {pc : Nat} {lv st : List AV} {h : HH} {Q : Option AV → HH → Prop} {a b : Int} (d : decode (mb M) pc = .ok (.ishr, 1))  (k : Z M g (pc + 1) lv (vi (ishr a b) :: st) h Q) : Z M g pc lv (vi b :: vi a :: st) h Q := by
  intro p l e s m args below meth c F H locs ls X L
  refine lv_ishr F.1 F.2.1 d ?_
  rw [show (iI a >>> (iI b &&& 31) : Int32) = iI (ishr a b) from (iI_of _).symm]
  exact k p l e s m args below meth c F H locs ls X L
theorem z_iushr {M : MD} {g : GG} {pc : Nat} {lv st : List AV} {h : HH} {Q : Option AV → HH → Prop} {a b : Int} (d : decode (mb M) pc = .ok (.iushr, 1))  (k : Z M g (pc + 1) lv (vi (iushr a b) :: st) h Q) : Z M g pc lv (vi b :: vi a :: st) h Q := by
  intro p l e s m args below meth c F H locs ls X L
  refine lv_iushr (v := iI (iushr a b)) F.1 F.2.1 d (iI_of _).symm ?_
  exact k p l e s m args below meth c F H locs ls X L
theorem z_i2l {M : MD} {g : GG} {pc : Nat} {lv st : List AV} {h : HH} {Q : Option AV → HH → Prop} {a : Int} (d : decode (mb M) pc = .ok (.i2l, 1)) (ha : R32 a) (k : Z M g (pc + 1) lv (vl a :: st) h Q) : Z M g pc lv (vi a :: st) h Q := by
  intro p l e s m args below meth c F H locs ls X L
  refine lv_i2l (v := lI a) F.1 F.2.1 d (iI_l ha) ?_
  exact k p l e s m args below meth c F H locs ls X L
theorem z_l2i {M : MD} {g : GG} {pc : Nat} {lv st : List AV} {h : HH} {Q : Option AV → HH → Prop} {a : Int} (d : decode (mb M) pc = .ok (.l2i, 1))  (k : Z M g (pc + 1) lv (vi a :: st) h Q) : Z M g pc lv (vl a :: st) h Q := by
  intro p l e s m args below meth c F H locs ls X L
  refine lv_l2i (v := iI a) F.1 F.2.1 d (lI_i a) ?_
  exact k p l e s m args below meth c F H locs ls X L
theorem z_lcmp {M : MD} {g : GG} {pc : Nat} {lv st : List AV} {h : HH} {Q : Option AV → HH → Prop} {a b : Int} (d : decode (mb M) pc = .ok (.lcmp, 1)) (ha : R64 a) (hb : R64 b) (k : Z M g (pc + 1) lv (vi (icmp a b) :: st) h Q) : Z M g pc lv (vl b :: vl a :: st) h Q := by
  intro p l e s m args below meth c F H locs ls X L
  refine W.lcmp F.1 F.2.1 d ?_
  rw [icmp_lg ha hb]
  exact k p l e s m args below meth c F H locs ls X L
theorem z_dup {M : MD} {g : GG} {pc : Nat} {lv st : List AV} {h : HH} {Q : Option AV → HH → Prop} {v : AV} (d : decode (mb M) pc = .ok (.dup, 1)) (hv : avc v = 1) (k : Z M g (pc + 1) lv (v :: v :: st) h Q) : Z M g pc lv (v :: st) h Q := by
  intro p l e s m args below meth c F H locs ls X L
  refine lv_dup (va := cv g v) F.1 F.2.1 d (by rw [cv_cat]; exact hv) ?_
  exact k p l e s m args below meth c F H locs ls X L
theorem z_dup2 {M : MD} {g : GG} {pc : Nat} {lv st : List AV} {h : HH} {Q : Option AV → HH → Prop} {v w : AV} (d : decode (mb M) pc = .ok (.dup2, 1)) (hv : avc v = 1) (hw : avc w = 1) (k : Z M g (pc + 1) lv (v :: w :: v :: w :: st) h Q) : Z M g pc lv (v :: w :: st) h Q := by
  intro p l e s m args below meth c F H locs ls X L
  refine lv_dup2_11 (va := cv g v) (vb := cv g w) F.1 F.2.1 d (by rw [cv_cat]; exact hv) (by rw [cv_cat]; exact hw) ?_
  exact k p l e s m args below meth c F H locs ls X L
theorem z_l2f {M : MD} {g : GG} {pc : Nat} {lv st : List AV} {h : HH} {Q : Option AV → HH → Prop} {a : Int} (d : decode (mb M) pc = .ok (.l2f, 1))  (k : Z M g (pc + 1) lv (vf (FP.l2f (lI a)) :: st) h Q) : Z M g pc lv (vl a :: st) h Q := by
  intro p l e s m args below meth c F H locs ls X L
  refine lv_l2f F.1 F.2.1 d ?_
  exact k p l e s m args below meth c F H locs ls X L
theorem z_f2i {M : MD} {g : GG} {pc : Nat} {lv st : List AV} {h : HH} {Q : Option AV → HH → Prop} {a : UInt32} (d : decode (mb M) pc = .ok (.f2i, 1))  (k : Z M g (pc + 1) lv (vi (FP.f2i a).toInt :: st) h Q) : Z M g pc lv (vf a :: st) h Q := by
  intro p l e s m args below meth c F H locs ls X L
  refine lv_f2i F.1 F.2.1 d ?_
  rw [show FP.f2i a = iI (FP.f2i a).toInt from (iI_of _).symm]
  exact k p l e s m args below meth c F H locs ls X L
theorem z_fdiv {M : MD} {g : GG} {pc : Nat} {lv st : List AV} {h : HH} {Q : Option AV → HH → Prop} {a b : UInt32} (d : decode (mb M) pc = .ok (.fdiv, 1)) (hn : vf_n32 (FP.fdiv a b)) (k : Z M g (pc + 1) lv (vf (FP.fdiv a b) :: st) h Q) : Z M g pc lv (vf b :: vf a :: st) h Q := by
  intro p l e s m args below meth c F H locs ls X L
  refine lv_fdiv F.1 F.2.1 d hn ?_
  exact k p l e s m args below meth c F H locs ls X L
theorem z_fmul {M : MD} {g : GG} {pc : Nat} {lv st : List AV} {h : HH} {Q : Option AV → HH → Prop} {a b : UInt32} (d : decode (mb M) pc = .ok (.fmul, 1)) (hn : vf_n32 (FP.fmul a b)) (k : Z M g (pc + 1) lv (vf (FP.fmul a b) :: st) h Q) : Z M g pc lv (vf b :: vf a :: st) h Q := by
  intro p l e s m args below meth c F H locs ls X L
  refine lv_fmul F.1 F.2.1 d hn ?_
  exact k p l e s m args below meth c F H locs ls X L
theorem z_fcmp {M : MD} {g : GG} {pc : Nat} {lv st : List AV} {h : HH} {Q : Option AV → HH → Prop} {a b : UInt32} {op : CmpOp} (d : decode (mb M) pc = .ok (.fcmp op, 1))  (k : Z M g (pc + 1) lv (vi (Op.cmpValue (FP.fcmp a b) op).toInt :: st) h Q) : Z M g pc lv (vf b :: vf a :: st) h Q := by
  intro p l e s m args below meth c F H locs ls X L
  refine lv_fcmp F.1 F.2.1 d ?_
  rw [show Op.cmpValue (FP.fcmp a b) op = iI (Op.cmpValue (FP.fcmp a b) op).toInt from (iI_of _).symm]
  exact k p l e s m args below meth c F H locs ls X L
theorem z_icmp_eq {M : MD} {g : GG} {pc : Nat} {lv st : List AV} {h : HH} {Q : Option AV → HH → Prop} {a b off : Int} (tgt : Nat) (d : decode (mb M) pc = .ok (.if_icmp .eq off, 3)) (ht : (pc : Int) + off = (tgt : Int)) (ha : R32 a) (hb : R32 b) (kt : a = b → Z M g tgt lv st h Q) (kf : a ≠ b → Z M g (pc + 3) lv st h Q) : Z M g pc lv (vi b :: vi a :: st) h Q := by
  intro p l e s m args below meth c F H locs ls X L
  refine lv_icmp_eq F.1 F.2.1 d ht (fun q => ?_) (fun q => ?_)
  · exact kt ((iI_eq ha hb).mp q) p l e s m args below meth c F H locs ls X L
  · exact kf (by have := mt (iI_eq ha hb).mpr q; omega) p l e s m args below meth c F H locs ls X L
theorem z_if_eq {M : MD} {g : GG} {pc : Nat} {lv st : List AV} {h : HH} {Q : Option AV → HH → Prop} {a off : Int} (tgt : Nat) (d : decode (mb M) pc = .ok (.ifCond .eq off, 3)) (ht : (pc : Int) + off = (tgt : Int)) (ha : R32 a) (kt : a = 0 → Z M g tgt lv st h Q) (kf : a ≠ 0 → Z M g (pc + 3) lv st h Q) : Z M g pc lv (vi a :: st) h Q := by
  intro p l e s m args below meth c F H locs ls X L
  refine lv_if_eq F.1 F.2.1 d ht (fun q => ?_) (fun q => ?_)
  · exact kt ((iI_eq ha r32_0).mp q) p l e s m args below meth c F H locs ls X L
  · exact kf (by have := mt (iI_eq ha r32_0).mpr q; omega) p l e s m args below meth c F H locs ls X L
theorem z_icmp_ne {M : MD} {g : GG} {pc : Nat} {lv st : List AV} {h : HH} {Q : Option AV → HH → Prop} {a b off : Int} (tgt : Nat) (d : decode (mb M) pc = .ok (.if_icmp .ne off, 3)) (ht : (pc : Int) + off = (tgt : Int)) (ha : R32 a) (hb : R32 b) (kt : a ≠ b → Z M g tgt lv st h Q) (kf : a = b → Z M g (pc + 3) lv st h Q) : Z M g pc lv (vi b :: vi a :: st) h Q := by
  intro p l e s m args below meth c F H locs ls X L
  refine lv_icmp_ne F.1 F.2.1 d ht (fun q => ?_) (fun q => ?_)
  · exact kt ((not_congr (iI_eq ha hb)).mp q) p l e s m args below meth c F H locs ls X L
  · exact kf ((iI_eq ha hb).mp q) p l e s m args below meth c F H locs ls X L
theorem z_if_ne {M : MD} {g : GG} {pc : Nat} {lv st : List AV} {h : HH} {Q : Option AV → HH → Prop} {a off : Int} (tgt : Nat) (d : decode (mb M) pc = .ok (.ifCond .ne off, 3)) (ht : (pc : Int) + off = (tgt : Int)) (ha : R32 a) (kt : a ≠ 0 → Z M g tgt lv st h Q) (kf : a = 0 → Z M g (pc + 3) lv st h Q) : Z M g pc lv (vi a :: st) h Q := by
  intro p l e s m args below meth c F H locs ls X L
  refine lv_if_ne F.1 F.2.1 d ht (fun q => ?_) (fun q => ?_)
  · exact kt ((not_congr (iI_eq ha r32_0)).mp q) p l e s m args below meth c F H locs ls X L
  · exact kf ((iI_eq ha r32_0).mp q) p l e s m args below meth c F H locs ls X L
theorem z_icmp_lt {M : MD} {g : GG} {pc : Nat} {lv st : List AV} {h : HH} {Q : Option AV → HH → Prop} {a b off : Int} (tgt : Nat) (d : decode (mb M) pc = .ok (.if_icmp .lt off, 3)) (ht : (pc : Int) + off = (tgt : Int)) (ha : R32 a) (hb : R32 b) (kt : a < b → Z M g tgt lv st h Q) (kf : b ≤ a → Z M g (pc + 3) lv st h Q) : Z M g pc lv (vi b :: vi a :: st) h Q := by
  intro p l e s m args below meth c F H locs ls X L
  refine lv_icmp_lt F.1 F.2.1 d ht (fun q => ?_) (fun q => ?_)
  · exact kt ((iI_lt ha hb).mp q) p l e s m args below meth c F H locs ls X L
  · exact kf (by have := mt (iI_lt ha hb).mpr q; omega) p l e s m args below meth c F H locs ls X L
theorem z_if_lt {M : MD} {g : GG} {pc : Nat} {lv st : List AV} {h : HH} {Q : Option AV → HH → Prop} {a off : Int} (tgt : Nat) (d : decode (mb M) pc = .ok (.ifCond .lt off, 3)) (ht : (pc : Int) + off = (tgt : Int)) (ha : R32 a) (kt : a < 0 → Z M g tgt lv st h Q) (kf : 0 ≤ a → Z M g (pc + 3) lv st h Q) : Z M g pc lv (vi a :: st) h Q := by
  intro p l e s m args below meth c F H locs ls X L
  refine lv_if_lt F.1 F.2.1 d ht (fun q => ?_) (fun q => ?_)
  · exact kt ((iI_lt ha r32_0).mp q) p l e s m args below meth c F H locs ls X L
  · exact kf (by have := mt (iI_lt ha r32_0).mpr q; omega) p l e s m args below meth c F H locs ls X L
theorem z_icmp_ge {M : MD} {g : GG} {pc : Nat} {lv st : List AV} {h : HH} {Q : Option AV → HH → Prop} {a b off : Int} (tgt : Nat) (d : decode (mb M) pc = .ok (.if_icmp .ge off, 3)) (ht : (pc : Int) + off = (tgt : Int)) (ha : R32 a) (hb : R32 b) (kt : b ≤ a → Z M g tgt lv st h Q) (kf : a < b → Z M g (pc + 3) lv st h Q) : Z M g pc lv (vi b :: vi a :: st) h Q := by
  intro p l e s m args below meth c F H locs ls X L
  refine lv_icmp_ge F.1 F.2.1 d ht (fun q => ?_) (fun q => ?_)
  · exact kt ((iI_le hb ha).mp q) p l e s m args below meth c F H locs ls X L
  · exact kf (by have := mt (iI_le hb ha).mpr q; omega) p l e s m args below meth c F H locs ls X L
theorem z_if_ge {M : MD} {g : GG} {pc : Nat} {lv st : List AV} {h : HH} {Q : Option AV → HH → Prop} {a off : Int} (tgt : Nat) (d : decode (mb M) pc = .ok (.ifCond .ge off, 3)) (ht : (pc : Int) + off = (tgt : Int)) (ha : R32 a) (kt : 0 ≤ a → Z M g tgt lv st h Q) (kf : a < 0 → Z M g (pc + 3) lv st h Q) : Z M g pc lv (vi a :: st) h Q := by
  intro p l e s m args below meth c F H locs ls X L
  refine lv_if_ge F.1 F.2.1 d ht (fun q => ?_) (fun q => ?_)
  · exact kt ((iI_le r32_0 ha).mp q) p l e s m args below meth c F H locs ls X L
  · exact kf (by have := mt (iI_le r32_0 ha).mpr q; omega) p l e s m args below meth c F H locs ls X L
theorem z_icmp_gt {M : MD} {g : GG} {pc : Nat} {lv st : List AV} {h : HH} {Q : Option AV → HH → Prop} {a b off : Int} (tgt : Nat) (d : decode (mb M) pc = .ok (.if_icmp .gt off, 3)) (ht : (pc : Int) + off = (tgt : Int)) (ha : R32 a) (hb : R32 b) (kt : b < a → Z M g tgt lv st h Q) (kf : a ≤ b → Z M g (pc + 3) lv st h Q) : Z M g pc lv (vi b :: vi a :: st) h Q := by
  intro p l e s m args below meth c F H locs ls X L
  refine lv_icmp_gt F.1 F.2.1 d ht (fun q => ?_) (fun q => ?_)
  · exact kt ((iI_lt hb ha).mp q) p l e s m args below meth c F H locs ls X L
  · exact kf (by have := mt (iI_lt hb ha).mpr q; omega) p l e s m args below meth c F H locs ls X L
theorem z_if_gt {M : MD} {g : GG} {pc : Nat} {lv st : List AV} {h : HH} {Q : Option AV → HH → Prop} {a off : Int} (tgt : Nat) (d : decode (mb M) pc = .ok (.ifCond .gt off, 3)) (ht : (pc : Int) + off = (tgt : Int)) (ha : R32 a) (kt : 0 < a → Z M g tgt lv st h Q) (kf : a ≤ 0 → Z M g (pc + 3) lv st h Q) : Z M g pc lv (vi a :: st) h Q := by
  intro p l e s m args below meth c F H locs ls X L
  refine lv_if_gt F.1 F.2.1 d ht (fun q => ?_) (fun q => ?_)
  · exact kt ((iI_lt r32_0 ha).mp q) p l e s m args below meth c F H locs ls X L
  · exact kf (by have := mt (iI_lt r32_0 ha).mpr q; omega) p l e s m args below meth c F H locs ls X L
theorem z_icmp_le {M : MD} {g : GG} {pc : Nat} {lv st : List AV} {h : HH} {Q : Option AV → HH → Prop} {a b off : Int} (tgt : Nat) (d : decode (mb M) pc = .ok (.if_icmp .le off, 3)) (ht : (pc : Int) + off = (tgt : Int)) (ha : R32 a) (hb : R32 b) (kt : a ≤ b → Z M g tgt lv st h Q) (kf : b < a → Z M g (pc + 3) lv st h Q) : Z M g pc lv (vi b :: vi a :: st) h Q := by
  intro p l e s m args below meth c F H locs ls X L
  refine lv_icmp_le F.1 F.2.1 d ht (fun q => ?_) (fun q => ?_)
  · exact kt ((iI_le ha hb).mp q) p l e s m args below meth c F H locs ls X L
  · exact kf (by have := mt (iI_le ha hb).mpr q; omega) p l e s m args below meth c F H locs ls X L
theorem z_if_le {M : MD} {g : GG} {pc : Nat} {lv st : List AV} {h : HH} {Q : Option AV → HH → Prop} {a off : Int} (tgt : Nat) (d : decode (mb M) pc = .ok (.ifCond .le off, 3)) (ht : (pc : Int) + off = (tgt : Int)) (ha : R32 a) (kt : a ≤ 0 → Z M g tgt lv st h Q) (kf : 0 < a → Z M g (pc + 3) lv st h Q) : Z M g pc lv (vi a :: st) h Q := by
  intro p l e s m args below meth c F H locs ls X L
  refine lv_if_le F.1 F.2.1 d ht (fun q => ?_) (fun q => ?_)
  · exact kt ((iI_le ha r32_0).mp q) p l e s m args below meth c F H locs ls X L
  · exact kf (by have := mt (iI_le ha r32_0).mpr q; omega) p l e s m args below meth c F H locs ls X L
theorem z_goto {M : MD} {g : GG} {pc : Nat} {lv st : List AV} {h : HH} {Q : Option AV → HH → Prop} {off : Int} (tgt : Nat) (d : decode (mb M) pc = .ok (.goto off, 3)) (ht : (pc : Int) + off = (tgt : Int)) (k : Z M g tgt lv st h Q) : Z M g pc lv st h Q := by
  intro p l e s m args below meth c F H locs ls X L
  refine lv_goto F.1 F.2.1 d ht ?_
  exact k p l e s m args below meth c F H locs ls X L
theorem z_ifnull {M : MD} {g : GG} {pc : Nat} {lv st : List AV} {h : HH} {Q : Option AV → HH → Prop} {x : Nat} {off : Int} (d : decode (mb M) pc = .ok (.ifnull off, 3))  (k : Z M g (pc + 3) lv (st) h Q) : Z M g pc lv (vr x :: st) h Q := by
  intro p l e s m args below meth c F H locs ls X L
  refine lv_ifnull F.1 F.2.1 d ?_
  exact k p l e s m args below meth c F H locs ls X L
theorem z_tswIn {M : MD} {g : GG} {pc : Nat} {lv st : List AV} {h : HH} {Q : Option AV → HH → Prop} {dflt lo hi a off : Int} {offs : Array Int} {len : Nat} (tgt : Nat) (d : decode (mb M) pc = .ok (.tableswitch dflt lo hi offs, len)) (ha : R32 a) (h1 : ¬ a < lo) (h2 : ¬ hi < a) (ho : offs[(a - lo).toNat]? = some off) (ht : (pc : Int) + off = (tgt : Int)) (k : Z M g tgt lv st h Q) : Z M g pc lv (vi a :: st) h Q := by
  intro p l e s m args below meth c F H locs ls X L
  refine lv_tableIn (x := iI a) F.1 F.2.1 d (by rw [iI_toInt ha]; exact h1) (by rw [iI_toInt ha]; exact h2) (by rw [iI_toInt ha]; exact ho) ht ?_
  exact k p l e s m args below meth c F H locs ls X L
theorem z_tswOut {M : MD} {g : GG} {pc : Nat} {lv st : List AV} {h : HH} {Q : Option AV → HH → Prop} {dflt lo hi a : Int} {offs : Array Int} {len : Nat} (tgt : Nat) (d : decode (mb M) pc = .ok (.tableswitch dflt lo hi offs, len)) (ha : R32 a) (h1 : a < lo ∨ hi < a) (ht : (pc : Int) + dflt = (tgt : Int)) (k : Z M g tgt lv st h Q) : Z M g pc lv (vi a :: st) h Q := by
  intro p l e s m args below meth c F H locs ls X L
  refine lv_tableOut (x := iI a) F.1 F.2.1 d (by rw [iI_toInt ha]; exact h1) ht ?_
  exact k p l e s m args below meth c F H locs ls X L
theorem z_getI {M : MD} {g : GG} {pc : Nat} {lv st : List AV} {h : HH} {Q : Option AV → HH → Prop} {idx ci j k j' : Nat} {fl : List (Nat × Nat)} (hf : FL (mo M) idx ci j) (d : decode (mb M) pc = .ok (.getfield idx, 3)) (hk : k < 50) (hs : shp k = (0, ci, fl)) (hq : fl[j]? = some (0, j')) (kk : R32 (h k j') → Z M g (pc + 3) lv (vi (h k j') :: st) h Q) : Z M g pc lv (vr k :: st) h Q := by
  intro p l e s m args below meth c F H locs ls X L
  obtain ⟨C, T, N, hc, hj, hC, hlink⟩ := hf
  have he := wl_get (g := g) (h := h) hk
  unfold ct cof at he
  rw [hs] at he
  refine va_get (Ts := lw_ok) (ref := (T j).1) F.1 F.2.1 F.2.2.2.2.2.1 (uw_all ci _ hc).1 F.2.2.2.2.1 F.2.2.2.2.2.2.2.1 X.1 k he hc j hj (F.2.2.2.2.2.1 _ hlink) (fun _ h9 => h9) (v := cv g (vi (h k j'))) (by rw [List.getElem?_map, hq]; rfl) d ?_
  exact kk (X.2.2.2.2.2 k (by rw [hs]) j _ (by rw [hs]; exact hq)) p l e s m args below meth c F H locs ls X L
theorem z_getJ {M : MD} {g : GG} {pc : Nat} {lv st : List AV} {h : HH} {Q : Option AV → HH → Prop} {idx ci j k j' : Nat} {fl : List (Nat × Nat)} (hf : FL (mo M) idx ci j) (d : decode (mb M) pc = .ok (.getfield idx, 3)) (hk : k < 50) (hs : shp k = (0, ci, fl)) (hq : fl[j]? = some (1, j')) (kk : R64 (h k j') → Z M g (pc + 3) lv (vl (h k j') :: st) h Q) : Z M g pc lv (vr k :: st) h Q := by
  intro p l e s m args below meth c F H locs ls X L
  obtain ⟨C, T, N, hc, hj, hC, hlink⟩ := hf
  have he := wl_get (g := g) (h := h) hk
  unfold ct cof at he
  rw [hs] at he
  refine va_get (Ts := lw_ok) (ref := (T j).1) F.1 F.2.1 F.2.2.2.2.2.1 (uw_all ci _ hc).1 F.2.2.2.2.1 F.2.2.2.2.2.2.2.1 X.1 k he hc j hj (F.2.2.2.2.2.1 _ hlink) (fun _ h9 => h9) (v := cv g (vl (h k j'))) (by rw [List.getElem?_map, hq]; rfl) d ?_
  exact kk (X.2.2.2.1 k _) p l e s m args below meth c F H locs ls X L
theorem z_getR {M : MD} {g : GG} {pc : Nat} {lv st : List AV} {h : HH} {Q : Option AV → HH → Prop} {idx ci j k j' : Nat} {fl : List (Nat × Nat)} (hf : FL (mo M) idx ci j) (d : decode (mb M) pc = .ok (.getfield idx, 3)) (hk : k < 50) (hs : shp k = (0, ci, fl)) (hq : fl[j]? = some (2, j')) (kk : Z M g (pc + 3) lv (vr j' :: st) h Q) : Z M g pc lv (vr k :: st) h Q := by
  intro p l e s m args below meth c F H locs ls X L
  obtain ⟨C, T, N, hc, hj, hC, hlink⟩ := hf
  have he := wl_get (g := g) (h := h) hk
  unfold ct cof at he
  rw [hs] at he
  refine va_get (Ts := lw_ok) (ref := (T j).1) F.1 F.2.1 F.2.2.2.2.2.1 (uw_all ci _ hc).1 F.2.2.2.2.1 F.2.2.2.2.2.2.2.1 X.1 k he hc j hj (F.2.2.2.2.2.1 _ hlink) (fun _ h9 => h9) (v := cv g (vr j')) (by rw [List.getElem?_map, hq]; rfl) d ?_
  exact kk p l e s m args below meth c F H locs ls X L
theorem shp_ok : ∀ k, k < 50 → (shp k).1 = 0 → ∀ i, i < (shp k).2.2.length → ∀ q ∈ (shp k).2.2[i]?, q.1 < 2 → q.2 = i := by decide +kernel
theorem fld_set {g : GG} {h : Nat → Int} {fl : List (Nat × Nat)} {j : Nat} {v : Int} {q : Nat × Nat} (hok : ∀ i, i < fl.length → ∀ q ∈ fl[i]?, q.1 < 2 → q.2 = i) (hq : fl[j]? = some q) (h2 : q.1 < 2) : fl.map (fld g (fun b => if b = j then v else h b)) = (fl.map (fld g h)).set j (fld g (fun _ => v) q) := by
  apply List.ext_getElem?
  intro i
  have hjl := (List.getElem?_eq_some_iff.mp hq).1
  rw [List.getElem?_set, List.getElem?_map, List.getElem?_map, List.length_map]
  by_cases e : j = i
  · subst e
    have e2 := hok j hjl q hq h2
    rw [if_pos rfl, if_pos hjl, hq]
    obtain ⟨q1, q2⟩ := q
    have e2 : q2 = j := e2
    subst e2
    have h2 : q1 < 2 := h2
    have : q1 = 0 ∨ q1 = 1 := by omega
    rcases this with rfl | rfl <;> simp [fld]
  · rw [if_neg e]
    cases hr : fl[i]? with
    | none => rfl
    | some r =>
      have hil := (List.getElem?_eq_some_iff.mp hr).1
      obtain ⟨r1, r2⟩ := r
      by_cases h3 : r1 < 2
      · have e2 : r2 = i := hok i hil _ hr h3
        subst e2
        have : r1 = 0 ∨ r1 = 1 := by omega
        rcases this with rfl | rfl <;> simp [fld, Ne.symm e]
      · obtain ⟨n, rfl⟩ : ∃ n, r1 = n + 2 := ⟨r1 - 2, by omega⟩
        rfl
theorem z_putI {M : MD} {g : GG} {pc : Nat} {lv st : List AV} {h : HH} {Q : Option AV → HH → Prop} {idx ci j k : Nat} {v : Int} {fl : List (Nat × Nat)} (hf : FLp (mo M) idx ci j .int) (d : decode (mb M) pc = .ok (.putfield idx, 3)) (hk : k < 50) (hs : shp k = (0, ci, fl)) (hq : fl[j]? = some (0, j)) (hv : R32 v) (kk : Z M g (pc + 3) lv st (up h k j v) Q) : Z M g pc lv (vi v :: vr k :: st) h Q := by
  intro p l e s m args below meth c F H locs ls X L
  obtain ⟨C, T, N, hc, hj, hC, hlink, hfin, hty⟩ := hf
  have he := wl_get (g := g) (h := h) hk
  unfold ct cof at he
  rw [hs] at he
  obtain ⟨u1, ⟨ty0, u2⟩, u3⟩ := uw_all ci _ hc
  refine va_put (Ts := lw_ok) (ref := (T j).1) (v := cv g (vi v)) F.1 F.2.1 F.2.2.2.2.2.1 u1 ty0 u2 u3 F.2.2.2.2.1 F.2.2.2.2.2.2.2.1 X.1 X.2.1 X.2.2.1 k he hc j hj (F.2.2.2.2.2.1 _ hlink) (fun _ h9 => h9) hfin hty rfl rfl (by rw [List.length_map]; exact (List.getElem?_eq_some_iff.mp hq).1) d (fun H1 locs1 hP hD hS => ?_)
  have eset := wl_set (g := g) (h := h) (h' := up h k j v) (e := .inr (ci, (fl.map (fld g (h k))).set j (cv g (vi v)))) hk (by
    unfold ct cof
    rw [hs, up_at]
    have hok := shp_ok k hk (by rw [hs])
    rw [hs] at hok
    show Sum.inr _ = _
    exact congrArg (fun x => Sum.inr (ci, x)) (fld_set hok hq (by show _ < 2; omega))) (fun a ha => up_ne h j v ha)
  have hP : va_P g.1 vwCl ((wl g h).set k (g.2.2 k, .inr (ci, (fl.map (fld g (h k))).set j (cv g (vi v))))) H1 := hP
  rw [eset] at hP
  exact kk p l e s m args below meth c F H1 locs1 ls ⟨hP, AA_h X.2.1, hS, RR_up32 X.2.2.2 hv⟩ L
theorem z_putJ {M : MD} {g : GG} {pc : Nat} {lv st : List AV} {h : HH} {Q : Option AV → HH → Prop} {idx ci j k : Nat} {v : Int} {fl : List (Nat × Nat)} (hf : FLp (mo M) idx ci j .long) (d : decode (mb M) pc = .ok (.putfield idx, 3)) (hk : k < 50) (hs : shp k = (0, ci, fl)) (hq : fl[j]? = some (1, j)) (hv : R64 v) (kk : Z M g (pc + 3) lv st (up h k j v) Q) : Z M g pc lv (vl v :: vr k :: st) h Q := by
  intro p l e s m args below meth c F H locs ls X L
  obtain ⟨C, T, N, hc, hj, hC, hlink, hfin, hty⟩ := hf
  have he := wl_get (g := g) (h := h) hk
  unfold ct cof at he
  rw [hs] at he
  obtain ⟨u1, ⟨ty0, u2⟩, u3⟩ := uw_all ci _ hc
  refine va_put (Ts := lw_ok) (ref := (T j).1) (v := cv g (vl v)) F.1 F.2.1 F.2.2.2.2.2.1 u1 ty0 u2 u3 F.2.2.2.2.1 F.2.2.2.2.2.2.2.1 X.1 X.2.1 X.2.2.1 k he hc j hj (F.2.2.2.2.2.1 _ hlink) (fun _ h9 => h9) hfin hty rfl rfl (by rw [List.length_map]; exact (List.getElem?_eq_some_iff.mp hq).1) d (fun H1 locs1 hP hD hS => ?_)
  have eset := wl_set (g := g) (h := h) (h' := up h k j v) (e := .inr (ci, (fl.map (fld g (h k))).set j (cv g (vl v)))) hk (by
    unfold ct cof
    rw [hs, up_at]
    have hok := shp_ok k hk (by rw [hs])
    rw [hs] at hok
    show Sum.inr _ = _
    exact congrArg (fun x => Sum.inr (ci, x)) (fld_set hok hq (by show _ < 2; omega))) (fun a ha => up_ne h j v ha)
  have hP : va_P g.1 vwCl ((wl g h).set k (g.2.2 k, .inr (ci, (fl.map (fld g (h k))).set j (cv g (vl v))))) H1 := hP
  rw [eset] at hP
  exact kk p l e s m args below meth c F H1 locs1 ls ⟨hP, AA_h X.2.1, hS, RR_up64 X.2.2.2 hv (Or.inr ⟨by rw [hs], fun i hi => by rw [hs] at hi; have e1 := shp_ok k hk (by rw [hs]) i (by rw [hs]; exact (List.getElem?_eq_some_iff.mp hi).1) _ (by rw [hs]; exact hi) (show (0 : Nat) < 2 by decide); have e1 : j = i := e1; subst e1; rw [hq] at hi; cases hi⟩)⟩ L
theorem z_iaload {M : MD} {g : GG} {pc : Nat} {lv st : List AV} {h : HH} {Q : Option AV → HH → Prop} {k n : Nat} {i : Int} {fl : List (Nat × Nat)} (d : decode (mb M) pc = .ok (.iaload, 1)) (hk : k < 50) (hs : shp k = (1, n, fl)) (h0 : 0 ≤ i) (h1 : i < n) (hn : n < 2147483648) (kk : R32 (h k i.toNat) → Z M g (pc + 1) lv (vi (h k i.toNat) :: st) h Q) : Z M g pc lv (vi i :: vr k :: st) h Q := by
  intro p l e s m args below meth c F H locs ls X L
  have he := wl_get (g := g) (h := h) hk
  unfold ct cof at he
  rw [hs] at he
  refine va_iald F.1 F.2.1 F.2.2.2.2.2.2.2.1 X.1 k 0 he rfl (iI_in h0 h1 hn) d ?_
  rw [iI_cl (by omega) h0]
  exact kk (X.2.2.2.2.1 k (by rw [hs]; first | exact Or.inl rfl | exact Or.inr rfl) _) p l e s m args below meth c F H locs ls X L
theorem z_laload {M : MD} {g : GG} {pc : Nat} {lv st : List AV} {h : HH} {Q : Option AV → HH → Prop} {k n : Nat} {i : Int} {fl : List (Nat × Nat)} (d : decode (mb M) pc = .ok (.laload, 1)) (hk : k < 50) (hs : shp k = (2, n, fl)) (h0 : 0 ≤ i) (h1 : i < n) (hn : n < 2147483648) (kk : R64 (h k i.toNat) → Z M g (pc + 1) lv (vl (h k i.toNat) :: st) h Q) : Z M g pc lv (vi i :: vr k :: st) h Q := by
  intro p l e s m args below meth c F H locs ls X L
  have he := wl_get (g := g) (h := h) hk
  unfold ct cof at he
  rw [hs] at he
  refine va_lald F.1 F.2.1 F.2.2.2.2.2.2.2.1 X.1 k 1 he rfl (iI_in h0 h1 hn) d ?_
  rw [iI_cl (by omega) h0]
  exact kk (X.2.2.2.1 k _) p l e s m args below meth c F H locs ls X L
theorem z_aaloadI {M : MD} {g : GG} {pc : Nat} {lv st : List AV} {h : HH} {Q : Option AV → HH → Prop} {k n b : Nat} {i : Int} (d : decode (mb M) pc = .ok (.aaload, 1)) (hk : k < 50) (hs : shp k = (4, n, [(b, 0)])) (h0 : 0 ≤ i) (h1 : i < n) (hn : n < 2147483648) (kk : Z M g (pc + 1) lv (vr (b + i.toNat) :: st) h Q) : Z M g pc lv (vi i :: vr k :: st) h Q := by
  intro p l e s m args below meth c F H locs ls X L
  have he := wl_get (g := g) (h := h) hk
  unfold ct cof at he
  rw [hs] at he
  have hin := iI_in h0 h1 hn
  have hlt : (iI i).toNatClampNeg < n := Nat.not_le.mp fun q => hin (Or.inr q)
  refine W.aald (v := .ref (g.2.2 (b + i.toNat))) (ty := .array .int) F.1 F.2.1 (X.1 k _ he) ((F.2.2.2.2.2.2.2.1.2 3 (g.2.1 3, .array .int) rfl).1 n _) rfl (fun q => by cases q) (by show ¬ (iI i < 0 ∨ (arrV _ _ _).slots.size ≤ _); rw [arrV_size]; exact hin) (by show (arrV _ _ _).slots[_]? = _; rw [arrV_read _ _ hlt, iI_cl (by omega) h0]; rfl) rfl rfl d ?_
  exact kk p l e s m args below meth c F H locs ls X L
theorem z_aaloadJ {M : MD} {g : GG} {pc : Nat} {lv st : List AV} {h : HH} {Q : Option AV → HH → Prop} {k n b : Nat} {i : Int} (d : decode (mb M) pc = .ok (.aaload, 1)) (hk : k < 50) (hs : shp k = (5, n, [(b, 0)])) (h0 : 0 ≤ i) (h1 : i < n) (hn : n < 2147483648) (kk : Z M g (pc + 1) lv (vr (b + i.toNat) :: st) h Q) : Z M g pc lv (vi i :: vr k :: st) h Q := by
  intro p l e s m args below meth c F H locs ls X L
  have he := wl_get (g := g) (h := h) hk
  unfold ct cof at he
  rw [hs] at he
  have hin := iI_in h0 h1 hn
  have hlt : (iI i).toNatClampNeg < n := Nat.not_le.mp fun q => hin (Or.inr q)
  refine W.aald (v := .ref (g.2.2 (b + i.toNat))) (ty := .array .long) F.1 F.2.1 (X.1 k _ he) ((F.2.2.2.2.2.2.2.1.2 4 (g.2.1 4, .array .long) rfl).1 n _) rfl (fun q => by cases q) (by show ¬ (iI i < 0 ∨ (arrV _ _ _).slots.size ≤ _); rw [arrV_size]; exact hin) (by show (arrV _ _ _).slots[_]? = _; rw [arrV_read _ _ hlt, iI_cl (by omega) h0]; rfl) rfl rfl d ?_
  exact kk p l e s m args below meth c F H locs ls X L
theorem z_iastore {M : MD} {g : GG} {pc : Nat} {lv st : List AV} {h : HH} {Q : Option AV → HH → Prop} {k n : Nat} {i v : Int} {fl : List (Nat × Nat)} (d : decode (mb M) pc = .ok (.iastore, 1)) (hk : k < 50) (hs : shp k = (1, n, fl)) (h0 : 0 ≤ i) (h1 : i < n) (hn : n < 2147483648) (hv : R32 v) (kk : Z M g (pc + 1) lv st (up h k i.toNat v) Q) : Z M g pc lv (vi v :: vi i :: vr k :: st) h Q := by
  intro p l e s m args below meth c F H locs ls X L
  have he := wl_get (g := g) (h := h) hk
  unfold ct cof at he
  rw [hs] at he
  refine va_iast F.1 F.2.1 F.2.2.2.2.2.2.2.1 X.1 X.2.1 X.2.2.1 k 0 he rfl (iI_in h0 h1 hn) d (fun H1 locs1 hP hD hS => ?_)
  rw [wl_set (g := g) (h := h) (h' := up h k i.toNat v) hk (by
    unfold ct cof
    rw [hs, up_at, iI_cl (by omega) h0]
    refine congrArg (fun (x : Nat → Int32) => (Sum.inl (g.2.1 0, ((n, .inl x) : vp_A)) : va_E)) (funext fun b => ?_)
    show iI (if b = i.toNat then v else h k b) = (if b = i.toNat then iI v else iI (h k b))
    split <;> rfl) (fun a ha => up_ne h i.toNat v ha)] at hP
  exact kk p l e s m args below meth c F H1 locs1 ls ⟨hP, AA_h X.2.1, hS, RR_up32 X.2.2.2 hv⟩ L
theorem z_lastore {M : MD} {g : GG} {pc : Nat} {lv st : List AV} {h : HH} {Q : Option AV → HH → Prop} {k n : Nat} {i v : Int} {fl : List (Nat × Nat)} (d : decode (mb M) pc = .ok (.lastore, 1)) (hk : k < 50) (hs : shp k = (2, n, fl)) (h0 : 0 ≤ i) (h1 : i < n) (hn : n < 2147483648) (hv : R64 v) (kk : Z M g (pc + 1) lv st (up h k i.toNat v) Q) : Z M g pc lv (vl v :: vi i :: vr k :: st) h Q := by
  intro p l e s m args below meth c F H locs ls X L
  have he := wl_get (g := g) (h := h) hk
  unfold ct cof at he
  rw [hs] at he
  refine va_last F.1 F.2.1 F.2.2.2.2.2.2.2.1 X.1 X.2.1 X.2.2.1 k 1 he rfl (iI_in h0 h1 hn) d (fun H1 locs1 hP hD hS => ?_)
  rw [wl_set (g := g) (h := h) (h' := up h k i.toNat v) hk (by
    unfold ct cof
    rw [hs, up_at, iI_cl (by omega) h0]
    refine congrArg (fun (x : Nat → Int64) => (Sum.inl (g.2.1 1, ((n, .inr (.inl x)) : vp_A)) : va_E)) (funext fun b => ?_)
    show lI (if b = i.toNat then v else h k b) = (if b = i.toNat then lI v else lI (h k b))
    split <;> rfl) (fun a ha => up_ne h i.toNat v ha)] at hP
  exact kk p l e s m args below meth c F H1 locs1 ls ⟨hP, AA_h X.2.1, hS, RR_up64 X.2.2.2 hv (Or.inl (by rw [hs]))⟩ L
theorem z_alen {M : MD} {g : GG} {pc : Nat} {lv st : List AV} {h : HH} {Q : Option AV → HH → Prop} {k n t : Nat} {fl : List (Nat × Nat)} (d : decode (mb M) pc = .ok (.arraylength, 1)) (hk : k < 50) (hs : shp k = (t, n, fl)) (ht : t = 1 ∨ t = 4 ∨ t = 5) (kk : Z M g (pc + 1) lv (vi (n : Int) :: st) h Q) : Z M g pc lv (vr k :: st) h Q := by
  intro p l e s m args below meth c F H locs ls X L
  have he := wl_get (g := g) (h := h) hk
  unfold ct cof at he
  rw [hs] at he
  have hv : Int32.ofNat n = iI (n : Int) := Int32.ofInt_eq_ofNat.symm
  rcases ht with rfl | rfl | rfl
  · refine va_alen F.1 F.2.1 F.2.2.2.2.2.2.2.1 X.1 k 0 he rfl hv d ?_
    exact kk p l e s m args below meth c F H locs ls X L
  · refine va_alen F.1 F.2.1 F.2.2.2.2.2.2.2.1 X.1 k 3 he rfl hv d ?_
    exact kk p l e s m args below meth c F H locs ls X L
  · refine va_alen F.1 F.2.1 F.2.2.2.2.2.2.2.1 X.1 k 4 he rfl hv d ?_
    exact kk p l e s m args below meth c F H locs ls X L
/-- n numbers of the cell a over those of the cell b -/
def cpy (h : HH) (a b n : Nat) : HH := fun k => if k = b then fun j => if j < n then h a j else h b j else h k
theorem cpy_at (h : HH) (a b n : Nat) : cpy h a b n b = fun j => if j < n then h a j else h b j := by simp [cpy]
theorem cpy_ne (h : HH) {a b n k : Nat} (q : k ≠ b) : cpy h a b n k = h k := by simp [cpy, q]
theorem lwk_copy : Cond.native arraycopyName ∈ lw_ok ∧ Cond.static arraycopyName ∈ lw_ok ∧ Cond.initialized "java/lang/System" ∈ lw_ok := ⟨lwm 313 (by decide +kernel) (by decide +kernel), lwm 312 (by decide +kernel) (by decide +kernel), lwm 22 (by decide +kernel) (by decide +kernel)⟩
theorem kX0_15 : Cond.methodLink RX0 15 arraycopyName ∈ lw_ok := lwm 311 (by decide +kernel) (by decide +kernel)
theorem z_copy {M : MD} {g : GG} {pc : Nat} {lv st : List AV} {h : HH} {Q : Option AV → HH → Prop} {idx a b n0 n1 n : Nat} {fl0 fl1 : List (Nat × Nat)} (hl : Cond.methodLink (mo M) idx arraycopyName ∈ lw_ok) (d : decode (mb M) pc = .ok (.invokestatic idx, 3)) (ha : a < 50) (hb : b < 50) (hsa : shp a = (1, n0, fl0)) (hsb : shp b = (1, n1, fl1)) (h0 : n ≤ n0) (h1 : n ≤ n1) (hn : n < 2147483648) (hR : 1 ≤ mf M ∧ 40 ≤ ml M) (hst : (st.map avc).sum ≤ 8) (k : Z M g (pc + 3) lv st (cpy h a b n) Q) : Z M g pc lv (vi (n : Int) :: vi 0 :: vr b :: vi 0 :: vr a :: st) h Q := by
  intro p l e s m args below meth c F H locs ls X L
  have he0 := wl_get (g := g) (h := h) ha
  have he1 := wl_get (g := g) (h := h) hb
  unfold ct cof at he0 he1
  rw [hsa] at he0
  rw [hsb] at he1
  have hcl : (iI (n : Int)).toNatClampNeg = n := by rw [iI_cl (by omega) (by omega)]; omega
  have hc0 : (iI 0).toNatClampNeg = 0 := rfl
  have hz : ¬ iI 0 < 0 := by decide
  have hz2 : ¬ iI (n : Int) < 0 := fun q => by
    have := (iI_lt (by omega) r32_0).mp q
    omega
  refine va_copyi F.1 F.2.1 (F.2.2.2.1.trans L.2.1.symm) F.2.2.2.2.1 (F.2.2.2.2.2.1 _ hl) (F.2.2.2.2.2.1 _ lwk_copy.1) (F.2.2.2.2.2.1 _ lwk_copy.2.1) (F.2.2.2.2.2.1 _ lwk_copy.2.2) F.2.2.2.2.2.2.2.1 X.1 X.2.1 X.2.2.1 a b 0 0 he0 he1 rfl rfl rfl hz hz hz2 (by rw [hcl, hc0]; simpa using h0) (by rw [hcl, hc0]; simpa using h1) (fun _ _ => rfl) hR.1 (by
    rw [avc_sum]
    have := hR.2
    have e5 : nativeFrameWords "java/lang/System" "arraycopy" 5 + 11 ≤ 32 := by decide +kernel
    show _ ≤ ml M
    omega) d (fun H1 locs1 hP hD hS => ?_)
  rw [wl_set (g := g) (h := h) (h' := cpy h a b n) hb (by
    unfold ct cof
    rw [hsb, cpy_at, hcl, hc0]
    refine congrArg (fun (x : Nat → Int32) => (Sum.inl (g.2.1 0, ((n1, .inl x) : vp_A)) : va_E)) (funext fun j => ?_)
    show iI (if j < n then h a j else h b j) = (if 0 ≤ j ∧ j < 0 + n then iI (h a (0 + (j - 0))) else iI (h b j))
    by_cases q : j < n
    · rw [if_pos q, if_pos (by omega)]; simp
    · rw [if_neg q, if_neg (by omega)]) (fun x hx => cpy_ne h hx)] at hP
  refine k p l e s m args below meth c F H1 locs1 ls ⟨hP, AA_h X.2.1, hS, ?_⟩ L
  have hR := X.2.2.2
  have g1 : ∀ x j, ∃ y, cpy h a b n x j = h y j ∧ (y = x ∨ (x = b ∧ y = a)) := fun x j => by
    by_cases q : x = b
    · subst q
      rw [cpy_at]
      by_cases q2 : j < n
      · exact ⟨a, by simp [q2], Or.inr ⟨rfl, rfl⟩⟩
      · exact ⟨x, by simp [q2], Or.inl rfl⟩
    · exact ⟨x, by rw [cpy_ne h q], Or.inl rfl⟩
  refine ⟨fun x j => ?_, fun x hx j => ?_, fun x hx i j hq => ?_⟩
  · obtain ⟨y, e1, -⟩ := g1 x j
    rw [e1]; exact hR.1 y j
  · obtain ⟨y, e1, e2 | ⟨e2, e3⟩⟩ := g1 x j
    · rw [e1, e2]; exact hR.2.1 x hx j
    · rw [e1, e3]; exact hR.2.1 a (by rw [hsa]; exact Or.inl rfl) j
  · obtain ⟨y, e1, e2 | ⟨e2, e3⟩⟩ := g1 x j
    · rw [e1, e2]; exact hR.2.2 x hx i j hq
    · subst e2; rw [hsb] at hx; cases hx
theorem z_ireturn {M : MD} {g : GG} {pc : Nat} {lv : List AV} {h : HH} {Q : Option AV → HH → Prop} {a : Int} (d : decode (mb M) pc = .ok (.ireturn, 1)) (hm : mr M = some .int) (hq : Q (some (vi a)) h) : Z M g pc lv [vi a] h Q := by
  intro p l e s m args below meth c F H locs ls X L
  exact W.iret F.1 F.2.1 (F.2.2.1.trans hm) (fun t ht hW => ⟨⟨some (vi a), h, rfl, hq, by rw [ht]; exact X.1, va_K.moved hW.alike F.2.2.2.2.2.2.2.1, X.2.2.2⟩, X.2.2.1.F ht⟩) X.2.2.1.2.2 d F.2.2.2.2.2.2.1
theorem z_lreturn {M : MD} {g : GG} {pc : Nat} {lv : List AV} {h : HH} {Q : Option AV → HH → Prop} {a : Int} (d : decode (mb M) pc = .ok (.lreturn, 1)) (hm : mr M = some .long) (hq : Q (some (vl a)) h) : Z M g pc lv [vl a] h Q := by
  intro p l e s m args below meth c F H locs ls X L
  exact W.lret F.1 F.2.1 (F.2.2.1.trans hm) (fun t ht hW => ⟨⟨some (vl a), h, rfl, hq, by rw [ht]; exact X.1, va_K.moved hW.alike F.2.2.2.2.2.2.2.1, X.2.2.2⟩, X.2.2.1.F ht⟩) X.2.2.1.2.2 d F.2.2.2.2.2.2.1
theorem z_zreturn {M : MD} {g : GG} {pc : Nat} {lv : List AV} {h : HH} {Q : Option AV → HH → Prop} {a : Int} (d : decode (mb M) pc = .ok (.ireturn, 1)) (hm : mr M = some .boolean) (hz : a = 0 ∨ a = 1) (hq : Q (some (vi a)) h) : Z M g pc lv [vi a] h Q := by
  intro p l e s m args below meth c F H locs ls X L
  exact W.zret (v := iI a) F.1 F.2.1 (F.2.2.1.trans hm) (by rcases hz with rfl | rfl <;> decide +kernel) (fun t ht hW => ⟨⟨some (vi a), h, rfl, hq, by rw [ht]; exact X.1, va_K.moved hW.alike F.2.2.2.2.2.2.2.1, X.2.2.2⟩, X.2.2.1.F ht⟩) X.2.2.1.2.2 d F.2.2.2.2.2.2.1
theorem z_areturn {M : MD} {g : GG} {pc : Nat} {lv : List AV} {h : HH} {Q : Option AV → HH → Prop} {a : Nat} (d : decode (mb M) pc = .ok (.areturn, 1)) (hm : mr M = some (.array .int)) (hq : Q (some (vr a)) h) : Z M g pc lv [vr a] h Q := by
  intro p l e s m args below meth c F H locs ls X L
  exact W.aret (v := .ref (g.2.2 a)) F.1 F.2.1 (F.2.2.1.trans hm) (Or.inr ⟨_, rfl⟩) (Or.inr ⟨_, rfl⟩) (fun t ht hW => ⟨⟨some (vr a), h, rfl, hq, by rw [ht]; exact X.1, va_K.moved hW.alike F.2.2.2.2.2.2.2.1, X.2.2.2⟩, X.2.2.1.F ht⟩) X.2.2.1.2.2 d F.2.2.2.2.2.2.1
theorem z_return {M : MD} {g : GG} {pc : Nat} {lv : List AV} {h : HH} {Q : Option AV → HH → Prop} (d : decode (mb M) pc = .ok (.return_, 1)) (hm : mr M = none) (hq : Q none h) : Z M g pc lv [] h Q := by
  intro p l e s m args below meth c F H locs ls X L
  exact W.vret F.1 F.2.1 (F.2.2.1.trans hm) (fun t ht hW => ⟨⟨none, h, rfl, hq, by rw [ht]; exact X.1, va_K.moved hW.alike F.2.2.2.2.2.2.2.1, X.2.2.2⟩, X.2.2.1.F ht⟩) X.2.2.1.2.2 d F.2.2.2.2.2.2.1
set_option maxRecDepth 20000 in
theorem pX3_15 : FLp RX3 15 3 1 .int := ⟨RX3, TX3, 4, rfl, by decide +kernel, rfl, lwm 49 (by decide +kernel) (by decide +kernel), rfl, by decide +kernel⟩
set_option maxRecDepth 20000 in
theorem pX3_19 : FLp RX3 19 3 2 .int := ⟨RX3, TX3, 4, rfl, by decide +kernel, rfl, lwm 50 (by decide +kernel) (by decide +kernel), rfl, by decide +kernel⟩
set_option maxRecDepth 20000 in
theorem pX3_22 : FLp RX3 22 3 3 .int := ⟨RX3, TX3, 4, rfl, by decide +kernel, rfl, lwm 51 (by decide +kernel) (by decide +kernel), rfl, by decide +kernel⟩
set_option maxRecDepth 20000 in
theorem pX4_15 : FLp RX4 15 4 1 .int := ⟨RX4, TX4, 2, rfl, by decide +kernel, rfl, lwm 68 (by decide +kernel) (by decide +kernel), rfl, by decide +kernel⟩
set_option maxRecDepth 20000 in
theorem pX1_18 : FLp RX1 18 1 2 .int := ⟨RX1, TX1, 4, rfl, by decide +kernel, rfl, lwm 84 (by decide +kernel) (by decide +kernel), rfl, by decide +kernel⟩
set_option maxRecDepth 20000 in
theorem pX1_22 : FLp RX1 22 1 3 .int := ⟨RX1, TX1, 4, rfl, by decide +kernel, rfl, lwm 85 (by decide +kernel) (by decide +kernel), rfl, by decide +kernel⟩
set_option maxRecDepth 20000 in
theorem pX2_15 : FLp RX2 15 2 1 .long := ⟨RX2, TX2, 10, rfl, by decide +kernel, rfl, lwm 104 (by decide +kernel) (by decide +kernel), rfl, by decide +kernel⟩
set_option maxRecDepth 20000 in
theorem pX2_19 : FLp RX2 19 2 2 .int := ⟨RX2, TX2, 10, rfl, by decide +kernel, rfl, lwm 105 (by decide +kernel) (by decide +kernel), rfl, by decide +kernel⟩
set_option maxRecDepth 20000 in
theorem pX2_34 : FLp RX2 34 2 6 .int := ⟨RX2, TX2, 10, rfl, by decide +kernel, rfl, lwm 109 (by decide +kernel) (by decide +kernel), rfl, by decide +kernel⟩
set_option maxRecDepth 20000 in
theorem pX2_43 : FLp RX2 43 2 9 .long := ⟨RX2, TX2, 10, rfl, by decide +kernel, rfl, lwm 112 (by decide +kernel) (by decide +kernel), rfl, by decide +kernel⟩
set_option maxRecDepth 20000 in
theorem pX5_55 : FLp RX5 55 5 8 .int := ⟨RX5, TX5, 11, rfl, by decide +kernel, rfl, lwm 144 (by decide +kernel) (by decide +kernel), rfl, by decide +kernel⟩
set_option maxRecDepth 20000 in
theorem pX5_59 : FLp RX5 59 5 9 .int := ⟨RX5, TX5, 11, rfl, by decide +kernel, rfl, lwm 145 (by decide +kernel) (by decide +kernel), rfl, by decide +kernel⟩
set_option maxRecDepth 20000 in
theorem pX5_62 : FLp RX5 62 5 10 .int := ⟨RX5, TX5, 11, rfl, by decide +kernel, rfl, lwm 146 (by decide +kernel) (by decide +kernel), rfl, by decide +kernel⟩
theorem z_sld {M : MD} {g : GG} {pc : Nat} {lv st : List AV} {h : HH} {Q : Option AV → HH → Prop} {i : Int} (d : decode (mb M) pc = .ok (.iaload, 1)) (h0 : 0 ≤ i) (h1 : i < scn g) (k : Z M g (pc + 1) lv (vi (scx g i.toNat).toInt :: st) h Q) : Z M g pc lv (vi i :: vr 50 :: st) h Q := by
  intro p l e s m args below meth c F H locs ls X L
  have S := F.2.2.2.2.2.2.2.2.2
  refine va_sld F.1 F.2.1 S.1 S.2.1 (SX_new S) X.2.2.1 (iI_in h0 h1 (by have := S.2.2.2; omega)) d ?_
  have e2 : scx g ((iI i).toNatClampNeg) = iI (scx g i.toNat).toInt := by rw [iI_cl (by have := S.2.2.2; omega) h0, iI_of]
  rw [e2]
  exact k p l e s m args below meth c F H locs ls X L
theorem z_slen {M : MD} {g : GG} {pc : Nat} {lv st : List AV} {h : HH} {Q : Option AV → HH → Prop} (d : decode (mb M) pc = .ok (.arraylength, 1)) (k : scn g ≤ 260 → Z M g (pc + 1) lv (vi (scn g : Int) :: st) h Q) : Z M g pc lv (vr 50 :: st) h Q := by
  intro p l e s m args below meth c F H locs ls X L
  have S := F.2.2.2.2.2.2.2.2.2
  have e9 : Int32.ofNat (scn g) = iI (scn g : Int) := Int32.ofInt_eq_ofNat.symm
  refine va_slen F.1 F.2.1 S.1 S.2.1 (SX_new S) X.2.2.1 d ?_
  rw [e9]
  exact k S.2.2.2 p l e s m args below meth c F H locs ls X L

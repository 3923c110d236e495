/-! THE SMALL MACHINE: values, the world as one list of sixty cells whose numbers are h k j, and Z, the judgement of a frame, with all of the machine's own inside it. -/
abbrev AV : Type := Int ⊕ Int ⊕ Nat ⊕ UInt32 ⊕ Unit
abbrev vi (z : Int) : AV := .inl z
abbrev vl (z : Int) : AV := .inr (.inl z)
abbrev vr (k : Nat) : AV := .inr (.inr (.inl k))
abbrev vf (u : UInt32) : AV := .inr (.inr (.inr (.inl u)))
abbrev vx : AV := .inr (.inr (.inr (.inr ())))
abbrev GG : Type := va_G × (Nat → ClassId) × (Nat → Nat)
abbrev HH : Type := Nat → Nat → Int
abbrev R32 (z : Int) : Prop := -2147483648 ≤ z ∧ z < 2147483648
abbrev R64 (z : Int) : Prop := -9223372036854775808 ≤ z ∧ z < 9223372036854775808
def iI (z : Int) : Int32 := Int32.ofInt z
def lI (z : Int) : Int64 := Int64.ofInt z
theorem iI_add (a b : Int) : iI a + iI b = iI (a + b) := (Int32.ofInt_add a b).symm
theorem iI_mul (a b : Int) : iI a * iI b = iI (a * b) := (Int32.ofInt_mul a b).symm
theorem iI_neg (a : Int) : -iI a = iI (-a) := (Int32.ofInt_neg a).symm
theorem iI_sub (a b : Int) : iI a - iI b = iI (a - b) := by rw [Int32.sub_eq_add_neg, iI_neg, iI_add, Int.sub_eq_add_neg]
theorem lI_add (a b : Int) : lI a + lI b = lI (a + b) := (Int64.ofInt_add a b).symm
theorem lI_mul (a b : Int) : lI a * lI b = lI (a * b) := (Int64.ofInt_mul a b).symm
theorem lI_neg (a : Int) : -lI a = lI (-a) := (Int64.ofInt_neg a).symm
theorem lI_sub (a b : Int) : lI a - lI b = lI (a - b) := by rw [Int64.sub_eq_add_neg, lI_neg, lI_add, Int.sub_eq_add_neg]
theorem iI_toInt {a : Int} (h : R32 a) : (iI a).toInt = a := Int32.toInt_ofInt_of_le h.1 h.2
theorem lI_toInt {a : Int} (h : R64 a) : (lI a).toInt = a := Int64.toInt_ofInt_of_le h.1 h.2
theorem iI_of (x : Int32) : iI x.toInt = x := Int32.ofInt_toInt x
theorem lI_of (x : Int64) : lI x.toInt = x := Int64.ofInt_toInt x
theorem r32_of (x : Int32) : R32 x.toInt := ⟨Int32.le_toInt x, Int32.toInt_lt x⟩
theorem iI_lt {a b : Int} (ha : R32 a) (hb : R32 b) : iI a < iI b ↔ a < b := by rw [Int32.lt_iff_toInt_lt, iI_toInt ha, iI_toInt hb]
theorem iI_le {a b : Int} (ha : R32 a) (hb : R32 b) : iI a ≤ iI b ↔ a ≤ b := by rw [Int32.le_iff_toInt_le, iI_toInt ha, iI_toInt hb]
theorem iI_eq {a b : Int} (ha : R32 a) (hb : R32 b) : iI a = iI b ↔ a = b := by rw [← Int32.toInt_inj, iI_toInt ha, iI_toInt hb]
theorem iI_0 : iI 0 = 0 := rfl
theorem r32_0 : R32 0 := by decide
theorem lI_0 : lI 0 = 0 := rfl
theorem lI_eq {a b : Int} (ha : R64 a) (hb : R64 b) : lI a = lI b ↔ a = b := by rw [← Int64.toInt_inj, lI_toInt ha, lI_toInt hb]
theorem lI_lt {a b : Int} (ha : R64 a) (hb : R64 b) : lI a < lI b ↔ a < b := by rw [Int64.lt_iff_toInt_lt, lI_toInt ha, lI_toInt hb]
theorem lI_le {a b : Int} (ha : R64 a) (hb : R64 b) : lI a ≤ lI b ↔ a ≤ b := by rw [Int64.le_iff_toInt_le, lI_toInt ha, lI_toInt hb]
theorem iI_cl {a : Int} (ha : R32 a) (h0 : 0 ≤ a) : (iI a).toNatClampNeg = a.toNat := by
  show (iI a).toInt.toNat = a.toNat
  rw [iI_toInt ha]
theorem iI_in {a : Int} {n : Nat} (h0 : 0 ≤ a) (h1 : a < n) (h2 : n < 2147483648) : vp_in (iI a) n := by
  have hr : R32 a := by omega
  rw [vp_in_iff, iI_toInt hr]
  exact ⟨h0, h1⟩
theorem iI_div {a b : Int} (ha : R32 a) (hb : R32 b) : iI a / iI b = iI (a.tdiv b) := by
  have e0 : Int32.minValue.toInt = -2147483648 := by decide
  have e1 : Int32.maxValue.toInt = 2147483647 := by decide
  exact (Int32.ofInt_tdiv (by omega) (by omega) (by omega) (by omega)).symm
theorem lI_div {a b : Int} (ha : R64 a) (hb : R64 b) : lI a / lI b = lI (a.tdiv b) := by
  have e0 : Int64.minValue.toInt = -9223372036854775808 := by decide
  have e1 : Int64.maxValue.toInt = 9223372036854775807 := by decide
  exact (Int64.ofInt_tdiv (by omega) (by omega) (by omega) (by omega)).symm
theorem tmod_eq_sub (a b : Int) : a - a.tdiv b * b = a.tmod b := by
  have := Int.tmod_add_tdiv_mul a b
  omega
theorem iI_mod {a b : Int} (ha : R32 a) (hb : R32 b) : iI a - iI a / iI b * iI b = iI (a.tmod b) := by
  rw [iI_div ha hb, iI_mul, iI_sub, tmod_eq_sub]
theorem lI_mod {a b : Int} (ha : R64 a) (hb : R64 b) : lI a - lI a / lI b * lI b = lI (a.tmod b) := by
  rw [lI_div ha hb, lI_mul, lI_sub, tmod_eq_sub]
theorem iI_l {a : Int} (ha : R32 a) : (iI a).toInt64 = lI a := by
  rw [← Int64.toInt_inj, Int32.toInt_toInt64, iI_toInt ha, lI_toInt ⟨by omega, by omega⟩]
theorem lI_i (a : Int) : (lI a).toInt32 = iI a := Int64.toInt32_ofInt
/-- bits, by the machine's own -/
def iand (a b : Int) : Int := (iI a &&& iI b).toInt
def ior (a b : Int) : Int := (iI a ||| iI b).toInt
def ixor (a b : Int) : Int := (iI a ^^^ iI b).toInt
def ishl (a b : Int) : Int := (iI a <<< (iI b &&& 31)).toInt
def ishr (a b : Int) : Int := (iI a >>> (iI b &&& 31)).toInt
def iushr (a b : Int) : Int := ((iI a).toUInt32 >>> ((iI b).toUInt32 &&& Int32.toUInt32 31)).toInt32.toInt
def icmp (a b : Int) : Int := if a < b then -1 else if a = b then 0 else 1
theorem icmp_lg {a b : Int} (ha : R64 a) (hb : R64 b) : lg_cmp (lI a) (lI b) = iI (icmp a b) := by
  unfold lg_cmp icmp
  have e1 : (lI a > lI b) ↔ b < a := lI_lt hb ha
  have e2 := lI_eq ha hb
  by_cases h1 : b < a
  · rw [if_pos (e1.mpr h1), if_neg (by omega), if_neg (by omega)]; rfl
  · rw [if_neg (mt e1.mp h1)]
    by_cases h2 : a = b
    · rw [if_pos (e2.mpr h2), if_neg (by omega), if_pos h2]; rfl
    · rw [if_neg (mt e2.mp h2), if_pos (by omega)]; rfl
def cv (g : GG) : AV → Value
  | .inl z => .int (iI z)
  | .inr (.inl z) => .long (lI z)
  | .inr (.inr (.inl k)) => .ref (g.2.2 k)
  | .inr (.inr (.inr (.inl u))) => .float u
  | .inr (.inr (.inr (.inr _))) => .null
/-- is it a value (not a place that holds none) -/
def avb : AV → Bool
  | .inr (.inr (.inr (.inr _))) => false
  | _ => true
def avc : AV → Nat
  | .inr (.inl _) => 2
  | _ => 1
theorem cv_cat (g : GG) (v : AV) : (cv g v).category = avc v := by
  rcases v with _ | _ | _ | _ | _ <;> rfl
/-- the sixty cells: (0, class, fields: int at j, long at j, the cell k); (1, n) int[], (2, n) long[], (3, n) boolean[], (4, n) int[][], (5, n) long[][] of the cells from a base on -/
def shp (k : Nat) : Nat × Nat × List (Nat × Nat) :=
  if k = 0 then (0, 5, [(2, 1), (2, 3), (2, 5), (2, 7), (2, 9), (2, 18), (2, 35), (2, 44), (0, 8), (0, 9), (0, 10)])
  else if k = 1 then (0, 0, [(2, 2)])
  else if k = 3 then (0, 0, [(2, 4)])
  else if k = 5 then (0, 3, [(2, 6), (0, 1), (0, 2), (0, 3)])
  else if k = 6 then (1, 90, [])
  else if k = 7 then (0, 4, [(2, 8), (0, 1)])
  else if k = 8 then (1, 4, [])
  else if k = 9 then (0, 1, [(2, 10), (2, 17), (0, 2), (0, 3)])
  else if k = 10 then (5, 6, [(11, 0)])
  else if k < 5 then (1, 63, [])
  else if k < 17 then (2, 6, [])
  else if k = 17 then (2, 4096, [])
  else if k = 18 then (0, 2, [(2, 19), (1, 1), (0, 2), (2, 20), (2, 21), (2, 22), (0, 6), (2, 28), (2, 34), (1, 9)])
  else if k = 22 then (5, 5, [(23, 0)])
  else if k = 28 then (5, 5, [(29, 0)])
  else if k < 35 then (2, 6, [])
  else if k = 35 then (4, 8, [(36, 0)])
  else if k = 44 then (4, 2, [(45, 0)])
  else if k < 47 then (1, 63, [])
  else if k = 47 then (1, 52, [])
  else if k = 48 then (1, 18, [])
  else (2, 42, [])
def fld (g : GG) (h : Nat → Int) (q : Nat × Nat) : Value := match q.1 with
  | 0 => .int (iI (h q.2))
  | 1 => .long (lI (h q.2))
  | _ => .ref (g.2.2 q.2)
def cof (g : GG) (h : Nat → Int) (t : Nat × Nat × List (Nat × Nat)) : va_E := match t.1 with
  | 0 => .inr (t.2.1, t.2.2.map (fld g h))
  | 1 => .inl (g.2.1 0, (t.2.1, .inl (fun j => iI (h j))))
  | 2 => .inl (g.2.1 1, (t.2.1, .inr (.inl (fun j => lI (h j)))))
  | 3 => .inl (g.2.1 2, (t.2.1, .inl (fun j => iI (h j))))
  | 4 => .inl (g.2.1 3, (t.2.1, .inr (.inr (.inr (.inr (fun j => some (g.2.2 ((t.2.2.getD 0 (0, 0)).1 + j))))))))
  | _ => .inl (g.2.1 4, (t.2.1, .inr (.inr (.inr (.inr (fun j => some (g.2.2 ((t.2.2.getD 0 (0, 0)).1 + j))))))))
def ct (g : GG) (h : HH) (k : Nat) : va_E := cof g (h k) (shp k)
def wl (g : GG) (h : HH) : va_W := (List.range 50).map (fun k => (g.2.2 k, ct g h k))
theorem wl_get {g : GG} {h : HH} {k : Nat} (hk : k < 50) : (wl g h)[k]? = some (g.2.2 k, ct g h k) := by
  unfold wl
  rw [List.getElem?_map, List.getElem?_range hk]
  rfl
theorem wl_len (g : GG) (h : HH) : (wl g h).length = 50 := by unfold wl; simp
/-- one number more told -/
def up (h : HH) (k j : Nat) (v : Int) : HH := fun a => if a = k then fun b => if b = j then v else h a b else h a
theorem up_same (h : HH) (k j : Nat) (v : Int) : up h k j v k j = v := by simp [up]
theorem up_at (h : HH) (k j : Nat) (v : Int) : up h k j v k = fun b => if b = j then v else h k b := by simp [up]
theorem up_ne (h : HH) {k a : Nat} (j : Nat) (v : Int) (n : a ≠ k) : up h k j v a = h a := by simp [up, n]
theorem wl_set {g : GG} {h h' : HH} {k : Nat} {e : va_E} (hk : k < 50) (he : ct g h' k = e) (ho : ∀ a, a ≠ k → h' a = h a) : (wl g h).set k (g.2.2 k, e) = wl g h' := by
  apply List.ext_getElem?
  intro i
  rw [List.getElem?_set]
  by_cases hi : i < 50
  · rw [wl_get hi, wl_get hi, wl_len]
    by_cases e1 : k = i
    · subst e1
      rw [if_pos rfl, if_pos hk, he]
    · rw [if_neg e1]
      unfold ct
      rw [ho i (Ne.symm e1)]
  · rw [List.getElem?_eq_none (by rw [wl_len]; omega), List.getElem?_eq_none (by rw [wl_len]; omega)]
    by_cases e1 : k = i
    · omega
    · rw [if_neg e1]
def tysOf (g : GG) : List (ClassId × FieldType) := [(g.2.1 0, .int), (g.2.1 1, .long), (g.2.1 2, .int), (g.2.1 3, .array .int), (g.2.1 4, .array .long)]
def NW (U : State) : Prop := ∀ q ∈ lw_nst, va_Nw (.methodLinkNest q.1 q.2.1 q.2.2.1 q.2.2.2) U
def AA (g : GG) (sz : Nat) : Nat → Prop := fun q => (∃ k, k < 50 ∧ q = g.2.2 k) ∨ sz ≤ q
/-- the script: an array of ints outside the world; its cell, length and numbers stand behind the cells in g -/
def scn (g : GG) : Nat := g.2.2 51
def scx (g : GG) (j : Nat) : Int32 := Int32.ofNat (g.2.2 (52 + j))
def SX (g : GG) (s : State) : Prop := va_X (g.2.2 50) (scn g) (scx g) s s.heap ∧ g.2.2 50 < s.heap.size ∧ (∀ k, k < 50 → g.2.2 50 ≠ g.2.2 k) ∧ scn g ≤ 260
theorem SX_new {g : GG} {s : State} (h : SX g s) : ¬ AA g s.heap.size (g.2.2 50) := by
  rintro (⟨k, hk, e⟩ | q)
  · exact h.2.2.1 k hk e
  · exact Nat.lt_irrefl _ (Nat.lt_of_lt_of_le h.2.1 q)
def rmM (M : MD) : Room := { frames := mf M, cells := 0, slots := 0, locals := ml M }
def wsM (M : MD) : List Cond := .code (my M) (mb M) (mn M) (mr M) :: lw_ok
/-- what holds of a frame of M, as long as it lasts -/
def Fx (M : MD) (g : GG) (p : Program) (s : State) (m : MethodId) (args : Array Value) (meth : Method) (c : Code) : Prop :=
  p.tables.exec = Jvm.exec ∧ c.code = mb M ∧ meth.sig.returnType = mr M ∧ c.maxLocals = mn M ∧ s.vm.findClass (mo M) = some m.cls ∧ (∀ w ∈ lw_ok, w.before args s = true) ∧ meth.locks = false ∧ va_K g.1 vwCl (tysOf g) s ∧ NW s ∧ SX g s
/-- every number is one of its place -/
def RR (h : HH) : Prop := (∀ k j, R64 (h k j)) ∧ (∀ k, (shp k).1 = 1 ∨ (shp k).1 = 3 → ∀ j, R32 (h k j)) ∧ (∀ k, (shp k).1 = 0 → ∀ (i j : Nat), (shp k).2.2[i]? = some (0, j) → R32 (h k j))
/-- what holds of the heap now -/
def Hx (g : GG) (h : HH) (s : State) (H : Heap) (locs : List Loc) : Prop := va_P g.1 vwCl (wl g h) H ∧ va_D (AA g s.heap.size) (wl g h) ∧ va_S (AA g s.heap.size) s.heap H locs ∧ RR h
def lp (g : GG) : Nat → List AV → List (Nat × Value)
  | _, [] => []
  | i, v :: vs => if avb v then (i, cv g v) :: lp g (i + 1) vs else lp g (i + 1) vs
theorem lp_mem {g : GG} {q : Nat × Value} : ∀ {lv : List AV} {i : Nat}, q ∈ lp g i lv ↔ ∃ j v, lv[j]? = some v ∧ avb v = true ∧ q = (i + j, cv g v)
  | [], i => by simp [lp]
  | a :: vs, i => by
    have ih := lp_mem (g := g) (q := q) (lv := vs) (i := i + 1)
    constructor
    · intro h
      unfold lp at h
      split at h
      · rename_i hb
        rcases List.mem_cons.mp h with h | h
        · exact ⟨0, a, rfl, hb, h⟩
        · obtain ⟨j, v, h1, h2, h3⟩ := ih.mp h
          exact ⟨j + 1, v, h1, h2, by rw [h3]; congr 1; omega⟩
      · obtain ⟨j, v, h1, h2, h3⟩ := ih.mp h
        exact ⟨j + 1, v, h1, h2, by rw [h3]; congr 1; omega⟩
    · rintro ⟨j, v, h1, h2, h3⟩
      unfold lp
      match j, h1, h3 with
      | 0, h1, h3 =>
        cases h1
        rw [if_pos h2]
        exact List.mem_cons.mpr (Or.inl h3)
      | j + 1, h1, h3 =>
        have : q ∈ lp g (i + 1) vs := ih.mpr ⟨j, v, h1, h2, by rw [h3]; congr 1; omega⟩
        split
        · exact List.mem_cons_of_mem _ this
        · exact this
/-- the locals -/
def lrep (g : GG) (nL : Nat) (lv : List AV) (ls : Array Slot) : Prop := lv.length = nL ∧ lv_has ls nL (lp g 0 lv)
theorem lrep_get {g : GG} {nL n : Nat} {lv : List AV} {ls : Array Slot} {v : AV} (L : lrep g nL lv ls) (h : lv[n]? = some v) (hb : avb v = true) : ls[n]? = some (.val (cv g v)) := by
  have := L.2.2.2 (0 + n, cv g v) (lp_mem.mpr ⟨n, v, h, hb, rfl⟩)
  simpa using this
theorem lv_has_mono {ls : Array Slot} {nL : Nat} {l l' : List (Nat × Value)} (h : lv_has ls nL l) (hl : ∀ q ∈ l', q ∈ l) : lv_has ls nL l' := ⟨h.1, h.2.1, fun q hq => h.2.2 q (hl q hq)⟩
/-- no long lies just ahead of i -/
def nlng (lv : List AV) (i : Nat) : Bool := match i with
  | 0 => true
  | j + 1 => match lv[j]? with
    | some v => avc v == 1
    | none => true
theorem lrep_set1 {g : GG} {nL i : Nat} {lv : List AV} {ls ls' : Array Slot} {a : AV} {l : List (Nat × Value)} (L : lrep g nL lv ls) (hn : nlng lv i = true) (hl : ∀ q ∈ lp g 0 lv, q ∈ l) (h : lv_has ls' nL ((i, cv g a) :: l.filter (fun q => !(q.1 == i) && !(q.1 + 1 == i && q.2.category == 2)))) : lrep g nL (lv.set i a) ls' := by
  refine ⟨by rw [List.length_set]; exact L.1, lv_has_mono h fun q hq => ?_⟩
  obtain ⟨j, v, h1, h2, h3⟩ := lp_mem.mp hq
  rw [List.getElem?_set] at h1
  by_cases e : i = j
  · subst e
    rw [if_pos rfl] at h1
    split at h1
    · cases h1
      rw [h3, Nat.zero_add]
      exact List.mem_cons_self
    · cases h1
  · rw [if_neg e] at h1
    refine List.mem_cons_of_mem _ (List.mem_filter.mpr ⟨hl _ (lp_mem.mpr ⟨j, v, h1, h2, h3⟩), ?_⟩)
    rw [h3]
    simp only [Nat.zero_add, Bool.and_eq_true, Bool.not_eq_true', beq_eq_false_iff_ne, ne_eq, Bool.and_eq_false_iff]
    refine ⟨fun e2 => e e2.symm, ?_⟩
    by_cases e3 : j + 1 = i
    · right
      subst e3
      have hn : (match lv[j]? with | some v => avc v == 1 | none => true) = true := hn
      rw [h1] at hn
      rw [cv_cat]
      have : avc v = 1 := by simpa using hn
      omega
    · left; exact e3
theorem lrep_set2 {g : GG} {nL i : Nat} {lv : List AV} {ls ls' : Array Slot} {a : AV} (L : lrep g nL lv ls) (hn : nlng lv i = true) (h : lv_has ls' nL ((i, cv g a) :: (lp g 0 lv).filter (fun q => !(q.1 == i) && (!(q.1 == i + 1) && !(q.1 + 1 == i && q.2.category == 2))))) : lrep g nL ((lv.set i a).set (i + 1) vx) ls' := by
  refine ⟨by rw [List.length_set, List.length_set]; exact L.1, lv_has_mono h fun q hq => ?_⟩
  obtain ⟨j, v, h1, h2, h3⟩ := lp_mem.mp hq
  rw [List.getElem?_set, List.getElem?_set] at h1
  by_cases e1 : i + 1 = j
  · subst e1
    rw [if_pos rfl] at h1
    split at h1
    · cases h1
      cases h2
    · cases h1
  · rw [if_neg e1] at h1
    by_cases e : i = j
    · subst e
      rw [if_pos rfl] at h1
      split at h1
      · cases h1
        rw [h3, Nat.zero_add]
        exact List.mem_cons_self
      · cases h1
    · rw [if_neg e] at h1
      refine List.mem_cons_of_mem _ (List.mem_filter.mpr ⟨lp_mem.mpr ⟨j, v, h1, h2, h3⟩, ?_⟩)
      rw [h3]
      simp only [Nat.zero_add, Bool.and_eq_true, Bool.not_eq_true', beq_eq_false_iff_ne, ne_eq, Bool.and_eq_false_iff]
      refine ⟨fun e2 => e e2.symm, fun e2 => e1 e2.symm, ?_⟩
      by_cases e3 : j + 1 = i
      · right
        subst e3
        have hn : (match lv[j]? with | some v => avc v == 1 | none => true) = true := hn
        rw [h1] at hn
        rw [cv_cat]
        have : avc v = 1 := by simpa using hn
        omega
      · left; exact e3
theorem lrep_forget {g : GG} {nL i : Nat} {lv : List AV} {ls : Array Slot} (L : lrep g nL lv ls) : lrep g nL (lv.set i vx) ls := by
  refine ⟨by rw [List.length_set]; exact L.1, lv_has_mono L.2 fun q hq => ?_⟩
  obtain ⟨j, v, h1, h2, h3⟩ := lp_mem.mp hq
  rw [List.getElem?_set] at h1
  by_cases e : i = j
  · subst e
    rw [if_pos rfl] at h1
    split at h1
    · cases h1; cases h2
    · cases h1
  · rw [if_neg e] at h1
    exact lp_mem.mpr ⟨j, v, h1, h2, h3⟩
/-- an end: an answer r, the numbers h' -/
def QQ (g : GG) (Q : Option AV → HH → Prop) : Array Value → State → Outcome → State → Prop := fun _ st oc t => (∃ (r : Option AV) (h' : HH), oc = .returned (r.map (cv g)) ∧ Q r h' ∧ va_P g.1 vwCl (wl g h') t.heap ∧ va_K g.1 vwCl (tysOf g) t ∧ RR h') ∧ va_F (AA g st.heap.size) st t
/-- THE JUDGEMENT: from this place of M, with these locals, this stack and these numbers, M comes to its end with Q -/
def Z (M : MD) (g : GG) (pc : Nat) (lv st : List AV) (h : HH) (Q : Option AV → HH → Prop) : Prop :=
  ∀ (p : Program) (l : Launch) (e : Env) (s : State) (m : MethodId) (args : Array Value) (below : List Frame) (meth : Method) (c : Code), Fx M g p s m args meth c → ∀ (H : Heap) (locs : List Loc) (ls : Array Slot), Hx g h s H locs → lrep g (mn M) lv ls →
    W p l e (rmM M) s m args below meth c H locs 0 0 (MQ below (QQ g Q) args s 0 0 (AA g s.heap.size)) (F0 m pc ls (st.map (cv g)))
/-- THE CONTRACT of M at these arguments and numbers -/
def Cn (M : MD) (g : GG) (av : List AV) (h : HH) (Q : Option AV → HH → Prop) : Prop :=
  ∀ (l : Launch) (sz : Nat), Met l (my M) (wsM M) (rmM M) (va_Pc (av.map (cv g)) (fun U => U.heap.size = sz ∧ va_P g.1 vwCl (wl g h) U.heap ∧ va_K g.1 vwCl (tysOf g) U ∧ va_D (fun _ => True) (wl g h) ∧ (NW U ∧ SX g U) ∧ RR h)) (QQ g Q) 0 0 (AA g sz)
theorem AA_self {g : GG} {h : HH} {A : Nat → Prop} {sz : Nat} (hD : va_D A (wl g h)) : va_D (AA g sz) (wl g h) := by
  refine hD.weaken fun k q hk _ => ?_
  have hl : k < 50 := by
    have := (List.getElem?_eq_some_iff.mp hk).1
    rwa [wl_len] at this
  rw [wl_get hl] at hk
  cases hk
  exact Or.inl ⟨k, hl, rfl⟩
theorem AA_h {g : GG} {h h' : HH} {A : Nat → Prop} (hD : va_D A (wl g h)) : va_D A (wl g h') := by
  have key : ∀ (k : Nat) (q : Nat × va_E), (wl g h')[k]? = some q → ∃ q0, (wl g h)[k]? = some q0 ∧ q0.1 = q.1 := by
    intro k q hk
    have hl : k < 50 := by
      have := (List.getElem?_eq_some_iff.mp hk).1
      rwa [wl_len] at this
    rw [wl_get hl] at hk
    cases hk
    exact ⟨_, wl_get hl, rfl⟩
  refine ⟨fun i j p q hp hq e => ?_, fun k q hk => ?_⟩
  · obtain ⟨p0, a1, a2⟩ := key i p hp
    obtain ⟨q0, b1, b2⟩ := key j q hq
    exact hD.1 i j p0 q0 a1 b1 (by rw [a2, b2, e])
  · obtain ⟨q0, b1, b2⟩ := key k q hk
    rw [← b2]
    exact hD.2 k q0 b1
/-- the locals at a method's entry -/
def lvOf (n : Nat) (av : List AV) : List AV := (av.flatMap fun v => if avc v = 2 then [v, vx] else [v]) ++ List.replicate (n - (av.flatMap fun v => if avc v = 2 then [v, vx] else [v]).length) vx
theorem lg_sl_len (g : GG) (av : List AV) : (lg_sl (av.map (cv g))).length = (av.flatMap fun v => if avc v = 2 then [v, vx] else [v]).length := by
  induction av with
  | nil => rfl
  | cons a as ih =>
    unfold lg_sl at ih ⊢
    rw [List.map_cons, List.flatMap_cons, List.flatMap_cons, List.length_append, List.length_append, ih, cv_cat]
    split <;> rfl
theorem lp_args (g : GG) (av : List AV) (q : Nat × Value) : ∀ (i n : Nat), q ∈ lp g i ((av.flatMap fun v => if avc v = 2 then [v, vx] else [v]) ++ List.replicate n vx) → q ∈ lv_args i (av.map (cv g)) := by
  induction av with
  | nil =>
    intro i n h
    exfalso
    have : ∀ (n i : Nat), lp g i (List.replicate n vx) = [] := by
      intro n
      induction n with
      | zero => intro i; rfl
      | succ n ih => intro i; rw [List.replicate_succ]; unfold lp; rw [if_neg (by decide)]; exact ih _
    simp only [List.flatMap_nil, List.nil_append] at h
    rw [this] at h
    cases h
  | cons a as ih =>
    intro i n h
    rw [List.flatMap_cons] at h
    rw [List.map_cons]
    unfold lv_args
    rw [cv_cat]
    by_cases ha : avc a = 2
    · rw [if_pos ha] at h
      simp only [List.cons_append, List.nil_append] at h
      unfold lp at h
      unfold lp at h
      rw [if_neg (by decide : ¬ avb vx = true)] at h
      split at h
      · rcases List.mem_cons.mp h with h | h
        · rw [h]; simp
        · have := ih _ _ h
          simp [ha]
          exact Or.inr this
      · have := ih _ _ h
        simp [ha]
        exact Or.inr this
    · rw [if_neg ha] at h
      simp only [List.cons_append, List.nil_append] at h
      unfold lp at h
      split at h
      · rcases List.mem_cons.mp h with h | h
        · rw [h]; simp
        · have := ih _ _ h
          simp [ha]
          exact Or.inr this
      · have := ih _ _ h
        simp [ha]
        exact Or.inr this
/-- a field that may be written -/
def FLp (own : String) (idx ci j : Nat) (ty : FieldType) : Prop := ∃ (C : String) (T : u_T) (N : Nat), vwCl[ci]? = some (C, T, N) ∧ j < N ∧ C = own ∧ Cond.fieldLink own idx (T j).1 (T j).2.1 (T j).2.2.1 ∈ lw_ok ∧ (T j).2.2.2 = false ∧ parseFieldDescriptor (T j).2.2.1 = some ty
theorem RR_up32 {h : HH} {k j : Nat} {v : Int} (hR : RR h) (hv : R32 v) : RR (up h k j v) := by
  refine ⟨fun a b => ?_, fun a ha b => ?_, fun a ha i b hq => ?_⟩
  · by_cases e : a = k
    · subst e; rw [up_at]; show R64 (if b = j then v else h a b); split
      · exact ⟨by omega, by omega⟩
      · exact hR.1 a b
    · rw [up_ne h j v e]; exact hR.1 a b
  · by_cases e : a = k
    · subst e; rw [up_at]; show R32 (if b = j then v else h a b); split
      · exact hv
      · exact hR.2.1 a ha b
    · rw [up_ne h j v e]; exact hR.2.1 a ha b
  · by_cases e : a = k
    · subst e; rw [up_at]; show R32 (if b = j then v else h a b); split
      · exact hv
      · exact hR.2.2 a ha i b hq
    · rw [up_ne h j v e]; exact hR.2.2 a ha i b hq
theorem RR_up64 {h : HH} {k j : Nat} {v : Int} (hR : RR h) (hv : R64 v) (hk : (shp k).1 = 2 ∨ (shp k).1 = 0 ∧ ∀ i : Nat, ¬ (shp k).2.2[i]? = some (0, j)) : RR (up h k j v) := by
  refine ⟨fun a b => ?_, fun a ha b => ?_, fun a ha i b hq => ?_⟩
  · by_cases e : a = k
    · subst e; rw [up_at]; show R64 (if b = j then v else h a b); split
      · exact hv
      · exact hR.1 a b
    · rw [up_ne h j v e]; exact hR.1 a b
  · by_cases e : a = k
    · subst e; omega
    · rw [up_ne h j v e]; exact hR.2.1 a ha b
  · by_cases e : a = k
    · subst e; rw [up_at]; show R32 (if b = j then v else h a b); split
      · rename_i e2
        subst e2
        rcases hk with hk | hk
        · omega
        · exact absurd hq (hk.2 i)
      · exact hR.2.2 a ha i b hq
    · rw [up_ne h j v e]; exact hR.2.2 a ha i b hq
set_option maxHeartbeats 4000000 in
theorem cn_of_z {M : MD} {g : GG} {av lv : List AV} {h : HH} {Q : Option AV → HH → Prop} {n : Nat} (hT : TgB M n) (hlv : lvOf (mn M) av = lv) (hlen : lv.length = mn M) (K : Z M g 0 lv [] h Q) : Cn M g av h Q := by
  intro l sz
  refine Met.ofW (cc := mb M) (maxL := mn M) (ret := mr M) hT.1 rfl ?_
  intro p e s m args below meth c s₁ B hml hv
  obtain ⟨rfl, hsz, hP, hK, hD0, hN, hR⟩ := hv
  have hts := atoms_spec (ws := wsM M) B.pre
  have hown : s.vm.findClass (mo M) = some m.cls := by
    have := findClass_of_methodNamed B.named
    rw [hT.2.1] at this
    exact this
  subst hsz
  have hlen2 : (av.flatMap fun v => if avc v = 2 then [v, vx] else [v]).length ≤ mn M := by
    rw [← hlen, ← hlv]
    unfold lvOf
    rw [List.length_append]
    omega
  have hl := lv_entry (av.map (cv g)) (n := mn M) (by rw [lg_sl_len]; exact hlen2)
  rw [lg_entry_eq]
  refine K p l e s m _ below meth c ⟨B.exec, B.bytes, B.returns, hml, hown, fun w hw => hts w (List.mem_cons_of_mem _ hw), B.notSynchronized, hK, hN⟩ s.heap [] _ ⟨hP, AA_self hD0, va_S.rf, hR⟩ ⟨hlen, lv_has_mono hl fun q hq => ?_⟩
  subst hlv
  exact lp_args g av q 0 _ hq
theorem AA_mono {g : GG} {a b : Nat} (h : a ≤ b) (q : Nat) (hq : AA g b q) : AA g a q := by
  rcases hq with hq | hq
  · exact Or.inl hq
  · exact Or.inr (Nat.le_trans h hq)
theorem avc_sum (g : GG) (st : List AV) : ((st.map (cv g)).map fun v => v.category).sum = (st.map avc).sum := by
  induction st with
  | nil => rfl
  | cons a as ih => rw [List.map_cons, List.map_cons, List.map_cons, List.sum_cons, List.sum_cons, ih, cv_cat]
theorem NW_same {u U : State} (h : u.vm = U.vm) (hN : NW u) : NW U := fun q hq => va_Nw.same rfl h (hN q hq)
theorem NW_warm {s U : State} (hW : s.WarmedH U.vm) (hN : NW s) : NW U := fun q hq => va_Nw.warmM hW (hN q hq)
theorem pc_blind {g : GG} {av : List AV} {h : HH} {sz : Nat} : FrameBlind (va_Pc (av.map (cv g)) (fun U => U.heap.size = sz ∧ va_P g.1 vwCl (wl g h) U.heap ∧ va_K g.1 vwCl (tysOf g) U ∧ va_D (fun _ => True) (wl g h) ∧ (NW U ∧ SX g U) ∧ RR h)) := fun a U f mk q => by
  obtain ⟨q0, q1, qP, qK, qD, qN, qR⟩ := q
  exact ⟨q0, q1, qP, va_K.moved (u := U) (U := U.calling f mk a) (Vm.Alike.refl U.vm) qK, qD, ⟨NW_same (u := U) rfl qN.1, va_X.moved (u := U) (U := U.calling f mk a) (Vm.Alike.refl U.vm) qN.2.1, qN.2.2⟩, qR⟩
theorem pc_start {g : GG} {av : List AV} {h : HH} {s U : State} {H : Heap} {locs : List Loc} (hK : va_K g.1 vwCl (tysOf g) s) (hN : NW s ∧ SX g s) (X : Hx g h s H locs) (hU : U.heap = H) (hW : s.WarmedH U.vm) : va_Pc (av.map (cv g)) (fun U => U.heap.size = H.size ∧ va_P g.1 vwCl (wl g h) U.heap ∧ va_K g.1 vwCl (tysOf g) U ∧ va_D (fun _ => True) (wl g h) ∧ (NW U ∧ SX g U) ∧ RR h) (av.map (cv g)).toArray U :=
  ⟨rfl, by rw [hU], by rw [hU]; exact X.1, va_K.moved hW.alike hK, X.2.1.weaken (fun _ _ _ _ => trivial), ⟨NW_warm hW hN.1, by rw [hU]; exact va_X.moved hW.alike (va_X.kept hN.2.1 (X.2.2.1.2.1 _ hN.2.2.1 (SX_new hN.2))), by rw [hU]; exact Nat.lt_of_lt_of_le hN.2.2.1 X.2.2.1.1, hN.2.2.2⟩, X.2.2.2⟩
/-- behind a call -/
theorem z_back {M : MD} {g : GG} {pc : Nat} {lv st st0 : List AV} {h : HH} {Q Q' : Option AV → HH → Prop} {p : Program} {l : Launch} {e : Env} {s : State} {m : MethodId} {args a : Array Value} {below : List Frame} {meth : Method} {c : Code} {H : Heap} {locs : List Loc} {ls : Array Slot}
    (F : Fx M g p s m args meth c) (X : Hx g h s H locs) (L : lrep g (mn M) lv ls)
    (hr : va_Run p l e (rmM M) s m args below meth c H locs 0 0 0 0 (F0 m pc ls (st0.map (cv g))) (st.map (cv g)) (QQ g Q' a) (AA g H.size))
    (k : ∀ (r : Option AV) (h' : HH), Q' r h' → Z M g (pc + 3) lv (r.toList ++ st) h' Q) :
    W p l e (rmM M) s m args below meth c H locs 0 0 (MQ below (QQ g Q) args s 0 0 (AA g s.heap.size)) (F0 m pc ls (st0.map (cv g))) := by
  intro T hT Y
  obtain ⟨v, st₀, t, T', L', h0, Y', hL, e1, e2, ⟨⟨r, h', hv, hq, hP, hK, hRR⟩, hz, hk⟩, hst⟩ := hr T hT Y
  cases hv
  have hsz : s.heap.size ≤ H.size := X.2.2.1.1
  have hb := k r h' hq p l e s m args below meth c F T'.heap (locs ++ L') ls ⟨by rw [e1]; exact hP, AA_h X.2.1, ?_, hRR⟩ L T' rfl Y'
  · obtain ⟨t2, a1, b1⟩ := hb
    refine ⟨t2, hst t2 ?_, b1⟩
    have e3 : (r.toList ++ st).map (cv g) = (r.map (cv g)).toList ++ st.map (cv g) := by
      rw [List.map_append]
      cases r <;> rfl
    rw [e3] at a1
    exact a1
  · rw [h0] at hz hk
    refine ⟨Nat.le_trans hsz (by rw [e1]; exact hz), fun q h1 h2 => ?_, fun q hq => ?_⟩
    · rw [e1, hk q (Nat.lt_of_lt_of_le h1 hsz) (fun z => h2 (AA_mono hsz q z))]
      exact X.2.2.1.2.1 q h1 h2
    · rcases List.mem_append.mp hq with h | h
      · exact X.2.2.1.2.2 q h
      · exact AA_mono hsz _ (hL q h)
theorem ws_pay {M : MD} {n : Nat} (hT : TgB M n) {s : State} {args : Array Value} (hts : ∀ w ∈ lw_ok, w.before args s = true) : ∀ w ∈ wsM M, ∀ (a' : Array Value) (U : State), s.WarmedH U.vm → w.before a' U = true := by
  intro w hw a' U hW
  have : w ∈ lw_ok := by
    rcases List.mem_cons.mp hw with h | h
    · rw [h]; exact hT.2.2.2.2
    · exact h
  exact word_at hW (good_of_word (lw_ok_good w this)) (hts w this)
theorem cB_of {M M' : MD} {n idx : Nat} (hT : TgB M' n) {s : State} {args : Array Value} (hts : ∀ w ∈ lw_ok, w.before args s = true) (hl : Cond.methodLink (mo M) idx (my M') ∈ lw_ok) (hR : mf M' + 1 ≤ mf M ∧ 8 + (mn M' + 11) + ml M' ≤ ml M) :
    CallB (rmM M) s args (mo M) idx (my M') (mb M') (mn M') (mr M') (wsM M') (rmM M') 0 0 n := by
  refine ⟨rfl, rfl, hR.1, hR.2, ws_pay hT hts, List.mem_cons_self, hts _ hT.2.2.2.2, ?_, ⟨hT.2.2.1.1, hT.2.2.1.2.1⟩, fun sig h => ?_, hts _ hl⟩
  · rw [hT.2.1]; exact hts _ hT.2.2.2.1
  · have h2 := hT.2.2.1.2.2
    rw [h] at h2
    exact (Option.some.inj h2).symm
/-- is the cell b an object of the class of that name -/
def rcv (b : Nat) (C : String) : Prop := b < 50 ∧ (shp b).1 = 0 ∧ ∃ (T : u_T) (N : Nat), vwCl[(shp b).2.1]? = some (C, T, N)
theorem rcv_cell {b : Nat} {C : String} (hr : rcv b C) {g : GG} {h : HH} {s : State} {H : Heap} {locs : List Loc} (hK : va_K g.1 vwCl (tysOf g) s) (X : Hx g h s H locs) : ∃ cell : Cell, H[g.2.2 b]? = some cell ∧ cell.vm.isStatics = false ∧ s.vm.findClass C = some cell.cls := by
  obtain ⟨h1, h2, T, N, h3⟩ := hr
  have he := wl_get (g := g) (h := h) h1
  unfold ct cof at he
  rw [h2] at he
  exact va_recv hK X.1 h3 he
set_option maxHeartbeats 4000000 in
theorem z_callV {M M' : MD} {g : GG} {pc idx b : Nat} {lv st : List AV} {h : HH} {Q Q' : Option AV → HH → Prop} {n : Nat} (As : List AV) (hT : TgV M' n) (hl : Cond.methodLink (mo M) idx (my M') ∈ lw_ok) (d : decode (mb M) pc = .ok (.invokevirtual idx, 3)) (hb : rcv b (mo M')) (hR : mf M' + 1 ≤ mf M ∧ 8 + (mn M' + 11) + ml M' ≤ ml M) (hn : As.length = n) (hst : (st.map avc).sum ≤ 8) {st0 : List AV} (hs0 : st0 = As.reverse ++ vr b :: st)
    (C : Cn M' g (vr b :: As) h Q') (k : ∀ (r : Option AV) (h' : HH), Q' r h' → Z M g (pc + 3) lv (r.toList ++ st) h' Q) : Z M g pc lv st0 h Q := by
  intro p l e s m args below meth c F H locs ls X L
  subst hs0
  obtain ⟨hx, hbb, hr, hml, hown, hts, hlocks, hK, hN⟩ := id F
  refine z_back (a := ((vr b :: As).map (cv g)).toArray) F X L ?_ k
  refine va_runV (Ts := lw_ok) (own := mo M) (C := mo M') (index := idx) (y := my M') (bytes := mb M') (maxL := mn M') (ret := mr M') (ws := wsM M') (rm := rmM M') (mc := 0) (ms := 0) (n := n) (nL := mn M) (cc := mb M) (b := g.2.2 b) (As := As.map (cv g)) ⟨hx, hbb, hml, hown, hts⟩ (C l H.size) ⟨cB_of hT.1 hts hl hR, hts _ hT.2.1, hts _ hT.2.2⟩ ⟨pc_blind, rcv_cell hb hK X, fun U hU hW => pc_start (av := vr b :: As) hK hN X hU hW⟩ rfl (by rw [List.length_map]; exact hn) L.2.1 ?_ (lv_room (by rw [avc_sum]; exact hst)) d ⟨Nat.zero_le _, Nat.zero_le _⟩
  show (As.reverse ++ vr b :: st).map (cv g) = _
  rw [List.map_append, List.map_reverse, List.map_cons]
  rfl
set_option maxHeartbeats 4000000 in
theorem z_callS {M M' : MD} {g : GG} {pc idx : Nat} {lv st : List AV} {h : HH} {Q Q' : Option AV → HH → Prop} {n : Nat} (As : List AV) (hT : TgS M' n) (hl : Cond.methodLink (mo M) idx (my M') ∈ lw_ok) (d : decode (mb M) pc = .ok (.invokestatic idx, 3)) (hR : mf M' + 1 ≤ mf M ∧ 8 + (mn M' + 11) + ml M' ≤ ml M) (hn : As.length = n) (hst : (st.map avc).sum ≤ 8) {st0 : List AV} (hs0 : st0 = As.reverse ++ st)
    (C : Cn M' g As h Q') (k : ∀ (r : Option AV) (h' : HH), Q' r h' → Z M g (pc + 3) lv (r.toList ++ st) h' Q) : Z M g pc lv st0 h Q := by
  intro p l e s m args below meth c F H locs ls X L
  subst hs0
  obtain ⟨hx, hbb, hr, hml, hown, hts, hlocks, hK, hN⟩ := id F
  refine z_back (a := (As.map (cv g)).toArray) F X L ?_ k
  refine va_runS (Ts := lw_ok) (own := mo M) (index := idx) (y := my M') (bytes := mb M') (maxL := mn M') (ret := mr M') (ws := wsM M') (rm := rmM M') (mc := 0) (ms := 0) (n := n) (nL := mn M) (cc := mb M) (As := As.map (cv g)) ⟨hx, hbb, hml, hown, hts⟩ (C l H.size) ⟨cB_of hT.1 hts hl hR, hts _ hT.2⟩ ⟨pc_blind, fun U hU hW => pc_start (av := As) hK hN X hU hW⟩ rfl (by rw [List.length_map]; exact hn) L.2.1 ?_ (lv_room (by rw [avc_sum]; exact hst)) d ⟨Nat.zero_le _, Nat.zero_le _⟩
  show (As.reverse ++ st).map (cv g) = _
  rw [List.map_append, List.map_reverse]
set_option maxHeartbeats 4000000 in
/-- a private static method of a nest mate -/
theorem z_callN {M M' : MD} {g : GG} {pc idx : Nat} {lv st : List AV} {h : HH} {Q Q' : Option AV → HH → Prop} {n : Nat} (As : List AV) (hT : TgS M' n) (hl : (mo M, idx, my M', "ChainParts") ∈ lw_nst) (d : decode (mb M) pc = .ok (.invokestatic idx, 3)) (hR : mf M' + 1 ≤ mf M ∧ 8 + (mn M' + 11) + ml M' ≤ ml M) (hn : As.length = n) (hst : (st.map avc).sum ≤ 8) {st0 : List AV} (hs0 : st0 = As.reverse ++ st)
    (C : Cn M' g As h Q') (k : ∀ (r : Option AV) (h' : HH), Q' r h' → Z M g (pc + 3) lv (r.toList ++ st) h' Q) : Z M g pc lv st0 h Q := by
  intro p l e s m args below meth c F H locs ls X L
  subst hs0
  obtain ⟨hx, hbb, hr, hml, hown, hts, hlocks, hK, hN⟩ := id F
  refine z_back (a := (As.map (cv g)).toArray) F X L ?_ k
  refine va_runSN (Ts := lw_ok) (own := mo M) (host := "ChainParts") (index := idx) (y := my M') (bytes := mb M') (maxL := mn M') (ret := mr M') (ws := wsM M') (rm := rmM M') (mc := 0) (ms := 0) (n := n) (nL := mn M) (cc := mb M) (As := As.map (cv g)) ⟨hx, hbb, hml, hown, hts⟩ (C l H.size) ⟨⟨⟨rfl, rfl, hR.1, hR.2, ws_pay hT.1 hts, List.mem_cons_self⟩, hts _ hT.1.2.2.2.2, ?_, ⟨hT.1.2.2.1.1, hT.1.2.2.1.2.1⟩, fun sig h => ?_, va_Nw.use rfl (hN.1 _ hl)⟩, hts _ hT.2, trivial⟩ ⟨pc_blind, fun U hU hW => pc_start (av := As) hK hN X hU hW⟩ rfl (by rw [List.length_map]; exact hn) L.2.1 ?_ (lv_room (by rw [avc_sum]; exact hst)) d ⟨Nat.zero_le _, Nat.zero_le _⟩
  · rw [hT.1.2.1]; exact hts _ hT.1.2.2.2.1
  · have h2 := hT.1.2.2.1.2.2
    rw [h] at h2
    exact (Option.some.inj h2).symm
  · show (As.reverse ++ st).map (cv g) = _
    rw [List.map_append, List.map_reverse]

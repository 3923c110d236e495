/-! A float constant by ldc_w. -/
theorem wf_ldcwF {p : Program} {l : Launch} {e : Env} {R : Room} {s : State} {m : MethodId} {args : Array Value} {below : List Frame} {meth : Method} {c : Code} {T : State} {locs : List Loc} {cells slots : Nat} (X : Stand p l e R s m args below meth c T locs cells slots) (hexec : p.tables.exec = Jvm.exec) {own : String} {index : Nat} {v : UInt32} (hown : s.vm.findClass own = some m.cls)
    (hconst : (Cond.constantFloat own index v).before args s = true) {g : JFrame} (hg : g.method = m) (hdg : decode c.code g.pc = .ok (.ldc_w index, 3)) :
    ∀ target, Steps p.tables e below (T.setTop { g with pc := g.pc + 3, stack := .float v :: g.stack }) target → Steps p.tables e below (T.setTop g) target := by
  obtain ⟨k, cf, hk, hcf, hcp⟩ := Cond.constantFloat_spec hown hconst
  obtain ⟨k', hk', he⟩ := X.warmed.alike.2.2 _ _ hk
  intro target hrest
  subst hg
  jvm_step X.here [hexec, hdg, ldc_w.wp_float (s := T) (f := g) X.here.top hk' (by rw [he]; exact hcf) hcp]
  exact hrest
theorem z_ldcwf {M : MD} {g : GG} {pc : Nat} {lv st : List AV} {h : HH} {Q : Option AV → HH → Prop} {idx : Nat} {v : UInt32} (d : decode (mb M) pc = .ok (.ldc_w idx, 3)) (hc : Cond.constantFloat (mo M) idx v ∈ lw_ok) (k : Z M g (pc + 3) lv (vf v :: st) h Q) : Z M g pc lv (st) h Q := by
  intro p l e s m args below meth c F H locs ls X L T hT Y
  obtain ⟨t, a, b⟩ := k p l e s m args below meth c F H locs ls X L T hT Y
  exact ⟨t, wf_ldcwF Y F.1 F.2.2.2.2.1 (F.2.2.2.2.2.1 _ hc) (g := F0 m pc ls (st.map (cv g))) rfl (by rw [F.2.1]; exact d) t a, b⟩
